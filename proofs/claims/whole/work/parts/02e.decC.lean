theorem dX8_thrown_0 : decode cX8_thrown 0 = .ok (.aload_n 0, 1) := by decide +kernel
theorem dX8_thrown_1 : decode cX8_thrown 1 = .ok (.getfield 1, 3) := by decide +kernel
theorem dX8_thrown_4 : decode cX8_thrown 4 = .ok (.ireturn, 1) := by decide +kernel
theorem dX8_in_0 : decode cX8_in 0 = .ok (.iload_n 0, 1) := by decide +kernel
theorem dX8_in_1 : decode cX8_in 1 = .ok (.iload_n 1, 1) := by decide +kernel
theorem dX8_in_2 : decode cX8_in 2 = .ok (.if_icmp .lt 12, 3) := by decide +kernel
theorem dX8_in_5 : decode cX8_in 5 = .ok (.iload_n 0, 1) := by decide +kernel
theorem dX8_in_6 : decode cX8_in 6 = .ok (.iload_n 2, 1) := by decide +kernel
theorem dX8_in_7 : decode cX8_in 7 = .ok (.if_icmp .gt 7, 3) := by decide +kernel
theorem dX8_in_10 : decode cX8_in 10 = .ok (.iconst 1, 1) := by decide +kernel
theorem dX8_in_11 : decode cX8_in 11 = .ok (.goto 4, 3) := by decide +kernel
theorem dX8_in_14 : decode cX8_in 14 = .ok (.iconst 0, 1) := by decide +kernel
theorem dX8_in_15 : decode cX8_in 15 = .ok (.ireturn, 1) := by decide +kernel
theorem dX8_fails_0 : decode cX8_fails 0 = .ok (.iload_n 1, 1) := by decide +kernel
theorem dX8_fails_1 : decode cX8_fails 1 = .ok (.ifCond .ne 15, 3) := by decide +kernel
theorem dX8_fails_4 : decode cX8_fails 4 = .ok (.aload_n 0, 1) := by decide +kernel
theorem dX8_fails_5 : decode cX8_fails 5 = .ok (.getfield 1, 3) := by decide +kernel
theorem dX8_fails_8 : decode cX8_fails 8 = .ok (.ifCond .ne 8, 3) := by decide +kernel
theorem dX8_fails_11 : decode cX8_fails 11 = .ok (.aload_n 0, 1) := by decide +kernel
theorem dX8_fails_12 : decode cX8_fails 12 = .ok (.iload_n 2, 1) := by decide +kernel
theorem dX8_fails_13 : decode cX8_fails 13 = .ok (.putfield 1, 3) := by decide +kernel
theorem dX8_fails_16 : decode cX8_fails 16 = .ok (.aload_n 0, 1) := by decide +kernel
theorem dX8_fails_17 : decode cX8_fails 17 = .ok (.getfield 1, 3) := by decide +kernel
theorem dX8_fails_20 : decode cX8_fails 20 = .ok (.ifCond .eq 7, 3) := by decide +kernel
theorem dX8_fails_23 : decode cX8_fails 23 = .ok (.iconst 1, 1) := by decide +kernel
theorem dX8_fails_24 : decode cX8_fails 24 = .ok (.goto 4, 3) := by decide +kernel
theorem dX8_fails_27 : decode cX8_fails 27 = .ok (.iconst 0, 1) := by decide +kernel
theorem dX8_fails_28 : decode cX8_fails 28 = .ok (.ireturn, 1) := by decide +kernel
theorem dX8_init_0 : decode cX8_init 0 = .ok (.aload_n 0, 1) := by decide +kernel
theorem dX8_init_1 : decode cX8_init 1 = .ok (.invokespecial 7, 3) := by decide +kernel
theorem dX8_init_4 : decode cX8_init 4 = .ok (.aload_n 0, 1) := by decide +kernel
theorem dX8_init_5 : decode cX8_init 5 = .ok (.bipush 60, 2) := by decide +kernel
theorem dX8_init_7 : decode cX8_init 7 = .ok (.newarray .int, 2) := by decide +kernel
theorem dX8_init_9 : decode cX8_init 9 = .ok (.putfield 13, 3) := by decide +kernel
theorem dX8_init_12 : decode cX8_init 12 = .ok (.aload_n 0, 1) := by decide +kernel
theorem dX8_init_13 : decode cX8_init 13 = .ok (.bipush 60, 2) := by decide +kernel
theorem dX8_init_15 : decode cX8_init 15 = .ok (.newarray .int, 2) := by decide +kernel
theorem dX8_init_17 : decode cX8_init 17 = .ok (.putfield 17, 3) := by decide +kernel
theorem dX8_init_20 : decode cX8_init 20 = .ok (.aload_n 0, 1) := by decide +kernel
theorem dX8_init_21 : decode cX8_init 21 = .ok (.bipush 60, 2) := by decide +kernel
theorem dX8_init_23 : decode cX8_init 23 = .ok (.newarray .int, 2) := by decide +kernel
theorem dX8_init_25 : decode cX8_init 25 = .ok (.putfield 20, 3) := by decide +kernel
theorem dX8_init_28 : decode cX8_init 28 = .ok (.aload_n 0, 1) := by decide +kernel
theorem dX8_init_29 : decode cX8_init 29 = .ok (.sipush 3700, 3) := by decide +kernel
theorem dX8_init_32 : decode cX8_init 32 = .ok (.newarray .int, 2) := by decide +kernel
theorem dX8_init_34 : decode cX8_init 34 = .ok (.putfield 23, 3) := by decide +kernel
theorem dX8_init_37 : decode cX8_init 37 = .ok (.aload_n 0, 1) := by decide +kernel
theorem dX8_init_38 : decode cX8_init 38 = .ok (.sipush 3700, 3) := by decide +kernel
theorem dX8_init_41 : decode cX8_init 41 = .ok (.newarray .int, 2) := by decide +kernel
theorem dX8_init_43 : decode cX8_init 43 = .ok (.putfield 26, 3) := by decide +kernel
theorem dX8_init_46 : decode cX8_init 46 = .ok (.aload_n 0, 1) := by decide +kernel
theorem dX8_init_47 : decode cX8_init 47 = .ok (.sipush 600, 3) := by decide +kernel
theorem dX8_init_50 : decode cX8_init 50 = .ok (.newarray .int, 2) := by decide +kernel
theorem dX8_init_52 : decode cX8_init 52 = .ok (.putfield 29, 3) := by decide +kernel
theorem dX8_init_55 : decode cX8_init 55 = .ok (.aload_n 0, 1) := by decide +kernel
theorem dX8_init_56 : decode cX8_init 56 = .ok (.sipush 600, 3) := by decide +kernel
theorem dX8_init_59 : decode cX8_init 59 = .ok (.newarray .int, 2) := by decide +kernel
theorem dX8_init_61 : decode cX8_init 61 = .ok (.putfield 32, 3) := by decide +kernel
theorem dX8_init_64 : decode cX8_init 64 = .ok (.aload_n 0, 1) := by decide +kernel
theorem dX8_init_65 : decode cX8_init 65 = .ok (.iconst 3, 1) := by decide +kernel
theorem dX8_init_66 : decode cX8_init 66 = .ok (.newarray .int, 2) := by decide +kernel
theorem dX8_init_68 : decode cX8_init 68 = .ok (.putfield 35, 3) := by decide +kernel
theorem dX8_init_71 : decode cX8_init 71 = .ok (.aload_n 0, 1) := by decide +kernel
theorem dX8_init_72 : decode cX8_init 72 = .ok (.bipush 60, 2) := by decide +kernel
theorem dX8_init_74 : decode cX8_init 74 = .ok (.newarray .boolean, 2) := by decide +kernel
theorem dX8_init_76 : decode cX8_init 76 = .ok (.putfield 38, 3) := by decide +kernel
theorem dX8_init_79 : decode cX8_init 79 = .ok (.aload_n 0, 1) := by decide +kernel
theorem dX8_init_80 : decode cX8_init 80 = .ok (.bipush 64, 2) := by decide +kernel
theorem dX8_init_82 : decode cX8_init 82 = .ok (.newarray .int, 2) := by decide +kernel
theorem dX8_init_84 : decode cX8_init 84 = .ok (.putfield 42, 3) := by decide +kernel
theorem dX8_init_87 : decode cX8_init 87 = .ok (.aload_n 0, 1) := by decide +kernel
theorem dX8_init_88 : decode cX8_init 88 = .ok (.bipush 64, 2) := by decide +kernel
theorem dX8_init_90 : decode cX8_init 90 = .ok (.newarray .int, 2) := by decide +kernel
theorem dX8_init_92 : decode cX8_init 92 = .ok (.putfield 45, 3) := by decide +kernel
theorem dX8_init_95 : decode cX8_init 95 = .ok (.aload_n 0, 1) := by decide +kernel
theorem dX8_init_96 : decode cX8_init 96 = .ok (.iconst 4, 1) := by decide +kernel
theorem dX8_init_97 : decode cX8_init 97 = .ok (.newarray .int, 2) := by decide +kernel
theorem dX8_init_99 : decode cX8_init 99 = .ok (.putfield 48, 3) := by decide +kernel
theorem dX8_init_102 : decode cX8_init 102 = .ok (.aload_n 0, 1) := by decide +kernel
theorem dX8_init_103 : decode cX8_init 103 = .ok (.bipush 16, 2) := by decide +kernel
theorem dX8_init_105 : decode cX8_init 105 = .ok (.newarray .int, 2) := by decide +kernel
theorem dX8_init_107 : decode cX8_init 107 = .ok (.putfield 51, 3) := by decide +kernel
theorem dX8_init_110 : decode cX8_init 110 = .ok (.aload_n 0, 1) := by decide +kernel
theorem dX8_init_111 : decode cX8_init 111 = .ok (.bipush 16, 2) := by decide +kernel
theorem dX8_init_113 : decode cX8_init 113 = .ok (.newarray .int, 2) := by decide +kernel
theorem dX8_init_115 : decode cX8_init 115 = .ok (.putfield 54, 3) := by decide +kernel
theorem dX8_init_118 : decode cX8_init 118 = .ok (.aload_n 0, 1) := by decide +kernel
theorem dX8_init_119 : decode cX8_init 119 = .ok (.bipush 20, 2) := by decide +kernel
theorem dX8_init_121 : decode cX8_init 121 = .ok (.newarray .int, 2) := by decide +kernel
theorem dX8_init_123 : decode cX8_init 123 = .ok (.putfield 57, 3) := by decide +kernel
theorem dX8_init_126 : decode cX8_init 126 = .ok (.aload_n 0, 1) := by decide +kernel
theorem dX8_init_127 : decode cX8_init 127 = .ok (.bipush 20, 2) := by decide +kernel
theorem dX8_init_129 : decode cX8_init 129 = .ok (.newarray .int, 2) := by decide +kernel
theorem dX8_init_131 : decode cX8_init 131 = .ok (.putfield 60, 3) := by decide +kernel
theorem dX8_init_134 : decode cX8_init 134 = .ok (.aload_n 0, 1) := by decide +kernel
theorem dX8_init_135 : decode cX8_init 135 = .ok (.bipush 20, 2) := by decide +kernel
theorem dX8_init_137 : decode cX8_init 137 = .ok (.newarray .int, 2) := by decide +kernel
theorem dX8_init_139 : decode cX8_init 139 = .ok (.putfield 63, 3) := by decide +kernel
theorem dX8_init_142 : decode cX8_init 142 = .ok (.aload_n 0, 1) := by decide +kernel
theorem dX8_init_143 : decode cX8_init 143 = .ok (.bipush 20, 2) := by decide +kernel
theorem dX8_init_145 : decode cX8_init 145 = .ok (.newarray .int, 2) := by decide +kernel
theorem dX8_init_147 : decode cX8_init 147 = .ok (.putfield 66, 3) := by decide +kernel
theorem dX8_init_150 : decode cX8_init 150 = .ok (.aload_n 0, 1) := by decide +kernel
theorem dX8_init_151 : decode cX8_init 151 = .ok (.bipush 60, 2) := by decide +kernel
theorem dX8_init_153 : decode cX8_init 153 = .ok (.newarray .int, 2) := by decide +kernel
theorem dX8_init_155 : decode cX8_init 155 = .ok (.putfield 69, 3) := by decide +kernel
theorem dX8_init_158 : decode cX8_init 158 = .ok (.aload_n 0, 1) := by decide +kernel
theorem dX8_init_159 : decode cX8_init 159 = .ok (.bipush 60, 2) := by decide +kernel
theorem dX8_init_161 : decode cX8_init 161 = .ok (.newarray .int, 2) := by decide +kernel
theorem dX8_init_163 : decode cX8_init 163 = .ok (.putfield 72, 3) := by decide +kernel
theorem dX8_init_166 : decode cX8_init 166 = .ok (.aload_n 0, 1) := by decide +kernel
theorem dX8_init_167 : decode cX8_init 167 = .ok (.bipush 60, 2) := by decide +kernel
theorem dX8_init_169 : decode cX8_init 169 = .ok (.newarray .int, 2) := by decide +kernel
theorem dX8_init_171 : decode cX8_init 171 = .ok (.putfield 75, 3) := by decide +kernel
theorem dX8_init_174 : decode cX8_init 174 = .ok (.aload_n 0, 1) := by decide +kernel
theorem dX8_init_175 : decode cX8_init 175 = .ok (.bipush 60, 2) := by decide +kernel
theorem dX8_init_177 : decode cX8_init 177 = .ok (.newarray .int, 2) := by decide +kernel
theorem dX8_init_179 : decode cX8_init 179 = .ok (.putfield 78, 3) := by decide +kernel
theorem dX8_init_182 : decode cX8_init 182 = .ok (.aload_n 0, 1) := by decide +kernel
theorem dX8_init_183 : decode cX8_init 183 = .ok (.bipush 64, 2) := by decide +kernel
theorem dX8_init_185 : decode cX8_init 185 = .ok (.newarray .int, 2) := by decide +kernel
theorem dX8_init_187 : decode cX8_init 187 = .ok (.putfield 81, 3) := by decide +kernel
theorem dX8_init_190 : decode cX8_init 190 = .ok (.aload_n 0, 1) := by decide +kernel
theorem dX8_init_191 : decode cX8_init 191 = .ok (.bipush 64, 2) := by decide +kernel
theorem dX8_init_193 : decode cX8_init 193 = .ok (.newarray .int, 2) := by decide +kernel
theorem dX8_init_195 : decode cX8_init 195 = .ok (.putfield 84, 3) := by decide +kernel
theorem dX8_init_198 : decode cX8_init 198 = .ok (.aload_n 0, 1) := by decide +kernel
theorem dX8_init_199 : decode cX8_init 199 = .ok (.iconst 4, 1) := by decide +kernel
theorem dX8_init_200 : decode cX8_init 200 = .ok (.newarray .int, 2) := by decide +kernel
theorem dX8_init_202 : decode cX8_init 202 = .ok (.putfield 87, 3) := by decide +kernel
theorem dX8_init_205 : decode cX8_init 205 = .ok (.aload_n 0, 1) := by decide +kernel
theorem dX8_init_206 : decode cX8_init 206 = .ok (.bipush 80, 2) := by decide +kernel
theorem dX8_init_208 : decode cX8_init 208 = .ok (.newarray .int, 2) := by decide +kernel
theorem dX8_init_210 : decode cX8_init 210 = .ok (.putfield 90, 3) := by decide +kernel
theorem dX8_init_213 : decode cX8_init 213 = .ok (.aload_n 0, 1) := by decide +kernel
theorem dX8_init_214 : decode cX8_init 214 = .ok (.iconst (-1), 1) := by decide +kernel
theorem dX8_init_215 : decode cX8_init 215 = .ok (.putfield 93, 3) := by decide +kernel
theorem dX8_init_218 : decode cX8_init 218 = .ok (.return_, 1) := by decide +kernel
theorem dX8_isPlace_0 : decode cX8_isPlace 0 = .ok (.iload_n 0, 1) := by decide +kernel
theorem dX8_isPlace_1 : decode cX8_isPlace 1 = .ok (.sipush (-200), 3) := by decide +kernel
theorem dX8_isPlace_4 : decode cX8_isPlace 4 = .ok (.sipush 200, 3) := by decide +kernel
theorem dX8_isPlace_7 : decode cX8_isPlace 7 = .ok (.invokestatic 96, 3) := by decide +kernel
theorem dX8_isPlace_10 : decode cX8_isPlace 10 = .ok (.ifCond .eq 20, 3) := by decide +kernel
theorem dX8_isPlace_13 : decode cX8_isPlace 13 = .ok (.iload_n 1, 1) := by decide +kernel
theorem dX8_isPlace_14 : decode cX8_isPlace 14 = .ok (.sipush (-200), 3) := by decide +kernel
theorem dX8_isPlace_17 : decode cX8_isPlace 17 = .ok (.sipush 200, 3) := by decide +kernel
theorem dX8_isPlace_20 : decode cX8_isPlace 20 = .ok (.invokestatic 96, 3) := by decide +kernel
theorem dX8_isPlace_23 : decode cX8_isPlace 23 = .ok (.ifCond .eq 7, 3) := by decide +kernel
theorem dX8_isPlace_26 : decode cX8_isPlace 26 = .ok (.iconst 1, 1) := by decide +kernel
theorem dX8_isPlace_27 : decode cX8_isPlace 27 = .ok (.goto 4, 3) := by decide +kernel
theorem dX8_isPlace_30 : decode cX8_isPlace 30 = .ok (.iconst 0, 1) := by decide +kernel
theorem dX8_isPlace_31 : decode cX8_isPlace 31 = .ok (.ireturn, 1) := by decide +kernel
theorem dX8_amount_0 : decode cX8_amount 0 = .ok (.iload_n 0, 1) := by decide +kernel
theorem dX8_amount_1 : decode cX8_amount 1 = .ok (.ifCond .ge 9, 3) := by decide +kernel
theorem dX8_amount_4 : decode cX8_amount 4 = .ok (.iconst 0, 1) := by decide +kernel
theorem dX8_amount_5 : decode cX8_amount 5 = .ok (.iload_n 0, 1) := by decide +kernel
theorem dX8_amount_6 : decode cX8_amount 6 = .ok (.isub, 1) := by decide +kernel
theorem dX8_amount_7 : decode cX8_amount 7 = .ok (.goto 4, 3) := by decide +kernel
theorem dX8_amount_10 : decode cX8_amount 10 = .ok (.iload_n 0, 1) := by decide +kernel
theorem dX8_amount_11 : decode cX8_amount 11 = .ok (.ireturn, 1) := by decide +kernel
theorem dX8_common_0 : decode cX8_common 0 = .ok (.iload_n 0, 1) := by decide +kernel
theorem dX8_common_1 : decode cX8_common 1 = .ok (.invokestatic 100, 3) := by decide +kernel
theorem dX8_common_4 : decode cX8_common 4 = .ok (.istore_n 2, 1) := by decide +kernel
theorem dX8_common_5 : decode cX8_common 5 = .ok (.iload_n 1, 1) := by decide +kernel
theorem dX8_common_6 : decode cX8_common 6 = .ok (.invokestatic 100, 3) := by decide +kernel
theorem dX8_common_9 : decode cX8_common 9 = .ok (.istore_n 3, 1) := by decide +kernel
theorem dX8_common_10 : decode cX8_common 10 = .ok (.iload_n 3, 1) := by decide +kernel
theorem dX8_common_11 : decode cX8_common 11 = .ok (.ifCond .le 16, 3) := by decide +kernel
theorem dX8_common_14 : decode cX8_common 14 = .ok (.iload_n 2, 1) := by decide +kernel
theorem dX8_common_15 : decode cX8_common 15 = .ok (.iload_n 3, 1) := by decide +kernel
theorem dX8_common_16 : decode cX8_common 16 = .ok (.irem, 1) := by decide +kernel
theorem dX8_common_17 : decode cX8_common 17 = .ok (.istore 4, 2) := by decide +kernel
theorem dX8_common_19 : decode cX8_common 19 = .ok (.iload_n 3, 1) := by decide +kernel
theorem dX8_common_20 : decode cX8_common 20 = .ok (.istore_n 2, 1) := by decide +kernel
theorem dX8_common_21 : decode cX8_common 21 = .ok (.iload 4, 2) := by decide +kernel
theorem dX8_common_23 : decode cX8_common 23 = .ok (.istore_n 3, 1) := by decide +kernel
theorem dX8_common_24 : decode cX8_common 24 = .ok (.goto (-14), 3) := by decide +kernel
theorem dX8_common_27 : decode cX8_common 27 = .ok (.iload_n 2, 1) := by decide +kernel
theorem dX8_common_28 : decode cX8_common 28 = .ok (.ireturn, 1) := by decide +kernel
theorem dX8_turns_0 : decode cX8_turns 0 = .ok (.lload 4, 2) := by decide +kernel
theorem dX8_turns_2 : decode cX8_turns 2 = .ok (.lload_n 0, 1) := by decide +kernel
theorem dX8_turns_3 : decode cX8_turns 3 = .ok (.lsub, 1) := by decide +kernel
theorem dX8_turns_4 : decode cX8_turns 4 = .ok (.lload 10, 2) := by decide +kernel
theorem dX8_turns_6 : decode cX8_turns 6 = .ok (.lload_n 2, 1) := by decide +kernel
theorem dX8_turns_7 : decode cX8_turns 7 = .ok (.lsub, 1) := by decide +kernel
theorem dX8_turns_8 : decode cX8_turns 8 = .ok (.lmul, 1) := by decide +kernel
theorem dX8_turns_9 : decode cX8_turns 9 = .ok (.lload 6, 2) := by decide +kernel
theorem dX8_turns_11 : decode cX8_turns 11 = .ok (.lload_n 2, 1) := by decide +kernel
theorem dX8_turns_12 : decode cX8_turns 12 = .ok (.lsub, 1) := by decide +kernel
theorem dX8_turns_13 : decode cX8_turns 13 = .ok (.lload 8, 2) := by decide +kernel
theorem dX8_turns_15 : decode cX8_turns 15 = .ok (.lload_n 0, 1) := by decide +kernel
theorem dX8_turns_16 : decode cX8_turns 16 = .ok (.lsub, 1) := by decide +kernel
theorem dX8_turns_17 : decode cX8_turns 17 = .ok (.lmul, 1) := by decide +kernel
theorem dX8_turns_18 : decode cX8_turns 18 = .ok (.lsub, 1) := by decide +kernel
theorem dX8_turns_19 : decode cX8_turns 19 = .ok (.lstore 12, 2) := by decide +kernel
theorem dX8_turns_21 : decode cX8_turns 21 = .ok (.lload 12, 2) := by decide +kernel
theorem dX8_turns_23 : decode cX8_turns 23 = .ok (.lconst 0, 1) := by decide +kernel
theorem dX8_turns_24 : decode cX8_turns 24 = .ok (.lcmp, 1) := by decide +kernel
theorem dX8_turns_25 : decode cX8_turns 25 = .ok (.ifCond .le 7, 3) := by decide +kernel
theorem dX8_turns_28 : decode cX8_turns 28 = .ok (.iconst 1, 1) := by decide +kernel
theorem dX8_turns_29 : decode cX8_turns 29 = .ok (.goto 15, 3) := by decide +kernel
theorem dX8_turns_32 : decode cX8_turns 32 = .ok (.lload 12, 2) := by decide +kernel
theorem dX8_turns_34 : decode cX8_turns 34 = .ok (.lconst 0, 1) := by decide +kernel
theorem dX8_turns_35 : decode cX8_turns 35 = .ok (.lcmp, 1) := by decide +kernel
theorem dX8_turns_36 : decode cX8_turns 36 = .ok (.ifCond .ge 7, 3) := by decide +kernel
theorem dX8_turns_39 : decode cX8_turns 39 = .ok (.iconst (-1), 1) := by decide +kernel
theorem dX8_turns_40 : decode cX8_turns 40 = .ok (.goto 4, 3) := by decide +kernel
theorem dX8_turns_43 : decode cX8_turns 43 = .ok (.iconst 0, 1) := by decide +kernel
theorem dX8_turns_44 : decode cX8_turns 44 = .ok (.ireturn, 1) := by decide +kernel
theorem dX8_noHeap_0 : decode cX8_noHeap 0 = .ok (.aload_n 0, 1) := by decide +kernel
theorem dX8_noHeap_1 : decode cX8_noHeap 1 = .ok (.iload_n 1, 1) := by decide +kernel
theorem dX8_noHeap_2 : decode cX8_noHeap 2 = .ok (.iconst 0, 1) := by decide +kernel
theorem dX8_noHeap_3 : decode cX8_noHeap 3 = .ok (.iconst 2, 1) := by decide +kernel
theorem dX8_noHeap_4 : decode cX8_noHeap 4 = .ok (.invokestatic 96, 3) := by decide +kernel
theorem dX8_noHeap_7 : decode cX8_noHeap 7 = .ok (.iconst 1, 1) := by decide +kernel
theorem dX8_noHeap_8 : decode cX8_noHeap 8 = .ok (.invokevirtual 104, 3) := by decide +kernel
theorem dX8_noHeap_11 : decode cX8_noHeap 11 = .ok (.ireturn, 1) := by decide +kernel
theorem dX8_noPoint_0 : decode cX8_noPoint 0 = .ok (.aload_n 0, 1) := by decide +kernel
theorem dX8_noPoint_1 : decode cX8_noPoint 1 = .ok (.iload_n 1, 1) := by decide +kernel
theorem dX8_noPoint_2 : decode cX8_noPoint 2 = .ok (.iconst 0, 1) := by decide +kernel
theorem dX8_noPoint_3 : decode cX8_noPoint 3 = .ok (.aload_n 0, 1) := by decide +kernel
theorem dX8_noPoint_4 : decode cX8_noPoint 4 = .ok (.getfield 108, 3) := by decide +kernel
theorem dX8_noPoint_7 : decode cX8_noPoint 7 = .ok (.iconst 1, 1) := by decide +kernel
theorem dX8_noPoint_8 : decode cX8_noPoint 8 = .ok (.isub, 1) := by decide +kernel
theorem dX8_noPoint_9 : decode cX8_noPoint 9 = .ok (.invokestatic 96, 3) := by decide +kernel
theorem dX8_noPoint_12 : decode cX8_noPoint 12 = .ok (.ifCond .eq 17, 3) := by decide +kernel
theorem dX8_noPoint_15 : decode cX8_noPoint 15 = .ok (.aload_n 0, 1) := by decide +kernel
theorem dX8_noPoint_16 : decode cX8_noPoint 16 = .ok (.getfield 13, 3) := by decide +kernel
theorem dX8_noPoint_19 : decode cX8_noPoint 19 = .ok (.iload_n 1, 1) := by decide +kernel
theorem dX8_noPoint_20 : decode cX8_noPoint 20 = .ok (.iaload, 1) := by decide +kernel
theorem dX8_noPoint_21 : decode cX8_noPoint 21 = .ok (.iconst (-1), 1) := by decide +kernel
theorem dX8_noPoint_22 : decode cX8_noPoint 22 = .ok (.if_icmp .eq 7, 3) := by decide +kernel
theorem dX8_noPoint_25 : decode cX8_noPoint 25 = .ok (.iconst 1, 1) := by decide +kernel
theorem dX8_noPoint_26 : decode cX8_noPoint 26 = .ok (.goto 4, 3) := by decide +kernel
theorem dX8_noPoint_29 : decode cX8_noPoint 29 = .ok (.iconst 0, 1) := by decide +kernel
theorem dX8_noPoint_30 : decode cX8_noPoint 30 = .ok (.iconst 1, 1) := by decide +kernel
theorem dX8_noPoint_31 : decode cX8_noPoint 31 = .ok (.invokevirtual 104, 3) := by decide +kernel
theorem dX8_noPoint_34 : decode cX8_noPoint 34 = .ok (.ireturn, 1) := by decide +kernel
theorem dX8_many_0 : decode cX8_many 0 = .ok (.iconst 0, 1) := by decide +kernel
theorem dX8_many_1 : decode cX8_many 1 = .ok (.istore_n 2, 1) := by decide +kernel
theorem dX8_many_2 : decode cX8_many 2 = .ok (.iconst 0, 1) := by decide +kernel
theorem dX8_many_3 : decode cX8_many 3 = .ok (.istore_n 3, 1) := by decide +kernel
theorem dX8_many_4 : decode cX8_many 4 = .ok (.iload_n 3, 1) := by decide +kernel
theorem dX8_many_5 : decode cX8_many 5 = .ok (.aload_n 0, 1) := by decide +kernel
theorem dX8_many_6 : decode cX8_many 6 = .ok (.getfield 108, 3) := by decide +kernel
theorem dX8_many_9 : decode cX8_many 9 = .ok (.if_icmp .ge 27, 3) := by decide +kernel
theorem dX8_many_12 : decode cX8_many 12 = .ok (.iload_n 2, 1) := by decide +kernel
theorem dX8_many_13 : decode cX8_many 13 = .ok (.aload_n 0, 1) := by decide +kernel
theorem dX8_many_14 : decode cX8_many 14 = .ok (.getfield 13, 3) := by decide +kernel
theorem dX8_many_17 : decode cX8_many 17 = .ok (.iload_n 3, 1) := by decide +kernel
theorem dX8_many_18 : decode cX8_many 18 = .ok (.iaload, 1) := by decide +kernel
theorem dX8_many_19 : decode cX8_many 19 = .ok (.iload_n 1, 1) := by decide +kernel
theorem dX8_many_20 : decode cX8_many 20 = .ok (.if_icmp .ne 7, 3) := by decide +kernel
theorem dX8_many_23 : decode cX8_many 23 = .ok (.iconst 1, 1) := by decide +kernel
theorem dX8_many_24 : decode cX8_many 24 = .ok (.goto 4, 3) := by decide +kernel
theorem dX8_many_27 : decode cX8_many 27 = .ok (.iconst 0, 1) := by decide +kernel
theorem dX8_many_28 : decode cX8_many 28 = .ok (.iadd, 1) := by decide +kernel
theorem dX8_many_29 : decode cX8_many 29 = .ok (.istore_n 2, 1) := by decide +kernel
theorem dX8_many_30 : decode cX8_many 30 = .ok (.iinc 3 1, 3) := by decide +kernel
theorem dX8_many_33 : decode cX8_many 33 = .ok (.goto (-29), 3) := by decide +kernel
theorem dX8_many_36 : decode cX8_many 36 = .ok (.iload_n 2, 1) := by decide +kernel
theorem dX8_many_37 : decode cX8_many 37 = .ok (.ireturn, 1) := by decide +kernel
theorem dX8_point_0 : decode cX8_point 0 = .ok (.aload_n 0, 1) := by decide +kernel
theorem dX8_point_1 : decode cX8_point 1 = .ok (.iconst 0, 1) := by decide +kernel
theorem dX8_point_2 : decode cX8_point 2 = .ok (.putfield 1, 3) := by decide +kernel
theorem dX8_point_5 : decode cX8_point 5 = .ok (.aload_n 0, 1) := by decide +kernel
theorem dX8_point_6 : decode cX8_point 6 = .ok (.iload_n 1, 1) := by decide +kernel
theorem dX8_point_7 : decode cX8_point 7 = .ok (.invokevirtual 111, 3) := by decide +kernel
theorem dX8_point_10 : decode cX8_point 10 = .ok (.ifCond .ne 38, 3) := by decide +kernel
theorem dX8_point_13 : decode cX8_point 13 = .ok (.aload_n 0, 1) := by decide +kernel
theorem dX8_point_14 : decode cX8_point 14 = .ok (.iload_n 2, 1) := by decide +kernel
theorem dX8_point_15 : decode cX8_point 15 = .ok (.iload_n 3, 1) := by decide +kernel
theorem dX8_point_16 : decode cX8_point 16 = .ok (.invokestatic 115, 3) := by decide +kernel
theorem dX8_point_19 : decode cX8_point 19 = .ok (.iconst 1, 1) := by decide +kernel
theorem dX8_point_20 : decode cX8_point 20 = .ok (.invokevirtual 104, 3) := by decide +kernel
theorem dX8_point_23 : decode cX8_point 23 = .ok (.ifCond .ne 25, 3) := by decide +kernel
theorem dX8_point_26 : decode cX8_point 26 = .ok (.aload_n 0, 1) := by decide +kernel
theorem dX8_point_27 : decode cX8_point 27 = .ok (.aload_n 0, 1) := by decide +kernel
theorem dX8_point_28 : decode cX8_point 28 = .ok (.getfield 108, 3) := by decide +kernel
theorem dX8_point_31 : decode cX8_point 31 = .ok (.bipush 60, 2) := by decide +kernel
theorem dX8_point_33 : decode cX8_point 33 = .ok (.if_icmp .ge 7, 3) := by decide +kernel
theorem dX8_point_36 : decode cX8_point 36 = .ok (.iconst 1, 1) := by decide +kernel
theorem dX8_point_37 : decode cX8_point 37 = .ok (.goto 4, 3) := by decide +kernel
theorem dX8_point_40 : decode cX8_point 40 = .ok (.iconst 0, 1) := by decide +kernel
theorem dX8_point_41 : decode cX8_point 41 = .ok (.iconst 2, 1) := by decide +kernel
theorem dX8_point_42 : decode cX8_point 42 = .ok (.invokevirtual 104, 3) := by decide +kernel
theorem dX8_point_45 : decode cX8_point 45 = .ok (.ifCond .eq 5, 3) := by decide +kernel
theorem dX8_point_48 : decode cX8_point 48 = .ok (.iconst 0, 1) := by decide +kernel
theorem dX8_point_49 : decode cX8_point 49 = .ok (.ireturn, 1) := by decide +kernel
theorem dX8_point_50 : decode cX8_point 50 = .ok (.aload_n 0, 1) := by decide +kernel
theorem dX8_point_51 : decode cX8_point 51 = .ok (.getfield 13, 3) := by decide +kernel
theorem dX8_point_54 : decode cX8_point 54 = .ok (.aload_n 0, 1) := by decide +kernel
theorem dX8_point_55 : decode cX8_point 55 = .ok (.getfield 108, 3) := by decide +kernel
theorem dX8_point_58 : decode cX8_point 58 = .ok (.iload_n 1, 1) := by decide +kernel
theorem dX8_point_59 : decode cX8_point 59 = .ok (.iastore, 1) := by decide +kernel
theorem dX8_point_60 : decode cX8_point 60 = .ok (.aload_n 0, 1) := by decide +kernel
theorem dX8_point_61 : decode cX8_point 61 = .ok (.getfield 17, 3) := by decide +kernel
theorem dX8_point_64 : decode cX8_point 64 = .ok (.aload_n 0, 1) := by decide +kernel
theorem dX8_point_65 : decode cX8_point 65 = .ok (.getfield 108, 3) := by decide +kernel
theorem dX8_point_68 : decode cX8_point 68 = .ok (.iload_n 2, 1) := by decide +kernel
theorem dX8_point_69 : decode cX8_point 69 = .ok (.iastore, 1) := by decide +kernel
theorem dX8_point_70 : decode cX8_point 70 = .ok (.aload_n 0, 1) := by decide +kernel
theorem dX8_point_71 : decode cX8_point 71 = .ok (.getfield 20, 3) := by decide +kernel
theorem dX8_point_74 : decode cX8_point 74 = .ok (.aload_n 0, 1) := by decide +kernel
theorem dX8_point_75 : decode cX8_point 75 = .ok (.getfield 108, 3) := by decide +kernel
theorem dX8_point_78 : decode cX8_point 78 = .ok (.iload_n 3, 1) := by decide +kernel
theorem dX8_point_79 : decode cX8_point 79 = .ok (.iastore, 1) := by decide +kernel
theorem dX8_point_80 : decode cX8_point 80 = .ok (.aload_n 0, 1) := by decide +kernel
theorem dX8_point_81 : decode cX8_point 81 = .ok (.dup, 1) := by decide +kernel
theorem dX8_point_82 : decode cX8_point 82 = .ok (.getfield 108, 3) := by decide +kernel
theorem dX8_point_85 : decode cX8_point 85 = .ok (.iconst 1, 1) := by decide +kernel
theorem dX8_point_86 : decode cX8_point 86 = .ok (.iadd, 1) := by decide +kernel
theorem dX8_point_87 : decode cX8_point 87 = .ok (.putfield 108, 3) := by decide +kernel
theorem dX8_point_90 : decode cX8_point 90 = .ok (.aload_n 0, 1) := by decide +kernel
theorem dX8_point_91 : decode cX8_point 91 = .ok (.getfield 108, 3) := by decide +kernel
theorem dX8_point_94 : decode cX8_point 94 = .ok (.iconst 1, 1) := by decide +kernel
theorem dX8_point_95 : decode cX8_point 95 = .ok (.isub, 1) := by decide +kernel
theorem dX8_point_96 : decode cX8_point 96 = .ok (.ireturn, 1) := by decide +kernel
theorem dX8_drop_0 : decode cX8_drop 0 = .ok (.aload_n 0, 1) := by decide +kernel
theorem dX8_drop_1 : decode cX8_drop 1 = .ok (.iconst 0, 1) := by decide +kernel
theorem dX8_drop_2 : decode cX8_drop 2 = .ok (.putfield 1, 3) := by decide +kernel
theorem dX8_drop_5 : decode cX8_drop 5 = .ok (.aload_n 0, 1) := by decide +kernel
theorem dX8_drop_6 : decode cX8_drop 6 = .ok (.iload_n 1, 1) := by decide +kernel
theorem dX8_drop_7 : decode cX8_drop 7 = .ok (.invokevirtual 119, 3) := by decide +kernel
theorem dX8_drop_10 : decode cX8_drop 10 = .ok (.ifCond .eq 5, 3) := by decide +kernel
theorem dX8_drop_13 : decode cX8_drop 13 = .ok (.iconst 0, 1) := by decide +kernel
theorem dX8_drop_14 : decode cX8_drop 14 = .ok (.ireturn, 1) := by decide +kernel
theorem dX8_drop_15 : decode cX8_drop 15 = .ok (.aload_n 0, 1) := by decide +kernel
theorem dX8_drop_16 : decode cX8_drop 16 = .ok (.getfield 13, 3) := by decide +kernel
theorem dX8_drop_19 : decode cX8_drop 19 = .ok (.iload_n 1, 1) := by decide +kernel
theorem dX8_drop_20 : decode cX8_drop 20 = .ok (.iaload, 1) := by decide +kernel
theorem dX8_drop_21 : decode cX8_drop 21 = .ok (.istore_n 2, 1) := by decide +kernel
theorem dX8_drop_22 : decode cX8_drop 22 = .ok (.aload_n 0, 1) := by decide +kernel
theorem dX8_drop_23 : decode cX8_drop 23 = .ok (.getfield 13, 3) := by decide +kernel
theorem dX8_drop_26 : decode cX8_drop 26 = .ok (.iload_n 1, 1) := by decide +kernel
theorem dX8_drop_27 : decode cX8_drop 27 = .ok (.iconst (-1), 1) := by decide +kernel
theorem dX8_drop_28 : decode cX8_drop 28 = .ok (.iastore, 1) := by decide +kernel
theorem dX8_drop_29 : decode cX8_drop 29 = .ok (.aload_n 0, 1) := by decide +kernel
theorem dX8_drop_30 : decode cX8_drop 30 = .ok (.iload_n 2, 1) := by decide +kernel
theorem dX8_drop_31 : decode cX8_drop 31 = .ok (.invokevirtual 122, 3) := by decide +kernel
theorem dX8_drop_34 : decode cX8_drop 34 = .ok (.ireturn, 1) := by decide +kernel
theorem dX8_pointOf_0 : decode cX8_pointOf 0 = .ok (.aload_n 0, 1) := by decide +kernel
theorem dX8_pointOf_1 : decode cX8_pointOf 1 = .ok (.iconst 0, 1) := by decide +kernel
theorem dX8_pointOf_2 : decode cX8_pointOf 2 = .ok (.putfield 1, 3) := by decide +kernel
theorem dX8_pointOf_5 : decode cX8_pointOf 5 = .ok (.aload_n 0, 1) := by decide +kernel
theorem dX8_pointOf_6 : decode cX8_pointOf 6 = .ok (.iload_n 1, 1) := by decide +kernel
theorem dX8_pointOf_7 : decode cX8_pointOf 7 = .ok (.invokevirtual 119, 3) := by decide +kernel
theorem dX8_pointOf_10 : decode cX8_pointOf 10 = .ok (.ifCond .ne 17, 3) := by decide +kernel
theorem dX8_pointOf_13 : decode cX8_pointOf 13 = .ok (.aload_n 0, 1) := by decide +kernel
theorem dX8_pointOf_14 : decode cX8_pointOf 14 = .ok (.iload_n 2, 1) := by decide +kernel
theorem dX8_pointOf_15 : decode cX8_pointOf 15 = .ok (.iconst 0, 1) := by decide +kernel
theorem dX8_pointOf_16 : decode cX8_pointOf 16 = .ok (.iconst 2, 1) := by decide +kernel
theorem dX8_pointOf_17 : decode cX8_pointOf 17 = .ok (.invokestatic 96, 3) := by decide +kernel
theorem dX8_pointOf_20 : decode cX8_pointOf 20 = .ok (.iconst 2, 1) := by decide +kernel
theorem dX8_pointOf_21 : decode cX8_pointOf 21 = .ok (.invokevirtual 104, 3) := by decide +kernel
theorem dX8_pointOf_24 : decode cX8_pointOf 24 = .ok (.ifCond .eq 5, 3) := by decide +kernel
theorem dX8_pointOf_27 : decode cX8_pointOf 27 = .ok (.iconst 0, 1) := by decide +kernel
theorem dX8_pointOf_28 : decode cX8_pointOf 28 = .ok (.ireturn, 1) := by decide +kernel
theorem dX8_pointOf_29 : decode cX8_pointOf 29 = .ok (.iload_n 2, 1) := by decide +kernel
theorem dX8_pointOf_30 : decode cX8_pointOf 30 = .ok (.ifCond .ne 12, 3) := by decide +kernel
theorem dX8_pointOf_33 : decode cX8_pointOf 33 = .ok (.aload_n 0, 1) := by decide +kernel
theorem dX8_pointOf_34 : decode cX8_pointOf 34 = .ok (.getfield 13, 3) := by decide +kernel
theorem dX8_pointOf_37 : decode cX8_pointOf 37 = .ok (.iload_n 1, 1) := by decide +kernel
theorem dX8_pointOf_38 : decode cX8_pointOf 38 = .ok (.iaload, 1) := by decide +kernel
theorem dX8_pointOf_39 : decode cX8_pointOf 39 = .ok (.goto 23, 3) := by decide +kernel
theorem dX8_pointOf_42 : decode cX8_pointOf 42 = .ok (.iload_n 2, 1) := by decide +kernel
theorem dX8_pointOf_43 : decode cX8_pointOf 43 = .ok (.iconst 1, 1) := by decide +kernel
theorem dX8_pointOf_44 : decode cX8_pointOf 44 = .ok (.if_icmp .ne 12, 3) := by decide +kernel
theorem dX8_pointOf_47 : decode cX8_pointOf 47 = .ok (.aload_n 0, 1) := by decide +kernel
theorem dX8_pointOf_48 : decode cX8_pointOf 48 = .ok (.getfield 17, 3) := by decide +kernel
theorem dX8_pointOf_51 : decode cX8_pointOf 51 = .ok (.iload_n 1, 1) := by decide +kernel
theorem dX8_pointOf_52 : decode cX8_pointOf 52 = .ok (.iaload, 1) := by decide +kernel
theorem dX8_pointOf_53 : decode cX8_pointOf 53 = .ok (.goto 9, 3) := by decide +kernel
theorem dX8_pointOf_56 : decode cX8_pointOf 56 = .ok (.aload_n 0, 1) := by decide +kernel
theorem dX8_pointOf_57 : decode cX8_pointOf 57 = .ok (.getfield 20, 3) := by decide +kernel
theorem dX8_pointOf_60 : decode cX8_pointOf 60 = .ok (.iload_n 1, 1) := by decide +kernel
theorem dX8_pointOf_61 : decode cX8_pointOf 61 = .ok (.iaload, 1) := by decide +kernel
theorem dX8_pointOf_62 : decode cX8_pointOf 62 = .ok (.ireturn, 1) := by decide +kernel
theorem dX8_count_0 : decode cX8_count 0 = .ok (.aload_n 0, 1) := by decide +kernel
theorem dX8_count_1 : decode cX8_count 1 = .ok (.iconst 0, 1) := by decide +kernel
theorem dX8_count_2 : decode cX8_count 2 = .ok (.putfield 1, 3) := by decide +kernel
theorem dX8_count_5 : decode cX8_count 5 = .ok (.aload_n 0, 1) := by decide +kernel
theorem dX8_count_6 : decode cX8_count 6 = .ok (.iload_n 1, 1) := by decide +kernel
theorem dX8_count_7 : decode cX8_count 7 = .ok (.invokevirtual 111, 3) := by decide +kernel
theorem dX8_count_10 : decode cX8_count 10 = .ok (.ifCond .eq 7, 3) := by decide +kernel
theorem dX8_count_13 : decode cX8_count 13 = .ok (.iconst 0, 1) := by decide +kernel
theorem dX8_count_14 : decode cX8_count 14 = .ok (.goto 8, 3) := by decide +kernel
theorem dX8_count_17 : decode cX8_count 17 = .ok (.aload_n 0, 1) := by decide +kernel
theorem dX8_count_18 : decode cX8_count 18 = .ok (.iload_n 1, 1) := by decide +kernel
theorem dX8_count_19 : decode cX8_count 19 = .ok (.invokevirtual 122, 3) := by decide +kernel
theorem dX8_count_22 : decode cX8_count 22 = .ok (.ireturn, 1) := by decide +kernel
theorem dX8_isAhead_0 : decode cX8_isAhead 0 = .ok (.aload_n 0, 1) := by decide +kernel
theorem dX8_isAhead_1 : decode cX8_isAhead 1 = .ok (.getfield 17, 3) := by decide +kernel
theorem dX8_isAhead_4 : decode cX8_isAhead 4 = .ok (.iload_n 1, 1) := by decide +kernel
theorem dX8_isAhead_5 : decode cX8_isAhead 5 = .ok (.iaload, 1) := by decide +kernel
theorem dX8_isAhead_6 : decode cX8_isAhead 6 = .ok (.aload_n 0, 1) := by decide +kernel
theorem dX8_isAhead_7 : decode cX8_isAhead 7 = .ok (.getfield 17, 3) := by decide +kernel
theorem dX8_isAhead_10 : decode cX8_isAhead 10 = .ok (.iload_n 2, 1) := by decide +kernel
theorem dX8_isAhead_11 : decode cX8_isAhead 11 = .ok (.iaload, 1) := by decide +kernel
theorem dX8_isAhead_12 : decode cX8_isAhead 12 = .ok (.if_icmp .eq 26, 3) := by decide +kernel
theorem dX8_isAhead_15 : decode cX8_isAhead 15 = .ok (.aload_n 0, 1) := by decide +kernel
theorem dX8_isAhead_16 : decode cX8_isAhead 16 = .ok (.getfield 17, 3) := by decide +kernel
theorem dX8_isAhead_19 : decode cX8_isAhead 19 = .ok (.iload_n 1, 1) := by decide +kernel
theorem dX8_isAhead_20 : decode cX8_isAhead 20 = .ok (.iaload, 1) := by decide +kernel
theorem dX8_isAhead_21 : decode cX8_isAhead 21 = .ok (.aload_n 0, 1) := by decide +kernel
theorem dX8_isAhead_22 : decode cX8_isAhead 22 = .ok (.getfield 17, 3) := by decide +kernel
theorem dX8_isAhead_25 : decode cX8_isAhead 25 = .ok (.iload_n 2, 1) := by decide +kernel
theorem dX8_isAhead_26 : decode cX8_isAhead 26 = .ok (.iaload, 1) := by decide +kernel
theorem dX8_isAhead_27 : decode cX8_isAhead 27 = .ok (.if_icmp .ge 7, 3) := by decide +kernel
theorem dX8_isAhead_30 : decode cX8_isAhead 30 = .ok (.iconst 1, 1) := by decide +kernel
theorem dX8_isAhead_31 : decode cX8_isAhead 31 = .ok (.goto 55, 3) := by decide +kernel
theorem dX8_isAhead_34 : decode cX8_isAhead 34 = .ok (.iconst 0, 1) := by decide +kernel
theorem dX8_isAhead_35 : decode cX8_isAhead 35 = .ok (.goto 51, 3) := by decide +kernel
theorem dX8_isAhead_38 : decode cX8_isAhead 38 = .ok (.aload_n 0, 1) := by decide +kernel
theorem dX8_isAhead_39 : decode cX8_isAhead 39 = .ok (.getfield 20, 3) := by decide +kernel
theorem dX8_isAhead_42 : decode cX8_isAhead 42 = .ok (.iload_n 1, 1) := by decide +kernel
theorem dX8_isAhead_43 : decode cX8_isAhead 43 = .ok (.iaload, 1) := by decide +kernel
theorem dX8_isAhead_44 : decode cX8_isAhead 44 = .ok (.aload_n 0, 1) := by decide +kernel
theorem dX8_isAhead_45 : decode cX8_isAhead 45 = .ok (.getfield 20, 3) := by decide +kernel
theorem dX8_isAhead_48 : decode cX8_isAhead 48 = .ok (.iload_n 2, 1) := by decide +kernel
theorem dX8_isAhead_49 : decode cX8_isAhead 49 = .ok (.iaload, 1) := by decide +kernel
theorem dX8_isAhead_50 : decode cX8_isAhead 50 = .ok (.if_icmp .eq 26, 3) := by decide +kernel
theorem dX8_isAhead_53 : decode cX8_isAhead 53 = .ok (.aload_n 0, 1) := by decide +kernel
theorem dX8_isAhead_54 : decode cX8_isAhead 54 = .ok (.getfield 20, 3) := by decide +kernel
theorem dX8_isAhead_57 : decode cX8_isAhead 57 = .ok (.iload_n 1, 1) := by decide +kernel
theorem dX8_isAhead_58 : decode cX8_isAhead 58 = .ok (.iaload, 1) := by decide +kernel
theorem dX8_isAhead_59 : decode cX8_isAhead 59 = .ok (.aload_n 0, 1) := by decide +kernel
theorem dX8_isAhead_60 : decode cX8_isAhead 60 = .ok (.getfield 20, 3) := by decide +kernel
theorem dX8_isAhead_63 : decode cX8_isAhead 63 = .ok (.iload_n 2, 1) := by decide +kernel
theorem dX8_isAhead_64 : decode cX8_isAhead 64 = .ok (.iaload, 1) := by decide +kernel
theorem dX8_isAhead_65 : decode cX8_isAhead 65 = .ok (.if_icmp .ge 7, 3) := by decide +kernel
theorem dX8_isAhead_68 : decode cX8_isAhead 68 = .ok (.iconst 1, 1) := by decide +kernel
theorem dX8_isAhead_69 : decode cX8_isAhead 69 = .ok (.goto 17, 3) := by decide +kernel
theorem dX8_isAhead_72 : decode cX8_isAhead 72 = .ok (.iconst 0, 1) := by decide +kernel
theorem dX8_isAhead_73 : decode cX8_isAhead 73 = .ok (.goto 13, 3) := by decide +kernel
theorem dX8_isAhead_76 : decode cX8_isAhead 76 = .ok (.iload_n 1, 1) := by decide +kernel
theorem dX8_isAhead_77 : decode cX8_isAhead 77 = .ok (.iload_n 2, 1) := by decide +kernel
theorem dX8_isAhead_78 : decode cX8_isAhead 78 = .ok (.if_icmp .ge 7, 3) := by decide +kernel
theorem dX8_isAhead_81 : decode cX8_isAhead 81 = .ok (.iconst 1, 1) := by decide +kernel
theorem dX8_isAhead_82 : decode cX8_isAhead 82 = .ok (.goto 4, 3) := by decide +kernel
theorem dX8_isAhead_85 : decode cX8_isAhead 85 = .ok (.iconst 0, 1) := by decide +kernel
theorem dX8_isAhead_86 : decode cX8_isAhead 86 = .ok (.ireturn, 1) := by decide +kernel
theorem dX8_pointAt_0 : decode cX8_pointAt 0 = .ok (.iconst 0, 1) := by decide +kernel
theorem dX8_pointAt_1 : decode cX8_pointAt 1 = .ok (.istore_n 3, 1) := by decide +kernel
theorem dX8_pointAt_2 : decode cX8_pointAt 2 = .ok (.iload_n 3, 1) := by decide +kernel
theorem dX8_pointAt_3 : decode cX8_pointAt 3 = .ok (.aload_n 0, 1) := by decide +kernel
theorem dX8_pointAt_4 : decode cX8_pointAt 4 = .ok (.getfield 108, 3) := by decide +kernel
theorem dX8_pointAt_7 : decode cX8_pointAt 7 = .ok (.if_icmp .ge 82, 3) := by decide +kernel
theorem dX8_pointAt_10 : decode cX8_pointAt 10 = .ok (.aload_n 0, 1) := by decide +kernel
theorem dX8_pointAt_11 : decode cX8_pointAt 11 = .ok (.getfield 13, 3) := by decide +kernel
theorem dX8_pointAt_14 : decode cX8_pointAt 14 = .ok (.iload_n 3, 1) := by decide +kernel
theorem dX8_pointAt_15 : decode cX8_pointAt 15 = .ok (.iaload, 1) := by decide +kernel
theorem dX8_pointAt_16 : decode cX8_pointAt 16 = .ok (.iload_n 1, 1) := by decide +kernel
theorem dX8_pointAt_17 : decode cX8_pointAt 17 = .ok (.if_icmp .eq 6, 3) := by decide +kernel
theorem dX8_pointAt_20 : decode cX8_pointAt 20 = .ok (.goto 63, 3) := by decide +kernel
theorem dX8_pointAt_23 : decode cX8_pointAt 23 = .ok (.iconst 0, 1) := by decide +kernel
theorem dX8_pointAt_24 : decode cX8_pointAt 24 = .ok (.istore 4, 2) := by decide +kernel
theorem dX8_pointAt_26 : decode cX8_pointAt 26 = .ok (.iconst 0, 1) := by decide +kernel
theorem dX8_pointAt_27 : decode cX8_pointAt 27 = .ok (.istore 5, 2) := by decide +kernel
theorem dX8_pointAt_29 : decode cX8_pointAt 29 = .ok (.iload 5, 2) := by decide +kernel
theorem dX8_pointAt_31 : decode cX8_pointAt 31 = .ok (.aload_n 0, 1) := by decide +kernel
theorem dX8_pointAt_32 : decode cX8_pointAt 32 = .ok (.getfield 108, 3) := by decide +kernel
theorem dX8_pointAt_35 : decode cX8_pointAt 35 = .ok (.if_icmp .ge 40, 3) := by decide +kernel
theorem dX8_pointAt_38 : decode cX8_pointAt 38 = .ok (.iload 4, 2) := by decide +kernel
theorem dX8_pointAt_40 : decode cX8_pointAt 40 = .ok (.aload_n 0, 1) := by decide +kernel
theorem dX8_pointAt_41 : decode cX8_pointAt 41 = .ok (.getfield 13, 3) := by decide +kernel
theorem dX8_pointAt_44 : decode cX8_pointAt 44 = .ok (.iload 5, 2) := by decide +kernel
theorem dX8_pointAt_46 : decode cX8_pointAt 46 = .ok (.iaload, 1) := by decide +kernel
theorem dX8_pointAt_47 : decode cX8_pointAt 47 = .ok (.iload_n 1, 1) := by decide +kernel
theorem dX8_pointAt_48 : decode cX8_pointAt 48 = .ok (.if_icmp .ne 17, 3) := by decide +kernel
theorem dX8_pointAt_51 : decode cX8_pointAt 51 = .ok (.aload_n 0, 1) := by decide +kernel
theorem dX8_pointAt_52 : decode cX8_pointAt 52 = .ok (.iload 5, 2) := by decide +kernel
theorem dX8_pointAt_54 : decode cX8_pointAt 54 = .ok (.iload_n 3, 1) := by decide +kernel
theorem dX8_pointAt_55 : decode cX8_pointAt 55 = .ok (.invokevirtual 125, 3) := by decide +kernel
theorem dX8_pointAt_58 : decode cX8_pointAt 58 = .ok (.ifCond .eq 7, 3) := by decide +kernel
theorem dX8_pointAt_61 : decode cX8_pointAt 61 = .ok (.iconst 1, 1) := by decide +kernel
theorem dX8_pointAt_62 : decode cX8_pointAt 62 = .ok (.goto 4, 3) := by decide +kernel
theorem dX8_pointAt_65 : decode cX8_pointAt 65 = .ok (.iconst 0, 1) := by decide +kernel
theorem dX8_pointAt_66 : decode cX8_pointAt 66 = .ok (.iadd, 1) := by decide +kernel
theorem dX8_pointAt_67 : decode cX8_pointAt 67 = .ok (.istore 4, 2) := by decide +kernel
theorem dX8_pointAt_69 : decode cX8_pointAt 69 = .ok (.iinc 5 1, 3) := by decide +kernel
theorem dX8_pointAt_72 : decode cX8_pointAt 72 = .ok (.goto (-43), 3) := by decide +kernel
theorem dX8_pointAt_75 : decode cX8_pointAt 75 = .ok (.iload 4, 2) := by decide +kernel
theorem dX8_pointAt_77 : decode cX8_pointAt 77 = .ok (.iload_n 2, 1) := by decide +kernel
theorem dX8_pointAt_78 : decode cX8_pointAt 78 = .ok (.if_icmp .ne 5, 3) := by decide +kernel
theorem dX8_pointAt_81 : decode cX8_pointAt 81 = .ok (.iload_n 3, 1) := by decide +kernel
theorem dX8_pointAt_82 : decode cX8_pointAt 82 = .ok (.ireturn, 1) := by decide +kernel
theorem dX8_pointAt_83 : decode cX8_pointAt 83 = .ok (.iinc 3 1, 3) := by decide +kernel
theorem dX8_pointAt_86 : decode cX8_pointAt 86 = .ok (.goto (-84), 3) := by decide +kernel
theorem dX8_pointAt_89 : decode cX8_pointAt 89 = .ok (.iconst (-1), 1) := by decide +kernel
theorem dX8_pointAt_90 : decode cX8_pointAt 90 = .ok (.ireturn, 1) := by decide +kernel
theorem dX8_sorted_0 : decode cX8_sorted 0 = .ok (.aload_n 0, 1) := by decide +kernel
theorem dX8_sorted_1 : decode cX8_sorted 1 = .ok (.iconst 0, 1) := by decide +kernel
theorem dX8_sorted_2 : decode cX8_sorted 2 = .ok (.putfield 1, 3) := by decide +kernel
theorem dX8_sorted_5 : decode cX8_sorted 5 = .ok (.aload_n 0, 1) := by decide +kernel
theorem dX8_sorted_6 : decode cX8_sorted 6 = .ok (.iload_n 1, 1) := by decide +kernel
theorem dX8_sorted_7 : decode cX8_sorted 7 = .ok (.invokevirtual 111, 3) := by decide +kernel
theorem dX8_sorted_10 : decode cX8_sorted 10 = .ok (.ifCond .ne 23, 3) := by decide +kernel
theorem dX8_sorted_13 : decode cX8_sorted 13 = .ok (.aload_n 0, 1) := by decide +kernel
theorem dX8_sorted_14 : decode cX8_sorted 14 = .ok (.iload_n 2, 1) := by decide +kernel
theorem dX8_sorted_15 : decode cX8_sorted 15 = .ok (.iconst 0, 1) := by decide +kernel
theorem dX8_sorted_16 : decode cX8_sorted 16 = .ok (.aload_n 0, 1) := by decide +kernel
theorem dX8_sorted_17 : decode cX8_sorted 17 = .ok (.iload_n 1, 1) := by decide +kernel
theorem dX8_sorted_18 : decode cX8_sorted 18 = .ok (.invokevirtual 122, 3) := by decide +kernel
theorem dX8_sorted_21 : decode cX8_sorted 21 = .ok (.iconst 1, 1) := by decide +kernel
theorem dX8_sorted_22 : decode cX8_sorted 22 = .ok (.isub, 1) := by decide +kernel
theorem dX8_sorted_23 : decode cX8_sorted 23 = .ok (.invokestatic 96, 3) := by decide +kernel
theorem dX8_sorted_26 : decode cX8_sorted 26 = .ok (.iconst 2, 1) := by decide +kernel
theorem dX8_sorted_27 : decode cX8_sorted 27 = .ok (.invokevirtual 104, 3) := by decide +kernel
theorem dX8_sorted_30 : decode cX8_sorted 30 = .ok (.ifCond .eq 7, 3) := by decide +kernel
theorem dX8_sorted_33 : decode cX8_sorted 33 = .ok (.iconst 0, 1) := by decide +kernel
theorem dX8_sorted_34 : decode cX8_sorted 34 = .ok (.goto 9, 3) := by decide +kernel
theorem dX8_sorted_37 : decode cX8_sorted 37 = .ok (.aload_n 0, 1) := by decide +kernel
theorem dX8_sorted_38 : decode cX8_sorted 38 = .ok (.iload_n 1, 1) := by decide +kernel
theorem dX8_sorted_39 : decode cX8_sorted 39 = .ok (.iload_n 2, 1) := by decide +kernel
theorem dX8_sorted_40 : decode cX8_sorted 40 = .ok (.invokevirtual 128, 3) := by decide +kernel
theorem dX8_sorted_43 : decode cX8_sorted 43 = .ok (.ireturn, 1) := by decide +kernel
theorem dX8_places_0 : decode cX8_places 0 = .ok (.aload_n 0, 1) := by decide +kernel
theorem dX8_places_1 : decode cX8_places 1 = .ok (.iconst 0, 1) := by decide +kernel
theorem dX8_places_2 : decode cX8_places 2 = .ok (.putfield 1, 3) := by decide +kernel
theorem dX8_places_5 : decode cX8_places 5 = .ok (.aload_n 0, 1) := by decide +kernel
theorem dX8_places_6 : decode cX8_places 6 = .ok (.iload_n 1, 1) := by decide +kernel
theorem dX8_places_7 : decode cX8_places 7 = .ok (.invokevirtual 111, 3) := by decide +kernel
theorem dX8_places_10 : decode cX8_places 10 = .ok (.ifCond .eq 5, 3) := by decide +kernel
theorem dX8_places_13 : decode cX8_places 13 = .ok (.iconst 0, 1) := by decide +kernel
theorem dX8_places_14 : decode cX8_places 14 = .ok (.ireturn, 1) := by decide +kernel
theorem dX8_places_15 : decode cX8_places 15 = .ok (.iconst 0, 1) := by decide +kernel
theorem dX8_places_16 : decode cX8_places 16 = .ok (.istore_n 2, 1) := by decide +kernel
theorem dX8_places_17 : decode cX8_places 17 = .ok (.iconst 0, 1) := by decide +kernel
theorem dX8_places_18 : decode cX8_places 18 = .ok (.istore_n 3, 1) := by decide +kernel
theorem dX8_places_19 : decode cX8_places 19 = .ok (.iload_n 3, 1) := by decide +kernel
theorem dX8_places_20 : decode cX8_places 20 = .ok (.aload_n 0, 1) := by decide +kernel
theorem dX8_places_21 : decode cX8_places 21 = .ok (.getfield 108, 3) := by decide +kernel
theorem dX8_places_24 : decode cX8_places 24 = .ok (.if_icmp .ge 107, 3) := by decide +kernel
theorem dX8_places_27 : decode cX8_places 27 = .ok (.aload_n 0, 1) := by decide +kernel
theorem dX8_places_28 : decode cX8_places 28 = .ok (.getfield 13, 3) := by decide +kernel
theorem dX8_places_31 : decode cX8_places 31 = .ok (.iload_n 3, 1) := by decide +kernel
theorem dX8_places_32 : decode cX8_places 32 = .ok (.iaload, 1) := by decide +kernel
theorem dX8_places_33 : decode cX8_places 33 = .ok (.iload_n 1, 1) := by decide +kernel
theorem dX8_places_34 : decode cX8_places 34 = .ok (.if_icmp .ne 7, 3) := by decide +kernel
theorem dX8_places_37 : decode cX8_places 37 = .ok (.iconst 1, 1) := by decide +kernel
theorem dX8_places_38 : decode cX8_places 38 = .ok (.goto 4, 3) := by decide +kernel
theorem dX8_places_41 : decode cX8_places 41 = .ok (.iconst 0, 1) := by decide +kernel
theorem dX8_places_42 : decode cX8_places 42 = .ok (.istore 4, 2) := by decide +kernel
theorem dX8_places_44 : decode cX8_places 44 = .ok (.iconst 0, 1) := by decide +kernel
theorem dX8_places_45 : decode cX8_places 45 = .ok (.istore 5, 2) := by decide +kernel
theorem dX8_places_47 : decode cX8_places 47 = .ok (.iload 5, 2) := by decide +kernel
theorem dX8_places_49 : decode cX8_places 49 = .ok (.iload_n 3, 1) := by decide +kernel
theorem dX8_places_50 : decode cX8_places 50 = .ok (.if_icmp .ge 62, 3) := by decide +kernel
theorem dX8_places_53 : decode cX8_places 53 = .ok (.iload 4, 2) := by decide +kernel
theorem dX8_places_55 : decode cX8_places 55 = .ok (.aload_n 0, 1) := by decide +kernel
theorem dX8_places_56 : decode cX8_places 56 = .ok (.getfield 13, 3) := by decide +kernel
theorem dX8_places_59 : decode cX8_places 59 = .ok (.iload 5, 2) := by decide +kernel
theorem dX8_places_61 : decode cX8_places 61 = .ok (.iaload, 1) := by decide +kernel
theorem dX8_places_62 : decode cX8_places 62 = .ok (.iload_n 1, 1) := by decide +kernel
theorem dX8_places_63 : decode cX8_places 63 = .ok (.if_icmp .ne 35, 3) := by decide +kernel
theorem dX8_places_66 : decode cX8_places 66 = .ok (.aload_n 0, 1) := by decide +kernel
theorem dX8_places_67 : decode cX8_places 67 = .ok (.getfield 17, 3) := by decide +kernel
theorem dX8_places_70 : decode cX8_places 70 = .ok (.iload 5, 2) := by decide +kernel
theorem dX8_places_72 : decode cX8_places 72 = .ok (.iaload, 1) := by decide +kernel
theorem dX8_places_73 : decode cX8_places 73 = .ok (.aload_n 0, 1) := by decide +kernel
theorem dX8_places_74 : decode cX8_places 74 = .ok (.getfield 17, 3) := by decide +kernel
theorem dX8_places_77 : decode cX8_places 77 = .ok (.iload_n 3, 1) := by decide +kernel
theorem dX8_places_78 : decode cX8_places 78 = .ok (.iaload, 1) := by decide +kernel
theorem dX8_places_79 : decode cX8_places 79 = .ok (.if_icmp .ne 19, 3) := by decide +kernel
theorem dX8_places_82 : decode cX8_places 82 = .ok (.aload_n 0, 1) := by decide +kernel
theorem dX8_places_83 : decode cX8_places 83 = .ok (.getfield 20, 3) := by decide +kernel
theorem dX8_places_86 : decode cX8_places 86 = .ok (.iload 5, 2) := by decide +kernel
theorem dX8_places_88 : decode cX8_places 88 = .ok (.iaload, 1) := by decide +kernel
theorem dX8_places_89 : decode cX8_places 89 = .ok (.aload_n 0, 1) := by decide +kernel
theorem dX8_places_90 : decode cX8_places 90 = .ok (.getfield 20, 3) := by decide +kernel
theorem dX8_places_93 : decode cX8_places 93 = .ok (.iload_n 3, 1) := by decide +kernel
theorem dX8_places_94 : decode cX8_places 94 = .ok (.iaload, 1) := by decide +kernel
theorem dX8_places_95 : decode cX8_places 95 = .ok (.if_icmp .eq 7, 3) := by decide +kernel
theorem dX8_places_98 : decode cX8_places 98 = .ok (.iconst 1, 1) := by decide +kernel
theorem dX8_places_99 : decode cX8_places 99 = .ok (.goto 4, 3) := by decide +kernel
theorem dX8_places_102 : decode cX8_places 102 = .ok (.iconst 0, 1) := by decide +kernel
theorem dX8_places_103 : decode cX8_places 103 = .ok (.iand, 1) := by decide +kernel
theorem dX8_places_104 : decode cX8_places 104 = .ok (.istore 4, 2) := by decide +kernel
theorem dX8_places_106 : decode cX8_places 106 = .ok (.iinc 5 1, 3) := by decide +kernel
theorem dX8_places_109 : decode cX8_places 109 = .ok (.goto (-62), 3) := by decide +kernel
theorem dX8_places_112 : decode cX8_places 112 = .ok (.iload_n 2, 1) := by decide +kernel
theorem dX8_places_113 : decode cX8_places 113 = .ok (.iload 4, 2) := by decide +kernel
theorem dX8_places_115 : decode cX8_places 115 = .ok (.ifCond .eq 7, 3) := by decide +kernel
theorem dX8_places_118 : decode cX8_places 118 = .ok (.iconst 1, 1) := by decide +kernel
theorem dX8_places_119 : decode cX8_places 119 = .ok (.goto 4, 3) := by decide +kernel
theorem dX8_places_122 : decode cX8_places 122 = .ok (.iconst 0, 1) := by decide +kernel
theorem dX8_places_123 : decode cX8_places 123 = .ok (.iadd, 1) := by decide +kernel
theorem dX8_places_124 : decode cX8_places 124 = .ok (.istore_n 2, 1) := by decide +kernel
theorem dX8_places_125 : decode cX8_places 125 = .ok (.iinc 3 1, 3) := by decide +kernel
theorem dX8_places_128 : decode cX8_places 128 = .ok (.goto (-109), 3) := by decide +kernel
theorem dX8_places_131 : decode cX8_places 131 = .ok (.iload_n 2, 1) := by decide +kernel
theorem dX8_places_132 : decode cX8_places 132 = .ok (.ireturn, 1) := by decide +kernel
theorem dX8_turn_0 : decode cX8_turn 0 = .ok (.aload_n 0, 1) := by decide +kernel
theorem dX8_turn_1 : decode cX8_turn 1 = .ok (.iconst 0, 1) := by decide +kernel
theorem dX8_turn_2 : decode cX8_turn 2 = .ok (.putfield 1, 3) := by decide +kernel
theorem dX8_turn_5 : decode cX8_turn 5 = .ok (.aload_n 0, 1) := by decide +kernel
theorem dX8_turn_6 : decode cX8_turn 6 = .ok (.iload_n 1, 1) := by decide +kernel
theorem dX8_turn_7 : decode cX8_turn 7 = .ok (.invokevirtual 119, 3) := by decide +kernel
theorem dX8_turn_10 : decode cX8_turn 10 = .ok (.ifCond .ne 19, 3) := by decide +kernel
theorem dX8_turn_13 : decode cX8_turn 13 = .ok (.aload_n 0, 1) := by decide +kernel
theorem dX8_turn_14 : decode cX8_turn 14 = .ok (.iload_n 2, 1) := by decide +kernel
theorem dX8_turn_15 : decode cX8_turn 15 = .ok (.invokevirtual 119, 3) := by decide +kernel
theorem dX8_turn_18 : decode cX8_turn 18 = .ok (.ifCond .ne 11, 3) := by decide +kernel
theorem dX8_turn_21 : decode cX8_turn 21 = .ok (.aload_n 0, 1) := by decide +kernel
theorem dX8_turn_22 : decode cX8_turn 22 = .ok (.iload_n 3, 1) := by decide +kernel
theorem dX8_turn_23 : decode cX8_turn 23 = .ok (.invokevirtual 119, 3) := by decide +kernel
theorem dX8_turn_26 : decode cX8_turn 26 = .ok (.ifCond .eq 7, 3) := by decide +kernel
theorem dX8_turn_29 : decode cX8_turn 29 = .ok (.iconst 0, 1) := by decide +kernel
theorem dX8_turn_30 : decode cX8_turn 30 = .ok (.goto 48, 3) := by decide +kernel
theorem dX8_turn_33 : decode cX8_turn 33 = .ok (.aload_n 0, 1) := by decide +kernel
theorem dX8_turn_34 : decode cX8_turn 34 = .ok (.getfield 17, 3) := by decide +kernel
theorem dX8_turn_37 : decode cX8_turn 37 = .ok (.iload_n 1, 1) := by decide +kernel
theorem dX8_turn_38 : decode cX8_turn 38 = .ok (.iaload, 1) := by decide +kernel
theorem dX8_turn_39 : decode cX8_turn 39 = .ok (.i2l, 1) := by decide +kernel
theorem dX8_turn_40 : decode cX8_turn 40 = .ok (.aload_n 0, 1) := by decide +kernel
theorem dX8_turn_41 : decode cX8_turn 41 = .ok (.getfield 20, 3) := by decide +kernel
theorem dX8_turn_44 : decode cX8_turn 44 = .ok (.iload_n 1, 1) := by decide +kernel
theorem dX8_turn_45 : decode cX8_turn 45 = .ok (.iaload, 1) := by decide +kernel
theorem dX8_turn_46 : decode cX8_turn 46 = .ok (.i2l, 1) := by decide +kernel
theorem dX8_turn_47 : decode cX8_turn 47 = .ok (.aload_n 0, 1) := by decide +kernel
theorem dX8_turn_48 : decode cX8_turn 48 = .ok (.getfield 17, 3) := by decide +kernel
theorem dX8_turn_51 : decode cX8_turn 51 = .ok (.iload_n 2, 1) := by decide +kernel
theorem dX8_turn_52 : decode cX8_turn 52 = .ok (.iaload, 1) := by decide +kernel
theorem dX8_turn_53 : decode cX8_turn 53 = .ok (.i2l, 1) := by decide +kernel
theorem dX8_turn_54 : decode cX8_turn 54 = .ok (.aload_n 0, 1) := by decide +kernel
theorem dX8_turn_55 : decode cX8_turn 55 = .ok (.getfield 20, 3) := by decide +kernel
theorem dX8_turn_58 : decode cX8_turn 58 = .ok (.iload_n 2, 1) := by decide +kernel
theorem dX8_turn_59 : decode cX8_turn 59 = .ok (.iaload, 1) := by decide +kernel
theorem dX8_turn_60 : decode cX8_turn 60 = .ok (.i2l, 1) := by decide +kernel
theorem dX8_turn_61 : decode cX8_turn 61 = .ok (.aload_n 0, 1) := by decide +kernel
theorem dX8_turn_62 : decode cX8_turn 62 = .ok (.getfield 17, 3) := by decide +kernel
theorem dX8_turn_65 : decode cX8_turn 65 = .ok (.iload_n 3, 1) := by decide +kernel
theorem dX8_turn_66 : decode cX8_turn 66 = .ok (.iaload, 1) := by decide +kernel
theorem dX8_turn_67 : decode cX8_turn 67 = .ok (.i2l, 1) := by decide +kernel
theorem dX8_turn_68 : decode cX8_turn 68 = .ok (.aload_n 0, 1) := by decide +kernel
theorem dX8_turn_69 : decode cX8_turn 69 = .ok (.getfield 20, 3) := by decide +kernel
theorem dX8_turn_72 : decode cX8_turn 72 = .ok (.iload_n 3, 1) := by decide +kernel
theorem dX8_turn_73 : decode cX8_turn 73 = .ok (.iaload, 1) := by decide +kernel
theorem dX8_turn_74 : decode cX8_turn 74 = .ok (.i2l, 1) := by decide +kernel
theorem dX8_turn_75 : decode cX8_turn 75 = .ok (.invokestatic 132, 3) := by decide +kernel
theorem dX8_turn_78 : decode cX8_turn 78 = .ok (.ireturn, 1) := by decide +kernel
theorem dX8_lays_0 : decode cX8_lays 0 = .ok (.aload_n 0, 1) := by decide +kernel
theorem dX8_lays_1 : decode cX8_lays 1 = .ok (.getfield 23, 3) := by decide +kernel
theorem dX8_lays_4 : decode cX8_lays 4 = .ok (.aload_n 0, 1) := by decide +kernel
theorem dX8_lays_5 : decode cX8_lays 5 = .ok (.getfield 136, 3) := by decide +kernel
theorem dX8_lays_8 : decode cX8_lays 8 = .ok (.iload_n 1, 1) := by decide +kernel
theorem dX8_lays_9 : decode cX8_lays 9 = .ok (.iastore, 1) := by decide +kernel
theorem dX8_lays_10 : decode cX8_lays 10 = .ok (.aload_n 0, 1) := by decide +kernel
theorem dX8_lays_11 : decode cX8_lays 11 = .ok (.getfield 26, 3) := by decide +kernel
theorem dX8_lays_14 : decode cX8_lays 14 = .ok (.aload_n 0, 1) := by decide +kernel
theorem dX8_lays_15 : decode cX8_lays 15 = .ok (.getfield 136, 3) := by decide +kernel
theorem dX8_lays_18 : decode cX8_lays 18 = .ok (.iload_n 2, 1) := by decide +kernel
theorem dX8_lays_19 : decode cX8_lays 19 = .ok (.iastore, 1) := by decide +kernel
theorem dX8_lays_20 : decode cX8_lays 20 = .ok (.aload_n 0, 1) := by decide +kernel
theorem dX8_lays_21 : decode cX8_lays 21 = .ok (.dup, 1) := by decide +kernel
theorem dX8_lays_22 : decode cX8_lays 22 = .ok (.getfield 136, 3) := by decide +kernel
theorem dX8_lays_25 : decode cX8_lays 25 = .ok (.iconst 1, 1) := by decide +kernel
theorem dX8_lays_26 : decode cX8_lays 26 = .ok (.iadd, 1) := by decide +kernel
theorem dX8_lays_27 : decode cX8_lays 27 = .ok (.putfield 136, 3) := by decide +kernel
theorem dX8_lays_30 : decode cX8_lays 30 = .ok (.return_, 1) := by decide +kernel
theorem dX8_laysHeap_0 : decode cX8_laysHeap 0 = .ok (.iconst 0, 1) := by decide +kernel
theorem dX8_laysHeap_1 : decode cX8_laysHeap 1 = .ok (.istore_n 2, 1) := by decide +kernel
theorem dX8_laysHeap_2 : decode cX8_laysHeap 2 = .ok (.iload_n 2, 1) := by decide +kernel
theorem dX8_laysHeap_3 : decode cX8_laysHeap 3 = .ok (.aload_n 0, 1) := by decide +kernel
theorem dX8_laysHeap_4 : decode cX8_laysHeap 4 = .ok (.getfield 108, 3) := by decide +kernel
theorem dX8_laysHeap_7 : decode cX8_laysHeap 7 = .ok (.if_icmp .ge 35, 3) := by decide +kernel
theorem dX8_laysHeap_10 : decode cX8_laysHeap 10 = .ok (.aload_n 0, 1) := by decide +kernel
theorem dX8_laysHeap_11 : decode cX8_laysHeap 11 = .ok (.getfield 13, 3) := by decide +kernel
theorem dX8_laysHeap_14 : decode cX8_laysHeap 14 = .ok (.iload_n 2, 1) := by decide +kernel
theorem dX8_laysHeap_15 : decode cX8_laysHeap 15 = .ok (.iaload, 1) := by decide +kernel
theorem dX8_laysHeap_16 : decode cX8_laysHeap 16 = .ok (.iload_n 1, 1) := by decide +kernel
theorem dX8_laysHeap_17 : decode cX8_laysHeap 17 = .ok (.if_icmp .ne 19, 3) := by decide +kernel
theorem dX8_laysHeap_20 : decode cX8_laysHeap 20 = .ok (.aload_n 0, 1) := by decide +kernel
theorem dX8_laysHeap_21 : decode cX8_laysHeap 21 = .ok (.aload_n 0, 1) := by decide +kernel
theorem dX8_laysHeap_22 : decode cX8_laysHeap 22 = .ok (.getfield 17, 3) := by decide +kernel
theorem dX8_laysHeap_25 : decode cX8_laysHeap 25 = .ok (.iload_n 2, 1) := by decide +kernel
theorem dX8_laysHeap_26 : decode cX8_laysHeap 26 = .ok (.iaload, 1) := by decide +kernel
theorem dX8_laysHeap_27 : decode cX8_laysHeap 27 = .ok (.aload_n 0, 1) := by decide +kernel
theorem dX8_laysHeap_28 : decode cX8_laysHeap 28 = .ok (.getfield 20, 3) := by decide +kernel
theorem dX8_laysHeap_31 : decode cX8_laysHeap 31 = .ok (.iload_n 2, 1) := by decide +kernel
theorem dX8_laysHeap_32 : decode cX8_laysHeap 32 = .ok (.iaload, 1) := by decide +kernel
theorem dX8_laysHeap_33 : decode cX8_laysHeap 33 = .ok (.invokevirtual 139, 3) := by decide +kernel
theorem dX8_laysHeap_36 : decode cX8_laysHeap 36 = .ok (.iinc 2 1, 3) := by decide +kernel
theorem dX8_laysHeap_39 : decode cX8_laysHeap 39 = .ok (.goto (-37), 3) := by decide +kernel
theorem dX8_laysHeap_42 : decode cX8_laysHeap 42 = .ok (.return_, 1) := by decide +kernel
theorem dX8_far_0 : decode cX8_far 0 = .ok (.aload_n 0, 1) := by decide +kernel
theorem dX8_far_1 : decode cX8_far 1 = .ok (.getfield 23, 3) := by decide +kernel
theorem dX8_far_4 : decode cX8_far 4 = .ok (.iload_n 1, 1) := by decide +kernel
theorem dX8_far_5 : decode cX8_far 5 = .ok (.iaload, 1) := by decide +kernel
theorem dX8_far_6 : decode cX8_far 6 = .ok (.aload_n 0, 1) := by decide +kernel
theorem dX8_far_7 : decode cX8_far 7 = .ok (.getfield 23, 3) := by decide +kernel
theorem dX8_far_10 : decode cX8_far 10 = .ok (.iload_n 2, 1) := by decide +kernel
theorem dX8_far_11 : decode cX8_far 11 = .ok (.iaload, 1) := by decide +kernel
theorem dX8_far_12 : decode cX8_far 12 = .ok (.isub, 1) := by decide +kernel
theorem dX8_far_13 : decode cX8_far 13 = .ok (.invokestatic 100, 3) := by decide +kernel
theorem dX8_far_16 : decode cX8_far 16 = .ok (.aload_n 0, 1) := by decide +kernel
theorem dX8_far_17 : decode cX8_far 17 = .ok (.getfield 26, 3) := by decide +kernel
theorem dX8_far_20 : decode cX8_far 20 = .ok (.iload_n 1, 1) := by decide +kernel
theorem dX8_far_21 : decode cX8_far 21 = .ok (.iaload, 1) := by decide +kernel
theorem dX8_far_22 : decode cX8_far 22 = .ok (.aload_n 0, 1) := by decide +kernel
theorem dX8_far_23 : decode cX8_far 23 = .ok (.getfield 26, 3) := by decide +kernel
theorem dX8_far_26 : decode cX8_far 26 = .ok (.iload_n 2, 1) := by decide +kernel
theorem dX8_far_27 : decode cX8_far 27 = .ok (.iaload, 1) := by decide +kernel
theorem dX8_far_28 : decode cX8_far 28 = .ok (.isub, 1) := by decide +kernel
theorem dX8_far_29 : decode cX8_far 29 = .ok (.invokestatic 100, 3) := by decide +kernel
theorem dX8_far_32 : decode cX8_far 32 = .ok (.iadd, 1) := by decide +kernel
theorem dX8_far_33 : decode cX8_far 33 = .ok (.ireturn, 1) := by decide +kernel
theorem dX8_wraps_0 : decode cX8_wraps 0 = .ok (.iconst 0, 1) := by decide +kernel
theorem dX8_wraps_1 : decode cX8_wraps 1 = .ok (.istore_n 2, 1) := by decide +kernel
theorem dX8_wraps_2 : decode cX8_wraps 2 = .ok (.iconst 1, 1) := by decide +kernel
theorem dX8_wraps_3 : decode cX8_wraps 3 = .ok (.istore_n 3, 1) := by decide +kernel
theorem dX8_wraps_4 : decode cX8_wraps 4 = .ok (.iload_n 3, 1) := by decide +kernel
theorem dX8_wraps_5 : decode cX8_wraps 5 = .ok (.aload_n 0, 1) := by decide +kernel
theorem dX8_wraps_6 : decode cX8_wraps 6 = .ok (.getfield 136, 3) := by decide +kernel
theorem dX8_wraps_9 : decode cX8_wraps 9 = .ok (.if_icmp .ge 56, 3) := by decide +kernel
theorem dX8_wraps_12 : decode cX8_wraps 12 = .ok (.aload_n 0, 1) := by decide +kernel
theorem dX8_wraps_13 : decode cX8_wraps 13 = .ok (.getfield 23, 3) := by decide +kernel
theorem dX8_wraps_16 : decode cX8_wraps 16 = .ok (.iload_n 3, 1) := by decide +kernel
theorem dX8_wraps_17 : decode cX8_wraps 17 = .ok (.iaload, 1) := by decide +kernel
theorem dX8_wraps_18 : decode cX8_wraps 18 = .ok (.aload_n 0, 1) := by decide +kernel
theorem dX8_wraps_19 : decode cX8_wraps 19 = .ok (.getfield 23, 3) := by decide +kernel
theorem dX8_wraps_22 : decode cX8_wraps 22 = .ok (.iload_n 2, 1) := by decide +kernel
theorem dX8_wraps_23 : decode cX8_wraps 23 = .ok (.iaload, 1) := by decide +kernel
theorem dX8_wraps_24 : decode cX8_wraps 24 = .ok (.if_icmp .lt 33, 3) := by decide +kernel
theorem dX8_wraps_27 : decode cX8_wraps 27 = .ok (.aload_n 0, 1) := by decide +kernel
theorem dX8_wraps_28 : decode cX8_wraps 28 = .ok (.getfield 23, 3) := by decide +kernel
theorem dX8_wraps_31 : decode cX8_wraps 31 = .ok (.iload_n 3, 1) := by decide +kernel
theorem dX8_wraps_32 : decode cX8_wraps 32 = .ok (.iaload, 1) := by decide +kernel
theorem dX8_wraps_33 : decode cX8_wraps 33 = .ok (.aload_n 0, 1) := by decide +kernel
theorem dX8_wraps_34 : decode cX8_wraps 34 = .ok (.getfield 23, 3) := by decide +kernel
theorem dX8_wraps_37 : decode cX8_wraps 37 = .ok (.iload_n 2, 1) := by decide +kernel
theorem dX8_wraps_38 : decode cX8_wraps 38 = .ok (.iaload, 1) := by decide +kernel
theorem dX8_wraps_39 : decode cX8_wraps 39 = .ok (.if_icmp .ne 20, 3) := by decide +kernel
theorem dX8_wraps_42 : decode cX8_wraps 42 = .ok (.aload_n 0, 1) := by decide +kernel
theorem dX8_wraps_43 : decode cX8_wraps 43 = .ok (.getfield 26, 3) := by decide +kernel
theorem dX8_wraps_46 : decode cX8_wraps 46 = .ok (.iload_n 3, 1) := by decide +kernel
theorem dX8_wraps_47 : decode cX8_wraps 47 = .ok (.iaload, 1) := by decide +kernel
theorem dX8_wraps_48 : decode cX8_wraps 48 = .ok (.aload_n 0, 1) := by decide +kernel
theorem dX8_wraps_49 : decode cX8_wraps 49 = .ok (.getfield 26, 3) := by decide +kernel
theorem dX8_wraps_52 : decode cX8_wraps 52 = .ok (.iload_n 2, 1) := by decide +kernel
theorem dX8_wraps_53 : decode cX8_wraps 53 = .ok (.iaload, 1) := by decide +kernel
theorem dX8_wraps_54 : decode cX8_wraps 54 = .ok (.if_icmp .ge 5, 3) := by decide +kernel
theorem dX8_wraps_57 : decode cX8_wraps 57 = .ok (.iload_n 3, 1) := by decide +kernel
theorem dX8_wraps_58 : decode cX8_wraps 58 = .ok (.istore_n 2, 1) := by decide +kernel
theorem dX8_wraps_59 : decode cX8_wraps 59 = .ok (.iinc 3 1, 3) := by decide +kernel
theorem dX8_wraps_62 : decode cX8_wraps 62 = .ok (.goto (-58), 3) := by decide +kernel
theorem dX8_wraps_65 : decode cX8_wraps 65 = .ok (.iconst 0, 1) := by decide +kernel
theorem dX8_wraps_66 : decode cX8_wraps 66 = .ok (.istore_n 3, 1) := by decide +kernel
theorem dX8_wraps_67 : decode cX8_wraps 67 = .ok (.iload_n 2, 1) := by decide +kernel
theorem dX8_wraps_68 : decode cX8_wraps 68 = .ok (.istore 4, 2) := by decide +kernel
theorem dX8_wraps_70 : decode cX8_wraps 70 = .ok (.aload_n 0, 1) := by decide +kernel
theorem dX8_wraps_71 : decode cX8_wraps 71 = .ok (.getfield 136, 3) := by decide +kernel
theorem dX8_wraps_74 : decode cX8_wraps 74 = .ok (.ifCond .le 7, 3) := by decide +kernel
theorem dX8_wraps_77 : decode cX8_wraps 77 = .ok (.iconst 1, 1) := by decide +kernel
theorem dX8_wraps_78 : decode cX8_wraps 78 = .ok (.goto 4, 3) := by decide +kernel
theorem dX8_wraps_81 : decode cX8_wraps 81 = .ok (.iconst 0, 1) := by decide +kernel
theorem dX8_wraps_82 : decode cX8_wraps 82 = .ok (.istore 5, 2) := by decide +kernel
theorem dX8_wraps_84 : decode cX8_wraps 84 = .ok (.iload 5, 2) := by decide +kernel
theorem dX8_wraps_86 : decode cX8_wraps 86 = .ok (.ifCond .eq 209, 3) := by decide +kernel
theorem dX8_wraps_89 : decode cX8_wraps 89 = .ok (.aload_n 0, 1) := by decide +kernel
theorem dX8_wraps_90 : decode cX8_wraps 90 = .ok (.getfield 29, 3) := by decide +kernel
theorem dX8_wraps_93 : decode cX8_wraps 93 = .ok (.sipush 200, 3) := by decide +kernel
theorem dX8_wraps_96 : decode cX8_wraps 96 = .ok (.iload_n 1, 1) := by decide +kernel
theorem dX8_wraps_97 : decode cX8_wraps 97 = .ok (.imul, 1) := by decide +kernel
theorem dX8_wraps_98 : decode cX8_wraps 98 = .ok (.iload_n 3, 1) := by decide +kernel
theorem dX8_wraps_99 : decode cX8_wraps 99 = .ok (.iadd, 1) := by decide +kernel
theorem dX8_wraps_100 : decode cX8_wraps 100 = .ok (.aload_n 0, 1) := by decide +kernel
theorem dX8_wraps_101 : decode cX8_wraps 101 = .ok (.getfield 23, 3) := by decide +kernel
theorem dX8_wraps_104 : decode cX8_wraps 104 = .ok (.iload 4, 2) := by decide +kernel
theorem dX8_wraps_106 : decode cX8_wraps 106 = .ok (.iaload, 1) := by decide +kernel
theorem dX8_wraps_107 : decode cX8_wraps 107 = .ok (.iastore, 1) := by decide +kernel
theorem dX8_wraps_108 : decode cX8_wraps 108 = .ok (.aload_n 0, 1) := by decide +kernel
theorem dX8_wraps_109 : decode cX8_wraps 109 = .ok (.getfield 32, 3) := by decide +kernel
theorem dX8_wraps_112 : decode cX8_wraps 112 = .ok (.sipush 200, 3) := by decide +kernel
theorem dX8_wraps_115 : decode cX8_wraps 115 = .ok (.iload_n 1, 1) := by decide +kernel
theorem dX8_wraps_116 : decode cX8_wraps 116 = .ok (.imul, 1) := by decide +kernel
theorem dX8_wraps_117 : decode cX8_wraps 117 = .ok (.iload_n 3, 1) := by decide +kernel
theorem dX8_wraps_118 : decode cX8_wraps 118 = .ok (.iadd, 1) := by decide +kernel
theorem dX8_wraps_119 : decode cX8_wraps 119 = .ok (.aload_n 0, 1) := by decide +kernel
theorem dX8_wraps_120 : decode cX8_wraps 120 = .ok (.getfield 26, 3) := by decide +kernel
theorem dX8_wraps_123 : decode cX8_wraps 123 = .ok (.iload 4, 2) := by decide +kernel
theorem dX8_wraps_125 : decode cX8_wraps 125 = .ok (.iaload, 1) := by decide +kernel
theorem dX8_wraps_126 : decode cX8_wraps 126 = .ok (.iastore, 1) := by decide +kernel
theorem dX8_wraps_127 : decode cX8_wraps 127 = .ok (.iinc 3 1, 3) := by decide +kernel
theorem dX8_wraps_130 : decode cX8_wraps 130 = .ok (.iload 4, 2) := by decide +kernel
theorem dX8_wraps_132 : decode cX8_wraps 132 = .ok (.istore 6, 2) := by decide +kernel
theorem dX8_wraps_134 : decode cX8_wraps 134 = .ok (.iconst 0, 1) := by decide +kernel
theorem dX8_wraps_135 : decode cX8_wraps 135 = .ok (.istore 7, 2) := by decide +kernel
theorem dX8_wraps_137 : decode cX8_wraps 137 = .ok (.iload 7, 2) := by decide +kernel
theorem dX8_wraps_139 : decode cX8_wraps 139 = .ok (.aload_n 0, 1) := by decide +kernel
theorem dX8_wraps_140 : decode cX8_wraps 140 = .ok (.getfield 136, 3) := by decide +kernel
theorem dX8_wraps_143 : decode cX8_wraps 143 = .ok (.if_icmp .ge 106, 3) := by decide +kernel
theorem dX8_wraps_146 : decode cX8_wraps 146 = .ok (.iload 6, 2) := by decide +kernel
theorem dX8_wraps_148 : decode cX8_wraps 148 = .ok (.iload 4, 2) := by decide +kernel
theorem dX8_wraps_150 : decode cX8_wraps 150 = .ok (.if_icmp .ne 7, 3) := by decide +kernel
theorem dX8_wraps_153 : decode cX8_wraps 153 = .ok (.iconst 0, 1) := by decide +kernel
theorem dX8_wraps_154 : decode cX8_wraps 154 = .ok (.goto 54, 3) := by decide +kernel
theorem dX8_wraps_157 : decode cX8_wraps 157 = .ok (.aload_n 0, 1) := by decide +kernel
theorem dX8_wraps_158 : decode cX8_wraps 158 = .ok (.getfield 23, 3) := by decide +kernel
theorem dX8_wraps_161 : decode cX8_wraps 161 = .ok (.iload 4, 2) := by decide +kernel
theorem dX8_wraps_163 : decode cX8_wraps 163 = .ok (.iaload, 1) := by decide +kernel
theorem dX8_wraps_164 : decode cX8_wraps 164 = .ok (.i2l, 1) := by decide +kernel
theorem dX8_wraps_165 : decode cX8_wraps 165 = .ok (.aload_n 0, 1) := by decide +kernel
theorem dX8_wraps_166 : decode cX8_wraps 166 = .ok (.getfield 26, 3) := by decide +kernel
theorem dX8_wraps_169 : decode cX8_wraps 169 = .ok (.iload 4, 2) := by decide +kernel
theorem dX8_wraps_171 : decode cX8_wraps 171 = .ok (.iaload, 1) := by decide +kernel
theorem dX8_wraps_172 : decode cX8_wraps 172 = .ok (.i2l, 1) := by decide +kernel
theorem dX8_wraps_173 : decode cX8_wraps 173 = .ok (.aload_n 0, 1) := by decide +kernel
theorem dX8_wraps_174 : decode cX8_wraps 174 = .ok (.getfield 23, 3) := by decide +kernel
theorem dX8_wraps_177 : decode cX8_wraps 177 = .ok (.iload 6, 2) := by decide +kernel
theorem dX8_wraps_179 : decode cX8_wraps 179 = .ok (.iaload, 1) := by decide +kernel
theorem dX8_wraps_180 : decode cX8_wraps 180 = .ok (.i2l, 1) := by decide +kernel
theorem dX8_wraps_181 : decode cX8_wraps 181 = .ok (.aload_n 0, 1) := by decide +kernel
theorem dX8_wraps_182 : decode cX8_wraps 182 = .ok (.getfield 26, 3) := by decide +kernel
theorem dX8_wraps_185 : decode cX8_wraps 185 = .ok (.iload 6, 2) := by decide +kernel
theorem dX8_wraps_187 : decode cX8_wraps 187 = .ok (.iaload, 1) := by decide +kernel
theorem dX8_wraps_188 : decode cX8_wraps 188 = .ok (.i2l, 1) := by decide +kernel
theorem dX8_wraps_189 : decode cX8_wraps 189 = .ok (.aload_n 0, 1) := by decide +kernel
theorem dX8_wraps_190 : decode cX8_wraps 190 = .ok (.getfield 23, 3) := by decide +kernel
theorem dX8_wraps_193 : decode cX8_wraps 193 = .ok (.iload 7, 2) := by decide +kernel
theorem dX8_wraps_195 : decode cX8_wraps 195 = .ok (.iaload, 1) := by decide +kernel
theorem dX8_wraps_196 : decode cX8_wraps 196 = .ok (.i2l, 1) := by decide +kernel
theorem dX8_wraps_197 : decode cX8_wraps 197 = .ok (.aload_n 0, 1) := by decide +kernel
theorem dX8_wraps_198 : decode cX8_wraps 198 = .ok (.getfield 26, 3) := by decide +kernel
theorem dX8_wraps_201 : decode cX8_wraps 201 = .ok (.iload 7, 2) := by decide +kernel
theorem dX8_wraps_203 : decode cX8_wraps 203 = .ok (.iaload, 1) := by decide +kernel
theorem dX8_wraps_204 : decode cX8_wraps 204 = .ok (.i2l, 1) := by decide +kernel
theorem dX8_wraps_205 : decode cX8_wraps 205 = .ok (.invokestatic 132, 3) := by decide +kernel
theorem dX8_wraps_208 : decode cX8_wraps 208 = .ok (.istore 8, 2) := by decide +kernel
theorem dX8_wraps_210 : decode cX8_wraps 210 = .ok (.iload 8, 2) := by decide +kernel
theorem dX8_wraps_212 : decode cX8_wraps 212 = .ok (.ifCond .lt 27, 3) := by decide +kernel
theorem dX8_wraps_215 : decode cX8_wraps 215 = .ok (.iload 8, 2) := by decide +kernel
theorem dX8_wraps_217 : decode cX8_wraps 217 = .ok (.ifCond .ne 26, 3) := by decide +kernel
theorem dX8_wraps_220 : decode cX8_wraps 220 = .ok (.aload_n 0, 1) := by decide +kernel
theorem dX8_wraps_221 : decode cX8_wraps 221 = .ok (.iload 4, 2) := by decide +kernel
theorem dX8_wraps_223 : decode cX8_wraps 223 = .ok (.iload 7, 2) := by decide +kernel
theorem dX8_wraps_225 : decode cX8_wraps 225 = .ok (.invokevirtual 143, 3) := by decide +kernel
theorem dX8_wraps_228 : decode cX8_wraps 228 = .ok (.aload_n 0, 1) := by decide +kernel
theorem dX8_wraps_229 : decode cX8_wraps 229 = .ok (.iload 4, 2) := by decide +kernel
theorem dX8_wraps_231 : decode cX8_wraps 231 = .ok (.iload 6, 2) := by decide +kernel
theorem dX8_wraps_233 : decode cX8_wraps 233 = .ok (.invokevirtual 143, 3) := by decide +kernel
theorem dX8_wraps_236 : decode cX8_wraps 236 = .ok (.if_icmp .le 7, 3) := by decide +kernel
theorem dX8_wraps_239 : decode cX8_wraps 239 = .ok (.iload 7, 2) := by decide +kernel
theorem dX8_wraps_241 : decode cX8_wraps 241 = .ok (.istore 6, 2) := by decide +kernel
theorem dX8_wraps_243 : decode cX8_wraps 243 = .ok (.iinc 7 1, 3) := by decide +kernel
theorem dX8_wraps_246 : decode cX8_wraps 246 = .ok (.goto (-109), 3) := by decide +kernel
theorem dX8_wraps_249 : decode cX8_wraps 249 = .ok (.iload 6, 2) := by decide +kernel
theorem dX8_wraps_251 : decode cX8_wraps 251 = .ok (.istore 4, 2) := by decide +kernel
theorem dX8_wraps_253 : decode cX8_wraps 253 = .ok (.aload_n 0, 1) := by decide +kernel
theorem dX8_wraps_254 : decode cX8_wraps 254 = .ok (.getfield 23, 3) := by decide +kernel
theorem dX8_wraps_257 : decode cX8_wraps 257 = .ok (.iload 4, 2) := by decide +kernel
theorem dX8_wraps_259 : decode cX8_wraps 259 = .ok (.iaload, 1) := by decide +kernel
theorem dX8_wraps_260 : decode cX8_wraps 260 = .ok (.aload_n 0, 1) := by decide +kernel
theorem dX8_wraps_261 : decode cX8_wraps 261 = .ok (.getfield 23, 3) := by decide +kernel
theorem dX8_wraps_264 : decode cX8_wraps 264 = .ok (.iload_n 2, 1) := by decide +kernel
theorem dX8_wraps_265 : decode cX8_wraps 265 = .ok (.iaload, 1) := by decide +kernel
theorem dX8_wraps_266 : decode cX8_wraps 266 = .ok (.if_icmp .ne 19, 3) := by decide +kernel
theorem dX8_wraps_269 : decode cX8_wraps 269 = .ok (.aload_n 0, 1) := by decide +kernel
theorem dX8_wraps_270 : decode cX8_wraps 270 = .ok (.getfield 26, 3) := by decide +kernel
theorem dX8_wraps_273 : decode cX8_wraps 273 = .ok (.iload 4, 2) := by decide +kernel
theorem dX8_wraps_275 : decode cX8_wraps 275 = .ok (.iaload, 1) := by decide +kernel
theorem dX8_wraps_276 : decode cX8_wraps 276 = .ok (.aload_n 0, 1) := by decide +kernel
theorem dX8_wraps_277 : decode cX8_wraps 277 = .ok (.getfield 26, 3) := by decide +kernel
theorem dX8_wraps_280 : decode cX8_wraps 280 = .ok (.iload_n 2, 1) := by decide +kernel
theorem dX8_wraps_281 : decode cX8_wraps 281 = .ok (.iaload, 1) := by decide +kernel
theorem dX8_wraps_282 : decode cX8_wraps 282 = .ok (.if_icmp .eq 7, 3) := by decide +kernel
theorem dX8_wraps_285 : decode cX8_wraps 285 = .ok (.iconst 1, 1) := by decide +kernel
theorem dX8_wraps_286 : decode cX8_wraps 286 = .ok (.goto 4, 3) := by decide +kernel
theorem dX8_wraps_289 : decode cX8_wraps 289 = .ok (.iconst 0, 1) := by decide +kernel
theorem dX8_wraps_290 : decode cX8_wraps 290 = .ok (.istore 5, 2) := by decide +kernel
theorem dX8_wraps_292 : decode cX8_wraps 292 = .ok (.goto (-208), 3) := by decide +kernel
theorem dX8_wraps_295 : decode cX8_wraps 295 = .ok (.aload_n 0, 1) := by decide +kernel
theorem dX8_wraps_296 : decode cX8_wraps 296 = .ok (.getfield 35, 3) := by decide +kernel
theorem dX8_wraps_299 : decode cX8_wraps 299 = .ok (.iload_n 1, 1) := by decide +kernel
theorem dX8_wraps_300 : decode cX8_wraps 300 = .ok (.iload_n 3, 1) := by decide +kernel
theorem dX8_wraps_301 : decode cX8_wraps 301 = .ok (.iastore, 1) := by decide +kernel
theorem dX8_wraps_302 : decode cX8_wraps 302 = .ok (.iload_n 3, 1) := by decide +kernel
theorem dX8_wraps_303 : decode cX8_wraps 303 = .ok (.ireturn, 1) := by decide +kernel
theorem dX8_hullOfHeap_0 : decode cX8_hullOfHeap 0 = .ok (.aload_n 0, 1) := by decide +kernel
theorem dX8_hullOfHeap_1 : decode cX8_hullOfHeap 1 = .ok (.iconst 0, 1) := by decide +kernel
theorem dX8_hullOfHeap_2 : decode cX8_hullOfHeap 2 = .ok (.putfield 136, 3) := by decide +kernel
theorem dX8_hullOfHeap_5 : decode cX8_hullOfHeap 5 = .ok (.aload_n 0, 1) := by decide +kernel
theorem dX8_hullOfHeap_6 : decode cX8_hullOfHeap 6 = .ok (.iload_n 2, 1) := by decide +kernel
theorem dX8_hullOfHeap_7 : decode cX8_hullOfHeap 7 = .ok (.invokevirtual 146, 3) := by decide +kernel
theorem dX8_hullOfHeap_10 : decode cX8_hullOfHeap 10 = .ok (.aload_n 0, 1) := by decide +kernel
theorem dX8_hullOfHeap_11 : decode cX8_hullOfHeap 11 = .ok (.iload_n 1, 1) := by decide +kernel
theorem dX8_hullOfHeap_12 : decode cX8_hullOfHeap 12 = .ok (.invokevirtual 150, 3) := by decide +kernel
theorem dX8_hullOfHeap_15 : decode cX8_hullOfHeap 15 = .ok (.ireturn, 1) := by decide +kernel
theorem dX8_isEmpty_0 : decode cX8_isEmpty 0 = .ok (.aload_n 0, 1) := by decide +kernel
theorem dX8_isEmpty_1 : decode cX8_isEmpty 1 = .ok (.aload_n 0, 1) := by decide +kernel
theorem dX8_isEmpty_2 : decode cX8_isEmpty 2 = .ok (.iload_n 1, 1) := by decide +kernel
theorem dX8_isEmpty_3 : decode cX8_isEmpty 3 = .ok (.invokevirtual 122, 3) := by decide +kernel
theorem dX8_isEmpty_6 : decode cX8_isEmpty 6 = .ok (.ifCond .le 7, 3) := by decide +kernel
theorem dX8_isEmpty_9 : decode cX8_isEmpty 9 = .ok (.iconst 1, 1) := by decide +kernel
theorem dX8_isEmpty_10 : decode cX8_isEmpty 10 = .ok (.goto 4, 3) := by decide +kernel
theorem dX8_isEmpty_13 : decode cX8_isEmpty 13 = .ok (.iconst 0, 1) := by decide +kernel
theorem dX8_isEmpty_14 : decode cX8_isEmpty 14 = .ok (.iconst 2, 1) := by decide +kernel
theorem dX8_isEmpty_15 : decode cX8_isEmpty 15 = .ok (.invokevirtual 104, 3) := by decide +kernel
theorem dX8_isEmpty_18 : decode cX8_isEmpty 18 = .ok (.ireturn, 1) := by decide +kernel
theorem dX8_hull_0 : decode cX8_hull 0 = .ok (.aload_n 0, 1) := by decide +kernel
theorem dX8_hull_1 : decode cX8_hull 1 = .ok (.iconst 0, 1) := by decide +kernel
theorem dX8_hull_2 : decode cX8_hull 2 = .ok (.putfield 1, 3) := by decide +kernel
theorem dX8_hull_5 : decode cX8_hull 5 = .ok (.aload_n 0, 1) := by decide +kernel
theorem dX8_hull_6 : decode cX8_hull 6 = .ok (.iload_n 1, 1) := by decide +kernel
theorem dX8_hull_7 : decode cX8_hull 7 = .ok (.invokevirtual 111, 3) := by decide +kernel
theorem dX8_hull_10 : decode cX8_hull 10 = .ok (.ifCond .ne 11, 3) := by decide +kernel
theorem dX8_hull_13 : decode cX8_hull 13 = .ok (.aload_n 0, 1) := by decide +kernel
theorem dX8_hull_14 : decode cX8_hull 14 = .ok (.iload_n 1, 1) := by decide +kernel
theorem dX8_hull_15 : decode cX8_hull 15 = .ok (.invokevirtual 153, 3) := by decide +kernel
theorem dX8_hull_18 : decode cX8_hull 18 = .ok (.ifCond .eq 7, 3) := by decide +kernel
theorem dX8_hull_21 : decode cX8_hull 21 = .ok (.iconst 0, 1) := by decide +kernel
theorem dX8_hull_22 : decode cX8_hull 22 = .ok (.goto 9, 3) := by decide +kernel
theorem dX8_hull_25 : decode cX8_hull 25 = .ok (.aload_n 0, 1) := by decide +kernel
theorem dX8_hull_26 : decode cX8_hull 26 = .ok (.iconst 0, 1) := by decide +kernel
theorem dX8_hull_27 : decode cX8_hull 27 = .ok (.iload_n 1, 1) := by decide +kernel
theorem dX8_hull_28 : decode cX8_hull 28 = .ok (.invokevirtual 156, 3) := by decide +kernel
theorem dX8_hull_31 : decode cX8_hull 31 = .ok (.ireturn, 1) := by decide +kernel
theorem dX8_noHeaps_0 : decode cX8_noHeaps 0 = .ok (.aload_n 0, 1) := by decide +kernel
theorem dX8_noHeaps_1 : decode cX8_noHeaps 1 = .ok (.iload_n 1, 1) := by decide +kernel
theorem dX8_noHeaps_2 : decode cX8_noHeaps 2 = .ok (.invokevirtual 111, 3) := by decide +kernel
theorem dX8_noHeaps_5 : decode cX8_noHeaps 5 = .ok (.ifCond .ne 27, 3) := by decide +kernel
theorem dX8_noHeaps_8 : decode cX8_noHeaps 8 = .ok (.aload_n 0, 1) := by decide +kernel
theorem dX8_noHeaps_9 : decode cX8_noHeaps 9 = .ok (.iload_n 2, 1) := by decide +kernel
theorem dX8_noHeaps_10 : decode cX8_noHeaps 10 = .ok (.invokevirtual 111, 3) := by decide +kernel
theorem dX8_noHeaps_13 : decode cX8_noHeaps 13 = .ok (.ifCond .ne 19, 3) := by decide +kernel
theorem dX8_noHeaps_16 : decode cX8_noHeaps 16 = .ok (.aload_n 0, 1) := by decide +kernel
theorem dX8_noHeaps_17 : decode cX8_noHeaps 17 = .ok (.iload_n 1, 1) := by decide +kernel
theorem dX8_noHeaps_18 : decode cX8_noHeaps 18 = .ok (.invokevirtual 153, 3) := by decide +kernel
theorem dX8_noHeaps_21 : decode cX8_noHeaps 21 = .ok (.ifCond .ne 11, 3) := by decide +kernel
theorem dX8_noHeaps_24 : decode cX8_noHeaps 24 = .ok (.aload_n 0, 1) := by decide +kernel
theorem dX8_noHeaps_25 : decode cX8_noHeaps 25 = .ok (.iload_n 2, 1) := by decide +kernel
theorem dX8_noHeaps_26 : decode cX8_noHeaps 26 = .ok (.invokevirtual 153, 3) := by decide +kernel
theorem dX8_noHeaps_29 : decode cX8_noHeaps 29 = .ok (.ifCond .eq 7, 3) := by decide +kernel
theorem dX8_noHeaps_32 : decode cX8_noHeaps 32 = .ok (.iconst 1, 1) := by decide +kernel
theorem dX8_noHeaps_33 : decode cX8_noHeaps 33 = .ok (.goto 4, 3) := by decide +kernel
theorem dX8_noHeaps_36 : decode cX8_noHeaps 36 = .ok (.iconst 0, 1) := by decide +kernel
theorem dX8_noHeaps_37 : decode cX8_noHeaps 37 = .ok (.ireturn, 1) := by decide +kernel
theorem dX8_join_0 : decode cX8_join 0 = .ok (.aload_n 0, 1) := by decide +kernel
theorem dX8_join_1 : decode cX8_join 1 = .ok (.iconst 0, 1) := by decide +kernel
theorem dX8_join_2 : decode cX8_join 2 = .ok (.putfield 1, 3) := by decide +kernel
theorem dX8_join_5 : decode cX8_join 5 = .ok (.aload_n 0, 1) := by decide +kernel
theorem dX8_join_6 : decode cX8_join 6 = .ok (.iload_n 1, 1) := by decide +kernel
theorem dX8_join_7 : decode cX8_join 7 = .ok (.iload_n 2, 1) := by decide +kernel
theorem dX8_join_8 : decode cX8_join 8 = .ok (.invokevirtual 159, 3) := by decide +kernel
theorem dX8_join_11 : decode cX8_join 11 = .ok (.ifCond .eq 5, 3) := by decide +kernel
theorem dX8_join_14 : decode cX8_join 14 = .ok (.iconst 0, 1) := by decide +kernel
theorem dX8_join_15 : decode cX8_join 15 = .ok (.ireturn, 1) := by decide +kernel
theorem dX8_join_16 : decode cX8_join 16 = .ok (.aload_n 0, 1) := by decide +kernel
theorem dX8_join_17 : decode cX8_join 17 = .ok (.iconst 0, 1) := by decide +kernel
theorem dX8_join_18 : decode cX8_join 18 = .ok (.putfield 136, 3) := by decide +kernel
theorem dX8_join_21 : decode cX8_join 21 = .ok (.aload_n 0, 1) := by decide +kernel
theorem dX8_join_22 : decode cX8_join 22 = .ok (.iload_n 1, 1) := by decide +kernel
theorem dX8_join_23 : decode cX8_join 23 = .ok (.invokevirtual 146, 3) := by decide +kernel
theorem dX8_join_26 : decode cX8_join 26 = .ok (.aload_n 0, 1) := by decide +kernel
theorem dX8_join_27 : decode cX8_join 27 = .ok (.iload_n 2, 1) := by decide +kernel
theorem dX8_join_28 : decode cX8_join 28 = .ok (.invokevirtual 146, 3) := by decide +kernel
theorem dX8_join_31 : decode cX8_join 31 = .ok (.aload_n 0, 1) := by decide +kernel
theorem dX8_join_32 : decode cX8_join 32 = .ok (.iconst 0, 1) := by decide +kernel
theorem dX8_join_33 : decode cX8_join 33 = .ok (.invokevirtual 150, 3) := by decide +kernel
theorem dX8_join_36 : decode cX8_join 36 = .ok (.ireturn, 1) := by decide +kernel
theorem dX8_sum_0 : decode cX8_sum 0 = .ok (.aload_n 0, 1) := by decide +kernel
theorem dX8_sum_1 : decode cX8_sum 1 = .ok (.iconst 0, 1) := by decide +kernel
theorem dX8_sum_2 : decode cX8_sum 2 = .ok (.putfield 1, 3) := by decide +kernel
theorem dX8_sum_5 : decode cX8_sum 5 = .ok (.aload_n 0, 1) := by decide +kernel
theorem dX8_sum_6 : decode cX8_sum 6 = .ok (.iload_n 1, 1) := by decide +kernel
theorem dX8_sum_7 : decode cX8_sum 7 = .ok (.iload_n 2, 1) := by decide +kernel
theorem dX8_sum_8 : decode cX8_sum 8 = .ok (.invokevirtual 159, 3) := by decide +kernel
theorem dX8_sum_11 : decode cX8_sum 11 = .ok (.ifCond .eq 5, 3) := by decide +kernel
theorem dX8_sum_14 : decode cX8_sum 14 = .ok (.iconst 0, 1) := by decide +kernel
theorem dX8_sum_15 : decode cX8_sum 15 = .ok (.ireturn, 1) := by decide +kernel
theorem dX8_sum_16 : decode cX8_sum 16 = .ok (.aload_n 0, 1) := by decide +kernel
theorem dX8_sum_17 : decode cX8_sum 17 = .ok (.iconst 0, 1) := by decide +kernel
theorem dX8_sum_18 : decode cX8_sum 18 = .ok (.putfield 136, 3) := by decide +kernel
theorem dX8_sum_21 : decode cX8_sum 21 = .ok (.iconst 0, 1) := by decide +kernel
theorem dX8_sum_22 : decode cX8_sum 22 = .ok (.istore_n 3, 1) := by decide +kernel
theorem dX8_sum_23 : decode cX8_sum 23 = .ok (.iload_n 3, 1) := by decide +kernel
theorem dX8_sum_24 : decode cX8_sum 24 = .ok (.aload_n 0, 1) := by decide +kernel
theorem dX8_sum_25 : decode cX8_sum 25 = .ok (.getfield 108, 3) := by decide +kernel
theorem dX8_sum_28 : decode cX8_sum 28 = .ok (.if_icmp .ge 80, 3) := by decide +kernel
theorem dX8_sum_31 : decode cX8_sum 31 = .ok (.iconst 0, 1) := by decide +kernel
theorem dX8_sum_32 : decode cX8_sum 32 = .ok (.istore 4, 2) := by decide +kernel
theorem dX8_sum_34 : decode cX8_sum 34 = .ok (.iload 4, 2) := by decide +kernel
theorem dX8_sum_36 : decode cX8_sum 36 = .ok (.aload_n 0, 1) := by decide +kernel
theorem dX8_sum_37 : decode cX8_sum 37 = .ok (.getfield 108, 3) := by decide +kernel
theorem dX8_sum_40 : decode cX8_sum 40 = .ok (.if_icmp .ge 62, 3) := by decide +kernel
theorem dX8_sum_43 : decode cX8_sum 43 = .ok (.aload_n 0, 1) := by decide +kernel
theorem dX8_sum_44 : decode cX8_sum 44 = .ok (.getfield 13, 3) := by decide +kernel
theorem dX8_sum_47 : decode cX8_sum 47 = .ok (.iload_n 3, 1) := by decide +kernel
theorem dX8_sum_48 : decode cX8_sum 48 = .ok (.iaload, 1) := by decide +kernel
theorem dX8_sum_49 : decode cX8_sum 49 = .ok (.iload_n 1, 1) := by decide +kernel
theorem dX8_sum_50 : decode cX8_sum 50 = .ok (.if_icmp .ne 46, 3) := by decide +kernel
theorem dX8_sum_53 : decode cX8_sum 53 = .ok (.aload_n 0, 1) := by decide +kernel
theorem dX8_sum_54 : decode cX8_sum 54 = .ok (.getfield 13, 3) := by decide +kernel
theorem dX8_sum_57 : decode cX8_sum 57 = .ok (.iload 4, 2) := by decide +kernel
theorem dX8_sum_59 : decode cX8_sum 59 = .ok (.iaload, 1) := by decide +kernel
theorem dX8_sum_60 : decode cX8_sum 60 = .ok (.iload_n 2, 1) := by decide +kernel
theorem dX8_sum_61 : decode cX8_sum 61 = .ok (.if_icmp .ne 35, 3) := by decide +kernel
theorem dX8_sum_64 : decode cX8_sum 64 = .ok (.aload_n 0, 1) := by decide +kernel
theorem dX8_sum_65 : decode cX8_sum 65 = .ok (.aload_n 0, 1) := by decide +kernel
theorem dX8_sum_66 : decode cX8_sum 66 = .ok (.getfield 17, 3) := by decide +kernel
theorem dX8_sum_69 : decode cX8_sum 69 = .ok (.iload_n 3, 1) := by decide +kernel
theorem dX8_sum_70 : decode cX8_sum 70 = .ok (.iaload, 1) := by decide +kernel
theorem dX8_sum_71 : decode cX8_sum 71 = .ok (.aload_n 0, 1) := by decide +kernel
theorem dX8_sum_72 : decode cX8_sum 72 = .ok (.getfield 17, 3) := by decide +kernel
theorem dX8_sum_75 : decode cX8_sum 75 = .ok (.iload 4, 2) := by decide +kernel
theorem dX8_sum_77 : decode cX8_sum 77 = .ok (.iaload, 1) := by decide +kernel
theorem dX8_sum_78 : decode cX8_sum 78 = .ok (.iadd, 1) := by decide +kernel
theorem dX8_sum_79 : decode cX8_sum 79 = .ok (.aload_n 0, 1) := by decide +kernel
theorem dX8_sum_80 : decode cX8_sum 80 = .ok (.getfield 20, 3) := by decide +kernel
theorem dX8_sum_83 : decode cX8_sum 83 = .ok (.iload_n 3, 1) := by decide +kernel
theorem dX8_sum_84 : decode cX8_sum 84 = .ok (.iaload, 1) := by decide +kernel
theorem dX8_sum_85 : decode cX8_sum 85 = .ok (.aload_n 0, 1) := by decide +kernel
theorem dX8_sum_86 : decode cX8_sum 86 = .ok (.getfield 20, 3) := by decide +kernel
theorem dX8_sum_89 : decode cX8_sum 89 = .ok (.iload 4, 2) := by decide +kernel
theorem dX8_sum_91 : decode cX8_sum 91 = .ok (.iaload, 1) := by decide +kernel
theorem dX8_sum_92 : decode cX8_sum 92 = .ok (.iadd, 1) := by decide +kernel
theorem dX8_sum_93 : decode cX8_sum 93 = .ok (.invokevirtual 139, 3) := by decide +kernel
theorem dX8_sum_96 : decode cX8_sum 96 = .ok (.iinc 4 1, 3) := by decide +kernel
theorem dX8_sum_99 : decode cX8_sum 99 = .ok (.goto (-65), 3) := by decide +kernel
theorem dX8_sum_102 : decode cX8_sum 102 = .ok (.iinc 3 1, 3) := by decide +kernel
theorem dX8_sum_105 : decode cX8_sum 105 = .ok (.goto (-82), 3) := by decide +kernel
theorem dX8_sum_108 : decode cX8_sum 108 = .ok (.aload_n 0, 1) := by decide +kernel
theorem dX8_sum_109 : decode cX8_sum 109 = .ok (.iconst 0, 1) := by decide +kernel
theorem dX8_sum_110 : decode cX8_sum 110 = .ok (.invokevirtual 150, 3) := by decide +kernel
theorem dX8_sum_113 : decode cX8_sum 113 = .ok (.ireturn, 1) := by decide +kernel
theorem dX8_peels_0 : decode cX8_peels 0 = .ok (.iconst 0, 1) := by decide +kernel
theorem dX8_peels_1 : decode cX8_peels 1 = .ok (.istore 4, 2) := by decide +kernel
theorem dX8_peels_3 : decode cX8_peels 3 = .ok (.iload 4, 2) := by decide +kernel
theorem dX8_peels_5 : decode cX8_peels 5 = .ok (.aload_n 0, 1) := by decide +kernel
theorem dX8_peels_6 : decode cX8_peels 6 = .ok (.getfield 108, 3) := by decide +kernel
theorem dX8_peels_9 : decode cX8_peels 9 = .ok (.if_icmp .ge 32, 3) := by decide +kernel
theorem dX8_peels_12 : decode cX8_peels 12 = .ok (.aload_n 0, 1) := by decide +kernel
theorem dX8_peels_13 : decode cX8_peels 13 = .ok (.getfield 38, 3) := by decide +kernel
theorem dX8_peels_16 : decode cX8_peels 16 = .ok (.iload 4, 2) := by decide +kernel
theorem dX8_peels_18 : decode cX8_peels 18 = .ok (.aload_n 0, 1) := by decide +kernel
theorem dX8_peels_19 : decode cX8_peels 19 = .ok (.getfield 13, 3) := by decide +kernel
theorem dX8_peels_22 : decode cX8_peels 22 = .ok (.iload 4, 2) := by decide +kernel
theorem dX8_peels_24 : decode cX8_peels 24 = .ok (.iaload, 1) := by decide +kernel
theorem dX8_peels_25 : decode cX8_peels 25 = .ok (.iload_n 1, 1) := by decide +kernel
theorem dX8_peels_26 : decode cX8_peels 26 = .ok (.if_icmp .ne 7, 3) := by decide +kernel
theorem dX8_peels_29 : decode cX8_peels 29 = .ok (.iconst 1, 1) := by decide +kernel
theorem dX8_peels_30 : decode cX8_peels 30 = .ok (.goto 4, 3) := by decide +kernel
theorem dX8_peels_33 : decode cX8_peels 33 = .ok (.iconst 0, 1) := by decide +kernel
theorem dX8_peels_34 : decode cX8_peels 34 = .ok (.bastore, 1) := by decide +kernel
theorem dX8_peels_35 : decode cX8_peels 35 = .ok (.iinc 4 1, 3) := by decide +kernel
theorem dX8_peels_38 : decode cX8_peels 38 = .ok (.goto (-35), 3) := by decide +kernel
theorem dX8_peels_41 : decode cX8_peels 41 = .ok (.iconst 0, 1) := by decide +kernel
theorem dX8_peels_42 : decode cX8_peels 42 = .ok (.istore 4, 2) := by decide +kernel
theorem dX8_peels_44 : decode cX8_peels 44 = .ok (.iload 4, 2) := by decide +kernel
theorem dX8_peels_46 : decode cX8_peels 46 = .ok (.iload_n 2, 1) := by decide +kernel
theorem dX8_peels_47 : decode cX8_peels 47 = .ok (.if_icmp .gt 125, 3) := by decide +kernel
theorem dX8_peels_50 : decode cX8_peels 50 = .ok (.aload_n 0, 1) := by decide +kernel
theorem dX8_peels_51 : decode cX8_peels 51 = .ok (.iconst 0, 1) := by decide +kernel
theorem dX8_peels_52 : decode cX8_peels 52 = .ok (.putfield 136, 3) := by decide +kernel
theorem dX8_peels_55 : decode cX8_peels 55 = .ok (.iconst 0, 1) := by decide +kernel
theorem dX8_peels_56 : decode cX8_peels 56 = .ok (.istore 5, 2) := by decide +kernel
theorem dX8_peels_58 : decode cX8_peels 58 = .ok (.iload 5, 2) := by decide +kernel
theorem dX8_peels_60 : decode cX8_peels 60 = .ok (.aload_n 0, 1) := by decide +kernel
theorem dX8_peels_61 : decode cX8_peels 61 = .ok (.getfield 108, 3) := by decide +kernel
theorem dX8_peels_64 : decode cX8_peels 64 = .ok (.if_icmp .ge 37, 3) := by decide +kernel
theorem dX8_peels_67 : decode cX8_peels 67 = .ok (.aload_n 0, 1) := by decide +kernel
theorem dX8_peels_68 : decode cX8_peels 68 = .ok (.getfield 38, 3) := by decide +kernel
theorem dX8_peels_71 : decode cX8_peels 71 = .ok (.iload 5, 2) := by decide +kernel
theorem dX8_peels_73 : decode cX8_peels 73 = .ok (.baload, 1) := by decide +kernel
theorem dX8_peels_74 : decode cX8_peels 74 = .ok (.ifCond .eq 21, 3) := by decide +kernel
theorem dX8_peels_77 : decode cX8_peels 77 = .ok (.aload_n 0, 1) := by decide +kernel
theorem dX8_peels_78 : decode cX8_peels 78 = .ok (.aload_n 0, 1) := by decide +kernel
theorem dX8_peels_79 : decode cX8_peels 79 = .ok (.getfield 17, 3) := by decide +kernel
theorem dX8_peels_82 : decode cX8_peels 82 = .ok (.iload 5, 2) := by decide +kernel
theorem dX8_peels_84 : decode cX8_peels 84 = .ok (.iaload, 1) := by decide +kernel
theorem dX8_peels_85 : decode cX8_peels 85 = .ok (.aload_n 0, 1) := by decide +kernel
theorem dX8_peels_86 : decode cX8_peels 86 = .ok (.getfield 20, 3) := by decide +kernel
theorem dX8_peels_89 : decode cX8_peels 89 = .ok (.iload 5, 2) := by decide +kernel
theorem dX8_peels_91 : decode cX8_peels 91 = .ok (.iaload, 1) := by decide +kernel
theorem dX8_peels_92 : decode cX8_peels 92 = .ok (.invokevirtual 139, 3) := by decide +kernel
theorem dX8_peels_95 : decode cX8_peels 95 = .ok (.iinc 5 1, 3) := by decide +kernel
theorem dX8_peels_98 : decode cX8_peels 98 = .ok (.goto (-40), 3) := by decide +kernel
theorem dX8_peels_101 : decode cX8_peels 101 = .ok (.aload_n 0, 1) := by decide +kernel
theorem dX8_peels_102 : decode cX8_peels 102 = .ok (.iload_n 3, 1) := by decide +kernel
theorem dX8_peels_103 : decode cX8_peels 103 = .ok (.invokevirtual 150, 3) := by decide +kernel
theorem dX8_peels_106 : decode cX8_peels 106 = .ok (.ifCond .ne 5, 3) := by decide +kernel
theorem dX8_peels_109 : decode cX8_peels 109 = .ok (.iconst 0, 1) := by decide +kernel
theorem dX8_peels_110 : decode cX8_peels 110 = .ok (.ireturn, 1) := by decide +kernel
theorem dX8_peels_111 : decode cX8_peels 111 = .ok (.iconst 0, 1) := by decide +kernel
theorem dX8_peels_112 : decode cX8_peels 112 = .ok (.istore 5, 2) := by decide +kernel
theorem dX8_peels_114 : decode cX8_peels 114 = .ok (.iload 5, 2) := by decide +kernel
theorem dX8_peels_116 : decode cX8_peels 116 = .ok (.aload_n 0, 1) := by decide +kernel
theorem dX8_peels_117 : decode cX8_peels 117 = .ok (.getfield 108, 3) := by decide +kernel
theorem dX8_peels_120 : decode cX8_peels 120 = .ok (.if_icmp .ge 46, 3) := by decide +kernel
theorem dX8_peels_123 : decode cX8_peels 123 = .ok (.aload_n 0, 1) := by decide +kernel
theorem dX8_peels_124 : decode cX8_peels 124 = .ok (.getfield 38, 3) := by decide +kernel
theorem dX8_peels_127 : decode cX8_peels 127 = .ok (.iload 5, 2) := by decide +kernel
theorem dX8_peels_129 : decode cX8_peels 129 = .ok (.dup2, 1) := by decide +kernel
theorem dX8_peels_130 : decode cX8_peels 130 = .ok (.baload, 1) := by decide +kernel
theorem dX8_peels_131 : decode cX8_peels 131 = .ok (.aload_n 0, 1) := by decide +kernel
theorem dX8_peels_132 : decode cX8_peels 132 = .ok (.iload_n 3, 1) := by decide +kernel
theorem dX8_peels_133 : decode cX8_peels 133 = .ok (.aload_n 0, 1) := by decide +kernel
theorem dX8_peels_134 : decode cX8_peels 134 = .ok (.getfield 17, 3) := by decide +kernel
theorem dX8_peels_137 : decode cX8_peels 137 = .ok (.iload 5, 2) := by decide +kernel
theorem dX8_peels_139 : decode cX8_peels 139 = .ok (.iaload, 1) := by decide +kernel
theorem dX8_peels_140 : decode cX8_peels 140 = .ok (.aload_n 0, 1) := by decide +kernel
theorem dX8_peels_141 : decode cX8_peels 141 = .ok (.getfield 20, 3) := by decide +kernel
theorem dX8_peels_144 : decode cX8_peels 144 = .ok (.iload 5, 2) := by decide +kernel
theorem dX8_peels_146 : decode cX8_peels 146 = .ok (.iaload, 1) := by decide +kernel
theorem dX8_peels_147 : decode cX8_peels 147 = .ok (.invokevirtual 162, 3) := by decide +kernel
theorem dX8_peels_150 : decode cX8_peels 150 = .ok (.ifCond .eq 7, 3) := by decide +kernel
theorem dX8_peels_153 : decode cX8_peels 153 = .ok (.iconst 1, 1) := by decide +kernel
theorem dX8_peels_154 : decode cX8_peels 154 = .ok (.goto 4, 3) := by decide +kernel
theorem dX8_peels_157 : decode cX8_peels 157 = .ok (.iconst 0, 1) := by decide +kernel
theorem dX8_peels_158 : decode cX8_peels 158 = .ok (.iand, 1) := by decide +kernel
theorem dX8_peels_159 : decode cX8_peels 159 = .ok (.bastore, 1) := by decide +kernel
theorem dX8_peels_160 : decode cX8_peels 160 = .ok (.iinc 5 1, 3) := by decide +kernel
theorem dX8_peels_163 : decode cX8_peels 163 = .ok (.goto (-49), 3) := by decide +kernel
theorem dX8_peels_166 : decode cX8_peels 166 = .ok (.iinc 4 1, 3) := by decide +kernel
theorem dX8_peels_169 : decode cX8_peels 169 = .ok (.goto (-125), 3) := by decide +kernel
theorem dX8_peels_172 : decode cX8_peels 172 = .ok (.iconst 1, 1) := by decide +kernel
theorem dX8_peels_173 : decode cX8_peels 173 = .ok (.ireturn, 1) := by decide +kernel
theorem dX8_layers_0 : decode cX8_layers 0 = .ok (.aload_n 0, 1) := by decide +kernel
theorem dX8_layers_1 : decode cX8_layers 1 = .ok (.iconst 0, 1) := by decide +kernel
theorem dX8_layers_2 : decode cX8_layers 2 = .ok (.putfield 1, 3) := by decide +kernel
theorem dX8_layers_5 : decode cX8_layers 5 = .ok (.aload_n 0, 1) := by decide +kernel
theorem dX8_layers_6 : decode cX8_layers 6 = .ok (.iload_n 1, 1) := by decide +kernel
theorem dX8_layers_7 : decode cX8_layers 7 = .ok (.invokevirtual 111, 3) := by decide +kernel
theorem dX8_layers_10 : decode cX8_layers 10 = .ok (.ifCond .eq 5, 3) := by decide +kernel
theorem dX8_layers_13 : decode cX8_layers 13 = .ok (.iconst 0, 1) := by decide +kernel
theorem dX8_layers_14 : decode cX8_layers 14 = .ok (.ireturn, 1) := by decide +kernel
theorem dX8_layers_15 : decode cX8_layers 15 = .ok (.iconst 0, 1) := by decide +kernel
theorem dX8_layers_16 : decode cX8_layers 16 = .ok (.istore_n 2, 1) := by decide +kernel
theorem dX8_layers_17 : decode cX8_layers 17 = .ok (.aload_n 0, 1) := by decide +kernel
theorem dX8_layers_18 : decode cX8_layers 18 = .ok (.iload_n 1, 1) := by decide +kernel
theorem dX8_layers_19 : decode cX8_layers 19 = .ok (.iload_n 2, 1) := by decide +kernel
theorem dX8_layers_20 : decode cX8_layers 20 = .ok (.iconst 1, 1) := by decide +kernel
theorem dX8_layers_21 : decode cX8_layers 21 = .ok (.invokevirtual 166, 3) := by decide +kernel
theorem dX8_layers_24 : decode cX8_layers 24 = .ok (.ifCond .eq 9, 3) := by decide +kernel
theorem dX8_layers_27 : decode cX8_layers 27 = .ok (.iinc 2 1, 3) := by decide +kernel
theorem dX8_layers_30 : decode cX8_layers 30 = .ok (.goto (-13), 3) := by decide +kernel
theorem dX8_layers_33 : decode cX8_layers 33 = .ok (.iload_n 2, 1) := by decide +kernel
theorem dX8_layers_34 : decode cX8_layers 34 = .ok (.ireturn, 1) := by decide +kernel
theorem dX8_layer_0 : decode cX8_layer 0 = .ok (.aload_n 0, 1) := by decide +kernel
theorem dX8_layer_1 : decode cX8_layer 1 = .ok (.iconst 0, 1) := by decide +kernel
theorem dX8_layer_2 : decode cX8_layer 2 = .ok (.putfield 1, 3) := by decide +kernel
theorem dX8_layer_5 : decode cX8_layer 5 = .ok (.aload_n 0, 1) := by decide +kernel
theorem dX8_layer_6 : decode cX8_layer 6 = .ok (.iload_n 1, 1) := by decide +kernel
theorem dX8_layer_7 : decode cX8_layer 7 = .ok (.invokevirtual 111, 3) := by decide +kernel
theorem dX8_layer_10 : decode cX8_layer 10 = .ok (.ifCond .ne 36, 3) := by decide +kernel
theorem dX8_layer_13 : decode cX8_layer 13 = .ok (.aload_n 0, 1) := by decide +kernel
theorem dX8_layer_14 : decode cX8_layer 14 = .ok (.iload_n 2, 1) := by decide +kernel
theorem dX8_layer_15 : decode cX8_layer 15 = .ok (.ifCond .lt 23, 3) := by decide +kernel
theorem dX8_layer_18 : decode cX8_layer 18 = .ok (.iload_n 2, 1) := by decide +kernel
theorem dX8_layer_19 : decode cX8_layer 19 = .ok (.bipush 60, 2) := by decide +kernel
theorem dX8_layer_21 : decode cX8_layer 21 = .ok (.if_icmp .ge 17, 3) := by decide +kernel
theorem dX8_layer_24 : decode cX8_layer 24 = .ok (.aload_n 0, 1) := by decide +kernel
theorem dX8_layer_25 : decode cX8_layer 25 = .ok (.iload_n 1, 1) := by decide +kernel
theorem dX8_layer_26 : decode cX8_layer 26 = .ok (.iload_n 2, 1) := by decide +kernel
theorem dX8_layer_27 : decode cX8_layer 27 = .ok (.iconst 1, 1) := by decide +kernel
theorem dX8_layer_28 : decode cX8_layer 28 = .ok (.invokevirtual 166, 3) := by decide +kernel
theorem dX8_layer_31 : decode cX8_layer 31 = .ok (.ifCond .eq 7, 3) := by decide +kernel
theorem dX8_layer_34 : decode cX8_layer 34 = .ok (.iconst 1, 1) := by decide +kernel
theorem dX8_layer_35 : decode cX8_layer 35 = .ok (.goto 4, 3) := by decide +kernel
theorem dX8_layer_38 : decode cX8_layer 38 = .ok (.iconst 0, 1) := by decide +kernel
theorem dX8_layer_39 : decode cX8_layer 39 = .ok (.iconst 2, 1) := by decide +kernel
theorem dX8_layer_40 : decode cX8_layer 40 = .ok (.invokevirtual 104, 3) := by decide +kernel
theorem dX8_layer_43 : decode cX8_layer 43 = .ok (.ifCond .eq 5, 3) := by decide +kernel
theorem dX8_layer_46 : decode cX8_layer 46 = .ok (.iconst 0, 1) := by decide +kernel
theorem dX8_layer_47 : decode cX8_layer 47 = .ok (.ireturn, 1) := by decide +kernel
theorem dX8_layer_48 : decode cX8_layer 48 = .ok (.aload_n 0, 1) := by decide +kernel
theorem dX8_layer_49 : decode cX8_layer 49 = .ok (.iload_n 1, 1) := by decide +kernel
theorem dX8_layer_50 : decode cX8_layer 50 = .ok (.iload_n 2, 1) := by decide +kernel
theorem dX8_layer_51 : decode cX8_layer 51 = .ok (.iconst 0, 1) := by decide +kernel
theorem dX8_layer_52 : decode cX8_layer 52 = .ok (.invokevirtual 166, 3) := by decide +kernel
theorem dX8_layer_55 : decode cX8_layer 55 = .ok (.istore_n 3, 1) := by decide +kernel
theorem dX8_layer_56 : decode cX8_layer 56 = .ok (.aload_n 0, 1) := by decide +kernel
theorem dX8_layer_57 : decode cX8_layer 57 = .ok (.getfield 35, 3) := by decide +kernel
theorem dX8_layer_60 : decode cX8_layer 60 = .ok (.iconst 0, 1) := by decide +kernel
theorem dX8_layer_61 : decode cX8_layer 61 = .ok (.iaload, 1) := by decide +kernel
theorem dX8_layer_62 : decode cX8_layer 62 = .ok (.ireturn, 1) := by decide +kernel
theorem dX8_isOn_0 : decode cX8_isOn 0 = .ok (.lload_n 0, 1) := by decide +kernel
theorem dX8_isOn_1 : decode cX8_isOn 1 = .ok (.lload_n 2, 1) := by decide +kernel
theorem dX8_isOn_2 : decode cX8_isOn 2 = .ok (.lload 4, 2) := by decide +kernel
theorem dX8_isOn_4 : decode cX8_isOn 4 = .ok (.lload 6, 2) := by decide +kernel
theorem dX8_isOn_6 : decode cX8_isOn 6 = .ok (.lload 8, 2) := by decide +kernel
theorem dX8_isOn_8 : decode cX8_isOn 8 = .ok (.lload 10, 2) := by decide +kernel
theorem dX8_isOn_10 : decode cX8_isOn 10 = .ok (.invokestatic 132, 3) := by decide +kernel
theorem dX8_isOn_13 : decode cX8_isOn 13 = .ok (.ifCond .eq 5, 3) := by decide +kernel
theorem dX8_isOn_16 : decode cX8_isOn 16 = .ok (.iconst 0, 1) := by decide +kernel
theorem dX8_isOn_17 : decode cX8_isOn 17 = .ok (.ireturn, 1) := by decide +kernel
theorem dX8_isOn_18 : decode cX8_isOn 18 = .ok (.lload 8, 2) := by decide +kernel
theorem dX8_isOn_20 : decode cX8_isOn 20 = .ok (.lload_n 0, 1) := by decide +kernel
theorem dX8_isOn_21 : decode cX8_isOn 21 = .ok (.lsub, 1) := by decide +kernel
theorem dX8_isOn_22 : decode cX8_isOn 22 = .ok (.lload 8, 2) := by decide +kernel
theorem dX8_isOn_24 : decode cX8_isOn 24 = .ok (.lload 4, 2) := by decide +kernel
theorem dX8_isOn_26 : decode cX8_isOn 26 = .ok (.lsub, 1) := by decide +kernel
theorem dX8_isOn_27 : decode cX8_isOn 27 = .ok (.lmul, 1) := by decide +kernel
theorem dX8_isOn_28 : decode cX8_isOn 28 = .ok (.lconst 0, 1) := by decide +kernel
theorem dX8_isOn_29 : decode cX8_isOn 29 = .ok (.lcmp, 1) := by decide +kernel
theorem dX8_isOn_30 : decode cX8_isOn 30 = .ok (.ifCond .gt 22, 3) := by decide +kernel
theorem dX8_isOn_33 : decode cX8_isOn 33 = .ok (.lload 10, 2) := by decide +kernel
theorem dX8_isOn_35 : decode cX8_isOn 35 = .ok (.lload_n 2, 1) := by decide +kernel
theorem dX8_isOn_36 : decode cX8_isOn 36 = .ok (.lsub, 1) := by decide +kernel
theorem dX8_isOn_37 : decode cX8_isOn 37 = .ok (.lload 10, 2) := by decide +kernel
theorem dX8_isOn_39 : decode cX8_isOn 39 = .ok (.lload 6, 2) := by decide +kernel
theorem dX8_isOn_41 : decode cX8_isOn 41 = .ok (.lsub, 1) := by decide +kernel
theorem dX8_isOn_42 : decode cX8_isOn 42 = .ok (.lmul, 1) := by decide +kernel
theorem dX8_isOn_43 : decode cX8_isOn 43 = .ok (.lconst 0, 1) := by decide +kernel
theorem dX8_isOn_44 : decode cX8_isOn 44 = .ok (.lcmp, 1) := by decide +kernel
theorem dX8_isOn_45 : decode cX8_isOn 45 = .ok (.ifCond .gt 7, 3) := by decide +kernel
theorem dX8_isOn_48 : decode cX8_isOn 48 = .ok (.iconst 1, 1) := by decide +kernel
theorem dX8_isOn_49 : decode cX8_isOn 49 = .ok (.goto 4, 3) := by decide +kernel
theorem dX8_isOn_52 : decode cX8_isOn 52 = .ok (.iconst 0, 1) := by decide +kernel
theorem dX8_isOn_53 : decode cX8_isOn 53 = .ok (.ireturn, 1) := by decide +kernel
theorem dX8_side_0 : decode cX8_side 0 = .ok (.aload_n 0, 1) := by decide +kernel
theorem dX8_side_1 : decode cX8_side 1 = .ok (.getfield 35, 3) := by decide +kernel
theorem dX8_side_4 : decode cX8_side 4 = .ok (.iload_n 1, 1) := by decide +kernel
theorem dX8_side_5 : decode cX8_side 5 = .ok (.iaload, 1) := by decide +kernel
theorem dX8_side_6 : decode cX8_side 6 = .ok (.istore 4, 2) := by decide +kernel
theorem dX8_side_8 : decode cX8_side 8 = .ok (.iconst 1, 1) := by decide +kernel
theorem dX8_side_9 : decode cX8_side 9 = .ok (.istore 5, 2) := by decide +kernel
theorem dX8_side_11 : decode cX8_side 11 = .ok (.iconst 0, 1) := by decide +kernel
theorem dX8_side_12 : decode cX8_side 12 = .ok (.istore 6, 2) := by decide +kernel
theorem dX8_side_14 : decode cX8_side 14 = .ok (.iload 6, 2) := by decide +kernel
theorem dX8_side_16 : decode cX8_side 16 = .ok (.iload 4, 2) := by decide +kernel
theorem dX8_side_18 : decode cX8_side 18 = .ok (.if_icmp .ge 130, 3) := by decide +kernel
theorem dX8_side_21 : decode cX8_side 21 = .ok (.sipush 200, 3) := by decide +kernel
theorem dX8_side_24 : decode cX8_side 24 = .ok (.iload_n 1, 1) := by decide +kernel
theorem dX8_side_25 : decode cX8_side 25 = .ok (.imul, 1) := by decide +kernel
theorem dX8_side_26 : decode cX8_side 26 = .ok (.iload 6, 2) := by decide +kernel
theorem dX8_side_28 : decode cX8_side 28 = .ok (.iadd, 1) := by decide +kernel
theorem dX8_side_29 : decode cX8_side 29 = .ok (.istore 7, 2) := by decide +kernel
theorem dX8_side_31 : decode cX8_side 31 = .ok (.sipush 200, 3) := by decide +kernel
theorem dX8_side_34 : decode cX8_side 34 = .ok (.iload_n 1, 1) := by decide +kernel
theorem dX8_side_35 : decode cX8_side 35 = .ok (.imul, 1) := by decide +kernel
theorem dX8_side_36 : decode cX8_side 36 = .ok (.iload 6, 2) := by decide +kernel
theorem dX8_side_38 : decode cX8_side 38 = .ok (.iconst 1, 1) := by decide +kernel
theorem dX8_side_39 : decode cX8_side 39 = .ok (.iadd, 1) := by decide +kernel
theorem dX8_side_40 : decode cX8_side 40 = .ok (.iload 4, 2) := by decide +kernel
theorem dX8_side_42 : decode cX8_side 42 = .ok (.irem, 1) := by decide +kernel
theorem dX8_side_43 : decode cX8_side 43 = .ok (.iadd, 1) := by decide +kernel
theorem dX8_side_44 : decode cX8_side 44 = .ok (.istore 8, 2) := by decide +kernel
theorem dX8_side_46 : decode cX8_side 46 = .ok (.aload_n 0, 1) := by decide +kernel
theorem dX8_side_47 : decode cX8_side 47 = .ok (.getfield 29, 3) := by decide +kernel
theorem dX8_side_50 : decode cX8_side 50 = .ok (.iload 7, 2) := by decide +kernel
theorem dX8_side_52 : decode cX8_side 52 = .ok (.iaload, 1) := by decide +kernel
theorem dX8_side_53 : decode cX8_side 53 = .ok (.i2l, 1) := by decide +kernel
theorem dX8_side_54 : decode cX8_side 54 = .ok (.aload_n 0, 1) := by decide +kernel
theorem dX8_side_55 : decode cX8_side 55 = .ok (.getfield 32, 3) := by decide +kernel
theorem dX8_side_58 : decode cX8_side 58 = .ok (.iload 7, 2) := by decide +kernel
theorem dX8_side_60 : decode cX8_side 60 = .ok (.iaload, 1) := by decide +kernel
theorem dX8_side_61 : decode cX8_side 61 = .ok (.i2l, 1) := by decide +kernel
theorem dX8_side_62 : decode cX8_side 62 = .ok (.aload_n 0, 1) := by decide +kernel
theorem dX8_side_63 : decode cX8_side 63 = .ok (.getfield 29, 3) := by decide +kernel
theorem dX8_side_66 : decode cX8_side 66 = .ok (.iload 8, 2) := by decide +kernel
theorem dX8_side_68 : decode cX8_side 68 = .ok (.iaload, 1) := by decide +kernel
theorem dX8_side_69 : decode cX8_side 69 = .ok (.i2l, 1) := by decide +kernel
theorem dX8_side_70 : decode cX8_side 70 = .ok (.aload_n 0, 1) := by decide +kernel
theorem dX8_side_71 : decode cX8_side 71 = .ok (.getfield 32, 3) := by decide +kernel
theorem dX8_side_74 : decode cX8_side 74 = .ok (.iload 8, 2) := by decide +kernel
theorem dX8_side_76 : decode cX8_side 76 = .ok (.iaload, 1) := by decide +kernel
theorem dX8_side_77 : decode cX8_side 77 = .ok (.i2l, 1) := by decide +kernel
theorem dX8_side_78 : decode cX8_side 78 = .ok (.iload_n 2, 1) := by decide +kernel
theorem dX8_side_79 : decode cX8_side 79 = .ok (.i2l, 1) := by decide +kernel
theorem dX8_side_80 : decode cX8_side 80 = .ok (.iload_n 3, 1) := by decide +kernel
theorem dX8_side_81 : decode cX8_side 81 = .ok (.i2l, 1) := by decide +kernel
theorem dX8_side_82 : decode cX8_side 82 = .ok (.invokestatic 169, 3) := by decide +kernel
theorem dX8_side_85 : decode cX8_side 85 = .ok (.ifCond .eq 5, 3) := by decide +kernel
theorem dX8_side_88 : decode cX8_side 88 = .ok (.iconst 0, 1) := by decide +kernel
theorem dX8_side_89 : decode cX8_side 89 = .ok (.ireturn, 1) := by decide +kernel
theorem dX8_side_90 : decode cX8_side 90 = .ok (.aload_n 0, 1) := by decide +kernel
theorem dX8_side_91 : decode cX8_side 91 = .ok (.getfield 29, 3) := by decide +kernel
theorem dX8_side_94 : decode cX8_side 94 = .ok (.iload 7, 2) := by decide +kernel
theorem dX8_side_96 : decode cX8_side 96 = .ok (.iaload, 1) := by decide +kernel
theorem dX8_side_97 : decode cX8_side 97 = .ok (.i2l, 1) := by decide +kernel
theorem dX8_side_98 : decode cX8_side 98 = .ok (.aload_n 0, 1) := by decide +kernel
theorem dX8_side_99 : decode cX8_side 99 = .ok (.getfield 32, 3) := by decide +kernel
theorem dX8_side_102 : decode cX8_side 102 = .ok (.iload 7, 2) := by decide +kernel
theorem dX8_side_104 : decode cX8_side 104 = .ok (.iaload, 1) := by decide +kernel
theorem dX8_side_105 : decode cX8_side 105 = .ok (.i2l, 1) := by decide +kernel
theorem dX8_side_106 : decode cX8_side 106 = .ok (.aload_n 0, 1) := by decide +kernel
theorem dX8_side_107 : decode cX8_side 107 = .ok (.getfield 29, 3) := by decide +kernel
theorem dX8_side_110 : decode cX8_side 110 = .ok (.iload 8, 2) := by decide +kernel
theorem dX8_side_112 : decode cX8_side 112 = .ok (.iaload, 1) := by decide +kernel
theorem dX8_side_113 : decode cX8_side 113 = .ok (.i2l, 1) := by decide +kernel
theorem dX8_side_114 : decode cX8_side 114 = .ok (.aload_n 0, 1) := by decide +kernel
theorem dX8_side_115 : decode cX8_side 115 = .ok (.getfield 32, 3) := by decide +kernel
theorem dX8_side_118 : decode cX8_side 118 = .ok (.iload 8, 2) := by decide +kernel
theorem dX8_side_120 : decode cX8_side 120 = .ok (.iaload, 1) := by decide +kernel
theorem dX8_side_121 : decode cX8_side 121 = .ok (.i2l, 1) := by decide +kernel
theorem dX8_side_122 : decode cX8_side 122 = .ok (.iload_n 2, 1) := by decide +kernel
theorem dX8_side_123 : decode cX8_side 123 = .ok (.i2l, 1) := by decide +kernel
theorem dX8_side_124 : decode cX8_side 124 = .ok (.iload_n 3, 1) := by decide +kernel
theorem dX8_side_125 : decode cX8_side 125 = .ok (.i2l, 1) := by decide +kernel
theorem dX8_side_126 : decode cX8_side 126 = .ok (.invokestatic 132, 3) := by decide +kernel
theorem dX8_side_129 : decode cX8_side 129 = .ok (.istore 9, 2) := by decide +kernel
theorem dX8_side_131 : decode cX8_side 131 = .ok (.iload 9, 2) := by decide +kernel
theorem dX8_side_133 : decode cX8_side 133 = .ok (.iload 5, 2) := by decide +kernel
theorem dX8_side_135 : decode cX8_side 135 = .ok (.if_icmp .ge 7, 3) := by decide +kernel
theorem dX8_side_138 : decode cX8_side 138 = .ok (.iload 9, 2) := by decide +kernel
theorem dX8_side_140 : decode cX8_side 140 = .ok (.istore 5, 2) := by decide +kernel
theorem dX8_side_142 : decode cX8_side 142 = .ok (.iinc 6 1, 3) := by decide +kernel
theorem dX8_side_145 : decode cX8_side 145 = .ok (.goto (-131), 3) := by decide +kernel
theorem dX8_side_148 : decode cX8_side 148 = .ok (.iload 4, 2) := by decide +kernel
theorem dX8_side_150 : decode cX8_side 150 = .ok (.iconst 3, 1) := by decide +kernel
theorem dX8_side_151 : decode cX8_side 151 = .ok (.if_icmp .lt 9, 3) := by decide +kernel
theorem dX8_side_154 : decode cX8_side 154 = .ok (.iload 5, 2) := by decide +kernel
theorem dX8_side_156 : decode cX8_side 156 = .ok (.iconst 1, 1) := by decide +kernel
theorem dX8_side_157 : decode cX8_side 157 = .ok (.if_icmp .ge 7, 3) := by decide +kernel
theorem dX8_side_160 : decode cX8_side 160 = .ok (.iconst (-1), 1) := by decide +kernel
theorem dX8_side_161 : decode cX8_side 161 = .ok (.goto 4, 3) := by decide +kernel
theorem dX8_side_164 : decode cX8_side 164 = .ok (.iconst 1, 1) := by decide +kernel
theorem dX8_side_165 : decode cX8_side 165 = .ok (.ireturn, 1) := by decide +kernel
theorem dX8_doubled_0 : decode cX8_doubled 0 = .ok (.iconst 0, 1) := by decide +kernel
theorem dX8_doubled_1 : decode cX8_doubled 1 = .ok (.istore_n 2, 1) := by decide +kernel
theorem dX8_doubled_2 : decode cX8_doubled 2 = .ok (.iconst 0, 1) := by decide +kernel
theorem dX8_doubled_3 : decode cX8_doubled 3 = .ok (.istore_n 3, 1) := by decide +kernel
theorem dX8_doubled_4 : decode cX8_doubled 4 = .ok (.iload_n 3, 1) := by decide +kernel
theorem dX8_doubled_5 : decode cX8_doubled 5 = .ok (.aload_n 0, 1) := by decide +kernel
theorem dX8_doubled_6 : decode cX8_doubled 6 = .ok (.getfield 35, 3) := by decide +kernel
theorem dX8_doubled_9 : decode cX8_doubled 9 = .ok (.iload_n 1, 1) := by decide +kernel
theorem dX8_doubled_10 : decode cX8_doubled 10 = .ok (.iaload, 1) := by decide +kernel
theorem dX8_doubled_11 : decode cX8_doubled 11 = .ok (.if_icmp .ge 70, 3) := by decide +kernel
theorem dX8_doubled_14 : decode cX8_doubled 14 = .ok (.sipush 200, 3) := by decide +kernel
theorem dX8_doubled_17 : decode cX8_doubled 17 = .ok (.iload_n 1, 1) := by decide +kernel
theorem dX8_doubled_18 : decode cX8_doubled 18 = .ok (.imul, 1) := by decide +kernel
theorem dX8_doubled_19 : decode cX8_doubled 19 = .ok (.iload_n 3, 1) := by decide +kernel
theorem dX8_doubled_20 : decode cX8_doubled 20 = .ok (.iadd, 1) := by decide +kernel
theorem dX8_doubled_21 : decode cX8_doubled 21 = .ok (.istore 4, 2) := by decide +kernel
theorem dX8_doubled_23 : decode cX8_doubled 23 = .ok (.sipush 200, 3) := by decide +kernel
theorem dX8_doubled_26 : decode cX8_doubled 26 = .ok (.iload_n 1, 1) := by decide +kernel
theorem dX8_doubled_27 : decode cX8_doubled 27 = .ok (.imul, 1) := by decide +kernel
theorem dX8_doubled_28 : decode cX8_doubled 28 = .ok (.iload_n 3, 1) := by decide +kernel
theorem dX8_doubled_29 : decode cX8_doubled 29 = .ok (.iconst 1, 1) := by decide +kernel
theorem dX8_doubled_30 : decode cX8_doubled 30 = .ok (.iadd, 1) := by decide +kernel
theorem dX8_doubled_31 : decode cX8_doubled 31 = .ok (.aload_n 0, 1) := by decide +kernel
theorem dX8_doubled_32 : decode cX8_doubled 32 = .ok (.getfield 35, 3) := by decide +kernel
theorem dX8_doubled_35 : decode cX8_doubled 35 = .ok (.iload_n 1, 1) := by decide +kernel
theorem dX8_doubled_36 : decode cX8_doubled 36 = .ok (.iaload, 1) := by decide +kernel
theorem dX8_doubled_37 : decode cX8_doubled 37 = .ok (.irem, 1) := by decide +kernel
theorem dX8_doubled_38 : decode cX8_doubled 38 = .ok (.iadd, 1) := by decide +kernel
theorem dX8_doubled_39 : decode cX8_doubled 39 = .ok (.istore 5, 2) := by decide +kernel
theorem dX8_doubled_41 : decode cX8_doubled 41 = .ok (.iload_n 2, 1) := by decide +kernel
theorem dX8_doubled_42 : decode cX8_doubled 42 = .ok (.aload_n 0, 1) := by decide +kernel
theorem dX8_doubled_43 : decode cX8_doubled 43 = .ok (.getfield 29, 3) := by decide +kernel
theorem dX8_doubled_46 : decode cX8_doubled 46 = .ok (.iload 4, 2) := by decide +kernel
theorem dX8_doubled_48 : decode cX8_doubled 48 = .ok (.iaload, 1) := by decide +kernel
theorem dX8_doubled_49 : decode cX8_doubled 49 = .ok (.aload_n 0, 1) := by decide +kernel
theorem dX8_doubled_50 : decode cX8_doubled 50 = .ok (.getfield 32, 3) := by decide +kernel
theorem dX8_doubled_53 : decode cX8_doubled 53 = .ok (.iload 5, 2) := by decide +kernel
theorem dX8_doubled_55 : decode cX8_doubled 55 = .ok (.iaload, 1) := by decide +kernel
theorem dX8_doubled_56 : decode cX8_doubled 56 = .ok (.imul, 1) := by decide +kernel
theorem dX8_doubled_57 : decode cX8_doubled 57 = .ok (.aload_n 0, 1) := by decide +kernel
theorem dX8_doubled_58 : decode cX8_doubled 58 = .ok (.getfield 32, 3) := by decide +kernel
theorem dX8_doubled_61 : decode cX8_doubled 61 = .ok (.iload 4, 2) := by decide +kernel
theorem dX8_doubled_63 : decode cX8_doubled 63 = .ok (.iaload, 1) := by decide +kernel
theorem dX8_doubled_64 : decode cX8_doubled 64 = .ok (.aload_n 0, 1) := by decide +kernel
theorem dX8_doubled_65 : decode cX8_doubled 65 = .ok (.getfield 29, 3) := by decide +kernel
theorem dX8_doubled_68 : decode cX8_doubled 68 = .ok (.iload 5, 2) := by decide +kernel
theorem dX8_doubled_70 : decode cX8_doubled 70 = .ok (.iaload, 1) := by decide +kernel
theorem dX8_doubled_71 : decode cX8_doubled 71 = .ok (.imul, 1) := by decide +kernel
theorem dX8_doubled_72 : decode cX8_doubled 72 = .ok (.isub, 1) := by decide +kernel
theorem dX8_doubled_73 : decode cX8_doubled 73 = .ok (.iadd, 1) := by decide +kernel
theorem dX8_doubled_74 : decode cX8_doubled 74 = .ok (.istore_n 2, 1) := by decide +kernel
theorem dX8_doubled_75 : decode cX8_doubled 75 = .ok (.iinc 3 1, 3) := by decide +kernel
theorem dX8_doubled_78 : decode cX8_doubled 78 = .ok (.goto (-74), 3) := by decide +kernel
theorem dX8_doubled_81 : decode cX8_doubled 81 = .ok (.iload_n 2, 1) := by decide +kernel
theorem dX8_doubled_82 : decode cX8_doubled 82 = .ok (.ireturn, 1) := by decide +kernel
theorem dX8_corners_0 : decode cX8_corners 0 = .ok (.aload_n 0, 1) := by decide +kernel
theorem dX8_corners_1 : decode cX8_corners 1 = .ok (.iconst 0, 1) := by decide +kernel
theorem dX8_corners_2 : decode cX8_corners 2 = .ok (.putfield 1, 3) := by decide +kernel
theorem dX8_corners_5 : decode cX8_corners 5 = .ok (.aload_n 0, 1) := by decide +kernel
theorem dX8_corners_6 : decode cX8_corners 6 = .ok (.getfield 35, 3) := by decide +kernel
theorem dX8_corners_9 : decode cX8_corners 9 = .ok (.iconst 0, 1) := by decide +kernel
theorem dX8_corners_10 : decode cX8_corners 10 = .ok (.iaload, 1) := by decide +kernel
theorem dX8_corners_11 : decode cX8_corners 11 = .ok (.ireturn, 1) := by decide +kernel
theorem dX8_corner_0 : decode cX8_corner 0 = .ok (.aload_n 0, 1) := by decide +kernel
theorem dX8_corner_1 : decode cX8_corner 1 = .ok (.iconst 0, 1) := by decide +kernel
theorem dX8_corner_2 : decode cX8_corner 2 = .ok (.putfield 1, 3) := by decide +kernel
theorem dX8_corner_5 : decode cX8_corner 5 = .ok (.aload_n 0, 1) := by decide +kernel
theorem dX8_corner_6 : decode cX8_corner 6 = .ok (.iload_n 1, 1) := by decide +kernel
theorem dX8_corner_7 : decode cX8_corner 7 = .ok (.iconst 0, 1) := by decide +kernel
theorem dX8_corner_8 : decode cX8_corner 8 = .ok (.aload_n 0, 1) := by decide +kernel
theorem dX8_corner_9 : decode cX8_corner 9 = .ok (.getfield 35, 3) := by decide +kernel
theorem dX8_corner_12 : decode cX8_corner 12 = .ok (.iconst 0, 1) := by decide +kernel
theorem dX8_corner_13 : decode cX8_corner 13 = .ok (.iaload, 1) := by decide +kernel
theorem dX8_corner_14 : decode cX8_corner 14 = .ok (.iconst 1, 1) := by decide +kernel
theorem dX8_corner_15 : decode cX8_corner 15 = .ok (.isub, 1) := by decide +kernel
theorem dX8_corner_16 : decode cX8_corner 16 = .ok (.invokestatic 96, 3) := by decide +kernel
theorem dX8_corner_19 : decode cX8_corner 19 = .ok (.iconst 1, 1) := by decide +kernel
theorem dX8_corner_20 : decode cX8_corner 20 = .ok (.invokevirtual 104, 3) := by decide +kernel
theorem dX8_corner_23 : decode cX8_corner 23 = .ok (.ifCond .eq 7, 3) := by decide +kernel
theorem dX8_corner_26 : decode cX8_corner 26 = .ok (.iconst 0, 1) := by decide +kernel
theorem dX8_corner_27 : decode cX8_corner 27 = .ok (.goto 22, 3) := by decide +kernel
theorem dX8_corner_30 : decode cX8_corner 30 = .ok (.iload_n 2, 1) := by decide +kernel
theorem dX8_corner_31 : decode cX8_corner 31 = .ok (.ifCond .eq 12, 3) := by decide +kernel
theorem dX8_corner_34 : decode cX8_corner 34 = .ok (.aload_n 0, 1) := by decide +kernel
theorem dX8_corner_35 : decode cX8_corner 35 = .ok (.getfield 32, 3) := by decide +kernel
theorem dX8_corner_38 : decode cX8_corner 38 = .ok (.iload_n 1, 1) := by decide +kernel
theorem dX8_corner_39 : decode cX8_corner 39 = .ok (.iaload, 1) := by decide +kernel
theorem dX8_corner_40 : decode cX8_corner 40 = .ok (.goto 9, 3) := by decide +kernel
theorem dX8_corner_43 : decode cX8_corner 43 = .ok (.aload_n 0, 1) := by decide +kernel
theorem dX8_corner_44 : decode cX8_corner 44 = .ok (.getfield 29, 3) := by decide +kernel
theorem dX8_corner_47 : decode cX8_corner 47 = .ok (.iload_n 1, 1) := by decide +kernel
theorem dX8_corner_48 : decode cX8_corner 48 = .ok (.iaload, 1) := by decide +kernel
theorem dX8_corner_49 : decode cX8_corner 49 = .ok (.ireturn, 1) := by decide +kernel
theorem dX8_area_0 : decode cX8_area 0 = .ok (.aload_n 0, 1) := by decide +kernel
theorem dX8_area_1 : decode cX8_area 1 = .ok (.iconst 0, 1) := by decide +kernel
theorem dX8_area_2 : decode cX8_area 2 = .ok (.putfield 1, 3) := by decide +kernel
theorem dX8_area_5 : decode cX8_area 5 = .ok (.aload_n 0, 1) := by decide +kernel
theorem dX8_area_6 : decode cX8_area 6 = .ok (.iconst 0, 1) := by decide +kernel
theorem dX8_area_7 : decode cX8_area 7 = .ok (.invokevirtual 173, 3) := by decide +kernel
theorem dX8_area_10 : decode cX8_area 10 = .ok (.ireturn, 1) := by decide +kernel
theorem dX8_edge_0 : decode cX8_edge 0 = .ok (.aload_n 0, 1) := by decide +kernel
theorem dX8_edge_1 : decode cX8_edge 1 = .ok (.iconst 0, 1) := by decide +kernel
theorem dX8_edge_2 : decode cX8_edge 2 = .ok (.putfield 1, 3) := by decide +kernel
theorem dX8_edge_5 : decode cX8_edge 5 = .ok (.aload_n 0, 1) := by decide +kernel
theorem dX8_edge_6 : decode cX8_edge 6 = .ok (.getfield 35, 3) := by decide +kernel
theorem dX8_edge_9 : decode cX8_edge 9 = .ok (.iconst 0, 1) := by decide +kernel
theorem dX8_edge_10 : decode cX8_edge 10 = .ok (.iaload, 1) := by decide +kernel
theorem dX8_edge_11 : decode cX8_edge 11 = .ok (.istore_n 1, 1) := by decide +kernel
theorem dX8_edge_12 : decode cX8_edge 12 = .ok (.iload_n 1, 1) := by decide +kernel
theorem dX8_edge_13 : decode cX8_edge 13 = .ok (.iconst 3, 1) := by decide +kernel
theorem dX8_edge_14 : decode cX8_edge 14 = .ok (.if_icmp .ge 44, 3) := by decide +kernel
theorem dX8_edge_17 : decode cX8_edge 17 = .ok (.iload_n 1, 1) := by decide +kernel
theorem dX8_edge_18 : decode cX8_edge 18 = .ok (.iconst 2, 1) := by decide +kernel
theorem dX8_edge_19 : decode cX8_edge 19 = .ok (.if_icmp .ge 7, 3) := by decide +kernel
theorem dX8_edge_22 : decode cX8_edge 22 = .ok (.iload_n 1, 1) := by decide +kernel
theorem dX8_edge_23 : decode cX8_edge 23 = .ok (.goto 34, 3) := by decide +kernel
theorem dX8_edge_26 : decode cX8_edge 26 = .ok (.iconst 1, 1) := by decide +kernel
theorem dX8_edge_27 : decode cX8_edge 27 = .ok (.aload_n 0, 1) := by decide +kernel
theorem dX8_edge_28 : decode cX8_edge 28 = .ok (.getfield 29, 3) := by decide +kernel
theorem dX8_edge_31 : decode cX8_edge 31 = .ok (.iconst 1, 1) := by decide +kernel
theorem dX8_edge_32 : decode cX8_edge 32 = .ok (.iaload, 1) := by decide +kernel
theorem dX8_edge_33 : decode cX8_edge 33 = .ok (.aload_n 0, 1) := by decide +kernel
theorem dX8_edge_34 : decode cX8_edge 34 = .ok (.getfield 29, 3) := by decide +kernel
theorem dX8_edge_37 : decode cX8_edge 37 = .ok (.iconst 0, 1) := by decide +kernel
theorem dX8_edge_38 : decode cX8_edge 38 = .ok (.iaload, 1) := by decide +kernel
theorem dX8_edge_39 : decode cX8_edge 39 = .ok (.isub, 1) := by decide +kernel
theorem dX8_edge_40 : decode cX8_edge 40 = .ok (.aload_n 0, 1) := by decide +kernel
theorem dX8_edge_41 : decode cX8_edge 41 = .ok (.getfield 32, 3) := by decide +kernel
theorem dX8_edge_44 : decode cX8_edge 44 = .ok (.iconst 1, 1) := by decide +kernel
theorem dX8_edge_45 : decode cX8_edge 45 = .ok (.iaload, 1) := by decide +kernel
theorem dX8_edge_46 : decode cX8_edge 46 = .ok (.aload_n 0, 1) := by decide +kernel
theorem dX8_edge_47 : decode cX8_edge 47 = .ok (.getfield 32, 3) := by decide +kernel
theorem dX8_edge_50 : decode cX8_edge 50 = .ok (.iconst 0, 1) := by decide +kernel
theorem dX8_edge_51 : decode cX8_edge 51 = .ok (.iaload, 1) := by decide +kernel
theorem dX8_edge_52 : decode cX8_edge 52 = .ok (.isub, 1) := by decide +kernel
theorem dX8_edge_53 : decode cX8_edge 53 = .ok (.invokestatic 176, 3) := by decide +kernel
theorem dX8_edge_56 : decode cX8_edge 56 = .ok (.iadd, 1) := by decide +kernel
theorem dX8_edge_57 : decode cX8_edge 57 = .ok (.ireturn, 1) := by decide +kernel
theorem dX8_edge_58 : decode cX8_edge 58 = .ok (.iconst 0, 1) := by decide +kernel
theorem dX8_edge_59 : decode cX8_edge 59 = .ok (.istore_n 2, 1) := by decide +kernel
theorem dX8_edge_60 : decode cX8_edge 60 = .ok (.iconst 0, 1) := by decide +kernel
theorem dX8_edge_61 : decode cX8_edge 61 = .ok (.istore_n 3, 1) := by decide +kernel
theorem dX8_edge_62 : decode cX8_edge 62 = .ok (.iload_n 3, 1) := by decide +kernel
theorem dX8_edge_63 : decode cX8_edge 63 = .ok (.iload_n 1, 1) := by decide +kernel
theorem dX8_edge_64 : decode cX8_edge 64 = .ok (.if_icmp .ge 49, 3) := by decide +kernel
theorem dX8_edge_67 : decode cX8_edge 67 = .ok (.iload_n 2, 1) := by decide +kernel
theorem dX8_edge_68 : decode cX8_edge 68 = .ok (.aload_n 0, 1) := by decide +kernel
theorem dX8_edge_69 : decode cX8_edge 69 = .ok (.getfield 29, 3) := by decide +kernel
theorem dX8_edge_72 : decode cX8_edge 72 = .ok (.iload_n 3, 1) := by decide +kernel
theorem dX8_edge_73 : decode cX8_edge 73 = .ok (.iconst 1, 1) := by decide +kernel
theorem dX8_edge_74 : decode cX8_edge 74 = .ok (.iadd, 1) := by decide +kernel
theorem dX8_edge_75 : decode cX8_edge 75 = .ok (.iload_n 1, 1) := by decide +kernel
theorem dX8_edge_76 : decode cX8_edge 76 = .ok (.irem, 1) := by decide +kernel
theorem dX8_edge_77 : decode cX8_edge 77 = .ok (.iaload, 1) := by decide +kernel
theorem dX8_edge_78 : decode cX8_edge 78 = .ok (.aload_n 0, 1) := by decide +kernel
theorem dX8_edge_79 : decode cX8_edge 79 = .ok (.getfield 29, 3) := by decide +kernel
theorem dX8_edge_82 : decode cX8_edge 82 = .ok (.iload_n 3, 1) := by decide +kernel
theorem dX8_edge_83 : decode cX8_edge 83 = .ok (.iaload, 1) := by decide +kernel
theorem dX8_edge_84 : decode cX8_edge 84 = .ok (.isub, 1) := by decide +kernel
theorem dX8_edge_85 : decode cX8_edge 85 = .ok (.aload_n 0, 1) := by decide +kernel
theorem dX8_edge_86 : decode cX8_edge 86 = .ok (.getfield 32, 3) := by decide +kernel
theorem dX8_edge_89 : decode cX8_edge 89 = .ok (.iload_n 3, 1) := by decide +kernel
theorem dX8_edge_90 : decode cX8_edge 90 = .ok (.iconst 1, 1) := by decide +kernel
theorem dX8_edge_91 : decode cX8_edge 91 = .ok (.iadd, 1) := by decide +kernel
theorem dX8_edge_92 : decode cX8_edge 92 = .ok (.iload_n 1, 1) := by decide +kernel
theorem dX8_edge_93 : decode cX8_edge 93 = .ok (.irem, 1) := by decide +kernel
theorem dX8_edge_94 : decode cX8_edge 94 = .ok (.iaload, 1) := by decide +kernel
theorem dX8_edge_95 : decode cX8_edge 95 = .ok (.aload_n 0, 1) := by decide +kernel
theorem dX8_edge_96 : decode cX8_edge 96 = .ok (.getfield 32, 3) := by decide +kernel
theorem dX8_edge_99 : decode cX8_edge 99 = .ok (.iload_n 3, 1) := by decide +kernel
theorem dX8_edge_100 : decode cX8_edge 100 = .ok (.iaload, 1) := by decide +kernel
theorem dX8_edge_101 : decode cX8_edge 101 = .ok (.isub, 1) := by decide +kernel
theorem dX8_edge_102 : decode cX8_edge 102 = .ok (.invokestatic 176, 3) := by decide +kernel
theorem dX8_edge_105 : decode cX8_edge 105 = .ok (.iadd, 1) := by decide +kernel
theorem dX8_edge_106 : decode cX8_edge 106 = .ok (.istore_n 2, 1) := by decide +kernel
theorem dX8_edge_107 : decode cX8_edge 107 = .ok (.iinc 3 1, 3) := by decide +kernel
theorem dX8_edge_110 : decode cX8_edge 110 = .ok (.goto (-48), 3) := by decide +kernel
theorem dX8_edge_113 : decode cX8_edge 113 = .ok (.iload_n 2, 1) := by decide +kernel
theorem dX8_edge_114 : decode cX8_edge 114 = .ok (.ireturn, 1) := by decide +kernel
theorem dX8_floor_0 : decode cX8_floor 0 = .ok (.iload_n 0, 1) := by decide +kernel
theorem dX8_floor_1 : decode cX8_floor 1 = .ok (.ifCond .lt 9, 3) := by decide +kernel
theorem dX8_floor_4 : decode cX8_floor 4 = .ok (.iload_n 0, 1) := by decide +kernel
theorem dX8_floor_5 : decode cX8_floor 5 = .ok (.iload_n 1, 1) := by decide +kernel
theorem dX8_floor_6 : decode cX8_floor 6 = .ok (.idiv, 1) := by decide +kernel
theorem dX8_floor_7 : decode cX8_floor 7 = .ok (.goto 12, 3) := by decide +kernel
theorem dX8_floor_10 : decode cX8_floor 10 = .ok (.iconst 0, 1) := by decide +kernel
theorem dX8_floor_11 : decode cX8_floor 11 = .ok (.iload_n 1, 1) := by decide +kernel
theorem dX8_floor_12 : decode cX8_floor 12 = .ok (.iconst 1, 1) := by decide +kernel
theorem dX8_floor_13 : decode cX8_floor 13 = .ok (.isub, 1) := by decide +kernel
theorem dX8_floor_14 : decode cX8_floor 14 = .ok (.iload_n 0, 1) := by decide +kernel
theorem dX8_floor_15 : decode cX8_floor 15 = .ok (.isub, 1) := by decide +kernel
theorem dX8_floor_16 : decode cX8_floor 16 = .ok (.iload_n 1, 1) := by decide +kernel
theorem dX8_floor_17 : decode cX8_floor 17 = .ok (.idiv, 1) := by decide +kernel
theorem dX8_floor_18 : decode cX8_floor 18 = .ok (.isub, 1) := by decide +kernel
theorem dX8_floor_19 : decode cX8_floor 19 = .ok (.ireturn, 1) := by decide +kernel
theorem dX8_innerIn_0 : decode cX8_innerIn 0 = .ok (.sipush (-500), 3) := by decide +kernel
theorem dX8_innerIn_3 : decode cX8_innerIn 3 = .ok (.istore_n 2, 1) := by decide +kernel
theorem dX8_innerIn_4 : decode cX8_innerIn 4 = .ok (.sipush 500, 3) := by decide +kernel
theorem dX8_innerIn_7 : decode cX8_innerIn 7 = .ok (.istore_n 3, 1) := by decide +kernel
theorem dX8_innerIn_8 : decode cX8_innerIn 8 = .ok (.aload_n 0, 1) := by decide +kernel
theorem dX8_innerIn_9 : decode cX8_innerIn 9 = .ok (.getfield 35, 3) := by decide +kernel
theorem dX8_innerIn_12 : decode cX8_innerIn 12 = .ok (.iconst 0, 1) := by decide +kernel
theorem dX8_innerIn_13 : decode cX8_innerIn 13 = .ok (.iaload, 1) := by decide +kernel
theorem dX8_innerIn_14 : decode cX8_innerIn 14 = .ok (.istore 4, 2) := by decide +kernel
theorem dX8_innerIn_16 : decode cX8_innerIn 16 = .ok (.iconst 0, 1) := by decide +kernel
theorem dX8_innerIn_17 : decode cX8_innerIn 17 = .ok (.istore 5, 2) := by decide +kernel
theorem dX8_innerIn_19 : decode cX8_innerIn 19 = .ok (.iload 5, 2) := by decide +kernel
theorem dX8_innerIn_21 : decode cX8_innerIn 21 = .ok (.iload 4, 2) := by decide +kernel
theorem dX8_innerIn_23 : decode cX8_innerIn 23 = .ok (.if_icmp .ge 164, 3) := by decide +kernel
theorem dX8_innerIn_26 : decode cX8_innerIn 26 = .ok (.aload_n 0, 1) := by decide +kernel
theorem dX8_innerIn_27 : decode cX8_innerIn 27 = .ok (.getfield 29, 3) := by decide +kernel
theorem dX8_innerIn_30 : decode cX8_innerIn 30 = .ok (.iload 5, 2) := by decide +kernel
theorem dX8_innerIn_32 : decode cX8_innerIn 32 = .ok (.iconst 1, 1) := by decide +kernel
theorem dX8_innerIn_33 : decode cX8_innerIn 33 = .ok (.iadd, 1) := by decide +kernel
theorem dX8_innerIn_34 : decode cX8_innerIn 34 = .ok (.iload 4, 2) := by decide +kernel
theorem dX8_innerIn_36 : decode cX8_innerIn 36 = .ok (.irem, 1) := by decide +kernel
theorem dX8_innerIn_37 : decode cX8_innerIn 37 = .ok (.iaload, 1) := by decide +kernel
theorem dX8_innerIn_38 : decode cX8_innerIn 38 = .ok (.aload_n 0, 1) := by decide +kernel
theorem dX8_innerIn_39 : decode cX8_innerIn 39 = .ok (.getfield 29, 3) := by decide +kernel
theorem dX8_innerIn_42 : decode cX8_innerIn 42 = .ok (.iload 5, 2) := by decide +kernel
theorem dX8_innerIn_44 : decode cX8_innerIn 44 = .ok (.iaload, 1) := by decide +kernel
theorem dX8_innerIn_45 : decode cX8_innerIn 45 = .ok (.isub, 1) := by decide +kernel
theorem dX8_innerIn_46 : decode cX8_innerIn 46 = .ok (.istore 6, 2) := by decide +kernel
theorem dX8_innerIn_48 : decode cX8_innerIn 48 = .ok (.aload_n 0, 1) := by decide +kernel
theorem dX8_innerIn_49 : decode cX8_innerIn 49 = .ok (.getfield 32, 3) := by decide +kernel
theorem dX8_innerIn_52 : decode cX8_innerIn 52 = .ok (.iload 5, 2) := by decide +kernel
theorem dX8_innerIn_54 : decode cX8_innerIn 54 = .ok (.iconst 1, 1) := by decide +kernel
theorem dX8_innerIn_55 : decode cX8_innerIn 55 = .ok (.iadd, 1) := by decide +kernel
theorem dX8_innerIn_56 : decode cX8_innerIn 56 = .ok (.iload 4, 2) := by decide +kernel
theorem dX8_innerIn_58 : decode cX8_innerIn 58 = .ok (.irem, 1) := by decide +kernel
theorem dX8_innerIn_59 : decode cX8_innerIn 59 = .ok (.iaload, 1) := by decide +kernel
theorem dX8_innerIn_60 : decode cX8_innerIn 60 = .ok (.aload_n 0, 1) := by decide +kernel
theorem dX8_innerIn_61 : decode cX8_innerIn 61 = .ok (.getfield 32, 3) := by decide +kernel
theorem dX8_innerIn_64 : decode cX8_innerIn 64 = .ok (.iload 5, 2) := by decide +kernel
theorem dX8_innerIn_66 : decode cX8_innerIn 66 = .ok (.iaload, 1) := by decide +kernel
theorem dX8_innerIn_67 : decode cX8_innerIn 67 = .ok (.isub, 1) := by decide +kernel
theorem dX8_innerIn_68 : decode cX8_innerIn 68 = .ok (.istore 7, 2) := by decide +kernel
theorem dX8_innerIn_70 : decode cX8_innerIn 70 = .ok (.iload 6, 2) := by decide +kernel
theorem dX8_innerIn_72 : decode cX8_innerIn 72 = .ok (.iload_n 1, 1) := by decide +kernel
theorem dX8_innerIn_73 : decode cX8_innerIn 73 = .ok (.aload_n 0, 1) := by decide +kernel
theorem dX8_innerIn_74 : decode cX8_innerIn 74 = .ok (.getfield 32, 3) := by decide +kernel
theorem dX8_innerIn_77 : decode cX8_innerIn 77 = .ok (.iload 5, 2) := by decide +kernel
theorem dX8_innerIn_79 : decode cX8_innerIn 79 = .ok (.iaload, 1) := by decide +kernel
theorem dX8_innerIn_80 : decode cX8_innerIn 80 = .ok (.isub, 1) := by decide +kernel
theorem dX8_innerIn_81 : decode cX8_innerIn 81 = .ok (.imul, 1) := by decide +kernel
theorem dX8_innerIn_82 : decode cX8_innerIn 82 = .ok (.istore 8, 2) := by decide +kernel
theorem dX8_innerIn_84 : decode cX8_innerIn 84 = .ok (.iload 7, 2) := by decide +kernel
theorem dX8_innerIn_86 : decode cX8_innerIn 86 = .ok (.ifCond .ne 10, 3) := by decide +kernel
theorem dX8_innerIn_89 : decode cX8_innerIn 89 = .ok (.iload 8, 2) := by decide +kernel
theorem dX8_innerIn_91 : decode cX8_innerIn 91 = .ok (.ifCond .gt 5, 3) := by decide +kernel
theorem dX8_innerIn_94 : decode cX8_innerIn 94 = .ok (.iconst 0, 1) := by decide +kernel
theorem dX8_innerIn_95 : decode cX8_innerIn 95 = .ok (.ireturn, 1) := by decide +kernel
theorem dX8_innerIn_96 : decode cX8_innerIn 96 = .ok (.iload 7, 2) := by decide +kernel
theorem dX8_innerIn_98 : decode cX8_innerIn 98 = .ok (.ifCond .le 23, 3) := by decide +kernel
theorem dX8_innerIn_101 : decode cX8_innerIn 101 = .ok (.aload_n 0, 1) := by decide +kernel
theorem dX8_innerIn_102 : decode cX8_innerIn 102 = .ok (.getfield 29, 3) := by decide +kernel
theorem dX8_innerIn_105 : decode cX8_innerIn 105 = .ok (.iload 5, 2) := by decide +kernel
theorem dX8_innerIn_107 : decode cX8_innerIn 107 = .ok (.iaload, 1) := by decide +kernel
theorem dX8_innerIn_108 : decode cX8_innerIn 108 = .ok (.iload 8, 2) := by decide +kernel
theorem dX8_innerIn_110 : decode cX8_innerIn 110 = .ok (.iconst 1, 1) := by decide +kernel
theorem dX8_innerIn_111 : decode cX8_innerIn 111 = .ok (.isub, 1) := by decide +kernel
theorem dX8_innerIn_112 : decode cX8_innerIn 112 = .ok (.iload 7, 2) := by decide +kernel
theorem dX8_innerIn_114 : decode cX8_innerIn 114 = .ok (.invokestatic 179, 3) := by decide +kernel
theorem dX8_innerIn_117 : decode cX8_innerIn 117 = .ok (.iadd, 1) := by decide +kernel
theorem dX8_innerIn_118 : decode cX8_innerIn 118 = .ok (.goto 33, 3) := by decide +kernel
theorem dX8_innerIn_121 : decode cX8_innerIn 121 = .ok (.iload 7, 2) := by decide +kernel
theorem dX8_innerIn_123 : decode cX8_innerIn 123 = .ok (.ifCond .ge 27, 3) := by decide +kernel
theorem dX8_innerIn_126 : decode cX8_innerIn 126 = .ok (.aload_n 0, 1) := by decide +kernel
theorem dX8_innerIn_127 : decode cX8_innerIn 127 = .ok (.getfield 29, 3) := by decide +kernel
theorem dX8_innerIn_130 : decode cX8_innerIn 130 = .ok (.iload 5, 2) := by decide +kernel
theorem dX8_innerIn_132 : decode cX8_innerIn 132 = .ok (.iaload, 1) := by decide +kernel
theorem dX8_innerIn_133 : decode cX8_innerIn 133 = .ok (.iconst 0, 1) := by decide +kernel
theorem dX8_innerIn_134 : decode cX8_innerIn 134 = .ok (.iload 8, 2) := by decide +kernel
theorem dX8_innerIn_136 : decode cX8_innerIn 136 = .ok (.isub, 1) := by decide +kernel
theorem dX8_innerIn_137 : decode cX8_innerIn 137 = .ok (.iconst 0, 1) := by decide +kernel
theorem dX8_innerIn_138 : decode cX8_innerIn 138 = .ok (.iload 7, 2) := by decide +kernel
theorem dX8_innerIn_140 : decode cX8_innerIn 140 = .ok (.isub, 1) := by decide +kernel
theorem dX8_innerIn_141 : decode cX8_innerIn 141 = .ok (.invokestatic 179, 3) := by decide +kernel
theorem dX8_innerIn_144 : decode cX8_innerIn 144 = .ok (.iadd, 1) := by decide +kernel
theorem dX8_innerIn_145 : decode cX8_innerIn 145 = .ok (.iconst 1, 1) := by decide +kernel
theorem dX8_innerIn_146 : decode cX8_innerIn 146 = .ok (.iadd, 1) := by decide +kernel
theorem dX8_innerIn_147 : decode cX8_innerIn 147 = .ok (.goto 4, 3) := by decide +kernel
theorem dX8_innerIn_150 : decode cX8_innerIn 150 = .ok (.iconst 0, 1) := by decide +kernel
theorem dX8_innerIn_151 : decode cX8_innerIn 151 = .ok (.istore 9, 2) := by decide +kernel
theorem dX8_innerIn_153 : decode cX8_innerIn 153 = .ok (.iload 7, 2) := by decide +kernel
theorem dX8_innerIn_155 : decode cX8_innerIn 155 = .ok (.ifCond .le 12, 3) := by decide +kernel
theorem dX8_innerIn_158 : decode cX8_innerIn 158 = .ok (.iload 9, 2) := by decide +kernel
theorem dX8_innerIn_160 : decode cX8_innerIn 160 = .ok (.iload_n 3, 1) := by decide +kernel
theorem dX8_innerIn_161 : decode cX8_innerIn 161 = .ok (.if_icmp .ge 6, 3) := by decide +kernel
theorem dX8_innerIn_164 : decode cX8_innerIn 164 = .ok (.iload 9, 2) := by decide +kernel
theorem dX8_innerIn_166 : decode cX8_innerIn 166 = .ok (.istore_n 3, 1) := by decide +kernel
theorem dX8_innerIn_167 : decode cX8_innerIn 167 = .ok (.iload 7, 2) := by decide +kernel
theorem dX8_innerIn_169 : decode cX8_innerIn 169 = .ok (.ifCond .ge 12, 3) := by decide +kernel
theorem dX8_innerIn_172 : decode cX8_innerIn 172 = .ok (.iload 9, 2) := by decide +kernel
theorem dX8_innerIn_174 : decode cX8_innerIn 174 = .ok (.iload_n 2, 1) := by decide +kernel
theorem dX8_innerIn_175 : decode cX8_innerIn 175 = .ok (.if_icmp .le 6, 3) := by decide +kernel
theorem dX8_innerIn_178 : decode cX8_innerIn 178 = .ok (.iload 9, 2) := by decide +kernel
theorem dX8_innerIn_180 : decode cX8_innerIn 180 = .ok (.istore_n 2, 1) := by decide +kernel
theorem dX8_innerIn_181 : decode cX8_innerIn 181 = .ok (.iinc 5 1, 3) := by decide +kernel
theorem dX8_innerIn_184 : decode cX8_innerIn 184 = .ok (.goto (-165), 3) := by decide +kernel
theorem dX8_innerIn_187 : decode cX8_innerIn 187 = .ok (.iload_n 3, 1) := by decide +kernel
theorem dX8_innerIn_188 : decode cX8_innerIn 188 = .ok (.iload_n 2, 1) := by decide +kernel
theorem dX8_innerIn_189 : decode cX8_innerIn 189 = .ok (.if_icmp .ge 7, 3) := by decide +kernel
theorem dX8_innerIn_192 : decode cX8_innerIn 192 = .ok (.iconst 0, 1) := by decide +kernel
theorem dX8_innerIn_193 : decode cX8_innerIn 193 = .ok (.goto 8, 3) := by decide +kernel
theorem dX8_innerIn_196 : decode cX8_innerIn 196 = .ok (.iload_n 3, 1) := by decide +kernel
theorem dX8_innerIn_197 : decode cX8_innerIn 197 = .ok (.iload_n 2, 1) := by decide +kernel
theorem dX8_innerIn_198 : decode cX8_innerIn 198 = .ok (.isub, 1) := by decide +kernel
theorem dX8_innerIn_199 : decode cX8_innerIn 199 = .ok (.iconst 1, 1) := by decide +kernel
theorem dX8_innerIn_200 : decode cX8_innerIn 200 = .ok (.iadd, 1) := by decide +kernel
theorem dX8_innerIn_201 : decode cX8_innerIn 201 = .ok (.ireturn, 1) := by decide +kernel
theorem dX8_inner_0 : decode cX8_inner 0 = .ok (.aload_n 0, 1) := by decide +kernel
theorem dX8_inner_1 : decode cX8_inner 1 = .ok (.iconst 0, 1) := by decide +kernel
theorem dX8_inner_2 : decode cX8_inner 2 = .ok (.putfield 1, 3) := by decide +kernel
theorem dX8_inner_5 : decode cX8_inner 5 = .ok (.iconst 0, 1) := by decide +kernel
theorem dX8_inner_6 : decode cX8_inner 6 = .ok (.istore_n 1, 1) := by decide +kernel
theorem dX8_inner_7 : decode cX8_inner 7 = .ok (.sipush (-400), 3) := by decide +kernel
theorem dX8_inner_10 : decode cX8_inner 10 = .ok (.istore_n 2, 1) := by decide +kernel
theorem dX8_inner_11 : decode cX8_inner 11 = .ok (.iload_n 2, 1) := by decide +kernel
theorem dX8_inner_12 : decode cX8_inner 12 = .ok (.sipush 400, 3) := by decide +kernel
theorem dX8_inner_15 : decode cX8_inner 15 = .ok (.if_icmp .gt 27, 3) := by decide +kernel
theorem dX8_inner_18 : decode cX8_inner 18 = .ok (.aload_n 0, 1) := by decide +kernel
theorem dX8_inner_19 : decode cX8_inner 19 = .ok (.getfield 35, 3) := by decide +kernel
theorem dX8_inner_22 : decode cX8_inner 22 = .ok (.iconst 0, 1) := by decide +kernel
theorem dX8_inner_23 : decode cX8_inner 23 = .ok (.iaload, 1) := by decide +kernel
theorem dX8_inner_24 : decode cX8_inner 24 = .ok (.iconst 2, 1) := by decide +kernel
theorem dX8_inner_25 : decode cX8_inner 25 = .ok (.if_icmp .le 17, 3) := by decide +kernel
theorem dX8_inner_28 : decode cX8_inner 28 = .ok (.iload_n 1, 1) := by decide +kernel
theorem dX8_inner_29 : decode cX8_inner 29 = .ok (.aload_n 0, 1) := by decide +kernel
theorem dX8_inner_30 : decode cX8_inner 30 = .ok (.iload_n 2, 1) := by decide +kernel
theorem dX8_inner_31 : decode cX8_inner 31 = .ok (.invokevirtual 182, 3) := by decide +kernel
theorem dX8_inner_34 : decode cX8_inner 34 = .ok (.iadd, 1) := by decide +kernel
theorem dX8_inner_35 : decode cX8_inner 35 = .ok (.istore_n 1, 1) := by decide +kernel
theorem dX8_inner_36 : decode cX8_inner 36 = .ok (.iinc 2 1, 3) := by decide +kernel
theorem dX8_inner_39 : decode cX8_inner 39 = .ok (.goto (-28), 3) := by decide +kernel
theorem dX8_inner_42 : decode cX8_inner 42 = .ok (.iload_n 1, 1) := by decide +kernel
theorem dX8_inner_43 : decode cX8_inner 43 = .ok (.ireturn, 1) := by decide +kernel
theorem dX8_lies_0 : decode cX8_lies 0 = .ok (.aload_n 0, 1) := by decide +kernel
theorem dX8_lies_1 : decode cX8_lies 1 = .ok (.iconst 0, 1) := by decide +kernel
theorem dX8_lies_2 : decode cX8_lies 2 = .ok (.putfield 1, 3) := by decide +kernel
theorem dX8_lies_5 : decode cX8_lies 5 = .ok (.aload_n 0, 1) := by decide +kernel
theorem dX8_lies_6 : decode cX8_lies 6 = .ok (.getfield 35, 3) := by decide +kernel
theorem dX8_lies_9 : decode cX8_lies 9 = .ok (.iconst 0, 1) := by decide +kernel
theorem dX8_lies_10 : decode cX8_lies 10 = .ok (.iaload, 1) := by decide +kernel
theorem dX8_lies_11 : decode cX8_lies 11 = .ok (.ifCond .ne 7, 3) := by decide +kernel
theorem dX8_lies_14 : decode cX8_lies 14 = .ok (.iconst (-1), 1) := by decide +kernel
theorem dX8_lies_15 : decode cX8_lies 15 = .ok (.goto 10, 3) := by decide +kernel
theorem dX8_lies_18 : decode cX8_lies 18 = .ok (.aload_n 0, 1) := by decide +kernel
theorem dX8_lies_19 : decode cX8_lies 19 = .ok (.iconst 0, 1) := by decide +kernel
theorem dX8_lies_20 : decode cX8_lies 20 = .ok (.iload_n 1, 1) := by decide +kernel
theorem dX8_lies_21 : decode cX8_lies 21 = .ok (.iload_n 2, 1) := by decide +kernel
theorem dX8_lies_22 : decode cX8_lies 22 = .ok (.invokevirtual 162, 3) := by decide +kernel
theorem dX8_lies_25 : decode cX8_lies 25 = .ok (.ireturn, 1) := by decide +kernel
theorem dX8_findsWidth_0 : decode cX8_findsWidth 0 = .ok (.aload_n 0, 1) := by decide +kernel
theorem dX8_findsWidth_1 : decode cX8_findsWidth 1 = .ok (.getfield 35, 3) := by decide +kernel
theorem dX8_findsWidth_4 : decode cX8_findsWidth 4 = .ok (.iconst 0, 1) := by decide +kernel
theorem dX8_findsWidth_5 : decode cX8_findsWidth 5 = .ok (.iaload, 1) := by decide +kernel
theorem dX8_findsWidth_6 : decode cX8_findsWidth 6 = .ok (.istore_n 1, 1) := by decide +kernel
theorem dX8_findsWidth_7 : decode cX8_findsWidth 7 = .ok (.aload_n 0, 1) := by decide +kernel
theorem dX8_findsWidth_8 : decode cX8_findsWidth 8 = .ok (.lconst 0, 1) := by decide +kernel
theorem dX8_findsWidth_9 : decode cX8_findsWidth 9 = .ok (.putfield 185, 3) := by decide +kernel
theorem dX8_findsWidth_12 : decode cX8_findsWidth 12 = .ok (.iconst 0, 1) := by decide +kernel
theorem dX8_findsWidth_13 : decode cX8_findsWidth 13 = .ok (.istore_n 2, 1) := by decide +kernel
theorem dX8_findsWidth_14 : decode cX8_findsWidth 14 = .ok (.iload_n 2, 1) := by decide +kernel
theorem dX8_findsWidth_15 : decode cX8_findsWidth 15 = .ok (.iload_n 1, 1) := by decide +kernel
theorem dX8_findsWidth_16 : decode cX8_findsWidth 16 = .ok (.if_icmp .ge 175, 3) := by decide +kernel
theorem dX8_findsWidth_19 : decode cX8_findsWidth 19 = .ok (.aload_n 0, 1) := by decide +kernel
theorem dX8_findsWidth_20 : decode cX8_findsWidth 20 = .ok (.getfield 29, 3) := by decide +kernel
theorem dX8_findsWidth_23 : decode cX8_findsWidth 23 = .ok (.iload_n 2, 1) := by decide +kernel
theorem dX8_findsWidth_24 : decode cX8_findsWidth 24 = .ok (.iconst 1, 1) := by decide +kernel
theorem dX8_findsWidth_25 : decode cX8_findsWidth 25 = .ok (.iadd, 1) := by decide +kernel
theorem dX8_findsWidth_26 : decode cX8_findsWidth 26 = .ok (.iload_n 1, 1) := by decide +kernel
theorem dX8_findsWidth_27 : decode cX8_findsWidth 27 = .ok (.irem, 1) := by decide +kernel
theorem dX8_findsWidth_28 : decode cX8_findsWidth 28 = .ok (.iaload, 1) := by decide +kernel
theorem dX8_findsWidth_29 : decode cX8_findsWidth 29 = .ok (.aload_n 0, 1) := by decide +kernel
theorem dX8_findsWidth_30 : decode cX8_findsWidth 30 = .ok (.getfield 29, 3) := by decide +kernel
theorem dX8_findsWidth_33 : decode cX8_findsWidth 33 = .ok (.iload_n 2, 1) := by decide +kernel
theorem dX8_findsWidth_34 : decode cX8_findsWidth 34 = .ok (.iaload, 1) := by decide +kernel
theorem dX8_findsWidth_35 : decode cX8_findsWidth 35 = .ok (.isub, 1) := by decide +kernel
theorem dX8_findsWidth_36 : decode cX8_findsWidth 36 = .ok (.i2l, 1) := by decide +kernel
theorem dX8_findsWidth_37 : decode cX8_findsWidth 37 = .ok (.lstore_n 3, 1) := by decide +kernel
theorem dX8_findsWidth_38 : decode cX8_findsWidth 38 = .ok (.aload_n 0, 1) := by decide +kernel
theorem dX8_findsWidth_39 : decode cX8_findsWidth 39 = .ok (.getfield 32, 3) := by decide +kernel
theorem dX8_findsWidth_42 : decode cX8_findsWidth 42 = .ok (.iload_n 2, 1) := by decide +kernel
theorem dX8_findsWidth_43 : decode cX8_findsWidth 43 = .ok (.iconst 1, 1) := by decide +kernel
theorem dX8_findsWidth_44 : decode cX8_findsWidth 44 = .ok (.iadd, 1) := by decide +kernel
theorem dX8_findsWidth_45 : decode cX8_findsWidth 45 = .ok (.iload_n 1, 1) := by decide +kernel
theorem dX8_findsWidth_46 : decode cX8_findsWidth 46 = .ok (.irem, 1) := by decide +kernel
theorem dX8_findsWidth_47 : decode cX8_findsWidth 47 = .ok (.iaload, 1) := by decide +kernel
theorem dX8_findsWidth_48 : decode cX8_findsWidth 48 = .ok (.aload_n 0, 1) := by decide +kernel
theorem dX8_findsWidth_49 : decode cX8_findsWidth 49 = .ok (.getfield 32, 3) := by decide +kernel
theorem dX8_findsWidth_52 : decode cX8_findsWidth 52 = .ok (.iload_n 2, 1) := by decide +kernel
theorem dX8_findsWidth_53 : decode cX8_findsWidth 53 = .ok (.iaload, 1) := by decide +kernel
theorem dX8_findsWidth_54 : decode cX8_findsWidth 54 = .ok (.isub, 1) := by decide +kernel
theorem dX8_findsWidth_55 : decode cX8_findsWidth 55 = .ok (.i2l, 1) := by decide +kernel
theorem dX8_findsWidth_56 : decode cX8_findsWidth 56 = .ok (.lstore 5, 2) := by decide +kernel
theorem dX8_findsWidth_58 : decode cX8_findsWidth 58 = .ok (.lconst 0, 1) := by decide +kernel
theorem dX8_findsWidth_59 : decode cX8_findsWidth 59 = .ok (.lstore 7, 2) := by decide +kernel
theorem dX8_findsWidth_61 : decode cX8_findsWidth 61 = .ok (.iconst 0, 1) := by decide +kernel
theorem dX8_findsWidth_62 : decode cX8_findsWidth 62 = .ok (.istore 9, 2) := by decide +kernel
theorem dX8_findsWidth_64 : decode cX8_findsWidth 64 = .ok (.iload 9, 2) := by decide +kernel
theorem dX8_findsWidth_66 : decode cX8_findsWidth 66 = .ok (.iload_n 1, 1) := by decide +kernel
theorem dX8_findsWidth_67 : decode cX8_findsWidth 67 = .ok (.if_icmp .ge 59, 3) := by decide +kernel
theorem dX8_findsWidth_70 : decode cX8_findsWidth 70 = .ok (.lload_n 3, 1) := by decide +kernel
theorem dX8_findsWidth_71 : decode cX8_findsWidth 71 = .ok (.aload_n 0, 1) := by decide +kernel
theorem dX8_findsWidth_72 : decode cX8_findsWidth 72 = .ok (.getfield 32, 3) := by decide +kernel
theorem dX8_findsWidth_75 : decode cX8_findsWidth 75 = .ok (.iload 9, 2) := by decide +kernel
theorem dX8_findsWidth_77 : decode cX8_findsWidth 77 = .ok (.iaload, 1) := by decide +kernel
theorem dX8_findsWidth_78 : decode cX8_findsWidth 78 = .ok (.aload_n 0, 1) := by decide +kernel
theorem dX8_findsWidth_79 : decode cX8_findsWidth 79 = .ok (.getfield 32, 3) := by decide +kernel
theorem dX8_findsWidth_82 : decode cX8_findsWidth 82 = .ok (.iload_n 2, 1) := by decide +kernel
theorem dX8_findsWidth_83 : decode cX8_findsWidth 83 = .ok (.iaload, 1) := by decide +kernel
theorem dX8_findsWidth_84 : decode cX8_findsWidth 84 = .ok (.isub, 1) := by decide +kernel
theorem dX8_findsWidth_85 : decode cX8_findsWidth 85 = .ok (.i2l, 1) := by decide +kernel
theorem dX8_findsWidth_86 : decode cX8_findsWidth 86 = .ok (.lmul, 1) := by decide +kernel
theorem dX8_findsWidth_87 : decode cX8_findsWidth 87 = .ok (.lload 5, 2) := by decide +kernel
theorem dX8_findsWidth_89 : decode cX8_findsWidth 89 = .ok (.aload_n 0, 1) := by decide +kernel
theorem dX8_findsWidth_90 : decode cX8_findsWidth 90 = .ok (.getfield 29, 3) := by decide +kernel
theorem dX8_findsWidth_93 : decode cX8_findsWidth 93 = .ok (.iload 9, 2) := by decide +kernel
theorem dX8_findsWidth_95 : decode cX8_findsWidth 95 = .ok (.iaload, 1) := by decide +kernel
theorem dX8_findsWidth_96 : decode cX8_findsWidth 96 = .ok (.aload_n 0, 1) := by decide +kernel
theorem dX8_findsWidth_97 : decode cX8_findsWidth 97 = .ok (.getfield 29, 3) := by decide +kernel
theorem dX8_findsWidth_100 : decode cX8_findsWidth 100 = .ok (.iload_n 2, 1) := by decide +kernel
theorem dX8_findsWidth_101 : decode cX8_findsWidth 101 = .ok (.iaload, 1) := by decide +kernel
theorem dX8_findsWidth_102 : decode cX8_findsWidth 102 = .ok (.isub, 1) := by decide +kernel
theorem dX8_findsWidth_103 : decode cX8_findsWidth 103 = .ok (.i2l, 1) := by decide +kernel
theorem dX8_findsWidth_104 : decode cX8_findsWidth 104 = .ok (.lmul, 1) := by decide +kernel
theorem dX8_findsWidth_105 : decode cX8_findsWidth 105 = .ok (.lsub, 1) := by decide +kernel
theorem dX8_findsWidth_106 : decode cX8_findsWidth 106 = .ok (.lstore 10, 2) := by decide +kernel
theorem dX8_findsWidth_108 : decode cX8_findsWidth 108 = .ok (.lload 10, 2) := by decide +kernel
theorem dX8_findsWidth_110 : decode cX8_findsWidth 110 = .ok (.lload 7, 2) := by decide +kernel
theorem dX8_findsWidth_112 : decode cX8_findsWidth 112 = .ok (.lcmp, 1) := by decide +kernel
theorem dX8_findsWidth_113 : decode cX8_findsWidth 113 = .ok (.ifCond .le 7, 3) := by decide +kernel
theorem dX8_findsWidth_116 : decode cX8_findsWidth 116 = .ok (.lload 10, 2) := by decide +kernel
theorem dX8_findsWidth_118 : decode cX8_findsWidth 118 = .ok (.lstore 7, 2) := by decide +kernel
theorem dX8_findsWidth_120 : decode cX8_findsWidth 120 = .ok (.iinc 9 1, 3) := by decide +kernel
theorem dX8_findsWidth_123 : decode cX8_findsWidth 123 = .ok (.goto (-59), 3) := by decide +kernel
theorem dX8_findsWidth_126 : decode cX8_findsWidth 126 = .ok (.lload_n 3, 1) := by decide +kernel
theorem dX8_findsWidth_127 : decode cX8_findsWidth 127 = .ok (.lload_n 3, 1) := by decide +kernel
theorem dX8_findsWidth_128 : decode cX8_findsWidth 128 = .ok (.lmul, 1) := by decide +kernel
theorem dX8_findsWidth_129 : decode cX8_findsWidth 129 = .ok (.lload 5, 2) := by decide +kernel
theorem dX8_findsWidth_131 : decode cX8_findsWidth 131 = .ok (.lload 5, 2) := by decide +kernel
theorem dX8_findsWidth_133 : decode cX8_findsWidth 133 = .ok (.lmul, 1) := by decide +kernel
theorem dX8_findsWidth_134 : decode cX8_findsWidth 134 = .ok (.ladd, 1) := by decide +kernel
theorem dX8_findsWidth_135 : decode cX8_findsWidth 135 = .ok (.lstore 9, 2) := by decide +kernel
theorem dX8_findsWidth_137 : decode cX8_findsWidth 137 = .ok (.aload_n 0, 1) := by decide +kernel
theorem dX8_findsWidth_138 : decode cX8_findsWidth 138 = .ok (.getfield 185, 3) := by decide +kernel
theorem dX8_findsWidth_141 : decode cX8_findsWidth 141 = .ok (.lconst 0, 1) := by decide +kernel
theorem dX8_findsWidth_142 : decode cX8_findsWidth 142 = .ok (.lcmp, 1) := by decide +kernel
theorem dX8_findsWidth_143 : decode cX8_findsWidth 143 = .ok (.ifCond .le 27, 3) := by decide +kernel
theorem dX8_findsWidth_146 : decode cX8_findsWidth 146 = .ok (.lload 7, 2) := by decide +kernel
theorem dX8_findsWidth_148 : decode cX8_findsWidth 148 = .ok (.lload 7, 2) := by decide +kernel
theorem dX8_findsWidth_150 : decode cX8_findsWidth 150 = .ok (.lmul, 1) := by decide +kernel
theorem dX8_findsWidth_151 : decode cX8_findsWidth 151 = .ok (.aload_n 0, 1) := by decide +kernel
theorem dX8_findsWidth_152 : decode cX8_findsWidth 152 = .ok (.getfield 185, 3) := by decide +kernel
theorem dX8_findsWidth_155 : decode cX8_findsWidth 155 = .ok (.lmul, 1) := by decide +kernel
theorem dX8_findsWidth_156 : decode cX8_findsWidth 156 = .ok (.aload_n 0, 1) := by decide +kernel
theorem dX8_findsWidth_157 : decode cX8_findsWidth 157 = .ok (.getfield 189, 3) := by decide +kernel
theorem dX8_findsWidth_160 : decode cX8_findsWidth 160 = .ok (.lload 9, 2) := by decide +kernel
theorem dX8_findsWidth_162 : decode cX8_findsWidth 162 = .ok (.lmul, 1) := by decide +kernel
theorem dX8_findsWidth_163 : decode cX8_findsWidth 163 = .ok (.lcmp, 1) := by decide +kernel
theorem dX8_findsWidth_164 : decode cX8_findsWidth 164 = .ok (.ifCond .lt 6, 3) := by decide +kernel
theorem dX8_findsWidth_167 : decode cX8_findsWidth 167 = .ok (.goto 18, 3) := by decide +kernel
theorem dX8_findsWidth_170 : decode cX8_findsWidth 170 = .ok (.aload_n 0, 1) := by decide +kernel
theorem dX8_findsWidth_171 : decode cX8_findsWidth 171 = .ok (.lload 7, 2) := by decide +kernel
theorem dX8_findsWidth_173 : decode cX8_findsWidth 173 = .ok (.lload 7, 2) := by decide +kernel
theorem dX8_findsWidth_175 : decode cX8_findsWidth 175 = .ok (.lmul, 1) := by decide +kernel
theorem dX8_findsWidth_176 : decode cX8_findsWidth 176 = .ok (.putfield 189, 3) := by decide +kernel
theorem dX8_findsWidth_179 : decode cX8_findsWidth 179 = .ok (.aload_n 0, 1) := by decide +kernel
theorem dX8_findsWidth_180 : decode cX8_findsWidth 180 = .ok (.lload 9, 2) := by decide +kernel
theorem dX8_findsWidth_182 : decode cX8_findsWidth 182 = .ok (.putfield 185, 3) := by decide +kernel
theorem dX8_findsWidth_185 : decode cX8_findsWidth 185 = .ok (.iinc 2 1, 3) := by decide +kernel
theorem dX8_findsWidth_188 : decode cX8_findsWidth 188 = .ok (.goto (-174), 3) := by decide +kernel
theorem dX8_findsWidth_191 : decode cX8_findsWidth 191 = .ok (.aload_n 0, 1) := by decide +kernel
theorem dX8_findsWidth_192 : decode cX8_findsWidth 192 = .ok (.getfield 189, 3) := by decide +kernel
theorem dX8_findsWidth_195 : decode cX8_findsWidth 195 = .ok (.lstore_n 2, 1) := by decide +kernel
theorem dX8_findsWidth_196 : decode cX8_findsWidth 196 = .ok (.aload_n 0, 1) := by decide +kernel
theorem dX8_findsWidth_197 : decode cX8_findsWidth 197 = .ok (.getfield 185, 3) := by decide +kernel
theorem dX8_findsWidth_200 : decode cX8_findsWidth 200 = .ok (.lstore 4, 2) := by decide +kernel
theorem dX8_findsWidth_202 : decode cX8_findsWidth 202 = .ok (.lload 4, 2) := by decide +kernel
theorem dX8_findsWidth_204 : decode cX8_findsWidth 204 = .ok (.lconst 0, 1) := by decide +kernel
theorem dX8_findsWidth_205 : decode cX8_findsWidth 205 = .ok (.lcmp, 1) := by decide +kernel
theorem dX8_findsWidth_206 : decode cX8_findsWidth 206 = .ok (.ifCond .le 19, 3) := by decide +kernel
theorem dX8_findsWidth_209 : decode cX8_findsWidth 209 = .ok (.lload_n 2, 1) := by decide +kernel
theorem dX8_findsWidth_210 : decode cX8_findsWidth 210 = .ok (.lload 4, 2) := by decide +kernel
theorem dX8_findsWidth_212 : decode cX8_findsWidth 212 = .ok (.lrem, 1) := by decide +kernel
theorem dX8_findsWidth_213 : decode cX8_findsWidth 213 = .ok (.lstore 6, 2) := by decide +kernel
theorem dX8_findsWidth_215 : decode cX8_findsWidth 215 = .ok (.lload 4, 2) := by decide +kernel
theorem dX8_findsWidth_217 : decode cX8_findsWidth 217 = .ok (.lstore_n 2, 1) := by decide +kernel
theorem dX8_findsWidth_218 : decode cX8_findsWidth 218 = .ok (.lload 6, 2) := by decide +kernel
theorem dX8_findsWidth_220 : decode cX8_findsWidth 220 = .ok (.lstore 4, 2) := by decide +kernel
theorem dX8_findsWidth_222 : decode cX8_findsWidth 222 = .ok (.goto (-20), 3) := by decide +kernel
theorem dX8_findsWidth_225 : decode cX8_findsWidth 225 = .ok (.aload_n 0, 1) := by decide +kernel
theorem dX8_findsWidth_226 : decode cX8_findsWidth 226 = .ok (.dup, 1) := by decide +kernel
theorem dX8_findsWidth_227 : decode cX8_findsWidth 227 = .ok (.getfield 189, 3) := by decide +kernel
theorem dX8_findsWidth_230 : decode cX8_findsWidth 230 = .ok (.lload_n 2, 1) := by decide +kernel
theorem dX8_findsWidth_231 : decode cX8_findsWidth 231 = .ok (.ldiv, 1) := by decide +kernel
theorem dX8_findsWidth_232 : decode cX8_findsWidth 232 = .ok (.putfield 189, 3) := by decide +kernel
theorem dX8_findsWidth_235 : decode cX8_findsWidth 235 = .ok (.aload_n 0, 1) := by decide +kernel
theorem dX8_findsWidth_236 : decode cX8_findsWidth 236 = .ok (.dup, 1) := by decide +kernel
theorem dX8_findsWidth_237 : decode cX8_findsWidth 237 = .ok (.getfield 185, 3) := by decide +kernel
theorem dX8_findsWidth_240 : decode cX8_findsWidth 240 = .ok (.lload_n 2, 1) := by decide +kernel
theorem dX8_findsWidth_241 : decode cX8_findsWidth 241 = .ok (.ldiv, 1) := by decide +kernel
theorem dX8_findsWidth_242 : decode cX8_findsWidth 242 = .ok (.putfield 185, 3) := by decide +kernel
theorem dX8_findsWidth_245 : decode cX8_findsWidth 245 = .ok (.return_, 1) := by decide +kernel
theorem dX8_width_0 : decode cX8_width 0 = .ok (.aload_n 0, 1) := by decide +kernel
theorem dX8_width_1 : decode cX8_width 1 = .ok (.iconst 0, 1) := by decide +kernel
theorem dX8_width_2 : decode cX8_width 2 = .ok (.putfield 1, 3) := by decide +kernel
theorem dX8_width_5 : decode cX8_width 5 = .ok (.aload_n 0, 1) := by decide +kernel
theorem dX8_width_6 : decode cX8_width 6 = .ok (.aload_n 0, 1) := by decide +kernel
theorem dX8_width_7 : decode cX8_width 7 = .ok (.getfield 35, 3) := by decide +kernel
theorem dX8_width_10 : decode cX8_width 10 = .ok (.iconst 0, 1) := by decide +kernel
theorem dX8_width_11 : decode cX8_width 11 = .ok (.iaload, 1) := by decide +kernel
theorem dX8_width_12 : decode cX8_width 12 = .ok (.iconst 2, 1) := by decide +kernel
theorem dX8_width_13 : decode cX8_width 13 = .ok (.if_icmp .le 7, 3) := by decide +kernel
theorem dX8_width_16 : decode cX8_width 16 = .ok (.iconst 1, 1) := by decide +kernel
theorem dX8_width_17 : decode cX8_width 17 = .ok (.goto 4, 3) := by decide +kernel
theorem dX8_width_20 : decode cX8_width 20 = .ok (.iconst 0, 1) := by decide +kernel
theorem dX8_width_21 : decode cX8_width 21 = .ok (.iconst 1, 1) := by decide +kernel
theorem dX8_width_22 : decode cX8_width 22 = .ok (.invokevirtual 104, 3) := by decide +kernel
theorem dX8_width_25 : decode cX8_width 25 = .ok (.ifCond .eq 5, 3) := by decide +kernel
theorem dX8_width_28 : decode cX8_width 28 = .ok (.lconst 0, 1) := by decide +kernel
theorem dX8_width_29 : decode cX8_width 29 = .ok (.lreturn, 1) := by decide +kernel
theorem dX8_width_30 : decode cX8_width 30 = .ok (.aload_n 0, 1) := by decide +kernel
theorem dX8_width_31 : decode cX8_width 31 = .ok (.invokevirtual 192, 3) := by decide +kernel
theorem dX8_width_34 : decode cX8_width 34 = .ok (.iload_n 1, 1) := by decide +kernel
theorem dX8_width_35 : decode cX8_width 35 = .ok (.ifCond .eq 10, 3) := by decide +kernel
theorem dX8_width_38 : decode cX8_width 38 = .ok (.aload_n 0, 1) := by decide +kernel
theorem dX8_width_39 : decode cX8_width 39 = .ok (.getfield 185, 3) := by decide +kernel
theorem dX8_width_42 : decode cX8_width 42 = .ok (.goto 7, 3) := by decide +kernel
theorem dX8_width_45 : decode cX8_width 45 = .ok (.aload_n 0, 1) := by decide +kernel
theorem dX8_width_46 : decode cX8_width 46 = .ok (.getfield 189, 3) := by decide +kernel
theorem dX8_width_49 : decode cX8_width 49 = .ok (.lreturn, 1) := by decide +kernel
theorem dX8_noPolygon_0 : decode cX8_noPolygon 0 = .ok (.aload_n 0, 1) := by decide +kernel
theorem dX8_noPolygon_1 : decode cX8_noPolygon 1 = .ok (.iload_n 1, 1) := by decide +kernel
theorem dX8_noPolygon_2 : decode cX8_noPolygon 2 = .ok (.iconst 0, 1) := by decide +kernel
theorem dX8_noPolygon_3 : decode cX8_noPolygon 3 = .ok (.iconst 3, 1) := by decide +kernel
theorem dX8_noPolygon_4 : decode cX8_noPolygon 4 = .ok (.invokestatic 96, 3) := by decide +kernel
theorem dX8_noPolygon_7 : decode cX8_noPolygon 7 = .ok (.iconst 1, 1) := by decide +kernel
theorem dX8_noPolygon_8 : decode cX8_noPolygon 8 = .ok (.invokevirtual 104, 3) := by decide +kernel
theorem dX8_noPolygon_11 : decode cX8_noPolygon 11 = .ok (.ireturn, 1) := by decide +kernel
theorem dX8_add_0 : decode cX8_add 0 = .ok (.aload_n 0, 1) := by decide +kernel
theorem dX8_add_1 : decode cX8_add 1 = .ok (.iconst 0, 1) := by decide +kernel
theorem dX8_add_2 : decode cX8_add 2 = .ok (.putfield 1, 3) := by decide +kernel
theorem dX8_add_5 : decode cX8_add 5 = .ok (.aload_n 0, 1) := by decide +kernel
theorem dX8_add_6 : decode cX8_add 6 = .ok (.iload_n 1, 1) := by decide +kernel
theorem dX8_add_7 : decode cX8_add 7 = .ok (.invokevirtual 195, 3) := by decide +kernel
theorem dX8_add_10 : decode cX8_add 10 = .ok (.ifCond .ne 40, 3) := by decide +kernel
theorem dX8_add_13 : decode cX8_add 13 = .ok (.aload_n 0, 1) := by decide +kernel
theorem dX8_add_14 : decode cX8_add 14 = .ok (.iload_n 2, 1) := by decide +kernel
theorem dX8_add_15 : decode cX8_add 15 = .ok (.iload_n 3, 1) := by decide +kernel
theorem dX8_add_16 : decode cX8_add 16 = .ok (.invokestatic 115, 3) := by decide +kernel
theorem dX8_add_19 : decode cX8_add 19 = .ok (.iconst 1, 1) := by decide +kernel
theorem dX8_add_20 : decode cX8_add 20 = .ok (.invokevirtual 104, 3) := by decide +kernel
theorem dX8_add_23 : decode cX8_add 23 = .ok (.ifCond .ne 27, 3) := by decide +kernel
theorem dX8_add_26 : decode cX8_add 26 = .ok (.aload_n 0, 1) := by decide +kernel
theorem dX8_add_27 : decode cX8_add 27 = .ok (.aload_n 0, 1) := by decide +kernel
theorem dX8_add_28 : decode cX8_add 28 = .ok (.getfield 48, 3) := by decide +kernel
theorem dX8_add_31 : decode cX8_add 31 = .ok (.iload_n 1, 1) := by decide +kernel
theorem dX8_add_32 : decode cX8_add 32 = .ok (.iaload, 1) := by decide +kernel
theorem dX8_add_33 : decode cX8_add 33 = .ok (.bipush 16, 2) := by decide +kernel
theorem dX8_add_35 : decode cX8_add 35 = .ok (.if_icmp .ge 7, 3) := by decide +kernel
theorem dX8_add_38 : decode cX8_add 38 = .ok (.iconst 1, 1) := by decide +kernel
theorem dX8_add_39 : decode cX8_add 39 = .ok (.goto 4, 3) := by decide +kernel
theorem dX8_add_42 : decode cX8_add 42 = .ok (.iconst 0, 1) := by decide +kernel
theorem dX8_add_43 : decode cX8_add 43 = .ok (.iconst 2, 1) := by decide +kernel
theorem dX8_add_44 : decode cX8_add 44 = .ok (.invokevirtual 104, 3) := by decide +kernel
theorem dX8_add_47 : decode cX8_add 47 = .ok (.ifCond .eq 5, 3) := by decide +kernel
theorem dX8_add_50 : decode cX8_add 50 = .ok (.iconst 0, 1) := by decide +kernel
theorem dX8_add_51 : decode cX8_add 51 = .ok (.ireturn, 1) := by decide +kernel
theorem dX8_add_52 : decode cX8_add 52 = .ok (.aload_n 0, 1) := by decide +kernel
theorem dX8_add_53 : decode cX8_add 53 = .ok (.getfield 42, 3) := by decide +kernel
theorem dX8_add_56 : decode cX8_add 56 = .ok (.bipush 16, 2) := by decide +kernel
theorem dX8_add_58 : decode cX8_add 58 = .ok (.iload_n 1, 1) := by decide +kernel
theorem dX8_add_59 : decode cX8_add 59 = .ok (.imul, 1) := by decide +kernel
theorem dX8_add_60 : decode cX8_add 60 = .ok (.aload_n 0, 1) := by decide +kernel
theorem dX8_add_61 : decode cX8_add 61 = .ok (.getfield 48, 3) := by decide +kernel
theorem dX8_add_64 : decode cX8_add 64 = .ok (.iload_n 1, 1) := by decide +kernel
theorem dX8_add_65 : decode cX8_add 65 = .ok (.iaload, 1) := by decide +kernel
theorem dX8_add_66 : decode cX8_add 66 = .ok (.iadd, 1) := by decide +kernel
theorem dX8_add_67 : decode cX8_add 67 = .ok (.iload_n 2, 1) := by decide +kernel
theorem dX8_add_68 : decode cX8_add 68 = .ok (.iastore, 1) := by decide +kernel
theorem dX8_add_69 : decode cX8_add 69 = .ok (.aload_n 0, 1) := by decide +kernel
theorem dX8_add_70 : decode cX8_add 70 = .ok (.getfield 45, 3) := by decide +kernel
theorem dX8_add_73 : decode cX8_add 73 = .ok (.bipush 16, 2) := by decide +kernel
theorem dX8_add_75 : decode cX8_add 75 = .ok (.iload_n 1, 1) := by decide +kernel
theorem dX8_add_76 : decode cX8_add 76 = .ok (.imul, 1) := by decide +kernel
theorem dX8_add_77 : decode cX8_add 77 = .ok (.aload_n 0, 1) := by decide +kernel
theorem dX8_add_78 : decode cX8_add 78 = .ok (.getfield 48, 3) := by decide +kernel
theorem dX8_add_81 : decode cX8_add 81 = .ok (.iload_n 1, 1) := by decide +kernel
theorem dX8_add_82 : decode cX8_add 82 = .ok (.iaload, 1) := by decide +kernel
theorem dX8_add_83 : decode cX8_add 83 = .ok (.iadd, 1) := by decide +kernel
theorem dX8_add_84 : decode cX8_add 84 = .ok (.iload_n 3, 1) := by decide +kernel
theorem dX8_add_85 : decode cX8_add 85 = .ok (.iastore, 1) := by decide +kernel
theorem dX8_add_86 : decode cX8_add 86 = .ok (.aload_n 0, 1) := by decide +kernel
theorem dX8_add_87 : decode cX8_add 87 = .ok (.getfield 48, 3) := by decide +kernel
theorem dX8_add_90 : decode cX8_add 90 = .ok (.iload_n 1, 1) := by decide +kernel
theorem dX8_add_91 : decode cX8_add 91 = .ok (.dup2, 1) := by decide +kernel
theorem dX8_add_92 : decode cX8_add 92 = .ok (.iaload, 1) := by decide +kernel
theorem dX8_add_93 : decode cX8_add 93 = .ok (.iconst 1, 1) := by decide +kernel
theorem dX8_add_94 : decode cX8_add 94 = .ok (.iadd, 1) := by decide +kernel
theorem dX8_add_95 : decode cX8_add 95 = .ok (.iastore, 1) := by decide +kernel
theorem dX8_add_96 : decode cX8_add 96 = .ok (.aload_n 0, 1) := by decide +kernel
theorem dX8_add_97 : decode cX8_add 97 = .ok (.getfield 48, 3) := by decide +kernel
theorem dX8_add_100 : decode cX8_add 100 = .ok (.iload_n 1, 1) := by decide +kernel
theorem dX8_add_101 : decode cX8_add 101 = .ok (.iaload, 1) := by decide +kernel
theorem dX8_add_102 : decode cX8_add 102 = .ok (.ireturn, 1) := by decide +kernel
theorem dX8_clear_0 : decode cX8_clear 0 = .ok (.aload_n 0, 1) := by decide +kernel
theorem dX8_clear_1 : decode cX8_clear 1 = .ok (.iconst 0, 1) := by decide +kernel
theorem dX8_clear_2 : decode cX8_clear 2 = .ok (.putfield 1, 3) := by decide +kernel
theorem dX8_clear_5 : decode cX8_clear 5 = .ok (.aload_n 0, 1) := by decide +kernel
theorem dX8_clear_6 : decode cX8_clear 6 = .ok (.iload_n 1, 1) := by decide +kernel
theorem dX8_clear_7 : decode cX8_clear 7 = .ok (.invokevirtual 195, 3) := by decide +kernel
theorem dX8_clear_10 : decode cX8_clear 10 = .ok (.ifCond .eq 5, 3) := by decide +kernel
theorem dX8_clear_13 : decode cX8_clear 13 = .ok (.iconst 0, 1) := by decide +kernel
theorem dX8_clear_14 : decode cX8_clear 14 = .ok (.ireturn, 1) := by decide +kernel
theorem dX8_clear_15 : decode cX8_clear 15 = .ok (.aload_n 0, 1) := by decide +kernel
theorem dX8_clear_16 : decode cX8_clear 16 = .ok (.getfield 48, 3) := by decide +kernel
theorem dX8_clear_19 : decode cX8_clear 19 = .ok (.iload_n 1, 1) := by decide +kernel
theorem dX8_clear_20 : decode cX8_clear 20 = .ok (.iaload, 1) := by decide +kernel
theorem dX8_clear_21 : decode cX8_clear 21 = .ok (.istore_n 2, 1) := by decide +kernel
theorem dX8_clear_22 : decode cX8_clear 22 = .ok (.aload_n 0, 1) := by decide +kernel
theorem dX8_clear_23 : decode cX8_clear 23 = .ok (.getfield 48, 3) := by decide +kernel
theorem dX8_clear_26 : decode cX8_clear 26 = .ok (.iload_n 1, 1) := by decide +kernel
theorem dX8_clear_27 : decode cX8_clear 27 = .ok (.iconst 0, 1) := by decide +kernel
theorem dX8_clear_28 : decode cX8_clear 28 = .ok (.iastore, 1) := by decide +kernel
theorem dX8_clear_29 : decode cX8_clear 29 = .ok (.iload_n 2, 1) := by decide +kernel
theorem dX8_clear_30 : decode cX8_clear 30 = .ok (.ireturn, 1) := by decide +kernel
theorem dX8_hullOf_0 : decode cX8_hullOf 0 = .ok (.aload_n 0, 1) := by decide +kernel
theorem dX8_hullOf_1 : decode cX8_hullOf 1 = .ok (.iconst 0, 1) := by decide +kernel
theorem dX8_hullOf_2 : decode cX8_hullOf 2 = .ok (.putfield 1, 3) := by decide +kernel
theorem dX8_hullOf_5 : decode cX8_hullOf 5 = .ok (.aload_n 0, 1) := by decide +kernel
theorem dX8_hullOf_6 : decode cX8_hullOf 6 = .ok (.iload_n 1, 1) := by decide +kernel
theorem dX8_hullOf_7 : decode cX8_hullOf 7 = .ok (.invokevirtual 195, 3) := by decide +kernel
theorem dX8_hullOf_10 : decode cX8_hullOf 10 = .ok (.ifCond .ne 25, 3) := by decide +kernel
theorem dX8_hullOf_13 : decode cX8_hullOf 13 = .ok (.aload_n 0, 1) := by decide +kernel
theorem dX8_hullOf_14 : decode cX8_hullOf 14 = .ok (.aload_n 0, 1) := by decide +kernel
theorem dX8_hullOf_15 : decode cX8_hullOf 15 = .ok (.getfield 48, 3) := by decide +kernel
theorem dX8_hullOf_18 : decode cX8_hullOf 18 = .ok (.iload_n 1, 1) := by decide +kernel
theorem dX8_hullOf_19 : decode cX8_hullOf 19 = .ok (.iaload, 1) := by decide +kernel
theorem dX8_hullOf_20 : decode cX8_hullOf 20 = .ok (.ifCond .le 7, 3) := by decide +kernel
theorem dX8_hullOf_23 : decode cX8_hullOf 23 = .ok (.iconst 1, 1) := by decide +kernel
theorem dX8_hullOf_24 : decode cX8_hullOf 24 = .ok (.goto 4, 3) := by decide +kernel
theorem dX8_hullOf_27 : decode cX8_hullOf 27 = .ok (.iconst 0, 1) := by decide +kernel
theorem dX8_hullOf_28 : decode cX8_hullOf 28 = .ok (.iconst 2, 1) := by decide +kernel
theorem dX8_hullOf_29 : decode cX8_hullOf 29 = .ok (.invokevirtual 104, 3) := by decide +kernel
theorem dX8_hullOf_32 : decode cX8_hullOf 32 = .ok (.ifCond .eq 5, 3) := by decide +kernel
theorem dX8_hullOf_35 : decode cX8_hullOf 35 = .ok (.iconst 0, 1) := by decide +kernel
theorem dX8_hullOf_36 : decode cX8_hullOf 36 = .ok (.ireturn, 1) := by decide +kernel
theorem dX8_hullOf_37 : decode cX8_hullOf 37 = .ok (.aload_n 0, 1) := by decide +kernel
theorem dX8_hullOf_38 : decode cX8_hullOf 38 = .ok (.iconst 0, 1) := by decide +kernel
theorem dX8_hullOf_39 : decode cX8_hullOf 39 = .ok (.putfield 136, 3) := by decide +kernel
theorem dX8_hullOf_42 : decode cX8_hullOf 42 = .ok (.iconst 0, 1) := by decide +kernel
theorem dX8_hullOf_43 : decode cX8_hullOf 43 = .ok (.istore_n 2, 1) := by decide +kernel
theorem dX8_hullOf_44 : decode cX8_hullOf 44 = .ok (.iload_n 2, 1) := by decide +kernel
theorem dX8_hullOf_45 : decode cX8_hullOf 45 = .ok (.aload_n 0, 1) := by decide +kernel
theorem dX8_hullOf_46 : decode cX8_hullOf 46 = .ok (.getfield 48, 3) := by decide +kernel
theorem dX8_hullOf_49 : decode cX8_hullOf 49 = .ok (.iload_n 1, 1) := by decide +kernel
theorem dX8_hullOf_50 : decode cX8_hullOf 50 = .ok (.iaload, 1) := by decide +kernel
theorem dX8_hullOf_51 : decode cX8_hullOf 51 = .ok (.if_icmp .ge 35, 3) := by decide +kernel
theorem dX8_hullOf_54 : decode cX8_hullOf 54 = .ok (.aload_n 0, 1) := by decide +kernel
theorem dX8_hullOf_55 : decode cX8_hullOf 55 = .ok (.aload_n 0, 1) := by decide +kernel
theorem dX8_hullOf_56 : decode cX8_hullOf 56 = .ok (.getfield 42, 3) := by decide +kernel
theorem dX8_hullOf_59 : decode cX8_hullOf 59 = .ok (.bipush 16, 2) := by decide +kernel
theorem dX8_hullOf_61 : decode cX8_hullOf 61 = .ok (.iload_n 1, 1) := by decide +kernel
theorem dX8_hullOf_62 : decode cX8_hullOf 62 = .ok (.imul, 1) := by decide +kernel
theorem dX8_hullOf_63 : decode cX8_hullOf 63 = .ok (.iload_n 2, 1) := by decide +kernel
theorem dX8_hullOf_64 : decode cX8_hullOf 64 = .ok (.iadd, 1) := by decide +kernel
theorem dX8_hullOf_65 : decode cX8_hullOf 65 = .ok (.iaload, 1) := by decide +kernel
theorem dX8_hullOf_66 : decode cX8_hullOf 66 = .ok (.aload_n 0, 1) := by decide +kernel
theorem dX8_hullOf_67 : decode cX8_hullOf 67 = .ok (.getfield 45, 3) := by decide +kernel
theorem dX8_hullOf_70 : decode cX8_hullOf 70 = .ok (.bipush 16, 2) := by decide +kernel
theorem dX8_hullOf_72 : decode cX8_hullOf 72 = .ok (.iload_n 1, 1) := by decide +kernel
theorem dX8_hullOf_73 : decode cX8_hullOf 73 = .ok (.imul, 1) := by decide +kernel
theorem dX8_hullOf_74 : decode cX8_hullOf 74 = .ok (.iload_n 2, 1) := by decide +kernel
theorem dX8_hullOf_75 : decode cX8_hullOf 75 = .ok (.iadd, 1) := by decide +kernel
theorem dX8_hullOf_76 : decode cX8_hullOf 76 = .ok (.iaload, 1) := by decide +kernel
theorem dX8_hullOf_77 : decode cX8_hullOf 77 = .ok (.invokevirtual 139, 3) := by decide +kernel
theorem dX8_hullOf_80 : decode cX8_hullOf 80 = .ok (.iinc 2 1, 3) := by decide +kernel
theorem dX8_hullOf_83 : decode cX8_hullOf 83 = .ok (.goto (-39), 3) := by decide +kernel
theorem dX8_hullOf_86 : decode cX8_hullOf 86 = .ok (.aload_n 0, 1) := by decide +kernel
theorem dX8_hullOf_87 : decode cX8_hullOf 87 = .ok (.iconst 0, 1) := by decide +kernel
theorem dX8_hullOf_88 : decode cX8_hullOf 88 = .ok (.invokevirtual 150, 3) := by decide +kernel
theorem dX8_hullOf_91 : decode cX8_hullOf 91 = .ok (.ireturn, 1) := by decide +kernel
theorem dX8_takesFirst_0 : decode cX8_takesFirst 0 = .ok (.aload_n 0, 1) := by decide +kernel
theorem dX8_takesFirst_1 : decode cX8_takesFirst 1 = .ok (.iload_n 1, 1) := by decide +kernel
theorem dX8_takesFirst_2 : decode cX8_takesFirst 2 = .ok (.putfield 198, 3) := by decide +kernel
theorem dX8_takesFirst_5 : decode cX8_takesFirst 5 = .ok (.aload_n 0, 1) := by decide +kernel
theorem dX8_takesFirst_6 : decode cX8_takesFirst 6 = .ok (.iload_n 2, 1) := by decide +kernel
theorem dX8_takesFirst_7 : decode cX8_takesFirst 7 = .ok (.putfield 201, 3) := by decide +kernel
theorem dX8_takesFirst_10 : decode cX8_takesFirst 10 = .ok (.aload_n 0, 1) := by decide +kernel
theorem dX8_takesFirst_11 : decode cX8_takesFirst 11 = .ok (.iload_n 3, 1) := by decide +kernel
theorem dX8_takesFirst_12 : decode cX8_takesFirst 12 = .ok (.putfield 204, 3) := by decide +kernel
theorem dX8_takesFirst_15 : decode cX8_takesFirst 15 = .ok (.aload_n 0, 1) := by decide +kernel
theorem dX8_takesFirst_16 : decode cX8_takesFirst 16 = .ok (.iload 4, 2) := by decide +kernel
theorem dX8_takesFirst_18 : decode cX8_takesFirst 18 = .ok (.putfield 207, 3) := by decide +kernel
theorem dX8_takesFirst_21 : decode cX8_takesFirst 21 = .ok (.return_, 1) := by decide +kernel
theorem dX8_takesSecond_0 : decode cX8_takesSecond 0 = .ok (.aload_n 0, 1) := by decide +kernel
theorem dX8_takesSecond_1 : decode cX8_takesSecond 1 = .ok (.iload_n 1, 1) := by decide +kernel
theorem dX8_takesSecond_2 : decode cX8_takesSecond 2 = .ok (.putfield 210, 3) := by decide +kernel
theorem dX8_takesSecond_5 : decode cX8_takesSecond 5 = .ok (.aload_n 0, 1) := by decide +kernel
theorem dX8_takesSecond_6 : decode cX8_takesSecond 6 = .ok (.iload_n 2, 1) := by decide +kernel
theorem dX8_takesSecond_7 : decode cX8_takesSecond 7 = .ok (.putfield 213, 3) := by decide +kernel
theorem dX8_takesSecond_10 : decode cX8_takesSecond 10 = .ok (.aload_n 0, 1) := by decide +kernel
theorem dX8_takesSecond_11 : decode cX8_takesSecond 11 = .ok (.iload_n 3, 1) := by decide +kernel
theorem dX8_takesSecond_12 : decode cX8_takesSecond 12 = .ok (.putfield 216, 3) := by decide +kernel
theorem dX8_takesSecond_15 : decode cX8_takesSecond 15 = .ok (.aload_n 0, 1) := by decide +kernel
theorem dX8_takesSecond_16 : decode cX8_takesSecond 16 = .ok (.iload 4, 2) := by decide +kernel
theorem dX8_takesSecond_18 : decode cX8_takesSecond 18 = .ok (.putfield 219, 3) := by decide +kernel
theorem dX8_takesSecond_21 : decode cX8_takesSecond 21 = .ok (.return_, 1) := by decide +kernel
theorem dX8_doTouch_0 : decode cX8_doTouch 0 = .ok (.aload_n 0, 1) := by decide +kernel
theorem dX8_doTouch_1 : decode cX8_doTouch 1 = .ok (.getfield 198, 3) := by decide +kernel
theorem dX8_doTouch_4 : decode cX8_doTouch 4 = .ok (.i2l, 1) := by decide +kernel
theorem dX8_doTouch_5 : decode cX8_doTouch 5 = .ok (.aload_n 0, 1) := by decide +kernel
theorem dX8_doTouch_6 : decode cX8_doTouch 6 = .ok (.getfield 201, 3) := by decide +kernel
theorem dX8_doTouch_9 : decode cX8_doTouch 9 = .ok (.i2l, 1) := by decide +kernel
theorem dX8_doTouch_10 : decode cX8_doTouch 10 = .ok (.aload_n 0, 1) := by decide +kernel
theorem dX8_doTouch_11 : decode cX8_doTouch 11 = .ok (.getfield 204, 3) := by decide +kernel
theorem dX8_doTouch_14 : decode cX8_doTouch 14 = .ok (.i2l, 1) := by decide +kernel
theorem dX8_doTouch_15 : decode cX8_doTouch 15 = .ok (.aload_n 0, 1) := by decide +kernel
theorem dX8_doTouch_16 : decode cX8_doTouch 16 = .ok (.getfield 207, 3) := by decide +kernel
theorem dX8_doTouch_19 : decode cX8_doTouch 19 = .ok (.i2l, 1) := by decide +kernel
theorem dX8_doTouch_20 : decode cX8_doTouch 20 = .ok (.aload_n 0, 1) := by decide +kernel
theorem dX8_doTouch_21 : decode cX8_doTouch 21 = .ok (.getfield 210, 3) := by decide +kernel
theorem dX8_doTouch_24 : decode cX8_doTouch 24 = .ok (.i2l, 1) := by decide +kernel
theorem dX8_doTouch_25 : decode cX8_doTouch 25 = .ok (.aload_n 0, 1) := by decide +kernel
theorem dX8_doTouch_26 : decode cX8_doTouch 26 = .ok (.getfield 213, 3) := by decide +kernel
theorem dX8_doTouch_29 : decode cX8_doTouch 29 = .ok (.i2l, 1) := by decide +kernel
theorem dX8_doTouch_30 : decode cX8_doTouch 30 = .ok (.invokestatic 169, 3) := by decide +kernel
theorem dX8_doTouch_33 : decode cX8_doTouch 33 = .ok (.ifCond .ne 111, 3) := by decide +kernel
theorem dX8_doTouch_36 : decode cX8_doTouch 36 = .ok (.aload_n 0, 1) := by decide +kernel
theorem dX8_doTouch_37 : decode cX8_doTouch 37 = .ok (.getfield 198, 3) := by decide +kernel
theorem dX8_doTouch_40 : decode cX8_doTouch 40 = .ok (.i2l, 1) := by decide +kernel
theorem dX8_doTouch_41 : decode cX8_doTouch 41 = .ok (.aload_n 0, 1) := by decide +kernel
theorem dX8_doTouch_42 : decode cX8_doTouch 42 = .ok (.getfield 201, 3) := by decide +kernel
theorem dX8_doTouch_45 : decode cX8_doTouch 45 = .ok (.i2l, 1) := by decide +kernel
theorem dX8_doTouch_46 : decode cX8_doTouch 46 = .ok (.aload_n 0, 1) := by decide +kernel
theorem dX8_doTouch_47 : decode cX8_doTouch 47 = .ok (.getfield 204, 3) := by decide +kernel
theorem dX8_doTouch_50 : decode cX8_doTouch 50 = .ok (.i2l, 1) := by decide +kernel
theorem dX8_doTouch_51 : decode cX8_doTouch 51 = .ok (.aload_n 0, 1) := by decide +kernel
theorem dX8_doTouch_52 : decode cX8_doTouch 52 = .ok (.getfield 207, 3) := by decide +kernel
theorem dX8_doTouch_55 : decode cX8_doTouch 55 = .ok (.i2l, 1) := by decide +kernel
theorem dX8_doTouch_56 : decode cX8_doTouch 56 = .ok (.aload_n 0, 1) := by decide +kernel
theorem dX8_doTouch_57 : decode cX8_doTouch 57 = .ok (.getfield 216, 3) := by decide +kernel
theorem dX8_doTouch_60 : decode cX8_doTouch 60 = .ok (.i2l, 1) := by decide +kernel
theorem dX8_doTouch_61 : decode cX8_doTouch 61 = .ok (.aload_n 0, 1) := by decide +kernel
theorem dX8_doTouch_62 : decode cX8_doTouch 62 = .ok (.getfield 219, 3) := by decide +kernel
theorem dX8_doTouch_65 : decode cX8_doTouch 65 = .ok (.i2l, 1) := by decide +kernel
theorem dX8_doTouch_66 : decode cX8_doTouch 66 = .ok (.invokestatic 169, 3) := by decide +kernel
theorem dX8_doTouch_69 : decode cX8_doTouch 69 = .ok (.ifCond .ne 75, 3) := by decide +kernel
theorem dX8_doTouch_72 : decode cX8_doTouch 72 = .ok (.aload_n 0, 1) := by decide +kernel
theorem dX8_doTouch_73 : decode cX8_doTouch 73 = .ok (.getfield 210, 3) := by decide +kernel
theorem dX8_doTouch_76 : decode cX8_doTouch 76 = .ok (.i2l, 1) := by decide +kernel
theorem dX8_doTouch_77 : decode cX8_doTouch 77 = .ok (.aload_n 0, 1) := by decide +kernel
theorem dX8_doTouch_78 : decode cX8_doTouch 78 = .ok (.getfield 213, 3) := by decide +kernel
theorem dX8_doTouch_81 : decode cX8_doTouch 81 = .ok (.i2l, 1) := by decide +kernel
theorem dX8_doTouch_82 : decode cX8_doTouch 82 = .ok (.aload_n 0, 1) := by decide +kernel
theorem dX8_doTouch_83 : decode cX8_doTouch 83 = .ok (.getfield 216, 3) := by decide +kernel
theorem dX8_doTouch_86 : decode cX8_doTouch 86 = .ok (.i2l, 1) := by decide +kernel
theorem dX8_doTouch_87 : decode cX8_doTouch 87 = .ok (.aload_n 0, 1) := by decide +kernel
theorem dX8_doTouch_88 : decode cX8_doTouch 88 = .ok (.getfield 219, 3) := by decide +kernel
theorem dX8_doTouch_91 : decode cX8_doTouch 91 = .ok (.i2l, 1) := by decide +kernel
theorem dX8_doTouch_92 : decode cX8_doTouch 92 = .ok (.aload_n 0, 1) := by decide +kernel
theorem dX8_doTouch_93 : decode cX8_doTouch 93 = .ok (.getfield 198, 3) := by decide +kernel
theorem dX8_doTouch_96 : decode cX8_doTouch 96 = .ok (.i2l, 1) := by decide +kernel
theorem dX8_doTouch_97 : decode cX8_doTouch 97 = .ok (.aload_n 0, 1) := by decide +kernel
theorem dX8_doTouch_98 : decode cX8_doTouch 98 = .ok (.getfield 201, 3) := by decide +kernel
theorem dX8_doTouch_101 : decode cX8_doTouch 101 = .ok (.i2l, 1) := by decide +kernel
theorem dX8_doTouch_102 : decode cX8_doTouch 102 = .ok (.invokestatic 169, 3) := by decide +kernel
theorem dX8_doTouch_105 : decode cX8_doTouch 105 = .ok (.ifCond .ne 39, 3) := by decide +kernel
theorem dX8_doTouch_108 : decode cX8_doTouch 108 = .ok (.aload_n 0, 1) := by decide +kernel
theorem dX8_doTouch_109 : decode cX8_doTouch 109 = .ok (.getfield 210, 3) := by decide +kernel
theorem dX8_doTouch_112 : decode cX8_doTouch 112 = .ok (.i2l, 1) := by decide +kernel
theorem dX8_doTouch_113 : decode cX8_doTouch 113 = .ok (.aload_n 0, 1) := by decide +kernel
theorem dX8_doTouch_114 : decode cX8_doTouch 114 = .ok (.getfield 213, 3) := by decide +kernel
theorem dX8_doTouch_117 : decode cX8_doTouch 117 = .ok (.i2l, 1) := by decide +kernel
theorem dX8_doTouch_118 : decode cX8_doTouch 118 = .ok (.aload_n 0, 1) := by decide +kernel
theorem dX8_doTouch_119 : decode cX8_doTouch 119 = .ok (.getfield 216, 3) := by decide +kernel
theorem dX8_doTouch_122 : decode cX8_doTouch 122 = .ok (.i2l, 1) := by decide +kernel
theorem dX8_doTouch_123 : decode cX8_doTouch 123 = .ok (.aload_n 0, 1) := by decide +kernel
theorem dX8_doTouch_124 : decode cX8_doTouch 124 = .ok (.getfield 219, 3) := by decide +kernel
theorem dX8_doTouch_127 : decode cX8_doTouch 127 = .ok (.i2l, 1) := by decide +kernel
theorem dX8_doTouch_128 : decode cX8_doTouch 128 = .ok (.aload_n 0, 1) := by decide +kernel
theorem dX8_doTouch_129 : decode cX8_doTouch 129 = .ok (.getfield 204, 3) := by decide +kernel
theorem dX8_doTouch_132 : decode cX8_doTouch 132 = .ok (.i2l, 1) := by decide +kernel
theorem dX8_doTouch_133 : decode cX8_doTouch 133 = .ok (.aload_n 0, 1) := by decide +kernel
theorem dX8_doTouch_134 : decode cX8_doTouch 134 = .ok (.getfield 207, 3) := by decide +kernel
theorem dX8_doTouch_137 : decode cX8_doTouch 137 = .ok (.i2l, 1) := by decide +kernel
theorem dX8_doTouch_138 : decode cX8_doTouch 138 = .ok (.invokestatic 169, 3) := by decide +kernel
theorem dX8_doTouch_141 : decode cX8_doTouch 141 = .ok (.ifCond .eq 5, 3) := by decide +kernel
theorem dX8_doTouch_144 : decode cX8_doTouch 144 = .ok (.iconst 1, 1) := by decide +kernel
theorem dX8_doTouch_145 : decode cX8_doTouch 145 = .ok (.ireturn, 1) := by decide +kernel
theorem dX8_doTouch_146 : decode cX8_doTouch 146 = .ok (.aload_n 0, 1) := by decide +kernel
theorem dX8_doTouch_147 : decode cX8_doTouch 147 = .ok (.invokevirtual 222, 3) := by decide +kernel
theorem dX8_doTouch_150 : decode cX8_doTouch 150 = .ok (.ireturn, 1) := by decide +kernel
theorem dX8_doCross_0 : decode cX8_doCross 0 = .ok (.aload_n 0, 1) := by decide +kernel
theorem dX8_doCross_1 : decode cX8_doCross 1 = .ok (.getfield 198, 3) := by decide +kernel
theorem dX8_doCross_4 : decode cX8_doCross 4 = .ok (.i2l, 1) := by decide +kernel
theorem dX8_doCross_5 : decode cX8_doCross 5 = .ok (.aload_n 0, 1) := by decide +kernel
theorem dX8_doCross_6 : decode cX8_doCross 6 = .ok (.getfield 201, 3) := by decide +kernel
theorem dX8_doCross_9 : decode cX8_doCross 9 = .ok (.i2l, 1) := by decide +kernel
theorem dX8_doCross_10 : decode cX8_doCross 10 = .ok (.aload_n 0, 1) := by decide +kernel
theorem dX8_doCross_11 : decode cX8_doCross 11 = .ok (.getfield 204, 3) := by decide +kernel
theorem dX8_doCross_14 : decode cX8_doCross 14 = .ok (.i2l, 1) := by decide +kernel
theorem dX8_doCross_15 : decode cX8_doCross 15 = .ok (.aload_n 0, 1) := by decide +kernel
theorem dX8_doCross_16 : decode cX8_doCross 16 = .ok (.getfield 207, 3) := by decide +kernel
theorem dX8_doCross_19 : decode cX8_doCross 19 = .ok (.i2l, 1) := by decide +kernel
theorem dX8_doCross_20 : decode cX8_doCross 20 = .ok (.aload_n 0, 1) := by decide +kernel
theorem dX8_doCross_21 : decode cX8_doCross 21 = .ok (.getfield 210, 3) := by decide +kernel
theorem dX8_doCross_24 : decode cX8_doCross 24 = .ok (.i2l, 1) := by decide +kernel
theorem dX8_doCross_25 : decode cX8_doCross 25 = .ok (.aload_n 0, 1) := by decide +kernel
theorem dX8_doCross_26 : decode cX8_doCross 26 = .ok (.getfield 213, 3) := by decide +kernel
theorem dX8_doCross_29 : decode cX8_doCross 29 = .ok (.i2l, 1) := by decide +kernel
theorem dX8_doCross_30 : decode cX8_doCross 30 = .ok (.invokestatic 132, 3) := by decide +kernel
theorem dX8_doCross_33 : decode cX8_doCross 33 = .ok (.aload_n 0, 1) := by decide +kernel
theorem dX8_doCross_34 : decode cX8_doCross 34 = .ok (.getfield 198, 3) := by decide +kernel
theorem dX8_doCross_37 : decode cX8_doCross 37 = .ok (.i2l, 1) := by decide +kernel
theorem dX8_doCross_38 : decode cX8_doCross 38 = .ok (.aload_n 0, 1) := by decide +kernel
theorem dX8_doCross_39 : decode cX8_doCross 39 = .ok (.getfield 201, 3) := by decide +kernel
theorem dX8_doCross_42 : decode cX8_doCross 42 = .ok (.i2l, 1) := by decide +kernel
theorem dX8_doCross_43 : decode cX8_doCross 43 = .ok (.aload_n 0, 1) := by decide +kernel
theorem dX8_doCross_44 : decode cX8_doCross 44 = .ok (.getfield 204, 3) := by decide +kernel
theorem dX8_doCross_47 : decode cX8_doCross 47 = .ok (.i2l, 1) := by decide +kernel
theorem dX8_doCross_48 : decode cX8_doCross 48 = .ok (.aload_n 0, 1) := by decide +kernel
theorem dX8_doCross_49 : decode cX8_doCross 49 = .ok (.getfield 207, 3) := by decide +kernel
theorem dX8_doCross_52 : decode cX8_doCross 52 = .ok (.i2l, 1) := by decide +kernel
theorem dX8_doCross_53 : decode cX8_doCross 53 = .ok (.aload_n 0, 1) := by decide +kernel
theorem dX8_doCross_54 : decode cX8_doCross 54 = .ok (.getfield 216, 3) := by decide +kernel
theorem dX8_doCross_57 : decode cX8_doCross 57 = .ok (.i2l, 1) := by decide +kernel
theorem dX8_doCross_58 : decode cX8_doCross 58 = .ok (.aload_n 0, 1) := by decide +kernel
theorem dX8_doCross_59 : decode cX8_doCross 59 = .ok (.getfield 219, 3) := by decide +kernel
theorem dX8_doCross_62 : decode cX8_doCross 62 = .ok (.i2l, 1) := by decide +kernel
theorem dX8_doCross_63 : decode cX8_doCross 63 = .ok (.invokestatic 132, 3) := by decide +kernel
theorem dX8_doCross_66 : decode cX8_doCross 66 = .ok (.imul, 1) := by decide +kernel
theorem dX8_doCross_67 : decode cX8_doCross 67 = .ok (.ifCond .ge 77, 3) := by decide +kernel
theorem dX8_doCross_70 : decode cX8_doCross 70 = .ok (.aload_n 0, 1) := by decide +kernel
theorem dX8_doCross_71 : decode cX8_doCross 71 = .ok (.getfield 210, 3) := by decide +kernel
theorem dX8_doCross_74 : decode cX8_doCross 74 = .ok (.i2l, 1) := by decide +kernel
theorem dX8_doCross_75 : decode cX8_doCross 75 = .ok (.aload_n 0, 1) := by decide +kernel
theorem dX8_doCross_76 : decode cX8_doCross 76 = .ok (.getfield 213, 3) := by decide +kernel
theorem dX8_doCross_79 : decode cX8_doCross 79 = .ok (.i2l, 1) := by decide +kernel
theorem dX8_doCross_80 : decode cX8_doCross 80 = .ok (.aload_n 0, 1) := by decide +kernel
theorem dX8_doCross_81 : decode cX8_doCross 81 = .ok (.getfield 216, 3) := by decide +kernel
theorem dX8_doCross_84 : decode cX8_doCross 84 = .ok (.i2l, 1) := by decide +kernel
theorem dX8_doCross_85 : decode cX8_doCross 85 = .ok (.aload_n 0, 1) := by decide +kernel
theorem dX8_doCross_86 : decode cX8_doCross 86 = .ok (.getfield 219, 3) := by decide +kernel
theorem dX8_doCross_89 : decode cX8_doCross 89 = .ok (.i2l, 1) := by decide +kernel
theorem dX8_doCross_90 : decode cX8_doCross 90 = .ok (.aload_n 0, 1) := by decide +kernel
theorem dX8_doCross_91 : decode cX8_doCross 91 = .ok (.getfield 198, 3) := by decide +kernel
theorem dX8_doCross_94 : decode cX8_doCross 94 = .ok (.i2l, 1) := by decide +kernel
theorem dX8_doCross_95 : decode cX8_doCross 95 = .ok (.aload_n 0, 1) := by decide +kernel
theorem dX8_doCross_96 : decode cX8_doCross 96 = .ok (.getfield 201, 3) := by decide +kernel
theorem dX8_doCross_99 : decode cX8_doCross 99 = .ok (.i2l, 1) := by decide +kernel
theorem dX8_doCross_100 : decode cX8_doCross 100 = .ok (.invokestatic 132, 3) := by decide +kernel
theorem dX8_doCross_103 : decode cX8_doCross 103 = .ok (.aload_n 0, 1) := by decide +kernel
theorem dX8_doCross_104 : decode cX8_doCross 104 = .ok (.getfield 210, 3) := by decide +kernel
theorem dX8_doCross_107 : decode cX8_doCross 107 = .ok (.i2l, 1) := by decide +kernel
theorem dX8_doCross_108 : decode cX8_doCross 108 = .ok (.aload_n 0, 1) := by decide +kernel
theorem dX8_doCross_109 : decode cX8_doCross 109 = .ok (.getfield 213, 3) := by decide +kernel
theorem dX8_doCross_112 : decode cX8_doCross 112 = .ok (.i2l, 1) := by decide +kernel
theorem dX8_doCross_113 : decode cX8_doCross 113 = .ok (.aload_n 0, 1) := by decide +kernel
theorem dX8_doCross_114 : decode cX8_doCross 114 = .ok (.getfield 216, 3) := by decide +kernel
theorem dX8_doCross_117 : decode cX8_doCross 117 = .ok (.i2l, 1) := by decide +kernel
theorem dX8_doCross_118 : decode cX8_doCross 118 = .ok (.aload_n 0, 1) := by decide +kernel
theorem dX8_doCross_119 : decode cX8_doCross 119 = .ok (.getfield 219, 3) := by decide +kernel
theorem dX8_doCross_122 : decode cX8_doCross 122 = .ok (.i2l, 1) := by decide +kernel
theorem dX8_doCross_123 : decode cX8_doCross 123 = .ok (.aload_n 0, 1) := by decide +kernel
theorem dX8_doCross_124 : decode cX8_doCross 124 = .ok (.getfield 204, 3) := by decide +kernel
theorem dX8_doCross_127 : decode cX8_doCross 127 = .ok (.i2l, 1) := by decide +kernel
theorem dX8_doCross_128 : decode cX8_doCross 128 = .ok (.aload_n 0, 1) := by decide +kernel
theorem dX8_doCross_129 : decode cX8_doCross 129 = .ok (.getfield 207, 3) := by decide +kernel
theorem dX8_doCross_132 : decode cX8_doCross 132 = .ok (.i2l, 1) := by decide +kernel
theorem dX8_doCross_133 : decode cX8_doCross 133 = .ok (.invokestatic 132, 3) := by decide +kernel
theorem dX8_doCross_136 : decode cX8_doCross 136 = .ok (.imul, 1) := by decide +kernel
theorem dX8_doCross_137 : decode cX8_doCross 137 = .ok (.ifCond .ge 7, 3) := by decide +kernel
theorem dX8_doCross_140 : decode cX8_doCross 140 = .ok (.iconst 1, 1) := by decide +kernel
theorem dX8_doCross_141 : decode cX8_doCross 141 = .ok (.goto 4, 3) := by decide +kernel
theorem dX8_doCross_144 : decode cX8_doCross 144 = .ok (.iconst 0, 1) := by decide +kernel
theorem dX8_doCross_145 : decode cX8_doCross 145 = .ok (.ireturn, 1) := by decide +kernel
theorem dX8_cornerOf_0 : decode cX8_cornerOf 0 = .ok (.bipush 16, 2) := by decide +kernel
theorem dX8_cornerOf_2 : decode cX8_cornerOf 2 = .ok (.iload_n 1, 1) := by decide +kernel
theorem dX8_cornerOf_3 : decode cX8_cornerOf 3 = .ok (.imul, 1) := by decide +kernel
theorem dX8_cornerOf_4 : decode cX8_cornerOf 4 = .ok (.iload_n 2, 1) := by decide +kernel
theorem dX8_cornerOf_5 : decode cX8_cornerOf 5 = .ok (.aload_n 0, 1) := by decide +kernel
theorem dX8_cornerOf_6 : decode cX8_cornerOf 6 = .ok (.getfield 48, 3) := by decide +kernel
theorem dX8_cornerOf_9 : decode cX8_cornerOf 9 = .ok (.iload_n 1, 1) := by decide +kernel
theorem dX8_cornerOf_10 : decode cX8_cornerOf 10 = .ok (.iaload, 1) := by decide +kernel
theorem dX8_cornerOf_11 : decode cX8_cornerOf 11 = .ok (.irem, 1) := by decide +kernel
theorem dX8_cornerOf_12 : decode cX8_cornerOf 12 = .ok (.iadd, 1) := by decide +kernel
theorem dX8_cornerOf_13 : decode cX8_cornerOf 13 = .ok (.ireturn, 1) := by decide +kernel
theorem dX8_isGood_0 : decode cX8_isGood 0 = .ok (.aload_n 0, 1) := by decide +kernel
theorem dX8_isGood_1 : decode cX8_isGood 1 = .ok (.getfield 48, 3) := by decide +kernel
theorem dX8_isGood_4 : decode cX8_isGood 4 = .ok (.iload_n 1, 1) := by decide +kernel
theorem dX8_isGood_5 : decode cX8_isGood 5 = .ok (.iaload, 1) := by decide +kernel
theorem dX8_isGood_6 : decode cX8_isGood 6 = .ok (.istore_n 2, 1) := by decide +kernel
theorem dX8_isGood_7 : decode cX8_isGood 7 = .ok (.iload_n 2, 1) := by decide +kernel
theorem dX8_isGood_8 : decode cX8_isGood 8 = .ok (.iconst 3, 1) := by decide +kernel
theorem dX8_isGood_9 : decode cX8_isGood 9 = .ok (.if_icmp .ge 5, 3) := by decide +kernel
theorem dX8_isGood_12 : decode cX8_isGood 12 = .ok (.iconst 0, 1) := by decide +kernel
theorem dX8_isGood_13 : decode cX8_isGood 13 = .ok (.ireturn, 1) := by decide +kernel
theorem dX8_isGood_14 : decode cX8_isGood 14 = .ok (.iconst 0, 1) := by decide +kernel
theorem dX8_isGood_15 : decode cX8_isGood 15 = .ok (.istore_n 3, 1) := by decide +kernel
theorem dX8_isGood_16 : decode cX8_isGood 16 = .ok (.iload_n 3, 1) := by decide +kernel
theorem dX8_isGood_17 : decode cX8_isGood 17 = .ok (.iload_n 2, 1) := by decide +kernel
theorem dX8_isGood_18 : decode cX8_isGood 18 = .ok (.if_icmp .ge 373, 3) := by decide +kernel
theorem dX8_isGood_21 : decode cX8_isGood 21 = .ok (.iconst 0, 1) := by decide +kernel
theorem dX8_isGood_22 : decode cX8_isGood 22 = .ok (.istore 4, 2) := by decide +kernel
theorem dX8_isGood_24 : decode cX8_isGood 24 = .ok (.iload 4, 2) := by decide +kernel
theorem dX8_isGood_26 : decode cX8_isGood 26 = .ok (.iload_n 3, 1) := by decide +kernel
theorem dX8_isGood_27 : decode cX8_isGood 27 = .ok (.if_icmp .ge 358, 3) := by decide +kernel
theorem dX8_isGood_30 : decode cX8_isGood 30 = .ok (.aload_n 0, 1) := by decide +kernel
theorem dX8_isGood_31 : decode cX8_isGood 31 = .ok (.iload_n 1, 1) := by decide +kernel
theorem dX8_isGood_32 : decode cX8_isGood 32 = .ok (.iload_n 3, 1) := by decide +kernel
theorem dX8_isGood_33 : decode cX8_isGood 33 = .ok (.invokevirtual 226, 3) := by decide +kernel
theorem dX8_isGood_36 : decode cX8_isGood 36 = .ok (.istore 5, 2) := by decide +kernel
theorem dX8_isGood_38 : decode cX8_isGood 38 = .ok (.aload_n 0, 1) := by decide +kernel
theorem dX8_isGood_39 : decode cX8_isGood 39 = .ok (.iload_n 1, 1) := by decide +kernel
theorem dX8_isGood_40 : decode cX8_isGood 40 = .ok (.iload_n 3, 1) := by decide +kernel
theorem dX8_isGood_41 : decode cX8_isGood 41 = .ok (.iconst 1, 1) := by decide +kernel
theorem dX8_isGood_42 : decode cX8_isGood 42 = .ok (.iadd, 1) := by decide +kernel
theorem dX8_isGood_43 : decode cX8_isGood 43 = .ok (.invokevirtual 226, 3) := by decide +kernel
theorem dX8_isGood_46 : decode cX8_isGood 46 = .ok (.istore 6, 2) := by decide +kernel
theorem dX8_isGood_48 : decode cX8_isGood 48 = .ok (.aload_n 0, 1) := by decide +kernel
theorem dX8_isGood_49 : decode cX8_isGood 49 = .ok (.iload_n 1, 1) := by decide +kernel
theorem dX8_isGood_50 : decode cX8_isGood 50 = .ok (.iload 4, 2) := by decide +kernel
theorem dX8_isGood_52 : decode cX8_isGood 52 = .ok (.invokevirtual 226, 3) := by decide +kernel
theorem dX8_isGood_55 : decode cX8_isGood 55 = .ok (.istore 7, 2) := by decide +kernel
theorem dX8_isGood_57 : decode cX8_isGood 57 = .ok (.aload_n 0, 1) := by decide +kernel
theorem dX8_isGood_58 : decode cX8_isGood 58 = .ok (.iload_n 1, 1) := by decide +kernel
theorem dX8_isGood_59 : decode cX8_isGood 59 = .ok (.iload 4, 2) := by decide +kernel
theorem dX8_isGood_61 : decode cX8_isGood 61 = .ok (.iconst 1, 1) := by decide +kernel
theorem dX8_isGood_62 : decode cX8_isGood 62 = .ok (.iadd, 1) := by decide +kernel
theorem dX8_isGood_63 : decode cX8_isGood 63 = .ok (.invokevirtual 226, 3) := by decide +kernel
theorem dX8_isGood_66 : decode cX8_isGood 66 = .ok (.istore 8, 2) := by decide +kernel
theorem dX8_isGood_68 : decode cX8_isGood 68 = .ok (.aload_n 0, 1) := by decide +kernel
theorem dX8_isGood_69 : decode cX8_isGood 69 = .ok (.getfield 42, 3) := by decide +kernel
theorem dX8_isGood_72 : decode cX8_isGood 72 = .ok (.iload 5, 2) := by decide +kernel
theorem dX8_isGood_74 : decode cX8_isGood 74 = .ok (.iaload, 1) := by decide +kernel
theorem dX8_isGood_75 : decode cX8_isGood 75 = .ok (.aload_n 0, 1) := by decide +kernel
theorem dX8_isGood_76 : decode cX8_isGood 76 = .ok (.getfield 42, 3) := by decide +kernel
theorem dX8_isGood_79 : decode cX8_isGood 79 = .ok (.iload 7, 2) := by decide +kernel
theorem dX8_isGood_81 : decode cX8_isGood 81 = .ok (.iaload, 1) := by decide +kernel
theorem dX8_isGood_82 : decode cX8_isGood 82 = .ok (.if_icmp .ne 22, 3) := by decide +kernel
theorem dX8_isGood_85 : decode cX8_isGood 85 = .ok (.aload_n 0, 1) := by decide +kernel
theorem dX8_isGood_86 : decode cX8_isGood 86 = .ok (.getfield 45, 3) := by decide +kernel
theorem dX8_isGood_89 : decode cX8_isGood 89 = .ok (.iload 5, 2) := by decide +kernel
theorem dX8_isGood_91 : decode cX8_isGood 91 = .ok (.iaload, 1) := by decide +kernel
theorem dX8_isGood_92 : decode cX8_isGood 92 = .ok (.aload_n 0, 1) := by decide +kernel
theorem dX8_isGood_93 : decode cX8_isGood 93 = .ok (.getfield 45, 3) := by decide +kernel
theorem dX8_isGood_96 : decode cX8_isGood 96 = .ok (.iload 7, 2) := by decide +kernel
theorem dX8_isGood_98 : decode cX8_isGood 98 = .ok (.iaload, 1) := by decide +kernel
theorem dX8_isGood_99 : decode cX8_isGood 99 = .ok (.if_icmp .ne 5, 3) := by decide +kernel
theorem dX8_isGood_102 : decode cX8_isGood 102 = .ok (.iconst 0, 1) := by decide +kernel
theorem dX8_isGood_103 : decode cX8_isGood 103 = .ok (.ireturn, 1) := by decide +kernel
theorem dX8_isGood_104 : decode cX8_isGood 104 = .ok (.aload_n 0, 1) := by decide +kernel
theorem dX8_isGood_105 : decode cX8_isGood 105 = .ok (.aload_n 0, 1) := by decide +kernel
theorem dX8_isGood_106 : decode cX8_isGood 106 = .ok (.getfield 42, 3) := by decide +kernel
theorem dX8_isGood_109 : decode cX8_isGood 109 = .ok (.iload 5, 2) := by decide +kernel
theorem dX8_isGood_111 : decode cX8_isGood 111 = .ok (.iaload, 1) := by decide +kernel
theorem dX8_isGood_112 : decode cX8_isGood 112 = .ok (.aload_n 0, 1) := by decide +kernel
theorem dX8_isGood_113 : decode cX8_isGood 113 = .ok (.getfield 45, 3) := by decide +kernel
theorem dX8_isGood_116 : decode cX8_isGood 116 = .ok (.iload 5, 2) := by decide +kernel
theorem dX8_isGood_118 : decode cX8_isGood 118 = .ok (.iaload, 1) := by decide +kernel
theorem dX8_isGood_119 : decode cX8_isGood 119 = .ok (.aload_n 0, 1) := by decide +kernel
theorem dX8_isGood_120 : decode cX8_isGood 120 = .ok (.getfield 42, 3) := by decide +kernel
theorem dX8_isGood_123 : decode cX8_isGood 123 = .ok (.iload 6, 2) := by decide +kernel
theorem dX8_isGood_125 : decode cX8_isGood 125 = .ok (.iaload, 1) := by decide +kernel
theorem dX8_isGood_126 : decode cX8_isGood 126 = .ok (.aload_n 0, 1) := by decide +kernel
theorem dX8_isGood_127 : decode cX8_isGood 127 = .ok (.getfield 45, 3) := by decide +kernel
theorem dX8_isGood_130 : decode cX8_isGood 130 = .ok (.iload 6, 2) := by decide +kernel
theorem dX8_isGood_132 : decode cX8_isGood 132 = .ok (.iaload, 1) := by decide +kernel
theorem dX8_isGood_133 : decode cX8_isGood 133 = .ok (.invokevirtual 229, 3) := by decide +kernel
theorem dX8_isGood_136 : decode cX8_isGood 136 = .ok (.aload_n 0, 1) := by decide +kernel
theorem dX8_isGood_137 : decode cX8_isGood 137 = .ok (.aload_n 0, 1) := by decide +kernel
theorem dX8_isGood_138 : decode cX8_isGood 138 = .ok (.getfield 42, 3) := by decide +kernel
theorem dX8_isGood_141 : decode cX8_isGood 141 = .ok (.iload 7, 2) := by decide +kernel
theorem dX8_isGood_143 : decode cX8_isGood 143 = .ok (.iaload, 1) := by decide +kernel
theorem dX8_isGood_144 : decode cX8_isGood 144 = .ok (.aload_n 0, 1) := by decide +kernel
theorem dX8_isGood_145 : decode cX8_isGood 145 = .ok (.getfield 45, 3) := by decide +kernel
theorem dX8_isGood_148 : decode cX8_isGood 148 = .ok (.iload 7, 2) := by decide +kernel
theorem dX8_isGood_150 : decode cX8_isGood 150 = .ok (.iaload, 1) := by decide +kernel
theorem dX8_isGood_151 : decode cX8_isGood 151 = .ok (.aload_n 0, 1) := by decide +kernel
theorem dX8_isGood_152 : decode cX8_isGood 152 = .ok (.getfield 42, 3) := by decide +kernel
theorem dX8_isGood_155 : decode cX8_isGood 155 = .ok (.iload 8, 2) := by decide +kernel
theorem dX8_isGood_157 : decode cX8_isGood 157 = .ok (.iaload, 1) := by decide +kernel
theorem dX8_isGood_158 : decode cX8_isGood 158 = .ok (.aload_n 0, 1) := by decide +kernel
theorem dX8_isGood_159 : decode cX8_isGood 159 = .ok (.getfield 45, 3) := by decide +kernel
theorem dX8_isGood_162 : decode cX8_isGood 162 = .ok (.iload 8, 2) := by decide +kernel
theorem dX8_isGood_164 : decode cX8_isGood 164 = .ok (.iaload, 1) := by decide +kernel
theorem dX8_isGood_165 : decode cX8_isGood 165 = .ok (.invokevirtual 233, 3) := by decide +kernel
theorem dX8_isGood_168 : decode cX8_isGood 168 = .ok (.iload_n 3, 1) := by decide +kernel
theorem dX8_isGood_169 : decode cX8_isGood 169 = .ok (.iload 4, 2) := by decide +kernel
theorem dX8_isGood_171 : decode cX8_isGood 171 = .ok (.iconst 1, 1) := by decide +kernel
theorem dX8_isGood_172 : decode cX8_isGood 172 = .ok (.iadd, 1) := by decide +kernel
theorem dX8_isGood_173 : decode cX8_isGood 173 = .ok (.if_icmp .ne 7, 3) := by decide +kernel
theorem dX8_isGood_176 : decode cX8_isGood 176 = .ok (.iconst 1, 1) := by decide +kernel
theorem dX8_isGood_177 : decode cX8_isGood 177 = .ok (.goto 4, 3) := by decide +kernel
theorem dX8_isGood_180 : decode cX8_isGood 180 = .ok (.iconst 0, 1) := by decide +kernel
theorem dX8_isGood_181 : decode cX8_isGood 181 = .ok (.istore 9, 2) := by decide +kernel
theorem dX8_isGood_183 : decode cX8_isGood 183 = .ok (.iload 4, 2) := by decide +kernel
theorem dX8_isGood_185 : decode cX8_isGood 185 = .ok (.ifCond .ne 14, 3) := by decide +kernel
theorem dX8_isGood_188 : decode cX8_isGood 188 = .ok (.iload_n 3, 1) := by decide +kernel
theorem dX8_isGood_189 : decode cX8_isGood 189 = .ok (.iload_n 2, 1) := by decide +kernel
theorem dX8_isGood_190 : decode cX8_isGood 190 = .ok (.iconst 1, 1) := by decide +kernel
theorem dX8_isGood_191 : decode cX8_isGood 191 = .ok (.isub, 1) := by decide +kernel
theorem dX8_isGood_192 : decode cX8_isGood 192 = .ok (.if_icmp .ne 7, 3) := by decide +kernel
theorem dX8_isGood_195 : decode cX8_isGood 195 = .ok (.iconst 1, 1) := by decide +kernel
theorem dX8_isGood_196 : decode cX8_isGood 196 = .ok (.goto 4, 3) := by decide +kernel
theorem dX8_isGood_199 : decode cX8_isGood 199 = .ok (.iconst 0, 1) := by decide +kernel
theorem dX8_isGood_200 : decode cX8_isGood 200 = .ok (.istore 10, 2) := by decide +kernel
theorem dX8_isGood_202 : decode cX8_isGood 202 = .ok (.iload 9, 2) := by decide +kernel
theorem dX8_isGood_204 : decode cX8_isGood 204 = .ok (.ifCond .eq 77, 3) := by decide +kernel
theorem dX8_isGood_207 : decode cX8_isGood 207 = .ok (.aload_n 0, 1) := by decide +kernel
theorem dX8_isGood_208 : decode cX8_isGood 208 = .ok (.getfield 210, 3) := by decide +kernel
theorem dX8_isGood_211 : decode cX8_isGood 211 = .ok (.i2l, 1) := by decide +kernel
theorem dX8_isGood_212 : decode cX8_isGood 212 = .ok (.aload_n 0, 1) := by decide +kernel
theorem dX8_isGood_213 : decode cX8_isGood 213 = .ok (.getfield 213, 3) := by decide +kernel
theorem dX8_isGood_216 : decode cX8_isGood 216 = .ok (.i2l, 1) := by decide +kernel
theorem dX8_isGood_217 : decode cX8_isGood 217 = .ok (.aload_n 0, 1) := by decide +kernel
theorem dX8_isGood_218 : decode cX8_isGood 218 = .ok (.getfield 216, 3) := by decide +kernel
theorem dX8_isGood_221 : decode cX8_isGood 221 = .ok (.i2l, 1) := by decide +kernel
theorem dX8_isGood_222 : decode cX8_isGood 222 = .ok (.aload_n 0, 1) := by decide +kernel
theorem dX8_isGood_223 : decode cX8_isGood 223 = .ok (.getfield 219, 3) := by decide +kernel
theorem dX8_isGood_226 : decode cX8_isGood 226 = .ok (.i2l, 1) := by decide +kernel
theorem dX8_isGood_227 : decode cX8_isGood 227 = .ok (.aload_n 0, 1) := by decide +kernel
theorem dX8_isGood_228 : decode cX8_isGood 228 = .ok (.getfield 204, 3) := by decide +kernel
theorem dX8_isGood_231 : decode cX8_isGood 231 = .ok (.i2l, 1) := by decide +kernel
theorem dX8_isGood_232 : decode cX8_isGood 232 = .ok (.aload_n 0, 1) := by decide +kernel
theorem dX8_isGood_233 : decode cX8_isGood 233 = .ok (.getfield 207, 3) := by decide +kernel
theorem dX8_isGood_236 : decode cX8_isGood 236 = .ok (.i2l, 1) := by decide +kernel
theorem dX8_isGood_237 : decode cX8_isGood 237 = .ok (.invokestatic 169, 3) := by decide +kernel
theorem dX8_isGood_240 : decode cX8_isGood 240 = .ok (.ifCond .ne 39, 3) := by decide +kernel
theorem dX8_isGood_243 : decode cX8_isGood 243 = .ok (.aload_n 0, 1) := by decide +kernel
theorem dX8_isGood_244 : decode cX8_isGood 244 = .ok (.getfield 198, 3) := by decide +kernel
theorem dX8_isGood_247 : decode cX8_isGood 247 = .ok (.i2l, 1) := by decide +kernel
theorem dX8_isGood_248 : decode cX8_isGood 248 = .ok (.aload_n 0, 1) := by decide +kernel
theorem dX8_isGood_249 : decode cX8_isGood 249 = .ok (.getfield 201, 3) := by decide +kernel
theorem dX8_isGood_252 : decode cX8_isGood 252 = .ok (.i2l, 1) := by decide +kernel
theorem dX8_isGood_253 : decode cX8_isGood 253 = .ok (.aload_n 0, 1) := by decide +kernel
theorem dX8_isGood_254 : decode cX8_isGood 254 = .ok (.getfield 204, 3) := by decide +kernel
theorem dX8_isGood_257 : decode cX8_isGood 257 = .ok (.i2l, 1) := by decide +kernel
theorem dX8_isGood_258 : decode cX8_isGood 258 = .ok (.aload_n 0, 1) := by decide +kernel
theorem dX8_isGood_259 : decode cX8_isGood 259 = .ok (.getfield 207, 3) := by decide +kernel
theorem dX8_isGood_262 : decode cX8_isGood 262 = .ok (.i2l, 1) := by decide +kernel
theorem dX8_isGood_263 : decode cX8_isGood 263 = .ok (.aload_n 0, 1) := by decide +kernel
theorem dX8_isGood_264 : decode cX8_isGood 264 = .ok (.getfield 210, 3) := by decide +kernel
theorem dX8_isGood_267 : decode cX8_isGood 267 = .ok (.i2l, 1) := by decide +kernel
theorem dX8_isGood_268 : decode cX8_isGood 268 = .ok (.aload_n 0, 1) := by decide +kernel
theorem dX8_isGood_269 : decode cX8_isGood 269 = .ok (.getfield 213, 3) := by decide +kernel
theorem dX8_isGood_272 : decode cX8_isGood 272 = .ok (.i2l, 1) := by decide +kernel
theorem dX8_isGood_273 : decode cX8_isGood 273 = .ok (.invokestatic 169, 3) := by decide +kernel
theorem dX8_isGood_276 : decode cX8_isGood 276 = .ok (.ifCond .eq 5, 3) := by decide +kernel
theorem dX8_isGood_279 : decode cX8_isGood 279 = .ok (.iconst 0, 1) := by decide +kernel
theorem dX8_isGood_280 : decode cX8_isGood 280 = .ok (.ireturn, 1) := by decide +kernel
theorem dX8_isGood_281 : decode cX8_isGood 281 = .ok (.iload 10, 2) := by decide +kernel
theorem dX8_isGood_283 : decode cX8_isGood 283 = .ok (.ifCond .eq 77, 3) := by decide +kernel
theorem dX8_isGood_286 : decode cX8_isGood 286 = .ok (.aload_n 0, 1) := by decide +kernel
theorem dX8_isGood_287 : decode cX8_isGood 287 = .ok (.getfield 210, 3) := by decide +kernel
theorem dX8_isGood_290 : decode cX8_isGood 290 = .ok (.i2l, 1) := by decide +kernel
theorem dX8_isGood_291 : decode cX8_isGood 291 = .ok (.aload_n 0, 1) := by decide +kernel
theorem dX8_isGood_292 : decode cX8_isGood 292 = .ok (.getfield 213, 3) := by decide +kernel
theorem dX8_isGood_295 : decode cX8_isGood 295 = .ok (.i2l, 1) := by decide +kernel
theorem dX8_isGood_296 : decode cX8_isGood 296 = .ok (.aload_n 0, 1) := by decide +kernel
theorem dX8_isGood_297 : decode cX8_isGood 297 = .ok (.getfield 216, 3) := by decide +kernel
theorem dX8_isGood_300 : decode cX8_isGood 300 = .ok (.i2l, 1) := by decide +kernel
theorem dX8_isGood_301 : decode cX8_isGood 301 = .ok (.aload_n 0, 1) := by decide +kernel
theorem dX8_isGood_302 : decode cX8_isGood 302 = .ok (.getfield 219, 3) := by decide +kernel
theorem dX8_isGood_305 : decode cX8_isGood 305 = .ok (.i2l, 1) := by decide +kernel
theorem dX8_isGood_306 : decode cX8_isGood 306 = .ok (.aload_n 0, 1) := by decide +kernel
theorem dX8_isGood_307 : decode cX8_isGood 307 = .ok (.getfield 198, 3) := by decide +kernel
theorem dX8_isGood_310 : decode cX8_isGood 310 = .ok (.i2l, 1) := by decide +kernel
theorem dX8_isGood_311 : decode cX8_isGood 311 = .ok (.aload_n 0, 1) := by decide +kernel
theorem dX8_isGood_312 : decode cX8_isGood 312 = .ok (.getfield 201, 3) := by decide +kernel
theorem dX8_isGood_315 : decode cX8_isGood 315 = .ok (.i2l, 1) := by decide +kernel
theorem dX8_isGood_316 : decode cX8_isGood 316 = .ok (.invokestatic 169, 3) := by decide +kernel
theorem dX8_isGood_319 : decode cX8_isGood 319 = .ok (.ifCond .ne 39, 3) := by decide +kernel
theorem dX8_isGood_322 : decode cX8_isGood 322 = .ok (.aload_n 0, 1) := by decide +kernel
theorem dX8_isGood_323 : decode cX8_isGood 323 = .ok (.getfield 198, 3) := by decide +kernel
theorem dX8_isGood_326 : decode cX8_isGood 326 = .ok (.i2l, 1) := by decide +kernel
theorem dX8_isGood_327 : decode cX8_isGood 327 = .ok (.aload_n 0, 1) := by decide +kernel
theorem dX8_isGood_328 : decode cX8_isGood 328 = .ok (.getfield 201, 3) := by decide +kernel
theorem dX8_isGood_331 : decode cX8_isGood 331 = .ok (.i2l, 1) := by decide +kernel
theorem dX8_isGood_332 : decode cX8_isGood 332 = .ok (.aload_n 0, 1) := by decide +kernel
theorem dX8_isGood_333 : decode cX8_isGood 333 = .ok (.getfield 204, 3) := by decide +kernel
theorem dX8_isGood_336 : decode cX8_isGood 336 = .ok (.i2l, 1) := by decide +kernel
theorem dX8_isGood_337 : decode cX8_isGood 337 = .ok (.aload_n 0, 1) := by decide +kernel
theorem dX8_isGood_338 : decode cX8_isGood 338 = .ok (.getfield 207, 3) := by decide +kernel
theorem dX8_isGood_341 : decode cX8_isGood 341 = .ok (.i2l, 1) := by decide +kernel
theorem dX8_isGood_342 : decode cX8_isGood 342 = .ok (.aload_n 0, 1) := by decide +kernel
theorem dX8_isGood_343 : decode cX8_isGood 343 = .ok (.getfield 216, 3) := by decide +kernel
theorem dX8_isGood_346 : decode cX8_isGood 346 = .ok (.i2l, 1) := by decide +kernel
theorem dX8_isGood_347 : decode cX8_isGood 347 = .ok (.aload_n 0, 1) := by decide +kernel
theorem dX8_isGood_348 : decode cX8_isGood 348 = .ok (.getfield 219, 3) := by decide +kernel
theorem dX8_isGood_351 : decode cX8_isGood 351 = .ok (.i2l, 1) := by decide +kernel
theorem dX8_isGood_352 : decode cX8_isGood 352 = .ok (.invokestatic 169, 3) := by decide +kernel
theorem dX8_isGood_355 : decode cX8_isGood 355 = .ok (.ifCond .eq 5, 3) := by decide +kernel
theorem dX8_isGood_358 : decode cX8_isGood 358 = .ok (.iconst 0, 1) := by decide +kernel
theorem dX8_isGood_359 : decode cX8_isGood 359 = .ok (.ireturn, 1) := by decide +kernel
theorem dX8_isGood_360 : decode cX8_isGood 360 = .ok (.iload 9, 2) := by decide +kernel
theorem dX8_isGood_362 : decode cX8_isGood 362 = .ok (.ifCond .ne 17, 3) := by decide +kernel
theorem dX8_isGood_365 : decode cX8_isGood 365 = .ok (.iload 10, 2) := by decide +kernel
theorem dX8_isGood_367 : decode cX8_isGood 367 = .ok (.ifCond .ne 12, 3) := by decide +kernel
theorem dX8_isGood_370 : decode cX8_isGood 370 = .ok (.aload_n 0, 1) := by decide +kernel
theorem dX8_isGood_371 : decode cX8_isGood 371 = .ok (.invokevirtual 236, 3) := by decide +kernel
theorem dX8_isGood_374 : decode cX8_isGood 374 = .ok (.ifCond .eq 5, 3) := by decide +kernel
theorem dX8_isGood_377 : decode cX8_isGood 377 = .ok (.iconst 0, 1) := by decide +kernel
theorem dX8_isGood_378 : decode cX8_isGood 378 = .ok (.ireturn, 1) := by decide +kernel
theorem dX8_isGood_379 : decode cX8_isGood 379 = .ok (.iinc 4 1, 3) := by decide +kernel
theorem dX8_isGood_382 : decode cX8_isGood 382 = .ok (.goto (-358), 3) := by decide +kernel
theorem dX8_isGood_385 : decode cX8_isGood 385 = .ok (.iinc 3 1, 3) := by decide +kernel
theorem dX8_isGood_388 : decode cX8_isGood 388 = .ok (.goto (-372), 3) := by decide +kernel
theorem dX8_isGood_391 : decode cX8_isGood 391 = .ok (.iconst 1, 1) := by decide +kernel
theorem dX8_isGood_392 : decode cX8_isGood 392 = .ok (.ireturn, 1) := by decide +kernel
theorem dX8_doubledOf_0 : decode cX8_doubledOf 0 = .ok (.iconst 0, 1) := by decide +kernel
theorem dX8_doubledOf_1 : decode cX8_doubledOf 1 = .ok (.istore_n 2, 1) := by decide +kernel
theorem dX8_doubledOf_2 : decode cX8_doubledOf 2 = .ok (.iconst 0, 1) := by decide +kernel
theorem dX8_doubledOf_3 : decode cX8_doubledOf 3 = .ok (.istore_n 3, 1) := by decide +kernel
theorem dX8_doubledOf_4 : decode cX8_doubledOf 4 = .ok (.iload_n 3, 1) := by decide +kernel
theorem dX8_doubledOf_5 : decode cX8_doubledOf 5 = .ok (.aload_n 0, 1) := by decide +kernel
theorem dX8_doubledOf_6 : decode cX8_doubledOf 6 = .ok (.getfield 48, 3) := by decide +kernel
theorem dX8_doubledOf_9 : decode cX8_doubledOf 9 = .ok (.iload_n 1, 1) := by decide +kernel
theorem dX8_doubledOf_10 : decode cX8_doubledOf 10 = .ok (.iaload, 1) := by decide +kernel
theorem dX8_doubledOf_11 : decode cX8_doubledOf 11 = .ok (.if_icmp .ge 61, 3) := by decide +kernel
theorem dX8_doubledOf_14 : decode cX8_doubledOf 14 = .ok (.aload_n 0, 1) := by decide +kernel
theorem dX8_doubledOf_15 : decode cX8_doubledOf 15 = .ok (.iload_n 1, 1) := by decide +kernel
theorem dX8_doubledOf_16 : decode cX8_doubledOf 16 = .ok (.iload_n 3, 1) := by decide +kernel
theorem dX8_doubledOf_17 : decode cX8_doubledOf 17 = .ok (.invokevirtual 226, 3) := by decide +kernel
theorem dX8_doubledOf_20 : decode cX8_doubledOf 20 = .ok (.istore 4, 2) := by decide +kernel
theorem dX8_doubledOf_22 : decode cX8_doubledOf 22 = .ok (.aload_n 0, 1) := by decide +kernel
theorem dX8_doubledOf_23 : decode cX8_doubledOf 23 = .ok (.iload_n 1, 1) := by decide +kernel
theorem dX8_doubledOf_24 : decode cX8_doubledOf 24 = .ok (.iload_n 3, 1) := by decide +kernel
theorem dX8_doubledOf_25 : decode cX8_doubledOf 25 = .ok (.iconst 1, 1) := by decide +kernel
theorem dX8_doubledOf_26 : decode cX8_doubledOf 26 = .ok (.iadd, 1) := by decide +kernel
theorem dX8_doubledOf_27 : decode cX8_doubledOf 27 = .ok (.invokevirtual 226, 3) := by decide +kernel
theorem dX8_doubledOf_30 : decode cX8_doubledOf 30 = .ok (.istore 5, 2) := by decide +kernel
theorem dX8_doubledOf_32 : decode cX8_doubledOf 32 = .ok (.iload_n 2, 1) := by decide +kernel
theorem dX8_doubledOf_33 : decode cX8_doubledOf 33 = .ok (.aload_n 0, 1) := by decide +kernel
theorem dX8_doubledOf_34 : decode cX8_doubledOf 34 = .ok (.getfield 42, 3) := by decide +kernel
theorem dX8_doubledOf_37 : decode cX8_doubledOf 37 = .ok (.iload 4, 2) := by decide +kernel
theorem dX8_doubledOf_39 : decode cX8_doubledOf 39 = .ok (.iaload, 1) := by decide +kernel
theorem dX8_doubledOf_40 : decode cX8_doubledOf 40 = .ok (.aload_n 0, 1) := by decide +kernel
theorem dX8_doubledOf_41 : decode cX8_doubledOf 41 = .ok (.getfield 45, 3) := by decide +kernel
theorem dX8_doubledOf_44 : decode cX8_doubledOf 44 = .ok (.iload 5, 2) := by decide +kernel
theorem dX8_doubledOf_46 : decode cX8_doubledOf 46 = .ok (.iaload, 1) := by decide +kernel
theorem dX8_doubledOf_47 : decode cX8_doubledOf 47 = .ok (.imul, 1) := by decide +kernel
theorem dX8_doubledOf_48 : decode cX8_doubledOf 48 = .ok (.aload_n 0, 1) := by decide +kernel
theorem dX8_doubledOf_49 : decode cX8_doubledOf 49 = .ok (.getfield 45, 3) := by decide +kernel
theorem dX8_doubledOf_52 : decode cX8_doubledOf 52 = .ok (.iload 4, 2) := by decide +kernel
theorem dX8_doubledOf_54 : decode cX8_doubledOf 54 = .ok (.iaload, 1) := by decide +kernel
theorem dX8_doubledOf_55 : decode cX8_doubledOf 55 = .ok (.aload_n 0, 1) := by decide +kernel
theorem dX8_doubledOf_56 : decode cX8_doubledOf 56 = .ok (.getfield 42, 3) := by decide +kernel
theorem dX8_doubledOf_59 : decode cX8_doubledOf 59 = .ok (.iload 5, 2) := by decide +kernel
theorem dX8_doubledOf_61 : decode cX8_doubledOf 61 = .ok (.iaload, 1) := by decide +kernel
theorem dX8_doubledOf_62 : decode cX8_doubledOf 62 = .ok (.imul, 1) := by decide +kernel
theorem dX8_doubledOf_63 : decode cX8_doubledOf 63 = .ok (.isub, 1) := by decide +kernel
theorem dX8_doubledOf_64 : decode cX8_doubledOf 64 = .ok (.iadd, 1) := by decide +kernel
theorem dX8_doubledOf_65 : decode cX8_doubledOf 65 = .ok (.istore_n 2, 1) := by decide +kernel
theorem dX8_doubledOf_66 : decode cX8_doubledOf 66 = .ok (.iinc 3 1, 3) := by decide +kernel
theorem dX8_doubledOf_69 : decode cX8_doubledOf 69 = .ok (.goto (-65), 3) := by decide +kernel
theorem dX8_doubledOf_72 : decode cX8_doubledOf 72 = .ok (.iload_n 2, 1) := by decide +kernel
theorem dX8_doubledOf_73 : decode cX8_doubledOf 73 = .ok (.ireturn, 1) := by decide +kernel
theorem dX8_isSimple_0 : decode cX8_isSimple 0 = .ok (.aload_n 0, 1) := by decide +kernel
theorem dX8_isSimple_1 : decode cX8_isSimple 1 = .ok (.iconst 0, 1) := by decide +kernel
theorem dX8_isSimple_2 : decode cX8_isSimple 2 = .ok (.putfield 1, 3) := by decide +kernel
theorem dX8_isSimple_5 : decode cX8_isSimple 5 = .ok (.aload_n 0, 1) := by decide +kernel
theorem dX8_isSimple_6 : decode cX8_isSimple 6 = .ok (.iload_n 1, 1) := by decide +kernel
theorem dX8_isSimple_7 : decode cX8_isSimple 7 = .ok (.invokevirtual 195, 3) := by decide +kernel
theorem dX8_isSimple_10 : decode cX8_isSimple 10 = .ok (.ifCond .ne 15, 3) := by decide +kernel
theorem dX8_isSimple_13 : decode cX8_isSimple 13 = .ok (.aload_n 0, 1) := by decide +kernel
theorem dX8_isSimple_14 : decode cX8_isSimple 14 = .ok (.iload_n 1, 1) := by decide +kernel
theorem dX8_isSimple_15 : decode cX8_isSimple 15 = .ok (.invokevirtual 239, 3) := by decide +kernel
theorem dX8_isSimple_18 : decode cX8_isSimple 18 = .ok (.ifCond .eq 7, 3) := by decide +kernel
theorem dX8_isSimple_21 : decode cX8_isSimple 21 = .ok (.iconst 1, 1) := by decide +kernel
theorem dX8_isSimple_22 : decode cX8_isSimple 22 = .ok (.goto 4, 3) := by decide +kernel
theorem dX8_isSimple_25 : decode cX8_isSimple 25 = .ok (.iconst 0, 1) := by decide +kernel
theorem dX8_isSimple_26 : decode cX8_isSimple 26 = .ok (.ireturn, 1) := by decide +kernel
theorem dX8_polygonArea_0 : decode cX8_polygonArea 0 = .ok (.aload_n 0, 1) := by decide +kernel
theorem dX8_polygonArea_1 : decode cX8_polygonArea 1 = .ok (.iconst 0, 1) := by decide +kernel
theorem dX8_polygonArea_2 : decode cX8_polygonArea 2 = .ok (.putfield 1, 3) := by decide +kernel
theorem dX8_polygonArea_5 : decode cX8_polygonArea 5 = .ok (.aload_n 0, 1) := by decide +kernel
theorem dX8_polygonArea_6 : decode cX8_polygonArea 6 = .ok (.iload_n 1, 1) := by decide +kernel
theorem dX8_polygonArea_7 : decode cX8_polygonArea 7 = .ok (.invokevirtual 195, 3) := by decide +kernel
theorem dX8_polygonArea_10 : decode cX8_polygonArea 10 = .ok (.ifCond .eq 7, 3) := by decide +kernel
theorem dX8_polygonArea_13 : decode cX8_polygonArea 13 = .ok (.iconst 0, 1) := by decide +kernel
theorem dX8_polygonArea_14 : decode cX8_polygonArea 14 = .ok (.goto 8, 3) := by decide +kernel
theorem dX8_polygonArea_17 : decode cX8_polygonArea 17 = .ok (.aload_n 0, 1) := by decide +kernel
theorem dX8_polygonArea_18 : decode cX8_polygonArea 18 = .ok (.iload_n 1, 1) := by decide +kernel
theorem dX8_polygonArea_19 : decode cX8_polygonArea 19 = .ok (.invokevirtual 242, 3) := by decide +kernel
theorem dX8_polygonArea_22 : decode cX8_polygonArea 22 = .ok (.ireturn, 1) := by decide +kernel
theorem dX8_noSimple_0 : decode cX8_noSimple 0 = .ok (.aload_n 0, 1) := by decide +kernel
theorem dX8_noSimple_1 : decode cX8_noSimple 1 = .ok (.iload_n 1, 1) := by decide +kernel
theorem dX8_noSimple_2 : decode cX8_noSimple 2 = .ok (.invokevirtual 195, 3) := by decide +kernel
theorem dX8_noSimple_5 : decode cX8_noSimple 5 = .ok (.ifCond .ne 16, 3) := by decide +kernel
theorem dX8_noSimple_8 : decode cX8_noSimple 8 = .ok (.aload_n 0, 1) := by decide +kernel
theorem dX8_noSimple_9 : decode cX8_noSimple 9 = .ok (.aload_n 0, 1) := by decide +kernel
theorem dX8_noSimple_10 : decode cX8_noSimple 10 = .ok (.iload_n 1, 1) := by decide +kernel
theorem dX8_noSimple_11 : decode cX8_noSimple 11 = .ok (.invokevirtual 239, 3) := by decide +kernel
theorem dX8_noSimple_14 : decode cX8_noSimple 14 = .ok (.iconst 2, 1) := by decide +kernel
theorem dX8_noSimple_15 : decode cX8_noSimple 15 = .ok (.invokevirtual 104, 3) := by decide +kernel
theorem dX8_noSimple_18 : decode cX8_noSimple 18 = .ok (.ifCond .eq 7, 3) := by decide +kernel
theorem dX8_noSimple_21 : decode cX8_noSimple 21 = .ok (.iconst 1, 1) := by decide +kernel
theorem dX8_noSimple_22 : decode cX8_noSimple 22 = .ok (.goto 4, 3) := by decide +kernel
theorem dX8_noSimple_25 : decode cX8_noSimple 25 = .ok (.iconst 0, 1) := by decide +kernel
theorem dX8_noSimple_26 : decode cX8_noSimple 26 = .ok (.ireturn, 1) := by decide +kernel
theorem dX8_polygonEdge_0 : decode cX8_polygonEdge 0 = .ok (.aload_n 0, 1) := by decide +kernel
theorem dX8_polygonEdge_1 : decode cX8_polygonEdge 1 = .ok (.iconst 0, 1) := by decide +kernel
theorem dX8_polygonEdge_2 : decode cX8_polygonEdge 2 = .ok (.putfield 1, 3) := by decide +kernel
theorem dX8_polygonEdge_5 : decode cX8_polygonEdge 5 = .ok (.aload_n 0, 1) := by decide +kernel
theorem dX8_polygonEdge_6 : decode cX8_polygonEdge 6 = .ok (.iload_n 1, 1) := by decide +kernel
theorem dX8_polygonEdge_7 : decode cX8_polygonEdge 7 = .ok (.invokevirtual 245, 3) := by decide +kernel
theorem dX8_polygonEdge_10 : decode cX8_polygonEdge 10 = .ok (.ifCond .eq 5, 3) := by decide +kernel
theorem dX8_polygonEdge_13 : decode cX8_polygonEdge 13 = .ok (.iconst 0, 1) := by decide +kernel
theorem dX8_polygonEdge_14 : decode cX8_polygonEdge 14 = .ok (.ireturn, 1) := by decide +kernel
theorem dX8_polygonEdge_15 : decode cX8_polygonEdge 15 = .ok (.iconst 0, 1) := by decide +kernel
theorem dX8_polygonEdge_16 : decode cX8_polygonEdge 16 = .ok (.istore_n 2, 1) := by decide +kernel
theorem dX8_polygonEdge_17 : decode cX8_polygonEdge 17 = .ok (.iconst 0, 1) := by decide +kernel
theorem dX8_polygonEdge_18 : decode cX8_polygonEdge 18 = .ok (.istore_n 3, 1) := by decide +kernel
theorem dX8_polygonEdge_19 : decode cX8_polygonEdge 19 = .ok (.iload_n 3, 1) := by decide +kernel
theorem dX8_polygonEdge_20 : decode cX8_polygonEdge 20 = .ok (.aload_n 0, 1) := by decide +kernel
theorem dX8_polygonEdge_21 : decode cX8_polygonEdge 21 = .ok (.getfield 48, 3) := by decide +kernel
theorem dX8_polygonEdge_24 : decode cX8_polygonEdge 24 = .ok (.iload_n 1, 1) := by decide +kernel
theorem dX8_polygonEdge_25 : decode cX8_polygonEdge 25 = .ok (.iaload, 1) := by decide +kernel
theorem dX8_polygonEdge_26 : decode cX8_polygonEdge 26 = .ok (.if_icmp .ge 63, 3) := by decide +kernel
theorem dX8_polygonEdge_29 : decode cX8_polygonEdge 29 = .ok (.aload_n 0, 1) := by decide +kernel
theorem dX8_polygonEdge_30 : decode cX8_polygonEdge 30 = .ok (.iload_n 1, 1) := by decide +kernel
theorem dX8_polygonEdge_31 : decode cX8_polygonEdge 31 = .ok (.iload_n 3, 1) := by decide +kernel
theorem dX8_polygonEdge_32 : decode cX8_polygonEdge 32 = .ok (.invokevirtual 226, 3) := by decide +kernel
theorem dX8_polygonEdge_35 : decode cX8_polygonEdge 35 = .ok (.istore 4, 2) := by decide +kernel
theorem dX8_polygonEdge_37 : decode cX8_polygonEdge 37 = .ok (.aload_n 0, 1) := by decide +kernel
theorem dX8_polygonEdge_38 : decode cX8_polygonEdge 38 = .ok (.iload_n 1, 1) := by decide +kernel
theorem dX8_polygonEdge_39 : decode cX8_polygonEdge 39 = .ok (.iload_n 3, 1) := by decide +kernel
theorem dX8_polygonEdge_40 : decode cX8_polygonEdge 40 = .ok (.iconst 1, 1) := by decide +kernel
theorem dX8_polygonEdge_41 : decode cX8_polygonEdge 41 = .ok (.iadd, 1) := by decide +kernel
theorem dX8_polygonEdge_42 : decode cX8_polygonEdge 42 = .ok (.invokevirtual 226, 3) := by decide +kernel
theorem dX8_polygonEdge_45 : decode cX8_polygonEdge 45 = .ok (.istore 5, 2) := by decide +kernel
theorem dX8_polygonEdge_47 : decode cX8_polygonEdge 47 = .ok (.iload_n 2, 1) := by decide +kernel
theorem dX8_polygonEdge_48 : decode cX8_polygonEdge 48 = .ok (.aload_n 0, 1) := by decide +kernel
theorem dX8_polygonEdge_49 : decode cX8_polygonEdge 49 = .ok (.getfield 42, 3) := by decide +kernel
theorem dX8_polygonEdge_52 : decode cX8_polygonEdge 52 = .ok (.iload 5, 2) := by decide +kernel
theorem dX8_polygonEdge_54 : decode cX8_polygonEdge 54 = .ok (.iaload, 1) := by decide +kernel
theorem dX8_polygonEdge_55 : decode cX8_polygonEdge 55 = .ok (.aload_n 0, 1) := by decide +kernel
theorem dX8_polygonEdge_56 : decode cX8_polygonEdge 56 = .ok (.getfield 42, 3) := by decide +kernel
theorem dX8_polygonEdge_59 : decode cX8_polygonEdge 59 = .ok (.iload 4, 2) := by decide +kernel
theorem dX8_polygonEdge_61 : decode cX8_polygonEdge 61 = .ok (.iaload, 1) := by decide +kernel
theorem dX8_polygonEdge_62 : decode cX8_polygonEdge 62 = .ok (.isub, 1) := by decide +kernel
theorem dX8_polygonEdge_63 : decode cX8_polygonEdge 63 = .ok (.aload_n 0, 1) := by decide +kernel
theorem dX8_polygonEdge_64 : decode cX8_polygonEdge 64 = .ok (.getfield 45, 3) := by decide +kernel
theorem dX8_polygonEdge_67 : decode cX8_polygonEdge 67 = .ok (.iload 5, 2) := by decide +kernel
theorem dX8_polygonEdge_69 : decode cX8_polygonEdge 69 = .ok (.iaload, 1) := by decide +kernel
theorem dX8_polygonEdge_70 : decode cX8_polygonEdge 70 = .ok (.aload_n 0, 1) := by decide +kernel
theorem dX8_polygonEdge_71 : decode cX8_polygonEdge 71 = .ok (.getfield 45, 3) := by decide +kernel
theorem dX8_polygonEdge_74 : decode cX8_polygonEdge 74 = .ok (.iload 4, 2) := by decide +kernel
theorem dX8_polygonEdge_76 : decode cX8_polygonEdge 76 = .ok (.iaload, 1) := by decide +kernel
theorem dX8_polygonEdge_77 : decode cX8_polygonEdge 77 = .ok (.isub, 1) := by decide +kernel
theorem dX8_polygonEdge_78 : decode cX8_polygonEdge 78 = .ok (.invokestatic 176, 3) := by decide +kernel
theorem dX8_polygonEdge_81 : decode cX8_polygonEdge 81 = .ok (.iadd, 1) := by decide +kernel
theorem dX8_polygonEdge_82 : decode cX8_polygonEdge 82 = .ok (.istore_n 2, 1) := by decide +kernel
theorem dX8_polygonEdge_83 : decode cX8_polygonEdge 83 = .ok (.iinc 3 1, 3) := by decide +kernel
theorem dX8_polygonEdge_86 : decode cX8_polygonEdge 86 = .ok (.goto (-67), 3) := by decide +kernel
theorem dX8_polygonEdge_89 : decode cX8_polygonEdge 89 = .ok (.iload_n 2, 1) := by decide +kernel
theorem dX8_polygonEdge_90 : decode cX8_polygonEdge 90 = .ok (.ireturn, 1) := by decide +kernel
theorem dX8_sideOf_0 : decode cX8_sideOf 0 = .ok (.iconst 0, 1) := by decide +kernel
theorem dX8_sideOf_1 : decode cX8_sideOf 1 = .ok (.istore 7, 2) := by decide +kernel
theorem dX8_sideOf_3 : decode cX8_sideOf 3 = .ok (.iconst 0, 1) := by decide +kernel
theorem dX8_sideOf_4 : decode cX8_sideOf 4 = .ok (.istore 8, 2) := by decide +kernel
theorem dX8_sideOf_6 : decode cX8_sideOf 6 = .ok (.iload 8, 2) := by decide +kernel
theorem dX8_sideOf_8 : decode cX8_sideOf 8 = .ok (.aload_n 0, 1) := by decide +kernel
theorem dX8_sideOf_9 : decode cX8_sideOf 9 = .ok (.getfield 48, 3) := by decide +kernel
theorem dX8_sideOf_12 : decode cX8_sideOf 12 = .ok (.iload_n 1, 1) := by decide +kernel
theorem dX8_sideOf_13 : decode cX8_sideOf 13 = .ok (.iaload, 1) := by decide +kernel
theorem dX8_sideOf_14 : decode cX8_sideOf 14 = .ok (.if_icmp .ge 185, 3) := by decide +kernel
theorem dX8_sideOf_17 : decode cX8_sideOf 17 = .ok (.aload_n 0, 1) := by decide +kernel
theorem dX8_sideOf_18 : decode cX8_sideOf 18 = .ok (.iload_n 1, 1) := by decide +kernel
theorem dX8_sideOf_19 : decode cX8_sideOf 19 = .ok (.iload 8, 2) := by decide +kernel
theorem dX8_sideOf_21 : decode cX8_sideOf 21 = .ok (.invokevirtual 226, 3) := by decide +kernel
theorem dX8_sideOf_24 : decode cX8_sideOf 24 = .ok (.istore 9, 2) := by decide +kernel
theorem dX8_sideOf_26 : decode cX8_sideOf 26 = .ok (.aload_n 0, 1) := by decide +kernel
theorem dX8_sideOf_27 : decode cX8_sideOf 27 = .ok (.iload_n 1, 1) := by decide +kernel
theorem dX8_sideOf_28 : decode cX8_sideOf 28 = .ok (.iload 8, 2) := by decide +kernel
theorem dX8_sideOf_30 : decode cX8_sideOf 30 = .ok (.iconst 1, 1) := by decide +kernel
theorem dX8_sideOf_31 : decode cX8_sideOf 31 = .ok (.iadd, 1) := by decide +kernel
theorem dX8_sideOf_32 : decode cX8_sideOf 32 = .ok (.invokevirtual 226, 3) := by decide +kernel
theorem dX8_sideOf_35 : decode cX8_sideOf 35 = .ok (.istore 10, 2) := by decide +kernel
theorem dX8_sideOf_37 : decode cX8_sideOf 37 = .ok (.iload 6, 2) := by decide +kernel
theorem dX8_sideOf_39 : decode cX8_sideOf 39 = .ok (.i2l, 1) := by decide +kernel
theorem dX8_sideOf_40 : decode cX8_sideOf 40 = .ok (.aload_n 0, 1) := by decide +kernel
theorem dX8_sideOf_41 : decode cX8_sideOf 41 = .ok (.getfield 42, 3) := by decide +kernel
theorem dX8_sideOf_44 : decode cX8_sideOf 44 = .ok (.iload 9, 2) := by decide +kernel
theorem dX8_sideOf_46 : decode cX8_sideOf 46 = .ok (.iaload, 1) := by decide +kernel
theorem dX8_sideOf_47 : decode cX8_sideOf 47 = .ok (.i2l, 1) := by decide +kernel
theorem dX8_sideOf_48 : decode cX8_sideOf 48 = .ok (.lmul, 1) := by decide +kernel
theorem dX8_sideOf_49 : decode cX8_sideOf 49 = .ok (.lstore 11, 2) := by decide +kernel
theorem dX8_sideOf_51 : decode cX8_sideOf 51 = .ok (.iload 6, 2) := by decide +kernel
theorem dX8_sideOf_53 : decode cX8_sideOf 53 = .ok (.i2l, 1) := by decide +kernel
theorem dX8_sideOf_54 : decode cX8_sideOf 54 = .ok (.aload_n 0, 1) := by decide +kernel
theorem dX8_sideOf_55 : decode cX8_sideOf 55 = .ok (.getfield 45, 3) := by decide +kernel
theorem dX8_sideOf_58 : decode cX8_sideOf 58 = .ok (.iload 9, 2) := by decide +kernel
theorem dX8_sideOf_60 : decode cX8_sideOf 60 = .ok (.iaload, 1) := by decide +kernel
theorem dX8_sideOf_61 : decode cX8_sideOf 61 = .ok (.i2l, 1) := by decide +kernel
theorem dX8_sideOf_62 : decode cX8_sideOf 62 = .ok (.lmul, 1) := by decide +kernel
theorem dX8_sideOf_63 : decode cX8_sideOf 63 = .ok (.lstore 13, 2) := by decide +kernel
theorem dX8_sideOf_65 : decode cX8_sideOf 65 = .ok (.iload 6, 2) := by decide +kernel
theorem dX8_sideOf_67 : decode cX8_sideOf 67 = .ok (.i2l, 1) := by decide +kernel
theorem dX8_sideOf_68 : decode cX8_sideOf 68 = .ok (.aload_n 0, 1) := by decide +kernel
theorem dX8_sideOf_69 : decode cX8_sideOf 69 = .ok (.getfield 42, 3) := by decide +kernel
theorem dX8_sideOf_72 : decode cX8_sideOf 72 = .ok (.iload 10, 2) := by decide +kernel
theorem dX8_sideOf_74 : decode cX8_sideOf 74 = .ok (.iaload, 1) := by decide +kernel
theorem dX8_sideOf_75 : decode cX8_sideOf 75 = .ok (.i2l, 1) := by decide +kernel
theorem dX8_sideOf_76 : decode cX8_sideOf 76 = .ok (.lmul, 1) := by decide +kernel
theorem dX8_sideOf_77 : decode cX8_sideOf 77 = .ok (.lstore 15, 2) := by decide +kernel
theorem dX8_sideOf_79 : decode cX8_sideOf 79 = .ok (.iload 6, 2) := by decide +kernel
theorem dX8_sideOf_81 : decode cX8_sideOf 81 = .ok (.i2l, 1) := by decide +kernel
theorem dX8_sideOf_82 : decode cX8_sideOf 82 = .ok (.aload_n 0, 1) := by decide +kernel
theorem dX8_sideOf_83 : decode cX8_sideOf 83 = .ok (.getfield 45, 3) := by decide +kernel
theorem dX8_sideOf_86 : decode cX8_sideOf 86 = .ok (.iload 10, 2) := by decide +kernel
theorem dX8_sideOf_88 : decode cX8_sideOf 88 = .ok (.iaload, 1) := by decide +kernel
theorem dX8_sideOf_89 : decode cX8_sideOf 89 = .ok (.i2l, 1) := by decide +kernel
theorem dX8_sideOf_90 : decode cX8_sideOf 90 = .ok (.lmul, 1) := by decide +kernel
theorem dX8_sideOf_91 : decode cX8_sideOf 91 = .ok (.lstore 17, 2) := by decide +kernel
theorem dX8_sideOf_93 : decode cX8_sideOf 93 = .ok (.lload 11, 2) := by decide +kernel
theorem dX8_sideOf_95 : decode cX8_sideOf 95 = .ok (.lload 13, 2) := by decide +kernel
theorem dX8_sideOf_97 : decode cX8_sideOf 97 = .ok (.lload 15, 2) := by decide +kernel
theorem dX8_sideOf_99 : decode cX8_sideOf 99 = .ok (.lload 17, 2) := by decide +kernel
theorem dX8_sideOf_101 : decode cX8_sideOf 101 = .ok (.lload_n 2, 1) := by decide +kernel
theorem dX8_sideOf_102 : decode cX8_sideOf 102 = .ok (.lload 4, 2) := by decide +kernel
theorem dX8_sideOf_104 : decode cX8_sideOf 104 = .ok (.invokestatic 169, 3) := by decide +kernel
theorem dX8_sideOf_107 : decode cX8_sideOf 107 = .ok (.ifCond .eq 5, 3) := by decide +kernel
theorem dX8_sideOf_110 : decode cX8_sideOf 110 = .ok (.iconst 0, 1) := by decide +kernel
theorem dX8_sideOf_111 : decode cX8_sideOf 111 = .ok (.ireturn, 1) := by decide +kernel
theorem dX8_sideOf_112 : decode cX8_sideOf 112 = .ok (.lload 13, 2) := by decide +kernel
theorem dX8_sideOf_114 : decode cX8_sideOf 114 = .ok (.lload 4, 2) := by decide +kernel
theorem dX8_sideOf_116 : decode cX8_sideOf 116 = .ok (.lcmp, 1) := by decide +kernel
theorem dX8_sideOf_117 : decode cX8_sideOf 117 = .ok (.ifCond .le 7, 3) := by decide +kernel
theorem dX8_sideOf_120 : decode cX8_sideOf 120 = .ok (.iconst 1, 1) := by decide +kernel
theorem dX8_sideOf_121 : decode cX8_sideOf 121 = .ok (.goto 4, 3) := by decide +kernel
theorem dX8_sideOf_124 : decode cX8_sideOf 124 = .ok (.iconst 0, 1) := by decide +kernel
theorem dX8_sideOf_125 : decode cX8_sideOf 125 = .ok (.lload 17, 2) := by decide +kernel
theorem dX8_sideOf_127 : decode cX8_sideOf 127 = .ok (.lload 4, 2) := by decide +kernel
theorem dX8_sideOf_129 : decode cX8_sideOf 129 = .ok (.lcmp, 1) := by decide +kernel
theorem dX8_sideOf_130 : decode cX8_sideOf 130 = .ok (.ifCond .le 7, 3) := by decide +kernel
theorem dX8_sideOf_133 : decode cX8_sideOf 133 = .ok (.iconst 1, 1) := by decide +kernel
theorem dX8_sideOf_134 : decode cX8_sideOf 134 = .ok (.goto 4, 3) := by decide +kernel
theorem dX8_sideOf_137 : decode cX8_sideOf 137 = .ok (.iconst 0, 1) := by decide +kernel
theorem dX8_sideOf_138 : decode cX8_sideOf 138 = .ok (.if_icmp .ne 6, 3) := by decide +kernel
theorem dX8_sideOf_141 : decode cX8_sideOf 141 = .ok (.goto 52, 3) := by decide +kernel
theorem dX8_sideOf_144 : decode cX8_sideOf 144 = .ok (.lload 11, 2) := by decide +kernel
theorem dX8_sideOf_146 : decode cX8_sideOf 146 = .ok (.lload 13, 2) := by decide +kernel
theorem dX8_sideOf_148 : decode cX8_sideOf 148 = .ok (.lload 15, 2) := by decide +kernel
theorem dX8_sideOf_150 : decode cX8_sideOf 150 = .ok (.lload 17, 2) := by decide +kernel
theorem dX8_sideOf_152 : decode cX8_sideOf 152 = .ok (.lload_n 2, 1) := by decide +kernel
theorem dX8_sideOf_153 : decode cX8_sideOf 153 = .ok (.lload 4, 2) := by decide +kernel
theorem dX8_sideOf_155 : decode cX8_sideOf 155 = .ok (.invokestatic 132, 3) := by decide +kernel
theorem dX8_sideOf_158 : decode cX8_sideOf 158 = .ok (.istore 19, 2) := by decide +kernel
theorem dX8_sideOf_160 : decode cX8_sideOf 160 = .ok (.lload 17, 2) := by decide +kernel
theorem dX8_sideOf_162 : decode cX8_sideOf 162 = .ok (.lload 13, 2) := by decide +kernel
theorem dX8_sideOf_164 : decode cX8_sideOf 164 = .ok (.lcmp, 1) := by decide +kernel
theorem dX8_sideOf_165 : decode cX8_sideOf 165 = .ok (.ifCond .le 11, 3) := by decide +kernel
theorem dX8_sideOf_168 : decode cX8_sideOf 168 = .ok (.iload 19, 2) := by decide +kernel
theorem dX8_sideOf_170 : decode cX8_sideOf 170 = .ok (.ifCond .le 23, 3) := by decide +kernel
theorem dX8_sideOf_173 : decode cX8_sideOf 173 = .ok (.goto 8, 3) := by decide +kernel
theorem dX8_sideOf_176 : decode cX8_sideOf 176 = .ok (.iload 19, 2) := by decide +kernel
theorem dX8_sideOf_178 : decode cX8_sideOf 178 = .ok (.ifCond .ge 15, 3) := by decide +kernel
theorem dX8_sideOf_181 : decode cX8_sideOf 181 = .ok (.iload 7, 2) := by decide +kernel
theorem dX8_sideOf_183 : decode cX8_sideOf 183 = .ok (.ifCond .ne 7, 3) := by decide +kernel
theorem dX8_sideOf_186 : decode cX8_sideOf 186 = .ok (.iconst 1, 1) := by decide +kernel
theorem dX8_sideOf_187 : decode cX8_sideOf 187 = .ok (.goto 4, 3) := by decide +kernel
theorem dX8_sideOf_190 : decode cX8_sideOf 190 = .ok (.iconst 0, 1) := by decide +kernel
theorem dX8_sideOf_191 : decode cX8_sideOf 191 = .ok (.istore 7, 2) := by decide +kernel
theorem dX8_sideOf_193 : decode cX8_sideOf 193 = .ok (.iinc 8 1, 3) := by decide +kernel
theorem dX8_sideOf_196 : decode cX8_sideOf 196 = .ok (.goto (-190), 3) := by decide +kernel
theorem dX8_sideOf_199 : decode cX8_sideOf 199 = .ok (.iload 7, 2) := by decide +kernel
theorem dX8_sideOf_201 : decode cX8_sideOf 201 = .ok (.ifCond .eq 7, 3) := by decide +kernel
theorem dX8_sideOf_204 : decode cX8_sideOf 204 = .ok (.iconst 1, 1) := by decide +kernel
theorem dX8_sideOf_205 : decode cX8_sideOf 205 = .ok (.goto 4, 3) := by decide +kernel
theorem dX8_sideOf_208 : decode cX8_sideOf 208 = .ok (.iconst (-1), 1) := by decide +kernel
theorem dX8_sideOf_209 : decode cX8_sideOf 209 = .ok (.ireturn, 1) := by decide +kernel
theorem dX8_polygonInner_0 : decode cX8_polygonInner 0 = .ok (.aload_n 0, 1) := by decide +kernel
theorem dX8_polygonInner_1 : decode cX8_polygonInner 1 = .ok (.iconst 0, 1) := by decide +kernel
theorem dX8_polygonInner_2 : decode cX8_polygonInner 2 = .ok (.putfield 1, 3) := by decide +kernel
theorem dX8_polygonInner_5 : decode cX8_polygonInner 5 = .ok (.aload_n 0, 1) := by decide +kernel
theorem dX8_polygonInner_6 : decode cX8_polygonInner 6 = .ok (.iload_n 1, 1) := by decide +kernel
theorem dX8_polygonInner_7 : decode cX8_polygonInner 7 = .ok (.invokevirtual 245, 3) := by decide +kernel
theorem dX8_polygonInner_10 : decode cX8_polygonInner 10 = .ok (.ifCond .eq 5, 3) := by decide +kernel
theorem dX8_polygonInner_13 : decode cX8_polygonInner 13 = .ok (.iconst 0, 1) := by decide +kernel
theorem dX8_polygonInner_14 : decode cX8_polygonInner 14 = .ok (.ireturn, 1) := by decide +kernel
theorem dX8_polygonInner_15 : decode cX8_polygonInner 15 = .ok (.iconst 0, 1) := by decide +kernel
theorem dX8_polygonInner_16 : decode cX8_polygonInner 16 = .ok (.istore_n 2, 1) := by decide +kernel
theorem dX8_polygonInner_17 : decode cX8_polygonInner 17 = .ok (.sipush (-200), 3) := by decide +kernel
theorem dX8_polygonInner_20 : decode cX8_polygonInner 20 = .ok (.istore_n 3, 1) := by decide +kernel
theorem dX8_polygonInner_21 : decode cX8_polygonInner 21 = .ok (.iload_n 3, 1) := by decide +kernel
theorem dX8_polygonInner_22 : decode cX8_polygonInner 22 = .ok (.sipush 200, 3) := by decide +kernel
theorem dX8_polygonInner_25 : decode cX8_polygonInner 25 = .ok (.if_icmp .gt 50, 3) := by decide +kernel
theorem dX8_polygonInner_28 : decode cX8_polygonInner 28 = .ok (.sipush (-200), 3) := by decide +kernel
theorem dX8_polygonInner_31 : decode cX8_polygonInner 31 = .ok (.istore 4, 2) := by decide +kernel
theorem dX8_polygonInner_33 : decode cX8_polygonInner 33 = .ok (.iload 4, 2) := by decide +kernel
theorem dX8_polygonInner_35 : decode cX8_polygonInner 35 = .ok (.sipush 200, 3) := by decide +kernel
theorem dX8_polygonInner_38 : decode cX8_polygonInner 38 = .ok (.if_icmp .gt 31, 3) := by decide +kernel
theorem dX8_polygonInner_41 : decode cX8_polygonInner 41 = .ok (.iload_n 2, 1) := by decide +kernel
theorem dX8_polygonInner_42 : decode cX8_polygonInner 42 = .ok (.aload_n 0, 1) := by decide +kernel
theorem dX8_polygonInner_43 : decode cX8_polygonInner 43 = .ok (.iload_n 1, 1) := by decide +kernel
theorem dX8_polygonInner_44 : decode cX8_polygonInner 44 = .ok (.iload 4, 2) := by decide +kernel
theorem dX8_polygonInner_46 : decode cX8_polygonInner 46 = .ok (.i2l, 1) := by decide +kernel
theorem dX8_polygonInner_47 : decode cX8_polygonInner 47 = .ok (.iload_n 3, 1) := by decide +kernel
theorem dX8_polygonInner_48 : decode cX8_polygonInner 48 = .ok (.i2l, 1) := by decide +kernel
theorem dX8_polygonInner_49 : decode cX8_polygonInner 49 = .ok (.iconst 1, 1) := by decide +kernel
theorem dX8_polygonInner_50 : decode cX8_polygonInner 50 = .ok (.invokevirtual 248, 3) := by decide +kernel
theorem dX8_polygonInner_53 : decode cX8_polygonInner 53 = .ok (.ifCond .le 7, 3) := by decide +kernel
theorem dX8_polygonInner_56 : decode cX8_polygonInner 56 = .ok (.iconst 1, 1) := by decide +kernel
theorem dX8_polygonInner_57 : decode cX8_polygonInner 57 = .ok (.goto 4, 3) := by decide +kernel
theorem dX8_polygonInner_60 : decode cX8_polygonInner 60 = .ok (.iconst 0, 1) := by decide +kernel
theorem dX8_polygonInner_61 : decode cX8_polygonInner 61 = .ok (.iadd, 1) := by decide +kernel
theorem dX8_polygonInner_62 : decode cX8_polygonInner 62 = .ok (.istore_n 2, 1) := by decide +kernel
theorem dX8_polygonInner_63 : decode cX8_polygonInner 63 = .ok (.iinc 4 1, 3) := by decide +kernel
theorem dX8_polygonInner_66 : decode cX8_polygonInner 66 = .ok (.goto (-33), 3) := by decide +kernel
theorem dX8_polygonInner_69 : decode cX8_polygonInner 69 = .ok (.iinc 3 1, 3) := by decide +kernel
theorem dX8_polygonInner_72 : decode cX8_polygonInner 72 = .ok (.goto (-51), 3) := by decide +kernel
theorem dX8_polygonInner_75 : decode cX8_polygonInner 75 = .ok (.iload_n 2, 1) := by decide +kernel
theorem dX8_polygonInner_76 : decode cX8_polygonInner 76 = .ok (.ireturn, 1) := by decide +kernel
theorem dX8_polygonLies_0 : decode cX8_polygonLies 0 = .ok (.aload_n 0, 1) := by decide +kernel
theorem dX8_polygonLies_1 : decode cX8_polygonLies 1 = .ok (.iconst 0, 1) := by decide +kernel
theorem dX8_polygonLies_2 : decode cX8_polygonLies 2 = .ok (.putfield 1, 3) := by decide +kernel
theorem dX8_polygonLies_5 : decode cX8_polygonLies 5 = .ok (.aload_n 0, 1) := by decide +kernel
theorem dX8_polygonLies_6 : decode cX8_polygonLies 6 = .ok (.iload_n 1, 1) := by decide +kernel
theorem dX8_polygonLies_7 : decode cX8_polygonLies 7 = .ok (.invokevirtual 245, 3) := by decide +kernel
theorem dX8_polygonLies_10 : decode cX8_polygonLies 10 = .ok (.ifCond .eq 5, 3) := by decide +kernel
theorem dX8_polygonLies_13 : decode cX8_polygonLies 13 = .ok (.iconst 0, 1) := by decide +kernel
theorem dX8_polygonLies_14 : decode cX8_polygonLies 14 = .ok (.ireturn, 1) := by decide +kernel
theorem dX8_polygonLies_15 : decode cX8_polygonLies 15 = .ok (.iload_n 2, 1) := by decide +kernel
theorem dX8_polygonLies_16 : decode cX8_polygonLies 16 = .ok (.iload_n 3, 1) := by decide +kernel
theorem dX8_polygonLies_17 : decode cX8_polygonLies 17 = .ok (.invokestatic 115, 3) := by decide +kernel
theorem dX8_polygonLies_20 : decode cX8_polygonLies 20 = .ok (.ifCond .eq 16, 3) := by decide +kernel
theorem dX8_polygonLies_23 : decode cX8_polygonLies 23 = .ok (.aload_n 0, 1) := by decide +kernel
theorem dX8_polygonLies_24 : decode cX8_polygonLies 24 = .ok (.iload_n 1, 1) := by decide +kernel
theorem dX8_polygonLies_25 : decode cX8_polygonLies 25 = .ok (.iload_n 2, 1) := by decide +kernel
theorem dX8_polygonLies_26 : decode cX8_polygonLies 26 = .ok (.i2l, 1) := by decide +kernel
theorem dX8_polygonLies_27 : decode cX8_polygonLies 27 = .ok (.iload_n 3, 1) := by decide +kernel
theorem dX8_polygonLies_28 : decode cX8_polygonLies 28 = .ok (.i2l, 1) := by decide +kernel
theorem dX8_polygonLies_29 : decode cX8_polygonLies 29 = .ok (.iconst 1, 1) := by decide +kernel
theorem dX8_polygonLies_30 : decode cX8_polygonLies 30 = .ok (.invokevirtual 248, 3) := by decide +kernel
theorem dX8_polygonLies_33 : decode cX8_polygonLies 33 = .ok (.goto 4, 3) := by decide +kernel
theorem dX8_polygonLies_36 : decode cX8_polygonLies 36 = .ok (.iconst (-1), 1) := by decide +kernel
theorem dX8_polygonLies_37 : decode cX8_polygonLies 37 = .ok (.ireturn, 1) := by decide +kernel
theorem dX8_holds_0 : decode cX8_holds 0 = .ok (.aload_n 0, 1) := by decide +kernel
theorem dX8_holds_1 : decode cX8_holds 1 = .ok (.iconst 0, 1) := by decide +kernel
theorem dX8_holds_2 : decode cX8_holds 2 = .ok (.putfield 1, 3) := by decide +kernel
theorem dX8_holds_5 : decode cX8_holds 5 = .ok (.aload_n 0, 1) := by decide +kernel
theorem dX8_holds_6 : decode cX8_holds 6 = .ok (.iload_n 1, 1) := by decide +kernel
theorem dX8_holds_7 : decode cX8_holds 7 = .ok (.invokevirtual 195, 3) := by decide +kernel
theorem dX8_holds_10 : decode cX8_holds 10 = .ok (.ifCond .ne 19, 3) := by decide +kernel
theorem dX8_holds_13 : decode cX8_holds 13 = .ok (.aload_n 0, 1) := by decide +kernel
theorem dX8_holds_14 : decode cX8_holds 14 = .ok (.iload_n 2, 1) := by decide +kernel
theorem dX8_holds_15 : decode cX8_holds 15 = .ok (.invokevirtual 111, 3) := by decide +kernel
theorem dX8_holds_18 : decode cX8_holds 18 = .ok (.ifCond .ne 11, 3) := by decide +kernel
theorem dX8_holds_21 : decode cX8_holds 21 = .ok (.aload_n 0, 1) := by decide +kernel
theorem dX8_holds_22 : decode cX8_holds 22 = .ok (.iload_n 1, 1) := by decide +kernel
theorem dX8_holds_23 : decode cX8_holds 23 = .ok (.invokevirtual 245, 3) := by decide +kernel
theorem dX8_holds_26 : decode cX8_holds 26 = .ok (.ifCond .eq 5, 3) := by decide +kernel
theorem dX8_holds_29 : decode cX8_holds 29 = .ok (.iconst 0, 1) := by decide +kernel
theorem dX8_holds_30 : decode cX8_holds 30 = .ok (.ireturn, 1) := by decide +kernel
theorem dX8_holds_31 : decode cX8_holds 31 = .ok (.iconst 0, 1) := by decide +kernel
theorem dX8_holds_32 : decode cX8_holds 32 = .ok (.istore_n 3, 1) := by decide +kernel
theorem dX8_holds_33 : decode cX8_holds 33 = .ok (.iconst 0, 1) := by decide +kernel
theorem dX8_holds_34 : decode cX8_holds 34 = .ok (.istore 4, 2) := by decide +kernel
theorem dX8_holds_36 : decode cX8_holds 36 = .ok (.iload 4, 2) := by decide +kernel
theorem dX8_holds_38 : decode cX8_holds 38 = .ok (.aload_n 0, 1) := by decide +kernel
theorem dX8_holds_39 : decode cX8_holds 39 = .ok (.getfield 108, 3) := by decide +kernel
theorem dX8_holds_42 : decode cX8_holds 42 = .ok (.if_icmp .ge 53, 3) := by decide +kernel
theorem dX8_holds_45 : decode cX8_holds 45 = .ok (.iload_n 3, 1) := by decide +kernel
theorem dX8_holds_46 : decode cX8_holds 46 = .ok (.aload_n 0, 1) := by decide +kernel
theorem dX8_holds_47 : decode cX8_holds 47 = .ok (.getfield 13, 3) := by decide +kernel
theorem dX8_holds_50 : decode cX8_holds 50 = .ok (.iload 4, 2) := by decide +kernel
theorem dX8_holds_52 : decode cX8_holds 52 = .ok (.iaload, 1) := by decide +kernel
theorem dX8_holds_53 : decode cX8_holds 53 = .ok (.iload_n 2, 1) := by decide +kernel
theorem dX8_holds_54 : decode cX8_holds 54 = .ok (.if_icmp .ne 32, 3) := by decide +kernel
theorem dX8_holds_57 : decode cX8_holds 57 = .ok (.aload_n 0, 1) := by decide +kernel
theorem dX8_holds_58 : decode cX8_holds 58 = .ok (.iload_n 1, 1) := by decide +kernel
theorem dX8_holds_59 : decode cX8_holds 59 = .ok (.aload_n 0, 1) := by decide +kernel
theorem dX8_holds_60 : decode cX8_holds 60 = .ok (.getfield 17, 3) := by decide +kernel
theorem dX8_holds_63 : decode cX8_holds 63 = .ok (.iload 4, 2) := by decide +kernel
theorem dX8_holds_65 : decode cX8_holds 65 = .ok (.iaload, 1) := by decide +kernel
theorem dX8_holds_66 : decode cX8_holds 66 = .ok (.i2l, 1) := by decide +kernel
theorem dX8_holds_67 : decode cX8_holds 67 = .ok (.aload_n 0, 1) := by decide +kernel
theorem dX8_holds_68 : decode cX8_holds 68 = .ok (.getfield 20, 3) := by decide +kernel
theorem dX8_holds_71 : decode cX8_holds 71 = .ok (.iload 4, 2) := by decide +kernel
theorem dX8_holds_73 : decode cX8_holds 73 = .ok (.iaload, 1) := by decide +kernel
theorem dX8_holds_74 : decode cX8_holds 74 = .ok (.i2l, 1) := by decide +kernel
theorem dX8_holds_75 : decode cX8_holds 75 = .ok (.iconst 1, 1) := by decide +kernel
theorem dX8_holds_76 : decode cX8_holds 76 = .ok (.invokevirtual 248, 3) := by decide +kernel
theorem dX8_holds_79 : decode cX8_holds 79 = .ok (.ifCond .lt 7, 3) := by decide +kernel
theorem dX8_holds_82 : decode cX8_holds 82 = .ok (.iconst 1, 1) := by decide +kernel
theorem dX8_holds_83 : decode cX8_holds 83 = .ok (.goto 4, 3) := by decide +kernel
theorem dX8_holds_86 : decode cX8_holds 86 = .ok (.iconst 0, 1) := by decide +kernel
theorem dX8_holds_87 : decode cX8_holds 87 = .ok (.iadd, 1) := by decide +kernel
theorem dX8_holds_88 : decode cX8_holds 88 = .ok (.istore_n 3, 1) := by decide +kernel
theorem dX8_holds_89 : decode cX8_holds 89 = .ok (.iinc 4 1, 3) := by decide +kernel
theorem dX8_holds_92 : decode cX8_holds 92 = .ok (.goto (-56), 3) := by decide +kernel
theorem dX8_holds_95 : decode cX8_holds 95 = .ok (.iload_n 3, 1) := by decide +kernel
theorem dX8_holds_96 : decode cX8_holds 96 = .ok (.ireturn, 1) := by decide +kernel
theorem dX8_turnOf_0 : decode cX8_turnOf 0 = .ok (.bipush 16, 2) := by decide +kernel
theorem dX8_turnOf_2 : decode cX8_turnOf 2 = .ok (.iload_n 1, 1) := by decide +kernel
theorem dX8_turnOf_3 : decode cX8_turnOf 3 = .ok (.imul, 1) := by decide +kernel
theorem dX8_turnOf_4 : decode cX8_turnOf 4 = .ok (.iload_n 2, 1) := by decide +kernel
theorem dX8_turnOf_5 : decode cX8_turnOf 5 = .ok (.iadd, 1) := by decide +kernel
theorem dX8_turnOf_6 : decode cX8_turnOf 6 = .ok (.istore 5, 2) := by decide +kernel
theorem dX8_turnOf_8 : decode cX8_turnOf 8 = .ok (.bipush 16, 2) := by decide +kernel
theorem dX8_turnOf_10 : decode cX8_turnOf 10 = .ok (.iload_n 1, 1) := by decide +kernel
theorem dX8_turnOf_11 : decode cX8_turnOf 11 = .ok (.imul, 1) := by decide +kernel
theorem dX8_turnOf_12 : decode cX8_turnOf 12 = .ok (.iload_n 3, 1) := by decide +kernel
theorem dX8_turnOf_13 : decode cX8_turnOf 13 = .ok (.iadd, 1) := by decide +kernel
theorem dX8_turnOf_14 : decode cX8_turnOf 14 = .ok (.istore 6, 2) := by decide +kernel
theorem dX8_turnOf_16 : decode cX8_turnOf 16 = .ok (.bipush 16, 2) := by decide +kernel
theorem dX8_turnOf_18 : decode cX8_turnOf 18 = .ok (.iload_n 1, 1) := by decide +kernel
theorem dX8_turnOf_19 : decode cX8_turnOf 19 = .ok (.imul, 1) := by decide +kernel
theorem dX8_turnOf_20 : decode cX8_turnOf 20 = .ok (.iload 4, 2) := by decide +kernel
theorem dX8_turnOf_22 : decode cX8_turnOf 22 = .ok (.iadd, 1) := by decide +kernel
theorem dX8_turnOf_23 : decode cX8_turnOf 23 = .ok (.istore 7, 2) := by decide +kernel
theorem dX8_turnOf_25 : decode cX8_turnOf 25 = .ok (.aload_n 0, 1) := by decide +kernel
theorem dX8_turnOf_26 : decode cX8_turnOf 26 = .ok (.getfield 42, 3) := by decide +kernel
theorem dX8_turnOf_29 : decode cX8_turnOf 29 = .ok (.iload 5, 2) := by decide +kernel
theorem dX8_turnOf_31 : decode cX8_turnOf 31 = .ok (.iaload, 1) := by decide +kernel
theorem dX8_turnOf_32 : decode cX8_turnOf 32 = .ok (.i2l, 1) := by decide +kernel
theorem dX8_turnOf_33 : decode cX8_turnOf 33 = .ok (.aload_n 0, 1) := by decide +kernel
theorem dX8_turnOf_34 : decode cX8_turnOf 34 = .ok (.getfield 45, 3) := by decide +kernel
theorem dX8_turnOf_37 : decode cX8_turnOf 37 = .ok (.iload 5, 2) := by decide +kernel
theorem dX8_turnOf_39 : decode cX8_turnOf 39 = .ok (.iaload, 1) := by decide +kernel
theorem dX8_turnOf_40 : decode cX8_turnOf 40 = .ok (.i2l, 1) := by decide +kernel
theorem dX8_turnOf_41 : decode cX8_turnOf 41 = .ok (.aload_n 0, 1) := by decide +kernel
theorem dX8_turnOf_42 : decode cX8_turnOf 42 = .ok (.getfield 42, 3) := by decide +kernel
theorem dX8_turnOf_45 : decode cX8_turnOf 45 = .ok (.iload 6, 2) := by decide +kernel
theorem dX8_turnOf_47 : decode cX8_turnOf 47 = .ok (.iaload, 1) := by decide +kernel
theorem dX8_turnOf_48 : decode cX8_turnOf 48 = .ok (.i2l, 1) := by decide +kernel
theorem dX8_turnOf_49 : decode cX8_turnOf 49 = .ok (.aload_n 0, 1) := by decide +kernel
theorem dX8_turnOf_50 : decode cX8_turnOf 50 = .ok (.getfield 45, 3) := by decide +kernel
theorem dX8_turnOf_53 : decode cX8_turnOf 53 = .ok (.iload 6, 2) := by decide +kernel
theorem dX8_turnOf_55 : decode cX8_turnOf 55 = .ok (.iaload, 1) := by decide +kernel
theorem dX8_turnOf_56 : decode cX8_turnOf 56 = .ok (.i2l, 1) := by decide +kernel
theorem dX8_turnOf_57 : decode cX8_turnOf 57 = .ok (.aload_n 0, 1) := by decide +kernel
theorem dX8_turnOf_58 : decode cX8_turnOf 58 = .ok (.getfield 42, 3) := by decide +kernel
theorem dX8_turnOf_61 : decode cX8_turnOf 61 = .ok (.iload 7, 2) := by decide +kernel
theorem dX8_turnOf_63 : decode cX8_turnOf 63 = .ok (.iaload, 1) := by decide +kernel
theorem dX8_turnOf_64 : decode cX8_turnOf 64 = .ok (.i2l, 1) := by decide +kernel
theorem dX8_turnOf_65 : decode cX8_turnOf 65 = .ok (.aload_n 0, 1) := by decide +kernel
theorem dX8_turnOf_66 : decode cX8_turnOf 66 = .ok (.getfield 45, 3) := by decide +kernel
theorem dX8_turnOf_69 : decode cX8_turnOf 69 = .ok (.iload 7, 2) := by decide +kernel
theorem dX8_turnOf_71 : decode cX8_turnOf 71 = .ok (.iaload, 1) := by decide +kernel
theorem dX8_turnOf_72 : decode cX8_turnOf 72 = .ok (.i2l, 1) := by decide +kernel
theorem dX8_turnOf_73 : decode cX8_turnOf 73 = .ok (.invokestatic 132, 3) := by decide +kernel
theorem dX8_turnOf_76 : decode cX8_turnOf 76 = .ok (.ireturn, 1) := by decide +kernel
theorem dX8_isEar_0 : decode cX8_isEar 0 = .ok (.aload_n 0, 1) := by decide +kernel
theorem dX8_isEar_1 : decode cX8_isEar 1 = .ok (.getfield 51, 3) := by decide +kernel
theorem dX8_isEar_4 : decode cX8_isEar 4 = .ok (.iload_n 2, 1) := by decide +kernel
theorem dX8_isEar_5 : decode cX8_isEar 5 = .ok (.aload_n 0, 1) := by decide +kernel
theorem dX8_isEar_6 : decode cX8_isEar 6 = .ok (.getfield 252, 3) := by decide +kernel
theorem dX8_isEar_9 : decode cX8_isEar 9 = .ok (.iadd, 1) := by decide +kernel
theorem dX8_isEar_10 : decode cX8_isEar 10 = .ok (.iconst 1, 1) := by decide +kernel
theorem dX8_isEar_11 : decode cX8_isEar 11 = .ok (.isub, 1) := by decide +kernel
theorem dX8_isEar_12 : decode cX8_isEar 12 = .ok (.aload_n 0, 1) := by decide +kernel
theorem dX8_isEar_13 : decode cX8_isEar 13 = .ok (.getfield 252, 3) := by decide +kernel
theorem dX8_isEar_16 : decode cX8_isEar 16 = .ok (.irem, 1) := by decide +kernel
theorem dX8_isEar_17 : decode cX8_isEar 17 = .ok (.iaload, 1) := by decide +kernel
theorem dX8_isEar_18 : decode cX8_isEar 18 = .ok (.istore 4, 2) := by decide +kernel
theorem dX8_isEar_20 : decode cX8_isEar 20 = .ok (.aload_n 0, 1) := by decide +kernel
theorem dX8_isEar_21 : decode cX8_isEar 21 = .ok (.getfield 51, 3) := by decide +kernel
theorem dX8_isEar_24 : decode cX8_isEar 24 = .ok (.iload_n 2, 1) := by decide +kernel
theorem dX8_isEar_25 : decode cX8_isEar 25 = .ok (.iaload, 1) := by decide +kernel
theorem dX8_isEar_26 : decode cX8_isEar 26 = .ok (.istore 5, 2) := by decide +kernel
theorem dX8_isEar_28 : decode cX8_isEar 28 = .ok (.aload_n 0, 1) := by decide +kernel
theorem dX8_isEar_29 : decode cX8_isEar 29 = .ok (.getfield 51, 3) := by decide +kernel
theorem dX8_isEar_32 : decode cX8_isEar 32 = .ok (.iload_n 2, 1) := by decide +kernel
theorem dX8_isEar_33 : decode cX8_isEar 33 = .ok (.iconst 1, 1) := by decide +kernel
theorem dX8_isEar_34 : decode cX8_isEar 34 = .ok (.iadd, 1) := by decide +kernel
theorem dX8_isEar_35 : decode cX8_isEar 35 = .ok (.aload_n 0, 1) := by decide +kernel
theorem dX8_isEar_36 : decode cX8_isEar 36 = .ok (.getfield 252, 3) := by decide +kernel
theorem dX8_isEar_39 : decode cX8_isEar 39 = .ok (.irem, 1) := by decide +kernel
theorem dX8_isEar_40 : decode cX8_isEar 40 = .ok (.iaload, 1) := by decide +kernel
theorem dX8_isEar_41 : decode cX8_isEar 41 = .ok (.istore 6, 2) := by decide +kernel
theorem dX8_isEar_43 : decode cX8_isEar 43 = .ok (.aload_n 0, 1) := by decide +kernel
theorem dX8_isEar_44 : decode cX8_isEar 44 = .ok (.iload_n 1, 1) := by decide +kernel
theorem dX8_isEar_45 : decode cX8_isEar 45 = .ok (.iload 4, 2) := by decide +kernel
theorem dX8_isEar_47 : decode cX8_isEar 47 = .ok (.iload 5, 2) := by decide +kernel
theorem dX8_isEar_49 : decode cX8_isEar 49 = .ok (.iload 6, 2) := by decide +kernel
theorem dX8_isEar_51 : decode cX8_isEar 51 = .ok (.invokevirtual 255, 3) := by decide +kernel
theorem dX8_isEar_54 : decode cX8_isEar 54 = .ok (.iload_n 3, 1) := by decide +kernel
theorem dX8_isEar_55 : decode cX8_isEar 55 = .ok (.if_icmp .eq 5, 3) := by decide +kernel
theorem dX8_isEar_58 : decode cX8_isEar 58 = .ok (.iconst 0, 1) := by decide +kernel
theorem dX8_isEar_59 : decode cX8_isEar 59 = .ok (.ireturn, 1) := by decide +kernel
theorem dX8_isEar_60 : decode cX8_isEar 60 = .ok (.iconst 0, 1) := by decide +kernel
theorem dX8_isEar_61 : decode cX8_isEar 61 = .ok (.istore 7, 2) := by decide +kernel
theorem dX8_isEar_63 : decode cX8_isEar 63 = .ok (.iload 7, 2) := by decide +kernel
theorem dX8_isEar_65 : decode cX8_isEar 65 = .ok (.aload_n 0, 1) := by decide +kernel
theorem dX8_isEar_66 : decode cX8_isEar 66 = .ok (.getfield 252, 3) := by decide +kernel
theorem dX8_isEar_69 : decode cX8_isEar 69 = .ok (.if_icmp .ge 104, 3) := by decide +kernel
theorem dX8_isEar_72 : decode cX8_isEar 72 = .ok (.aload_n 0, 1) := by decide +kernel
theorem dX8_isEar_73 : decode cX8_isEar 73 = .ok (.getfield 51, 3) := by decide +kernel
theorem dX8_isEar_76 : decode cX8_isEar 76 = .ok (.iload 7, 2) := by decide +kernel
theorem dX8_isEar_78 : decode cX8_isEar 78 = .ok (.iaload, 1) := by decide +kernel
theorem dX8_isEar_79 : decode cX8_isEar 79 = .ok (.istore 8, 2) := by decide +kernel
theorem dX8_isEar_81 : decode cX8_isEar 81 = .ok (.iload 8, 2) := by decide +kernel
theorem dX8_isEar_83 : decode cX8_isEar 83 = .ok (.iload 4, 2) := by decide +kernel
theorem dX8_isEar_85 : decode cX8_isEar 85 = .ok (.if_icmp .eq 21, 3) := by decide +kernel
theorem dX8_isEar_88 : decode cX8_isEar 88 = .ok (.iload 8, 2) := by decide +kernel
theorem dX8_isEar_90 : decode cX8_isEar 90 = .ok (.iload 5, 2) := by decide +kernel
theorem dX8_isEar_92 : decode cX8_isEar 92 = .ok (.if_icmp .eq 14, 3) := by decide +kernel
theorem dX8_isEar_95 : decode cX8_isEar 95 = .ok (.iload 8, 2) := by decide +kernel
theorem dX8_isEar_97 : decode cX8_isEar 97 = .ok (.iload 6, 2) := by decide +kernel
theorem dX8_isEar_99 : decode cX8_isEar 99 = .ok (.if_icmp .eq 7, 3) := by decide +kernel
theorem dX8_isEar_102 : decode cX8_isEar 102 = .ok (.iconst 1, 1) := by decide +kernel
theorem dX8_isEar_103 : decode cX8_isEar 103 = .ok (.goto 4, 3) := by decide +kernel
theorem dX8_isEar_106 : decode cX8_isEar 106 = .ok (.iconst 0, 1) := by decide +kernel
theorem dX8_isEar_107 : decode cX8_isEar 107 = .ok (.istore 9, 2) := by decide +kernel
theorem dX8_isEar_109 : decode cX8_isEar 109 = .ok (.iload 9, 2) := by decide +kernel
theorem dX8_isEar_111 : decode cX8_isEar 111 = .ok (.ifCond .eq 56, 3) := by decide +kernel
theorem dX8_isEar_114 : decode cX8_isEar 114 = .ok (.aload_n 0, 1) := by decide +kernel
theorem dX8_isEar_115 : decode cX8_isEar 115 = .ok (.iload_n 1, 1) := by decide +kernel
theorem dX8_isEar_116 : decode cX8_isEar 116 = .ok (.iload 4, 2) := by decide +kernel
theorem dX8_isEar_118 : decode cX8_isEar 118 = .ok (.iload 5, 2) := by decide +kernel
theorem dX8_isEar_120 : decode cX8_isEar 120 = .ok (.iload 8, 2) := by decide +kernel
theorem dX8_isEar_122 : decode cX8_isEar 122 = .ok (.invokevirtual 255, 3) := by decide +kernel
theorem dX8_isEar_125 : decode cX8_isEar 125 = .ok (.iconst 0, 1) := by decide +kernel
theorem dX8_isEar_126 : decode cX8_isEar 126 = .ok (.iload_n 3, 1) := by decide +kernel
theorem dX8_isEar_127 : decode cX8_isEar 127 = .ok (.isub, 1) := by decide +kernel
theorem dX8_isEar_128 : decode cX8_isEar 128 = .ok (.if_icmp .eq 39, 3) := by decide +kernel
theorem dX8_isEar_131 : decode cX8_isEar 131 = .ok (.aload_n 0, 1) := by decide +kernel
theorem dX8_isEar_132 : decode cX8_isEar 132 = .ok (.iload_n 1, 1) := by decide +kernel
theorem dX8_isEar_133 : decode cX8_isEar 133 = .ok (.iload 5, 2) := by decide +kernel
theorem dX8_isEar_135 : decode cX8_isEar 135 = .ok (.iload 6, 2) := by decide +kernel
theorem dX8_isEar_137 : decode cX8_isEar 137 = .ok (.iload 8, 2) := by decide +kernel
theorem dX8_isEar_139 : decode cX8_isEar 139 = .ok (.invokevirtual 255, 3) := by decide +kernel
theorem dX8_isEar_142 : decode cX8_isEar 142 = .ok (.iconst 0, 1) := by decide +kernel
theorem dX8_isEar_143 : decode cX8_isEar 143 = .ok (.iload_n 3, 1) := by decide +kernel
theorem dX8_isEar_144 : decode cX8_isEar 144 = .ok (.isub, 1) := by decide +kernel
theorem dX8_isEar_145 : decode cX8_isEar 145 = .ok (.if_icmp .eq 22, 3) := by decide +kernel
theorem dX8_isEar_148 : decode cX8_isEar 148 = .ok (.aload_n 0, 1) := by decide +kernel
theorem dX8_isEar_149 : decode cX8_isEar 149 = .ok (.iload_n 1, 1) := by decide +kernel
theorem dX8_isEar_150 : decode cX8_isEar 150 = .ok (.iload 6, 2) := by decide +kernel
theorem dX8_isEar_152 : decode cX8_isEar 152 = .ok (.iload 4, 2) := by decide +kernel
theorem dX8_isEar_154 : decode cX8_isEar 154 = .ok (.iload 8, 2) := by decide +kernel
theorem dX8_isEar_156 : decode cX8_isEar 156 = .ok (.invokevirtual 255, 3) := by decide +kernel
theorem dX8_isEar_159 : decode cX8_isEar 159 = .ok (.iconst 0, 1) := by decide +kernel
theorem dX8_isEar_160 : decode cX8_isEar 160 = .ok (.iload_n 3, 1) := by decide +kernel
theorem dX8_isEar_161 : decode cX8_isEar 161 = .ok (.isub, 1) := by decide +kernel
theorem dX8_isEar_162 : decode cX8_isEar 162 = .ok (.if_icmp .eq 5, 3) := by decide +kernel
theorem dX8_isEar_165 : decode cX8_isEar 165 = .ok (.iconst 0, 1) := by decide +kernel
theorem dX8_isEar_166 : decode cX8_isEar 166 = .ok (.ireturn, 1) := by decide +kernel
theorem dX8_isEar_167 : decode cX8_isEar 167 = .ok (.iinc 7 1, 3) := by decide +kernel
theorem dX8_isEar_170 : decode cX8_isEar 170 = .ok (.goto (-107), 3) := by decide +kernel
theorem dX8_isEar_173 : decode cX8_isEar 173 = .ok (.iconst 1, 1) := by decide +kernel
theorem dX8_isEar_174 : decode cX8_isEar 174 = .ok (.ireturn, 1) := by decide +kernel
theorem dX8_cuts_0 : decode cX8_cuts 0 = .ok (.aload_n 0, 1) := by decide +kernel
theorem dX8_cuts_1 : decode cX8_cuts 1 = .ok (.getfield 54, 3) := by decide +kernel
theorem dX8_cuts_4 : decode cX8_cuts 4 = .ok (.aload_n 0, 1) := by decide +kernel
theorem dX8_cuts_5 : decode cX8_cuts 5 = .ok (.getfield 259, 3) := by decide +kernel
theorem dX8_cuts_8 : decode cX8_cuts 8 = .ok (.sipush 10000, 3) := by decide +kernel
theorem dX8_cuts_11 : decode cX8_cuts 11 = .ok (.iload_n 1, 1) := by decide +kernel
theorem dX8_cuts_12 : decode cX8_cuts 12 = .ok (.imul, 1) := by decide +kernel
theorem dX8_cuts_13 : decode cX8_cuts 13 = .ok (.bipush 100, 2) := by decide +kernel
theorem dX8_cuts_15 : decode cX8_cuts 15 = .ok (.iload_n 2, 1) := by decide +kernel
theorem dX8_cuts_16 : decode cX8_cuts 16 = .ok (.imul, 1) := by decide +kernel
theorem dX8_cuts_17 : decode cX8_cuts 17 = .ok (.iadd, 1) := by decide +kernel
theorem dX8_cuts_18 : decode cX8_cuts 18 = .ok (.iload_n 3, 1) := by decide +kernel
theorem dX8_cuts_19 : decode cX8_cuts 19 = .ok (.iadd, 1) := by decide +kernel
theorem dX8_cuts_20 : decode cX8_cuts 20 = .ok (.iastore, 1) := by decide +kernel
theorem dX8_cuts_21 : decode cX8_cuts 21 = .ok (.aload_n 0, 1) := by decide +kernel
theorem dX8_cuts_22 : decode cX8_cuts 22 = .ok (.dup, 1) := by decide +kernel
theorem dX8_cuts_23 : decode cX8_cuts 23 = .ok (.getfield 259, 3) := by decide +kernel
theorem dX8_cuts_26 : decode cX8_cuts 26 = .ok (.iconst 1, 1) := by decide +kernel
theorem dX8_cuts_27 : decode cX8_cuts 27 = .ok (.iadd, 1) := by decide +kernel
theorem dX8_cuts_28 : decode cX8_cuts 28 = .ok (.putfield 259, 3) := by decide +kernel
theorem dX8_cuts_31 : decode cX8_cuts 31 = .ok (.return_, 1) := by decide +kernel
theorem dX8_parts_0 : decode cX8_parts 0 = .ok (.aload_n 0, 1) := by decide +kernel
theorem dX8_parts_1 : decode cX8_parts 1 = .ok (.iload_n 1, 1) := by decide +kernel
theorem dX8_parts_2 : decode cX8_parts 2 = .ok (.invokevirtual 242, 3) := by decide +kernel
theorem dX8_parts_5 : decode cX8_parts 5 = .ok (.ifCond .le 7, 3) := by decide +kernel
theorem dX8_parts_8 : decode cX8_parts 8 = .ok (.iconst 1, 1) := by decide +kernel
theorem dX8_parts_9 : decode cX8_parts 9 = .ok (.goto 4, 3) := by decide +kernel
theorem dX8_parts_12 : decode cX8_parts 12 = .ok (.iconst (-1), 1) := by decide +kernel
theorem dX8_parts_13 : decode cX8_parts 13 = .ok (.istore_n 2, 1) := by decide +kernel
theorem dX8_parts_14 : decode cX8_parts 14 = .ok (.aload_n 0, 1) := by decide +kernel
theorem dX8_parts_15 : decode cX8_parts 15 = .ok (.aload_n 0, 1) := by decide +kernel
theorem dX8_parts_16 : decode cX8_parts 16 = .ok (.getfield 48, 3) := by decide +kernel
theorem dX8_parts_19 : decode cX8_parts 19 = .ok (.iload_n 1, 1) := by decide +kernel
theorem dX8_parts_20 : decode cX8_parts 20 = .ok (.iaload, 1) := by decide +kernel
theorem dX8_parts_21 : decode cX8_parts 21 = .ok (.putfield 252, 3) := by decide +kernel
theorem dX8_parts_24 : decode cX8_parts 24 = .ok (.aload_n 0, 1) := by decide +kernel
theorem dX8_parts_25 : decode cX8_parts 25 = .ok (.iconst 0, 1) := by decide +kernel
theorem dX8_parts_26 : decode cX8_parts 26 = .ok (.putfield 259, 3) := by decide +kernel
theorem dX8_parts_29 : decode cX8_parts 29 = .ok (.iconst 0, 1) := by decide +kernel
theorem dX8_parts_30 : decode cX8_parts 30 = .ok (.istore_n 3, 1) := by decide +kernel
theorem dX8_parts_31 : decode cX8_parts 31 = .ok (.iload_n 3, 1) := by decide +kernel
theorem dX8_parts_32 : decode cX8_parts 32 = .ok (.aload_n 0, 1) := by decide +kernel
theorem dX8_parts_33 : decode cX8_parts 33 = .ok (.getfield 252, 3) := by decide +kernel
theorem dX8_parts_36 : decode cX8_parts 36 = .ok (.if_icmp .ge 16, 3) := by decide +kernel
theorem dX8_parts_39 : decode cX8_parts 39 = .ok (.aload_n 0, 1) := by decide +kernel
theorem dX8_parts_40 : decode cX8_parts 40 = .ok (.getfield 51, 3) := by decide +kernel
theorem dX8_parts_43 : decode cX8_parts 43 = .ok (.iload_n 3, 1) := by decide +kernel
theorem dX8_parts_44 : decode cX8_parts 44 = .ok (.iload_n 3, 1) := by decide +kernel
theorem dX8_parts_45 : decode cX8_parts 45 = .ok (.iastore, 1) := by decide +kernel
theorem dX8_parts_46 : decode cX8_parts 46 = .ok (.iinc 3 1, 3) := by decide +kernel
theorem dX8_parts_49 : decode cX8_parts 49 = .ok (.goto (-18), 3) := by decide +kernel
theorem dX8_parts_52 : decode cX8_parts 52 = .ok (.aload_n 0, 1) := by decide +kernel
theorem dX8_parts_53 : decode cX8_parts 53 = .ok (.getfield 252, 3) := by decide +kernel
theorem dX8_parts_56 : decode cX8_parts 56 = .ok (.iconst 3, 1) := by decide +kernel
theorem dX8_parts_57 : decode cX8_parts 57 = .ok (.if_icmp .le 126, 3) := by decide +kernel
theorem dX8_parts_60 : decode cX8_parts 60 = .ok (.iconst 0, 1) := by decide +kernel
theorem dX8_parts_61 : decode cX8_parts 61 = .ok (.istore_n 3, 1) := by decide +kernel
theorem dX8_parts_62 : decode cX8_parts 62 = .ok (.iload_n 3, 1) := by decide +kernel
theorem dX8_parts_63 : decode cX8_parts 63 = .ok (.aload_n 0, 1) := by decide +kernel
theorem dX8_parts_64 : decode cX8_parts 64 = .ok (.getfield 252, 3) := by decide +kernel
theorem dX8_parts_67 : decode cX8_parts 67 = .ok (.if_icmp .ge 19, 3) := by decide +kernel
theorem dX8_parts_70 : decode cX8_parts 70 = .ok (.aload_n 0, 1) := by decide +kernel
theorem dX8_parts_71 : decode cX8_parts 71 = .ok (.iload_n 1, 1) := by decide +kernel
theorem dX8_parts_72 : decode cX8_parts 72 = .ok (.iload_n 3, 1) := by decide +kernel
theorem dX8_parts_73 : decode cX8_parts 73 = .ok (.iload_n 2, 1) := by decide +kernel
theorem dX8_parts_74 : decode cX8_parts 74 = .ok (.invokevirtual 262, 3) := by decide +kernel
theorem dX8_parts_77 : decode cX8_parts 77 = .ok (.ifCond .ne 9, 3) := by decide +kernel
theorem dX8_parts_80 : decode cX8_parts 80 = .ok (.iinc 3 1, 3) := by decide +kernel
theorem dX8_parts_83 : decode cX8_parts 83 = .ok (.goto (-21), 3) := by decide +kernel
theorem dX8_parts_86 : decode cX8_parts 86 = .ok (.iload_n 3, 1) := by decide +kernel
theorem dX8_parts_87 : decode cX8_parts 87 = .ok (.aload_n 0, 1) := by decide +kernel
theorem dX8_parts_88 : decode cX8_parts 88 = .ok (.getfield 252, 3) := by decide +kernel
theorem dX8_parts_91 : decode cX8_parts 91 = .ok (.if_icmp .ne 4, 3) := by decide +kernel
theorem dX8_parts_94 : decode cX8_parts 94 = .ok (.return_, 1) := by decide +kernel
theorem dX8_parts_95 : decode cX8_parts 95 = .ok (.aload_n 0, 1) := by decide +kernel
theorem dX8_parts_96 : decode cX8_parts 96 = .ok (.aload_n 0, 1) := by decide +kernel
theorem dX8_parts_97 : decode cX8_parts 97 = .ok (.getfield 51, 3) := by decide +kernel
theorem dX8_parts_100 : decode cX8_parts 100 = .ok (.iload_n 3, 1) := by decide +kernel
theorem dX8_parts_101 : decode cX8_parts 101 = .ok (.aload_n 0, 1) := by decide +kernel
theorem dX8_parts_102 : decode cX8_parts 102 = .ok (.getfield 252, 3) := by decide +kernel
theorem dX8_parts_105 : decode cX8_parts 105 = .ok (.iadd, 1) := by decide +kernel
theorem dX8_parts_106 : decode cX8_parts 106 = .ok (.iconst 1, 1) := by decide +kernel
theorem dX8_parts_107 : decode cX8_parts 107 = .ok (.isub, 1) := by decide +kernel
theorem dX8_parts_108 : decode cX8_parts 108 = .ok (.aload_n 0, 1) := by decide +kernel
theorem dX8_parts_109 : decode cX8_parts 109 = .ok (.getfield 252, 3) := by decide +kernel
theorem dX8_parts_112 : decode cX8_parts 112 = .ok (.irem, 1) := by decide +kernel
theorem dX8_parts_113 : decode cX8_parts 113 = .ok (.iaload, 1) := by decide +kernel
theorem dX8_parts_114 : decode cX8_parts 114 = .ok (.aload_n 0, 1) := by decide +kernel
theorem dX8_parts_115 : decode cX8_parts 115 = .ok (.getfield 51, 3) := by decide +kernel
theorem dX8_parts_118 : decode cX8_parts 118 = .ok (.iload_n 3, 1) := by decide +kernel
theorem dX8_parts_119 : decode cX8_parts 119 = .ok (.iaload, 1) := by decide +kernel
theorem dX8_parts_120 : decode cX8_parts 120 = .ok (.aload_n 0, 1) := by decide +kernel
theorem dX8_parts_121 : decode cX8_parts 121 = .ok (.getfield 51, 3) := by decide +kernel
theorem dX8_parts_124 : decode cX8_parts 124 = .ok (.iload_n 3, 1) := by decide +kernel
theorem dX8_parts_125 : decode cX8_parts 125 = .ok (.iconst 1, 1) := by decide +kernel
theorem dX8_parts_126 : decode cX8_parts 126 = .ok (.iadd, 1) := by decide +kernel
theorem dX8_parts_127 : decode cX8_parts 127 = .ok (.aload_n 0, 1) := by decide +kernel
theorem dX8_parts_128 : decode cX8_parts 128 = .ok (.getfield 252, 3) := by decide +kernel
theorem dX8_parts_131 : decode cX8_parts 131 = .ok (.irem, 1) := by decide +kernel
theorem dX8_parts_132 : decode cX8_parts 132 = .ok (.iaload, 1) := by decide +kernel
theorem dX8_parts_133 : decode cX8_parts 133 = .ok (.invokevirtual 265, 3) := by decide +kernel
theorem dX8_parts_136 : decode cX8_parts 136 = .ok (.aload_n 0, 1) := by decide +kernel
theorem dX8_parts_137 : decode cX8_parts 137 = .ok (.dup, 1) := by decide +kernel
theorem dX8_parts_138 : decode cX8_parts 138 = .ok (.getfield 252, 3) := by decide +kernel
theorem dX8_parts_141 : decode cX8_parts 141 = .ok (.iconst 1, 1) := by decide +kernel
theorem dX8_parts_142 : decode cX8_parts 142 = .ok (.isub, 1) := by decide +kernel
theorem dX8_parts_143 : decode cX8_parts 143 = .ok (.putfield 252, 3) := by decide +kernel
theorem dX8_parts_146 : decode cX8_parts 146 = .ok (.iload_n 3, 1) := by decide +kernel
theorem dX8_parts_147 : decode cX8_parts 147 = .ok (.istore 4, 2) := by decide +kernel
theorem dX8_parts_149 : decode cX8_parts 149 = .ok (.iload 4, 2) := by decide +kernel
theorem dX8_parts_151 : decode cX8_parts 151 = .ok (.aload_n 0, 1) := by decide +kernel
theorem dX8_parts_152 : decode cX8_parts 152 = .ok (.getfield 252, 3) := by decide +kernel
theorem dX8_parts_155 : decode cX8_parts 155 = .ok (.if_icmp .ge 25, 3) := by decide +kernel
theorem dX8_parts_158 : decode cX8_parts 158 = .ok (.aload_n 0, 1) := by decide +kernel
theorem dX8_parts_159 : decode cX8_parts 159 = .ok (.getfield 51, 3) := by decide +kernel
theorem dX8_parts_162 : decode cX8_parts 162 = .ok (.iload 4, 2) := by decide +kernel
theorem dX8_parts_164 : decode cX8_parts 164 = .ok (.aload_n 0, 1) := by decide +kernel
theorem dX8_parts_165 : decode cX8_parts 165 = .ok (.getfield 51, 3) := by decide +kernel
theorem dX8_parts_168 : decode cX8_parts 168 = .ok (.iload 4, 2) := by decide +kernel
theorem dX8_parts_170 : decode cX8_parts 170 = .ok (.iconst 1, 1) := by decide +kernel
theorem dX8_parts_171 : decode cX8_parts 171 = .ok (.iadd, 1) := by decide +kernel
theorem dX8_parts_172 : decode cX8_parts 172 = .ok (.iaload, 1) := by decide +kernel
theorem dX8_parts_173 : decode cX8_parts 173 = .ok (.iastore, 1) := by decide +kernel
theorem dX8_parts_174 : decode cX8_parts 174 = .ok (.iinc 4 1, 3) := by decide +kernel
theorem dX8_parts_177 : decode cX8_parts 177 = .ok (.goto (-28), 3) := by decide +kernel
theorem dX8_parts_180 : decode cX8_parts 180 = .ok (.goto (-128), 3) := by decide +kernel
theorem dX8_parts_183 : decode cX8_parts 183 = .ok (.aload_n 0, 1) := by decide +kernel
theorem dX8_parts_184 : decode cX8_parts 184 = .ok (.aload_n 0, 1) := by decide +kernel
theorem dX8_parts_185 : decode cX8_parts 185 = .ok (.getfield 51, 3) := by decide +kernel
theorem dX8_parts_188 : decode cX8_parts 188 = .ok (.iconst 0, 1) := by decide +kernel
theorem dX8_parts_189 : decode cX8_parts 189 = .ok (.iaload, 1) := by decide +kernel
theorem dX8_parts_190 : decode cX8_parts 190 = .ok (.aload_n 0, 1) := by decide +kernel
theorem dX8_parts_191 : decode cX8_parts 191 = .ok (.getfield 51, 3) := by decide +kernel
theorem dX8_parts_194 : decode cX8_parts 194 = .ok (.iconst 1, 1) := by decide +kernel
theorem dX8_parts_195 : decode cX8_parts 195 = .ok (.iaload, 1) := by decide +kernel
theorem dX8_parts_196 : decode cX8_parts 196 = .ok (.aload_n 0, 1) := by decide +kernel
theorem dX8_parts_197 : decode cX8_parts 197 = .ok (.getfield 51, 3) := by decide +kernel
theorem dX8_parts_200 : decode cX8_parts 200 = .ok (.iconst 2, 1) := by decide +kernel
theorem dX8_parts_201 : decode cX8_parts 201 = .ok (.iaload, 1) := by decide +kernel
theorem dX8_parts_202 : decode cX8_parts 202 = .ok (.invokevirtual 265, 3) := by decide +kernel
theorem dX8_parts_205 : decode cX8_parts 205 = .ok (.return_, 1) := by decide +kernel
theorem dX8_triangles_0 : decode cX8_triangles 0 = .ok (.aload_n 0, 1) := by decide +kernel
theorem dX8_triangles_1 : decode cX8_triangles 1 = .ok (.iconst 0, 1) := by decide +kernel
theorem dX8_triangles_2 : decode cX8_triangles 2 = .ok (.putfield 1, 3) := by decide +kernel
theorem dX8_triangles_5 : decode cX8_triangles 5 = .ok (.aload_n 0, 1) := by decide +kernel
theorem dX8_triangles_6 : decode cX8_triangles 6 = .ok (.iload_n 1, 1) := by decide +kernel
theorem dX8_triangles_7 : decode cX8_triangles 7 = .ok (.invokevirtual 245, 3) := by decide +kernel
theorem dX8_triangles_10 : decode cX8_triangles 10 = .ok (.ifCond .eq 5, 3) := by decide +kernel
theorem dX8_triangles_13 : decode cX8_triangles 13 = .ok (.iconst 0, 1) := by decide +kernel
theorem dX8_triangles_14 : decode cX8_triangles 14 = .ok (.ireturn, 1) := by decide +kernel
theorem dX8_triangles_15 : decode cX8_triangles 15 = .ok (.aload_n 0, 1) := by decide +kernel
theorem dX8_triangles_16 : decode cX8_triangles 16 = .ok (.iload_n 1, 1) := by decide +kernel
theorem dX8_triangles_17 : decode cX8_triangles 17 = .ok (.invokevirtual 269, 3) := by decide +kernel
theorem dX8_triangles_20 : decode cX8_triangles 20 = .ok (.aload_n 0, 1) := by decide +kernel
theorem dX8_triangles_21 : decode cX8_triangles 21 = .ok (.getfield 259, 3) := by decide +kernel
theorem dX8_triangles_24 : decode cX8_triangles 24 = .ok (.ireturn, 1) := by decide +kernel
theorem dX8_triangleAt_0 : decode cX8_triangleAt 0 = .ok (.aload_n 0, 1) := by decide +kernel
theorem dX8_triangleAt_1 : decode cX8_triangleAt 1 = .ok (.iconst 0, 1) := by decide +kernel
theorem dX8_triangleAt_2 : decode cX8_triangleAt 2 = .ok (.putfield 1, 3) := by decide +kernel
theorem dX8_triangleAt_5 : decode cX8_triangleAt 5 = .ok (.aload_n 0, 1) := by decide +kernel
theorem dX8_triangleAt_6 : decode cX8_triangleAt 6 = .ok (.iload_n 1, 1) := by decide +kernel
theorem dX8_triangleAt_7 : decode cX8_triangleAt 7 = .ok (.invokevirtual 245, 3) := by decide +kernel
theorem dX8_triangleAt_10 : decode cX8_triangleAt 10 = .ok (.ifCond .eq 5, 3) := by decide +kernel
theorem dX8_triangleAt_13 : decode cX8_triangleAt 13 = .ok (.iconst 0, 1) := by decide +kernel
theorem dX8_triangleAt_14 : decode cX8_triangleAt 14 = .ok (.ireturn, 1) := by decide +kernel
theorem dX8_triangleAt_15 : decode cX8_triangleAt 15 = .ok (.aload_n 0, 1) := by decide +kernel
theorem dX8_triangleAt_16 : decode cX8_triangleAt 16 = .ok (.iload_n 1, 1) := by decide +kernel
theorem dX8_triangleAt_17 : decode cX8_triangleAt 17 = .ok (.invokevirtual 269, 3) := by decide +kernel
theorem dX8_triangleAt_20 : decode cX8_triangleAt 20 = .ok (.aload_n 0, 1) := by decide +kernel
theorem dX8_triangleAt_21 : decode cX8_triangleAt 21 = .ok (.iload_n 2, 1) := by decide +kernel
theorem dX8_triangleAt_22 : decode cX8_triangleAt 22 = .ok (.iconst 0, 1) := by decide +kernel
theorem dX8_triangleAt_23 : decode cX8_triangleAt 23 = .ok (.aload_n 0, 1) := by decide +kernel
theorem dX8_triangleAt_24 : decode cX8_triangleAt 24 = .ok (.getfield 259, 3) := by decide +kernel
theorem dX8_triangleAt_27 : decode cX8_triangleAt 27 = .ok (.iconst 1, 1) := by decide +kernel
theorem dX8_triangleAt_28 : decode cX8_triangleAt 28 = .ok (.isub, 1) := by decide +kernel
theorem dX8_triangleAt_29 : decode cX8_triangleAt 29 = .ok (.invokestatic 96, 3) := by decide +kernel
theorem dX8_triangleAt_32 : decode cX8_triangleAt 32 = .ok (.iconst 3, 1) := by decide +kernel
theorem dX8_triangleAt_33 : decode cX8_triangleAt 33 = .ok (.invokevirtual 104, 3) := by decide +kernel
theorem dX8_triangleAt_36 : decode cX8_triangleAt 36 = .ok (.ifCond .eq 7, 3) := by decide +kernel
theorem dX8_triangleAt_39 : decode cX8_triangleAt 39 = .ok (.iconst 0, 1) := by decide +kernel
theorem dX8_triangleAt_40 : decode cX8_triangleAt 40 = .ok (.goto 9, 3) := by decide +kernel
theorem dX8_triangleAt_43 : decode cX8_triangleAt 43 = .ok (.aload_n 0, 1) := by decide +kernel
theorem dX8_triangleAt_44 : decode cX8_triangleAt 44 = .ok (.getfield 54, 3) := by decide +kernel
theorem dX8_triangleAt_47 : decode cX8_triangleAt 47 = .ok (.iload_n 2, 1) := by decide +kernel
theorem dX8_triangleAt_48 : decode cX8_triangleAt 48 = .ok (.iaload, 1) := by decide +kernel
theorem dX8_triangleAt_49 : decode cX8_triangleAt 49 = .ok (.ireturn, 1) := by decide +kernel
theorem dX8_noCorner_0 : decode cX8_noCorner 0 = .ok (.aload_n 0, 1) := by decide +kernel
theorem dX8_noCorner_1 : decode cX8_noCorner 1 = .ok (.iload_n 1, 1) := by decide +kernel
theorem dX8_noCorner_2 : decode cX8_noCorner 2 = .ok (.invokevirtual 195, 3) := by decide +kernel
theorem dX8_noCorner_5 : decode cX8_noCorner 5 = .ok (.ifCond .ne 24, 3) := by decide +kernel
theorem dX8_noCorner_8 : decode cX8_noCorner 8 = .ok (.aload_n 0, 1) := by decide +kernel
theorem dX8_noCorner_9 : decode cX8_noCorner 9 = .ok (.iload_n 2, 1) := by decide +kernel
theorem dX8_noCorner_10 : decode cX8_noCorner 10 = .ok (.iconst 0, 1) := by decide +kernel
theorem dX8_noCorner_11 : decode cX8_noCorner 11 = .ok (.aload_n 0, 1) := by decide +kernel
theorem dX8_noCorner_12 : decode cX8_noCorner 12 = .ok (.getfield 48, 3) := by decide +kernel
theorem dX8_noCorner_15 : decode cX8_noCorner 15 = .ok (.iload_n 1, 1) := by decide +kernel
theorem dX8_noCorner_16 : decode cX8_noCorner 16 = .ok (.iaload, 1) := by decide +kernel
theorem dX8_noCorner_17 : decode cX8_noCorner 17 = .ok (.iconst 1, 1) := by decide +kernel
theorem dX8_noCorner_18 : decode cX8_noCorner 18 = .ok (.isub, 1) := by decide +kernel
theorem dX8_noCorner_19 : decode cX8_noCorner 19 = .ok (.invokestatic 96, 3) := by decide +kernel
theorem dX8_noCorner_22 : decode cX8_noCorner 22 = .ok (.iconst 2, 1) := by decide +kernel
theorem dX8_noCorner_23 : decode cX8_noCorner 23 = .ok (.invokevirtual 104, 3) := by decide +kernel
theorem dX8_noCorner_26 : decode cX8_noCorner 26 = .ok (.ifCond .eq 7, 3) := by decide +kernel
theorem dX8_noCorner_29 : decode cX8_noCorner 29 = .ok (.iconst 1, 1) := by decide +kernel
theorem dX8_noCorner_30 : decode cX8_noCorner 30 = .ok (.goto 4, 3) := by decide +kernel
theorem dX8_noCorner_33 : decode cX8_noCorner 33 = .ok (.iconst 0, 1) := by decide +kernel
theorem dX8_noCorner_34 : decode cX8_noCorner 34 = .ok (.ireturn, 1) := by decide +kernel
theorem dX8_doesSee_0 : decode cX8_doesSee 0 = .ok (.bipush 16, 2) := by decide +kernel
theorem dX8_doesSee_2 : decode cX8_doesSee 2 = .ok (.iload_n 1, 1) := by decide +kernel
theorem dX8_doesSee_3 : decode cX8_doesSee 3 = .ok (.imul, 1) := by decide +kernel
theorem dX8_doesSee_4 : decode cX8_doesSee 4 = .ok (.iload_n 2, 1) := by decide +kernel
theorem dX8_doesSee_5 : decode cX8_doesSee 5 = .ok (.iadd, 1) := by decide +kernel
theorem dX8_doesSee_6 : decode cX8_doesSee 6 = .ok (.istore 4, 2) := by decide +kernel
theorem dX8_doesSee_8 : decode cX8_doesSee 8 = .ok (.bipush 16, 2) := by decide +kernel
theorem dX8_doesSee_10 : decode cX8_doesSee 10 = .ok (.iload_n 1, 1) := by decide +kernel
theorem dX8_doesSee_11 : decode cX8_doesSee 11 = .ok (.imul, 1) := by decide +kernel
theorem dX8_doesSee_12 : decode cX8_doesSee 12 = .ok (.iload_n 3, 1) := by decide +kernel
theorem dX8_doesSee_13 : decode cX8_doesSee 13 = .ok (.iadd, 1) := by decide +kernel
theorem dX8_doesSee_14 : decode cX8_doesSee 14 = .ok (.istore 5, 2) := by decide +kernel
theorem dX8_doesSee_16 : decode cX8_doesSee 16 = .ok (.aload_n 0, 1) := by decide +kernel
theorem dX8_doesSee_17 : decode cX8_doesSee 17 = .ok (.aload_n 0, 1) := by decide +kernel
theorem dX8_doesSee_18 : decode cX8_doesSee 18 = .ok (.getfield 42, 3) := by decide +kernel
theorem dX8_doesSee_21 : decode cX8_doesSee 21 = .ok (.iload 4, 2) := by decide +kernel
theorem dX8_doesSee_23 : decode cX8_doesSee 23 = .ok (.iaload, 1) := by decide +kernel
theorem dX8_doesSee_24 : decode cX8_doesSee 24 = .ok (.aload_n 0, 1) := by decide +kernel
theorem dX8_doesSee_25 : decode cX8_doesSee 25 = .ok (.getfield 45, 3) := by decide +kernel
theorem dX8_doesSee_28 : decode cX8_doesSee 28 = .ok (.iload 4, 2) := by decide +kernel
theorem dX8_doesSee_30 : decode cX8_doesSee 30 = .ok (.iaload, 1) := by decide +kernel
theorem dX8_doesSee_31 : decode cX8_doesSee 31 = .ok (.aload_n 0, 1) := by decide +kernel
theorem dX8_doesSee_32 : decode cX8_doesSee 32 = .ok (.getfield 42, 3) := by decide +kernel
theorem dX8_doesSee_35 : decode cX8_doesSee 35 = .ok (.iload 5, 2) := by decide +kernel
theorem dX8_doesSee_37 : decode cX8_doesSee 37 = .ok (.iaload, 1) := by decide +kernel
theorem dX8_doesSee_38 : decode cX8_doesSee 38 = .ok (.aload_n 0, 1) := by decide +kernel
theorem dX8_doesSee_39 : decode cX8_doesSee 39 = .ok (.getfield 45, 3) := by decide +kernel
theorem dX8_doesSee_42 : decode cX8_doesSee 42 = .ok (.iload 5, 2) := by decide +kernel
theorem dX8_doesSee_44 : decode cX8_doesSee 44 = .ok (.iaload, 1) := by decide +kernel
theorem dX8_doesSee_45 : decode cX8_doesSee 45 = .ok (.invokevirtual 229, 3) := by decide +kernel
theorem dX8_doesSee_48 : decode cX8_doesSee 48 = .ok (.iconst 0, 1) := by decide +kernel
theorem dX8_doesSee_49 : decode cX8_doesSee 49 = .ok (.istore 6, 2) := by decide +kernel
theorem dX8_doesSee_51 : decode cX8_doesSee 51 = .ok (.iload 6, 2) := by decide +kernel
theorem dX8_doesSee_53 : decode cX8_doesSee 53 = .ok (.aload_n 0, 1) := by decide +kernel
theorem dX8_doesSee_54 : decode cX8_doesSee 54 = .ok (.getfield 48, 3) := by decide +kernel
theorem dX8_doesSee_57 : decode cX8_doesSee 57 = .ok (.iload_n 1, 1) := by decide +kernel
theorem dX8_doesSee_58 : decode cX8_doesSee 58 = .ok (.iaload, 1) := by decide +kernel
theorem dX8_doesSee_59 : decode cX8_doesSee 59 = .ok (.if_icmp .ge 70, 3) := by decide +kernel
theorem dX8_doesSee_62 : decode cX8_doesSee 62 = .ok (.aload_n 0, 1) := by decide +kernel
theorem dX8_doesSee_63 : decode cX8_doesSee 63 = .ok (.iload_n 1, 1) := by decide +kernel
theorem dX8_doesSee_64 : decode cX8_doesSee 64 = .ok (.iload 6, 2) := by decide +kernel
theorem dX8_doesSee_66 : decode cX8_doesSee 66 = .ok (.invokevirtual 226, 3) := by decide +kernel
theorem dX8_doesSee_69 : decode cX8_doesSee 69 = .ok (.istore 7, 2) := by decide +kernel
theorem dX8_doesSee_71 : decode cX8_doesSee 71 = .ok (.aload_n 0, 1) := by decide +kernel
theorem dX8_doesSee_72 : decode cX8_doesSee 72 = .ok (.iload_n 1, 1) := by decide +kernel
theorem dX8_doesSee_73 : decode cX8_doesSee 73 = .ok (.iload 6, 2) := by decide +kernel
theorem dX8_doesSee_75 : decode cX8_doesSee 75 = .ok (.iconst 1, 1) := by decide +kernel
theorem dX8_doesSee_76 : decode cX8_doesSee 76 = .ok (.iadd, 1) := by decide +kernel
theorem dX8_doesSee_77 : decode cX8_doesSee 77 = .ok (.invokevirtual 226, 3) := by decide +kernel
theorem dX8_doesSee_80 : decode cX8_doesSee 80 = .ok (.istore 8, 2) := by decide +kernel
theorem dX8_doesSee_82 : decode cX8_doesSee 82 = .ok (.aload_n 0, 1) := by decide +kernel
theorem dX8_doesSee_83 : decode cX8_doesSee 83 = .ok (.aload_n 0, 1) := by decide +kernel
theorem dX8_doesSee_84 : decode cX8_doesSee 84 = .ok (.getfield 42, 3) := by decide +kernel
theorem dX8_doesSee_87 : decode cX8_doesSee 87 = .ok (.iload 7, 2) := by decide +kernel
theorem dX8_doesSee_89 : decode cX8_doesSee 89 = .ok (.iaload, 1) := by decide +kernel
theorem dX8_doesSee_90 : decode cX8_doesSee 90 = .ok (.aload_n 0, 1) := by decide +kernel
theorem dX8_doesSee_91 : decode cX8_doesSee 91 = .ok (.getfield 45, 3) := by decide +kernel
theorem dX8_doesSee_94 : decode cX8_doesSee 94 = .ok (.iload 7, 2) := by decide +kernel
theorem dX8_doesSee_96 : decode cX8_doesSee 96 = .ok (.iaload, 1) := by decide +kernel
theorem dX8_doesSee_97 : decode cX8_doesSee 97 = .ok (.aload_n 0, 1) := by decide +kernel
theorem dX8_doesSee_98 : decode cX8_doesSee 98 = .ok (.getfield 42, 3) := by decide +kernel
theorem dX8_doesSee_101 : decode cX8_doesSee 101 = .ok (.iload 8, 2) := by decide +kernel
theorem dX8_doesSee_103 : decode cX8_doesSee 103 = .ok (.iaload, 1) := by decide +kernel
theorem dX8_doesSee_104 : decode cX8_doesSee 104 = .ok (.aload_n 0, 1) := by decide +kernel
theorem dX8_doesSee_105 : decode cX8_doesSee 105 = .ok (.getfield 45, 3) := by decide +kernel
theorem dX8_doesSee_108 : decode cX8_doesSee 108 = .ok (.iload 8, 2) := by decide +kernel
theorem dX8_doesSee_110 : decode cX8_doesSee 110 = .ok (.iaload, 1) := by decide +kernel
theorem dX8_doesSee_111 : decode cX8_doesSee 111 = .ok (.invokevirtual 233, 3) := by decide +kernel
theorem dX8_doesSee_114 : decode cX8_doesSee 114 = .ok (.aload_n 0, 1) := by decide +kernel
theorem dX8_doesSee_115 : decode cX8_doesSee 115 = .ok (.invokevirtual 222, 3) := by decide +kernel
theorem dX8_doesSee_118 : decode cX8_doesSee 118 = .ok (.ifCond .eq 5, 3) := by decide +kernel
theorem dX8_doesSee_121 : decode cX8_doesSee 121 = .ok (.iconst 0, 1) := by decide +kernel
theorem dX8_doesSee_122 : decode cX8_doesSee 122 = .ok (.ireturn, 1) := by decide +kernel
theorem dX8_doesSee_123 : decode cX8_doesSee 123 = .ok (.iinc 6 1, 3) := by decide +kernel
theorem dX8_doesSee_126 : decode cX8_doesSee 126 = .ok (.goto (-75), 3) := by decide +kernel
theorem dX8_doesSee_129 : decode cX8_doesSee 129 = .ok (.iconst 0, 1) := by decide +kernel
theorem dX8_doesSee_130 : decode cX8_doesSee 130 = .ok (.istore 6, 2) := by decide +kernel
theorem dX8_doesSee_132 : decode cX8_doesSee 132 = .ok (.iload 6, 2) := by decide +kernel
theorem dX8_doesSee_134 : decode cX8_doesSee 134 = .ok (.aload_n 0, 1) := by decide +kernel
theorem dX8_doesSee_135 : decode cX8_doesSee 135 = .ok (.getfield 48, 3) := by decide +kernel
theorem dX8_doesSee_138 : decode cX8_doesSee 138 = .ok (.iload_n 1, 1) := by decide +kernel
theorem dX8_doesSee_139 : decode cX8_doesSee 139 = .ok (.iaload, 1) := by decide +kernel
theorem dX8_doesSee_140 : decode cX8_doesSee 140 = .ok (.if_icmp .ge 229, 3) := by decide +kernel
theorem dX8_doesSee_143 : decode cX8_doesSee 143 = .ok (.bipush 16, 2) := by decide +kernel
theorem dX8_doesSee_145 : decode cX8_doesSee 145 = .ok (.iload_n 1, 1) := by decide +kernel
theorem dX8_doesSee_146 : decode cX8_doesSee 146 = .ok (.imul, 1) := by decide +kernel
theorem dX8_doesSee_147 : decode cX8_doesSee 147 = .ok (.iload 6, 2) := by decide +kernel
theorem dX8_doesSee_149 : decode cX8_doesSee 149 = .ok (.iadd, 1) := by decide +kernel
theorem dX8_doesSee_150 : decode cX8_doesSee 150 = .ok (.istore 7, 2) := by decide +kernel
theorem dX8_doesSee_152 : decode cX8_doesSee 152 = .ok (.aload_n 0, 1) := by decide +kernel
theorem dX8_doesSee_153 : decode cX8_doesSee 153 = .ok (.getfield 198, 3) := by decide +kernel
theorem dX8_doesSee_156 : decode cX8_doesSee 156 = .ok (.i2l, 1) := by decide +kernel
theorem dX8_doesSee_157 : decode cX8_doesSee 157 = .ok (.aload_n 0, 1) := by decide +kernel
theorem dX8_doesSee_158 : decode cX8_doesSee 158 = .ok (.getfield 201, 3) := by decide +kernel
theorem dX8_doesSee_161 : decode cX8_doesSee 161 = .ok (.i2l, 1) := by decide +kernel
theorem dX8_doesSee_162 : decode cX8_doesSee 162 = .ok (.aload_n 0, 1) := by decide +kernel
theorem dX8_doesSee_163 : decode cX8_doesSee 163 = .ok (.getfield 204, 3) := by decide +kernel
theorem dX8_doesSee_166 : decode cX8_doesSee 166 = .ok (.i2l, 1) := by decide +kernel
theorem dX8_doesSee_167 : decode cX8_doesSee 167 = .ok (.aload_n 0, 1) := by decide +kernel
theorem dX8_doesSee_168 : decode cX8_doesSee 168 = .ok (.getfield 207, 3) := by decide +kernel
theorem dX8_doesSee_171 : decode cX8_doesSee 171 = .ok (.i2l, 1) := by decide +kernel
theorem dX8_doesSee_172 : decode cX8_doesSee 172 = .ok (.aload_n 0, 1) := by decide +kernel
theorem dX8_doesSee_173 : decode cX8_doesSee 173 = .ok (.getfield 42, 3) := by decide +kernel
theorem dX8_doesSee_176 : decode cX8_doesSee 176 = .ok (.iload 7, 2) := by decide +kernel
theorem dX8_doesSee_178 : decode cX8_doesSee 178 = .ok (.iaload, 1) := by decide +kernel
theorem dX8_doesSee_179 : decode cX8_doesSee 179 = .ok (.i2l, 1) := by decide +kernel
theorem dX8_doesSee_180 : decode cX8_doesSee 180 = .ok (.aload_n 0, 1) := by decide +kernel
theorem dX8_doesSee_181 : decode cX8_doesSee 181 = .ok (.getfield 45, 3) := by decide +kernel
theorem dX8_doesSee_184 : decode cX8_doesSee 184 = .ok (.iload 7, 2) := by decide +kernel
theorem dX8_doesSee_186 : decode cX8_doesSee 186 = .ok (.iaload, 1) := by decide +kernel
theorem dX8_doesSee_187 : decode cX8_doesSee 187 = .ok (.i2l, 1) := by decide +kernel
theorem dX8_doesSee_188 : decode cX8_doesSee 188 = .ok (.invokestatic 169, 3) := by decide +kernel
theorem dX8_doesSee_191 : decode cX8_doesSee 191 = .ok (.ifCond .ne 6, 3) := by decide +kernel
theorem dX8_doesSee_194 : decode cX8_doesSee 194 = .ok (.goto 169, 3) := by decide +kernel
theorem dX8_doesSee_197 : decode cX8_doesSee 197 = .ok (.iconst (-1), 1) := by decide +kernel
theorem dX8_doesSee_198 : decode cX8_doesSee 198 = .ok (.istore 8, 2) := by decide +kernel
theorem dX8_doesSee_200 : decode cX8_doesSee 200 = .ok (.iconst 0, 1) := by decide +kernel
theorem dX8_doesSee_201 : decode cX8_doesSee 201 = .ok (.istore 9, 2) := by decide +kernel
theorem dX8_doesSee_203 : decode cX8_doesSee 203 = .ok (.iload 9, 2) := by decide +kernel
theorem dX8_doesSee_205 : decode cX8_doesSee 205 = .ok (.aload_n 0, 1) := by decide +kernel
theorem dX8_doesSee_206 : decode cX8_doesSee 206 = .ok (.getfield 48, 3) := by decide +kernel
theorem dX8_doesSee_209 : decode cX8_doesSee 209 = .ok (.iload_n 1, 1) := by decide +kernel
theorem dX8_doesSee_210 : decode cX8_doesSee 210 = .ok (.iaload, 1) := by decide +kernel
theorem dX8_doesSee_211 : decode cX8_doesSee 211 = .ok (.if_icmp .ge 103, 3) := by decide +kernel
theorem dX8_doesSee_214 : decode cX8_doesSee 214 = .ok (.bipush 16, 2) := by decide +kernel
theorem dX8_doesSee_216 : decode cX8_doesSee 216 = .ok (.iload_n 1, 1) := by decide +kernel
theorem dX8_doesSee_217 : decode cX8_doesSee 217 = .ok (.imul, 1) := by decide +kernel
theorem dX8_doesSee_218 : decode cX8_doesSee 218 = .ok (.iload 9, 2) := by decide +kernel
theorem dX8_doesSee_220 : decode cX8_doesSee 220 = .ok (.iadd, 1) := by decide +kernel
theorem dX8_doesSee_221 : decode cX8_doesSee 221 = .ok (.istore 10, 2) := by decide +kernel
theorem dX8_doesSee_223 : decode cX8_doesSee 223 = .ok (.aload_n 0, 1) := by decide +kernel
theorem dX8_doesSee_224 : decode cX8_doesSee 224 = .ok (.getfield 198, 3) := by decide +kernel
theorem dX8_doesSee_227 : decode cX8_doesSee 227 = .ok (.i2l, 1) := by decide +kernel
theorem dX8_doesSee_228 : decode cX8_doesSee 228 = .ok (.aload_n 0, 1) := by decide +kernel
theorem dX8_doesSee_229 : decode cX8_doesSee 229 = .ok (.getfield 201, 3) := by decide +kernel
theorem dX8_doesSee_232 : decode cX8_doesSee 232 = .ok (.i2l, 1) := by decide +kernel
theorem dX8_doesSee_233 : decode cX8_doesSee 233 = .ok (.aload_n 0, 1) := by decide +kernel
theorem dX8_doesSee_234 : decode cX8_doesSee 234 = .ok (.getfield 204, 3) := by decide +kernel
theorem dX8_doesSee_237 : decode cX8_doesSee 237 = .ok (.i2l, 1) := by decide +kernel
theorem dX8_doesSee_238 : decode cX8_doesSee 238 = .ok (.aload_n 0, 1) := by decide +kernel
theorem dX8_doesSee_239 : decode cX8_doesSee 239 = .ok (.getfield 207, 3) := by decide +kernel
theorem dX8_doesSee_242 : decode cX8_doesSee 242 = .ok (.i2l, 1) := by decide +kernel
theorem dX8_doesSee_243 : decode cX8_doesSee 243 = .ok (.aload_n 0, 1) := by decide +kernel
theorem dX8_doesSee_244 : decode cX8_doesSee 244 = .ok (.getfield 42, 3) := by decide +kernel
theorem dX8_doesSee_247 : decode cX8_doesSee 247 = .ok (.iload 10, 2) := by decide +kernel
theorem dX8_doesSee_249 : decode cX8_doesSee 249 = .ok (.iaload, 1) := by decide +kernel
theorem dX8_doesSee_250 : decode cX8_doesSee 250 = .ok (.i2l, 1) := by decide +kernel
theorem dX8_doesSee_251 : decode cX8_doesSee 251 = .ok (.aload_n 0, 1) := by decide +kernel
theorem dX8_doesSee_252 : decode cX8_doesSee 252 = .ok (.getfield 45, 3) := by decide +kernel
theorem dX8_doesSee_255 : decode cX8_doesSee 255 = .ok (.iload 10, 2) := by decide +kernel
theorem dX8_doesSee_257 : decode cX8_doesSee 257 = .ok (.iaload, 1) := by decide +kernel
theorem dX8_doesSee_258 : decode cX8_doesSee 258 = .ok (.i2l, 1) := by decide +kernel
theorem dX8_doesSee_259 : decode cX8_doesSee 259 = .ok (.invokestatic 169, 3) := by decide +kernel
theorem dX8_doesSee_262 : decode cX8_doesSee 262 = .ok (.ifCond .eq 46, 3) := by decide +kernel
theorem dX8_doesSee_265 : decode cX8_doesSee 265 = .ok (.aload_n 0, 1) := by decide +kernel
theorem dX8_doesSee_266 : decode cX8_doesSee 266 = .ok (.iload 10, 2) := by decide +kernel
theorem dX8_doesSee_268 : decode cX8_doesSee 268 = .ok (.invokevirtual 272, 3) := by decide +kernel
theorem dX8_doesSee_271 : decode cX8_doesSee 271 = .ok (.aload_n 0, 1) := by decide +kernel
theorem dX8_doesSee_272 : decode cX8_doesSee 272 = .ok (.iload 7, 2) := by decide +kernel
theorem dX8_doesSee_274 : decode cX8_doesSee 274 = .ok (.invokevirtual 272, 3) := by decide +kernel
theorem dX8_doesSee_277 : decode cX8_doesSee 277 = .ok (.if_icmp .gt 6, 3) := by decide +kernel
theorem dX8_doesSee_280 : decode cX8_doesSee 280 = .ok (.goto 28, 3) := by decide +kernel
theorem dX8_doesSee_283 : decode cX8_doesSee 283 = .ok (.iload 8, 2) := by decide +kernel
theorem dX8_doesSee_285 : decode cX8_doesSee 285 = .ok (.iconst (-1), 1) := by decide +kernel
theorem dX8_doesSee_286 : decode cX8_doesSee 286 = .ok (.if_icmp .eq 18, 3) := by decide +kernel
theorem dX8_doesSee_289 : decode cX8_doesSee 289 = .ok (.aload_n 0, 1) := by decide +kernel
theorem dX8_doesSee_290 : decode cX8_doesSee 290 = .ok (.iload 10, 2) := by decide +kernel
theorem dX8_doesSee_292 : decode cX8_doesSee 292 = .ok (.invokevirtual 272, 3) := by decide +kernel
theorem dX8_doesSee_295 : decode cX8_doesSee 295 = .ok (.aload_n 0, 1) := by decide +kernel
theorem dX8_doesSee_296 : decode cX8_doesSee 296 = .ok (.iload 8, 2) := by decide +kernel
theorem dX8_doesSee_298 : decode cX8_doesSee 298 = .ok (.invokevirtual 272, 3) := by decide +kernel
theorem dX8_doesSee_301 : decode cX8_doesSee 301 = .ok (.if_icmp .ge 7, 3) := by decide +kernel
theorem dX8_doesSee_304 : decode cX8_doesSee 304 = .ok (.iload 10, 2) := by decide +kernel
theorem dX8_doesSee_306 : decode cX8_doesSee 306 = .ok (.istore 8, 2) := by decide +kernel
theorem dX8_doesSee_308 : decode cX8_doesSee 308 = .ok (.iinc 9 1, 3) := by decide +kernel
theorem dX8_doesSee_311 : decode cX8_doesSee 311 = .ok (.goto (-108), 3) := by decide +kernel
theorem dX8_doesSee_314 : decode cX8_doesSee 314 = .ok (.iload 8, 2) := by decide +kernel
theorem dX8_doesSee_316 : decode cX8_doesSee 316 = .ok (.iconst (-1), 1) := by decide +kernel
theorem dX8_doesSee_317 : decode cX8_doesSee 317 = .ok (.if_icmp .eq 46, 3) := by decide +kernel
theorem dX8_doesSee_320 : decode cX8_doesSee 320 = .ok (.aload_n 0, 1) := by decide +kernel
theorem dX8_doesSee_321 : decode cX8_doesSee 321 = .ok (.iload_n 1, 1) := by decide +kernel
theorem dX8_doesSee_322 : decode cX8_doesSee 322 = .ok (.aload_n 0, 1) := by decide +kernel
theorem dX8_doesSee_323 : decode cX8_doesSee 323 = .ok (.getfield 42, 3) := by decide +kernel
theorem dX8_doesSee_326 : decode cX8_doesSee 326 = .ok (.iload 7, 2) := by decide +kernel
theorem dX8_doesSee_328 : decode cX8_doesSee 328 = .ok (.iaload, 1) := by decide +kernel
theorem dX8_doesSee_329 : decode cX8_doesSee 329 = .ok (.aload_n 0, 1) := by decide +kernel
theorem dX8_doesSee_330 : decode cX8_doesSee 330 = .ok (.getfield 42, 3) := by decide +kernel
theorem dX8_doesSee_333 : decode cX8_doesSee 333 = .ok (.iload 8, 2) := by decide +kernel
theorem dX8_doesSee_335 : decode cX8_doesSee 335 = .ok (.iaload, 1) := by decide +kernel
theorem dX8_doesSee_336 : decode cX8_doesSee 336 = .ok (.iadd, 1) := by decide +kernel
theorem dX8_doesSee_337 : decode cX8_doesSee 337 = .ok (.i2l, 1) := by decide +kernel
theorem dX8_doesSee_338 : decode cX8_doesSee 338 = .ok (.aload_n 0, 1) := by decide +kernel
theorem dX8_doesSee_339 : decode cX8_doesSee 339 = .ok (.getfield 45, 3) := by decide +kernel
theorem dX8_doesSee_342 : decode cX8_doesSee 342 = .ok (.iload 7, 2) := by decide +kernel
theorem dX8_doesSee_344 : decode cX8_doesSee 344 = .ok (.iaload, 1) := by decide +kernel
theorem dX8_doesSee_345 : decode cX8_doesSee 345 = .ok (.aload_n 0, 1) := by decide +kernel
theorem dX8_doesSee_346 : decode cX8_doesSee 346 = .ok (.getfield 45, 3) := by decide +kernel
theorem dX8_doesSee_349 : decode cX8_doesSee 349 = .ok (.iload 8, 2) := by decide +kernel
theorem dX8_doesSee_351 : decode cX8_doesSee 351 = .ok (.iaload, 1) := by decide +kernel
theorem dX8_doesSee_352 : decode cX8_doesSee 352 = .ok (.iadd, 1) := by decide +kernel
theorem dX8_doesSee_353 : decode cX8_doesSee 353 = .ok (.i2l, 1) := by decide +kernel
theorem dX8_doesSee_354 : decode cX8_doesSee 354 = .ok (.iconst 2, 1) := by decide +kernel
theorem dX8_doesSee_355 : decode cX8_doesSee 355 = .ok (.invokevirtual 248, 3) := by decide +kernel
theorem dX8_doesSee_358 : decode cX8_doesSee 358 = .ok (.ifCond .ge 5, 3) := by decide +kernel
theorem dX8_doesSee_361 : decode cX8_doesSee 361 = .ok (.iconst 0, 1) := by decide +kernel
theorem dX8_doesSee_362 : decode cX8_doesSee 362 = .ok (.ireturn, 1) := by decide +kernel
theorem dX8_doesSee_363 : decode cX8_doesSee 363 = .ok (.iinc 6 1, 3) := by decide +kernel
theorem dX8_doesSee_366 : decode cX8_doesSee 366 = .ok (.goto (-234), 3) := by decide +kernel
theorem dX8_doesSee_369 : decode cX8_doesSee 369 = .ok (.iconst 1, 1) := by decide +kernel
theorem dX8_doesSee_370 : decode cX8_doesSee 370 = .ok (.ireturn, 1) := by decide +kernel
theorem dX8_off_0 : decode cX8_off 0 = .ok (.aload_n 0, 1) := by decide +kernel
theorem dX8_off_1 : decode cX8_off 1 = .ok (.getfield 42, 3) := by decide +kernel
theorem dX8_off_4 : decode cX8_off 4 = .ok (.iload_n 1, 1) := by decide +kernel
theorem dX8_off_5 : decode cX8_off 5 = .ok (.iaload, 1) := by decide +kernel
theorem dX8_off_6 : decode cX8_off 6 = .ok (.aload_n 0, 1) := by decide +kernel
theorem dX8_off_7 : decode cX8_off 7 = .ok (.getfield 198, 3) := by decide +kernel
theorem dX8_off_10 : decode cX8_off 10 = .ok (.isub, 1) := by decide +kernel
theorem dX8_off_11 : decode cX8_off 11 = .ok (.invokestatic 100, 3) := by decide +kernel
theorem dX8_off_14 : decode cX8_off 14 = .ok (.aload_n 0, 1) := by decide +kernel
theorem dX8_off_15 : decode cX8_off 15 = .ok (.getfield 45, 3) := by decide +kernel
theorem dX8_off_18 : decode cX8_off 18 = .ok (.iload_n 1, 1) := by decide +kernel
theorem dX8_off_19 : decode cX8_off 19 = .ok (.iaload, 1) := by decide +kernel
theorem dX8_off_20 : decode cX8_off 20 = .ok (.aload_n 0, 1) := by decide +kernel
theorem dX8_off_21 : decode cX8_off 21 = .ok (.getfield 201, 3) := by decide +kernel
theorem dX8_off_24 : decode cX8_off 24 = .ok (.isub, 1) := by decide +kernel
theorem dX8_off_25 : decode cX8_off 25 = .ok (.invokestatic 100, 3) := by decide +kernel
theorem dX8_off_28 : decode cX8_off 28 = .ok (.iadd, 1) := by decide +kernel
theorem dX8_off_29 : decode cX8_off 29 = .ok (.ireturn, 1) := by decide +kernel
theorem dX8_sees_0 : decode cX8_sees 0 = .ok (.aload_n 0, 1) := by decide +kernel
theorem dX8_sees_1 : decode cX8_sees 1 = .ok (.iconst 0, 1) := by decide +kernel
theorem dX8_sees_2 : decode cX8_sees 2 = .ok (.putfield 1, 3) := by decide +kernel
theorem dX8_sees_5 : decode cX8_sees 5 = .ok (.aload_n 0, 1) := by decide +kernel
theorem dX8_sees_6 : decode cX8_sees 6 = .ok (.iload_n 1, 1) := by decide +kernel
theorem dX8_sees_7 : decode cX8_sees 7 = .ok (.iload_n 2, 1) := by decide +kernel
theorem dX8_sees_8 : decode cX8_sees 8 = .ok (.invokevirtual 275, 3) := by decide +kernel
theorem dX8_sees_11 : decode cX8_sees 11 = .ok (.ifCond .ne 39, 3) := by decide +kernel
theorem dX8_sees_14 : decode cX8_sees 14 = .ok (.aload_n 0, 1) := by decide +kernel
theorem dX8_sees_15 : decode cX8_sees 15 = .ok (.iload_n 1, 1) := by decide +kernel
theorem dX8_sees_16 : decode cX8_sees 16 = .ok (.iload_n 3, 1) := by decide +kernel
theorem dX8_sees_17 : decode cX8_sees 17 = .ok (.invokevirtual 275, 3) := by decide +kernel
theorem dX8_sees_20 : decode cX8_sees 20 = .ok (.ifCond .ne 30, 3) := by decide +kernel
theorem dX8_sees_23 : decode cX8_sees 23 = .ok (.aload_n 0, 1) := by decide +kernel
theorem dX8_sees_24 : decode cX8_sees 24 = .ok (.aload_n 0, 1) := by decide +kernel
theorem dX8_sees_25 : decode cX8_sees 25 = .ok (.iload_n 1, 1) := by decide +kernel
theorem dX8_sees_26 : decode cX8_sees 26 = .ok (.invokevirtual 239, 3) := by decide +kernel
theorem dX8_sees_29 : decode cX8_sees 29 = .ok (.iconst 3, 1) := by decide +kernel
theorem dX8_sees_30 : decode cX8_sees 30 = .ok (.invokevirtual 104, 3) := by decide +kernel
theorem dX8_sees_33 : decode cX8_sees 33 = .ok (.ifCond .ne 17, 3) := by decide +kernel
theorem dX8_sees_36 : decode cX8_sees 36 = .ok (.aload_n 0, 1) := by decide +kernel
theorem dX8_sees_37 : decode cX8_sees 37 = .ok (.iload_n 1, 1) := by decide +kernel
theorem dX8_sees_38 : decode cX8_sees 38 = .ok (.iload_n 2, 1) := by decide +kernel
theorem dX8_sees_39 : decode cX8_sees 39 = .ok (.iload_n 3, 1) := by decide +kernel
theorem dX8_sees_40 : decode cX8_sees 40 = .ok (.invokevirtual 278, 3) := by decide +kernel
theorem dX8_sees_43 : decode cX8_sees 43 = .ok (.ifCond .eq 7, 3) := by decide +kernel
theorem dX8_sees_46 : decode cX8_sees 46 = .ok (.iconst 1, 1) := by decide +kernel
theorem dX8_sees_47 : decode cX8_sees 47 = .ok (.goto 4, 3) := by decide +kernel
theorem dX8_sees_50 : decode cX8_sees 50 = .ok (.iconst 0, 1) := by decide +kernel
theorem dX8_sees_51 : decode cX8_sees 51 = .ok (.ireturn, 1) := by decide +kernel
theorem dX8_view_0 : decode cX8_view 0 = .ok (.aload_n 0, 1) := by decide +kernel
theorem dX8_view_1 : decode cX8_view 1 = .ok (.iconst 0, 1) := by decide +kernel
theorem dX8_view_2 : decode cX8_view 2 = .ok (.putfield 1, 3) := by decide +kernel
theorem dX8_view_5 : decode cX8_view 5 = .ok (.aload_n 0, 1) := by decide +kernel
theorem dX8_view_6 : decode cX8_view 6 = .ok (.iload_n 1, 1) := by decide +kernel
theorem dX8_view_7 : decode cX8_view 7 = .ok (.iload_n 2, 1) := by decide +kernel
theorem dX8_view_8 : decode cX8_view 8 = .ok (.invokevirtual 275, 3) := by decide +kernel
theorem dX8_view_11 : decode cX8_view 11 = .ok (.ifCond .ne 16, 3) := by decide +kernel
theorem dX8_view_14 : decode cX8_view 14 = .ok (.aload_n 0, 1) := by decide +kernel
theorem dX8_view_15 : decode cX8_view 15 = .ok (.aload_n 0, 1) := by decide +kernel
theorem dX8_view_16 : decode cX8_view 16 = .ok (.iload_n 1, 1) := by decide +kernel
theorem dX8_view_17 : decode cX8_view 17 = .ok (.invokevirtual 239, 3) := by decide +kernel
theorem dX8_view_20 : decode cX8_view 20 = .ok (.iconst 3, 1) := by decide +kernel
theorem dX8_view_21 : decode cX8_view 21 = .ok (.invokevirtual 104, 3) := by decide +kernel
theorem dX8_view_24 : decode cX8_view 24 = .ok (.ifCond .eq 5, 3) := by decide +kernel
theorem dX8_view_27 : decode cX8_view 27 = .ok (.iconst 0, 1) := by decide +kernel
theorem dX8_view_28 : decode cX8_view 28 = .ok (.ireturn, 1) := by decide +kernel
theorem dX8_view_29 : decode cX8_view 29 = .ok (.iconst 0, 1) := by decide +kernel
theorem dX8_view_30 : decode cX8_view 30 = .ok (.istore_n 3, 1) := by decide +kernel
theorem dX8_view_31 : decode cX8_view 31 = .ok (.iconst 0, 1) := by decide +kernel
theorem dX8_view_32 : decode cX8_view 32 = .ok (.istore 4, 2) := by decide +kernel
theorem dX8_view_34 : decode cX8_view 34 = .ok (.iload 4, 2) := by decide +kernel
theorem dX8_view_36 : decode cX8_view 36 = .ok (.aload_n 0, 1) := by decide +kernel
theorem dX8_view_37 : decode cX8_view 37 = .ok (.getfield 48, 3) := by decide +kernel
theorem dX8_view_40 : decode cX8_view 40 = .ok (.iload_n 1, 1) := by decide +kernel
theorem dX8_view_41 : decode cX8_view 41 = .ok (.iaload, 1) := by decide +kernel
theorem dX8_view_42 : decode cX8_view 42 = .ok (.if_icmp .ge 34, 3) := by decide +kernel
theorem dX8_view_45 : decode cX8_view 45 = .ok (.iload_n 3, 1) := by decide +kernel
theorem dX8_view_46 : decode cX8_view 46 = .ok (.iload 4, 2) := by decide +kernel
theorem dX8_view_48 : decode cX8_view 48 = .ok (.iload_n 2, 1) := by decide +kernel
theorem dX8_view_49 : decode cX8_view 49 = .ok (.if_icmp .eq 18, 3) := by decide +kernel
theorem dX8_view_52 : decode cX8_view 52 = .ok (.aload_n 0, 1) := by decide +kernel
theorem dX8_view_53 : decode cX8_view 53 = .ok (.iload_n 1, 1) := by decide +kernel
theorem dX8_view_54 : decode cX8_view 54 = .ok (.iload_n 2, 1) := by decide +kernel
theorem dX8_view_55 : decode cX8_view 55 = .ok (.iload 4, 2) := by decide +kernel
theorem dX8_view_57 : decode cX8_view 57 = .ok (.invokevirtual 278, 3) := by decide +kernel
theorem dX8_view_60 : decode cX8_view 60 = .ok (.ifCond .eq 7, 3) := by decide +kernel
theorem dX8_view_63 : decode cX8_view 63 = .ok (.iconst 1, 1) := by decide +kernel
theorem dX8_view_64 : decode cX8_view 64 = .ok (.goto 4, 3) := by decide +kernel
theorem dX8_view_67 : decode cX8_view 67 = .ok (.iconst 0, 1) := by decide +kernel
theorem dX8_view_68 : decode cX8_view 68 = .ok (.iadd, 1) := by decide +kernel
theorem dX8_view_69 : decode cX8_view 69 = .ok (.istore_n 3, 1) := by decide +kernel
theorem dX8_view_70 : decode cX8_view 70 = .ok (.iinc 4 1, 3) := by decide +kernel
theorem dX8_view_73 : decode cX8_view 73 = .ok (.goto (-39), 3) := by decide +kernel
theorem dX8_view_76 : decode cX8_view 76 = .ok (.iload_n 3, 1) := by decide +kernel
theorem dX8_view_77 : decode cX8_view 77 = .ok (.ireturn, 1) := by decide +kernel
theorem dX8_line_0 : decode cX8_line 0 = .ok (.aload_n 0, 1) := by decide +kernel
theorem dX8_line_1 : decode cX8_line 1 = .ok (.iconst 0, 1) := by decide +kernel
theorem dX8_line_2 : decode cX8_line 2 = .ok (.putfield 1, 3) := by decide +kernel
theorem dX8_line_5 : decode cX8_line 5 = .ok (.aload_n 0, 1) := by decide +kernel
theorem dX8_line_6 : decode cX8_line 6 = .ok (.iload_n 1, 1) := by decide +kernel
theorem dX8_line_7 : decode cX8_line 7 = .ok (.iload_n 2, 1) := by decide +kernel
theorem dX8_line_8 : decode cX8_line 8 = .ok (.invokestatic 115, 3) := by decide +kernel
theorem dX8_line_11 : decode cX8_line 11 = .ok (.ifCond .eq 16, 3) := by decide +kernel
theorem dX8_line_14 : decode cX8_line 14 = .ok (.iload_n 3, 1) := by decide +kernel
theorem dX8_line_15 : decode cX8_line 15 = .ok (.iload 4, 2) := by decide +kernel
theorem dX8_line_17 : decode cX8_line 17 = .ok (.invokestatic 115, 3) := by decide +kernel
theorem dX8_line_20 : decode cX8_line 20 = .ok (.ifCond .eq 7, 3) := by decide +kernel
theorem dX8_line_23 : decode cX8_line 23 = .ok (.iconst 1, 1) := by decide +kernel
theorem dX8_line_24 : decode cX8_line 24 = .ok (.goto 4, 3) := by decide +kernel
theorem dX8_line_27 : decode cX8_line 27 = .ok (.iconst 0, 1) := by decide +kernel
theorem dX8_line_28 : decode cX8_line 28 = .ok (.iconst 1, 1) := by decide +kernel
theorem dX8_line_29 : decode cX8_line 29 = .ok (.invokevirtual 104, 3) := by decide +kernel
theorem dX8_line_32 : decode cX8_line 32 = .ok (.ifCond .ne 25, 3) := by decide +kernel
theorem dX8_line_35 : decode cX8_line 35 = .ok (.aload_n 0, 1) := by decide +kernel
theorem dX8_line_36 : decode cX8_line 36 = .ok (.aload_n 0, 1) := by decide +kernel
theorem dX8_line_37 : decode cX8_line 37 = .ok (.getfield 281, 3) := by decide +kernel
theorem dX8_line_40 : decode cX8_line 40 = .ok (.bipush 20, 2) := by decide +kernel
theorem dX8_line_42 : decode cX8_line 42 = .ok (.if_icmp .ge 7, 3) := by decide +kernel
theorem dX8_line_45 : decode cX8_line 45 = .ok (.iconst 1, 1) := by decide +kernel
theorem dX8_line_46 : decode cX8_line 46 = .ok (.goto 4, 3) := by decide +kernel
theorem dX8_line_49 : decode cX8_line 49 = .ok (.iconst 0, 1) := by decide +kernel
theorem dX8_line_50 : decode cX8_line 50 = .ok (.iconst 2, 1) := by decide +kernel
theorem dX8_line_51 : decode cX8_line 51 = .ok (.invokevirtual 104, 3) := by decide +kernel
theorem dX8_line_54 : decode cX8_line 54 = .ok (.ifCond .eq 5, 3) := by decide +kernel
theorem dX8_line_57 : decode cX8_line 57 = .ok (.iconst 0, 1) := by decide +kernel
theorem dX8_line_58 : decode cX8_line 58 = .ok (.ireturn, 1) := by decide +kernel
theorem dX8_line_59 : decode cX8_line 59 = .ok (.aload_n 0, 1) := by decide +kernel
theorem dX8_line_60 : decode cX8_line 60 = .ok (.getfield 57, 3) := by decide +kernel
theorem dX8_line_63 : decode cX8_line 63 = .ok (.aload_n 0, 1) := by decide +kernel
theorem dX8_line_64 : decode cX8_line 64 = .ok (.getfield 281, 3) := by decide +kernel
theorem dX8_line_67 : decode cX8_line 67 = .ok (.iload_n 1, 1) := by decide +kernel
theorem dX8_line_68 : decode cX8_line 68 = .ok (.iastore, 1) := by decide +kernel
theorem dX8_line_69 : decode cX8_line 69 = .ok (.aload_n 0, 1) := by decide +kernel
theorem dX8_line_70 : decode cX8_line 70 = .ok (.getfield 60, 3) := by decide +kernel
theorem dX8_line_73 : decode cX8_line 73 = .ok (.aload_n 0, 1) := by decide +kernel
theorem dX8_line_74 : decode cX8_line 74 = .ok (.getfield 281, 3) := by decide +kernel
theorem dX8_line_77 : decode cX8_line 77 = .ok (.iload_n 2, 1) := by decide +kernel
theorem dX8_line_78 : decode cX8_line 78 = .ok (.iastore, 1) := by decide +kernel
theorem dX8_line_79 : decode cX8_line 79 = .ok (.aload_n 0, 1) := by decide +kernel
theorem dX8_line_80 : decode cX8_line 80 = .ok (.getfield 63, 3) := by decide +kernel
theorem dX8_line_83 : decode cX8_line 83 = .ok (.aload_n 0, 1) := by decide +kernel
theorem dX8_line_84 : decode cX8_line 84 = .ok (.getfield 281, 3) := by decide +kernel
theorem dX8_line_87 : decode cX8_line 87 = .ok (.iload_n 3, 1) := by decide +kernel
theorem dX8_line_88 : decode cX8_line 88 = .ok (.iastore, 1) := by decide +kernel
theorem dX8_line_89 : decode cX8_line 89 = .ok (.aload_n 0, 1) := by decide +kernel
theorem dX8_line_90 : decode cX8_line 90 = .ok (.getfield 66, 3) := by decide +kernel
theorem dX8_line_93 : decode cX8_line 93 = .ok (.aload_n 0, 1) := by decide +kernel
theorem dX8_line_94 : decode cX8_line 94 = .ok (.getfield 281, 3) := by decide +kernel
theorem dX8_line_97 : decode cX8_line 97 = .ok (.iload 4, 2) := by decide +kernel
theorem dX8_line_99 : decode cX8_line 99 = .ok (.iastore, 1) := by decide +kernel
theorem dX8_line_100 : decode cX8_line 100 = .ok (.aload_n 0, 1) := by decide +kernel
theorem dX8_line_101 : decode cX8_line 101 = .ok (.dup, 1) := by decide +kernel
theorem dX8_line_102 : decode cX8_line 102 = .ok (.getfield 281, 3) := by decide +kernel
theorem dX8_line_105 : decode cX8_line 105 = .ok (.iconst 1, 1) := by decide +kernel
theorem dX8_line_106 : decode cX8_line 106 = .ok (.iadd, 1) := by decide +kernel
theorem dX8_line_107 : decode cX8_line 107 = .ok (.putfield 281, 3) := by decide +kernel
theorem dX8_line_110 : decode cX8_line 110 = .ok (.aload_n 0, 1) := by decide +kernel
theorem dX8_line_111 : decode cX8_line 111 = .ok (.getfield 281, 3) := by decide +kernel
theorem dX8_line_114 : decode cX8_line 114 = .ok (.iconst 1, 1) := by decide +kernel
theorem dX8_line_115 : decode cX8_line 115 = .ok (.isub, 1) := by decide +kernel
theorem dX8_line_116 : decode cX8_line 116 = .ok (.ireturn, 1) := by decide +kernel
theorem dX8_clearLines_0 : decode cX8_clearLines 0 = .ok (.aload_n 0, 1) := by decide +kernel
theorem dX8_clearLines_1 : decode cX8_clearLines 1 = .ok (.iconst 0, 1) := by decide +kernel
theorem dX8_clearLines_2 : decode cX8_clearLines 2 = .ok (.putfield 1, 3) := by decide +kernel
theorem dX8_clearLines_5 : decode cX8_clearLines 5 = .ok (.aload_n 0, 1) := by decide +kernel
theorem dX8_clearLines_6 : decode cX8_clearLines 6 = .ok (.getfield 281, 3) := by decide +kernel
theorem dX8_clearLines_9 : decode cX8_clearLines 9 = .ok (.istore_n 1, 1) := by decide +kernel
theorem dX8_clearLines_10 : decode cX8_clearLines 10 = .ok (.aload_n 0, 1) := by decide +kernel
theorem dX8_clearLines_11 : decode cX8_clearLines 11 = .ok (.iconst 0, 1) := by decide +kernel
theorem dX8_clearLines_12 : decode cX8_clearLines 12 = .ok (.putfield 281, 3) := by decide +kernel
theorem dX8_clearLines_15 : decode cX8_clearLines 15 = .ok (.iload_n 1, 1) := by decide +kernel
theorem dX8_clearLines_16 : decode cX8_clearLines 16 = .ok (.ireturn, 1) := by decide +kernel
theorem dX8_areCrossed_0 : decode cX8_areCrossed 0 = .ok (.aload_n 0, 1) := by decide +kernel
theorem dX8_areCrossed_1 : decode cX8_areCrossed 1 = .ok (.aload_n 0, 1) := by decide +kernel
theorem dX8_areCrossed_2 : decode cX8_areCrossed 2 = .ok (.getfield 57, 3) := by decide +kernel
theorem dX8_areCrossed_5 : decode cX8_areCrossed 5 = .ok (.iload_n 1, 1) := by decide +kernel
theorem dX8_areCrossed_6 : decode cX8_areCrossed 6 = .ok (.iaload, 1) := by decide +kernel
theorem dX8_areCrossed_7 : decode cX8_areCrossed 7 = .ok (.aload_n 0, 1) := by decide +kernel
theorem dX8_areCrossed_8 : decode cX8_areCrossed 8 = .ok (.getfield 60, 3) := by decide +kernel
theorem dX8_areCrossed_11 : decode cX8_areCrossed 11 = .ok (.iload_n 1, 1) := by decide +kernel
theorem dX8_areCrossed_12 : decode cX8_areCrossed 12 = .ok (.iaload, 1) := by decide +kernel
theorem dX8_areCrossed_13 : decode cX8_areCrossed 13 = .ok (.aload_n 0, 1) := by decide +kernel
theorem dX8_areCrossed_14 : decode cX8_areCrossed 14 = .ok (.getfield 63, 3) := by decide +kernel
theorem dX8_areCrossed_17 : decode cX8_areCrossed 17 = .ok (.iload_n 1, 1) := by decide +kernel
theorem dX8_areCrossed_18 : decode cX8_areCrossed 18 = .ok (.iaload, 1) := by decide +kernel
theorem dX8_areCrossed_19 : decode cX8_areCrossed 19 = .ok (.aload_n 0, 1) := by decide +kernel
theorem dX8_areCrossed_20 : decode cX8_areCrossed 20 = .ok (.getfield 66, 3) := by decide +kernel
theorem dX8_areCrossed_23 : decode cX8_areCrossed 23 = .ok (.iload_n 1, 1) := by decide +kernel
theorem dX8_areCrossed_24 : decode cX8_areCrossed 24 = .ok (.iaload, 1) := by decide +kernel
theorem dX8_areCrossed_25 : decode cX8_areCrossed 25 = .ok (.invokevirtual 229, 3) := by decide +kernel
theorem dX8_areCrossed_28 : decode cX8_areCrossed 28 = .ok (.aload_n 0, 1) := by decide +kernel
theorem dX8_areCrossed_29 : decode cX8_areCrossed 29 = .ok (.aload_n 0, 1) := by decide +kernel
theorem dX8_areCrossed_30 : decode cX8_areCrossed 30 = .ok (.getfield 57, 3) := by decide +kernel
theorem dX8_areCrossed_33 : decode cX8_areCrossed 33 = .ok (.iload_n 2, 1) := by decide +kernel
theorem dX8_areCrossed_34 : decode cX8_areCrossed 34 = .ok (.iaload, 1) := by decide +kernel
theorem dX8_areCrossed_35 : decode cX8_areCrossed 35 = .ok (.aload_n 0, 1) := by decide +kernel
theorem dX8_areCrossed_36 : decode cX8_areCrossed 36 = .ok (.getfield 60, 3) := by decide +kernel
theorem dX8_areCrossed_39 : decode cX8_areCrossed 39 = .ok (.iload_n 2, 1) := by decide +kernel
theorem dX8_areCrossed_40 : decode cX8_areCrossed 40 = .ok (.iaload, 1) := by decide +kernel
theorem dX8_areCrossed_41 : decode cX8_areCrossed 41 = .ok (.aload_n 0, 1) := by decide +kernel
theorem dX8_areCrossed_42 : decode cX8_areCrossed 42 = .ok (.getfield 63, 3) := by decide +kernel
theorem dX8_areCrossed_45 : decode cX8_areCrossed 45 = .ok (.iload_n 2, 1) := by decide +kernel
theorem dX8_areCrossed_46 : decode cX8_areCrossed 46 = .ok (.iaload, 1) := by decide +kernel
theorem dX8_areCrossed_47 : decode cX8_areCrossed 47 = .ok (.aload_n 0, 1) := by decide +kernel
theorem dX8_areCrossed_48 : decode cX8_areCrossed 48 = .ok (.getfield 66, 3) := by decide +kernel
theorem dX8_areCrossed_51 : decode cX8_areCrossed 51 = .ok (.iload_n 2, 1) := by decide +kernel
theorem dX8_areCrossed_52 : decode cX8_areCrossed 52 = .ok (.iaload, 1) := by decide +kernel
theorem dX8_areCrossed_53 : decode cX8_areCrossed 53 = .ok (.invokevirtual 233, 3) := by decide +kernel
theorem dX8_areCrossed_56 : decode cX8_areCrossed 56 = .ok (.aload_n 0, 1) := by decide +kernel
theorem dX8_areCrossed_57 : decode cX8_areCrossed 57 = .ok (.invokevirtual 236, 3) := by decide +kernel
theorem dX8_areCrossed_60 : decode cX8_areCrossed 60 = .ok (.ireturn, 1) := by decide +kernel
theorem dX8_noLine_0 : decode cX8_noLine 0 = .ok (.aload_n 0, 1) := by decide +kernel
theorem dX8_noLine_1 : decode cX8_noLine 1 = .ok (.iload_n 1, 1) := by decide +kernel
theorem dX8_noLine_2 : decode cX8_noLine 2 = .ok (.iconst 0, 1) := by decide +kernel
theorem dX8_noLine_3 : decode cX8_noLine 3 = .ok (.aload_n 0, 1) := by decide +kernel
theorem dX8_noLine_4 : decode cX8_noLine 4 = .ok (.getfield 281, 3) := by decide +kernel
theorem dX8_noLine_7 : decode cX8_noLine 7 = .ok (.iconst 1, 1) := by decide +kernel
theorem dX8_noLine_8 : decode cX8_noLine 8 = .ok (.isub, 1) := by decide +kernel
theorem dX8_noLine_9 : decode cX8_noLine 9 = .ok (.invokestatic 96, 3) := by decide +kernel
theorem dX8_noLine_12 : decode cX8_noLine 12 = .ok (.iconst 1, 1) := by decide +kernel
theorem dX8_noLine_13 : decode cX8_noLine 13 = .ok (.invokevirtual 104, 3) := by decide +kernel
theorem dX8_noLine_16 : decode cX8_noLine 16 = .ok (.ireturn, 1) := by decide +kernel
theorem dX8_cross_0 : decode cX8_cross 0 = .ok (.aload_n 0, 1) := by decide +kernel
theorem dX8_cross_1 : decode cX8_cross 1 = .ok (.iconst 0, 1) := by decide +kernel
theorem dX8_cross_2 : decode cX8_cross 2 = .ok (.putfield 1, 3) := by decide +kernel
theorem dX8_cross_5 : decode cX8_cross 5 = .ok (.aload_n 0, 1) := by decide +kernel
theorem dX8_cross_6 : decode cX8_cross 6 = .ok (.iload_n 1, 1) := by decide +kernel
theorem dX8_cross_7 : decode cX8_cross 7 = .ok (.invokevirtual 284, 3) := by decide +kernel
theorem dX8_cross_10 : decode cX8_cross 10 = .ok (.ifCond .ne 24, 3) := by decide +kernel
theorem dX8_cross_13 : decode cX8_cross 13 = .ok (.aload_n 0, 1) := by decide +kernel
theorem dX8_cross_14 : decode cX8_cross 14 = .ok (.iload_n 2, 1) := by decide +kernel
theorem dX8_cross_15 : decode cX8_cross 15 = .ok (.invokevirtual 284, 3) := by decide +kernel
theorem dX8_cross_18 : decode cX8_cross 18 = .ok (.ifCond .ne 16, 3) := by decide +kernel
theorem dX8_cross_21 : decode cX8_cross 21 = .ok (.aload_n 0, 1) := by decide +kernel
theorem dX8_cross_22 : decode cX8_cross 22 = .ok (.iload_n 1, 1) := by decide +kernel
theorem dX8_cross_23 : decode cX8_cross 23 = .ok (.iload_n 2, 1) := by decide +kernel
theorem dX8_cross_24 : decode cX8_cross 24 = .ok (.invokevirtual 287, 3) := by decide +kernel
theorem dX8_cross_27 : decode cX8_cross 27 = .ok (.ifCond .eq 7, 3) := by decide +kernel
theorem dX8_cross_30 : decode cX8_cross 30 = .ok (.iconst 1, 1) := by decide +kernel
theorem dX8_cross_31 : decode cX8_cross 31 = .ok (.goto 4, 3) := by decide +kernel
theorem dX8_cross_34 : decode cX8_cross 34 = .ok (.iconst 0, 1) := by decide +kernel
theorem dX8_cross_35 : decode cX8_cross 35 = .ok (.ireturn, 1) := by decide +kernel
theorem dX8_crossed_0 : decode cX8_crossed 0 = .ok (.aload_n 0, 1) := by decide +kernel
theorem dX8_crossed_1 : decode cX8_crossed 1 = .ok (.iconst 0, 1) := by decide +kernel
theorem dX8_crossed_2 : decode cX8_crossed 2 = .ok (.putfield 290, 3) := by decide +kernel
theorem dX8_crossed_5 : decode cX8_crossed 5 = .ok (.iconst 0, 1) := by decide +kernel
theorem dX8_crossed_6 : decode cX8_crossed 6 = .ok (.istore_n 2, 1) := by decide +kernel
theorem dX8_crossed_7 : decode cX8_crossed 7 = .ok (.iload_n 2, 1) := by decide +kernel
theorem dX8_crossed_8 : decode cX8_crossed 8 = .ok (.aload_n 0, 1) := by decide +kernel
theorem dX8_crossed_9 : decode cX8_crossed 9 = .ok (.getfield 281, 3) := by decide +kernel
theorem dX8_crossed_12 : decode cX8_crossed 12 = .ok (.if_icmp .ge 64, 3) := by decide +kernel
theorem dX8_crossed_15 : decode cX8_crossed 15 = .ok (.iload_n 2, 1) := by decide +kernel
theorem dX8_crossed_16 : decode cX8_crossed 16 = .ok (.iconst 1, 1) := by decide +kernel
theorem dX8_crossed_17 : decode cX8_crossed 17 = .ok (.iadd, 1) := by decide +kernel
theorem dX8_crossed_18 : decode cX8_crossed 18 = .ok (.istore_n 3, 1) := by decide +kernel
theorem dX8_crossed_19 : decode cX8_crossed 19 = .ok (.iload_n 3, 1) := by decide +kernel
theorem dX8_crossed_20 : decode cX8_crossed 20 = .ok (.aload_n 0, 1) := by decide +kernel
theorem dX8_crossed_21 : decode cX8_crossed 21 = .ok (.getfield 281, 3) := by decide +kernel
theorem dX8_crossed_24 : decode cX8_crossed 24 = .ok (.if_icmp .ge 46, 3) := by decide +kernel
theorem dX8_crossed_27 : decode cX8_crossed 27 = .ok (.aload_n 0, 1) := by decide +kernel
theorem dX8_crossed_28 : decode cX8_crossed 28 = .ok (.iload_n 2, 1) := by decide +kernel
theorem dX8_crossed_29 : decode cX8_crossed 29 = .ok (.iload_n 3, 1) := by decide +kernel
theorem dX8_crossed_30 : decode cX8_crossed 30 = .ok (.invokevirtual 287, 3) := by decide +kernel
theorem dX8_crossed_33 : decode cX8_crossed 33 = .ok (.ifCond .ne 6, 3) := by decide +kernel
theorem dX8_crossed_36 : decode cX8_crossed 36 = .ok (.goto 28, 3) := by decide +kernel
theorem dX8_crossed_39 : decode cX8_crossed 39 = .ok (.aload_n 0, 1) := by decide +kernel
theorem dX8_crossed_40 : decode cX8_crossed 40 = .ok (.getfield 290, 3) := by decide +kernel
theorem dX8_crossed_43 : decode cX8_crossed 43 = .ok (.iload_n 1, 1) := by decide +kernel
theorem dX8_crossed_44 : decode cX8_crossed 44 = .ok (.if_icmp .ne 10, 3) := by decide +kernel
theorem dX8_crossed_47 : decode cX8_crossed 47 = .ok (.bipush 100, 2) := by decide +kernel
theorem dX8_crossed_49 : decode cX8_crossed 49 = .ok (.iload_n 2, 1) := by decide +kernel
theorem dX8_crossed_50 : decode cX8_crossed 50 = .ok (.imul, 1) := by decide +kernel
theorem dX8_crossed_51 : decode cX8_crossed 51 = .ok (.iload_n 3, 1) := by decide +kernel
theorem dX8_crossed_52 : decode cX8_crossed 52 = .ok (.iadd, 1) := by decide +kernel
theorem dX8_crossed_53 : decode cX8_crossed 53 = .ok (.ireturn, 1) := by decide +kernel
theorem dX8_crossed_54 : decode cX8_crossed 54 = .ok (.aload_n 0, 1) := by decide +kernel
theorem dX8_crossed_55 : decode cX8_crossed 55 = .ok (.dup, 1) := by decide +kernel
theorem dX8_crossed_56 : decode cX8_crossed 56 = .ok (.getfield 290, 3) := by decide +kernel
theorem dX8_crossed_59 : decode cX8_crossed 59 = .ok (.iconst 1, 1) := by decide +kernel
theorem dX8_crossed_60 : decode cX8_crossed 60 = .ok (.iadd, 1) := by decide +kernel
theorem dX8_crossed_61 : decode cX8_crossed 61 = .ok (.putfield 290, 3) := by decide +kernel
theorem dX8_crossed_64 : decode cX8_crossed 64 = .ok (.iinc 3 1, 3) := by decide +kernel
theorem dX8_crossed_67 : decode cX8_crossed 67 = .ok (.goto (-48), 3) := by decide +kernel
theorem dX8_crossed_70 : decode cX8_crossed 70 = .ok (.iinc 2 1, 3) := by decide +kernel
theorem dX8_crossed_73 : decode cX8_crossed 73 = .ok (.goto (-66), 3) := by decide +kernel
theorem dX8_crossed_76 : decode cX8_crossed 76 = .ok (.iconst (-1), 1) := by decide +kernel
theorem dX8_crossed_77 : decode cX8_crossed 77 = .ok (.ireturn, 1) := by decide +kernel
theorem dX8_crossings_0 : decode cX8_crossings 0 = .ok (.aload_n 0, 1) := by decide +kernel
theorem dX8_crossings_1 : decode cX8_crossings 1 = .ok (.iconst 0, 1) := by decide +kernel
theorem dX8_crossings_2 : decode cX8_crossings 2 = .ok (.putfield 1, 3) := by decide +kernel
theorem dX8_crossings_5 : decode cX8_crossings 5 = .ok (.aload_n 0, 1) := by decide +kernel
theorem dX8_crossings_6 : decode cX8_crossings 6 = .ok (.iconst (-1), 1) := by decide +kernel
theorem dX8_crossings_7 : decode cX8_crossings 7 = .ok (.invokevirtual 293, 3) := by decide +kernel
theorem dX8_crossings_10 : decode cX8_crossings 10 = .ok (.istore_n 1, 1) := by decide +kernel
theorem dX8_crossings_11 : decode cX8_crossings 11 = .ok (.aload_n 0, 1) := by decide +kernel
theorem dX8_crossings_12 : decode cX8_crossings 12 = .ok (.getfield 290, 3) := by decide +kernel
theorem dX8_crossings_15 : decode cX8_crossings 15 = .ok (.ireturn, 1) := by decide +kernel
theorem dX8_crossingAt_0 : decode cX8_crossingAt 0 = .ok (.aload_n 0, 1) := by decide +kernel
theorem dX8_crossingAt_1 : decode cX8_crossingAt 1 = .ok (.iconst 0, 1) := by decide +kernel
theorem dX8_crossingAt_2 : decode cX8_crossingAt 2 = .ok (.putfield 1, 3) := by decide +kernel
theorem dX8_crossingAt_5 : decode cX8_crossingAt 5 = .ok (.aload_n 0, 1) := by decide +kernel
theorem dX8_crossingAt_6 : decode cX8_crossingAt 6 = .ok (.iload_n 1, 1) := by decide +kernel
theorem dX8_crossingAt_7 : decode cX8_crossingAt 7 = .ok (.invokevirtual 293, 3) := by decide +kernel
theorem dX8_crossingAt_10 : decode cX8_crossingAt 10 = .ok (.istore_n 2, 1) := by decide +kernel
theorem dX8_crossingAt_11 : decode cX8_crossingAt 11 = .ok (.aload_n 0, 1) := by decide +kernel
theorem dX8_crossingAt_12 : decode cX8_crossingAt 12 = .ok (.iload_n 2, 1) := by decide +kernel
theorem dX8_crossingAt_13 : decode cX8_crossingAt 13 = .ok (.iconst (-1), 1) := by decide +kernel
theorem dX8_crossingAt_14 : decode cX8_crossingAt 14 = .ok (.if_icmp .eq 7, 3) := by decide +kernel
theorem dX8_crossingAt_17 : decode cX8_crossingAt 17 = .ok (.iconst 1, 1) := by decide +kernel
theorem dX8_crossingAt_18 : decode cX8_crossingAt 18 = .ok (.goto 4, 3) := by decide +kernel
theorem dX8_crossingAt_21 : decode cX8_crossingAt 21 = .ok (.iconst 0, 1) := by decide +kernel
theorem dX8_crossingAt_22 : decode cX8_crossingAt 22 = .ok (.iconst 1, 1) := by decide +kernel
theorem dX8_crossingAt_23 : decode cX8_crossingAt 23 = .ok (.invokevirtual 104, 3) := by decide +kernel
theorem dX8_crossingAt_26 : decode cX8_crossingAt 26 = .ok (.ifCond .eq 7, 3) := by decide +kernel
theorem dX8_crossingAt_29 : decode cX8_crossingAt 29 = .ok (.iconst 0, 1) := by decide +kernel
theorem dX8_crossingAt_30 : decode cX8_crossingAt 30 = .ok (.goto 4, 3) := by decide +kernel
theorem dX8_crossingAt_33 : decode cX8_crossingAt 33 = .ok (.iload_n 2, 1) := by decide +kernel
theorem dX8_crossingAt_34 : decode cX8_crossingAt 34 = .ok (.ireturn, 1) := by decide +kernel
theorem dX8_squared_0 : decode cX8_squared 0 = .ok (.aload_n 0, 1) := by decide +kernel
theorem dX8_squared_1 : decode cX8_squared 1 = .ok (.getfield 17, 3) := by decide +kernel
theorem dX8_squared_4 : decode cX8_squared 4 = .ok (.iload_n 1, 1) := by decide +kernel
theorem dX8_squared_5 : decode cX8_squared 5 = .ok (.iaload, 1) := by decide +kernel
theorem dX8_squared_6 : decode cX8_squared 6 = .ok (.aload_n 0, 1) := by decide +kernel
theorem dX8_squared_7 : decode cX8_squared 7 = .ok (.getfield 17, 3) := by decide +kernel
theorem dX8_squared_10 : decode cX8_squared 10 = .ok (.iload_n 2, 1) := by decide +kernel
theorem dX8_squared_11 : decode cX8_squared 11 = .ok (.iaload, 1) := by decide +kernel
theorem dX8_squared_12 : decode cX8_squared 12 = .ok (.isub, 1) := by decide +kernel
theorem dX8_squared_13 : decode cX8_squared 13 = .ok (.aload_n 0, 1) := by decide +kernel
theorem dX8_squared_14 : decode cX8_squared 14 = .ok (.getfield 17, 3) := by decide +kernel
theorem dX8_squared_17 : decode cX8_squared 17 = .ok (.iload_n 1, 1) := by decide +kernel
theorem dX8_squared_18 : decode cX8_squared 18 = .ok (.iaload, 1) := by decide +kernel
theorem dX8_squared_19 : decode cX8_squared 19 = .ok (.aload_n 0, 1) := by decide +kernel
theorem dX8_squared_20 : decode cX8_squared 20 = .ok (.getfield 17, 3) := by decide +kernel
theorem dX8_squared_23 : decode cX8_squared 23 = .ok (.iload_n 2, 1) := by decide +kernel
theorem dX8_squared_24 : decode cX8_squared 24 = .ok (.iaload, 1) := by decide +kernel
theorem dX8_squared_25 : decode cX8_squared 25 = .ok (.isub, 1) := by decide +kernel
theorem dX8_squared_26 : decode cX8_squared 26 = .ok (.imul, 1) := by decide +kernel
theorem dX8_squared_27 : decode cX8_squared 27 = .ok (.aload_n 0, 1) := by decide +kernel
theorem dX8_squared_28 : decode cX8_squared 28 = .ok (.getfield 20, 3) := by decide +kernel
theorem dX8_squared_31 : decode cX8_squared 31 = .ok (.iload_n 1, 1) := by decide +kernel
theorem dX8_squared_32 : decode cX8_squared 32 = .ok (.iaload, 1) := by decide +kernel
theorem dX8_squared_33 : decode cX8_squared 33 = .ok (.aload_n 0, 1) := by decide +kernel
theorem dX8_squared_34 : decode cX8_squared 34 = .ok (.getfield 20, 3) := by decide +kernel
theorem dX8_squared_37 : decode cX8_squared 37 = .ok (.iload_n 2, 1) := by decide +kernel
theorem dX8_squared_38 : decode cX8_squared 38 = .ok (.iaload, 1) := by decide +kernel
theorem dX8_squared_39 : decode cX8_squared 39 = .ok (.isub, 1) := by decide +kernel
theorem dX8_squared_40 : decode cX8_squared 40 = .ok (.aload_n 0, 1) := by decide +kernel
theorem dX8_squared_41 : decode cX8_squared 41 = .ok (.getfield 20, 3) := by decide +kernel
theorem dX8_squared_44 : decode cX8_squared 44 = .ok (.iload_n 1, 1) := by decide +kernel
theorem dX8_squared_45 : decode cX8_squared 45 = .ok (.iaload, 1) := by decide +kernel
theorem dX8_squared_46 : decode cX8_squared 46 = .ok (.aload_n 0, 1) := by decide +kernel
theorem dX8_squared_47 : decode cX8_squared 47 = .ok (.getfield 20, 3) := by decide +kernel
theorem dX8_squared_50 : decode cX8_squared 50 = .ok (.iload_n 2, 1) := by decide +kernel
theorem dX8_squared_51 : decode cX8_squared 51 = .ok (.iaload, 1) := by decide +kernel
theorem dX8_squared_52 : decode cX8_squared 52 = .ok (.isub, 1) := by decide +kernel
theorem dX8_squared_53 : decode cX8_squared 53 = .ok (.imul, 1) := by decide +kernel
theorem dX8_squared_54 : decode cX8_squared 54 = .ok (.iadd, 1) := by decide +kernel
theorem dX8_squared_55 : decode cX8_squared 55 = .ok (.ireturn, 1) := by decide +kernel
theorem dX8_pairOf_0 : decode cX8_pairOf 0 = .ok (.iconst (-1), 1) := by decide +kernel
theorem dX8_pairOf_1 : decode cX8_pairOf 1 = .ok (.istore_n 3, 1) := by decide +kernel
theorem dX8_pairOf_2 : decode cX8_pairOf 2 = .ok (.iconst 0, 1) := by decide +kernel
theorem dX8_pairOf_3 : decode cX8_pairOf 3 = .ok (.istore 4, 2) := by decide +kernel
theorem dX8_pairOf_5 : decode cX8_pairOf 5 = .ok (.iload 4, 2) := by decide +kernel
theorem dX8_pairOf_7 : decode cX8_pairOf 7 = .ok (.aload_n 0, 1) := by decide +kernel
theorem dX8_pairOf_8 : decode cX8_pairOf 8 = .ok (.getfield 108, 3) := by decide +kernel
theorem dX8_pairOf_11 : decode cX8_pairOf 11 = .ok (.if_icmp .ge 125, 3) := by decide +kernel
theorem dX8_pairOf_14 : decode cX8_pairOf 14 = .ok (.iload 4, 2) := by decide +kernel
theorem dX8_pairOf_16 : decode cX8_pairOf 16 = .ok (.iconst 1, 1) := by decide +kernel
theorem dX8_pairOf_17 : decode cX8_pairOf 17 = .ok (.iadd, 1) := by decide +kernel
theorem dX8_pairOf_18 : decode cX8_pairOf 18 = .ok (.istore 5, 2) := by decide +kernel
theorem dX8_pairOf_20 : decode cX8_pairOf 20 = .ok (.iload 5, 2) := by decide +kernel
theorem dX8_pairOf_22 : decode cX8_pairOf 22 = .ok (.aload_n 0, 1) := by decide +kernel
theorem dX8_pairOf_23 : decode cX8_pairOf 23 = .ok (.getfield 108, 3) := by decide +kernel
theorem dX8_pairOf_26 : decode cX8_pairOf 26 = .ok (.if_icmp .ge 104, 3) := by decide +kernel
theorem dX8_pairOf_29 : decode cX8_pairOf 29 = .ok (.aload_n 0, 1) := by decide +kernel
theorem dX8_pairOf_30 : decode cX8_pairOf 30 = .ok (.getfield 13, 3) := by decide +kernel
theorem dX8_pairOf_33 : decode cX8_pairOf 33 = .ok (.iload 4, 2) := by decide +kernel
theorem dX8_pairOf_35 : decode cX8_pairOf 35 = .ok (.iaload, 1) := by decide +kernel
theorem dX8_pairOf_36 : decode cX8_pairOf 36 = .ok (.iload_n 1, 1) := by decide +kernel
theorem dX8_pairOf_37 : decode cX8_pairOf 37 = .ok (.if_icmp .ne 87, 3) := by decide +kernel
theorem dX8_pairOf_40 : decode cX8_pairOf 40 = .ok (.aload_n 0, 1) := by decide +kernel
theorem dX8_pairOf_41 : decode cX8_pairOf 41 = .ok (.getfield 13, 3) := by decide +kernel
theorem dX8_pairOf_44 : decode cX8_pairOf 44 = .ok (.iload 5, 2) := by decide +kernel
theorem dX8_pairOf_46 : decode cX8_pairOf 46 = .ok (.iaload, 1) := by decide +kernel
theorem dX8_pairOf_47 : decode cX8_pairOf 47 = .ok (.iload_n 1, 1) := by decide +kernel
theorem dX8_pairOf_48 : decode cX8_pairOf 48 = .ok (.if_icmp .eq 6, 3) := by decide +kernel
theorem dX8_pairOf_51 : decode cX8_pairOf 51 = .ok (.goto 73, 3) := by decide +kernel
theorem dX8_pairOf_54 : decode cX8_pairOf 54 = .ok (.iload_n 3, 1) := by decide +kernel
theorem dX8_pairOf_55 : decode cX8_pairOf 55 = .ok (.iconst (-1), 1) := by decide +kernel
theorem dX8_pairOf_56 : decode cX8_pairOf 56 = .ok (.if_icmp .ne 7, 3) := by decide +kernel
theorem dX8_pairOf_59 : decode cX8_pairOf 59 = .ok (.iconst 0, 1) := by decide +kernel
theorem dX8_pairOf_60 : decode cX8_pairOf 60 = .ok (.goto 15, 3) := by decide +kernel
theorem dX8_pairOf_63 : decode cX8_pairOf 63 = .ok (.aload_n 0, 1) := by decide +kernel
theorem dX8_pairOf_64 : decode cX8_pairOf 64 = .ok (.iload_n 3, 1) := by decide +kernel
theorem dX8_pairOf_65 : decode cX8_pairOf 65 = .ok (.bipush 100, 2) := by decide +kernel
theorem dX8_pairOf_67 : decode cX8_pairOf 67 = .ok (.idiv, 1) := by decide +kernel
theorem dX8_pairOf_68 : decode cX8_pairOf 68 = .ok (.iload_n 3, 1) := by decide +kernel
theorem dX8_pairOf_69 : decode cX8_pairOf 69 = .ok (.bipush 100, 2) := by decide +kernel
theorem dX8_pairOf_71 : decode cX8_pairOf 71 = .ok (.irem, 1) := by decide +kernel
theorem dX8_pairOf_72 : decode cX8_pairOf 72 = .ok (.invokevirtual 296, 3) := by decide +kernel
theorem dX8_pairOf_75 : decode cX8_pairOf 75 = .ok (.istore 6, 2) := by decide +kernel
theorem dX8_pairOf_77 : decode cX8_pairOf 77 = .ok (.iload_n 3, 1) := by decide +kernel
theorem dX8_pairOf_78 : decode cX8_pairOf 78 = .ok (.iconst (-1), 1) := by decide +kernel
theorem dX8_pairOf_79 : decode cX8_pairOf 79 = .ok (.if_icmp .eq 36, 3) := by decide +kernel
theorem dX8_pairOf_82 : decode cX8_pairOf 82 = .ok (.iload_n 2, 1) := by decide +kernel
theorem dX8_pairOf_83 : decode cX8_pairOf 83 = .ok (.ifCond .eq 19, 3) := by decide +kernel
theorem dX8_pairOf_86 : decode cX8_pairOf 86 = .ok (.aload_n 0, 1) := by decide +kernel
theorem dX8_pairOf_87 : decode cX8_pairOf 87 = .ok (.iload 4, 2) := by decide +kernel
theorem dX8_pairOf_89 : decode cX8_pairOf 89 = .ok (.iload 5, 2) := by decide +kernel
theorem dX8_pairOf_91 : decode cX8_pairOf 91 = .ok (.invokevirtual 296, 3) := by decide +kernel
theorem dX8_pairOf_94 : decode cX8_pairOf 94 = .ok (.iload 6, 2) := by decide +kernel
theorem dX8_pairOf_96 : decode cX8_pairOf 96 = .ok (.if_icmp .le 28, 3) := by decide +kernel
theorem dX8_pairOf_99 : decode cX8_pairOf 99 = .ok (.goto 16, 3) := by decide +kernel
theorem dX8_pairOf_102 : decode cX8_pairOf 102 = .ok (.aload_n 0, 1) := by decide +kernel
theorem dX8_pairOf_103 : decode cX8_pairOf 103 = .ok (.iload 4, 2) := by decide +kernel
theorem dX8_pairOf_105 : decode cX8_pairOf 105 = .ok (.iload 5, 2) := by decide +kernel
theorem dX8_pairOf_107 : decode cX8_pairOf 107 = .ok (.invokevirtual 296, 3) := by decide +kernel
theorem dX8_pairOf_110 : decode cX8_pairOf 110 = .ok (.iload 6, 2) := by decide +kernel
theorem dX8_pairOf_112 : decode cX8_pairOf 112 = .ok (.if_icmp .ge 12, 3) := by decide +kernel
theorem dX8_pairOf_115 : decode cX8_pairOf 115 = .ok (.bipush 100, 2) := by decide +kernel
theorem dX8_pairOf_117 : decode cX8_pairOf 117 = .ok (.iload 4, 2) := by decide +kernel
theorem dX8_pairOf_119 : decode cX8_pairOf 119 = .ok (.imul, 1) := by decide +kernel
theorem dX8_pairOf_120 : decode cX8_pairOf 120 = .ok (.iload 5, 2) := by decide +kernel
theorem dX8_pairOf_122 : decode cX8_pairOf 122 = .ok (.iadd, 1) := by decide +kernel
theorem dX8_pairOf_123 : decode cX8_pairOf 123 = .ok (.istore_n 3, 1) := by decide +kernel
theorem dX8_pairOf_124 : decode cX8_pairOf 124 = .ok (.iinc 5 1, 3) := by decide +kernel
theorem dX8_pairOf_127 : decode cX8_pairOf 127 = .ok (.goto (-107), 3) := by decide +kernel
theorem dX8_pairOf_130 : decode cX8_pairOf 130 = .ok (.iinc 4 1, 3) := by decide +kernel
theorem dX8_pairOf_133 : decode cX8_pairOf 133 = .ok (.goto (-128), 3) := by decide +kernel
theorem dX8_pairOf_136 : decode cX8_pairOf 136 = .ok (.iload_n 3, 1) := by decide +kernel
theorem dX8_pairOf_137 : decode cX8_pairOf 137 = .ok (.ireturn, 1) := by decide +kernel
theorem dX8_pair_0 : decode cX8_pair 0 = .ok (.aload_n 0, 1) := by decide +kernel
theorem dX8_pair_1 : decode cX8_pair 1 = .ok (.iconst 0, 1) := by decide +kernel
theorem dX8_pair_2 : decode cX8_pair 2 = .ok (.putfield 1, 3) := by decide +kernel
theorem dX8_pair_5 : decode cX8_pair 5 = .ok (.aload_n 0, 1) := by decide +kernel
theorem dX8_pair_6 : decode cX8_pair 6 = .ok (.iload_n 1, 1) := by decide +kernel
theorem dX8_pair_7 : decode cX8_pair 7 = .ok (.invokevirtual 111, 3) := by decide +kernel
theorem dX8_pair_10 : decode cX8_pair 10 = .ok (.ifCond .ne 25, 3) := by decide +kernel
theorem dX8_pair_13 : decode cX8_pair 13 = .ok (.aload_n 0, 1) := by decide +kernel
theorem dX8_pair_14 : decode cX8_pair 14 = .ok (.aload_n 0, 1) := by decide +kernel
theorem dX8_pair_15 : decode cX8_pair 15 = .ok (.iload_n 1, 1) := by decide +kernel
theorem dX8_pair_16 : decode cX8_pair 16 = .ok (.invokevirtual 122, 3) := by decide +kernel
theorem dX8_pair_19 : decode cX8_pair 19 = .ok (.iconst 1, 1) := by decide +kernel
theorem dX8_pair_20 : decode cX8_pair 20 = .ok (.if_icmp .le 7, 3) := by decide +kernel
theorem dX8_pair_23 : decode cX8_pair 23 = .ok (.iconst 1, 1) := by decide +kernel
theorem dX8_pair_24 : decode cX8_pair 24 = .ok (.goto 4, 3) := by decide +kernel
theorem dX8_pair_27 : decode cX8_pair 27 = .ok (.iconst 0, 1) := by decide +kernel
theorem dX8_pair_28 : decode cX8_pair 28 = .ok (.iconst 2, 1) := by decide +kernel
theorem dX8_pair_29 : decode cX8_pair 29 = .ok (.invokevirtual 104, 3) := by decide +kernel
theorem dX8_pair_32 : decode cX8_pair 32 = .ok (.ifCond .eq 7, 3) := by decide +kernel
theorem dX8_pair_35 : decode cX8_pair 35 = .ok (.iconst 0, 1) := by decide +kernel
theorem dX8_pair_36 : decode cX8_pair 36 = .ok (.goto 9, 3) := by decide +kernel
theorem dX8_pair_39 : decode cX8_pair 39 = .ok (.aload_n 0, 1) := by decide +kernel
theorem dX8_pair_40 : decode cX8_pair 40 = .ok (.iload_n 1, 1) := by decide +kernel
theorem dX8_pair_41 : decode cX8_pair 41 = .ok (.iload_n 2, 1) := by decide +kernel
theorem dX8_pair_42 : decode cX8_pair 42 = .ok (.invokevirtual 299, 3) := by decide +kernel
theorem dX8_pair_45 : decode cX8_pair 45 = .ok (.ireturn, 1) := by decide +kernel
theorem dX8_distance_0 : decode cX8_distance 0 = .ok (.aload_n 0, 1) := by decide +kernel
theorem dX8_distance_1 : decode cX8_distance 1 = .ok (.iconst 0, 1) := by decide +kernel
theorem dX8_distance_2 : decode cX8_distance 2 = .ok (.putfield 1, 3) := by decide +kernel
theorem dX8_distance_5 : decode cX8_distance 5 = .ok (.aload_n 0, 1) := by decide +kernel
theorem dX8_distance_6 : decode cX8_distance 6 = .ok (.iload_n 1, 1) := by decide +kernel
theorem dX8_distance_7 : decode cX8_distance 7 = .ok (.invokevirtual 111, 3) := by decide +kernel
theorem dX8_distance_10 : decode cX8_distance 10 = .ok (.ifCond .ne 25, 3) := by decide +kernel
theorem dX8_distance_13 : decode cX8_distance 13 = .ok (.aload_n 0, 1) := by decide +kernel
theorem dX8_distance_14 : decode cX8_distance 14 = .ok (.aload_n 0, 1) := by decide +kernel
theorem dX8_distance_15 : decode cX8_distance 15 = .ok (.iload_n 1, 1) := by decide +kernel
theorem dX8_distance_16 : decode cX8_distance 16 = .ok (.invokevirtual 122, 3) := by decide +kernel
theorem dX8_distance_19 : decode cX8_distance 19 = .ok (.iconst 1, 1) := by decide +kernel
theorem dX8_distance_20 : decode cX8_distance 20 = .ok (.if_icmp .le 7, 3) := by decide +kernel
theorem dX8_distance_23 : decode cX8_distance 23 = .ok (.iconst 1, 1) := by decide +kernel
theorem dX8_distance_24 : decode cX8_distance 24 = .ok (.goto 4, 3) := by decide +kernel
theorem dX8_distance_27 : decode cX8_distance 27 = .ok (.iconst 0, 1) := by decide +kernel
theorem dX8_distance_28 : decode cX8_distance 28 = .ok (.iconst 2, 1) := by decide +kernel
theorem dX8_distance_29 : decode cX8_distance 29 = .ok (.invokevirtual 104, 3) := by decide +kernel
theorem dX8_distance_32 : decode cX8_distance 32 = .ok (.ifCond .eq 5, 3) := by decide +kernel
theorem dX8_distance_35 : decode cX8_distance 35 = .ok (.iconst 0, 1) := by decide +kernel
theorem dX8_distance_36 : decode cX8_distance 36 = .ok (.ireturn, 1) := by decide +kernel
theorem dX8_distance_37 : decode cX8_distance 37 = .ok (.aload_n 0, 1) := by decide +kernel
theorem dX8_distance_38 : decode cX8_distance 38 = .ok (.iload_n 1, 1) := by decide +kernel
theorem dX8_distance_39 : decode cX8_distance 39 = .ok (.iload_n 2, 1) := by decide +kernel
theorem dX8_distance_40 : decode cX8_distance 40 = .ok (.invokevirtual 299, 3) := by decide +kernel
theorem dX8_distance_43 : decode cX8_distance 43 = .ok (.istore_n 3, 1) := by decide +kernel
theorem dX8_distance_44 : decode cX8_distance 44 = .ok (.aload_n 0, 1) := by decide +kernel
theorem dX8_distance_45 : decode cX8_distance 45 = .ok (.iload_n 3, 1) := by decide +kernel
theorem dX8_distance_46 : decode cX8_distance 46 = .ok (.bipush 100, 2) := by decide +kernel
theorem dX8_distance_48 : decode cX8_distance 48 = .ok (.idiv, 1) := by decide +kernel
theorem dX8_distance_49 : decode cX8_distance 49 = .ok (.iload_n 3, 1) := by decide +kernel
theorem dX8_distance_50 : decode cX8_distance 50 = .ok (.bipush 100, 2) := by decide +kernel
theorem dX8_distance_52 : decode cX8_distance 52 = .ok (.irem, 1) := by decide +kernel
theorem dX8_distance_53 : decode cX8_distance 53 = .ok (.invokevirtual 296, 3) := by decide +kernel
theorem dX8_distance_56 : decode cX8_distance 56 = .ok (.ireturn, 1) := by decide +kernel
theorem dX8_box_0 : decode cX8_box 0 = .ok (.aload_n 0, 1) := by decide +kernel
theorem dX8_box_1 : decode cX8_box 1 = .ok (.iconst 0, 1) := by decide +kernel
theorem dX8_box_2 : decode cX8_box 2 = .ok (.putfield 1, 3) := by decide +kernel
theorem dX8_box_5 : decode cX8_box 5 = .ok (.aload_n 0, 1) := by decide +kernel
theorem dX8_box_6 : decode cX8_box 6 = .ok (.iload_n 1, 1) := by decide +kernel
theorem dX8_box_7 : decode cX8_box 7 = .ok (.invokevirtual 111, 3) := by decide +kernel
theorem dX8_box_10 : decode cX8_box 10 = .ok (.ifCond .ne 25, 3) := by decide +kernel
theorem dX8_box_13 : decode cX8_box 13 = .ok (.aload_n 0, 1) := by decide +kernel
theorem dX8_box_14 : decode cX8_box 14 = .ok (.iload_n 2, 1) := by decide +kernel
theorem dX8_box_15 : decode cX8_box 15 = .ok (.iconst 0, 1) := by decide +kernel
theorem dX8_box_16 : decode cX8_box 16 = .ok (.iconst 3, 1) := by decide +kernel
theorem dX8_box_17 : decode cX8_box 17 = .ok (.invokestatic 96, 3) := by decide +kernel
theorem dX8_box_20 : decode cX8_box 20 = .ok (.iconst 1, 1) := by decide +kernel
theorem dX8_box_21 : decode cX8_box 21 = .ok (.invokevirtual 104, 3) := by decide +kernel
theorem dX8_box_24 : decode cX8_box 24 = .ok (.ifCond .ne 11, 3) := by decide +kernel
theorem dX8_box_27 : decode cX8_box 27 = .ok (.aload_n 0, 1) := by decide +kernel
theorem dX8_box_28 : decode cX8_box 28 = .ok (.iload_n 1, 1) := by decide +kernel
theorem dX8_box_29 : decode cX8_box 29 = .ok (.invokevirtual 153, 3) := by decide +kernel
theorem dX8_box_32 : decode cX8_box 32 = .ok (.ifCond .eq 5, 3) := by decide +kernel
theorem dX8_box_35 : decode cX8_box 35 = .ok (.iconst 0, 1) := by decide +kernel
theorem dX8_box_36 : decode cX8_box 36 = .ok (.ireturn, 1) := by decide +kernel
theorem dX8_box_37 : decode cX8_box 37 = .ok (.iconst (-1), 1) := by decide +kernel
theorem dX8_box_38 : decode cX8_box 38 = .ok (.istore_n 3, 1) := by decide +kernel
theorem dX8_box_39 : decode cX8_box 39 = .ok (.iconst 0, 1) := by decide +kernel
theorem dX8_box_40 : decode cX8_box 40 = .ok (.istore 4, 2) := by decide +kernel
theorem dX8_box_42 : decode cX8_box 42 = .ok (.iload 4, 2) := by decide +kernel
theorem dX8_box_44 : decode cX8_box 44 = .ok (.aload_n 0, 1) := by decide +kernel
theorem dX8_box_45 : decode cX8_box 45 = .ok (.getfield 108, 3) := by decide +kernel
theorem dX8_box_48 : decode cX8_box 48 = .ok (.if_icmp .ge 109, 3) := by decide +kernel
theorem dX8_box_51 : decode cX8_box 51 = .ok (.aload_n 0, 1) := by decide +kernel
theorem dX8_box_52 : decode cX8_box 52 = .ok (.getfield 13, 3) := by decide +kernel
theorem dX8_box_55 : decode cX8_box 55 = .ok (.iload 4, 2) := by decide +kernel
theorem dX8_box_57 : decode cX8_box 57 = .ok (.iaload, 1) := by decide +kernel
theorem dX8_box_58 : decode cX8_box 58 = .ok (.iload_n 1, 1) := by decide +kernel
theorem dX8_box_59 : decode cX8_box 59 = .ok (.if_icmp .eq 6, 3) := by decide +kernel
theorem dX8_box_62 : decode cX8_box 62 = .ok (.goto 89, 3) := by decide +kernel
theorem dX8_box_65 : decode cX8_box 65 = .ok (.iload_n 2, 1) := by decide +kernel
theorem dX8_box_66 : decode cX8_box 66 = .ok (.iconst 2, 1) := by decide +kernel
theorem dX8_box_67 : decode cX8_box 67 = .ok (.if_icmp .ge 13, 3) := by decide +kernel
theorem dX8_box_70 : decode cX8_box 70 = .ok (.aload_n 0, 1) := by decide +kernel
theorem dX8_box_71 : decode cX8_box 71 = .ok (.getfield 17, 3) := by decide +kernel
theorem dX8_box_74 : decode cX8_box 74 = .ok (.iload 4, 2) := by decide +kernel
theorem dX8_box_76 : decode cX8_box 76 = .ok (.iaload, 1) := by decide +kernel
theorem dX8_box_77 : decode cX8_box 77 = .ok (.goto 10, 3) := by decide +kernel
theorem dX8_box_80 : decode cX8_box 80 = .ok (.aload_n 0, 1) := by decide +kernel
theorem dX8_box_81 : decode cX8_box 81 = .ok (.getfield 20, 3) := by decide +kernel
theorem dX8_box_84 : decode cX8_box 84 = .ok (.iload 4, 2) := by decide +kernel
theorem dX8_box_86 : decode cX8_box 86 = .ok (.iaload, 1) := by decide +kernel
theorem dX8_box_87 : decode cX8_box 87 = .ok (.istore 5, 2) := by decide +kernel
theorem dX8_box_89 : decode cX8_box 89 = .ok (.iload_n 3, 1) := by decide +kernel
theorem dX8_box_90 : decode cX8_box 90 = .ok (.iconst (-1), 1) := by decide +kernel
theorem dX8_box_91 : decode cX8_box 91 = .ok (.if_icmp .ne 7, 3) := by decide +kernel
theorem dX8_box_94 : decode cX8_box 94 = .ok (.iconst 0, 1) := by decide +kernel
theorem dX8_box_95 : decode cX8_box 95 = .ok (.goto 23, 3) := by decide +kernel
theorem dX8_box_98 : decode cX8_box 98 = .ok (.iload_n 2, 1) := by decide +kernel
theorem dX8_box_99 : decode cX8_box 99 = .ok (.iconst 2, 1) := by decide +kernel
theorem dX8_box_100 : decode cX8_box 100 = .ok (.if_icmp .ge 12, 3) := by decide +kernel
theorem dX8_box_103 : decode cX8_box 103 = .ok (.aload_n 0, 1) := by decide +kernel
theorem dX8_box_104 : decode cX8_box 104 = .ok (.getfield 17, 3) := by decide +kernel
theorem dX8_box_107 : decode cX8_box 107 = .ok (.iload_n 3, 1) := by decide +kernel
theorem dX8_box_108 : decode cX8_box 108 = .ok (.iaload, 1) := by decide +kernel
theorem dX8_box_109 : decode cX8_box 109 = .ok (.goto 9, 3) := by decide +kernel
theorem dX8_box_112 : decode cX8_box 112 = .ok (.aload_n 0, 1) := by decide +kernel
theorem dX8_box_113 : decode cX8_box 113 = .ok (.getfield 20, 3) := by decide +kernel
theorem dX8_box_116 : decode cX8_box 116 = .ok (.iload_n 3, 1) := by decide +kernel
theorem dX8_box_117 : decode cX8_box 117 = .ok (.iaload, 1) := by decide +kernel
theorem dX8_box_118 : decode cX8_box 118 = .ok (.istore 6, 2) := by decide +kernel
theorem dX8_box_120 : decode cX8_box 120 = .ok (.iload_n 3, 1) := by decide +kernel
theorem dX8_box_121 : decode cX8_box 121 = .ok (.iconst (-1), 1) := by decide +kernel
theorem dX8_box_122 : decode cX8_box 122 = .ok (.if_icmp .eq 26, 3) := by decide +kernel
theorem dX8_box_125 : decode cX8_box 125 = .ok (.iload_n 2, 1) := by decide +kernel
theorem dX8_box_126 : decode cX8_box 126 = .ok (.iconst 2, 1) := by decide +kernel
theorem dX8_box_127 : decode cX8_box 127 = .ok (.irem, 1) := by decide +kernel
theorem dX8_box_128 : decode cX8_box 128 = .ok (.ifCond .ne 13, 3) := by decide +kernel
theorem dX8_box_131 : decode cX8_box 131 = .ok (.iload 5, 2) := by decide +kernel
theorem dX8_box_133 : decode cX8_box 133 = .ok (.iload 6, 2) := by decide +kernel
theorem dX8_box_135 : decode cX8_box 135 = .ok (.if_icmp .ge 16, 3) := by decide +kernel
theorem dX8_box_138 : decode cX8_box 138 = .ok (.goto 10, 3) := by decide +kernel
theorem dX8_box_141 : decode cX8_box 141 = .ok (.iload 5, 2) := by decide +kernel
theorem dX8_box_143 : decode cX8_box 143 = .ok (.iload 6, 2) := by decide +kernel
theorem dX8_box_145 : decode cX8_box 145 = .ok (.if_icmp .le 6, 3) := by decide +kernel
theorem dX8_box_148 : decode cX8_box 148 = .ok (.iload 4, 2) := by decide +kernel
theorem dX8_box_150 : decode cX8_box 150 = .ok (.istore_n 3, 1) := by decide +kernel
theorem dX8_box_151 : decode cX8_box 151 = .ok (.iinc 4 1, 3) := by decide +kernel
theorem dX8_box_154 : decode cX8_box 154 = .ok (.goto (-112), 3) := by decide +kernel
theorem dX8_box_157 : decode cX8_box 157 = .ok (.iload_n 2, 1) := by decide +kernel
theorem dX8_box_158 : decode cX8_box 158 = .ok (.iconst 2, 1) := by decide +kernel
theorem dX8_box_159 : decode cX8_box 159 = .ok (.if_icmp .ge 12, 3) := by decide +kernel
theorem dX8_box_162 : decode cX8_box 162 = .ok (.aload_n 0, 1) := by decide +kernel
theorem dX8_box_163 : decode cX8_box 163 = .ok (.getfield 17, 3) := by decide +kernel
theorem dX8_box_166 : decode cX8_box 166 = .ok (.iload_n 3, 1) := by decide +kernel
theorem dX8_box_167 : decode cX8_box 167 = .ok (.iaload, 1) := by decide +kernel
theorem dX8_box_168 : decode cX8_box 168 = .ok (.goto 9, 3) := by decide +kernel
theorem dX8_box_171 : decode cX8_box 171 = .ok (.aload_n 0, 1) := by decide +kernel
theorem dX8_box_172 : decode cX8_box 172 = .ok (.getfield 20, 3) := by decide +kernel
theorem dX8_box_175 : decode cX8_box 175 = .ok (.iload_n 3, 1) := by decide +kernel
theorem dX8_box_176 : decode cX8_box 176 = .ok (.iaload, 1) := by decide +kernel
theorem dX8_box_177 : decode cX8_box 177 = .ok (.ireturn, 1) := by decide +kernel
theorem dX8_ordersByY_0 : decode cX8_ordersByY 0 = .ok (.iconst 0, 1) := by decide +kernel
theorem dX8_ordersByY_1 : decode cX8_ordersByY 1 = .ok (.istore_n 2, 1) := by decide +kernel
theorem dX8_ordersByY_2 : decode cX8_ordersByY 2 = .ok (.iconst 0, 1) := by decide +kernel
theorem dX8_ordersByY_3 : decode cX8_ordersByY 3 = .ok (.istore_n 3, 1) := by decide +kernel
theorem dX8_ordersByY_4 : decode cX8_ordersByY 4 = .ok (.iload_n 3, 1) := by decide +kernel
theorem dX8_ordersByY_5 : decode cX8_ordersByY 5 = .ok (.aload_n 0, 1) := by decide +kernel
theorem dX8_ordersByY_6 : decode cX8_ordersByY 6 = .ok (.getfield 108, 3) := by decide +kernel
theorem dX8_ordersByY_9 : decode cX8_ordersByY 9 = .ok (.if_icmp .ge 86, 3) := by decide +kernel
theorem dX8_ordersByY_12 : decode cX8_ordersByY 12 = .ok (.aload_n 0, 1) := by decide +kernel
theorem dX8_ordersByY_13 : decode cX8_ordersByY 13 = .ok (.getfield 13, 3) := by decide +kernel
theorem dX8_ordersByY_16 : decode cX8_ordersByY 16 = .ok (.iload_n 3, 1) := by decide +kernel
theorem dX8_ordersByY_17 : decode cX8_ordersByY 17 = .ok (.iaload, 1) := by decide +kernel
theorem dX8_ordersByY_18 : decode cX8_ordersByY 18 = .ok (.iload_n 1, 1) := by decide +kernel
theorem dX8_ordersByY_19 : decode cX8_ordersByY 19 = .ok (.if_icmp .eq 6, 3) := by decide +kernel
theorem dX8_ordersByY_22 : decode cX8_ordersByY 22 = .ok (.goto 67, 3) := by decide +kernel
theorem dX8_ordersByY_25 : decode cX8_ordersByY 25 = .ok (.iload_n 2, 1) := by decide +kernel
theorem dX8_ordersByY_26 : decode cX8_ordersByY 26 = .ok (.istore 4, 2) := by decide +kernel
theorem dX8_ordersByY_28 : decode cX8_ordersByY 28 = .ok (.iload 4, 2) := by decide +kernel
theorem dX8_ordersByY_30 : decode cX8_ordersByY 30 = .ok (.ifCond .le 48, 3) := by decide +kernel
theorem dX8_ordersByY_33 : decode cX8_ordersByY 33 = .ok (.aload_n 0, 1) := by decide +kernel
theorem dX8_ordersByY_34 : decode cX8_ordersByY 34 = .ok (.getfield 20, 3) := by decide +kernel
theorem dX8_ordersByY_37 : decode cX8_ordersByY 37 = .ok (.aload_n 0, 1) := by decide +kernel
theorem dX8_ordersByY_38 : decode cX8_ordersByY 38 = .ok (.getfield 69, 3) := by decide +kernel
theorem dX8_ordersByY_41 : decode cX8_ordersByY 41 = .ok (.iload 4, 2) := by decide +kernel
theorem dX8_ordersByY_43 : decode cX8_ordersByY 43 = .ok (.iconst 1, 1) := by decide +kernel
theorem dX8_ordersByY_44 : decode cX8_ordersByY 44 = .ok (.isub, 1) := by decide +kernel
theorem dX8_ordersByY_45 : decode cX8_ordersByY 45 = .ok (.iaload, 1) := by decide +kernel
theorem dX8_ordersByY_46 : decode cX8_ordersByY 46 = .ok (.iaload, 1) := by decide +kernel
theorem dX8_ordersByY_47 : decode cX8_ordersByY 47 = .ok (.aload_n 0, 1) := by decide +kernel
theorem dX8_ordersByY_48 : decode cX8_ordersByY 48 = .ok (.getfield 20, 3) := by decide +kernel
theorem dX8_ordersByY_51 : decode cX8_ordersByY 51 = .ok (.iload_n 3, 1) := by decide +kernel
theorem dX8_ordersByY_52 : decode cX8_ordersByY 52 = .ok (.iaload, 1) := by decide +kernel
theorem dX8_ordersByY_53 : decode cX8_ordersByY 53 = .ok (.if_icmp .le 25, 3) := by decide +kernel
theorem dX8_ordersByY_56 : decode cX8_ordersByY 56 = .ok (.aload_n 0, 1) := by decide +kernel
theorem dX8_ordersByY_57 : decode cX8_ordersByY 57 = .ok (.getfield 69, 3) := by decide +kernel
theorem dX8_ordersByY_60 : decode cX8_ordersByY 60 = .ok (.iload 4, 2) := by decide +kernel
theorem dX8_ordersByY_62 : decode cX8_ordersByY 62 = .ok (.aload_n 0, 1) := by decide +kernel
theorem dX8_ordersByY_63 : decode cX8_ordersByY 63 = .ok (.getfield 69, 3) := by decide +kernel
theorem dX8_ordersByY_66 : decode cX8_ordersByY 66 = .ok (.iload 4, 2) := by decide +kernel
theorem dX8_ordersByY_68 : decode cX8_ordersByY 68 = .ok (.iconst 1, 1) := by decide +kernel
theorem dX8_ordersByY_69 : decode cX8_ordersByY 69 = .ok (.isub, 1) := by decide +kernel
theorem dX8_ordersByY_70 : decode cX8_ordersByY 70 = .ok (.iaload, 1) := by decide +kernel
theorem dX8_ordersByY_71 : decode cX8_ordersByY 71 = .ok (.iastore, 1) := by decide +kernel
theorem dX8_ordersByY_72 : decode cX8_ordersByY 72 = .ok (.iinc 4 (-1), 3) := by decide +kernel
theorem dX8_ordersByY_75 : decode cX8_ordersByY 75 = .ok (.goto (-47), 3) := by decide +kernel
theorem dX8_ordersByY_78 : decode cX8_ordersByY 78 = .ok (.aload_n 0, 1) := by decide +kernel
theorem dX8_ordersByY_79 : decode cX8_ordersByY 79 = .ok (.getfield 69, 3) := by decide +kernel
theorem dX8_ordersByY_82 : decode cX8_ordersByY 82 = .ok (.iload 4, 2) := by decide +kernel
theorem dX8_ordersByY_84 : decode cX8_ordersByY 84 = .ok (.iload_n 3, 1) := by decide +kernel
theorem dX8_ordersByY_85 : decode cX8_ordersByY 85 = .ok (.iastore, 1) := by decide +kernel
theorem dX8_ordersByY_86 : decode cX8_ordersByY 86 = .ok (.iinc 2 1, 3) := by decide +kernel
theorem dX8_ordersByY_89 : decode cX8_ordersByY 89 = .ok (.iinc 3 1, 3) := by decide +kernel
theorem dX8_ordersByY_92 : decode cX8_ordersByY 92 = .ok (.goto (-88), 3) := by decide +kernel
theorem dX8_ordersByY_95 : decode cX8_ordersByY 95 = .ok (.iload_n 2, 1) := by decide +kernel
theorem dX8_ordersByY_96 : decode cX8_ordersByY 96 = .ok (.ireturn, 1) := by decide +kernel
theorem dX8_height_0 : decode cX8_height 0 = .ok (.iconst 0, 1) := by decide +kernel
theorem dX8_height_1 : decode cX8_height 1 = .ok (.istore 6, 2) := by decide +kernel
theorem dX8_height_3 : decode cX8_height 3 = .ok (.iconst 0, 1) := by decide +kernel
theorem dX8_height_4 : decode cX8_height 4 = .ok (.istore 7, 2) := by decide +kernel
theorem dX8_height_6 : decode cX8_height 6 = .ok (.iload 7, 2) := by decide +kernel
theorem dX8_height_8 : decode cX8_height 8 = .ok (.iload_n 1, 1) := by decide +kernel
theorem dX8_height_9 : decode cX8_height 9 = .ok (.if_icmp .ge 69, 3) := by decide +kernel
theorem dX8_height_12 : decode cX8_height 12 = .ok (.aload_n 0, 1) := by decide +kernel
theorem dX8_height_13 : decode cX8_height 13 = .ok (.getfield 69, 3) := by decide +kernel
theorem dX8_height_16 : decode cX8_height 16 = .ok (.iload 7, 2) := by decide +kernel
theorem dX8_height_18 : decode cX8_height 18 = .ok (.iaload, 1) := by decide +kernel
theorem dX8_height_19 : decode cX8_height 19 = .ok (.istore 8, 2) := by decide +kernel
theorem dX8_height_21 : decode cX8_height 21 = .ok (.aload_n 0, 1) := by decide +kernel
theorem dX8_height_22 : decode cX8_height 22 = .ok (.getfield 20, 3) := by decide +kernel
theorem dX8_height_25 : decode cX8_height 25 = .ok (.iload 8, 2) := by decide +kernel
theorem dX8_height_27 : decode cX8_height 27 = .ok (.iaload, 1) := by decide +kernel
theorem dX8_height_28 : decode cX8_height 28 = .ok (.iload 4, 2) := by decide +kernel
theorem dX8_height_30 : decode cX8_height 30 = .ok (.if_icmp .lt 42, 3) := by decide +kernel
theorem dX8_height_33 : decode cX8_height 33 = .ok (.aload_n 0, 1) := by decide +kernel
theorem dX8_height_34 : decode cX8_height 34 = .ok (.getfield 17, 3) := by decide +kernel
theorem dX8_height_37 : decode cX8_height 37 = .ok (.iload 8, 2) := by decide +kernel
theorem dX8_height_39 : decode cX8_height 39 = .ok (.iaload, 1) := by decide +kernel
theorem dX8_height_40 : decode cX8_height 40 = .ok (.iload_n 2, 1) := by decide +kernel
theorem dX8_height_41 : decode cX8_height 41 = .ok (.iload_n 3, 1) := by decide +kernel
theorem dX8_height_42 : decode cX8_height 42 = .ok (.invokestatic 96, 3) := by decide +kernel
theorem dX8_height_45 : decode cX8_height 45 = .ok (.ifCond .ne 6, 3) := by decide +kernel
theorem dX8_height_48 : decode cX8_height 48 = .ok (.goto 24, 3) := by decide +kernel
theorem dX8_height_51 : decode cX8_height 51 = .ok (.iinc 6 1, 3) := by decide +kernel
theorem dX8_height_54 : decode cX8_height 54 = .ok (.iload 6, 2) := by decide +kernel
theorem dX8_height_56 : decode cX8_height 56 = .ok (.iload 5, 2) := by decide +kernel
theorem dX8_height_58 : decode cX8_height 58 = .ok (.if_icmp .ne 14, 3) := by decide +kernel
theorem dX8_height_61 : decode cX8_height 61 = .ok (.aload_n 0, 1) := by decide +kernel
theorem dX8_height_62 : decode cX8_height 62 = .ok (.getfield 20, 3) := by decide +kernel
theorem dX8_height_65 : decode cX8_height 65 = .ok (.iload 8, 2) := by decide +kernel
theorem dX8_height_67 : decode cX8_height 67 = .ok (.iaload, 1) := by decide +kernel
theorem dX8_height_68 : decode cX8_height 68 = .ok (.iload 4, 2) := by decide +kernel
theorem dX8_height_70 : decode cX8_height 70 = .ok (.isub, 1) := by decide +kernel
theorem dX8_height_71 : decode cX8_height 71 = .ok (.ireturn, 1) := by decide +kernel
theorem dX8_height_72 : decode cX8_height 72 = .ok (.iinc 7 1, 3) := by decide +kernel
theorem dX8_height_75 : decode cX8_height 75 = .ok (.goto (-69), 3) := by decide +kernel
theorem dX8_height_78 : decode cX8_height 78 = .ok (.iconst (-1), 1) := by decide +kernel
theorem dX8_height_79 : decode cX8_height 79 = .ok (.ireturn, 1) := by decide +kernel
theorem dX8_fence_0 : decode cX8_fence 0 = .ok (.aload_n 0, 1) := by decide +kernel
theorem dX8_fence_1 : decode cX8_fence 1 = .ok (.iconst 0, 1) := by decide +kernel
theorem dX8_fence_2 : decode cX8_fence 2 = .ok (.putfield 1, 3) := by decide +kernel
theorem dX8_fence_5 : decode cX8_fence 5 = .ok (.aload_n 0, 1) := by decide +kernel
theorem dX8_fence_6 : decode cX8_fence 6 = .ok (.iload_n 1, 1) := by decide +kernel
theorem dX8_fence_7 : decode cX8_fence 7 = .ok (.invokevirtual 111, 3) := by decide +kernel
theorem dX8_fence_10 : decode cX8_fence 10 = .ok (.ifCond .ne 42, 3) := by decide +kernel
theorem dX8_fence_13 : decode cX8_fence 13 = .ok (.aload_n 0, 1) := by decide +kernel
theorem dX8_fence_14 : decode cX8_fence 14 = .ok (.iload_n 2, 1) := by decide +kernel
theorem dX8_fence_15 : decode cX8_fence 15 = .ok (.ifCond .le 7, 3) := by decide +kernel
theorem dX8_fence_18 : decode cX8_fence 18 = .ok (.iconst 1, 1) := by decide +kernel
theorem dX8_fence_19 : decode cX8_fence 19 = .ok (.goto 4, 3) := by decide +kernel
theorem dX8_fence_22 : decode cX8_fence 22 = .ok (.iconst 0, 1) := by decide +kernel
theorem dX8_fence_23 : decode cX8_fence 23 = .ok (.iconst 1, 1) := by decide +kernel
theorem dX8_fence_24 : decode cX8_fence 24 = .ok (.invokevirtual 104, 3) := by decide +kernel
theorem dX8_fence_27 : decode cX8_fence 27 = .ok (.ifCond .ne 25, 3) := by decide +kernel
theorem dX8_fence_30 : decode cX8_fence 30 = .ok (.aload_n 0, 1) := by decide +kernel
theorem dX8_fence_31 : decode cX8_fence 31 = .ok (.iload_n 2, 1) := by decide +kernel
theorem dX8_fence_32 : decode cX8_fence 32 = .ok (.aload_n 0, 1) := by decide +kernel
theorem dX8_fence_33 : decode cX8_fence 33 = .ok (.iload_n 1, 1) := by decide +kernel
theorem dX8_fence_34 : decode cX8_fence 34 = .ok (.invokevirtual 122, 3) := by decide +kernel
theorem dX8_fence_37 : decode cX8_fence 37 = .ok (.if_icmp .gt 7, 3) := by decide +kernel
theorem dX8_fence_40 : decode cX8_fence 40 = .ok (.iconst 1, 1) := by decide +kernel
theorem dX8_fence_41 : decode cX8_fence 41 = .ok (.goto 4, 3) := by decide +kernel
theorem dX8_fence_44 : decode cX8_fence 44 = .ok (.iconst 0, 1) := by decide +kernel
theorem dX8_fence_45 : decode cX8_fence 45 = .ok (.iconst 2, 1) := by decide +kernel
theorem dX8_fence_46 : decode cX8_fence 46 = .ok (.invokevirtual 104, 3) := by decide +kernel
theorem dX8_fence_49 : decode cX8_fence 49 = .ok (.ifCond .eq 5, 3) := by decide +kernel
theorem dX8_fence_52 : decode cX8_fence 52 = .ok (.iconst 0, 1) := by decide +kernel
theorem dX8_fence_53 : decode cX8_fence 53 = .ok (.ireturn, 1) := by decide +kernel
theorem dX8_fence_54 : decode cX8_fence 54 = .ok (.iconst (-1), 1) := by decide +kernel
theorem dX8_fence_55 : decode cX8_fence 55 = .ok (.istore_n 3, 1) := by decide +kernel
theorem dX8_fence_56 : decode cX8_fence 56 = .ok (.aload_n 0, 1) := by decide +kernel
theorem dX8_fence_57 : decode cX8_fence 57 = .ok (.iload_n 1, 1) := by decide +kernel
theorem dX8_fence_58 : decode cX8_fence 58 = .ok (.invokevirtual 303, 3) := by decide +kernel
theorem dX8_fence_61 : decode cX8_fence 61 = .ok (.istore 4, 2) := by decide +kernel
theorem dX8_fence_63 : decode cX8_fence 63 = .ok (.iconst 0, 1) := by decide +kernel
theorem dX8_fence_64 : decode cX8_fence 64 = .ok (.istore 5, 2) := by decide +kernel
theorem dX8_fence_66 : decode cX8_fence 66 = .ok (.iload 5, 2) := by decide +kernel
theorem dX8_fence_68 : decode cX8_fence 68 = .ok (.aload_n 0, 1) := by decide +kernel
theorem dX8_fence_69 : decode cX8_fence 69 = .ok (.getfield 108, 3) := by decide +kernel
theorem dX8_fence_72 : decode cX8_fence 72 = .ok (.if_icmp .ge 174, 3) := by decide +kernel
theorem dX8_fence_75 : decode cX8_fence 75 = .ok (.iconst 0, 1) := by decide +kernel
theorem dX8_fence_76 : decode cX8_fence 76 = .ok (.istore 6, 2) := by decide +kernel
theorem dX8_fence_78 : decode cX8_fence 78 = .ok (.iload 6, 2) := by decide +kernel
theorem dX8_fence_80 : decode cX8_fence 80 = .ok (.aload_n 0, 1) := by decide +kernel
theorem dX8_fence_81 : decode cX8_fence 81 = .ok (.getfield 108, 3) := by decide +kernel
theorem dX8_fence_84 : decode cX8_fence 84 = .ok (.if_icmp .ge 156, 3) := by decide +kernel
theorem dX8_fence_87 : decode cX8_fence 87 = .ok (.aload_n 0, 1) := by decide +kernel
theorem dX8_fence_88 : decode cX8_fence 88 = .ok (.getfield 17, 3) := by decide +kernel
theorem dX8_fence_91 : decode cX8_fence 91 = .ok (.iload 6, 2) := by decide +kernel
theorem dX8_fence_93 : decode cX8_fence 93 = .ok (.iaload, 1) := by decide +kernel
theorem dX8_fence_94 : decode cX8_fence 94 = .ok (.aload_n 0, 1) := by decide +kernel
theorem dX8_fence_95 : decode cX8_fence 95 = .ok (.getfield 17, 3) := by decide +kernel
theorem dX8_fence_98 : decode cX8_fence 98 = .ok (.iload 5, 2) := by decide +kernel
theorem dX8_fence_100 : decode cX8_fence 100 = .ok (.iaload, 1) := by decide +kernel
theorem dX8_fence_101 : decode cX8_fence 101 = .ok (.isub, 1) := by decide +kernel
theorem dX8_fence_102 : decode cX8_fence 102 = .ok (.istore 7, 2) := by decide +kernel
theorem dX8_fence_104 : decode cX8_fence 104 = .ok (.aload_n 0, 1) := by decide +kernel
theorem dX8_fence_105 : decode cX8_fence 105 = .ok (.getfield 13, 3) := by decide +kernel
theorem dX8_fence_108 : decode cX8_fence 108 = .ok (.iload 5, 2) := by decide +kernel
theorem dX8_fence_110 : decode cX8_fence 110 = .ok (.iaload, 1) := by decide +kernel
theorem dX8_fence_111 : decode cX8_fence 111 = .ok (.iload_n 1, 1) := by decide +kernel
theorem dX8_fence_112 : decode cX8_fence 112 = .ok (.if_icmp .ne 122, 3) := by decide +kernel
theorem dX8_fence_115 : decode cX8_fence 115 = .ok (.aload_n 0, 1) := by decide +kernel
theorem dX8_fence_116 : decode cX8_fence 116 = .ok (.getfield 13, 3) := by decide +kernel
theorem dX8_fence_119 : decode cX8_fence 119 = .ok (.iload 6, 2) := by decide +kernel
theorem dX8_fence_121 : decode cX8_fence 121 = .ok (.iaload, 1) := by decide +kernel
theorem dX8_fence_122 : decode cX8_fence 122 = .ok (.iload_n 1, 1) := by decide +kernel
theorem dX8_fence_123 : decode cX8_fence 123 = .ok (.if_icmp .ne 111, 3) := by decide +kernel
theorem dX8_fence_126 : decode cX8_fence 126 = .ok (.iload 7, 2) := by decide +kernel
theorem dX8_fence_128 : decode cX8_fence 128 = .ok (.ifCond .lt 106, 3) := by decide +kernel
theorem dX8_fence_131 : decode cX8_fence 131 = .ok (.iload_n 3, 1) := by decide +kernel
theorem dX8_fence_132 : decode cX8_fence 132 = .ok (.iconst (-1), 1) := by decide +kernel
theorem dX8_fence_133 : decode cX8_fence 133 = .ok (.if_icmp .eq 12, 3) := by decide +kernel
theorem dX8_fence_136 : decode cX8_fence 136 = .ok (.iload 7, 2) := by decide +kernel
theorem dX8_fence_138 : decode cX8_fence 138 = .ok (.iload_n 3, 1) := by decide +kernel
theorem dX8_fence_139 : decode cX8_fence 139 = .ok (.if_icmp .lt 6, 3) := by decide +kernel
theorem dX8_fence_142 : decode cX8_fence 142 = .ok (.goto 92, 3) := by decide +kernel
theorem dX8_fence_145 : decode cX8_fence 145 = .ok (.iconst 0, 1) := by decide +kernel
theorem dX8_fence_146 : decode cX8_fence 146 = .ok (.istore 8, 2) := by decide +kernel
theorem dX8_fence_148 : decode cX8_fence 148 = .ok (.iload 8, 2) := by decide +kernel
theorem dX8_fence_150 : decode cX8_fence 150 = .ok (.aload_n 0, 1) := by decide +kernel
theorem dX8_fence_151 : decode cX8_fence 151 = .ok (.getfield 108, 3) := by decide +kernel
theorem dX8_fence_154 : decode cX8_fence 154 = .ok (.if_icmp .ge 80, 3) := by decide +kernel
theorem dX8_fence_157 : decode cX8_fence 157 = .ok (.aload_n 0, 1) := by decide +kernel
theorem dX8_fence_158 : decode cX8_fence 158 = .ok (.getfield 13, 3) := by decide +kernel
theorem dX8_fence_161 : decode cX8_fence 161 = .ok (.iload 8, 2) := by decide +kernel
theorem dX8_fence_163 : decode cX8_fence 163 = .ok (.iaload, 1) := by decide +kernel
theorem dX8_fence_164 : decode cX8_fence 164 = .ok (.iload_n 1, 1) := by decide +kernel
theorem dX8_fence_165 : decode cX8_fence 165 = .ok (.if_icmp .eq 7, 3) := by decide +kernel
theorem dX8_fence_168 : decode cX8_fence 168 = .ok (.iconst (-1), 1) := by decide +kernel
theorem dX8_fence_169 : decode cX8_fence 169 = .ok (.goto 31, 3) := by decide +kernel
theorem dX8_fence_172 : decode cX8_fence 172 = .ok (.aload_n 0, 1) := by decide +kernel
theorem dX8_fence_173 : decode cX8_fence 173 = .ok (.iload 4, 2) := by decide +kernel
theorem dX8_fence_175 : decode cX8_fence 175 = .ok (.aload_n 0, 1) := by decide +kernel
theorem dX8_fence_176 : decode cX8_fence 176 = .ok (.getfield 17, 3) := by decide +kernel
theorem dX8_fence_179 : decode cX8_fence 179 = .ok (.iload 5, 2) := by decide +kernel
theorem dX8_fence_181 : decode cX8_fence 181 = .ok (.iaload, 1) := by decide +kernel
theorem dX8_fence_182 : decode cX8_fence 182 = .ok (.aload_n 0, 1) := by decide +kernel
theorem dX8_fence_183 : decode cX8_fence 183 = .ok (.getfield 17, 3) := by decide +kernel
theorem dX8_fence_186 : decode cX8_fence 186 = .ok (.iload 6, 2) := by decide +kernel
theorem dX8_fence_188 : decode cX8_fence 188 = .ok (.iaload, 1) := by decide +kernel
theorem dX8_fence_189 : decode cX8_fence 189 = .ok (.aload_n 0, 1) := by decide +kernel
theorem dX8_fence_190 : decode cX8_fence 190 = .ok (.getfield 20, 3) := by decide +kernel
theorem dX8_fence_193 : decode cX8_fence 193 = .ok (.iload 8, 2) := by decide +kernel
theorem dX8_fence_195 : decode cX8_fence 195 = .ok (.iaload, 1) := by decide +kernel
theorem dX8_fence_196 : decode cX8_fence 196 = .ok (.iload_n 2, 1) := by decide +kernel
theorem dX8_fence_197 : decode cX8_fence 197 = .ok (.invokevirtual 306, 3) := by decide +kernel
theorem dX8_fence_200 : decode cX8_fence 200 = .ok (.istore 9, 2) := by decide +kernel
theorem dX8_fence_202 : decode cX8_fence 202 = .ok (.iload 9, 2) := by decide +kernel
theorem dX8_fence_204 : decode cX8_fence 204 = .ok (.iconst (-1), 1) := by decide +kernel
theorem dX8_fence_205 : decode cX8_fence 205 = .ok (.if_icmp .eq 23, 3) := by decide +kernel
theorem dX8_fence_208 : decode cX8_fence 208 = .ok (.iload_n 3, 1) := by decide +kernel
theorem dX8_fence_209 : decode cX8_fence 209 = .ok (.iconst (-1), 1) := by decide +kernel
theorem dX8_fence_210 : decode cX8_fence 210 = .ok (.if_icmp .eq 12, 3) := by decide +kernel
theorem dX8_fence_213 : decode cX8_fence 213 = .ok (.iload 7, 2) := by decide +kernel
theorem dX8_fence_215 : decode cX8_fence 215 = .ok (.iload 9, 2) := by decide +kernel
theorem dX8_fence_217 : decode cX8_fence 217 = .ok (.iadd, 1) := by decide +kernel
theorem dX8_fence_218 : decode cX8_fence 218 = .ok (.iload_n 3, 1) := by decide +kernel
theorem dX8_fence_219 : decode cX8_fence 219 = .ok (.if_icmp .ge 9, 3) := by decide +kernel
theorem dX8_fence_222 : decode cX8_fence 222 = .ok (.iload 7, 2) := by decide +kernel
theorem dX8_fence_224 : decode cX8_fence 224 = .ok (.iload 9, 2) := by decide +kernel
theorem dX8_fence_226 : decode cX8_fence 226 = .ok (.iadd, 1) := by decide +kernel
theorem dX8_fence_227 : decode cX8_fence 227 = .ok (.istore_n 3, 1) := by decide +kernel
theorem dX8_fence_228 : decode cX8_fence 228 = .ok (.iinc 8 1, 3) := by decide +kernel
theorem dX8_fence_231 : decode cX8_fence 231 = .ok (.goto (-83), 3) := by decide +kernel
theorem dX8_fence_234 : decode cX8_fence 234 = .ok (.iinc 6 1, 3) := by decide +kernel
theorem dX8_fence_237 : decode cX8_fence 237 = .ok (.goto (-159), 3) := by decide +kernel
theorem dX8_fence_240 : decode cX8_fence 240 = .ok (.iinc 5 1, 3) := by decide +kernel
theorem dX8_fence_243 : decode cX8_fence 243 = .ok (.goto (-177), 3) := by decide +kernel
theorem dX8_fence_246 : decode cX8_fence 246 = .ok (.iload_n 3, 1) := by decide +kernel
theorem dX8_fence_247 : decode cX8_fence 247 = .ok (.ireturn, 1) := by decide +kernel
theorem dX8_isIn_0 : decode cX8_isIn 0 = .ok (.iconst 0, 1) := by decide +kernel
theorem dX8_isIn_1 : decode cX8_isIn 1 = .ok (.istore_n 3, 1) := by decide +kernel
theorem dX8_isIn_2 : decode cX8_isIn 2 = .ok (.iload_n 3, 1) := by decide +kernel
theorem dX8_isIn_3 : decode cX8_isIn 3 = .ok (.aload_n 0, 1) := by decide +kernel
theorem dX8_isIn_4 : decode cX8_isIn 4 = .ok (.getfield 35, 3) := by decide +kernel
theorem dX8_isIn_7 : decode cX8_isIn 7 = .ok (.iload_n 1, 1) := by decide +kernel
theorem dX8_isIn_8 : decode cX8_isIn 8 = .ok (.iaload, 1) := by decide +kernel
theorem dX8_isIn_9 : decode cX8_isIn 9 = .ok (.if_icmp .ge 43, 3) := by decide +kernel
theorem dX8_isIn_12 : decode cX8_isIn 12 = .ok (.aload_n 0, 1) := by decide +kernel
theorem dX8_isIn_13 : decode cX8_isIn 13 = .ok (.iload_n 2, 1) := by decide +kernel
theorem dX8_isIn_14 : decode cX8_isIn 14 = .ok (.aload_n 0, 1) := by decide +kernel
theorem dX8_isIn_15 : decode cX8_isIn 15 = .ok (.getfield 29, 3) := by decide +kernel
theorem dX8_isIn_18 : decode cX8_isIn 18 = .ok (.sipush 200, 3) := by decide +kernel
theorem dX8_isIn_21 : decode cX8_isIn 21 = .ok (.iload_n 1, 1) := by decide +kernel
theorem dX8_isIn_22 : decode cX8_isIn 22 = .ok (.imul, 1) := by decide +kernel
theorem dX8_isIn_23 : decode cX8_isIn 23 = .ok (.iload_n 3, 1) := by decide +kernel
theorem dX8_isIn_24 : decode cX8_isIn 24 = .ok (.iadd, 1) := by decide +kernel
theorem dX8_isIn_25 : decode cX8_isIn 25 = .ok (.iaload, 1) := by decide +kernel
theorem dX8_isIn_26 : decode cX8_isIn 26 = .ok (.aload_n 0, 1) := by decide +kernel
theorem dX8_isIn_27 : decode cX8_isIn 27 = .ok (.getfield 32, 3) := by decide +kernel
theorem dX8_isIn_30 : decode cX8_isIn 30 = .ok (.sipush 200, 3) := by decide +kernel
theorem dX8_isIn_33 : decode cX8_isIn 33 = .ok (.iload_n 1, 1) := by decide +kernel
theorem dX8_isIn_34 : decode cX8_isIn 34 = .ok (.imul, 1) := by decide +kernel
theorem dX8_isIn_35 : decode cX8_isIn 35 = .ok (.iload_n 3, 1) := by decide +kernel
theorem dX8_isIn_36 : decode cX8_isIn 36 = .ok (.iadd, 1) := by decide +kernel
theorem dX8_isIn_37 : decode cX8_isIn 37 = .ok (.iaload, 1) := by decide +kernel
theorem dX8_isIn_38 : decode cX8_isIn 38 = .ok (.invokevirtual 162, 3) := by decide +kernel
theorem dX8_isIn_41 : decode cX8_isIn 41 = .ok (.ifCond .lt 5, 3) := by decide +kernel
theorem dX8_isIn_44 : decode cX8_isIn 44 = .ok (.iconst 1, 1) := by decide +kernel
theorem dX8_isIn_45 : decode cX8_isIn 45 = .ok (.ireturn, 1) := by decide +kernel
theorem dX8_isIn_46 : decode cX8_isIn 46 = .ok (.iinc 3 1, 3) := by decide +kernel
theorem dX8_isIn_49 : decode cX8_isIn 49 = .ok (.goto (-47), 3) := by decide +kernel
theorem dX8_isIn_52 : decode cX8_isIn 52 = .ok (.iconst 0, 1) := by decide +kernel
theorem dX8_isIn_53 : decode cX8_isIn 53 = .ok (.ireturn, 1) := by decide +kernel
theorem dX8_apart_0 : decode cX8_apart 0 = .ok (.aload_n 0, 1) := by decide +kernel
theorem dX8_apart_1 : decode cX8_apart 1 = .ok (.iconst 0, 1) := by decide +kernel
theorem dX8_apart_2 : decode cX8_apart 2 = .ok (.putfield 1, 3) := by decide +kernel
theorem dX8_apart_5 : decode cX8_apart 5 = .ok (.aload_n 0, 1) := by decide +kernel
theorem dX8_apart_6 : decode cX8_apart 6 = .ok (.iload_n 1, 1) := by decide +kernel
theorem dX8_apart_7 : decode cX8_apart 7 = .ok (.iload_n 2, 1) := by decide +kernel
theorem dX8_apart_8 : decode cX8_apart 8 = .ok (.invokevirtual 159, 3) := by decide +kernel
theorem dX8_apart_11 : decode cX8_apart 11 = .ok (.ifCond .eq 5, 3) := by decide +kernel
theorem dX8_apart_14 : decode cX8_apart 14 = .ok (.iconst 0, 1) := by decide +kernel
theorem dX8_apart_15 : decode cX8_apart 15 = .ok (.ireturn, 1) := by decide +kernel
theorem dX8_apart_16 : decode cX8_apart 16 = .ok (.aload_n 0, 1) := by decide +kernel
theorem dX8_apart_17 : decode cX8_apart 17 = .ok (.iconst 1, 1) := by decide +kernel
theorem dX8_apart_18 : decode cX8_apart 18 = .ok (.iload_n 1, 1) := by decide +kernel
theorem dX8_apart_19 : decode cX8_apart 19 = .ok (.invokevirtual 156, 3) := by decide +kernel
theorem dX8_apart_22 : decode cX8_apart 22 = .ok (.istore_n 3, 1) := by decide +kernel
theorem dX8_apart_23 : decode cX8_apart 23 = .ok (.aload_n 0, 1) := by decide +kernel
theorem dX8_apart_24 : decode cX8_apart 24 = .ok (.iconst 2, 1) := by decide +kernel
theorem dX8_apart_25 : decode cX8_apart 25 = .ok (.iload_n 2, 1) := by decide +kernel
theorem dX8_apart_26 : decode cX8_apart 26 = .ok (.invokevirtual 156, 3) := by decide +kernel
theorem dX8_apart_29 : decode cX8_apart 29 = .ok (.istore 4, 2) := by decide +kernel
theorem dX8_apart_31 : decode cX8_apart 31 = .ok (.aload_n 0, 1) := by decide +kernel
theorem dX8_apart_32 : decode cX8_apart 32 = .ok (.iconst 1, 1) := by decide +kernel
theorem dX8_apart_33 : decode cX8_apart 33 = .ok (.iconst 2, 1) := by decide +kernel
theorem dX8_apart_34 : decode cX8_apart 34 = .ok (.invokevirtual 310, 3) := by decide +kernel
theorem dX8_apart_37 : decode cX8_apart 37 = .ok (.ifCond .ne 12, 3) := by decide +kernel
theorem dX8_apart_40 : decode cX8_apart 40 = .ok (.aload_n 0, 1) := by decide +kernel
theorem dX8_apart_41 : decode cX8_apart 41 = .ok (.iconst 2, 1) := by decide +kernel
theorem dX8_apart_42 : decode cX8_apart 42 = .ok (.iconst 1, 1) := by decide +kernel
theorem dX8_apart_43 : decode cX8_apart 43 = .ok (.invokevirtual 310, 3) := by decide +kernel
theorem dX8_apart_46 : decode cX8_apart 46 = .ok (.ifCond .eq 5, 3) := by decide +kernel
theorem dX8_apart_49 : decode cX8_apart 49 = .ok (.iconst 0, 1) := by decide +kernel
theorem dX8_apart_50 : decode cX8_apart 50 = .ok (.ireturn, 1) := by decide +kernel
theorem dX8_apart_51 : decode cX8_apart 51 = .ok (.iconst 0, 1) := by decide +kernel
theorem dX8_apart_52 : decode cX8_apart 52 = .ok (.istore 5, 2) := by decide +kernel
theorem dX8_apart_54 : decode cX8_apart 54 = .ok (.iload 5, 2) := by decide +kernel
theorem dX8_apart_56 : decode cX8_apart 56 = .ok (.iload_n 3, 1) := by decide +kernel
theorem dX8_apart_57 : decode cX8_apart 57 = .ok (.if_icmp .ge 148, 3) := by decide +kernel
theorem dX8_apart_60 : decode cX8_apart 60 = .ok (.iconst 0, 1) := by decide +kernel
theorem dX8_apart_61 : decode cX8_apart 61 = .ok (.istore 6, 2) := by decide +kernel
theorem dX8_apart_63 : decode cX8_apart 63 = .ok (.iload 6, 2) := by decide +kernel
theorem dX8_apart_65 : decode cX8_apart 65 = .ok (.iload 4, 2) := by decide +kernel
theorem dX8_apart_67 : decode cX8_apart 67 = .ok (.if_icmp .ge 132, 3) := by decide +kernel
theorem dX8_apart_70 : decode cX8_apart 70 = .ok (.aload_n 0, 1) := by decide +kernel
theorem dX8_apart_71 : decode cX8_apart 71 = .ok (.aload_n 0, 1) := by decide +kernel
theorem dX8_apart_72 : decode cX8_apart 72 = .ok (.getfield 29, 3) := by decide +kernel
theorem dX8_apart_75 : decode cX8_apart 75 = .ok (.sipush 200, 3) := by decide +kernel
theorem dX8_apart_78 : decode cX8_apart 78 = .ok (.iload 5, 2) := by decide +kernel
theorem dX8_apart_80 : decode cX8_apart 80 = .ok (.iadd, 1) := by decide +kernel
theorem dX8_apart_81 : decode cX8_apart 81 = .ok (.iaload, 1) := by decide +kernel
theorem dX8_apart_82 : decode cX8_apart 82 = .ok (.aload_n 0, 1) := by decide +kernel
theorem dX8_apart_83 : decode cX8_apart 83 = .ok (.getfield 32, 3) := by decide +kernel
theorem dX8_apart_86 : decode cX8_apart 86 = .ok (.sipush 200, 3) := by decide +kernel
theorem dX8_apart_89 : decode cX8_apart 89 = .ok (.iload 5, 2) := by decide +kernel
theorem dX8_apart_91 : decode cX8_apart 91 = .ok (.iadd, 1) := by decide +kernel
theorem dX8_apart_92 : decode cX8_apart 92 = .ok (.iaload, 1) := by decide +kernel
theorem dX8_apart_93 : decode cX8_apart 93 = .ok (.aload_n 0, 1) := by decide +kernel
theorem dX8_apart_94 : decode cX8_apart 94 = .ok (.getfield 29, 3) := by decide +kernel
theorem dX8_apart_97 : decode cX8_apart 97 = .ok (.sipush 200, 3) := by decide +kernel
theorem dX8_apart_100 : decode cX8_apart 100 = .ok (.iload 5, 2) := by decide +kernel
theorem dX8_apart_102 : decode cX8_apart 102 = .ok (.iconst 1, 1) := by decide +kernel
theorem dX8_apart_103 : decode cX8_apart 103 = .ok (.iadd, 1) := by decide +kernel
theorem dX8_apart_104 : decode cX8_apart 104 = .ok (.iload_n 3, 1) := by decide +kernel
theorem dX8_apart_105 : decode cX8_apart 105 = .ok (.irem, 1) := by decide +kernel
theorem dX8_apart_106 : decode cX8_apart 106 = .ok (.iadd, 1) := by decide +kernel
theorem dX8_apart_107 : decode cX8_apart 107 = .ok (.iaload, 1) := by decide +kernel
theorem dX8_apart_108 : decode cX8_apart 108 = .ok (.aload_n 0, 1) := by decide +kernel
theorem dX8_apart_109 : decode cX8_apart 109 = .ok (.getfield 32, 3) := by decide +kernel
theorem dX8_apart_112 : decode cX8_apart 112 = .ok (.sipush 200, 3) := by decide +kernel
theorem dX8_apart_115 : decode cX8_apart 115 = .ok (.iload 5, 2) := by decide +kernel
theorem dX8_apart_117 : decode cX8_apart 117 = .ok (.iconst 1, 1) := by decide +kernel
theorem dX8_apart_118 : decode cX8_apart 118 = .ok (.iadd, 1) := by decide +kernel
theorem dX8_apart_119 : decode cX8_apart 119 = .ok (.iload_n 3, 1) := by decide +kernel
theorem dX8_apart_120 : decode cX8_apart 120 = .ok (.irem, 1) := by decide +kernel
theorem dX8_apart_121 : decode cX8_apart 121 = .ok (.iadd, 1) := by decide +kernel
theorem dX8_apart_122 : decode cX8_apart 122 = .ok (.iaload, 1) := by decide +kernel
theorem dX8_apart_123 : decode cX8_apart 123 = .ok (.invokevirtual 229, 3) := by decide +kernel
theorem dX8_apart_126 : decode cX8_apart 126 = .ok (.aload_n 0, 1) := by decide +kernel
theorem dX8_apart_127 : decode cX8_apart 127 = .ok (.aload_n 0, 1) := by decide +kernel
theorem dX8_apart_128 : decode cX8_apart 128 = .ok (.getfield 29, 3) := by decide +kernel
theorem dX8_apart_131 : decode cX8_apart 131 = .ok (.sipush 400, 3) := by decide +kernel
theorem dX8_apart_134 : decode cX8_apart 134 = .ok (.iload 6, 2) := by decide +kernel
theorem dX8_apart_136 : decode cX8_apart 136 = .ok (.iadd, 1) := by decide +kernel
theorem dX8_apart_137 : decode cX8_apart 137 = .ok (.iaload, 1) := by decide +kernel
theorem dX8_apart_138 : decode cX8_apart 138 = .ok (.aload_n 0, 1) := by decide +kernel
theorem dX8_apart_139 : decode cX8_apart 139 = .ok (.getfield 32, 3) := by decide +kernel
theorem dX8_apart_142 : decode cX8_apart 142 = .ok (.sipush 400, 3) := by decide +kernel
theorem dX8_apart_145 : decode cX8_apart 145 = .ok (.iload 6, 2) := by decide +kernel
theorem dX8_apart_147 : decode cX8_apart 147 = .ok (.iadd, 1) := by decide +kernel
theorem dX8_apart_148 : decode cX8_apart 148 = .ok (.iaload, 1) := by decide +kernel
theorem dX8_apart_149 : decode cX8_apart 149 = .ok (.aload_n 0, 1) := by decide +kernel
theorem dX8_apart_150 : decode cX8_apart 150 = .ok (.getfield 29, 3) := by decide +kernel
theorem dX8_apart_153 : decode cX8_apart 153 = .ok (.sipush 400, 3) := by decide +kernel
theorem dX8_apart_156 : decode cX8_apart 156 = .ok (.iload 6, 2) := by decide +kernel
theorem dX8_apart_158 : decode cX8_apart 158 = .ok (.iconst 1, 1) := by decide +kernel
theorem dX8_apart_159 : decode cX8_apart 159 = .ok (.iadd, 1) := by decide +kernel
theorem dX8_apart_160 : decode cX8_apart 160 = .ok (.iload 4, 2) := by decide +kernel
theorem dX8_apart_162 : decode cX8_apart 162 = .ok (.irem, 1) := by decide +kernel
theorem dX8_apart_163 : decode cX8_apart 163 = .ok (.iadd, 1) := by decide +kernel
theorem dX8_apart_164 : decode cX8_apart 164 = .ok (.iaload, 1) := by decide +kernel
theorem dX8_apart_165 : decode cX8_apart 165 = .ok (.aload_n 0, 1) := by decide +kernel
theorem dX8_apart_166 : decode cX8_apart 166 = .ok (.getfield 32, 3) := by decide +kernel
theorem dX8_apart_169 : decode cX8_apart 169 = .ok (.sipush 400, 3) := by decide +kernel
theorem dX8_apart_172 : decode cX8_apart 172 = .ok (.iload 6, 2) := by decide +kernel
theorem dX8_apart_174 : decode cX8_apart 174 = .ok (.iconst 1, 1) := by decide +kernel
theorem dX8_apart_175 : decode cX8_apart 175 = .ok (.iadd, 1) := by decide +kernel
theorem dX8_apart_176 : decode cX8_apart 176 = .ok (.iload 4, 2) := by decide +kernel
theorem dX8_apart_178 : decode cX8_apart 178 = .ok (.irem, 1) := by decide +kernel
theorem dX8_apart_179 : decode cX8_apart 179 = .ok (.iadd, 1) := by decide +kernel
theorem dX8_apart_180 : decode cX8_apart 180 = .ok (.iaload, 1) := by decide +kernel
theorem dX8_apart_181 : decode cX8_apart 181 = .ok (.invokevirtual 233, 3) := by decide +kernel
theorem dX8_apart_184 : decode cX8_apart 184 = .ok (.aload_n 0, 1) := by decide +kernel
theorem dX8_apart_185 : decode cX8_apart 185 = .ok (.invokevirtual 236, 3) := by decide +kernel
theorem dX8_apart_188 : decode cX8_apart 188 = .ok (.ifCond .eq 5, 3) := by decide +kernel
theorem dX8_apart_191 : decode cX8_apart 191 = .ok (.iconst 0, 1) := by decide +kernel
theorem dX8_apart_192 : decode cX8_apart 192 = .ok (.ireturn, 1) := by decide +kernel
theorem dX8_apart_193 : decode cX8_apart 193 = .ok (.iinc 6 1, 3) := by decide +kernel
theorem dX8_apart_196 : decode cX8_apart 196 = .ok (.goto (-133), 3) := by decide +kernel
theorem dX8_apart_199 : decode cX8_apart 199 = .ok (.iinc 5 1, 3) := by decide +kernel
theorem dX8_apart_202 : decode cX8_apart 202 = .ok (.goto (-148), 3) := by decide +kernel
theorem dX8_apart_205 : decode cX8_apart 205 = .ok (.iconst 1, 1) := by decide +kernel
theorem dX8_apart_206 : decode cX8_apart 206 = .ok (.ireturn, 1) := by decide +kernel
theorem dX8_image_0 : decode cX8_image 0 = .ok (.aload_n 0, 1) := by decide +kernel
theorem dX8_image_1 : decode cX8_image 1 = .ok (.iconst 0, 1) := by decide +kernel
theorem dX8_image_2 : decode cX8_image 2 = .ok (.putfield 1, 3) := by decide +kernel
theorem dX8_image_5 : decode cX8_image 5 = .ok (.iconst 0, 1) := by decide +kernel
theorem dX8_image_6 : decode cX8_image 6 = .ok (.istore_n 1, 1) := by decide +kernel
theorem dX8_image_7 : decode cX8_image 7 = .ok (.iload_n 1, 1) := by decide +kernel
theorem dX8_image_8 : decode cX8_image 8 = .ok (.bipush 60, 2) := by decide +kernel
theorem dX8_image_10 : decode cX8_image 10 = .ok (.if_icmp .ge 45, 3) := by decide +kernel
theorem dX8_image_13 : decode cX8_image 13 = .ok (.aload_n 0, 1) := by decide +kernel
theorem dX8_image_14 : decode cX8_image 14 = .ok (.getfield 72, 3) := by decide +kernel
theorem dX8_image_17 : decode cX8_image 17 = .ok (.iload_n 1, 1) := by decide +kernel
theorem dX8_image_18 : decode cX8_image 18 = .ok (.aload_n 0, 1) := by decide +kernel
theorem dX8_image_19 : decode cX8_image 19 = .ok (.getfield 13, 3) := by decide +kernel
theorem dX8_image_22 : decode cX8_image 22 = .ok (.iload_n 1, 1) := by decide +kernel
theorem dX8_image_23 : decode cX8_image 23 = .ok (.iaload, 1) := by decide +kernel
theorem dX8_image_24 : decode cX8_image 24 = .ok (.iastore, 1) := by decide +kernel
theorem dX8_image_25 : decode cX8_image 25 = .ok (.aload_n 0, 1) := by decide +kernel
theorem dX8_image_26 : decode cX8_image 26 = .ok (.getfield 75, 3) := by decide +kernel
theorem dX8_image_29 : decode cX8_image 29 = .ok (.iload_n 1, 1) := by decide +kernel
theorem dX8_image_30 : decode cX8_image 30 = .ok (.aload_n 0, 1) := by decide +kernel
theorem dX8_image_31 : decode cX8_image 31 = .ok (.getfield 17, 3) := by decide +kernel
theorem dX8_image_34 : decode cX8_image 34 = .ok (.iload_n 1, 1) := by decide +kernel
theorem dX8_image_35 : decode cX8_image 35 = .ok (.iaload, 1) := by decide +kernel
theorem dX8_image_36 : decode cX8_image 36 = .ok (.iastore, 1) := by decide +kernel
theorem dX8_image_37 : decode cX8_image 37 = .ok (.aload_n 0, 1) := by decide +kernel
theorem dX8_image_38 : decode cX8_image 38 = .ok (.getfield 78, 3) := by decide +kernel
theorem dX8_image_41 : decode cX8_image 41 = .ok (.iload_n 1, 1) := by decide +kernel
theorem dX8_image_42 : decode cX8_image 42 = .ok (.aload_n 0, 1) := by decide +kernel
theorem dX8_image_43 : decode cX8_image 43 = .ok (.getfield 20, 3) := by decide +kernel
theorem dX8_image_46 : decode cX8_image 46 = .ok (.iload_n 1, 1) := by decide +kernel
theorem dX8_image_47 : decode cX8_image 47 = .ok (.iaload, 1) := by decide +kernel
theorem dX8_image_48 : decode cX8_image 48 = .ok (.iastore, 1) := by decide +kernel
theorem dX8_image_49 : decode cX8_image 49 = .ok (.iinc 1 1, 3) := by decide +kernel
theorem dX8_image_52 : decode cX8_image 52 = .ok (.goto (-45), 3) := by decide +kernel
theorem dX8_image_55 : decode cX8_image 55 = .ok (.iconst 0, 1) := by decide +kernel
theorem dX8_image_56 : decode cX8_image 56 = .ok (.istore_n 1, 1) := by decide +kernel
theorem dX8_image_57 : decode cX8_image 57 = .ok (.iload_n 1, 1) := by decide +kernel
theorem dX8_image_58 : decode cX8_image 58 = .ok (.bipush 64, 2) := by decide +kernel
theorem dX8_image_60 : decode cX8_image 60 = .ok (.if_icmp .ge 33, 3) := by decide +kernel
theorem dX8_image_63 : decode cX8_image 63 = .ok (.aload_n 0, 1) := by decide +kernel
theorem dX8_image_64 : decode cX8_image 64 = .ok (.getfield 81, 3) := by decide +kernel
theorem dX8_image_67 : decode cX8_image 67 = .ok (.iload_n 1, 1) := by decide +kernel
theorem dX8_image_68 : decode cX8_image 68 = .ok (.aload_n 0, 1) := by decide +kernel
theorem dX8_image_69 : decode cX8_image 69 = .ok (.getfield 42, 3) := by decide +kernel
theorem dX8_image_72 : decode cX8_image 72 = .ok (.iload_n 1, 1) := by decide +kernel
theorem dX8_image_73 : decode cX8_image 73 = .ok (.iaload, 1) := by decide +kernel
theorem dX8_image_74 : decode cX8_image 74 = .ok (.iastore, 1) := by decide +kernel
theorem dX8_image_75 : decode cX8_image 75 = .ok (.aload_n 0, 1) := by decide +kernel
theorem dX8_image_76 : decode cX8_image 76 = .ok (.getfield 84, 3) := by decide +kernel
theorem dX8_image_79 : decode cX8_image 79 = .ok (.iload_n 1, 1) := by decide +kernel
theorem dX8_image_80 : decode cX8_image 80 = .ok (.aload_n 0, 1) := by decide +kernel
theorem dX8_image_81 : decode cX8_image 81 = .ok (.getfield 45, 3) := by decide +kernel
theorem dX8_image_84 : decode cX8_image 84 = .ok (.iload_n 1, 1) := by decide +kernel
theorem dX8_image_85 : decode cX8_image 85 = .ok (.iaload, 1) := by decide +kernel
theorem dX8_image_86 : decode cX8_image 86 = .ok (.iastore, 1) := by decide +kernel
theorem dX8_image_87 : decode cX8_image 87 = .ok (.iinc 1 1, 3) := by decide +kernel
theorem dX8_image_90 : decode cX8_image 90 = .ok (.goto (-33), 3) := by decide +kernel
theorem dX8_image_93 : decode cX8_image 93 = .ok (.iconst 0, 1) := by decide +kernel
theorem dX8_image_94 : decode cX8_image 94 = .ok (.istore_n 1, 1) := by decide +kernel
theorem dX8_image_95 : decode cX8_image 95 = .ok (.iload_n 1, 1) := by decide +kernel
theorem dX8_image_96 : decode cX8_image 96 = .ok (.iconst 4, 1) := by decide +kernel
theorem dX8_image_97 : decode cX8_image 97 = .ok (.if_icmp .ge 21, 3) := by decide +kernel
theorem dX8_image_100 : decode cX8_image 100 = .ok (.aload_n 0, 1) := by decide +kernel
theorem dX8_image_101 : decode cX8_image 101 = .ok (.getfield 87, 3) := by decide +kernel
theorem dX8_image_104 : decode cX8_image 104 = .ok (.iload_n 1, 1) := by decide +kernel
theorem dX8_image_105 : decode cX8_image 105 = .ok (.aload_n 0, 1) := by decide +kernel
theorem dX8_image_106 : decode cX8_image 106 = .ok (.getfield 48, 3) := by decide +kernel
theorem dX8_image_109 : decode cX8_image 109 = .ok (.iload_n 1, 1) := by decide +kernel
theorem dX8_image_110 : decode cX8_image 110 = .ok (.iaload, 1) := by decide +kernel
theorem dX8_image_111 : decode cX8_image 111 = .ok (.iastore, 1) := by decide +kernel
theorem dX8_image_112 : decode cX8_image 112 = .ok (.iinc 1 1, 3) := by decide +kernel
theorem dX8_image_115 : decode cX8_image 115 = .ok (.goto (-20), 3) := by decide +kernel
theorem dX8_image_118 : decode cX8_image 118 = .ok (.iconst 0, 1) := by decide +kernel
theorem dX8_image_119 : decode cX8_image 119 = .ok (.istore_n 1, 1) := by decide +kernel
theorem dX8_image_120 : decode cX8_image 120 = .ok (.iload_n 1, 1) := by decide +kernel
theorem dX8_image_121 : decode cX8_image 121 = .ok (.bipush 20, 2) := by decide +kernel
theorem dX8_image_123 : decode cX8_image 123 = .ok (.if_icmp .ge 71, 3) := by decide +kernel
theorem dX8_image_126 : decode cX8_image 126 = .ok (.aload_n 0, 1) := by decide +kernel
theorem dX8_image_127 : decode cX8_image 127 = .ok (.getfield 90, 3) := by decide +kernel
theorem dX8_image_130 : decode cX8_image 130 = .ok (.iconst 4, 1) := by decide +kernel
theorem dX8_image_131 : decode cX8_image 131 = .ok (.iload_n 1, 1) := by decide +kernel
theorem dX8_image_132 : decode cX8_image 132 = .ok (.imul, 1) := by decide +kernel
theorem dX8_image_133 : decode cX8_image 133 = .ok (.aload_n 0, 1) := by decide +kernel
theorem dX8_image_134 : decode cX8_image 134 = .ok (.getfield 57, 3) := by decide +kernel
theorem dX8_image_137 : decode cX8_image 137 = .ok (.iload_n 1, 1) := by decide +kernel
theorem dX8_image_138 : decode cX8_image 138 = .ok (.iaload, 1) := by decide +kernel
theorem dX8_image_139 : decode cX8_image 139 = .ok (.iastore, 1) := by decide +kernel
theorem dX8_image_140 : decode cX8_image 140 = .ok (.aload_n 0, 1) := by decide +kernel
theorem dX8_image_141 : decode cX8_image 141 = .ok (.getfield 90, 3) := by decide +kernel
theorem dX8_image_144 : decode cX8_image 144 = .ok (.iconst 4, 1) := by decide +kernel
theorem dX8_image_145 : decode cX8_image 145 = .ok (.iload_n 1, 1) := by decide +kernel
theorem dX8_image_146 : decode cX8_image 146 = .ok (.imul, 1) := by decide +kernel
theorem dX8_image_147 : decode cX8_image 147 = .ok (.iconst 1, 1) := by decide +kernel
theorem dX8_image_148 : decode cX8_image 148 = .ok (.iadd, 1) := by decide +kernel
theorem dX8_image_149 : decode cX8_image 149 = .ok (.aload_n 0, 1) := by decide +kernel
theorem dX8_image_150 : decode cX8_image 150 = .ok (.getfield 60, 3) := by decide +kernel
theorem dX8_image_153 : decode cX8_image 153 = .ok (.iload_n 1, 1) := by decide +kernel
theorem dX8_image_154 : decode cX8_image 154 = .ok (.iaload, 1) := by decide +kernel
theorem dX8_image_155 : decode cX8_image 155 = .ok (.iastore, 1) := by decide +kernel
theorem dX8_image_156 : decode cX8_image 156 = .ok (.aload_n 0, 1) := by decide +kernel
theorem dX8_image_157 : decode cX8_image 157 = .ok (.getfield 90, 3) := by decide +kernel
theorem dX8_image_160 : decode cX8_image 160 = .ok (.iconst 4, 1) := by decide +kernel
theorem dX8_image_161 : decode cX8_image 161 = .ok (.iload_n 1, 1) := by decide +kernel
theorem dX8_image_162 : decode cX8_image 162 = .ok (.imul, 1) := by decide +kernel
theorem dX8_image_163 : decode cX8_image 163 = .ok (.iconst 2, 1) := by decide +kernel
theorem dX8_image_164 : decode cX8_image 164 = .ok (.iadd, 1) := by decide +kernel
theorem dX8_image_165 : decode cX8_image 165 = .ok (.aload_n 0, 1) := by decide +kernel
theorem dX8_image_166 : decode cX8_image 166 = .ok (.getfield 63, 3) := by decide +kernel
theorem dX8_image_169 : decode cX8_image 169 = .ok (.iload_n 1, 1) := by decide +kernel
theorem dX8_image_170 : decode cX8_image 170 = .ok (.iaload, 1) := by decide +kernel
theorem dX8_image_171 : decode cX8_image 171 = .ok (.iastore, 1) := by decide +kernel
theorem dX8_image_172 : decode cX8_image 172 = .ok (.aload_n 0, 1) := by decide +kernel
theorem dX8_image_173 : decode cX8_image 173 = .ok (.getfield 90, 3) := by decide +kernel
theorem dX8_image_176 : decode cX8_image 176 = .ok (.iconst 4, 1) := by decide +kernel
theorem dX8_image_177 : decode cX8_image 177 = .ok (.iload_n 1, 1) := by decide +kernel
theorem dX8_image_178 : decode cX8_image 178 = .ok (.imul, 1) := by decide +kernel
theorem dX8_image_179 : decode cX8_image 179 = .ok (.iconst 3, 1) := by decide +kernel
theorem dX8_image_180 : decode cX8_image 180 = .ok (.iadd, 1) := by decide +kernel
theorem dX8_image_181 : decode cX8_image 181 = .ok (.aload_n 0, 1) := by decide +kernel
theorem dX8_image_182 : decode cX8_image 182 = .ok (.getfield 66, 3) := by decide +kernel
theorem dX8_image_185 : decode cX8_image 185 = .ok (.iload_n 1, 1) := by decide +kernel
theorem dX8_image_186 : decode cX8_image 186 = .ok (.iaload, 1) := by decide +kernel
theorem dX8_image_187 : decode cX8_image 187 = .ok (.iastore, 1) := by decide +kernel
theorem dX8_image_188 : decode cX8_image 188 = .ok (.iinc 1 1, 3) := by decide +kernel
theorem dX8_image_191 : decode cX8_image 191 = .ok (.goto (-71), 3) := by decide +kernel
theorem dX8_image_194 : decode cX8_image 194 = .ok (.aload_n 0, 1) := by decide +kernel
theorem dX8_image_195 : decode cX8_image 195 = .ok (.aload_n 0, 1) := by decide +kernel
theorem dX8_image_196 : decode cX8_image 196 = .ok (.getfield 108, 3) := by decide +kernel
theorem dX8_image_199 : decode cX8_image 199 = .ok (.putfield 93, 3) := by decide +kernel
theorem dX8_image_202 : decode cX8_image 202 = .ok (.aload_n 0, 1) := by decide +kernel
theorem dX8_image_203 : decode cX8_image 203 = .ok (.aload_n 0, 1) := by decide +kernel
theorem dX8_image_204 : decode cX8_image 204 = .ok (.getfield 281, 3) := by decide +kernel
theorem dX8_image_207 : decode cX8_image 207 = .ok (.putfield 313, 3) := by decide +kernel
theorem dX8_image_210 : decode cX8_image 210 = .ok (.aload_n 0, 1) := by decide +kernel
theorem dX8_image_211 : decode cX8_image 211 = .ok (.getfield 108, 3) := by decide +kernel
theorem dX8_image_214 : decode cX8_image 214 = .ok (.ireturn, 1) := by decide +kernel
theorem dX8_restore_0 : decode cX8_restore 0 = .ok (.aload_n 0, 1) := by decide +kernel
theorem dX8_restore_1 : decode cX8_restore 1 = .ok (.iconst 0, 1) := by decide +kernel
theorem dX8_restore_2 : decode cX8_restore 2 = .ok (.putfield 1, 3) := by decide +kernel
theorem dX8_restore_5 : decode cX8_restore 5 = .ok (.aload_n 0, 1) := by decide +kernel
theorem dX8_restore_6 : decode cX8_restore 6 = .ok (.aload_n 0, 1) := by decide +kernel
theorem dX8_restore_7 : decode cX8_restore 7 = .ok (.getfield 93, 3) := by decide +kernel
theorem dX8_restore_10 : decode cX8_restore 10 = .ok (.iconst (-1), 1) := by decide +kernel
theorem dX8_restore_11 : decode cX8_restore 11 = .ok (.if_icmp .eq 7, 3) := by decide +kernel
theorem dX8_restore_14 : decode cX8_restore 14 = .ok (.iconst 1, 1) := by decide +kernel
theorem dX8_restore_15 : decode cX8_restore 15 = .ok (.goto 4, 3) := by decide +kernel
theorem dX8_restore_18 : decode cX8_restore 18 = .ok (.iconst 0, 1) := by decide +kernel
theorem dX8_restore_19 : decode cX8_restore 19 = .ok (.iconst 1, 1) := by decide +kernel
theorem dX8_restore_20 : decode cX8_restore 20 = .ok (.invokevirtual 104, 3) := by decide +kernel
theorem dX8_restore_23 : decode cX8_restore 23 = .ok (.ifCond .eq 5, 3) := by decide +kernel
theorem dX8_restore_26 : decode cX8_restore 26 = .ok (.iconst 0, 1) := by decide +kernel
theorem dX8_restore_27 : decode cX8_restore 27 = .ok (.ireturn, 1) := by decide +kernel
theorem dX8_restore_28 : decode cX8_restore 28 = .ok (.iconst 0, 1) := by decide +kernel
theorem dX8_restore_29 : decode cX8_restore 29 = .ok (.istore_n 1, 1) := by decide +kernel
theorem dX8_restore_30 : decode cX8_restore 30 = .ok (.iload_n 1, 1) := by decide +kernel
theorem dX8_restore_31 : decode cX8_restore 31 = .ok (.bipush 60, 2) := by decide +kernel
theorem dX8_restore_33 : decode cX8_restore 33 = .ok (.if_icmp .ge 45, 3) := by decide +kernel
theorem dX8_restore_36 : decode cX8_restore 36 = .ok (.aload_n 0, 1) := by decide +kernel
theorem dX8_restore_37 : decode cX8_restore 37 = .ok (.getfield 13, 3) := by decide +kernel
theorem dX8_restore_40 : decode cX8_restore 40 = .ok (.iload_n 1, 1) := by decide +kernel
theorem dX8_restore_41 : decode cX8_restore 41 = .ok (.aload_n 0, 1) := by decide +kernel
theorem dX8_restore_42 : decode cX8_restore 42 = .ok (.getfield 72, 3) := by decide +kernel
theorem dX8_restore_45 : decode cX8_restore 45 = .ok (.iload_n 1, 1) := by decide +kernel
theorem dX8_restore_46 : decode cX8_restore 46 = .ok (.iaload, 1) := by decide +kernel
theorem dX8_restore_47 : decode cX8_restore 47 = .ok (.iastore, 1) := by decide +kernel
theorem dX8_restore_48 : decode cX8_restore 48 = .ok (.aload_n 0, 1) := by decide +kernel
theorem dX8_restore_49 : decode cX8_restore 49 = .ok (.getfield 17, 3) := by decide +kernel
theorem dX8_restore_52 : decode cX8_restore 52 = .ok (.iload_n 1, 1) := by decide +kernel
theorem dX8_restore_53 : decode cX8_restore 53 = .ok (.aload_n 0, 1) := by decide +kernel
theorem dX8_restore_54 : decode cX8_restore 54 = .ok (.getfield 75, 3) := by decide +kernel
theorem dX8_restore_57 : decode cX8_restore 57 = .ok (.iload_n 1, 1) := by decide +kernel
theorem dX8_restore_58 : decode cX8_restore 58 = .ok (.iaload, 1) := by decide +kernel
theorem dX8_restore_59 : decode cX8_restore 59 = .ok (.iastore, 1) := by decide +kernel
theorem dX8_restore_60 : decode cX8_restore 60 = .ok (.aload_n 0, 1) := by decide +kernel
theorem dX8_restore_61 : decode cX8_restore 61 = .ok (.getfield 20, 3) := by decide +kernel
theorem dX8_restore_64 : decode cX8_restore 64 = .ok (.iload_n 1, 1) := by decide +kernel
theorem dX8_restore_65 : decode cX8_restore 65 = .ok (.aload_n 0, 1) := by decide +kernel
theorem dX8_restore_66 : decode cX8_restore 66 = .ok (.getfield 78, 3) := by decide +kernel
theorem dX8_restore_69 : decode cX8_restore 69 = .ok (.iload_n 1, 1) := by decide +kernel
theorem dX8_restore_70 : decode cX8_restore 70 = .ok (.iaload, 1) := by decide +kernel
theorem dX8_restore_71 : decode cX8_restore 71 = .ok (.iastore, 1) := by decide +kernel
theorem dX8_restore_72 : decode cX8_restore 72 = .ok (.iinc 1 1, 3) := by decide +kernel
theorem dX8_restore_75 : decode cX8_restore 75 = .ok (.goto (-45), 3) := by decide +kernel
theorem dX8_restore_78 : decode cX8_restore 78 = .ok (.iconst 0, 1) := by decide +kernel
theorem dX8_restore_79 : decode cX8_restore 79 = .ok (.istore_n 1, 1) := by decide +kernel
theorem dX8_restore_80 : decode cX8_restore 80 = .ok (.iload_n 1, 1) := by decide +kernel
theorem dX8_restore_81 : decode cX8_restore 81 = .ok (.bipush 64, 2) := by decide +kernel
theorem dX8_restore_83 : decode cX8_restore 83 = .ok (.if_icmp .ge 33, 3) := by decide +kernel
theorem dX8_restore_86 : decode cX8_restore 86 = .ok (.aload_n 0, 1) := by decide +kernel
theorem dX8_restore_87 : decode cX8_restore 87 = .ok (.getfield 42, 3) := by decide +kernel
theorem dX8_restore_90 : decode cX8_restore 90 = .ok (.iload_n 1, 1) := by decide +kernel
theorem dX8_restore_91 : decode cX8_restore 91 = .ok (.aload_n 0, 1) := by decide +kernel
theorem dX8_restore_92 : decode cX8_restore 92 = .ok (.getfield 81, 3) := by decide +kernel
theorem dX8_restore_95 : decode cX8_restore 95 = .ok (.iload_n 1, 1) := by decide +kernel
theorem dX8_restore_96 : decode cX8_restore 96 = .ok (.iaload, 1) := by decide +kernel
theorem dX8_restore_97 : decode cX8_restore 97 = .ok (.iastore, 1) := by decide +kernel
theorem dX8_restore_98 : decode cX8_restore 98 = .ok (.aload_n 0, 1) := by decide +kernel
theorem dX8_restore_99 : decode cX8_restore 99 = .ok (.getfield 45, 3) := by decide +kernel
theorem dX8_restore_102 : decode cX8_restore 102 = .ok (.iload_n 1, 1) := by decide +kernel
theorem dX8_restore_103 : decode cX8_restore 103 = .ok (.aload_n 0, 1) := by decide +kernel
theorem dX8_restore_104 : decode cX8_restore 104 = .ok (.getfield 84, 3) := by decide +kernel
theorem dX8_restore_107 : decode cX8_restore 107 = .ok (.iload_n 1, 1) := by decide +kernel
theorem dX8_restore_108 : decode cX8_restore 108 = .ok (.iaload, 1) := by decide +kernel
theorem dX8_restore_109 : decode cX8_restore 109 = .ok (.iastore, 1) := by decide +kernel
theorem dX8_restore_110 : decode cX8_restore 110 = .ok (.iinc 1 1, 3) := by decide +kernel
theorem dX8_restore_113 : decode cX8_restore 113 = .ok (.goto (-33), 3) := by decide +kernel
theorem dX8_restore_116 : decode cX8_restore 116 = .ok (.iconst 0, 1) := by decide +kernel
theorem dX8_restore_117 : decode cX8_restore 117 = .ok (.istore_n 1, 1) := by decide +kernel
theorem dX8_restore_118 : decode cX8_restore 118 = .ok (.iload_n 1, 1) := by decide +kernel
theorem dX8_restore_119 : decode cX8_restore 119 = .ok (.iconst 4, 1) := by decide +kernel
theorem dX8_restore_120 : decode cX8_restore 120 = .ok (.if_icmp .ge 21, 3) := by decide +kernel
theorem dX8_restore_123 : decode cX8_restore 123 = .ok (.aload_n 0, 1) := by decide +kernel
theorem dX8_restore_124 : decode cX8_restore 124 = .ok (.getfield 48, 3) := by decide +kernel
theorem dX8_restore_127 : decode cX8_restore 127 = .ok (.iload_n 1, 1) := by decide +kernel
theorem dX8_restore_128 : decode cX8_restore 128 = .ok (.aload_n 0, 1) := by decide +kernel
theorem dX8_restore_129 : decode cX8_restore 129 = .ok (.getfield 87, 3) := by decide +kernel
theorem dX8_restore_132 : decode cX8_restore 132 = .ok (.iload_n 1, 1) := by decide +kernel
theorem dX8_restore_133 : decode cX8_restore 133 = .ok (.iaload, 1) := by decide +kernel
theorem dX8_restore_134 : decode cX8_restore 134 = .ok (.iastore, 1) := by decide +kernel
theorem dX8_restore_135 : decode cX8_restore 135 = .ok (.iinc 1 1, 3) := by decide +kernel
theorem dX8_restore_138 : decode cX8_restore 138 = .ok (.goto (-20), 3) := by decide +kernel
theorem dX8_restore_141 : decode cX8_restore 141 = .ok (.iconst 0, 1) := by decide +kernel
theorem dX8_restore_142 : decode cX8_restore 142 = .ok (.istore_n 1, 1) := by decide +kernel
theorem dX8_restore_143 : decode cX8_restore 143 = .ok (.iload_n 1, 1) := by decide +kernel
theorem dX8_restore_144 : decode cX8_restore 144 = .ok (.bipush 20, 2) := by decide +kernel
theorem dX8_restore_146 : decode cX8_restore 146 = .ok (.if_icmp .ge 71, 3) := by decide +kernel
theorem dX8_restore_149 : decode cX8_restore 149 = .ok (.aload_n 0, 1) := by decide +kernel
theorem dX8_restore_150 : decode cX8_restore 150 = .ok (.getfield 57, 3) := by decide +kernel
theorem dX8_restore_153 : decode cX8_restore 153 = .ok (.iload_n 1, 1) := by decide +kernel
theorem dX8_restore_154 : decode cX8_restore 154 = .ok (.aload_n 0, 1) := by decide +kernel
theorem dX8_restore_155 : decode cX8_restore 155 = .ok (.getfield 90, 3) := by decide +kernel
theorem dX8_restore_158 : decode cX8_restore 158 = .ok (.iconst 4, 1) := by decide +kernel
theorem dX8_restore_159 : decode cX8_restore 159 = .ok (.iload_n 1, 1) := by decide +kernel
theorem dX8_restore_160 : decode cX8_restore 160 = .ok (.imul, 1) := by decide +kernel
theorem dX8_restore_161 : decode cX8_restore 161 = .ok (.iaload, 1) := by decide +kernel
theorem dX8_restore_162 : decode cX8_restore 162 = .ok (.iastore, 1) := by decide +kernel
theorem dX8_restore_163 : decode cX8_restore 163 = .ok (.aload_n 0, 1) := by decide +kernel
theorem dX8_restore_164 : decode cX8_restore 164 = .ok (.getfield 60, 3) := by decide +kernel
theorem dX8_restore_167 : decode cX8_restore 167 = .ok (.iload_n 1, 1) := by decide +kernel
theorem dX8_restore_168 : decode cX8_restore 168 = .ok (.aload_n 0, 1) := by decide +kernel
theorem dX8_restore_169 : decode cX8_restore 169 = .ok (.getfield 90, 3) := by decide +kernel
theorem dX8_restore_172 : decode cX8_restore 172 = .ok (.iconst 4, 1) := by decide +kernel
theorem dX8_restore_173 : decode cX8_restore 173 = .ok (.iload_n 1, 1) := by decide +kernel
theorem dX8_restore_174 : decode cX8_restore 174 = .ok (.imul, 1) := by decide +kernel
theorem dX8_restore_175 : decode cX8_restore 175 = .ok (.iconst 1, 1) := by decide +kernel
theorem dX8_restore_176 : decode cX8_restore 176 = .ok (.iadd, 1) := by decide +kernel
theorem dX8_restore_177 : decode cX8_restore 177 = .ok (.iaload, 1) := by decide +kernel
theorem dX8_restore_178 : decode cX8_restore 178 = .ok (.iastore, 1) := by decide +kernel
theorem dX8_restore_179 : decode cX8_restore 179 = .ok (.aload_n 0, 1) := by decide +kernel
theorem dX8_restore_180 : decode cX8_restore 180 = .ok (.getfield 63, 3) := by decide +kernel
theorem dX8_restore_183 : decode cX8_restore 183 = .ok (.iload_n 1, 1) := by decide +kernel
theorem dX8_restore_184 : decode cX8_restore 184 = .ok (.aload_n 0, 1) := by decide +kernel
theorem dX8_restore_185 : decode cX8_restore 185 = .ok (.getfield 90, 3) := by decide +kernel
theorem dX8_restore_188 : decode cX8_restore 188 = .ok (.iconst 4, 1) := by decide +kernel
theorem dX8_restore_189 : decode cX8_restore 189 = .ok (.iload_n 1, 1) := by decide +kernel
theorem dX8_restore_190 : decode cX8_restore 190 = .ok (.imul, 1) := by decide +kernel
theorem dX8_restore_191 : decode cX8_restore 191 = .ok (.iconst 2, 1) := by decide +kernel
theorem dX8_restore_192 : decode cX8_restore 192 = .ok (.iadd, 1) := by decide +kernel
theorem dX8_restore_193 : decode cX8_restore 193 = .ok (.iaload, 1) := by decide +kernel
theorem dX8_restore_194 : decode cX8_restore 194 = .ok (.iastore, 1) := by decide +kernel
theorem dX8_restore_195 : decode cX8_restore 195 = .ok (.aload_n 0, 1) := by decide +kernel
theorem dX8_restore_196 : decode cX8_restore 196 = .ok (.getfield 66, 3) := by decide +kernel
theorem dX8_restore_199 : decode cX8_restore 199 = .ok (.iload_n 1, 1) := by decide +kernel
theorem dX8_restore_200 : decode cX8_restore 200 = .ok (.aload_n 0, 1) := by decide +kernel
theorem dX8_restore_201 : decode cX8_restore 201 = .ok (.getfield 90, 3) := by decide +kernel
theorem dX8_restore_204 : decode cX8_restore 204 = .ok (.iconst 4, 1) := by decide +kernel
theorem dX8_restore_205 : decode cX8_restore 205 = .ok (.iload_n 1, 1) := by decide +kernel
theorem dX8_restore_206 : decode cX8_restore 206 = .ok (.imul, 1) := by decide +kernel
theorem dX8_restore_207 : decode cX8_restore 207 = .ok (.iconst 3, 1) := by decide +kernel
theorem dX8_restore_208 : decode cX8_restore 208 = .ok (.iadd, 1) := by decide +kernel
theorem dX8_restore_209 : decode cX8_restore 209 = .ok (.iaload, 1) := by decide +kernel
theorem dX8_restore_210 : decode cX8_restore 210 = .ok (.iastore, 1) := by decide +kernel
theorem dX8_restore_211 : decode cX8_restore 211 = .ok (.iinc 1 1, 3) := by decide +kernel
theorem dX8_restore_214 : decode cX8_restore 214 = .ok (.goto (-71), 3) := by decide +kernel
theorem dX8_restore_217 : decode cX8_restore 217 = .ok (.aload_n 0, 1) := by decide +kernel
theorem dX8_restore_218 : decode cX8_restore 218 = .ok (.aload_n 0, 1) := by decide +kernel
theorem dX8_restore_219 : decode cX8_restore 219 = .ok (.getfield 93, 3) := by decide +kernel
theorem dX8_restore_222 : decode cX8_restore 222 = .ok (.putfield 108, 3) := by decide +kernel
theorem dX8_restore_225 : decode cX8_restore 225 = .ok (.aload_n 0, 1) := by decide +kernel
theorem dX8_restore_226 : decode cX8_restore 226 = .ok (.aload_n 0, 1) := by decide +kernel
theorem dX8_restore_227 : decode cX8_restore 227 = .ok (.getfield 313, 3) := by decide +kernel
theorem dX8_restore_230 : decode cX8_restore 230 = .ok (.putfield 281, 3) := by decide +kernel
theorem dX8_restore_233 : decode cX8_restore 233 = .ok (.aload_n 0, 1) := by decide +kernel
theorem dX8_restore_234 : decode cX8_restore 234 = .ok (.getfield 108, 3) := by decide +kernel
theorem dX8_restore_237 : decode cX8_restore 237 = .ok (.ireturn, 1) := by decide +kernel
theorem dX8_checksum_0 : decode cX8_checksum 0 = .ok (.aload_n 0, 1) := by decide +kernel
theorem dX8_checksum_1 : decode cX8_checksum 1 = .ok (.iconst 0, 1) := by decide +kernel
theorem dX8_checksum_2 : decode cX8_checksum 2 = .ok (.putfield 1, 3) := by decide +kernel
theorem dX8_checksum_5 : decode cX8_checksum 5 = .ok (.bipush 17, 2) := by decide +kernel
theorem dX8_checksum_7 : decode cX8_checksum 7 = .ok (.istore_n 1, 1) := by decide +kernel
theorem dX8_checksum_8 : decode cX8_checksum 8 = .ok (.iconst 0, 1) := by decide +kernel
theorem dX8_checksum_9 : decode cX8_checksum 9 = .ok (.istore_n 2, 1) := by decide +kernel
theorem dX8_checksum_10 : decode cX8_checksum 10 = .ok (.iload_n 2, 1) := by decide +kernel
theorem dX8_checksum_11 : decode cX8_checksum 11 = .ok (.aload_n 0, 1) := by decide +kernel
theorem dX8_checksum_12 : decode cX8_checksum 12 = .ok (.getfield 35, 3) := by decide +kernel
theorem dX8_checksum_15 : decode cX8_checksum 15 = .ok (.iconst 0, 1) := by decide +kernel
theorem dX8_checksum_16 : decode cX8_checksum 16 = .ok (.iaload, 1) := by decide +kernel
theorem dX8_checksum_17 : decode cX8_checksum 17 = .ok (.if_icmp .ge 31, 3) := by decide +kernel
theorem dX8_checksum_20 : decode cX8_checksum 20 = .ok (.bipush 31, 2) := by decide +kernel
theorem dX8_checksum_22 : decode cX8_checksum 22 = .ok (.bipush 31, 2) := by decide +kernel
theorem dX8_checksum_24 : decode cX8_checksum 24 = .ok (.iload_n 1, 1) := by decide +kernel
theorem dX8_checksum_25 : decode cX8_checksum 25 = .ok (.imul, 1) := by decide +kernel
theorem dX8_checksum_26 : decode cX8_checksum 26 = .ok (.aload_n 0, 1) := by decide +kernel
theorem dX8_checksum_27 : decode cX8_checksum 27 = .ok (.getfield 29, 3) := by decide +kernel
theorem dX8_checksum_30 : decode cX8_checksum 30 = .ok (.iload_n 2, 1) := by decide +kernel
theorem dX8_checksum_31 : decode cX8_checksum 31 = .ok (.iaload, 1) := by decide +kernel
theorem dX8_checksum_32 : decode cX8_checksum 32 = .ok (.iadd, 1) := by decide +kernel
theorem dX8_checksum_33 : decode cX8_checksum 33 = .ok (.imul, 1) := by decide +kernel
theorem dX8_checksum_34 : decode cX8_checksum 34 = .ok (.aload_n 0, 1) := by decide +kernel
theorem dX8_checksum_35 : decode cX8_checksum 35 = .ok (.getfield 32, 3) := by decide +kernel
theorem dX8_checksum_38 : decode cX8_checksum 38 = .ok (.iload_n 2, 1) := by decide +kernel
theorem dX8_checksum_39 : decode cX8_checksum 39 = .ok (.iaload, 1) := by decide +kernel
theorem dX8_checksum_40 : decode cX8_checksum 40 = .ok (.iadd, 1) := by decide +kernel
theorem dX8_checksum_41 : decode cX8_checksum 41 = .ok (.istore_n 1, 1) := by decide +kernel
theorem dX8_checksum_42 : decode cX8_checksum 42 = .ok (.iinc 2 1, 3) := by decide +kernel
theorem dX8_checksum_45 : decode cX8_checksum 45 = .ok (.goto (-35), 3) := by decide +kernel
theorem dX8_checksum_48 : decode cX8_checksum 48 = .ok (.iload_n 1, 1) := by decide +kernel
theorem dX8_checksum_49 : decode cX8_checksum 49 = .ok (.ireturn, 1) := by decide +kernel
theorem dX8_meanFar_0 : decode cX8_meanFar 0 = .ok (.aload_n 0, 1) := by decide +kernel
theorem dX8_meanFar_1 : decode cX8_meanFar 1 = .ok (.iconst 0, 1) := by decide +kernel
theorem dX8_meanFar_2 : decode cX8_meanFar 2 = .ok (.putfield 1, 3) := by decide +kernel
theorem dX8_meanFar_5 : decode cX8_meanFar 5 = .ok (.aload_n 0, 1) := by decide +kernel
theorem dX8_meanFar_6 : decode cX8_meanFar 6 = .ok (.iload_n 1, 1) := by decide +kernel
theorem dX8_meanFar_7 : decode cX8_meanFar 7 = .ok (.invokevirtual 111, 3) := by decide +kernel
theorem dX8_meanFar_10 : decode cX8_meanFar 10 = .ok (.ifCond .ne 11, 3) := by decide +kernel
theorem dX8_meanFar_13 : decode cX8_meanFar 13 = .ok (.aload_n 0, 1) := by decide +kernel
theorem dX8_meanFar_14 : decode cX8_meanFar 14 = .ok (.iload_n 1, 1) := by decide +kernel
theorem dX8_meanFar_15 : decode cX8_meanFar 15 = .ok (.invokevirtual 122, 3) := by decide +kernel
theorem dX8_meanFar_18 : decode cX8_meanFar 18 = .ok (.ifCond .ne 5, 3) := by decide +kernel
theorem dX8_meanFar_21 : decode cX8_meanFar 21 = .ok (.dconst 0, 1) := by decide +kernel
theorem dX8_meanFar_22 : decode cX8_meanFar 22 = .ok (.dreturn, 1) := by decide +kernel
theorem dX8_meanFar_23 : decode cX8_meanFar 23 = .ok (.aload_n 0, 1) := by decide +kernel
theorem dX8_meanFar_24 : decode cX8_meanFar 24 = .ok (.iload_n 1, 1) := by decide +kernel
theorem dX8_meanFar_25 : decode cX8_meanFar 25 = .ok (.iconst 0, 1) := by decide +kernel
theorem dX8_meanFar_26 : decode cX8_meanFar 26 = .ok (.invokevirtual 128, 3) := by decide +kernel
theorem dX8_meanFar_29 : decode cX8_meanFar 29 = .ok (.istore_n 2, 1) := by decide +kernel
theorem dX8_meanFar_30 : decode cX8_meanFar 30 = .ok (.iconst 0, 1) := by decide +kernel
theorem dX8_meanFar_31 : decode cX8_meanFar 31 = .ok (.istore_n 3, 1) := by decide +kernel
theorem dX8_meanFar_32 : decode cX8_meanFar 32 = .ok (.iconst 0, 1) := by decide +kernel
theorem dX8_meanFar_33 : decode cX8_meanFar 33 = .ok (.istore 4, 2) := by decide +kernel
theorem dX8_meanFar_35 : decode cX8_meanFar 35 = .ok (.iload 4, 2) := by decide +kernel
theorem dX8_meanFar_37 : decode cX8_meanFar 37 = .ok (.aload_n 0, 1) := by decide +kernel
theorem dX8_meanFar_38 : decode cX8_meanFar 38 = .ok (.getfield 108, 3) := by decide +kernel
theorem dX8_meanFar_41 : decode cX8_meanFar 41 = .ok (.if_icmp .ge 62, 3) := by decide +kernel
theorem dX8_meanFar_44 : decode cX8_meanFar 44 = .ok (.iload_n 3, 1) := by decide +kernel
theorem dX8_meanFar_45 : decode cX8_meanFar 45 = .ok (.aload_n 0, 1) := by decide +kernel
theorem dX8_meanFar_46 : decode cX8_meanFar 46 = .ok (.getfield 13, 3) := by decide +kernel
theorem dX8_meanFar_49 : decode cX8_meanFar 49 = .ok (.iload 4, 2) := by decide +kernel
theorem dX8_meanFar_51 : decode cX8_meanFar 51 = .ok (.iaload, 1) := by decide +kernel
theorem dX8_meanFar_52 : decode cX8_meanFar 52 = .ok (.iload_n 1, 1) := by decide +kernel
theorem dX8_meanFar_53 : decode cX8_meanFar 53 = .ok (.if_icmp .ne 41, 3) := by decide +kernel
theorem dX8_meanFar_56 : decode cX8_meanFar 56 = .ok (.aload_n 0, 1) := by decide +kernel
theorem dX8_meanFar_57 : decode cX8_meanFar 57 = .ok (.getfield 17, 3) := by decide +kernel
theorem dX8_meanFar_60 : decode cX8_meanFar 60 = .ok (.iload 4, 2) := by decide +kernel
theorem dX8_meanFar_62 : decode cX8_meanFar 62 = .ok (.iaload, 1) := by decide +kernel
theorem dX8_meanFar_63 : decode cX8_meanFar 63 = .ok (.aload_n 0, 1) := by decide +kernel
theorem dX8_meanFar_64 : decode cX8_meanFar 64 = .ok (.getfield 17, 3) := by decide +kernel
theorem dX8_meanFar_67 : decode cX8_meanFar 67 = .ok (.iload_n 2, 1) := by decide +kernel
theorem dX8_meanFar_68 : decode cX8_meanFar 68 = .ok (.iaload, 1) := by decide +kernel
theorem dX8_meanFar_69 : decode cX8_meanFar 69 = .ok (.isub, 1) := by decide +kernel
theorem dX8_meanFar_70 : decode cX8_meanFar 70 = .ok (.invokestatic 100, 3) := by decide +kernel
theorem dX8_meanFar_73 : decode cX8_meanFar 73 = .ok (.aload_n 0, 1) := by decide +kernel
theorem dX8_meanFar_74 : decode cX8_meanFar 74 = .ok (.getfield 20, 3) := by decide +kernel
theorem dX8_meanFar_77 : decode cX8_meanFar 77 = .ok (.iload 4, 2) := by decide +kernel
theorem dX8_meanFar_79 : decode cX8_meanFar 79 = .ok (.iaload, 1) := by decide +kernel
theorem dX8_meanFar_80 : decode cX8_meanFar 80 = .ok (.aload_n 0, 1) := by decide +kernel
theorem dX8_meanFar_81 : decode cX8_meanFar 81 = .ok (.getfield 20, 3) := by decide +kernel
theorem dX8_meanFar_84 : decode cX8_meanFar 84 = .ok (.iload_n 2, 1) := by decide +kernel
theorem dX8_meanFar_85 : decode cX8_meanFar 85 = .ok (.iaload, 1) := by decide +kernel
theorem dX8_meanFar_86 : decode cX8_meanFar 86 = .ok (.isub, 1) := by decide +kernel
theorem dX8_meanFar_87 : decode cX8_meanFar 87 = .ok (.invokestatic 100, 3) := by decide +kernel
theorem dX8_meanFar_90 : decode cX8_meanFar 90 = .ok (.iadd, 1) := by decide +kernel
theorem dX8_meanFar_91 : decode cX8_meanFar 91 = .ok (.goto 4, 3) := by decide +kernel
theorem dX8_meanFar_94 : decode cX8_meanFar 94 = .ok (.iconst 0, 1) := by decide +kernel
theorem dX8_meanFar_95 : decode cX8_meanFar 95 = .ok (.iadd, 1) := by decide +kernel
theorem dX8_meanFar_96 : decode cX8_meanFar 96 = .ok (.istore_n 3, 1) := by decide +kernel
theorem dX8_meanFar_97 : decode cX8_meanFar 97 = .ok (.iinc 4 1, 3) := by decide +kernel
theorem dX8_meanFar_100 : decode cX8_meanFar 100 = .ok (.goto (-65), 3) := by decide +kernel
theorem dX8_meanFar_103 : decode cX8_meanFar 103 = .ok (.iload_n 3, 1) := by decide +kernel
theorem dX8_meanFar_104 : decode cX8_meanFar 104 = .ok (.i2d, 1) := by decide +kernel
theorem dX8_meanFar_105 : decode cX8_meanFar 105 = .ok (.aload_n 0, 1) := by decide +kernel
theorem dX8_meanFar_106 : decode cX8_meanFar 106 = .ok (.iload_n 1, 1) := by decide +kernel
theorem dX8_meanFar_107 : decode cX8_meanFar 107 = .ok (.invokevirtual 122, 3) := by decide +kernel
theorem dX8_meanFar_110 : decode cX8_meanFar 110 = .ok (.i2d, 1) := by decide +kernel
theorem dX8_meanFar_111 : decode cX8_meanFar 111 = .ok (.ddiv, 1) := by decide +kernel
theorem dX8_meanFar_112 : decode cX8_meanFar 112 = .ok (.dreturn, 1) := by decide +kernel
theorem dX8_fills_0 : decode cX8_fills 0 = .ok (.aload_n 0, 1) := by decide +kernel
theorem dX8_fills_1 : decode cX8_fills 1 = .ok (.iconst 0, 1) := by decide +kernel
theorem dX8_fills_2 : decode cX8_fills 2 = .ok (.putfield 1, 3) := by decide +kernel
theorem dX8_fills_5 : decode cX8_fills 5 = .ok (.aload_n 0, 1) := by decide +kernel
theorem dX8_fills_6 : decode cX8_fills 6 = .ok (.getfield 35, 3) := by decide +kernel
theorem dX8_fills_9 : decode cX8_fills 9 = .ok (.iconst 0, 1) := by decide +kernel
theorem dX8_fills_10 : decode cX8_fills 10 = .ok (.iaload, 1) := by decide +kernel
theorem dX8_fills_11 : decode cX8_fills 11 = .ok (.istore_n 1, 1) := by decide +kernel
theorem dX8_fills_12 : decode cX8_fills 12 = .ok (.iload_n 1, 1) := by decide +kernel
theorem dX8_fills_13 : decode cX8_fills 13 = .ok (.iconst 3, 1) := by decide +kernel
theorem dX8_fills_14 : decode cX8_fills 14 = .ok (.if_icmp .ge 5, 3) := by decide +kernel
theorem dX8_fills_17 : decode cX8_fills 17 = .ok (.fconst 0, 1) := by decide +kernel
theorem dX8_fills_18 : decode cX8_fills 18 = .ok (.freturn, 1) := by decide +kernel
theorem dX8_fills_19 : decode cX8_fills 19 = .ok (.aload_n 0, 1) := by decide +kernel
theorem dX8_fills_20 : decode cX8_fills 20 = .ok (.getfield 29, 3) := by decide +kernel
theorem dX8_fills_23 : decode cX8_fills 23 = .ok (.iconst 0, 1) := by decide +kernel
theorem dX8_fills_24 : decode cX8_fills 24 = .ok (.iaload, 1) := by decide +kernel
theorem dX8_fills_25 : decode cX8_fills 25 = .ok (.istore_n 2, 1) := by decide +kernel
theorem dX8_fills_26 : decode cX8_fills 26 = .ok (.aload_n 0, 1) := by decide +kernel
theorem dX8_fills_27 : decode cX8_fills 27 = .ok (.getfield 32, 3) := by decide +kernel
theorem dX8_fills_30 : decode cX8_fills 30 = .ok (.iconst 0, 1) := by decide +kernel
theorem dX8_fills_31 : decode cX8_fills 31 = .ok (.iaload, 1) := by decide +kernel
theorem dX8_fills_32 : decode cX8_fills 32 = .ok (.istore_n 3, 1) := by decide +kernel
theorem dX8_fills_33 : decode cX8_fills 33 = .ok (.aload_n 0, 1) := by decide +kernel
theorem dX8_fills_34 : decode cX8_fills 34 = .ok (.getfield 32, 3) := by decide +kernel
theorem dX8_fills_37 : decode cX8_fills 37 = .ok (.iconst 0, 1) := by decide +kernel
theorem dX8_fills_38 : decode cX8_fills 38 = .ok (.iaload, 1) := by decide +kernel
theorem dX8_fills_39 : decode cX8_fills 39 = .ok (.istore 4, 2) := by decide +kernel
theorem dX8_fills_41 : decode cX8_fills 41 = .ok (.iconst 0, 1) := by decide +kernel
theorem dX8_fills_42 : decode cX8_fills 42 = .ok (.istore 5, 2) := by decide +kernel
theorem dX8_fills_44 : decode cX8_fills 44 = .ok (.iload 5, 2) := by decide +kernel
theorem dX8_fills_46 : decode cX8_fills 46 = .ok (.iload_n 1, 1) := by decide +kernel
theorem dX8_fills_47 : decode cX8_fills 47 = .ok (.if_icmp .ge 68, 3) := by decide +kernel
theorem dX8_fills_50 : decode cX8_fills 50 = .ok (.aload_n 0, 1) := by decide +kernel
theorem dX8_fills_51 : decode cX8_fills 51 = .ok (.getfield 29, 3) := by decide +kernel
theorem dX8_fills_54 : decode cX8_fills 54 = .ok (.iload 5, 2) := by decide +kernel
theorem dX8_fills_56 : decode cX8_fills 56 = .ok (.iaload, 1) := by decide +kernel
theorem dX8_fills_57 : decode cX8_fills 57 = .ok (.iload_n 2, 1) := by decide +kernel
theorem dX8_fills_58 : decode cX8_fills 58 = .ok (.if_icmp .le 11, 3) := by decide +kernel
theorem dX8_fills_61 : decode cX8_fills 61 = .ok (.aload_n 0, 1) := by decide +kernel
theorem dX8_fills_62 : decode cX8_fills 62 = .ok (.getfield 29, 3) := by decide +kernel
theorem dX8_fills_65 : decode cX8_fills 65 = .ok (.iload 5, 2) := by decide +kernel
theorem dX8_fills_67 : decode cX8_fills 67 = .ok (.iaload, 1) := by decide +kernel
theorem dX8_fills_68 : decode cX8_fills 68 = .ok (.istore_n 2, 1) := by decide +kernel
theorem dX8_fills_69 : decode cX8_fills 69 = .ok (.aload_n 0, 1) := by decide +kernel
theorem dX8_fills_70 : decode cX8_fills 70 = .ok (.getfield 32, 3) := by decide +kernel
theorem dX8_fills_73 : decode cX8_fills 73 = .ok (.iload 5, 2) := by decide +kernel
theorem dX8_fills_75 : decode cX8_fills 75 = .ok (.iaload, 1) := by decide +kernel
theorem dX8_fills_76 : decode cX8_fills 76 = .ok (.iload_n 3, 1) := by decide +kernel
theorem dX8_fills_77 : decode cX8_fills 77 = .ok (.if_icmp .ge 11, 3) := by decide +kernel
theorem dX8_fills_80 : decode cX8_fills 80 = .ok (.aload_n 0, 1) := by decide +kernel
theorem dX8_fills_81 : decode cX8_fills 81 = .ok (.getfield 32, 3) := by decide +kernel
theorem dX8_fills_84 : decode cX8_fills 84 = .ok (.iload 5, 2) := by decide +kernel
theorem dX8_fills_86 : decode cX8_fills 86 = .ok (.iaload, 1) := by decide +kernel
theorem dX8_fills_87 : decode cX8_fills 87 = .ok (.istore_n 3, 1) := by decide +kernel
theorem dX8_fills_88 : decode cX8_fills 88 = .ok (.aload_n 0, 1) := by decide +kernel
theorem dX8_fills_89 : decode cX8_fills 89 = .ok (.getfield 32, 3) := by decide +kernel
theorem dX8_fills_92 : decode cX8_fills 92 = .ok (.iload 5, 2) := by decide +kernel
theorem dX8_fills_94 : decode cX8_fills 94 = .ok (.iaload, 1) := by decide +kernel
theorem dX8_fills_95 : decode cX8_fills 95 = .ok (.iload 4, 2) := by decide +kernel
theorem dX8_fills_97 : decode cX8_fills 97 = .ok (.if_icmp .le 12, 3) := by decide +kernel
theorem dX8_fills_100 : decode cX8_fills 100 = .ok (.aload_n 0, 1) := by decide +kernel
theorem dX8_fills_101 : decode cX8_fills 101 = .ok (.getfield 32, 3) := by decide +kernel
theorem dX8_fills_104 : decode cX8_fills 104 = .ok (.iload 5, 2) := by decide +kernel
theorem dX8_fills_106 : decode cX8_fills 106 = .ok (.iaload, 1) := by decide +kernel
theorem dX8_fills_107 : decode cX8_fills 107 = .ok (.istore 4, 2) := by decide +kernel
theorem dX8_fills_109 : decode cX8_fills 109 = .ok (.iinc 5 1, 3) := by decide +kernel
theorem dX8_fills_112 : decode cX8_fills 112 = .ok (.goto (-68), 3) := by decide +kernel
theorem dX8_fills_115 : decode cX8_fills 115 = .ok (.aload_n 0, 1) := by decide +kernel
theorem dX8_fills_116 : decode cX8_fills 116 = .ok (.iconst 0, 1) := by decide +kernel
theorem dX8_fills_117 : decode cX8_fills 117 = .ok (.invokevirtual 173, 3) := by decide +kernel
theorem dX8_fills_120 : decode cX8_fills 120 = .ok (.i2f, 1) := by decide +kernel
theorem dX8_fills_121 : decode cX8_fills 121 = .ok (.iconst 2, 1) := by decide +kernel
theorem dX8_fills_122 : decode cX8_fills 122 = .ok (.iload_n 2, 1) := by decide +kernel
theorem dX8_fills_123 : decode cX8_fills 123 = .ok (.aload_n 0, 1) := by decide +kernel
theorem dX8_fills_124 : decode cX8_fills 124 = .ok (.getfield 29, 3) := by decide +kernel
theorem dX8_fills_127 : decode cX8_fills 127 = .ok (.iconst 0, 1) := by decide +kernel
theorem dX8_fills_128 : decode cX8_fills 128 = .ok (.iaload, 1) := by decide +kernel
theorem dX8_fills_129 : decode cX8_fills 129 = .ok (.isub, 1) := by decide +kernel
theorem dX8_fills_130 : decode cX8_fills 130 = .ok (.imul, 1) := by decide +kernel
theorem dX8_fills_131 : decode cX8_fills 131 = .ok (.iload 4, 2) := by decide +kernel
theorem dX8_fills_133 : decode cX8_fills 133 = .ok (.iload_n 3, 1) := by decide +kernel
theorem dX8_fills_134 : decode cX8_fills 134 = .ok (.isub, 1) := by decide +kernel
theorem dX8_fills_135 : decode cX8_fills 135 = .ok (.imul, 1) := by decide +kernel
theorem dX8_fills_136 : decode cX8_fills 136 = .ok (.i2f, 1) := by decide +kernel
theorem dX8_fills_137 : decode cX8_fills 137 = .ok (.fdiv, 1) := by decide +kernel
theorem dX8_fills_138 : decode cX8_fills 138 = .ok (.freturn, 1) := by decide +kernel
theorem dX8_errors_0 : decode cX8_errors 0 = .ok (.aload_n 0, 1) := by decide +kernel
theorem dX8_errors_1 : decode cX8_errors 1 = .ok (.iconst 0, 1) := by decide +kernel
theorem dX8_errors_2 : decode cX8_errors 2 = .ok (.putfield 1, 3) := by decide +kernel
theorem dX8_errors_5 : decode cX8_errors 5 = .ok (.iconst 0, 1) := by decide +kernel
theorem dX8_errors_6 : decode cX8_errors 6 = .ok (.ireturn, 1) := by decide +kernel
