theorem dX11_init_0 : decode cX11_init 0 = .ok (.aload_n 0, 1) := by decide +kernel
theorem dX11_init_1 : decode cX11_init 1 = .ok (.invokespecial 3, 3) := by decide +kernel
theorem dX11_init_4 : decode cX11_init 4 = .ok (.aload_n 0, 1) := by decide +kernel
theorem dX11_init_5 : decode cX11_init 5 = .ok (.iconst (-1), 1) := by decide +kernel
theorem dX11_init_6 : decode cX11_init 6 = .ok (.putfield 9, 3) := by decide +kernel
theorem dX11_init_9 : decode cX11_init 9 = .ok (.aload_n 0, 1) := by decide +kernel
theorem dX11_init_10 : decode cX11_init 10 = .ok (.bipush 27, 2) := by decide +kernel
theorem dX11_init_12 : decode cX11_init 12 = .ok (.newarray .int, 2) := by decide +kernel
theorem dX11_init_14 : decode cX11_init 14 = .ok (.putfield 13, 3) := by decide +kernel
theorem dX11_init_17 : decode cX11_init 17 = .ok (.aload_n 0, 1) := by decide +kernel
theorem dX11_init_18 : decode cX11_init 18 = .ok (.bipush 18, 2) := by decide +kernel
theorem dX11_init_20 : decode cX11_init 20 = .ok (.newarray .int, 2) := by decide +kernel
theorem dX11_init_22 : decode cX11_init 22 = .ok (.putfield 17, 3) := by decide +kernel
theorem dX11_init_25 : decode cX11_init 25 = .ok (.aload_n 0, 1) := by decide +kernel
theorem dX11_init_26 : decode cX11_init 26 = .ok (.bipush 27, 2) := by decide +kernel
theorem dX11_init_28 : decode cX11_init 28 = .ok (.newarray .int, 2) := by decide +kernel
theorem dX11_init_30 : decode cX11_init 30 = .ok (.putfield 20, 3) := by decide +kernel
theorem dX11_init_33 : decode cX11_init 33 = .ok (.aload_n 0, 1) := by decide +kernel
theorem dX11_init_34 : decode cX11_init 34 = .ok (.bipush 18, 2) := by decide +kernel
theorem dX11_init_36 : decode cX11_init 36 = .ok (.newarray .int, 2) := by decide +kernel
theorem dX11_init_38 : decode cX11_init 38 = .ok (.putfield 23, 3) := by decide +kernel
theorem dX11_init_41 : decode cX11_init 41 = .ok (.aload_n 0, 1) := by decide +kernel
theorem dX11_init_42 : decode cX11_init 42 = .ok (.iconst 3, 1) := by decide +kernel
theorem dX11_init_43 : decode cX11_init 43 = .ok (.newarray .long, 2) := by decide +kernel
theorem dX11_init_45 : decode cX11_init 45 = .ok (.putfield 26, 3) := by decide +kernel
theorem dX11_init_48 : decode cX11_init 48 = .ok (.aload_n 0, 1) := by decide +kernel
theorem dX11_init_49 : decode cX11_init 49 = .ok (.bipush 11, 2) := by decide +kernel
theorem dX11_init_51 : decode cX11_init 51 = .ok (.newarray .int, 2) := by decide +kernel
theorem dX11_init_53 : decode cX11_init 53 = .ok (.putfield 30, 3) := by decide +kernel
theorem dX11_init_56 : decode cX11_init 56 = .ok (.aload_n 0, 1) := by decide +kernel
theorem dX11_init_57 : decode cX11_init 57 = .ok (.bipush 110, 2) := by decide +kernel
theorem dX11_init_59 : decode cX11_init 59 = .ok (.newarray .int, 2) := by decide +kernel
theorem dX11_init_61 : decode cX11_init 61 = .ok (.putfield 33, 3) := by decide +kernel
theorem dX11_init_64 : decode cX11_init 64 = .ok (.aload_n 0, 1) := by decide +kernel
theorem dX11_init_65 : decode cX11_init 65 = .ok (.sipush 700, 3) := by decide +kernel
theorem dX11_init_68 : decode cX11_init 68 = .ok (.newarray .byte, 2) := by decide +kernel
theorem dX11_init_70 : decode cX11_init 70 = .ok (.putfield 36, 3) := by decide +kernel
theorem dX11_init_73 : decode cX11_init 73 = .ok (.aload_n 0, 1) := by decide +kernel
theorem dX11_init_74 : decode cX11_init 74 = .ok (.iconst 3, 1) := by decide +kernel
theorem dX11_init_75 : decode cX11_init 75 = .ok (.newarray .int, 2) := by decide +kernel
theorem dX11_init_77 : decode cX11_init 77 = .ok (.putfield 40, 3) := by decide +kernel
theorem dX11_init_80 : decode cX11_init 80 = .ok (.aload_n 0, 1) := by decide +kernel
theorem dX11_init_81 : decode cX11_init 81 = .ok (.sipush 240, 3) := by decide +kernel
theorem dX11_init_84 : decode cX11_init 84 = .ok (.newarray .int, 2) := by decide +kernel
theorem dX11_init_86 : decode cX11_init 86 = .ok (.putfield 43, 3) := by decide +kernel
theorem dX11_init_89 : decode cX11_init 89 = .ok (.aload_n 0, 1) := by decide +kernel
theorem dX11_init_90 : decode cX11_init 90 = .ok (.sipush 240, 3) := by decide +kernel
theorem dX11_init_93 : decode cX11_init 93 = .ok (.newarray .int, 2) := by decide +kernel
theorem dX11_init_95 : decode cX11_init 95 = .ok (.putfield 46, 3) := by decide +kernel
theorem dX11_init_98 : decode cX11_init 98 = .ok (.aload_n 0, 1) := by decide +kernel
theorem dX11_init_99 : decode cX11_init 99 = .ok (.sipush 400, 3) := by decide +kernel
theorem dX11_init_102 : decode cX11_init 102 = .ok (.newarray .int, 2) := by decide +kernel
theorem dX11_init_104 : decode cX11_init 104 = .ok (.putfield 49, 3) := by decide +kernel
theorem dX11_init_107 : decode cX11_init 107 = .ok (.aload_n 0, 1) := by decide +kernel
theorem dX11_init_108 : decode cX11_init 108 = .ok (.iconst 3, 1) := by decide +kernel
theorem dX11_init_109 : decode cX11_init 109 = .ok (.newarray .int, 2) := by decide +kernel
theorem dX11_init_111 : decode cX11_init 111 = .ok (.putfield 52, 3) := by decide +kernel
theorem dX11_init_114 : decode cX11_init 114 = .ok (.aload_n 0, 1) := by decide +kernel
theorem dX11_init_115 : decode cX11_init 115 = .ok (.iconst 3, 1) := by decide +kernel
theorem dX11_init_116 : decode cX11_init 116 = .ok (.newarray .int, 2) := by decide +kernel
theorem dX11_init_118 : decode cX11_init 118 = .ok (.putfield 55, 3) := by decide +kernel
theorem dX11_init_121 : decode cX11_init 121 = .ok (.aload_n 0, 1) := by decide +kernel
theorem dX11_init_122 : decode cX11_init 122 = .ok (.iconst 3, 1) := by decide +kernel
theorem dX11_init_123 : decode cX11_init 123 = .ok (.newarray .int, 2) := by decide +kernel
theorem dX11_init_125 : decode cX11_init 125 = .ok (.putfield 58, 3) := by decide +kernel
theorem dX11_init_128 : decode cX11_init 128 = .ok (.aload_n 0, 1) := by decide +kernel
theorem dX11_init_129 : decode cX11_init 129 = .ok (.sipush 1536, 3) := by decide +kernel
theorem dX11_init_132 : decode cX11_init 132 = .ok (.newarray .int, 2) := by decide +kernel
theorem dX11_init_134 : decode cX11_init 134 = .ok (.putfield 61, 3) := by decide +kernel
theorem dX11_init_137 : decode cX11_init 137 = .ok (.aload_n 0, 1) := by decide +kernel
theorem dX11_init_138 : decode cX11_init 138 = .ok (.sipush 512, 3) := by decide +kernel
theorem dX11_init_141 : decode cX11_init 141 = .ok (.newarray .int, 2) := by decide +kernel
theorem dX11_init_143 : decode cX11_init 143 = .ok (.putfield 64, 3) := by decide +kernel
theorem dX11_init_146 : decode cX11_init 146 = .ok (.aload_n 0, 1) := by decide +kernel
theorem dX11_init_147 : decode cX11_init 147 = .ok (.iconst 3, 1) := by decide +kernel
theorem dX11_init_148 : decode cX11_init 148 = .ok (.newarray .int, 2) := by decide +kernel
theorem dX11_init_150 : decode cX11_init 150 = .ok (.putfield 67, 3) := by decide +kernel
theorem dX11_init_153 : decode cX11_init 153 = .ok (.aload_n 0, 1) := by decide +kernel
theorem dX11_init_154 : decode cX11_init 154 = .ok (.sipush 512, 3) := by decide +kernel
theorem dX11_init_157 : decode cX11_init 157 = .ok (.newarray .boolean, 2) := by decide +kernel
theorem dX11_init_159 : decode cX11_init 159 = .ok (.putfield 70, 3) := by decide +kernel
theorem dX11_init_162 : decode cX11_init 162 = .ok (.aload_n 0, 1) := by decide +kernel
theorem dX11_init_163 : decode cX11_init 163 = .ok (.bipush 64, 2) := by decide +kernel
theorem dX11_init_165 : decode cX11_init 165 = .ok (.newarray .int, 2) := by decide +kernel
theorem dX11_init_167 : decode cX11_init 167 = .ok (.putfield 74, 3) := by decide +kernel
theorem dX11_init_170 : decode cX11_init 170 = .ok (.aload_n 0, 1) := by decide +kernel
theorem dX11_init_171 : decode cX11_init 171 = .ok (.bipush 64, 2) := by decide +kernel
theorem dX11_init_173 : decode cX11_init 173 = .ok (.newarray .int, 2) := by decide +kernel
theorem dX11_init_175 : decode cX11_init 175 = .ok (.putfield 77, 3) := by decide +kernel
theorem dX11_init_178 : decode cX11_init 178 = .ok (.aload_n 0, 1) := by decide +kernel
theorem dX11_init_179 : decode cX11_init 179 = .ok (.bipush 64, 2) := by decide +kernel
theorem dX11_init_181 : decode cX11_init 181 = .ok (.newarray .int, 2) := by decide +kernel
theorem dX11_init_183 : decode cX11_init 183 = .ok (.putfield 80, 3) := by decide +kernel
theorem dX11_init_186 : decode cX11_init 186 = .ok (.aload_n 0, 1) := by decide +kernel
theorem dX11_init_187 : decode cX11_init 187 = .ok (.bipush 64, 2) := by decide +kernel
theorem dX11_init_189 : decode cX11_init 189 = .ok (.newarray .int, 2) := by decide +kernel
theorem dX11_init_191 : decode cX11_init 191 = .ok (.putfield 83, 3) := by decide +kernel
theorem dX11_init_194 : decode cX11_init 194 = .ok (.aload_n 0, 1) := by decide +kernel
theorem dX11_init_195 : decode cX11_init 195 = .ok (.bipush 64, 2) := by decide +kernel
theorem dX11_init_197 : decode cX11_init 197 = .ok (.newarray .int, 2) := by decide +kernel
theorem dX11_init_199 : decode cX11_init 199 = .ok (.putfield 86, 3) := by decide +kernel
theorem dX11_init_202 : decode cX11_init 202 = .ok (.aload_n 0, 1) := by decide +kernel
theorem dX11_init_203 : decode cX11_init 203 = .ok (.bipush 64, 2) := by decide +kernel
theorem dX11_init_205 : decode cX11_init 205 = .ok (.newarray .int, 2) := by decide +kernel
theorem dX11_init_207 : decode cX11_init 207 = .ok (.putfield 89, 3) := by decide +kernel
theorem dX11_init_210 : decode cX11_init 210 = .ok (.return_, 1) := by decide +kernel
theorem dX11_thrown_0 : decode cX11_thrown 0 = .ok (.aload_n 0, 1) := by decide +kernel
theorem dX11_thrown_1 : decode cX11_thrown 1 = .ok (.getfield 92, 3) := by decide +kernel
theorem dX11_thrown_4 : decode cX11_thrown 4 = .ok (.ireturn, 1) := by decide +kernel
theorem dX11_refused_0 : decode cX11_refused 0 = .ok (.aload_n 0, 1) := by decide +kernel
theorem dX11_refused_1 : decode cX11_refused 1 = .ok (.iload_n 1, 1) := by decide +kernel
theorem dX11_refused_2 : decode cX11_refused 2 = .ok (.putfield 95, 3) := by decide +kernel
theorem dX11_refused_5 : decode cX11_refused 5 = .ok (.aload_n 0, 1) := by decide +kernel
theorem dX11_refused_6 : decode cX11_refused 6 = .ok (.iconst (-1), 1) := by decide +kernel
theorem dX11_refused_7 : decode cX11_refused 7 = .ok (.putfield 9, 3) := by decide +kernel
theorem dX11_refused_10 : decode cX11_refused 10 = .ok (.iconst (-1), 1) := by decide +kernel
theorem dX11_refused_11 : decode cX11_refused 11 = .ok (.ireturn, 1) := by decide +kernel
theorem dX11_good_0 : decode cX11_good 0 = .ok (.aload_n 0, 1) := by decide +kernel
theorem dX11_good_1 : decode cX11_good 1 = .ok (.iconst 0, 1) := by decide +kernel
theorem dX11_good_2 : decode cX11_good 2 = .ok (.putfield 95, 3) := by decide +kernel
theorem dX11_good_5 : decode cX11_good 5 = .ok (.aload_n 0, 1) := by decide +kernel
theorem dX11_good_6 : decode cX11_good 6 = .ok (.iconst (-1), 1) := by decide +kernel
theorem dX11_good_7 : decode cX11_good 7 = .ok (.putfield 9, 3) := by decide +kernel
theorem dX11_good_10 : decode cX11_good 10 = .ok (.iload_n 1, 1) := by decide +kernel
theorem dX11_good_11 : decode cX11_good 11 = .ok (.ireturn, 1) := by decide +kernel
theorem dX11_in_0 : decode cX11_in 0 = .ok (.iload_n 0, 1) := by decide +kernel
theorem dX11_in_1 : decode cX11_in 1 = .ok (.iload_n 1, 1) := by decide +kernel
theorem dX11_in_2 : decode cX11_in 2 = .ok (.if_icmp .lt 12, 3) := by decide +kernel
theorem dX11_in_5 : decode cX11_in 5 = .ok (.iload_n 0, 1) := by decide +kernel
theorem dX11_in_6 : decode cX11_in 6 = .ok (.iload_n 2, 1) := by decide +kernel
theorem dX11_in_7 : decode cX11_in 7 = .ok (.if_icmp .gt 7, 3) := by decide +kernel
theorem dX11_in_10 : decode cX11_in 10 = .ok (.iconst 1, 1) := by decide +kernel
theorem dX11_in_11 : decode cX11_in 11 = .ok (.goto 4, 3) := by decide +kernel
theorem dX11_in_14 : decode cX11_in 14 = .ok (.iconst 0, 1) := by decide +kernel
theorem dX11_in_15 : decode cX11_in 15 = .ok (.ireturn, 1) := by decide +kernel
theorem dX11_byteAt_0 : decode cX11_byteAt 0 = .ok (.iload_n 1, 1) := by decide +kernel
theorem dX11_byteAt_1 : decode cX11_byteAt 1 = .ok (.aload_n 0, 1) := by decide +kernel
theorem dX11_byteAt_2 : decode cX11_byteAt 2 = .ok (.getfield 98, 3) := by decide +kernel
theorem dX11_byteAt_5 : decode cX11_byteAt 5 = .ok (.if_icmp .ge 16, 3) := by decide +kernel
theorem dX11_byteAt_8 : decode cX11_byteAt 8 = .ok (.aload_n 0, 1) := by decide +kernel
theorem dX11_byteAt_9 : decode cX11_byteAt 9 = .ok (.getfield 36, 3) := by decide +kernel
theorem dX11_byteAt_12 : decode cX11_byteAt 12 = .ok (.iload_n 1, 1) := by decide +kernel
theorem dX11_byteAt_13 : decode cX11_byteAt 13 = .ok (.baload, 1) := by decide +kernel
theorem dX11_byteAt_14 : decode cX11_byteAt 14 = .ok (.sipush 255, 3) := by decide +kernel
theorem dX11_byteAt_17 : decode cX11_byteAt 17 = .ok (.iand, 1) := by decide +kernel
theorem dX11_byteAt_18 : decode cX11_byteAt 18 = .ok (.goto 4, 3) := by decide +kernel
theorem dX11_byteAt_21 : decode cX11_byteAt 21 = .ok (.iconst (-1), 1) := by decide +kernel
theorem dX11_byteAt_22 : decode cX11_byteAt 22 = .ok (.ireturn, 1) := by decide +kernel
theorem dX11_next_0 : decode cX11_next 0 = .ok (.aload_n 0, 1) := by decide +kernel
theorem dX11_next_1 : decode cX11_next 1 = .ok (.getfield 101, 3) := by decide +kernel
theorem dX11_next_4 : decode cX11_next 4 = .ok (.ifCond .le 4, 3) := by decide +kernel
theorem dX11_next_7 : decode cX11_next 7 = .ok (.return_, 1) := by decide +kernel
theorem dX11_next_8 : decode cX11_next 8 = .ok (.aload_n 0, 1) := by decide +kernel
theorem dX11_next_9 : decode cX11_next 9 = .ok (.aload_n 0, 1) := by decide +kernel
theorem dX11_next_10 : decode cX11_next 10 = .ok (.getfield 104, 3) := by decide +kernel
theorem dX11_next_13 : decode cX11_next 13 = .ok (.invokevirtual 107, 3) := by decide +kernel
theorem dX11_next_16 : decode cX11_next 16 = .ok (.bipush 32, 2) := by decide +kernel
theorem dX11_next_18 : decode cX11_next 18 = .ok (.if_icmp .ne 16, 3) := by decide +kernel
theorem dX11_next_21 : decode cX11_next 21 = .ok (.aload_n 0, 1) := by decide +kernel
theorem dX11_next_22 : decode cX11_next 22 = .ok (.dup, 1) := by decide +kernel
theorem dX11_next_23 : decode cX11_next 23 = .ok (.getfield 104, 3) := by decide +kernel
theorem dX11_next_26 : decode cX11_next 26 = .ok (.iconst 1, 1) := by decide +kernel
theorem dX11_next_27 : decode cX11_next 27 = .ok (.iadd, 1) := by decide +kernel
theorem dX11_next_28 : decode cX11_next 28 = .ok (.putfield 104, 3) := by decide +kernel
theorem dX11_next_31 : decode cX11_next 31 = .ok (.goto (-23), 3) := by decide +kernel
theorem dX11_next_34 : decode cX11_next 34 = .ok (.aload_n 0, 1) := by decide +kernel
theorem dX11_next_35 : decode cX11_next 35 = .ok (.aload_n 0, 1) := by decide +kernel
theorem dX11_next_36 : decode cX11_next 36 = .ok (.getfield 104, 3) := by decide +kernel
theorem dX11_next_39 : decode cX11_next 39 = .ok (.putfield 111, 3) := by decide +kernel
theorem dX11_next_42 : decode cX11_next 42 = .ok (.aload_n 0, 1) := by decide +kernel
theorem dX11_next_43 : decode cX11_next 43 = .ok (.aload_n 0, 1) := by decide +kernel
theorem dX11_next_44 : decode cX11_next 44 = .ok (.getfield 104, 3) := by decide +kernel
theorem dX11_next_47 : decode cX11_next 47 = .ok (.invokevirtual 107, 3) := by decide +kernel
theorem dX11_next_50 : decode cX11_next 50 = .ok (.istore_n 1, 1) := by decide +kernel
theorem dX11_next_51 : decode cX11_next 51 = .ok (.iload_n 1, 1) := by decide +kernel
theorem dX11_next_52 : decode cX11_next 52 = .ok (.iconst (-1), 1) := by decide +kernel
theorem dX11_next_53 : decode cX11_next 53 = .ok (.if_icmp .ne 11, 3) := by decide +kernel
theorem dX11_next_56 : decode cX11_next 56 = .ok (.aload_n 0, 1) := by decide +kernel
theorem dX11_next_57 : decode cX11_next 57 = .ok (.iconst 1, 1) := by decide +kernel
theorem dX11_next_58 : decode cX11_next 58 = .ok (.putfield 114, 3) := by decide +kernel
theorem dX11_next_61 : decode cX11_next 61 = .ok (.goto 64, 3) := by decide +kernel
theorem dX11_next_64 : decode cX11_next 64 = .ok (.iload_n 1, 1) := by decide +kernel
theorem dX11_next_65 : decode cX11_next 65 = .ok (.bipush 97, 2) := by decide +kernel
theorem dX11_next_67 : decode cX11_next 67 = .ok (.bipush 122, 2) := by decide +kernel
theorem dX11_next_69 : decode cX11_next 69 = .ok (.invokestatic 117, 3) := by decide +kernel
theorem dX11_next_72 : decode cX11_next 72 = .ok (.ifCond .eq 10, 3) := by decide +kernel
theorem dX11_next_75 : decode cX11_next 75 = .ok (.aload_n 0, 1) := by decide +kernel
theorem dX11_next_76 : decode cX11_next 76 = .ok (.invokevirtual 121, 3) := by decide +kernel
theorem dX11_next_79 : decode cX11_next 79 = .ok (.goto 46, 3) := by decide +kernel
theorem dX11_next_82 : decode cX11_next 82 = .ok (.iload_n 1, 1) := by decide +kernel
theorem dX11_next_83 : decode cX11_next 83 = .ok (.bipush 48, 2) := by decide +kernel
theorem dX11_next_85 : decode cX11_next 85 = .ok (.bipush 57, 2) := by decide +kernel
theorem dX11_next_87 : decode cX11_next 87 = .ok (.invokestatic 117, 3) := by decide +kernel
theorem dX11_next_90 : decode cX11_next 90 = .ok (.ifCond .eq 10, 3) := by decide +kernel
theorem dX11_next_93 : decode cX11_next 93 = .ok (.aload_n 0, 1) := by decide +kernel
theorem dX11_next_94 : decode cX11_next 94 = .ok (.invokevirtual 124, 3) := by decide +kernel
theorem dX11_next_97 : decode cX11_next 97 = .ok (.goto 28, 3) := by decide +kernel
theorem dX11_next_100 : decode cX11_next 100 = .ok (.aload_n 0, 1) := by decide +kernel
theorem dX11_next_101 : decode cX11_next 101 = .ok (.iload_n 1, 1) := by decide +kernel
theorem dX11_next_102 : decode cX11_next 102 = .ok (.bipush 59, 2) := by decide +kernel
theorem dX11_next_104 : decode cX11_next 104 = .ok (.if_icmp .ne 7, 3) := by decide +kernel
theorem dX11_next_107 : decode cX11_next 107 = .ok (.iconst 4, 1) := by decide +kernel
theorem dX11_next_108 : decode cX11_next 108 = .ok (.goto 4, 3) := by decide +kernel
theorem dX11_next_111 : decode cX11_next 111 = .ok (.iconst 0, 1) := by decide +kernel
theorem dX11_next_112 : decode cX11_next 112 = .ok (.putfield 114, 3) := by decide +kernel
theorem dX11_next_115 : decode cX11_next 115 = .ok (.aload_n 0, 1) := by decide +kernel
theorem dX11_next_116 : decode cX11_next 116 = .ok (.dup, 1) := by decide +kernel
theorem dX11_next_117 : decode cX11_next 117 = .ok (.getfield 104, 3) := by decide +kernel
theorem dX11_next_120 : decode cX11_next 120 = .ok (.iconst 1, 1) := by decide +kernel
theorem dX11_next_121 : decode cX11_next 121 = .ok (.iadd, 1) := by decide +kernel
theorem dX11_next_122 : decode cX11_next 122 = .ok (.putfield 104, 3) := by decide +kernel
theorem dX11_next_125 : decode cX11_next 125 = .ok (.return_, 1) := by decide +kernel
theorem dX11_nextWord_0 : decode cX11_nextWord 0 = .ok (.aload_n 0, 1) := by decide +kernel
theorem dX11_nextWord_1 : decode cX11_nextWord 1 = .ok (.lconst 0, 1) := by decide +kernel
theorem dX11_nextWord_2 : decode cX11_nextWord 2 = .ok (.putfield 127, 3) := by decide +kernel
theorem dX11_nextWord_5 : decode cX11_nextWord 5 = .ok (.aload_n 0, 1) := by decide +kernel
theorem dX11_nextWord_6 : decode cX11_nextWord 6 = .ok (.aload_n 0, 1) := by decide +kernel
theorem dX11_nextWord_7 : decode cX11_nextWord 7 = .ok (.getfield 104, 3) := by decide +kernel
theorem dX11_nextWord_10 : decode cX11_nextWord 10 = .ok (.invokevirtual 107, 3) := by decide +kernel
theorem dX11_nextWord_13 : decode cX11_nextWord 13 = .ok (.bipush 97, 2) := by decide +kernel
theorem dX11_nextWord_15 : decode cX11_nextWord 15 = .ok (.bipush 122, 2) := by decide +kernel
theorem dX11_nextWord_17 : decode cX11_nextWord 17 = .ok (.invokestatic 117, 3) := by decide +kernel
theorem dX11_nextWord_20 : decode cX11_nextWord 20 = .ok (.ifCond .eq 51, 3) := by decide +kernel
theorem dX11_nextWord_23 : decode cX11_nextWord 23 = .ok (.aload_n 0, 1) := by decide +kernel
theorem dX11_nextWord_24 : decode cX11_nextWord 24 = .ok (.getfield 104, 3) := by decide +kernel
theorem dX11_nextWord_27 : decode cX11_nextWord 27 = .ok (.aload_n 0, 1) := by decide +kernel
theorem dX11_nextWord_28 : decode cX11_nextWord 28 = .ok (.getfield 111, 3) := by decide +kernel
theorem dX11_nextWord_31 : decode cX11_nextWord 31 = .ok (.isub, 1) := by decide +kernel
theorem dX11_nextWord_32 : decode cX11_nextWord 32 = .ok (.bipush 7, 2) := by decide +kernel
theorem dX11_nextWord_34 : decode cX11_nextWord 34 = .ok (.if_icmp .ge 24, 3) := by decide +kernel
theorem dX11_nextWord_37 : decode cX11_nextWord 37 = .ok (.aload_n 0, 1) := by decide +kernel
theorem dX11_nextWord_38 : decode cX11_nextWord 38 = .ok (.aload_n 0, 1) := by decide +kernel
theorem dX11_nextWord_39 : decode cX11_nextWord 39 = .ok (.getfield 127, 3) := by decide +kernel
theorem dX11_nextWord_42 : decode cX11_nextWord 42 = .ok (.bipush 8, 2) := by decide +kernel
theorem dX11_nextWord_44 : decode cX11_nextWord 44 = .ok (.lshl, 1) := by decide +kernel
theorem dX11_nextWord_45 : decode cX11_nextWord 45 = .ok (.aload_n 0, 1) := by decide +kernel
theorem dX11_nextWord_46 : decode cX11_nextWord 46 = .ok (.aload_n 0, 1) := by decide +kernel
theorem dX11_nextWord_47 : decode cX11_nextWord 47 = .ok (.getfield 104, 3) := by decide +kernel
theorem dX11_nextWord_50 : decode cX11_nextWord 50 = .ok (.invokevirtual 107, 3) := by decide +kernel
theorem dX11_nextWord_53 : decode cX11_nextWord 53 = .ok (.i2l, 1) := by decide +kernel
theorem dX11_nextWord_54 : decode cX11_nextWord 54 = .ok (.lor, 1) := by decide +kernel
theorem dX11_nextWord_55 : decode cX11_nextWord 55 = .ok (.putfield 127, 3) := by decide +kernel
theorem dX11_nextWord_58 : decode cX11_nextWord 58 = .ok (.aload_n 0, 1) := by decide +kernel
theorem dX11_nextWord_59 : decode cX11_nextWord 59 = .ok (.dup, 1) := by decide +kernel
theorem dX11_nextWord_60 : decode cX11_nextWord 60 = .ok (.getfield 104, 3) := by decide +kernel
theorem dX11_nextWord_63 : decode cX11_nextWord 63 = .ok (.iconst 1, 1) := by decide +kernel
theorem dX11_nextWord_64 : decode cX11_nextWord 64 = .ok (.iadd, 1) := by decide +kernel
theorem dX11_nextWord_65 : decode cX11_nextWord 65 = .ok (.putfield 104, 3) := by decide +kernel
theorem dX11_nextWord_68 : decode cX11_nextWord 68 = .ok (.goto (-63), 3) := by decide +kernel
theorem dX11_nextWord_71 : decode cX11_nextWord 71 = .ok (.aload_n 0, 1) := by decide +kernel
theorem dX11_nextWord_72 : decode cX11_nextWord 72 = .ok (.aload_n 0, 1) := by decide +kernel
theorem dX11_nextWord_73 : decode cX11_nextWord 73 = .ok (.getfield 104, 3) := by decide +kernel
theorem dX11_nextWord_76 : decode cX11_nextWord 76 = .ok (.aload_n 0, 1) := by decide +kernel
theorem dX11_nextWord_77 : decode cX11_nextWord 77 = .ok (.getfield 111, 3) := by decide +kernel
theorem dX11_nextWord_80 : decode cX11_nextWord 80 = .ok (.isub, 1) := by decide +kernel
theorem dX11_nextWord_81 : decode cX11_nextWord 81 = .ok (.bipush 7, 2) := by decide +kernel
theorem dX11_nextWord_83 : decode cX11_nextWord 83 = .ok (.if_icmp .le 7, 3) := by decide +kernel
theorem dX11_nextWord_86 : decode cX11_nextWord 86 = .ok (.iconst 0, 1) := by decide +kernel
theorem dX11_nextWord_87 : decode cX11_nextWord 87 = .ok (.goto 4, 3) := by decide +kernel
theorem dX11_nextWord_90 : decode cX11_nextWord 90 = .ok (.iconst 2, 1) := by decide +kernel
theorem dX11_nextWord_91 : decode cX11_nextWord 91 = .ok (.putfield 114, 3) := by decide +kernel
theorem dX11_nextWord_94 : decode cX11_nextWord 94 = .ok (.return_, 1) := by decide +kernel
theorem dX11_nextWhole_0 : decode cX11_nextWhole 0 = .ok (.aload_n 0, 1) := by decide +kernel
theorem dX11_nextWhole_1 : decode cX11_nextWhole 1 = .ok (.iconst 0, 1) := by decide +kernel
theorem dX11_nextWhole_2 : decode cX11_nextWhole 2 = .ok (.putfield 131, 3) := by decide +kernel
theorem dX11_nextWhole_5 : decode cX11_nextWhole 5 = .ok (.aload_n 0, 1) := by decide +kernel
theorem dX11_nextWhole_6 : decode cX11_nextWhole 6 = .ok (.aload_n 0, 1) := by decide +kernel
theorem dX11_nextWhole_7 : decode cX11_nextWhole 7 = .ok (.getfield 104, 3) := by decide +kernel
theorem dX11_nextWhole_10 : decode cX11_nextWhole 10 = .ok (.invokevirtual 107, 3) := by decide +kernel
theorem dX11_nextWhole_13 : decode cX11_nextWhole 13 = .ok (.bipush 48, 2) := by decide +kernel
theorem dX11_nextWhole_15 : decode cX11_nextWhole 15 = .ok (.bipush 57, 2) := by decide +kernel
theorem dX11_nextWhole_17 : decode cX11_nextWhole 17 = .ok (.invokestatic 117, 3) := by decide +kernel
theorem dX11_nextWhole_20 : decode cX11_nextWhole 20 = .ok (.ifCond .eq 52, 3) := by decide +kernel
theorem dX11_nextWhole_23 : decode cX11_nextWhole 23 = .ok (.aload_n 0, 1) := by decide +kernel
theorem dX11_nextWhole_24 : decode cX11_nextWhole 24 = .ok (.getfield 104, 3) := by decide +kernel
theorem dX11_nextWhole_27 : decode cX11_nextWhole 27 = .ok (.aload_n 0, 1) := by decide +kernel
theorem dX11_nextWhole_28 : decode cX11_nextWhole 28 = .ok (.getfield 111, 3) := by decide +kernel
theorem dX11_nextWhole_31 : decode cX11_nextWhole 31 = .ok (.isub, 1) := by decide +kernel
theorem dX11_nextWhole_32 : decode cX11_nextWhole 32 = .ok (.iconst 3, 1) := by decide +kernel
theorem dX11_nextWhole_33 : decode cX11_nextWhole 33 = .ok (.if_icmp .ge 26, 3) := by decide +kernel
theorem dX11_nextWhole_36 : decode cX11_nextWhole 36 = .ok (.aload_n 0, 1) := by decide +kernel
theorem dX11_nextWhole_37 : decode cX11_nextWhole 37 = .ok (.bipush 10, 2) := by decide +kernel
theorem dX11_nextWhole_39 : decode cX11_nextWhole 39 = .ok (.aload_n 0, 1) := by decide +kernel
theorem dX11_nextWhole_40 : decode cX11_nextWhole 40 = .ok (.getfield 131, 3) := by decide +kernel
theorem dX11_nextWhole_43 : decode cX11_nextWhole 43 = .ok (.imul, 1) := by decide +kernel
theorem dX11_nextWhole_44 : decode cX11_nextWhole 44 = .ok (.aload_n 0, 1) := by decide +kernel
theorem dX11_nextWhole_45 : decode cX11_nextWhole 45 = .ok (.aload_n 0, 1) := by decide +kernel
theorem dX11_nextWhole_46 : decode cX11_nextWhole 46 = .ok (.getfield 104, 3) := by decide +kernel
theorem dX11_nextWhole_49 : decode cX11_nextWhole 49 = .ok (.invokevirtual 107, 3) := by decide +kernel
theorem dX11_nextWhole_52 : decode cX11_nextWhole 52 = .ok (.iadd, 1) := by decide +kernel
theorem dX11_nextWhole_53 : decode cX11_nextWhole 53 = .ok (.bipush 48, 2) := by decide +kernel
theorem dX11_nextWhole_55 : decode cX11_nextWhole 55 = .ok (.isub, 1) := by decide +kernel
theorem dX11_nextWhole_56 : decode cX11_nextWhole 56 = .ok (.putfield 131, 3) := by decide +kernel
theorem dX11_nextWhole_59 : decode cX11_nextWhole 59 = .ok (.aload_n 0, 1) := by decide +kernel
theorem dX11_nextWhole_60 : decode cX11_nextWhole 60 = .ok (.dup, 1) := by decide +kernel
theorem dX11_nextWhole_61 : decode cX11_nextWhole 61 = .ok (.getfield 104, 3) := by decide +kernel
theorem dX11_nextWhole_64 : decode cX11_nextWhole 64 = .ok (.iconst 1, 1) := by decide +kernel
theorem dX11_nextWhole_65 : decode cX11_nextWhole 65 = .ok (.iadd, 1) := by decide +kernel
theorem dX11_nextWhole_66 : decode cX11_nextWhole 66 = .ok (.putfield 104, 3) := by decide +kernel
theorem dX11_nextWhole_69 : decode cX11_nextWhole 69 = .ok (.goto (-64), 3) := by decide +kernel
theorem dX11_nextWhole_72 : decode cX11_nextWhole 72 = .ok (.aload_n 0, 1) := by decide +kernel
theorem dX11_nextWhole_73 : decode cX11_nextWhole 73 = .ok (.aload_n 0, 1) := by decide +kernel
theorem dX11_nextWhole_74 : decode cX11_nextWhole 74 = .ok (.getfield 104, 3) := by decide +kernel
theorem dX11_nextWhole_77 : decode cX11_nextWhole 77 = .ok (.aload_n 0, 1) := by decide +kernel
theorem dX11_nextWhole_78 : decode cX11_nextWhole 78 = .ok (.getfield 111, 3) := by decide +kernel
theorem dX11_nextWhole_81 : decode cX11_nextWhole 81 = .ok (.isub, 1) := by decide +kernel
theorem dX11_nextWhole_82 : decode cX11_nextWhole 82 = .ok (.iconst 3, 1) := by decide +kernel
theorem dX11_nextWhole_83 : decode cX11_nextWhole 83 = .ok (.if_icmp .le 7, 3) := by decide +kernel
theorem dX11_nextWhole_86 : decode cX11_nextWhole 86 = .ok (.iconst 0, 1) := by decide +kernel
theorem dX11_nextWhole_87 : decode cX11_nextWhole 87 = .ok (.goto 4, 3) := by decide +kernel
theorem dX11_nextWhole_90 : decode cX11_nextWhole 90 = .ok (.iconst 3, 1) := by decide +kernel
theorem dX11_nextWhole_91 : decode cX11_nextWhole 91 = .ok (.putfield 114, 3) := by decide +kernel
theorem dX11_nextWhole_94 : decode cX11_nextWhole 94 = .ok (.return_, 1) := by decide +kernel
theorem dX11_flaw_0 : decode cX11_flaw 0 = .ok (.aload_n 0, 1) := by decide +kernel
theorem dX11_flaw_1 : decode cX11_flaw 1 = .ok (.getfield 101, 3) := by decide +kernel
theorem dX11_flaw_4 : decode cX11_flaw 4 = .ok (.ifCond .ne 8, 3) := by decide +kernel
theorem dX11_flaw_7 : decode cX11_flaw 7 = .ok (.aload_n 0, 1) := by decide +kernel
theorem dX11_flaw_8 : decode cX11_flaw 8 = .ok (.iload_n 1, 1) := by decide +kernel
theorem dX11_flaw_9 : decode cX11_flaw 9 = .ok (.putfield 101, 3) := by decide +kernel
theorem dX11_flaw_12 : decode cX11_flaw 12 = .ok (.aload_n 0, 1) := by decide +kernel
theorem dX11_flaw_13 : decode cX11_flaw 13 = .ok (.iconst 0, 1) := by decide +kernel
theorem dX11_flaw_14 : decode cX11_flaw 14 = .ok (.putfield 114, 3) := by decide +kernel
theorem dX11_flaw_17 : decode cX11_flaw 17 = .ok (.return_, 1) := by decide +kernel
theorem dX11_isWord_0 : decode cX11_isWord 0 = .ok (.lconst 0, 1) := by decide +kernel
theorem dX11_isWord_1 : decode cX11_isWord 1 = .ok (.lstore_n 2, 1) := by decide +kernel
theorem dX11_isWord_2 : decode cX11_isWord 2 = .ok (.iconst 0, 1) := by decide +kernel
theorem dX11_isWord_3 : decode cX11_isWord 3 = .ok (.istore 4, 2) := by decide +kernel
theorem dX11_isWord_5 : decode cX11_isWord 5 = .ok (.iload 4, 2) := by decide +kernel
theorem dX11_isWord_7 : decode cX11_isWord 7 = .ok (.aload_n 1, 1) := by decide +kernel
theorem dX11_isWord_8 : decode cX11_isWord 8 = .ok (.invokevirtual 134, 3) := by decide +kernel
theorem dX11_isWord_11 : decode cX11_isWord 11 = .ok (.if_icmp .ge 22, 3) := by decide +kernel
theorem dX11_isWord_14 : decode cX11_isWord 14 = .ok (.lload_n 2, 1) := by decide +kernel
theorem dX11_isWord_15 : decode cX11_isWord 15 = .ok (.bipush 8, 2) := by decide +kernel
theorem dX11_isWord_17 : decode cX11_isWord 17 = .ok (.lshl, 1) := by decide +kernel
theorem dX11_isWord_18 : decode cX11_isWord 18 = .ok (.aload_n 1, 1) := by decide +kernel
theorem dX11_isWord_19 : decode cX11_isWord 19 = .ok (.iload 4, 2) := by decide +kernel
theorem dX11_isWord_21 : decode cX11_isWord 21 = .ok (.invokevirtual 140, 3) := by decide +kernel
theorem dX11_isWord_24 : decode cX11_isWord 24 = .ok (.i2l, 1) := by decide +kernel
theorem dX11_isWord_25 : decode cX11_isWord 25 = .ok (.lor, 1) := by decide +kernel
theorem dX11_isWord_26 : decode cX11_isWord 26 = .ok (.lstore_n 2, 1) := by decide +kernel
theorem dX11_isWord_27 : decode cX11_isWord 27 = .ok (.iinc 4 1, 3) := by decide +kernel
theorem dX11_isWord_30 : decode cX11_isWord 30 = .ok (.goto (-25), 3) := by decide +kernel
theorem dX11_isWord_33 : decode cX11_isWord 33 = .ok (.aload_n 0, 1) := by decide +kernel
theorem dX11_isWord_34 : decode cX11_isWord 34 = .ok (.getfield 114, 3) := by decide +kernel
theorem dX11_isWord_37 : decode cX11_isWord 37 = .ok (.iconst 2, 1) := by decide +kernel
theorem dX11_isWord_38 : decode cX11_isWord 38 = .ok (.if_icmp .ne 16, 3) := by decide +kernel
theorem dX11_isWord_41 : decode cX11_isWord 41 = .ok (.aload_n 0, 1) := by decide +kernel
theorem dX11_isWord_42 : decode cX11_isWord 42 = .ok (.getfield 127, 3) := by decide +kernel
theorem dX11_isWord_45 : decode cX11_isWord 45 = .ok (.lload_n 2, 1) := by decide +kernel
theorem dX11_isWord_46 : decode cX11_isWord 46 = .ok (.lcmp, 1) := by decide +kernel
theorem dX11_isWord_47 : decode cX11_isWord 47 = .ok (.ifCond .ne 7, 3) := by decide +kernel
theorem dX11_isWord_50 : decode cX11_isWord 50 = .ok (.iconst 1, 1) := by decide +kernel
theorem dX11_isWord_51 : decode cX11_isWord 51 = .ok (.goto 4, 3) := by decide +kernel
theorem dX11_isWord_54 : decode cX11_isWord 54 = .ok (.iconst 0, 1) := by decide +kernel
theorem dX11_isWord_55 : decode cX11_isWord 55 = .ok (.ireturn, 1) := by decide +kernel
theorem dX11_readWhole_0 : decode cX11_readWhole 0 = .ok (.aload_n 0, 1) := by decide +kernel
theorem dX11_readWhole_1 : decode cX11_readWhole 1 = .ok (.getfield 114, 3) := by decide +kernel
theorem dX11_readWhole_4 : decode cX11_readWhole 4 = .ok (.iconst 3, 1) := by decide +kernel
theorem dX11_readWhole_5 : decode cX11_readWhole 5 = .ok (.if_icmp .eq 11, 3) := by decide +kernel
theorem dX11_readWhole_8 : decode cX11_readWhole 8 = .ok (.aload_n 0, 1) := by decide +kernel
theorem dX11_readWhole_9 : decode cX11_readWhole 9 = .ok (.iconst 1, 1) := by decide +kernel
theorem dX11_readWhole_10 : decode cX11_readWhole 10 = .ok (.invokevirtual 144, 3) := by decide +kernel
theorem dX11_readWhole_13 : decode cX11_readWhole 13 = .ok (.goto 20, 3) := by decide +kernel
theorem dX11_readWhole_16 : decode cX11_readWhole 16 = .ok (.aload_n 0, 1) := by decide +kernel
theorem dX11_readWhole_17 : decode cX11_readWhole 17 = .ok (.getfield 131, 3) := by decide +kernel
theorem dX11_readWhole_20 : decode cX11_readWhole 20 = .ok (.iload_n 1, 1) := by decide +kernel
theorem dX11_readWhole_21 : decode cX11_readWhole 21 = .ok (.iload_n 2, 1) := by decide +kernel
theorem dX11_readWhole_22 : decode cX11_readWhole 22 = .ok (.invokestatic 117, 3) := by decide +kernel
theorem dX11_readWhole_25 : decode cX11_readWhole 25 = .ok (.ifCond .ne 8, 3) := by decide +kernel
theorem dX11_readWhole_28 : decode cX11_readWhole 28 = .ok (.aload_n 0, 1) := by decide +kernel
theorem dX11_readWhole_29 : decode cX11_readWhole 29 = .ok (.iconst 4, 1) := by decide +kernel
theorem dX11_readWhole_30 : decode cX11_readWhole 30 = .ok (.invokevirtual 144, 3) := by decide +kernel
theorem dX11_readWhole_33 : decode cX11_readWhole 33 = .ok (.aload_n 0, 1) := by decide +kernel
theorem dX11_readWhole_34 : decode cX11_readWhole 34 = .ok (.getfield 131, 3) := by decide +kernel
theorem dX11_readWhole_37 : decode cX11_readWhole 37 = .ok (.istore_n 3, 1) := by decide +kernel
theorem dX11_readWhole_38 : decode cX11_readWhole 38 = .ok (.aload_n 0, 1) := by decide +kernel
theorem dX11_readWhole_39 : decode cX11_readWhole 39 = .ok (.invokevirtual 148, 3) := by decide +kernel
theorem dX11_readWhole_42 : decode cX11_readWhole 42 = .ok (.aload_n 0, 1) := by decide +kernel
theorem dX11_readWhole_43 : decode cX11_readWhole 43 = .ok (.getfield 101, 3) := by decide +kernel
theorem dX11_readWhole_46 : decode cX11_readWhole 46 = .ok (.ifCond .le 7, 3) := by decide +kernel
theorem dX11_readWhole_49 : decode cX11_readWhole 49 = .ok (.iload_n 1, 1) := by decide +kernel
theorem dX11_readWhole_50 : decode cX11_readWhole 50 = .ok (.goto 4, 3) := by decide +kernel
theorem dX11_readWhole_53 : decode cX11_readWhole 53 = .ok (.iload_n 3, 1) := by decide +kernel
theorem dX11_readWhole_54 : decode cX11_readWhole 54 = .ok (.ireturn, 1) := by decide +kernel
theorem dX11_readPart_0 : decode cX11_readPart 0 = .ok (.aload_n 0, 1) := by decide +kernel
theorem dX11_readPart_1 : decode cX11_readPart 1 = .ok (.aload_n 1, 1) := by decide +kernel
theorem dX11_readPart_2 : decode cX11_readPart 2 = .ok (.invokevirtual 151, 3) := by decide +kernel
theorem dX11_readPart_5 : decode cX11_readPart 5 = .ok (.ifCond .ne 8, 3) := by decide +kernel
theorem dX11_readPart_8 : decode cX11_readPart 8 = .ok (.aload_n 0, 1) := by decide +kernel
theorem dX11_readPart_9 : decode cX11_readPart 9 = .ok (.iconst 1, 1) := by decide +kernel
theorem dX11_readPart_10 : decode cX11_readPart 10 = .ok (.invokevirtual 144, 3) := by decide +kernel
theorem dX11_readPart_13 : decode cX11_readPart 13 = .ok (.aload_n 0, 1) := by decide +kernel
theorem dX11_readPart_14 : decode cX11_readPart 14 = .ok (.invokevirtual 148, 3) := by decide +kernel
theorem dX11_readPart_17 : decode cX11_readPart 17 = .ok (.aload_n 0, 1) := by decide +kernel
theorem dX11_readPart_18 : decode cX11_readPart 18 = .ok (.iload_n 2, 1) := by decide +kernel
theorem dX11_readPart_19 : decode cX11_readPart 19 = .ok (.iload_n 3, 1) := by decide +kernel
theorem dX11_readPart_20 : decode cX11_readPart 20 = .ok (.invokevirtual 155, 3) := by decide +kernel
theorem dX11_readPart_23 : decode cX11_readPart 23 = .ok (.ireturn, 1) := by decide +kernel
theorem dX11_isName_0 : decode cX11_isName 0 = .ok (.aload_n 0, 1) := by decide +kernel
theorem dX11_isName_1 : decode cX11_isName 1 = .ok (.getfield 114, 3) := by decide +kernel
theorem dX11_isName_4 : decode cX11_isName 4 = .ok (.iconst 2, 1) := by decide +kernel
theorem dX11_isName_5 : decode cX11_isName 5 = .ok (.if_icmp .ne 34, 3) := by decide +kernel
theorem dX11_isName_8 : decode cX11_isName 8 = .ok (.aload_n 0, 1) := by decide +kernel
theorem dX11_isName_9 : decode cX11_isName 9 = .ok (.ldc 159, 2) := by decide +kernel
theorem dX11_isName_11 : decode cX11_isName 11 = .ok (.invokevirtual 151, 3) := by decide +kernel
theorem dX11_isName_14 : decode cX11_isName 14 = .ok (.ifCond .ne 25, 3) := by decide +kernel
theorem dX11_isName_17 : decode cX11_isName 17 = .ok (.aload_n 0, 1) := by decide +kernel
theorem dX11_isName_18 : decode cX11_isName 18 = .ok (.ldc 161, 2) := by decide +kernel
theorem dX11_isName_20 : decode cX11_isName 20 = .ok (.invokevirtual 151, 3) := by decide +kernel
theorem dX11_isName_23 : decode cX11_isName 23 = .ok (.ifCond .ne 16, 3) := by decide +kernel
theorem dX11_isName_26 : decode cX11_isName 26 = .ok (.aload_n 0, 1) := by decide +kernel
theorem dX11_isName_27 : decode cX11_isName 27 = .ok (.ldc 162, 2) := by decide +kernel
theorem dX11_isName_29 : decode cX11_isName 29 = .ok (.invokevirtual 151, 3) := by decide +kernel
theorem dX11_isName_32 : decode cX11_isName 32 = .ok (.ifCond .ne 7, 3) := by decide +kernel
theorem dX11_isName_35 : decode cX11_isName 35 = .ok (.iconst 1, 1) := by decide +kernel
theorem dX11_isName_36 : decode cX11_isName 36 = .ok (.goto 4, 3) := by decide +kernel
theorem dX11_isName_39 : decode cX11_isName 39 = .ok (.iconst 0, 1) := by decide +kernel
theorem dX11_isName_40 : decode cX11_isName 40 = .ok (.ireturn, 1) := by decide +kernel
theorem dX11_stageHere_0 : decode cX11_stageHere 0 = .ok (.iconst 0, 1) := by decide +kernel
theorem dX11_stageHere_1 : decode cX11_stageHere 1 = .ok (.istore_n 1, 1) := by decide +kernel
theorem dX11_stageHere_2 : decode cX11_stageHere 2 = .ok (.iload_n 1, 1) := by decide +kernel
theorem dX11_stageHere_3 : decode cX11_stageHere 3 = .ok (.aload_n 0, 1) := by decide +kernel
theorem dX11_stageHere_4 : decode cX11_stageHere 4 = .ok (.getfield 163, 3) := by decide +kernel
theorem dX11_stageHere_7 : decode cX11_stageHere 7 = .ok (.if_icmp .ge 25, 3) := by decide +kernel
theorem dX11_stageHere_10 : decode cX11_stageHere 10 = .ok (.aload_n 0, 1) := by decide +kernel
theorem dX11_stageHere_11 : decode cX11_stageHere 11 = .ok (.getfield 26, 3) := by decide +kernel
theorem dX11_stageHere_14 : decode cX11_stageHere 14 = .ok (.iload_n 1, 1) := by decide +kernel
theorem dX11_stageHere_15 : decode cX11_stageHere 15 = .ok (.laload, 1) := by decide +kernel
theorem dX11_stageHere_16 : decode cX11_stageHere 16 = .ok (.aload_n 0, 1) := by decide +kernel
theorem dX11_stageHere_17 : decode cX11_stageHere 17 = .ok (.getfield 127, 3) := by decide +kernel
theorem dX11_stageHere_20 : decode cX11_stageHere 20 = .ok (.lcmp, 1) := by decide +kernel
theorem dX11_stageHere_21 : decode cX11_stageHere 21 = .ok (.ifCond .ne 5, 3) := by decide +kernel
theorem dX11_stageHere_24 : decode cX11_stageHere 24 = .ok (.iload_n 1, 1) := by decide +kernel
theorem dX11_stageHere_25 : decode cX11_stageHere 25 = .ok (.ireturn, 1) := by decide +kernel
theorem dX11_stageHere_26 : decode cX11_stageHere 26 = .ok (.iinc 1 1, 3) := by decide +kernel
theorem dX11_stageHere_29 : decode cX11_stageHere 29 = .ok (.goto (-27), 3) := by decide +kernel
theorem dX11_stageHere_32 : decode cX11_stageHere 32 = .ok (.iconst (-1), 1) := by decide +kernel
theorem dX11_stageHere_33 : decode cX11_stageHere 33 = .ok (.ireturn, 1) := by decide +kernel
theorem dX11_readAll_0 : decode cX11_readAll 0 = .ok (.aload_n 0, 1) := by decide +kernel
theorem dX11_readAll_1 : decode cX11_readAll 1 = .ok (.iconst 0, 1) := by decide +kernel
theorem dX11_readAll_2 : decode cX11_readAll 2 = .ok (.putfield 166, 3) := by decide +kernel
theorem dX11_readAll_5 : decode cX11_readAll 5 = .ok (.aload_n 0, 1) := by decide +kernel
theorem dX11_readAll_6 : decode cX11_readAll 6 = .ok (.iconst 0, 1) := by decide +kernel
theorem dX11_readAll_7 : decode cX11_readAll 7 = .ok (.putfield 163, 3) := by decide +kernel
theorem dX11_readAll_10 : decode cX11_readAll 10 = .ok (.aload_n 0, 1) := by decide +kernel
theorem dX11_readAll_11 : decode cX11_readAll 11 = .ok (.iconst 0, 1) := by decide +kernel
theorem dX11_readAll_12 : decode cX11_readAll 12 = .ok (.putfield 169, 3) := by decide +kernel
theorem dX11_readAll_15 : decode cX11_readAll 15 = .ok (.aload_n 0, 1) := by decide +kernel
theorem dX11_readAll_16 : decode cX11_readAll 16 = .ok (.invokevirtual 148, 3) := by decide +kernel
theorem dX11_readAll_19 : decode cX11_readAll 19 = .ok (.aload_n 0, 1) := by decide +kernel
theorem dX11_readAll_20 : decode cX11_readAll 20 = .ok (.invokevirtual 172, 3) := by decide +kernel
theorem dX11_readAll_23 : decode cX11_readAll 23 = .ok (.aload_n 0, 1) := by decide +kernel
theorem dX11_readAll_24 : decode cX11_readAll 24 = .ok (.getfield 114, 3) := by decide +kernel
theorem dX11_readAll_27 : decode cX11_readAll 27 = .ok (.iconst 4, 1) := by decide +kernel
theorem dX11_readAll_28 : decode cX11_readAll 28 = .ok (.if_icmp .ne 14, 3) := by decide +kernel
theorem dX11_readAll_31 : decode cX11_readAll 31 = .ok (.aload_n 0, 1) := by decide +kernel
theorem dX11_readAll_32 : decode cX11_readAll 32 = .ok (.invokevirtual 148, 3) := by decide +kernel
theorem dX11_readAll_35 : decode cX11_readAll 35 = .ok (.aload_n 0, 1) := by decide +kernel
theorem dX11_readAll_36 : decode cX11_readAll 36 = .ok (.invokevirtual 172, 3) := by decide +kernel
theorem dX11_readAll_39 : decode cX11_readAll 39 = .ok (.goto (-16), 3) := by decide +kernel
theorem dX11_readAll_42 : decode cX11_readAll 42 = .ok (.aload_n 0, 1) := by decide +kernel
theorem dX11_readAll_43 : decode cX11_readAll 43 = .ok (.getfield 114, 3) := by decide +kernel
theorem dX11_readAll_46 : decode cX11_readAll 46 = .ok (.iconst 1, 1) := by decide +kernel
theorem dX11_readAll_47 : decode cX11_readAll 47 = .ok (.if_icmp .eq 8, 3) := by decide +kernel
theorem dX11_readAll_50 : decode cX11_readAll 50 = .ok (.aload_n 0, 1) := by decide +kernel
theorem dX11_readAll_51 : decode cX11_readAll 51 = .ok (.iconst 1, 1) := by decide +kernel
theorem dX11_readAll_52 : decode cX11_readAll 52 = .ok (.invokevirtual 144, 3) := by decide +kernel
theorem dX11_readAll_55 : decode cX11_readAll 55 = .ok (.aload_n 0, 1) := by decide +kernel
theorem dX11_readAll_56 : decode cX11_readAll 56 = .ok (.getfield 101, 3) := by decide +kernel
theorem dX11_readAll_59 : decode cX11_readAll 59 = .ok (.ifCond .ne 16, 3) := by decide +kernel
theorem dX11_readAll_62 : decode cX11_readAll 62 = .ok (.aload_n 0, 1) := by decide +kernel
theorem dX11_readAll_63 : decode cX11_readAll 63 = .ok (.getfield 163, 3) := by decide +kernel
theorem dX11_readAll_66 : decode cX11_readAll 66 = .ok (.ifCond .ne 9, 3) := by decide +kernel
theorem dX11_readAll_69 : decode cX11_readAll 69 = .ok (.aload_n 0, 1) := by decide +kernel
theorem dX11_readAll_70 : decode cX11_readAll 70 = .ok (.bipush 6, 2) := by decide +kernel
theorem dX11_readAll_72 : decode cX11_readAll 72 = .ok (.invokevirtual 144, 3) := by decide +kernel
theorem dX11_readAll_75 : decode cX11_readAll 75 = .ok (.return_, 1) := by decide +kernel
theorem dX11_readLine_0 : decode cX11_readLine 0 = .ok (.aload_n 0, 1) := by decide +kernel
theorem dX11_readLine_1 : decode cX11_readLine 1 = .ok (.ldc 159, 2) := by decide +kernel
theorem dX11_readLine_3 : decode cX11_readLine 3 = .ok (.invokevirtual 151, 3) := by decide +kernel
theorem dX11_readLine_6 : decode cX11_readLine 6 = .ok (.ifCond .eq 10, 3) := by decide +kernel
theorem dX11_readLine_9 : decode cX11_readLine 9 = .ok (.aload_n 0, 1) := by decide +kernel
theorem dX11_readLine_10 : decode cX11_readLine 10 = .ok (.invokevirtual 175, 3) := by decide +kernel
theorem dX11_readLine_13 : decode cX11_readLine 13 = .ok (.goto 40, 3) := by decide +kernel
theorem dX11_readLine_16 : decode cX11_readLine 16 = .ok (.aload_n 0, 1) := by decide +kernel
theorem dX11_readLine_17 : decode cX11_readLine 17 = .ok (.ldc 161, 2) := by decide +kernel
theorem dX11_readLine_19 : decode cX11_readLine 19 = .ok (.invokevirtual 151, 3) := by decide +kernel
theorem dX11_readLine_22 : decode cX11_readLine 22 = .ok (.ifCond .eq 10, 3) := by decide +kernel
theorem dX11_readLine_25 : decode cX11_readLine 25 = .ok (.aload_n 0, 1) := by decide +kernel
theorem dX11_readLine_26 : decode cX11_readLine 26 = .ok (.invokevirtual 178, 3) := by decide +kernel
theorem dX11_readLine_29 : decode cX11_readLine 29 = .ok (.goto 24, 3) := by decide +kernel
theorem dX11_readLine_32 : decode cX11_readLine 32 = .ok (.aload_n 0, 1) := by decide +kernel
theorem dX11_readLine_33 : decode cX11_readLine 33 = .ok (.ldc 162, 2) := by decide +kernel
theorem dX11_readLine_35 : decode cX11_readLine 35 = .ok (.invokevirtual 151, 3) := by decide +kernel
theorem dX11_readLine_38 : decode cX11_readLine 38 = .ok (.ifCond .eq 10, 3) := by decide +kernel
theorem dX11_readLine_41 : decode cX11_readLine 41 = .ok (.aload_n 0, 1) := by decide +kernel
theorem dX11_readLine_42 : decode cX11_readLine 42 = .ok (.invokevirtual 181, 3) := by decide +kernel
theorem dX11_readLine_45 : decode cX11_readLine 45 = .ok (.goto 8, 3) := by decide +kernel
theorem dX11_readLine_48 : decode cX11_readLine 48 = .ok (.aload_n 0, 1) := by decide +kernel
theorem dX11_readLine_49 : decode cX11_readLine 49 = .ok (.iconst 1, 1) := by decide +kernel
theorem dX11_readLine_50 : decode cX11_readLine 50 = .ok (.invokevirtual 144, 3) := by decide +kernel
theorem dX11_readLine_53 : decode cX11_readLine 53 = .ok (.return_, 1) := by decide +kernel
theorem dX11_readRocket_0 : decode cX11_readRocket 0 = .ok (.aload_n 0, 1) := by decide +kernel
theorem dX11_readRocket_1 : decode cX11_readRocket 1 = .ok (.getfield 166, 3) := by decide +kernel
theorem dX11_readRocket_4 : decode cX11_readRocket 4 = .ok (.ifCond .le 8, 3) := by decide +kernel
theorem dX11_readRocket_7 : decode cX11_readRocket 7 = .ok (.aload_n 0, 1) := by decide +kernel
theorem dX11_readRocket_8 : decode cX11_readRocket 8 = .ok (.iconst 3, 1) := by decide +kernel
theorem dX11_readRocket_9 : decode cX11_readRocket 9 = .ok (.invokevirtual 144, 3) := by decide +kernel
theorem dX11_readRocket_12 : decode cX11_readRocket 12 = .ok (.aload_n 0, 1) := by decide +kernel
theorem dX11_readRocket_13 : decode cX11_readRocket 13 = .ok (.invokevirtual 148, 3) := by decide +kernel
theorem dX11_readRocket_16 : decode cX11_readRocket 16 = .ok (.aload_n 0, 1) := by decide +kernel
theorem dX11_readRocket_17 : decode cX11_readRocket 17 = .ok (.aload_n 0, 1) := by decide +kernel
theorem dX11_readRocket_18 : decode cX11_readRocket 18 = .ok (.ldc 184, 2) := by decide +kernel
theorem dX11_readRocket_20 : decode cX11_readRocket 20 = .ok (.iconst 1, 1) := by decide +kernel
theorem dX11_readRocket_21 : decode cX11_readRocket 21 = .ok (.bipush 40, 2) := by decide +kernel
theorem dX11_readRocket_23 : decode cX11_readRocket 23 = .ok (.invokevirtual 186, 3) := by decide +kernel
theorem dX11_readRocket_26 : decode cX11_readRocket 26 = .ok (.putfield 190, 3) := by decide +kernel
theorem dX11_readRocket_29 : decode cX11_readRocket 29 = .ok (.aload_n 0, 1) := by decide +kernel
theorem dX11_readRocket_30 : decode cX11_readRocket 30 = .ok (.ldc 193, 2) := by decide +kernel
theorem dX11_readRocket_32 : decode cX11_readRocket 32 = .ok (.iconst 2, 1) := by decide +kernel
theorem dX11_readRocket_33 : decode cX11_readRocket 33 = .ok (.bipush 99, 2) := by decide +kernel
theorem dX11_readRocket_35 : decode cX11_readRocket 35 = .ok (.invokevirtual 186, 3) := by decide +kernel
theorem dX11_readRocket_38 : decode cX11_readRocket 38 = .ok (.istore_n 1, 1) := by decide +kernel
theorem dX11_readRocket_39 : decode cX11_readRocket 39 = .ok (.aload_n 0, 1) := by decide +kernel
theorem dX11_readRocket_40 : decode cX11_readRocket 40 = .ok (.aload_n 0, 1) := by decide +kernel
theorem dX11_readRocket_41 : decode cX11_readRocket 41 = .ok (.ldc 195, 2) := by decide +kernel
theorem dX11_readRocket_43 : decode cX11_readRocket 43 = .ok (.iconst 1, 1) := by decide +kernel
theorem dX11_readRocket_44 : decode cX11_readRocket 44 = .ok (.iload_n 1, 1) := by decide +kernel
theorem dX11_readRocket_45 : decode cX11_readRocket 45 = .ok (.iconst 1, 1) := by decide +kernel
theorem dX11_readRocket_46 : decode cX11_readRocket 46 = .ok (.isub, 1) := by decide +kernel
theorem dX11_readRocket_47 : decode cX11_readRocket 47 = .ok (.invokevirtual 186, 3) := by decide +kernel
theorem dX11_readRocket_50 : decode cX11_readRocket 50 = .ok (.putfield 197, 3) := by decide +kernel
theorem dX11_readRocket_53 : decode cX11_readRocket 53 = .ok (.aload_n 0, 1) := by decide +kernel
theorem dX11_readRocket_54 : decode cX11_readRocket 54 = .ok (.aload_n 0, 1) := by decide +kernel
theorem dX11_readRocket_55 : decode cX11_readRocket 55 = .ok (.ldc 200, 2) := by decide +kernel
theorem dX11_readRocket_57 : decode cX11_readRocket 57 = .ok (.iconst 1, 1) := by decide +kernel
theorem dX11_readRocket_58 : decode cX11_readRocket 58 = .ok (.bipush 12, 2) := by decide +kernel
theorem dX11_readRocket_60 : decode cX11_readRocket 60 = .ok (.invokevirtual 186, 3) := by decide +kernel
theorem dX11_readRocket_63 : decode cX11_readRocket 63 = .ok (.putfield 202, 3) := by decide +kernel
theorem dX11_readRocket_66 : decode cX11_readRocket 66 = .ok (.aload_n 0, 1) := by decide +kernel
theorem dX11_readRocket_67 : decode cX11_readRocket 67 = .ok (.aload_n 0, 1) := by decide +kernel
theorem dX11_readRocket_68 : decode cX11_readRocket 68 = .ok (.ldc 205, 2) := by decide +kernel
theorem dX11_readRocket_70 : decode cX11_readRocket 70 = .ok (.iconst 0, 1) := by decide +kernel
theorem dX11_readRocket_71 : decode cX11_readRocket 71 = .ok (.bipush 99, 2) := by decide +kernel
theorem dX11_readRocket_73 : decode cX11_readRocket 73 = .ok (.invokevirtual 186, 3) := by decide +kernel
theorem dX11_readRocket_76 : decode cX11_readRocket 76 = .ok (.putfield 207, 3) := by decide +kernel
theorem dX11_readRocket_79 : decode cX11_readRocket 79 = .ok (.aload_n 0, 1) := by decide +kernel
theorem dX11_readRocket_80 : decode cX11_readRocket 80 = .ok (.getfield 101, 3) := by decide +kernel
theorem dX11_readRocket_83 : decode cX11_readRocket 83 = .ok (.ifCond .ne 8, 3) := by decide +kernel
theorem dX11_readRocket_86 : decode cX11_readRocket 86 = .ok (.aload_n 0, 1) := by decide +kernel
theorem dX11_readRocket_87 : decode cX11_readRocket 87 = .ok (.iload_n 1, 1) := by decide +kernel
theorem dX11_readRocket_88 : decode cX11_readRocket 88 = .ok (.putfield 166, 3) := by decide +kernel
theorem dX11_readRocket_91 : decode cX11_readRocket 91 = .ok (.return_, 1) := by decide +kernel
theorem dX11_begins_0 : decode cX11_begins 0 = .ok (.iload_n 1, 1) := by decide +kernel
theorem dX11_begins_1 : decode cX11_begins 1 = .ok (.ifCond .eq 8, 3) := by decide +kernel
theorem dX11_begins_4 : decode cX11_begins 4 = .ok (.aload_n 0, 1) := by decide +kernel
theorem dX11_begins_5 : decode cX11_begins 5 = .ok (.iconst 5, 1) := by decide +kernel
theorem dX11_begins_6 : decode cX11_begins 6 = .ok (.invokevirtual 144, 3) := by decide +kernel
theorem dX11_begins_9 : decode cX11_begins 9 = .ok (.aload_n 0, 1) := by decide +kernel
theorem dX11_begins_10 : decode cX11_begins 10 = .ok (.getfield 166, 3) := by decide +kernel
theorem dX11_begins_13 : decode cX11_begins 13 = .ok (.ifCond .ne 9, 3) := by decide +kernel
theorem dX11_begins_16 : decode cX11_begins 16 = .ok (.aload_n 0, 1) := by decide +kernel
theorem dX11_begins_17 : decode cX11_begins 17 = .ok (.bipush 6, 2) := by decide +kernel
theorem dX11_begins_19 : decode cX11_begins 19 = .ok (.invokevirtual 144, 3) := by decide +kernel
theorem dX11_begins_22 : decode cX11_begins 22 = .ok (.aload_n 0, 1) := by decide +kernel
theorem dX11_begins_23 : decode cX11_begins 23 = .ok (.invokevirtual 148, 3) := by decide +kernel
theorem dX11_begins_26 : decode cX11_begins 26 = .ok (.return_, 1) := by decide +kernel
theorem dX11_readKind_0 : decode cX11_readKind 0 = .ok (.aload_n 0, 1) := by decide +kernel
theorem dX11_readKind_1 : decode cX11_readKind 1 = .ok (.ldc 210, 2) := by decide +kernel
theorem dX11_readKind_3 : decode cX11_readKind 3 = .ok (.invokevirtual 151, 3) := by decide +kernel
theorem dX11_readKind_6 : decode cX11_readKind 6 = .ok (.ifCond .eq 7, 3) := by decide +kernel
theorem dX11_readKind_9 : decode cX11_readKind 9 = .ok (.iconst 2, 1) := by decide +kernel
theorem dX11_readKind_10 : decode cX11_readKind 10 = .ok (.goto 30, 3) := by decide +kernel
theorem dX11_readKind_13 : decode cX11_readKind 13 = .ok (.aload_n 0, 1) := by decide +kernel
theorem dX11_readKind_14 : decode cX11_readKind 14 = .ok (.ldc 212, 2) := by decide +kernel
theorem dX11_readKind_16 : decode cX11_readKind 16 = .ok (.invokevirtual 151, 3) := by decide +kernel
theorem dX11_readKind_19 : decode cX11_readKind 19 = .ok (.ifCond .eq 7, 3) := by decide +kernel
theorem dX11_readKind_22 : decode cX11_readKind 22 = .ok (.iconst 3, 1) := by decide +kernel
theorem dX11_readKind_23 : decode cX11_readKind 23 = .ok (.goto 17, 3) := by decide +kernel
theorem dX11_readKind_26 : decode cX11_readKind 26 = .ok (.aload_n 0, 1) := by decide +kernel
theorem dX11_readKind_27 : decode cX11_readKind 27 = .ok (.ldc 214, 2) := by decide +kernel
theorem dX11_readKind_29 : decode cX11_readKind 29 = .ok (.invokevirtual 151, 3) := by decide +kernel
theorem dX11_readKind_32 : decode cX11_readKind 32 = .ok (.ifCond .eq 7, 3) := by decide +kernel
theorem dX11_readKind_35 : decode cX11_readKind 35 = .ok (.iconst 4, 1) := by decide +kernel
theorem dX11_readKind_36 : decode cX11_readKind 36 = .ok (.goto 4, 3) := by decide +kernel
theorem dX11_readKind_39 : decode cX11_readKind 39 = .ok (.iconst (-1), 1) := by decide +kernel
theorem dX11_readKind_40 : decode cX11_readKind 40 = .ok (.istore_n 1, 1) := by decide +kernel
theorem dX11_readKind_41 : decode cX11_readKind 41 = .ok (.iload_n 1, 1) := by decide +kernel
theorem dX11_readKind_42 : decode cX11_readKind 42 = .ok (.iconst (-1), 1) := by decide +kernel
theorem dX11_readKind_43 : decode cX11_readKind 43 = .ok (.if_icmp .ne 8, 3) := by decide +kernel
theorem dX11_readKind_46 : decode cX11_readKind 46 = .ok (.aload_n 0, 1) := by decide +kernel
theorem dX11_readKind_47 : decode cX11_readKind 47 = .ok (.iconst 1, 1) := by decide +kernel
theorem dX11_readKind_48 : decode cX11_readKind 48 = .ok (.invokevirtual 144, 3) := by decide +kernel
theorem dX11_readKind_51 : decode cX11_readKind 51 = .ok (.aload_n 0, 1) := by decide +kernel
theorem dX11_readKind_52 : decode cX11_readKind 52 = .ok (.invokevirtual 148, 3) := by decide +kernel
theorem dX11_readKind_55 : decode cX11_readKind 55 = .ok (.iload_n 1, 1) := by decide +kernel
theorem dX11_readKind_56 : decode cX11_readKind 56 = .ok (.ireturn, 1) := by decide +kernel
theorem dX11_readStageLine_0 : decode cX11_readStageLine 0 = .ok (.aload_n 0, 1) := by decide +kernel
theorem dX11_readStageLine_1 : decode cX11_readStageLine 1 = .ok (.aload_n 0, 1) := by decide +kernel
theorem dX11_readStageLine_2 : decode cX11_readStageLine 2 = .ok (.getfield 163, 3) := by decide +kernel
theorem dX11_readStageLine_5 : decode cX11_readStageLine 5 = .ok (.iconst 3, 1) := by decide +kernel
theorem dX11_readStageLine_6 : decode cX11_readStageLine 6 = .ok (.if_icmp .ne 7, 3) := by decide +kernel
theorem dX11_readStageLine_9 : decode cX11_readStageLine 9 = .ok (.iconst 1, 1) := by decide +kernel
theorem dX11_readStageLine_10 : decode cX11_readStageLine 10 = .ok (.goto 4, 3) := by decide +kernel
theorem dX11_readStageLine_13 : decode cX11_readStageLine 13 = .ok (.iconst 0, 1) := by decide +kernel
theorem dX11_readStageLine_14 : decode cX11_readStageLine 14 = .ok (.invokevirtual 216, 3) := by decide +kernel
theorem dX11_readStageLine_17 : decode cX11_readStageLine 17 = .ok (.aload_n 0, 1) := by decide +kernel
theorem dX11_readStageLine_18 : decode cX11_readStageLine 18 = .ok (.invokevirtual 220, 3) := by decide +kernel
theorem dX11_readStageLine_21 : decode cX11_readStageLine 21 = .ok (.ifCond .ne 8, 3) := by decide +kernel
theorem dX11_readStageLine_24 : decode cX11_readStageLine 24 = .ok (.aload_n 0, 1) := by decide +kernel
theorem dX11_readStageLine_25 : decode cX11_readStageLine 25 = .ok (.iconst 1, 1) := by decide +kernel
theorem dX11_readStageLine_26 : decode cX11_readStageLine 26 = .ok (.invokevirtual 144, 3) := by decide +kernel
theorem dX11_readStageLine_29 : decode cX11_readStageLine 29 = .ok (.aload_n 0, 1) := by decide +kernel
theorem dX11_readStageLine_30 : decode cX11_readStageLine 30 = .ok (.getfield 101, 3) := by decide +kernel
theorem dX11_readStageLine_33 : decode cX11_readStageLine 33 = .ok (.ifCond .ne 16, 3) := by decide +kernel
theorem dX11_readStageLine_36 : decode cX11_readStageLine 36 = .ok (.aload_n 0, 1) := by decide +kernel
theorem dX11_readStageLine_37 : decode cX11_readStageLine 37 = .ok (.invokevirtual 224, 3) := by decide +kernel
theorem dX11_readStageLine_40 : decode cX11_readStageLine 40 = .ok (.iconst (-1), 1) := by decide +kernel
theorem dX11_readStageLine_41 : decode cX11_readStageLine 41 = .ok (.if_icmp .eq 8, 3) := by decide +kernel
theorem dX11_readStageLine_44 : decode cX11_readStageLine 44 = .ok (.aload_n 0, 1) := by decide +kernel
theorem dX11_readStageLine_45 : decode cX11_readStageLine 45 = .ok (.iconst 3, 1) := by decide +kernel
theorem dX11_readStageLine_46 : decode cX11_readStageLine 46 = .ok (.invokevirtual 144, 3) := by decide +kernel
theorem dX11_readStageLine_49 : decode cX11_readStageLine 49 = .ok (.aload_n 0, 1) := by decide +kernel
theorem dX11_readStageLine_50 : decode cX11_readStageLine 50 = .ok (.getfield 127, 3) := by decide +kernel
theorem dX11_readStageLine_53 : decode cX11_readStageLine 53 = .ok (.lstore_n 1, 1) := by decide +kernel
theorem dX11_readStageLine_54 : decode cX11_readStageLine 54 = .ok (.aload_n 0, 1) := by decide +kernel
theorem dX11_readStageLine_55 : decode cX11_readStageLine 55 = .ok (.invokevirtual 148, 3) := by decide +kernel
theorem dX11_readStageLine_58 : decode cX11_readStageLine 58 = .ok (.aload_n 0, 1) := by decide +kernel
theorem dX11_readStageLine_59 : decode cX11_readStageLine 59 = .ok (.invokevirtual 227, 3) := by decide +kernel
theorem dX11_readStageLine_62 : decode cX11_readStageLine 62 = .ok (.istore_n 3, 1) := by decide +kernel
theorem dX11_readStageLine_63 : decode cX11_readStageLine 63 = .ok (.aload_n 0, 1) := by decide +kernel
theorem dX11_readStageLine_64 : decode cX11_readStageLine 64 = .ok (.ldc 230, 2) := by decide +kernel
theorem dX11_readStageLine_66 : decode cX11_readStageLine 66 = .ok (.iconst 1, 1) := by decide +kernel
theorem dX11_readStageLine_67 : decode cX11_readStageLine 67 = .ok (.bipush 50, 2) := by decide +kernel
theorem dX11_readStageLine_69 : decode cX11_readStageLine 69 = .ok (.invokevirtual 186, 3) := by decide +kernel
theorem dX11_readStageLine_72 : decode cX11_readStageLine 72 = .ok (.istore 4, 2) := by decide +kernel
theorem dX11_readStageLine_74 : decode cX11_readStageLine 74 = .ok (.aload_n 0, 1) := by decide +kernel
theorem dX11_readStageLine_75 : decode cX11_readStageLine 75 = .ok (.ldc 232, 2) := by decide +kernel
theorem dX11_readStageLine_77 : decode cX11_readStageLine 77 = .ok (.iconst 0, 1) := by decide +kernel
theorem dX11_readStageLine_78 : decode cX11_readStageLine 78 = .ok (.bipush 90, 2) := by decide +kernel
theorem dX11_readStageLine_80 : decode cX11_readStageLine 80 = .ok (.invokevirtual 186, 3) := by decide +kernel
theorem dX11_readStageLine_83 : decode cX11_readStageLine 83 = .ok (.istore 5, 2) := by decide +kernel
theorem dX11_readStageLine_85 : decode cX11_readStageLine 85 = .ok (.aload_n 0, 1) := by decide +kernel
theorem dX11_readStageLine_86 : decode cX11_readStageLine 86 = .ok (.ldc 234, 2) := by decide +kernel
theorem dX11_readStageLine_88 : decode cX11_readStageLine 88 = .ok (.iconst 1, 1) := by decide +kernel
theorem dX11_readStageLine_89 : decode cX11_readStageLine 89 = .ok (.bipush 16, 2) := by decide +kernel
theorem dX11_readStageLine_91 : decode cX11_readStageLine 91 = .ok (.invokevirtual 186, 3) := by decide +kernel
theorem dX11_readStageLine_94 : decode cX11_readStageLine 94 = .ok (.istore 6, 2) := by decide +kernel
theorem dX11_readStageLine_96 : decode cX11_readStageLine 96 = .ok (.aload_n 0, 1) := by decide +kernel
theorem dX11_readStageLine_97 : decode cX11_readStageLine 97 = .ok (.ldc 236, 2) := by decide +kernel
theorem dX11_readStageLine_99 : decode cX11_readStageLine 99 = .ok (.iconst 1, 1) := by decide +kernel
theorem dX11_readStageLine_100 : decode cX11_readStageLine 100 = .ok (.bipush 9, 2) := by decide +kernel
theorem dX11_readStageLine_102 : decode cX11_readStageLine 102 = .ok (.invokevirtual 186, 3) := by decide +kernel
theorem dX11_readStageLine_105 : decode cX11_readStageLine 105 = .ok (.istore 7, 2) := by decide +kernel
theorem dX11_readStageLine_107 : decode cX11_readStageLine 107 = .ok (.aload_n 0, 1) := by decide +kernel
theorem dX11_readStageLine_108 : decode cX11_readStageLine 108 = .ok (.ldc 238, 2) := by decide +kernel
theorem dX11_readStageLine_110 : decode cX11_readStageLine 110 = .ok (.iconst 1, 1) := by decide +kernel
theorem dX11_readStageLine_111 : decode cX11_readStageLine 111 = .ok (.sipush 999, 3) := by decide +kernel
theorem dX11_readStageLine_114 : decode cX11_readStageLine 114 = .ok (.invokevirtual 186, 3) := by decide +kernel
theorem dX11_readStageLine_117 : decode cX11_readStageLine 117 = .ok (.istore 8, 2) := by decide +kernel
theorem dX11_readStageLine_119 : decode cX11_readStageLine 119 = .ok (.aload_n 0, 1) := by decide +kernel
theorem dX11_readStageLine_120 : decode cX11_readStageLine 120 = .ok (.ldc 240, 2) := by decide +kernel
theorem dX11_readStageLine_122 : decode cX11_readStageLine 122 = .ok (.iconst 1, 1) := by decide +kernel
theorem dX11_readStageLine_123 : decode cX11_readStageLine 123 = .ok (.bipush 9, 2) := by decide +kernel
theorem dX11_readStageLine_125 : decode cX11_readStageLine 125 = .ok (.invokevirtual 186, 3) := by decide +kernel
theorem dX11_readStageLine_128 : decode cX11_readStageLine 128 = .ok (.istore 9, 2) := by decide +kernel
theorem dX11_readStageLine_130 : decode cX11_readStageLine 130 = .ok (.aload_n 0, 1) := by decide +kernel
theorem dX11_readStageLine_131 : decode cX11_readStageLine 131 = .ok (.ldc 242, 2) := by decide +kernel
theorem dX11_readStageLine_133 : decode cX11_readStageLine 133 = .ok (.iconst 0, 1) := by decide +kernel
theorem dX11_readStageLine_134 : decode cX11_readStageLine 134 = .ok (.sipush 400, 3) := by decide +kernel
theorem dX11_readStageLine_137 : decode cX11_readStageLine 137 = .ok (.invokevirtual 186, 3) := by decide +kernel
theorem dX11_readStageLine_140 : decode cX11_readStageLine 140 = .ok (.istore 10, 2) := by decide +kernel
theorem dX11_readStageLine_142 : decode cX11_readStageLine 142 = .ok (.aload_n 0, 1) := by decide +kernel
theorem dX11_readStageLine_143 : decode cX11_readStageLine 143 = .ok (.ldc 244, 2) := by decide +kernel
theorem dX11_readStageLine_145 : decode cX11_readStageLine 145 = .ok (.iconst 0, 1) := by decide +kernel
theorem dX11_readStageLine_146 : decode cX11_readStageLine 146 = .ok (.iload 7, 2) := by decide +kernel
theorem dX11_readStageLine_148 : decode cX11_readStageLine 148 = .ok (.iconst 1, 1) := by decide +kernel
theorem dX11_readStageLine_149 : decode cX11_readStageLine 149 = .ok (.isub, 1) := by decide +kernel
theorem dX11_readStageLine_150 : decode cX11_readStageLine 150 = .ok (.invokevirtual 186, 3) := by decide +kernel
theorem dX11_readStageLine_153 : decode cX11_readStageLine 153 = .ok (.istore 11, 2) := by decide +kernel
theorem dX11_readStageLine_155 : decode cX11_readStageLine 155 = .ok (.aload_n 0, 1) := by decide +kernel
theorem dX11_readStageLine_156 : decode cX11_readStageLine 156 = .ok (.getfield 101, 3) := by decide +kernel
theorem dX11_readStageLine_159 : decode cX11_readStageLine 159 = .ok (.ifCond .le 4, 3) := by decide +kernel
theorem dX11_readStageLine_162 : decode cX11_readStageLine 162 = .ok (.return_, 1) := by decide +kernel
theorem dX11_readStageLine_163 : decode cX11_readStageLine 163 = .ok (.bipush 9, 2) := by decide +kernel
theorem dX11_readStageLine_165 : decode cX11_readStageLine 165 = .ok (.aload_n 0, 1) := by decide +kernel
theorem dX11_readStageLine_166 : decode cX11_readStageLine 166 = .ok (.getfield 163, 3) := by decide +kernel
theorem dX11_readStageLine_169 : decode cX11_readStageLine 169 = .ok (.imul, 1) := by decide +kernel
theorem dX11_readStageLine_170 : decode cX11_readStageLine 170 = .ok (.istore 12, 2) := by decide +kernel
theorem dX11_readStageLine_172 : decode cX11_readStageLine 172 = .ok (.aload_n 0, 1) := by decide +kernel
theorem dX11_readStageLine_173 : decode cX11_readStageLine 173 = .ok (.getfield 26, 3) := by decide +kernel
theorem dX11_readStageLine_176 : decode cX11_readStageLine 176 = .ok (.aload_n 0, 1) := by decide +kernel
theorem dX11_readStageLine_177 : decode cX11_readStageLine 177 = .ok (.getfield 163, 3) := by decide +kernel
theorem dX11_readStageLine_180 : decode cX11_readStageLine 180 = .ok (.lload_n 1, 1) := by decide +kernel
theorem dX11_readStageLine_181 : decode cX11_readStageLine 181 = .ok (.lastore, 1) := by decide +kernel
theorem dX11_readStageLine_182 : decode cX11_readStageLine 182 = .ok (.aload_n 0, 1) := by decide +kernel
theorem dX11_readStageLine_183 : decode cX11_readStageLine 183 = .ok (.getfield 20, 3) := by decide +kernel
theorem dX11_readStageLine_186 : decode cX11_readStageLine 186 = .ok (.iload 12, 2) := by decide +kernel
theorem dX11_readStageLine_188 : decode cX11_readStageLine 188 = .ok (.iconst 0, 1) := by decide +kernel
theorem dX11_readStageLine_189 : decode cX11_readStageLine 189 = .ok (.iadd, 1) := by decide +kernel
theorem dX11_readStageLine_190 : decode cX11_readStageLine 190 = .ok (.iload_n 3, 1) := by decide +kernel
theorem dX11_readStageLine_191 : decode cX11_readStageLine 191 = .ok (.iastore, 1) := by decide +kernel
theorem dX11_readStageLine_192 : decode cX11_readStageLine 192 = .ok (.aload_n 0, 1) := by decide +kernel
theorem dX11_readStageLine_193 : decode cX11_readStageLine 193 = .ok (.getfield 20, 3) := by decide +kernel
theorem dX11_readStageLine_196 : decode cX11_readStageLine 196 = .ok (.iload 12, 2) := by decide +kernel
theorem dX11_readStageLine_198 : decode cX11_readStageLine 198 = .ok (.iconst 1, 1) := by decide +kernel
theorem dX11_readStageLine_199 : decode cX11_readStageLine 199 = .ok (.iadd, 1) := by decide +kernel
theorem dX11_readStageLine_200 : decode cX11_readStageLine 200 = .ok (.iload 4, 2) := by decide +kernel
theorem dX11_readStageLine_202 : decode cX11_readStageLine 202 = .ok (.iastore, 1) := by decide +kernel
theorem dX11_readStageLine_203 : decode cX11_readStageLine 203 = .ok (.aload_n 0, 1) := by decide +kernel
theorem dX11_readStageLine_204 : decode cX11_readStageLine 204 = .ok (.getfield 20, 3) := by decide +kernel
theorem dX11_readStageLine_207 : decode cX11_readStageLine 207 = .ok (.iload 12, 2) := by decide +kernel
theorem dX11_readStageLine_209 : decode cX11_readStageLine 209 = .ok (.iconst 2, 1) := by decide +kernel
theorem dX11_readStageLine_210 : decode cX11_readStageLine 210 = .ok (.iadd, 1) := by decide +kernel
theorem dX11_readStageLine_211 : decode cX11_readStageLine 211 = .ok (.iload 5, 2) := by decide +kernel
theorem dX11_readStageLine_213 : decode cX11_readStageLine 213 = .ok (.iastore, 1) := by decide +kernel
theorem dX11_readStageLine_214 : decode cX11_readStageLine 214 = .ok (.aload_n 0, 1) := by decide +kernel
theorem dX11_readStageLine_215 : decode cX11_readStageLine 215 = .ok (.getfield 20, 3) := by decide +kernel
theorem dX11_readStageLine_218 : decode cX11_readStageLine 218 = .ok (.iload 12, 2) := by decide +kernel
theorem dX11_readStageLine_220 : decode cX11_readStageLine 220 = .ok (.iconst 3, 1) := by decide +kernel
theorem dX11_readStageLine_221 : decode cX11_readStageLine 221 = .ok (.iadd, 1) := by decide +kernel
theorem dX11_readStageLine_222 : decode cX11_readStageLine 222 = .ok (.iload 6, 2) := by decide +kernel
theorem dX11_readStageLine_224 : decode cX11_readStageLine 224 = .ok (.iastore, 1) := by decide +kernel
theorem dX11_readStageLine_225 : decode cX11_readStageLine 225 = .ok (.aload_n 0, 1) := by decide +kernel
theorem dX11_readStageLine_226 : decode cX11_readStageLine 226 = .ok (.getfield 20, 3) := by decide +kernel
theorem dX11_readStageLine_229 : decode cX11_readStageLine 229 = .ok (.iload 12, 2) := by decide +kernel
theorem dX11_readStageLine_231 : decode cX11_readStageLine 231 = .ok (.iconst 4, 1) := by decide +kernel
theorem dX11_readStageLine_232 : decode cX11_readStageLine 232 = .ok (.iadd, 1) := by decide +kernel
theorem dX11_readStageLine_233 : decode cX11_readStageLine 233 = .ok (.iload 7, 2) := by decide +kernel
theorem dX11_readStageLine_235 : decode cX11_readStageLine 235 = .ok (.iastore, 1) := by decide +kernel
theorem dX11_readStageLine_236 : decode cX11_readStageLine 236 = .ok (.aload_n 0, 1) := by decide +kernel
theorem dX11_readStageLine_237 : decode cX11_readStageLine 237 = .ok (.getfield 20, 3) := by decide +kernel
theorem dX11_readStageLine_240 : decode cX11_readStageLine 240 = .ok (.iload 12, 2) := by decide +kernel
theorem dX11_readStageLine_242 : decode cX11_readStageLine 242 = .ok (.iconst 5, 1) := by decide +kernel
theorem dX11_readStageLine_243 : decode cX11_readStageLine 243 = .ok (.iadd, 1) := by decide +kernel
theorem dX11_readStageLine_244 : decode cX11_readStageLine 244 = .ok (.iload 8, 2) := by decide +kernel
theorem dX11_readStageLine_246 : decode cX11_readStageLine 246 = .ok (.iastore, 1) := by decide +kernel
theorem dX11_readStageLine_247 : decode cX11_readStageLine 247 = .ok (.aload_n 0, 1) := by decide +kernel
theorem dX11_readStageLine_248 : decode cX11_readStageLine 248 = .ok (.getfield 20, 3) := by decide +kernel
theorem dX11_readStageLine_251 : decode cX11_readStageLine 251 = .ok (.iload 12, 2) := by decide +kernel
theorem dX11_readStageLine_253 : decode cX11_readStageLine 253 = .ok (.bipush 6, 2) := by decide +kernel
theorem dX11_readStageLine_255 : decode cX11_readStageLine 255 = .ok (.iadd, 1) := by decide +kernel
theorem dX11_readStageLine_256 : decode cX11_readStageLine 256 = .ok (.iload 9, 2) := by decide +kernel
theorem dX11_readStageLine_258 : decode cX11_readStageLine 258 = .ok (.iastore, 1) := by decide +kernel
theorem dX11_readStageLine_259 : decode cX11_readStageLine 259 = .ok (.aload_n 0, 1) := by decide +kernel
theorem dX11_readStageLine_260 : decode cX11_readStageLine 260 = .ok (.getfield 20, 3) := by decide +kernel
theorem dX11_readStageLine_263 : decode cX11_readStageLine 263 = .ok (.iload 12, 2) := by decide +kernel
theorem dX11_readStageLine_265 : decode cX11_readStageLine 265 = .ok (.bipush 7, 2) := by decide +kernel
theorem dX11_readStageLine_267 : decode cX11_readStageLine 267 = .ok (.iadd, 1) := by decide +kernel
theorem dX11_readStageLine_268 : decode cX11_readStageLine 268 = .ok (.iload 10, 2) := by decide +kernel
theorem dX11_readStageLine_270 : decode cX11_readStageLine 270 = .ok (.iastore, 1) := by decide +kernel
theorem dX11_readStageLine_271 : decode cX11_readStageLine 271 = .ok (.aload_n 0, 1) := by decide +kernel
theorem dX11_readStageLine_272 : decode cX11_readStageLine 272 = .ok (.getfield 20, 3) := by decide +kernel
theorem dX11_readStageLine_275 : decode cX11_readStageLine 275 = .ok (.iload 12, 2) := by decide +kernel
theorem dX11_readStageLine_277 : decode cX11_readStageLine 277 = .ok (.bipush 8, 2) := by decide +kernel
theorem dX11_readStageLine_279 : decode cX11_readStageLine 279 = .ok (.iadd, 1) := by decide +kernel
theorem dX11_readStageLine_280 : decode cX11_readStageLine 280 = .ok (.iload 11, 2) := by decide +kernel
theorem dX11_readStageLine_282 : decode cX11_readStageLine 282 = .ok (.iastore, 1) := by decide +kernel
theorem dX11_readStageLine_283 : decode cX11_readStageLine 283 = .ok (.aload_n 0, 1) := by decide +kernel
theorem dX11_readStageLine_284 : decode cX11_readStageLine 284 = .ok (.dup, 1) := by decide +kernel
theorem dX11_readStageLine_285 : decode cX11_readStageLine 285 = .ok (.getfield 163, 3) := by decide +kernel
theorem dX11_readStageLine_288 : decode cX11_readStageLine 288 = .ok (.iconst 1, 1) := by decide +kernel
theorem dX11_readStageLine_289 : decode cX11_readStageLine 289 = .ok (.iadd, 1) := by decide +kernel
theorem dX11_readStageLine_290 : decode cX11_readStageLine 290 = .ok (.putfield 163, 3) := by decide +kernel
theorem dX11_readStageLine_293 : decode cX11_readStageLine 293 = .ok (.return_, 1) := by decide +kernel
theorem dX11_latestFail_0 : decode cX11_latestFail 0 = .ok (.iconst 0, 1) := by decide +kernel
theorem dX11_latestFail_1 : decode cX11_latestFail 1 = .ok (.istore_n 2, 1) := by decide +kernel
theorem dX11_latestFail_2 : decode cX11_latestFail 2 = .ok (.iconst 0, 1) := by decide +kernel
theorem dX11_latestFail_3 : decode cX11_latestFail 3 = .ok (.istore_n 3, 1) := by decide +kernel
theorem dX11_latestFail_4 : decode cX11_latestFail 4 = .ok (.iload_n 3, 1) := by decide +kernel
theorem dX11_latestFail_5 : decode cX11_latestFail 5 = .ok (.aload_n 0, 1) := by decide +kernel
theorem dX11_latestFail_6 : decode cX11_latestFail 6 = .ok (.getfield 169, 3) := by decide +kernel
theorem dX11_latestFail_9 : decode cX11_latestFail 9 = .ok (.if_icmp .ge 32, 3) := by decide +kernel
theorem dX11_latestFail_12 : decode cX11_latestFail 12 = .ok (.aload_n 0, 1) := by decide +kernel
theorem dX11_latestFail_13 : decode cX11_latestFail 13 = .ok (.getfield 23, 3) := by decide +kernel
theorem dX11_latestFail_16 : decode cX11_latestFail 16 = .ok (.iconst 3, 1) := by decide +kernel
theorem dX11_latestFail_17 : decode cX11_latestFail 17 = .ok (.iload_n 3, 1) := by decide +kernel
theorem dX11_latestFail_18 : decode cX11_latestFail 18 = .ok (.imul, 1) := by decide +kernel
theorem dX11_latestFail_19 : decode cX11_latestFail 19 = .ok (.iaload, 1) := by decide +kernel
theorem dX11_latestFail_20 : decode cX11_latestFail 20 = .ok (.iload_n 1, 1) := by decide +kernel
theorem dX11_latestFail_21 : decode cX11_latestFail 21 = .ok (.if_icmp .ne 14, 3) := by decide +kernel
theorem dX11_latestFail_24 : decode cX11_latestFail 24 = .ok (.aload_n 0, 1) := by decide +kernel
theorem dX11_latestFail_25 : decode cX11_latestFail 25 = .ok (.getfield 23, 3) := by decide +kernel
theorem dX11_latestFail_28 : decode cX11_latestFail 28 = .ok (.iconst 3, 1) := by decide +kernel
theorem dX11_latestFail_29 : decode cX11_latestFail 29 = .ok (.iload_n 3, 1) := by decide +kernel
theorem dX11_latestFail_30 : decode cX11_latestFail 30 = .ok (.imul, 1) := by decide +kernel
theorem dX11_latestFail_31 : decode cX11_latestFail 31 = .ok (.iconst 1, 1) := by decide +kernel
theorem dX11_latestFail_32 : decode cX11_latestFail 32 = .ok (.iadd, 1) := by decide +kernel
theorem dX11_latestFail_33 : decode cX11_latestFail 33 = .ok (.iaload, 1) := by decide +kernel
theorem dX11_latestFail_34 : decode cX11_latestFail 34 = .ok (.istore_n 2, 1) := by decide +kernel
theorem dX11_latestFail_35 : decode cX11_latestFail 35 = .ok (.iinc 3 1, 3) := by decide +kernel
theorem dX11_latestFail_38 : decode cX11_latestFail 38 = .ok (.goto (-34), 3) := by decide +kernel
theorem dX11_latestFail_41 : decode cX11_latestFail 41 = .ok (.iload_n 2, 1) := by decide +kernel
theorem dX11_latestFail_42 : decode cX11_latestFail 42 = .ok (.ireturn, 1) := by decide +kernel
theorem dX11_readFailLine_0 : decode cX11_readFailLine 0 = .ok (.aload_n 0, 1) := by decide +kernel
theorem dX11_readFailLine_1 : decode cX11_readFailLine 1 = .ok (.aload_n 0, 1) := by decide +kernel
theorem dX11_readFailLine_2 : decode cX11_readFailLine 2 = .ok (.getfield 169, 3) := by decide +kernel
theorem dX11_readFailLine_5 : decode cX11_readFailLine 5 = .ok (.bipush 6, 2) := by decide +kernel
theorem dX11_readFailLine_7 : decode cX11_readFailLine 7 = .ok (.if_icmp .ne 7, 3) := by decide +kernel
theorem dX11_readFailLine_10 : decode cX11_readFailLine 10 = .ok (.iconst 1, 1) := by decide +kernel
theorem dX11_readFailLine_11 : decode cX11_readFailLine 11 = .ok (.goto 4, 3) := by decide +kernel
theorem dX11_readFailLine_14 : decode cX11_readFailLine 14 = .ok (.iconst 0, 1) := by decide +kernel
theorem dX11_readFailLine_15 : decode cX11_readFailLine 15 = .ok (.invokevirtual 216, 3) := by decide +kernel
theorem dX11_readFailLine_18 : decode cX11_readFailLine 18 = .ok (.aload_n 0, 1) := by decide +kernel
theorem dX11_readFailLine_19 : decode cX11_readFailLine 19 = .ok (.invokevirtual 220, 3) := by decide +kernel
theorem dX11_readFailLine_22 : decode cX11_readFailLine 22 = .ok (.ifCond .ne 8, 3) := by decide +kernel
theorem dX11_readFailLine_25 : decode cX11_readFailLine 25 = .ok (.aload_n 0, 1) := by decide +kernel
theorem dX11_readFailLine_26 : decode cX11_readFailLine 26 = .ok (.iconst 1, 1) := by decide +kernel
theorem dX11_readFailLine_27 : decode cX11_readFailLine 27 = .ok (.invokevirtual 144, 3) := by decide +kernel
theorem dX11_readFailLine_30 : decode cX11_readFailLine 30 = .ok (.aload_n 0, 1) := by decide +kernel
theorem dX11_readFailLine_31 : decode cX11_readFailLine 31 = .ok (.getfield 101, 3) := by decide +kernel
theorem dX11_readFailLine_34 : decode cX11_readFailLine 34 = .ok (.ifCond .le 7, 3) := by decide +kernel
theorem dX11_readFailLine_37 : decode cX11_readFailLine 37 = .ok (.iconst (-1), 1) := by decide +kernel
theorem dX11_readFailLine_38 : decode cX11_readFailLine 38 = .ok (.goto 7, 3) := by decide +kernel
theorem dX11_readFailLine_41 : decode cX11_readFailLine 41 = .ok (.aload_n 0, 1) := by decide +kernel
theorem dX11_readFailLine_42 : decode cX11_readFailLine 42 = .ok (.invokevirtual 224, 3) := by decide +kernel
theorem dX11_readFailLine_45 : decode cX11_readFailLine 45 = .ok (.istore_n 1, 1) := by decide +kernel
theorem dX11_readFailLine_46 : decode cX11_readFailLine 46 = .ok (.iload_n 1, 1) := by decide +kernel
theorem dX11_readFailLine_47 : decode cX11_readFailLine 47 = .ok (.iconst (-1), 1) := by decide +kernel
theorem dX11_readFailLine_48 : decode cX11_readFailLine 48 = .ok (.if_icmp .ne 8, 3) := by decide +kernel
theorem dX11_readFailLine_51 : decode cX11_readFailLine 51 = .ok (.aload_n 0, 1) := by decide +kernel
theorem dX11_readFailLine_52 : decode cX11_readFailLine 52 = .ok (.iconst 2, 1) := by decide +kernel
theorem dX11_readFailLine_53 : decode cX11_readFailLine 53 = .ok (.invokevirtual 144, 3) := by decide +kernel
theorem dX11_readFailLine_56 : decode cX11_readFailLine 56 = .ok (.aload_n 0, 1) := by decide +kernel
theorem dX11_readFailLine_57 : decode cX11_readFailLine 57 = .ok (.invokevirtual 148, 3) := by decide +kernel
theorem dX11_readFailLine_60 : decode cX11_readFailLine 60 = .ok (.aload_n 0, 1) := by decide +kernel
theorem dX11_readFailLine_61 : decode cX11_readFailLine 61 = .ok (.aload_n 0, 1) := by decide +kernel
theorem dX11_readFailLine_62 : decode cX11_readFailLine 62 = .ok (.getfield 101, 3) := by decide +kernel
theorem dX11_readFailLine_65 : decode cX11_readFailLine 65 = .ok (.ifCond .le 7, 3) := by decide +kernel
theorem dX11_readFailLine_68 : decode cX11_readFailLine 68 = .ok (.iconst 1, 1) := by decide +kernel
theorem dX11_readFailLine_69 : decode cX11_readFailLine 69 = .ok (.goto 10, 3) := by decide +kernel
theorem dX11_readFailLine_72 : decode cX11_readFailLine 72 = .ok (.aload_n 0, 1) := by decide +kernel
theorem dX11_readFailLine_73 : decode cX11_readFailLine 73 = .ok (.iload_n 1, 1) := by decide +kernel
theorem dX11_readFailLine_74 : decode cX11_readFailLine 74 = .ok (.invokevirtual 246, 3) := by decide +kernel
theorem dX11_readFailLine_77 : decode cX11_readFailLine 77 = .ok (.iconst 1, 1) := by decide +kernel
theorem dX11_readFailLine_78 : decode cX11_readFailLine 78 = .ok (.iadd, 1) := by decide +kernel
theorem dX11_readFailLine_79 : decode cX11_readFailLine 79 = .ok (.bipush 99, 2) := by decide +kernel
theorem dX11_readFailLine_81 : decode cX11_readFailLine 81 = .ok (.invokevirtual 155, 3) := by decide +kernel
theorem dX11_readFailLine_84 : decode cX11_readFailLine 84 = .ok (.istore_n 2, 1) := by decide +kernel
theorem dX11_readFailLine_85 : decode cX11_readFailLine 85 = .ok (.aload_n 0, 1) := by decide +kernel
theorem dX11_readFailLine_86 : decode cX11_readFailLine 86 = .ok (.iconst 1, 1) := by decide +kernel
theorem dX11_readFailLine_87 : decode cX11_readFailLine 87 = .ok (.bipush 9, 2) := by decide +kernel
theorem dX11_readFailLine_89 : decode cX11_readFailLine 89 = .ok (.invokevirtual 155, 3) := by decide +kernel
theorem dX11_readFailLine_92 : decode cX11_readFailLine 92 = .ok (.istore_n 3, 1) := by decide +kernel
theorem dX11_readFailLine_93 : decode cX11_readFailLine 93 = .ok (.aload_n 0, 1) := by decide +kernel
theorem dX11_readFailLine_94 : decode cX11_readFailLine 94 = .ok (.getfield 101, 3) := by decide +kernel
theorem dX11_readFailLine_97 : decode cX11_readFailLine 97 = .ok (.ifCond .le 4, 3) := by decide +kernel
theorem dX11_readFailLine_100 : decode cX11_readFailLine 100 = .ok (.return_, 1) := by decide +kernel
theorem dX11_readFailLine_101 : decode cX11_readFailLine 101 = .ok (.aload_n 0, 1) := by decide +kernel
theorem dX11_readFailLine_102 : decode cX11_readFailLine 102 = .ok (.getfield 23, 3) := by decide +kernel
theorem dX11_readFailLine_105 : decode cX11_readFailLine 105 = .ok (.iconst 3, 1) := by decide +kernel
theorem dX11_readFailLine_106 : decode cX11_readFailLine 106 = .ok (.aload_n 0, 1) := by decide +kernel
theorem dX11_readFailLine_107 : decode cX11_readFailLine 107 = .ok (.getfield 169, 3) := by decide +kernel
theorem dX11_readFailLine_110 : decode cX11_readFailLine 110 = .ok (.imul, 1) := by decide +kernel
theorem dX11_readFailLine_111 : decode cX11_readFailLine 111 = .ok (.iload_n 1, 1) := by decide +kernel
theorem dX11_readFailLine_112 : decode cX11_readFailLine 112 = .ok (.iastore, 1) := by decide +kernel
theorem dX11_readFailLine_113 : decode cX11_readFailLine 113 = .ok (.aload_n 0, 1) := by decide +kernel
theorem dX11_readFailLine_114 : decode cX11_readFailLine 114 = .ok (.getfield 23, 3) := by decide +kernel
theorem dX11_readFailLine_117 : decode cX11_readFailLine 117 = .ok (.iconst 3, 1) := by decide +kernel
theorem dX11_readFailLine_118 : decode cX11_readFailLine 118 = .ok (.aload_n 0, 1) := by decide +kernel
theorem dX11_readFailLine_119 : decode cX11_readFailLine 119 = .ok (.getfield 169, 3) := by decide +kernel
theorem dX11_readFailLine_122 : decode cX11_readFailLine 122 = .ok (.imul, 1) := by decide +kernel
theorem dX11_readFailLine_123 : decode cX11_readFailLine 123 = .ok (.iconst 1, 1) := by decide +kernel
theorem dX11_readFailLine_124 : decode cX11_readFailLine 124 = .ok (.iadd, 1) := by decide +kernel
theorem dX11_readFailLine_125 : decode cX11_readFailLine 125 = .ok (.iload_n 2, 1) := by decide +kernel
theorem dX11_readFailLine_126 : decode cX11_readFailLine 126 = .ok (.iastore, 1) := by decide +kernel
theorem dX11_readFailLine_127 : decode cX11_readFailLine 127 = .ok (.aload_n 0, 1) := by decide +kernel
theorem dX11_readFailLine_128 : decode cX11_readFailLine 128 = .ok (.getfield 23, 3) := by decide +kernel
theorem dX11_readFailLine_131 : decode cX11_readFailLine 131 = .ok (.iconst 3, 1) := by decide +kernel
theorem dX11_readFailLine_132 : decode cX11_readFailLine 132 = .ok (.aload_n 0, 1) := by decide +kernel
theorem dX11_readFailLine_133 : decode cX11_readFailLine 133 = .ok (.getfield 169, 3) := by decide +kernel
theorem dX11_readFailLine_136 : decode cX11_readFailLine 136 = .ok (.imul, 1) := by decide +kernel
theorem dX11_readFailLine_137 : decode cX11_readFailLine 137 = .ok (.iconst 2, 1) := by decide +kernel
theorem dX11_readFailLine_138 : decode cX11_readFailLine 138 = .ok (.iadd, 1) := by decide +kernel
theorem dX11_readFailLine_139 : decode cX11_readFailLine 139 = .ok (.iload_n 3, 1) := by decide +kernel
theorem dX11_readFailLine_140 : decode cX11_readFailLine 140 = .ok (.iastore, 1) := by decide +kernel
theorem dX11_readFailLine_141 : decode cX11_readFailLine 141 = .ok (.aload_n 0, 1) := by decide +kernel
theorem dX11_readFailLine_142 : decode cX11_readFailLine 142 = .ok (.dup, 1) := by decide +kernel
theorem dX11_readFailLine_143 : decode cX11_readFailLine 143 = .ok (.getfield 169, 3) := by decide +kernel
theorem dX11_readFailLine_146 : decode cX11_readFailLine 146 = .ok (.iconst 1, 1) := by decide +kernel
theorem dX11_readFailLine_147 : decode cX11_readFailLine 147 = .ok (.iadd, 1) := by decide +kernel
theorem dX11_readFailLine_148 : decode cX11_readFailLine 148 = .ok (.putfield 169, 3) := by decide +kernel
theorem dX11_readFailLine_151 : decode cX11_readFailLine 151 = .ok (.return_, 1) := by decide +kernel
theorem dX11_feed_0 : decode cX11_feed 0 = .ok (.aload_n 0, 1) := by decide +kernel
theorem dX11_feed_1 : decode cX11_feed 1 = .ok (.iconst 0, 1) := by decide +kernel
theorem dX11_feed_2 : decode cX11_feed 2 = .ok (.putfield 92, 3) := by decide +kernel
theorem dX11_feed_5 : decode cX11_feed 5 = .ok (.aload_n 0, 1) := by decide +kernel
theorem dX11_feed_6 : decode cX11_feed 6 = .ok (.getfield 249, 3) := by decide +kernel
theorem dX11_feed_9 : decode cX11_feed 9 = .ok (.bipush 20, 2) := by decide +kernel
theorem dX11_feed_11 : decode cX11_feed 11 = .ok (.iadd, 1) := by decide +kernel
theorem dX11_feed_12 : decode cX11_feed 12 = .ok (.sipush 700, 3) := by decide +kernel
theorem dX11_feed_15 : decode cX11_feed 15 = .ok (.if_icmp .le 5, 3) := by decide +kernel
theorem dX11_feed_18 : decode cX11_feed 18 = .ok (.iconst (-1), 1) := by decide +kernel
theorem dX11_feed_19 : decode cX11_feed 19 = .ok (.ireturn, 1) := by decide +kernel
theorem dX11_feed_20 : decode cX11_feed 20 = .ok (.iconst 0, 1) := by decide +kernel
theorem dX11_feed_21 : decode cX11_feed 21 = .ok (.istore 6, 2) := by decide +kernel
theorem dX11_feed_23 : decode cX11_feed 23 = .ok (.iload 6, 2) := by decide +kernel
theorem dX11_feed_25 : decode cX11_feed 25 = .ok (.bipush 20, 2) := by decide +kernel
theorem dX11_feed_27 : decode cX11_feed 27 = .ok (.if_icmp .ge 90, 3) := by decide +kernel
theorem dX11_feed_30 : decode cX11_feed 30 = .ok (.iload 6, 2) := by decide +kernel
theorem dX11_feed_32 : decode cX11_feed 32 = .ok (.iconst 4, 1) := by decide +kernel
theorem dX11_feed_33 : decode cX11_feed 33 = .ok (.if_icmp .ge 7, 3) := by decide +kernel
theorem dX11_feed_36 : decode cX11_feed 36 = .ok (.iload_n 1, 1) := by decide +kernel
theorem dX11_feed_37 : decode cX11_feed 37 = .ok (.goto 39, 3) := by decide +kernel
theorem dX11_feed_40 : decode cX11_feed 40 = .ok (.iload 6, 2) := by decide +kernel
theorem dX11_feed_42 : decode cX11_feed 42 = .ok (.bipush 8, 2) := by decide +kernel
theorem dX11_feed_44 : decode cX11_feed 44 = .ok (.if_icmp .ge 7, 3) := by decide +kernel
theorem dX11_feed_47 : decode cX11_feed 47 = .ok (.iload_n 2, 1) := by decide +kernel
theorem dX11_feed_48 : decode cX11_feed 48 = .ok (.goto 28, 3) := by decide +kernel
theorem dX11_feed_51 : decode cX11_feed 51 = .ok (.iload 6, 2) := by decide +kernel
theorem dX11_feed_53 : decode cX11_feed 53 = .ok (.bipush 12, 2) := by decide +kernel
theorem dX11_feed_55 : decode cX11_feed 55 = .ok (.if_icmp .ge 7, 3) := by decide +kernel
theorem dX11_feed_58 : decode cX11_feed 58 = .ok (.iload_n 3, 1) := by decide +kernel
theorem dX11_feed_59 : decode cX11_feed 59 = .ok (.goto 17, 3) := by decide +kernel
theorem dX11_feed_62 : decode cX11_feed 62 = .ok (.iload 6, 2) := by decide +kernel
theorem dX11_feed_64 : decode cX11_feed 64 = .ok (.bipush 16, 2) := by decide +kernel
theorem dX11_feed_66 : decode cX11_feed 66 = .ok (.if_icmp .ge 8, 3) := by decide +kernel
theorem dX11_feed_69 : decode cX11_feed 69 = .ok (.iload 4, 2) := by decide +kernel
theorem dX11_feed_71 : decode cX11_feed 71 = .ok (.goto 5, 3) := by decide +kernel
theorem dX11_feed_74 : decode cX11_feed 74 = .ok (.iload 5, 2) := by decide +kernel
theorem dX11_feed_76 : decode cX11_feed 76 = .ok (.istore 7, 2) := by decide +kernel
theorem dX11_feed_78 : decode cX11_feed 78 = .ok (.aload_n 0, 1) := by decide +kernel
theorem dX11_feed_79 : decode cX11_feed 79 = .ok (.getfield 36, 3) := by decide +kernel
theorem dX11_feed_82 : decode cX11_feed 82 = .ok (.aload_n 0, 1) := by decide +kernel
theorem dX11_feed_83 : decode cX11_feed 83 = .ok (.getfield 249, 3) := by decide +kernel
theorem dX11_feed_86 : decode cX11_feed 86 = .ok (.iload 7, 2) := by decide +kernel
theorem dX11_feed_88 : decode cX11_feed 88 = .ok (.bipush 24, 2) := by decide +kernel
theorem dX11_feed_90 : decode cX11_feed 90 = .ok (.bipush 8, 2) := by decide +kernel
theorem dX11_feed_92 : decode cX11_feed 92 = .ok (.iload 6, 2) := by decide +kernel
theorem dX11_feed_94 : decode cX11_feed 94 = .ok (.iconst 4, 1) := by decide +kernel
theorem dX11_feed_95 : decode cX11_feed 95 = .ok (.irem, 1) := by decide +kernel
theorem dX11_feed_96 : decode cX11_feed 96 = .ok (.imul, 1) := by decide +kernel
theorem dX11_feed_97 : decode cX11_feed 97 = .ok (.isub, 1) := by decide +kernel
theorem dX11_feed_98 : decode cX11_feed 98 = .ok (.ishr, 1) := by decide +kernel
theorem dX11_feed_99 : decode cX11_feed 99 = .ok (.i2b, 1) := by decide +kernel
theorem dX11_feed_100 : decode cX11_feed 100 = .ok (.bastore, 1) := by decide +kernel
theorem dX11_feed_101 : decode cX11_feed 101 = .ok (.aload_n 0, 1) := by decide +kernel
theorem dX11_feed_102 : decode cX11_feed 102 = .ok (.dup, 1) := by decide +kernel
theorem dX11_feed_103 : decode cX11_feed 103 = .ok (.getfield 249, 3) := by decide +kernel
theorem dX11_feed_106 : decode cX11_feed 106 = .ok (.iconst 1, 1) := by decide +kernel
theorem dX11_feed_107 : decode cX11_feed 107 = .ok (.iadd, 1) := by decide +kernel
theorem dX11_feed_108 : decode cX11_feed 108 = .ok (.putfield 249, 3) := by decide +kernel
theorem dX11_feed_111 : decode cX11_feed 111 = .ok (.iinc 6 1, 3) := by decide +kernel
theorem dX11_feed_114 : decode cX11_feed 114 = .ok (.goto (-91), 3) := by decide +kernel
theorem dX11_feed_117 : decode cX11_feed 117 = .ok (.aload_n 0, 1) := by decide +kernel
theorem dX11_feed_118 : decode cX11_feed 118 = .ok (.getfield 249, 3) := by decide +kernel
theorem dX11_feed_121 : decode cX11_feed 121 = .ok (.ireturn, 1) := by decide +kernel
theorem dX11_rocket_0 : decode cX11_rocket 0 = .ok (.aload_n 0, 1) := by decide +kernel
theorem dX11_rocket_1 : decode cX11_rocket 1 = .ok (.iconst 0, 1) := by decide +kernel
theorem dX11_rocket_2 : decode cX11_rocket 2 = .ok (.putfield 92, 3) := by decide +kernel
theorem dX11_rocket_5 : decode cX11_rocket 5 = .ok (.iload_n 1, 1) := by decide +kernel
theorem dX11_rocket_6 : decode cX11_rocket 6 = .ok (.ifCond .lt 11, 3) := by decide +kernel
theorem dX11_rocket_9 : decode cX11_rocket 9 = .ok (.iload_n 1, 1) := by decide +kernel
theorem dX11_rocket_10 : decode cX11_rocket 10 = .ok (.aload_n 0, 1) := by decide +kernel
theorem dX11_rocket_11 : decode cX11_rocket 11 = .ok (.getfield 249, 3) := by decide +kernel
theorem dX11_rocket_14 : decode cX11_rocket 14 = .ok (.if_icmp .le 9, 3) := by decide +kernel
theorem dX11_rocket_17 : decode cX11_rocket 17 = .ok (.aload_n 0, 1) := by decide +kernel
theorem dX11_rocket_18 : decode cX11_rocket 18 = .ok (.iconst 2, 1) := by decide +kernel
theorem dX11_rocket_19 : decode cX11_rocket 19 = .ok (.invokevirtual 252, 3) := by decide +kernel
theorem dX11_rocket_22 : decode cX11_rocket 22 = .ok (.ireturn, 1) := by decide +kernel
theorem dX11_rocket_23 : decode cX11_rocket 23 = .ok (.aload_n 0, 1) := by decide +kernel
theorem dX11_rocket_24 : decode cX11_rocket 24 = .ok (.iload_n 1, 1) := by decide +kernel
theorem dX11_rocket_25 : decode cX11_rocket 25 = .ok (.putfield 98, 3) := by decide +kernel
theorem dX11_rocket_28 : decode cX11_rocket 28 = .ok (.aload_n 0, 1) := by decide +kernel
theorem dX11_rocket_29 : decode cX11_rocket 29 = .ok (.iconst 0, 1) := by decide +kernel
theorem dX11_rocket_30 : decode cX11_rocket 30 = .ok (.putfield 249, 3) := by decide +kernel
theorem dX11_rocket_33 : decode cX11_rocket 33 = .ok (.aload_n 0, 1) := by decide +kernel
theorem dX11_rocket_34 : decode cX11_rocket 34 = .ok (.iconst 0, 1) := by decide +kernel
theorem dX11_rocket_35 : decode cX11_rocket 35 = .ok (.putfield 104, 3) := by decide +kernel
theorem dX11_rocket_38 : decode cX11_rocket 38 = .ok (.aload_n 0, 1) := by decide +kernel
theorem dX11_rocket_39 : decode cX11_rocket 39 = .ok (.iconst 0, 1) := by decide +kernel
theorem dX11_rocket_40 : decode cX11_rocket 40 = .ok (.putfield 101, 3) := by decide +kernel
theorem dX11_rocket_43 : decode cX11_rocket 43 = .ok (.aload_n 0, 1) := by decide +kernel
theorem dX11_rocket_44 : decode cX11_rocket 44 = .ok (.invokevirtual 255, 3) := by decide +kernel
theorem dX11_rocket_47 : decode cX11_rocket 47 = .ok (.aload_n 0, 1) := by decide +kernel
theorem dX11_rocket_48 : decode cX11_rocket 48 = .ok (.getfield 101, 3) := by decide +kernel
theorem dX11_rocket_51 : decode cX11_rocket 51 = .ok (.ifCond .le 18, 3) := by decide +kernel
theorem dX11_rocket_54 : decode cX11_rocket 54 = .ok (.aload_n 0, 1) := by decide +kernel
theorem dX11_rocket_55 : decode cX11_rocket 55 = .ok (.iconst 4, 1) := by decide +kernel
theorem dX11_rocket_56 : decode cX11_rocket 56 = .ok (.putfield 95, 3) := by decide +kernel
theorem dX11_rocket_59 : decode cX11_rocket 59 = .ok (.aload_n 0, 1) := by decide +kernel
theorem dX11_rocket_60 : decode cX11_rocket 60 = .ok (.aload_n 0, 1) := by decide +kernel
theorem dX11_rocket_61 : decode cX11_rocket 61 = .ok (.getfield 111, 3) := by decide +kernel
theorem dX11_rocket_64 : decode cX11_rocket 64 = .ok (.putfield 9, 3) := by decide +kernel
theorem dX11_rocket_67 : decode cX11_rocket 67 = .ok (.iconst (-1), 1) := by decide +kernel
theorem dX11_rocket_68 : decode cX11_rocket 68 = .ok (.ireturn, 1) := by decide +kernel
theorem dX11_rocket_69 : decode cX11_rocket 69 = .ok (.aload_n 0, 1) := by decide +kernel
theorem dX11_rocket_70 : decode cX11_rocket 70 = .ok (.iconst 1, 1) := by decide +kernel
theorem dX11_rocket_71 : decode cX11_rocket 71 = .ok (.putfield 258, 3) := by decide +kernel
theorem dX11_rocket_74 : decode cX11_rocket 74 = .ok (.aload_n 0, 1) := by decide +kernel
theorem dX11_rocket_75 : decode cX11_rocket 75 = .ok (.aload_n 0, 1) := by decide +kernel
theorem dX11_rocket_76 : decode cX11_rocket 76 = .ok (.getfield 166, 3) := by decide +kernel
theorem dX11_rocket_79 : decode cX11_rocket 79 = .ok (.putfield 262, 3) := by decide +kernel
theorem dX11_rocket_82 : decode cX11_rocket 82 = .ok (.aload_n 0, 1) := by decide +kernel
theorem dX11_rocket_83 : decode cX11_rocket 83 = .ok (.aload_n 0, 1) := by decide +kernel
theorem dX11_rocket_84 : decode cX11_rocket 84 = .ok (.getfield 197, 3) := by decide +kernel
theorem dX11_rocket_87 : decode cX11_rocket 87 = .ok (.putfield 265, 3) := by decide +kernel
theorem dX11_rocket_90 : decode cX11_rocket 90 = .ok (.aload_n 0, 1) := by decide +kernel
theorem dX11_rocket_91 : decode cX11_rocket 91 = .ok (.aload_n 0, 1) := by decide +kernel
theorem dX11_rocket_92 : decode cX11_rocket 92 = .ok (.getfield 207, 3) := by decide +kernel
theorem dX11_rocket_95 : decode cX11_rocket 95 = .ok (.putfield 268, 3) := by decide +kernel
theorem dX11_rocket_98 : decode cX11_rocket 98 = .ok (.aload_n 0, 1) := by decide +kernel
theorem dX11_rocket_99 : decode cX11_rocket 99 = .ok (.aload_n 0, 1) := by decide +kernel
theorem dX11_rocket_100 : decode cX11_rocket 100 = .ok (.getfield 163, 3) := by decide +kernel
theorem dX11_rocket_103 : decode cX11_rocket 103 = .ok (.putfield 270, 3) := by decide +kernel
theorem dX11_rocket_106 : decode cX11_rocket 106 = .ok (.aload_n 0, 1) := by decide +kernel
theorem dX11_rocket_107 : decode cX11_rocket 107 = .ok (.aload_n 0, 1) := by decide +kernel
theorem dX11_rocket_108 : decode cX11_rocket 108 = .ok (.getfield 169, 3) := by decide +kernel
theorem dX11_rocket_111 : decode cX11_rocket 111 = .ok (.putfield 273, 3) := by decide +kernel
theorem dX11_rocket_114 : decode cX11_rocket 114 = .ok (.iconst 0, 1) := by decide +kernel
theorem dX11_rocket_115 : decode cX11_rocket 115 = .ok (.istore_n 2, 1) := by decide +kernel
theorem dX11_rocket_116 : decode cX11_rocket 116 = .ok (.iload_n 2, 1) := by decide +kernel
theorem dX11_rocket_117 : decode cX11_rocket 117 = .ok (.bipush 27, 2) := by decide +kernel
theorem dX11_rocket_119 : decode cX11_rocket 119 = .ok (.if_icmp .ge 21, 3) := by decide +kernel
theorem dX11_rocket_122 : decode cX11_rocket 122 = .ok (.aload_n 0, 1) := by decide +kernel
theorem dX11_rocket_123 : decode cX11_rocket 123 = .ok (.getfield 13, 3) := by decide +kernel
theorem dX11_rocket_126 : decode cX11_rocket 126 = .ok (.iload_n 2, 1) := by decide +kernel
theorem dX11_rocket_127 : decode cX11_rocket 127 = .ok (.aload_n 0, 1) := by decide +kernel
theorem dX11_rocket_128 : decode cX11_rocket 128 = .ok (.getfield 20, 3) := by decide +kernel
theorem dX11_rocket_131 : decode cX11_rocket 131 = .ok (.iload_n 2, 1) := by decide +kernel
theorem dX11_rocket_132 : decode cX11_rocket 132 = .ok (.iaload, 1) := by decide +kernel
theorem dX11_rocket_133 : decode cX11_rocket 133 = .ok (.iastore, 1) := by decide +kernel
theorem dX11_rocket_134 : decode cX11_rocket 134 = .ok (.iinc 2 1, 3) := by decide +kernel
theorem dX11_rocket_137 : decode cX11_rocket 137 = .ok (.goto (-21), 3) := by decide +kernel
theorem dX11_rocket_140 : decode cX11_rocket 140 = .ok (.iconst 0, 1) := by decide +kernel
theorem dX11_rocket_141 : decode cX11_rocket 141 = .ok (.istore_n 2, 1) := by decide +kernel
theorem dX11_rocket_142 : decode cX11_rocket 142 = .ok (.iload_n 2, 1) := by decide +kernel
theorem dX11_rocket_143 : decode cX11_rocket 143 = .ok (.bipush 18, 2) := by decide +kernel
theorem dX11_rocket_145 : decode cX11_rocket 145 = .ok (.if_icmp .ge 21, 3) := by decide +kernel
theorem dX11_rocket_148 : decode cX11_rocket 148 = .ok (.aload_n 0, 1) := by decide +kernel
theorem dX11_rocket_149 : decode cX11_rocket 149 = .ok (.getfield 17, 3) := by decide +kernel
theorem dX11_rocket_152 : decode cX11_rocket 152 = .ok (.iload_n 2, 1) := by decide +kernel
theorem dX11_rocket_153 : decode cX11_rocket 153 = .ok (.aload_n 0, 1) := by decide +kernel
theorem dX11_rocket_154 : decode cX11_rocket 154 = .ok (.getfield 23, 3) := by decide +kernel
theorem dX11_rocket_157 : decode cX11_rocket 157 = .ok (.iload_n 2, 1) := by decide +kernel
theorem dX11_rocket_158 : decode cX11_rocket 158 = .ok (.iaload, 1) := by decide +kernel
theorem dX11_rocket_159 : decode cX11_rocket 159 = .ok (.iastore, 1) := by decide +kernel
theorem dX11_rocket_160 : decode cX11_rocket 160 = .ok (.iinc 2 1, 3) := by decide +kernel
theorem dX11_rocket_163 : decode cX11_rocket 163 = .ok (.goto (-21), 3) := by decide +kernel
theorem dX11_rocket_166 : decode cX11_rocket 166 = .ok (.aload_n 0, 1) := by decide +kernel
theorem dX11_rocket_167 : decode cX11_rocket 167 = .ok (.iconst 0, 1) := by decide +kernel
theorem dX11_rocket_168 : decode cX11_rocket 168 = .ok (.putfield 276, 3) := by decide +kernel
theorem dX11_rocket_171 : decode cX11_rocket 171 = .ok (.aload_n 0, 1) := by decide +kernel
theorem dX11_rocket_172 : decode cX11_rocket 172 = .ok (.getfield 30, 3) := by decide +kernel
theorem dX11_rocket_175 : decode cX11_rocket 175 = .ok (.iconst 0, 1) := by decide +kernel
theorem dX11_rocket_176 : decode cX11_rocket 176 = .ok (.aload_n 0, 1) := by decide +kernel
theorem dX11_rocket_177 : decode cX11_rocket 177 = .ok (.getfield 190, 3) := by decide +kernel
theorem dX11_rocket_180 : decode cX11_rocket 180 = .ok (.iastore, 1) := by decide +kernel
theorem dX11_rocket_181 : decode cX11_rocket 181 = .ok (.aload_n 0, 1) := by decide +kernel
theorem dX11_rocket_182 : decode cX11_rocket 182 = .ok (.getfield 30, 3) := by decide +kernel
theorem dX11_rocket_185 : decode cX11_rocket 185 = .ok (.iconst 1, 1) := by decide +kernel
theorem dX11_rocket_186 : decode cX11_rocket 186 = .ok (.aload_n 0, 1) := by decide +kernel
theorem dX11_rocket_187 : decode cX11_rocket 187 = .ok (.getfield 202, 3) := by decide +kernel
theorem dX11_rocket_190 : decode cX11_rocket 190 = .ok (.iastore, 1) := by decide +kernel
theorem dX11_rocket_191 : decode cX11_rocket 191 = .ok (.iconst 0, 1) := by decide +kernel
theorem dX11_rocket_192 : decode cX11_rocket 192 = .ok (.istore_n 2, 1) := by decide +kernel
theorem dX11_rocket_193 : decode cX11_rocket 193 = .ok (.iload_n 2, 1) := by decide +kernel
theorem dX11_rocket_194 : decode cX11_rocket 194 = .ok (.iconst 3, 1) := by decide +kernel
theorem dX11_rocket_195 : decode cX11_rocket 195 = .ok (.if_icmp .ge 61, 3) := by decide +kernel
theorem dX11_rocket_198 : decode cX11_rocket 198 = .ok (.aload_n 0, 1) := by decide +kernel
theorem dX11_rocket_199 : decode cX11_rocket 199 = .ok (.getfield 30, 3) := by decide +kernel
theorem dX11_rocket_202 : decode cX11_rocket 202 = .ok (.iconst 2, 1) := by decide +kernel
theorem dX11_rocket_203 : decode cX11_rocket 203 = .ok (.iload_n 2, 1) := by decide +kernel
theorem dX11_rocket_204 : decode cX11_rocket 204 = .ok (.iadd, 1) := by decide +kernel
theorem dX11_rocket_205 : decode cX11_rocket 205 = .ok (.iload_n 2, 1) := by decide +kernel
theorem dX11_rocket_206 : decode cX11_rocket 206 = .ok (.aload_n 0, 1) := by decide +kernel
theorem dX11_rocket_207 : decode cX11_rocket 207 = .ok (.getfield 270, 3) := by decide +kernel
theorem dX11_rocket_210 : decode cX11_rocket 210 = .ok (.if_icmp .ge 12, 3) := by decide +kernel
theorem dX11_rocket_213 : decode cX11_rocket 213 = .ok (.aload_n 0, 1) := by decide +kernel
theorem dX11_rocket_214 : decode cX11_rocket 214 = .ok (.iload_n 2, 1) := by decide +kernel
theorem dX11_rocket_215 : decode cX11_rocket 215 = .ok (.iconst 3, 1) := by decide +kernel
theorem dX11_rocket_216 : decode cX11_rocket 216 = .ok (.invokevirtual 279, 3) := by decide +kernel
theorem dX11_rocket_219 : decode cX11_rocket 219 = .ok (.goto 4, 3) := by decide +kernel
theorem dX11_rocket_222 : decode cX11_rocket 222 = .ok (.iconst 0, 1) := by decide +kernel
theorem dX11_rocket_223 : decode cX11_rocket 223 = .ok (.iastore, 1) := by decide +kernel
theorem dX11_rocket_224 : decode cX11_rocket 224 = .ok (.aload_n 0, 1) := by decide +kernel
theorem dX11_rocket_225 : decode cX11_rocket 225 = .ok (.getfield 30, 3) := by decide +kernel
theorem dX11_rocket_228 : decode cX11_rocket 228 = .ok (.iconst 5, 1) := by decide +kernel
theorem dX11_rocket_229 : decode cX11_rocket 229 = .ok (.iload_n 2, 1) := by decide +kernel
theorem dX11_rocket_230 : decode cX11_rocket 230 = .ok (.iadd, 1) := by decide +kernel
theorem dX11_rocket_231 : decode cX11_rocket 231 = .ok (.iconst 0, 1) := by decide +kernel
theorem dX11_rocket_232 : decode cX11_rocket 232 = .ok (.iastore, 1) := by decide +kernel
theorem dX11_rocket_233 : decode cX11_rocket 233 = .ok (.aload_n 0, 1) := by decide +kernel
theorem dX11_rocket_234 : decode cX11_rocket 234 = .ok (.getfield 30, 3) := by decide +kernel
theorem dX11_rocket_237 : decode cX11_rocket 237 = .ok (.bipush 8, 2) := by decide +kernel
theorem dX11_rocket_239 : decode cX11_rocket 239 = .ok (.iload_n 2, 1) := by decide +kernel
theorem dX11_rocket_240 : decode cX11_rocket 240 = .ok (.iadd, 1) := by decide +kernel
theorem dX11_rocket_241 : decode cX11_rocket 241 = .ok (.aload_n 0, 1) := by decide +kernel
theorem dX11_rocket_242 : decode cX11_rocket 242 = .ok (.getfield 30, 3) := by decide +kernel
theorem dX11_rocket_245 : decode cX11_rocket 245 = .ok (.iconst 2, 1) := by decide +kernel
theorem dX11_rocket_246 : decode cX11_rocket 246 = .ok (.iload_n 2, 1) := by decide +kernel
theorem dX11_rocket_247 : decode cX11_rocket 247 = .ok (.iadd, 1) := by decide +kernel
theorem dX11_rocket_248 : decode cX11_rocket 248 = .ok (.iaload, 1) := by decide +kernel
theorem dX11_rocket_249 : decode cX11_rocket 249 = .ok (.iastore, 1) := by decide +kernel
theorem dX11_rocket_250 : decode cX11_rocket 250 = .ok (.iinc 2 1, 3) := by decide +kernel
theorem dX11_rocket_253 : decode cX11_rocket 253 = .ok (.goto (-60), 3) := by decide +kernel
theorem dX11_rocket_256 : decode cX11_rocket 256 = .ok (.aload_n 0, 1) := by decide +kernel
theorem dX11_rocket_257 : decode cX11_rocket 257 = .ok (.aload_n 0, 1) := by decide +kernel
theorem dX11_rocket_258 : decode cX11_rocket 258 = .ok (.getfield 270, 3) := by decide +kernel
theorem dX11_rocket_261 : decode cX11_rocket 261 = .ok (.invokevirtual 282, 3) := by decide +kernel
theorem dX11_rocket_264 : decode cX11_rocket 264 = .ok (.ireturn, 1) := by decide +kernel
theorem dX11_fault_0 : decode cX11_fault 0 = .ok (.aload_n 0, 1) := by decide +kernel
theorem dX11_fault_1 : decode cX11_fault 1 = .ok (.iconst 0, 1) := by decide +kernel
theorem dX11_fault_2 : decode cX11_fault 2 = .ok (.putfield 92, 3) := by decide +kernel
theorem dX11_fault_5 : decode cX11_fault 5 = .ok (.aload_n 0, 1) := by decide +kernel
theorem dX11_fault_6 : decode cX11_fault 6 = .ok (.getfield 101, 3) := by decide +kernel
theorem dX11_fault_9 : decode cX11_fault 9 = .ok (.ireturn, 1) := by decide +kernel
theorem dX11_where_0 : decode cX11_where 0 = .ok (.aload_n 0, 1) := by decide +kernel
theorem dX11_where_1 : decode cX11_where 1 = .ok (.iconst 0, 1) := by decide +kernel
theorem dX11_where_2 : decode cX11_where 2 = .ok (.putfield 92, 3) := by decide +kernel
theorem dX11_where_5 : decode cX11_where 5 = .ok (.aload_n 0, 1) := by decide +kernel
theorem dX11_where_6 : decode cX11_where 6 = .ok (.getfield 9, 3) := by decide +kernel
theorem dX11_where_9 : decode cX11_where 9 = .ok (.ireturn, 1) := by decide +kernel
theorem dX11_about_0 : decode cX11_about 0 = .ok (.aload_n 0, 1) := by decide +kernel
theorem dX11_about_1 : decode cX11_about 1 = .ok (.iconst 0, 1) := by decide +kernel
theorem dX11_about_2 : decode cX11_about 2 = .ok (.putfield 92, 3) := by decide +kernel
theorem dX11_about_5 : decode cX11_about 5 = .ok (.aload_n 0, 1) := by decide +kernel
theorem dX11_about_6 : decode cX11_about 6 = .ok (.getfield 258, 3) := by decide +kernel
theorem dX11_about_9 : decode cX11_about 9 = .ok (.ifCond .ne 9, 3) := by decide +kernel
theorem dX11_about_12 : decode cX11_about 12 = .ok (.aload_n 0, 1) := by decide +kernel
theorem dX11_about_13 : decode cX11_about 13 = .ok (.iconst 1, 1) := by decide +kernel
theorem dX11_about_14 : decode cX11_about 14 = .ok (.invokevirtual 252, 3) := by decide +kernel
theorem dX11_about_17 : decode cX11_about 17 = .ok (.ireturn, 1) := by decide +kernel
theorem dX11_about_18 : decode cX11_about 18 = .ok (.iload_n 1, 1) := by decide +kernel
theorem dX11_about_19 : decode cX11_about 19 = .ok (.tableswitch 108 0 6 #[41, 52, 61, 70, 81, 90, 99], 41) := by decide +kernel
theorem dX11_about_60 : decode cX11_about 60 = .ok (.aload_n 0, 1) := by decide +kernel
theorem dX11_about_61 : decode cX11_about 61 = .ok (.aload_n 0, 1) := by decide +kernel
theorem dX11_about_62 : decode cX11_about 62 = .ok (.getfield 30, 3) := by decide +kernel
theorem dX11_about_65 : decode cX11_about 65 = .ok (.iconst 0, 1) := by decide +kernel
theorem dX11_about_66 : decode cX11_about 66 = .ok (.iaload, 1) := by decide +kernel
theorem dX11_about_67 : decode cX11_about 67 = .ok (.invokevirtual 282, 3) := by decide +kernel
theorem dX11_about_70 : decode cX11_about 70 = .ok (.ireturn, 1) := by decide +kernel
theorem dX11_about_71 : decode cX11_about 71 = .ok (.aload_n 0, 1) := by decide +kernel
theorem dX11_about_72 : decode cX11_about 72 = .ok (.aload_n 0, 1) := by decide +kernel
theorem dX11_about_73 : decode cX11_about 73 = .ok (.getfield 262, 3) := by decide +kernel
theorem dX11_about_76 : decode cX11_about 76 = .ok (.invokevirtual 282, 3) := by decide +kernel
theorem dX11_about_79 : decode cX11_about 79 = .ok (.ireturn, 1) := by decide +kernel
theorem dX11_about_80 : decode cX11_about 80 = .ok (.aload_n 0, 1) := by decide +kernel
theorem dX11_about_81 : decode cX11_about 81 = .ok (.aload_n 0, 1) := by decide +kernel
theorem dX11_about_82 : decode cX11_about 82 = .ok (.getfield 265, 3) := by decide +kernel
theorem dX11_about_85 : decode cX11_about 85 = .ok (.invokevirtual 282, 3) := by decide +kernel
theorem dX11_about_88 : decode cX11_about 88 = .ok (.ireturn, 1) := by decide +kernel
theorem dX11_about_89 : decode cX11_about 89 = .ok (.aload_n 0, 1) := by decide +kernel
theorem dX11_about_90 : decode cX11_about 90 = .ok (.aload_n 0, 1) := by decide +kernel
theorem dX11_about_91 : decode cX11_about 91 = .ok (.getfield 30, 3) := by decide +kernel
theorem dX11_about_94 : decode cX11_about 94 = .ok (.iconst 1, 1) := by decide +kernel
theorem dX11_about_95 : decode cX11_about 95 = .ok (.iaload, 1) := by decide +kernel
theorem dX11_about_96 : decode cX11_about 96 = .ok (.invokevirtual 282, 3) := by decide +kernel
theorem dX11_about_99 : decode cX11_about 99 = .ok (.ireturn, 1) := by decide +kernel
theorem dX11_about_100 : decode cX11_about 100 = .ok (.aload_n 0, 1) := by decide +kernel
theorem dX11_about_101 : decode cX11_about 101 = .ok (.aload_n 0, 1) := by decide +kernel
theorem dX11_about_102 : decode cX11_about 102 = .ok (.getfield 268, 3) := by decide +kernel
theorem dX11_about_105 : decode cX11_about 105 = .ok (.invokevirtual 282, 3) := by decide +kernel
theorem dX11_about_108 : decode cX11_about 108 = .ok (.ireturn, 1) := by decide +kernel
theorem dX11_about_109 : decode cX11_about 109 = .ok (.aload_n 0, 1) := by decide +kernel
theorem dX11_about_110 : decode cX11_about 110 = .ok (.aload_n 0, 1) := by decide +kernel
theorem dX11_about_111 : decode cX11_about 111 = .ok (.getfield 270, 3) := by decide +kernel
theorem dX11_about_114 : decode cX11_about 114 = .ok (.invokevirtual 282, 3) := by decide +kernel
theorem dX11_about_117 : decode cX11_about 117 = .ok (.ireturn, 1) := by decide +kernel
theorem dX11_about_118 : decode cX11_about 118 = .ok (.aload_n 0, 1) := by decide +kernel
theorem dX11_about_119 : decode cX11_about 119 = .ok (.aload_n 0, 1) := by decide +kernel
theorem dX11_about_120 : decode cX11_about 120 = .ok (.getfield 273, 3) := by decide +kernel
theorem dX11_about_123 : decode cX11_about 123 = .ok (.invokevirtual 282, 3) := by decide +kernel
theorem dX11_about_126 : decode cX11_about 126 = .ok (.ireturn, 1) := by decide +kernel
theorem dX11_about_127 : decode cX11_about 127 = .ok (.aload_n 0, 1) := by decide +kernel
theorem dX11_about_128 : decode cX11_about 128 = .ok (.iconst 1, 1) := by decide +kernel
theorem dX11_about_129 : decode cX11_about 129 = .ok (.invokevirtual 252, 3) := by decide +kernel
theorem dX11_about_132 : decode cX11_about 132 = .ok (.ireturn, 1) := by decide +kernel
theorem dX11_isStage_0 : decode cX11_isStage 0 = .ok (.aload_n 0, 1) := by decide +kernel
theorem dX11_isStage_1 : decode cX11_isStage 1 = .ok (.getfield 258, 3) := by decide +kernel
theorem dX11_isStage_4 : decode cX11_isStage 4 = .ok (.ifCond .eq 21, 3) := by decide +kernel
theorem dX11_isStage_7 : decode cX11_isStage 7 = .ok (.iload_n 1, 1) := by decide +kernel
theorem dX11_isStage_8 : decode cX11_isStage 8 = .ok (.iconst 0, 1) := by decide +kernel
theorem dX11_isStage_9 : decode cX11_isStage 9 = .ok (.aload_n 0, 1) := by decide +kernel
theorem dX11_isStage_10 : decode cX11_isStage 10 = .ok (.getfield 270, 3) := by decide +kernel
theorem dX11_isStage_13 : decode cX11_isStage 13 = .ok (.iconst 1, 1) := by decide +kernel
theorem dX11_isStage_14 : decode cX11_isStage 14 = .ok (.isub, 1) := by decide +kernel
theorem dX11_isStage_15 : decode cX11_isStage 15 = .ok (.invokestatic 117, 3) := by decide +kernel
theorem dX11_isStage_18 : decode cX11_isStage 18 = .ok (.ifCond .eq 7, 3) := by decide +kernel
theorem dX11_isStage_21 : decode cX11_isStage 21 = .ok (.iconst 1, 1) := by decide +kernel
theorem dX11_isStage_22 : decode cX11_isStage 22 = .ok (.goto 4, 3) := by decide +kernel
theorem dX11_isStage_25 : decode cX11_isStage 25 = .ok (.iconst 0, 1) := by decide +kernel
theorem dX11_isStage_26 : decode cX11_isStage 26 = .ok (.ireturn, 1) := by decide +kernel
theorem dX11_told_0 : decode cX11_told 0 = .ok (.aload_n 0, 1) := by decide +kernel
theorem dX11_told_1 : decode cX11_told 1 = .ok (.getfield 13, 3) := by decide +kernel
theorem dX11_told_4 : decode cX11_told 4 = .ok (.bipush 9, 2) := by decide +kernel
theorem dX11_told_6 : decode cX11_told 6 = .ok (.iload_n 1, 1) := by decide +kernel
theorem dX11_told_7 : decode cX11_told 7 = .ok (.imul, 1) := by decide +kernel
theorem dX11_told_8 : decode cX11_told 8 = .ok (.iload_n 2, 1) := by decide +kernel
theorem dX11_told_9 : decode cX11_told 9 = .ok (.iadd, 1) := by decide +kernel
theorem dX11_told_10 : decode cX11_told 10 = .ok (.iaload, 1) := by decide +kernel
theorem dX11_told_11 : decode cX11_told 11 = .ok (.ireturn, 1) := by decide +kernel
theorem dX11_shell_0 : decode cX11_shell 0 = .ok (.aload_n 0, 1) := by decide +kernel
theorem dX11_shell_1 : decode cX11_shell 1 = .ok (.iload_n 1, 1) := by decide +kernel
theorem dX11_shell_2 : decode cX11_shell 2 = .ok (.iconst 1, 1) := by decide +kernel
theorem dX11_shell_3 : decode cX11_shell 3 = .ok (.invokevirtual 279, 3) := by decide +kernel
theorem dX11_shell_6 : decode cX11_shell 6 = .ok (.iload_n 2, 1) := by decide +kernel
theorem dX11_shell_7 : decode cX11_shell 7 = .ok (.aload_n 0, 1) := by decide +kernel
theorem dX11_shell_8 : decode cX11_shell 8 = .ok (.iload_n 1, 1) := by decide +kernel
theorem dX11_shell_9 : decode cX11_shell 9 = .ok (.iconst 2, 1) := by decide +kernel
theorem dX11_shell_10 : decode cX11_shell 10 = .ok (.invokevirtual 279, 3) := by decide +kernel
theorem dX11_shell_13 : decode cX11_shell 13 = .ok (.imul, 1) := by decide +kernel
theorem dX11_shell_14 : decode cX11_shell 14 = .ok (.bipush 99, 2) := by decide +kernel
theorem dX11_shell_16 : decode cX11_shell 16 = .ok (.iadd, 1) := by decide +kernel
theorem dX11_shell_17 : decode cX11_shell 17 = .ok (.bipush 100, 2) := by decide +kernel
theorem dX11_shell_19 : decode cX11_shell 19 = .ok (.idiv, 1) := by decide +kernel
theorem dX11_shell_20 : decode cX11_shell 20 = .ok (.iadd, 1) := by decide +kernel
theorem dX11_shell_21 : decode cX11_shell 21 = .ok (.aload_n 0, 1) := by decide +kernel
theorem dX11_shell_22 : decode cX11_shell 22 = .ok (.iload_n 1, 1) := by decide +kernel
theorem dX11_shell_23 : decode cX11_shell 23 = .ok (.iconst 0, 1) := by decide +kernel
theorem dX11_shell_24 : decode cX11_shell 24 = .ok (.invokevirtual 279, 3) := by decide +kernel
theorem dX11_shell_27 : decode cX11_shell 27 = .ok (.iconst 4, 1) := by decide +kernel
theorem dX11_shell_28 : decode cX11_shell 28 = .ok (.if_icmp .ne 14, 3) := by decide +kernel
theorem dX11_shell_31 : decode cX11_shell 31 = .ok (.aload_n 0, 1) := by decide +kernel
theorem dX11_shell_32 : decode cX11_shell 32 = .ok (.iload_n 1, 1) := by decide +kernel
theorem dX11_shell_33 : decode cX11_shell 33 = .ok (.iconst 1, 1) := by decide +kernel
theorem dX11_shell_34 : decode cX11_shell 34 = .ok (.invokevirtual 279, 3) := by decide +kernel
theorem dX11_shell_37 : decode cX11_shell 37 = .ok (.iconst 2, 1) := by decide +kernel
theorem dX11_shell_38 : decode cX11_shell 38 = .ok (.idiv, 1) := by decide +kernel
theorem dX11_shell_39 : decode cX11_shell 39 = .ok (.goto 4, 3) := by decide +kernel
theorem dX11_shell_42 : decode cX11_shell 42 = .ok (.iconst 0, 1) := by decide +kernel
theorem dX11_shell_43 : decode cX11_shell 43 = .ok (.iadd, 1) := by decide +kernel
theorem dX11_shell_44 : decode cX11_shell 44 = .ok (.ireturn, 1) := by decide +kernel
theorem dX11_start_0 : decode cX11_start 0 = .ok (.aload_n 0, 1) := by decide +kernel
theorem dX11_start_1 : decode cX11_start 1 = .ok (.getfield 285, 3) := by decide +kernel
theorem dX11_start_4 : decode cX11_start 4 = .ok (.istore_n 2, 1) := by decide +kernel
theorem dX11_start_5 : decode cX11_start 5 = .ok (.iload_n 1, 1) := by decide +kernel
theorem dX11_start_6 : decode cX11_start 6 = .ok (.istore_n 3, 1) := by decide +kernel
theorem dX11_start_7 : decode cX11_start 7 = .ok (.iload_n 3, 1) := by decide +kernel
theorem dX11_start_8 : decode cX11_start 8 = .ok (.aload_n 0, 1) := by decide +kernel
theorem dX11_start_9 : decode cX11_start 9 = .ok (.getfield 270, 3) := by decide +kernel
theorem dX11_start_12 : decode cX11_start 12 = .ok (.if_icmp .ge 30, 3) := by decide +kernel
theorem dX11_start_15 : decode cX11_start 15 = .ok (.iload_n 2, 1) := by decide +kernel
theorem dX11_start_16 : decode cX11_start 16 = .ok (.aload_n 0, 1) := by decide +kernel
theorem dX11_start_17 : decode cX11_start 17 = .ok (.iload_n 3, 1) := by decide +kernel
theorem dX11_start_18 : decode cX11_start 18 = .ok (.aload_n 0, 1) := by decide +kernel
theorem dX11_start_19 : decode cX11_start 19 = .ok (.getfield 40, 3) := by decide +kernel
theorem dX11_start_22 : decode cX11_start 22 = .ok (.iload_n 3, 1) := by decide +kernel
theorem dX11_start_23 : decode cX11_start 23 = .ok (.iaload, 1) := by decide +kernel
theorem dX11_start_24 : decode cX11_start 24 = .ok (.invokevirtual 288, 3) := by decide +kernel
theorem dX11_start_27 : decode cX11_start 27 = .ok (.aload_n 0, 1) := by decide +kernel
theorem dX11_start_28 : decode cX11_start 28 = .ok (.getfield 40, 3) := by decide +kernel
theorem dX11_start_31 : decode cX11_start 31 = .ok (.iload_n 3, 1) := by decide +kernel
theorem dX11_start_32 : decode cX11_start 32 = .ok (.iaload, 1) := by decide +kernel
theorem dX11_start_33 : decode cX11_start 33 = .ok (.iadd, 1) := by decide +kernel
theorem dX11_start_34 : decode cX11_start 34 = .ok (.iadd, 1) := by decide +kernel
theorem dX11_start_35 : decode cX11_start 35 = .ok (.istore_n 2, 1) := by decide +kernel
theorem dX11_start_36 : decode cX11_start 36 = .ok (.iinc 3 1, 3) := by decide +kernel
theorem dX11_start_39 : decode cX11_start 39 = .ok (.goto (-32), 3) := by decide +kernel
theorem dX11_start_42 : decode cX11_start 42 = .ok (.iload_n 2, 1) := by decide +kernel
theorem dX11_start_43 : decode cX11_start 43 = .ok (.ireturn, 1) := by decide +kernel
theorem dX11_marginOf_0 : decode cX11_marginOf 0 = .ok (.bipush 100, 2) := by decide +kernel
theorem dX11_marginOf_2 : decode cX11_marginOf 2 = .ok (.aload_n 0, 1) := by decide +kernel
theorem dX11_marginOf_3 : decode cX11_marginOf 3 = .ok (.iload_n 1, 1) := by decide +kernel
theorem dX11_marginOf_4 : decode cX11_marginOf 4 = .ok (.iconst 5, 1) := by decide +kernel
theorem dX11_marginOf_5 : decode cX11_marginOf 5 = .ok (.invokevirtual 279, 3) := by decide +kernel
theorem dX11_marginOf_8 : decode cX11_marginOf 8 = .ok (.imul, 1) := by decide +kernel
theorem dX11_marginOf_9 : decode cX11_marginOf 9 = .ok (.aload_n 0, 1) := by decide +kernel
theorem dX11_marginOf_10 : decode cX11_marginOf 10 = .ok (.iload_n 1, 1) := by decide +kernel
theorem dX11_marginOf_11 : decode cX11_marginOf 11 = .ok (.iconst 4, 1) := by decide +kernel
theorem dX11_marginOf_12 : decode cX11_marginOf 12 = .ok (.invokevirtual 279, 3) := by decide +kernel
theorem dX11_marginOf_15 : decode cX11_marginOf 15 = .ok (.iload_n 2, 1) := by decide +kernel
theorem dX11_marginOf_16 : decode cX11_marginOf 16 = .ok (.isub, 1) := by decide +kernel
theorem dX11_marginOf_17 : decode cX11_marginOf 17 = .ok (.imul, 1) := by decide +kernel
theorem dX11_marginOf_18 : decode cX11_marginOf 18 = .ok (.aload_n 0, 1) := by decide +kernel
theorem dX11_marginOf_19 : decode cX11_marginOf 19 = .ok (.iload_n 1, 1) := by decide +kernel
theorem dX11_marginOf_20 : decode cX11_marginOf 20 = .ok (.invokevirtual 291, 3) := by decide +kernel
theorem dX11_marginOf_23 : decode cX11_marginOf 23 = .ok (.idiv, 1) := by decide +kernel
theorem dX11_marginOf_24 : decode cX11_marginOf 24 = .ok (.ireturn, 1) := by decide +kernel
theorem dX11_stageHolds_0 : decode cX11_stageHolds 0 = .ok (.aload_n 0, 1) := by decide +kernel
theorem dX11_stageHolds_1 : decode cX11_stageHolds 1 = .ok (.iload_n 1, 1) := by decide +kernel
theorem dX11_stageHolds_2 : decode cX11_stageHolds 2 = .ok (.aload_n 0, 1) := by decide +kernel
theorem dX11_stageHolds_3 : decode cX11_stageHolds 3 = .ok (.iload_n 1, 1) := by decide +kernel
theorem dX11_stageHolds_4 : decode cX11_stageHolds 4 = .ok (.bipush 8, 2) := by decide +kernel
theorem dX11_stageHolds_6 : decode cX11_stageHolds 6 = .ok (.invokevirtual 279, 3) := by decide +kernel
theorem dX11_stageHolds_9 : decode cX11_stageHolds 9 = .ok (.invokevirtual 294, 3) := by decide +kernel
theorem dX11_stageHolds_12 : decode cX11_stageHolds 12 = .ok (.aload_n 0, 1) := by decide +kernel
theorem dX11_stageHolds_13 : decode cX11_stageHolds 13 = .ok (.iload_n 1, 1) := by decide +kernel
theorem dX11_stageHolds_14 : decode cX11_stageHolds 14 = .ok (.bipush 7, 2) := by decide +kernel
theorem dX11_stageHolds_16 : decode cX11_stageHolds 16 = .ok (.invokevirtual 279, 3) := by decide +kernel
theorem dX11_stageHolds_19 : decode cX11_stageHolds 19 = .ok (.if_icmp .lt 7, 3) := by decide +kernel
theorem dX11_stageHolds_22 : decode cX11_stageHolds 22 = .ok (.iconst 1, 1) := by decide +kernel
theorem dX11_stageHolds_23 : decode cX11_stageHolds 23 = .ok (.goto 4, 3) := by decide +kernel
theorem dX11_stageHolds_26 : decode cX11_stageHolds 26 = .ok (.iconst 0, 1) := by decide +kernel
theorem dX11_stageHolds_27 : decode cX11_stageHolds 27 = .ok (.ireturn, 1) := by decide +kernel
theorem dX11_allHold_0 : decode cX11_allHold 0 = .ok (.iconst 0, 1) := by decide +kernel
theorem dX11_allHold_1 : decode cX11_allHold 1 = .ok (.istore_n 1, 1) := by decide +kernel
theorem dX11_allHold_2 : decode cX11_allHold 2 = .ok (.iload_n 1, 1) := by decide +kernel
theorem dX11_allHold_3 : decode cX11_allHold 3 = .ok (.aload_n 0, 1) := by decide +kernel
theorem dX11_allHold_4 : decode cX11_allHold 4 = .ok (.getfield 270, 3) := by decide +kernel
theorem dX11_allHold_7 : decode cX11_allHold 7 = .ok (.if_icmp .ge 19, 3) := by decide +kernel
theorem dX11_allHold_10 : decode cX11_allHold 10 = .ok (.aload_n 0, 1) := by decide +kernel
theorem dX11_allHold_11 : decode cX11_allHold 11 = .ok (.iload_n 1, 1) := by decide +kernel
theorem dX11_allHold_12 : decode cX11_allHold 12 = .ok (.invokevirtual 297, 3) := by decide +kernel
theorem dX11_allHold_15 : decode cX11_allHold 15 = .ok (.ifCond .ne 5, 3) := by decide +kernel
theorem dX11_allHold_18 : decode cX11_allHold 18 = .ok (.iconst 0, 1) := by decide +kernel
theorem dX11_allHold_19 : decode cX11_allHold 19 = .ok (.ireturn, 1) := by decide +kernel
theorem dX11_allHold_20 : decode cX11_allHold 20 = .ok (.iinc 1 1, 3) := by decide +kernel
theorem dX11_allHold_23 : decode cX11_allHold 23 = .ok (.goto (-21), 3) := by decide +kernel
theorem dX11_allHold_26 : decode cX11_allHold 26 = .ok (.iconst 1, 1) := by decide +kernel
theorem dX11_allHold_27 : decode cX11_allHold 27 = .ok (.ireturn, 1) := by decide +kernel
theorem dX11_laysOwn_0 : decode cX11_laysOwn 0 = .ok (.aload_n 0, 1) := by decide +kernel
theorem dX11_laysOwn_1 : decode cX11_laysOwn 1 = .ok (.aload_n 0, 1) := by decide +kernel
theorem dX11_laysOwn_2 : decode cX11_laysOwn 2 = .ok (.getfield 30, 3) := by decide +kernel
theorem dX11_laysOwn_5 : decode cX11_laysOwn 5 = .ok (.iconst 0, 1) := by decide +kernel
theorem dX11_laysOwn_6 : decode cX11_laysOwn 6 = .ok (.iaload, 1) := by decide +kernel
theorem dX11_laysOwn_7 : decode cX11_laysOwn 7 = .ok (.putfield 285, 3) := by decide +kernel
theorem dX11_laysOwn_10 : decode cX11_laysOwn 10 = .ok (.iconst 0, 1) := by decide +kernel
theorem dX11_laysOwn_11 : decode cX11_laysOwn 11 = .ok (.istore_n 1, 1) := by decide +kernel
theorem dX11_laysOwn_12 : decode cX11_laysOwn 12 = .ok (.iload_n 1, 1) := by decide +kernel
theorem dX11_laysOwn_13 : decode cX11_laysOwn 13 = .ok (.iconst 3, 1) := by decide +kernel
theorem dX11_laysOwn_14 : decode cX11_laysOwn 14 = .ok (.if_icmp .ge 23, 3) := by decide +kernel
theorem dX11_laysOwn_17 : decode cX11_laysOwn 17 = .ok (.aload_n 0, 1) := by decide +kernel
theorem dX11_laysOwn_18 : decode cX11_laysOwn 18 = .ok (.getfield 40, 3) := by decide +kernel
theorem dX11_laysOwn_21 : decode cX11_laysOwn 21 = .ok (.iload_n 1, 1) := by decide +kernel
theorem dX11_laysOwn_22 : decode cX11_laysOwn 22 = .ok (.aload_n 0, 1) := by decide +kernel
theorem dX11_laysOwn_23 : decode cX11_laysOwn 23 = .ok (.getfield 30, 3) := by decide +kernel
theorem dX11_laysOwn_26 : decode cX11_laysOwn 26 = .ok (.iconst 2, 1) := by decide +kernel
theorem dX11_laysOwn_27 : decode cX11_laysOwn 27 = .ok (.iload_n 1, 1) := by decide +kernel
theorem dX11_laysOwn_28 : decode cX11_laysOwn 28 = .ok (.iadd, 1) := by decide +kernel
theorem dX11_laysOwn_29 : decode cX11_laysOwn 29 = .ok (.iaload, 1) := by decide +kernel
theorem dX11_laysOwn_30 : decode cX11_laysOwn 30 = .ok (.iastore, 1) := by decide +kernel
theorem dX11_laysOwn_31 : decode cX11_laysOwn 31 = .ok (.iinc 1 1, 3) := by decide +kernel
theorem dX11_laysOwn_34 : decode cX11_laysOwn 34 = .ok (.goto (-22), 3) := by decide +kernel
theorem dX11_laysOwn_37 : decode cX11_laysOwn 37 = .ok (.return_, 1) := by decide +kernel
theorem dX11_stage_0 : decode cX11_stage 0 = .ok (.aload_n 0, 1) := by decide +kernel
theorem dX11_stage_1 : decode cX11_stage 1 = .ok (.iconst 0, 1) := by decide +kernel
theorem dX11_stage_2 : decode cX11_stage 2 = .ok (.putfield 92, 3) := by decide +kernel
theorem dX11_stage_5 : decode cX11_stage 5 = .ok (.aload_n 0, 1) := by decide +kernel
theorem dX11_stage_6 : decode cX11_stage 6 = .ok (.iload_n 1, 1) := by decide +kernel
theorem dX11_stage_7 : decode cX11_stage 7 = .ok (.invokevirtual 301, 3) := by decide +kernel
theorem dX11_stage_10 : decode cX11_stage 10 = .ok (.ifCond .eq 13, 3) := by decide +kernel
theorem dX11_stage_13 : decode cX11_stage 13 = .ok (.iload_n 2, 1) := by decide +kernel
theorem dX11_stage_14 : decode cX11_stage 14 = .ok (.iconst 0, 1) := by decide +kernel
theorem dX11_stage_15 : decode cX11_stage 15 = .ok (.bipush 9, 2) := by decide +kernel
theorem dX11_stage_17 : decode cX11_stage 17 = .ok (.invokestatic 117, 3) := by decide +kernel
theorem dX11_stage_20 : decode cX11_stage 20 = .ok (.ifCond .ne 9, 3) := by decide +kernel
theorem dX11_stage_23 : decode cX11_stage 23 = .ok (.aload_n 0, 1) := by decide +kernel
theorem dX11_stage_24 : decode cX11_stage 24 = .ok (.iconst 1, 1) := by decide +kernel
theorem dX11_stage_25 : decode cX11_stage 25 = .ok (.invokevirtual 252, 3) := by decide +kernel
theorem dX11_stage_28 : decode cX11_stage 28 = .ok (.ireturn, 1) := by decide +kernel
theorem dX11_stage_29 : decode cX11_stage 29 = .ok (.aload_n 0, 1) := by decide +kernel
theorem dX11_stage_30 : decode cX11_stage 30 = .ok (.iload_n 2, 1) := by decide +kernel
theorem dX11_stage_31 : decode cX11_stage 31 = .ok (.bipush 9, 2) := by decide +kernel
theorem dX11_stage_33 : decode cX11_stage 33 = .ok (.if_icmp .ne 19, 3) := by decide +kernel
theorem dX11_stage_36 : decode cX11_stage 36 = .ok (.aload_n 0, 1) := by decide +kernel
theorem dX11_stage_37 : decode cX11_stage 37 = .ok (.iload_n 1, 1) := by decide +kernel
theorem dX11_stage_38 : decode cX11_stage 38 = .ok (.aload_n 0, 1) := by decide +kernel
theorem dX11_stage_39 : decode cX11_stage 39 = .ok (.getfield 30, 3) := by decide +kernel
theorem dX11_stage_42 : decode cX11_stage 42 = .ok (.iconst 2, 1) := by decide +kernel
theorem dX11_stage_43 : decode cX11_stage 43 = .ok (.iload_n 1, 1) := by decide +kernel
theorem dX11_stage_44 : decode cX11_stage 44 = .ok (.iadd, 1) := by decide +kernel
theorem dX11_stage_45 : decode cX11_stage 45 = .ok (.iaload, 1) := by decide +kernel
theorem dX11_stage_46 : decode cX11_stage 46 = .ok (.invokevirtual 288, 3) := by decide +kernel
theorem dX11_stage_49 : decode cX11_stage 49 = .ok (.goto 9, 3) := by decide +kernel
theorem dX11_stage_52 : decode cX11_stage 52 = .ok (.aload_n 0, 1) := by decide +kernel
theorem dX11_stage_53 : decode cX11_stage 53 = .ok (.iload_n 1, 1) := by decide +kernel
theorem dX11_stage_54 : decode cX11_stage 54 = .ok (.iload_n 2, 1) := by decide +kernel
theorem dX11_stage_55 : decode cX11_stage 55 = .ok (.invokevirtual 279, 3) := by decide +kernel
theorem dX11_stage_58 : decode cX11_stage 58 = .ok (.invokevirtual 282, 3) := by decide +kernel
theorem dX11_stage_61 : decode cX11_stage 61 = .ok (.ireturn, 1) := by decide +kernel
theorem dX11_part_0 : decode cX11_part 0 = .ok (.aload_n 0, 1) := by decide +kernel
theorem dX11_part_1 : decode cX11_part 1 = .ok (.iconst 0, 1) := by decide +kernel
theorem dX11_part_2 : decode cX11_part 2 = .ok (.putfield 92, 3) := by decide +kernel
theorem dX11_part_5 : decode cX11_part 5 = .ok (.aload_n 0, 1) := by decide +kernel
theorem dX11_part_6 : decode cX11_part 6 = .ok (.iload_n 1, 1) := by decide +kernel
theorem dX11_part_7 : decode cX11_part 7 = .ok (.invokevirtual 301, 3) := by decide +kernel
theorem dX11_part_10 : decode cX11_part 10 = .ok (.ifCond .ne 9, 3) := by decide +kernel
theorem dX11_part_13 : decode cX11_part 13 = .ok (.aload_n 0, 1) := by decide +kernel
theorem dX11_part_14 : decode cX11_part 14 = .ok (.iconst 1, 1) := by decide +kernel
theorem dX11_part_15 : decode cX11_part 15 = .ok (.invokevirtual 252, 3) := by decide +kernel
theorem dX11_part_18 : decode cX11_part 18 = .ok (.ireturn, 1) := by decide +kernel
theorem dX11_part_19 : decode cX11_part 19 = .ok (.aload_n 0, 1) := by decide +kernel
theorem dX11_part_20 : decode cX11_part 20 = .ok (.invokevirtual 304, 3) := by decide +kernel
theorem dX11_part_23 : decode cX11_part 23 = .ok (.iload_n 2, 1) := by decide +kernel
theorem dX11_part_24 : decode cX11_part 24 = .ok (.tableswitch 109 0 4 #[36, 47, 57, 74, 92], 36) := by decide +kernel
theorem dX11_part_60 : decode cX11_part 60 = .ok (.aload_n 0, 1) := by decide +kernel
theorem dX11_part_61 : decode cX11_part 61 = .ok (.aload_n 0, 1) := by decide +kernel
theorem dX11_part_62 : decode cX11_part 62 = .ok (.getfield 40, 3) := by decide +kernel
theorem dX11_part_65 : decode cX11_part 65 = .ok (.iload_n 1, 1) := by decide +kernel
theorem dX11_part_66 : decode cX11_part 66 = .ok (.iaload, 1) := by decide +kernel
theorem dX11_part_67 : decode cX11_part 67 = .ok (.invokevirtual 282, 3) := by decide +kernel
theorem dX11_part_70 : decode cX11_part 70 = .ok (.ireturn, 1) := by decide +kernel
theorem dX11_part_71 : decode cX11_part 71 = .ok (.aload_n 0, 1) := by decide +kernel
theorem dX11_part_72 : decode cX11_part 72 = .ok (.aload_n 0, 1) := by decide +kernel
theorem dX11_part_73 : decode cX11_part 73 = .ok (.iload_n 1, 1) := by decide +kernel
theorem dX11_part_74 : decode cX11_part 74 = .ok (.invokevirtual 291, 3) := by decide +kernel
theorem dX11_part_77 : decode cX11_part 77 = .ok (.invokevirtual 282, 3) := by decide +kernel
theorem dX11_part_80 : decode cX11_part 80 = .ok (.ireturn, 1) := by decide +kernel
theorem dX11_part_81 : decode cX11_part 81 = .ok (.aload_n 0, 1) := by decide +kernel
theorem dX11_part_82 : decode cX11_part 82 = .ok (.aload_n 0, 1) := by decide +kernel
theorem dX11_part_83 : decode cX11_part 83 = .ok (.iload_n 1, 1) := by decide +kernel
theorem dX11_part_84 : decode cX11_part 84 = .ok (.invokevirtual 291, 3) := by decide +kernel
theorem dX11_part_87 : decode cX11_part 87 = .ok (.aload_n 0, 1) := by decide +kernel
theorem dX11_part_88 : decode cX11_part 88 = .ok (.getfield 40, 3) := by decide +kernel
theorem dX11_part_91 : decode cX11_part 91 = .ok (.iload_n 1, 1) := by decide +kernel
theorem dX11_part_92 : decode cX11_part 92 = .ok (.iaload, 1) := by decide +kernel
theorem dX11_part_93 : decode cX11_part 93 = .ok (.isub, 1) := by decide +kernel
theorem dX11_part_94 : decode cX11_part 94 = .ok (.invokevirtual 282, 3) := by decide +kernel
theorem dX11_part_97 : decode cX11_part 97 = .ok (.ireturn, 1) := by decide +kernel
theorem dX11_part_98 : decode cX11_part 98 = .ok (.aload_n 0, 1) := by decide +kernel
theorem dX11_part_99 : decode cX11_part 99 = .ok (.aload_n 0, 1) := by decide +kernel
theorem dX11_part_100 : decode cX11_part 100 = .ok (.iload_n 1, 1) := by decide +kernel
theorem dX11_part_101 : decode cX11_part 101 = .ok (.invokevirtual 297, 3) := by decide +kernel
theorem dX11_part_104 : decode cX11_part 104 = .ok (.ifCond .eq 7, 3) := by decide +kernel
theorem dX11_part_107 : decode cX11_part 107 = .ok (.iconst 1, 1) := by decide +kernel
theorem dX11_part_108 : decode cX11_part 108 = .ok (.goto 4, 3) := by decide +kernel
theorem dX11_part_111 : decode cX11_part 111 = .ok (.iconst 0, 1) := by decide +kernel
theorem dX11_part_112 : decode cX11_part 112 = .ok (.invokevirtual 282, 3) := by decide +kernel
theorem dX11_part_115 : decode cX11_part 115 = .ok (.ireturn, 1) := by decide +kernel
theorem dX11_part_116 : decode cX11_part 116 = .ok (.aload_n 0, 1) := by decide +kernel
theorem dX11_part_117 : decode cX11_part 117 = .ok (.aload_n 0, 1) := by decide +kernel
theorem dX11_part_118 : decode cX11_part 118 = .ok (.iload_n 1, 1) := by decide +kernel
theorem dX11_part_119 : decode cX11_part 119 = .ok (.aload_n 0, 1) := by decide +kernel
theorem dX11_part_120 : decode cX11_part 120 = .ok (.iload_n 1, 1) := by decide +kernel
theorem dX11_part_121 : decode cX11_part 121 = .ok (.bipush 8, 2) := by decide +kernel
theorem dX11_part_123 : decode cX11_part 123 = .ok (.invokevirtual 279, 3) := by decide +kernel
theorem dX11_part_126 : decode cX11_part 126 = .ok (.invokevirtual 294, 3) := by decide +kernel
theorem dX11_part_129 : decode cX11_part 129 = .ok (.invokevirtual 282, 3) := by decide +kernel
theorem dX11_part_132 : decode cX11_part 132 = .ok (.ireturn, 1) := by decide +kernel
theorem dX11_part_133 : decode cX11_part 133 = .ok (.aload_n 0, 1) := by decide +kernel
theorem dX11_part_134 : decode cX11_part 134 = .ok (.iconst 1, 1) := by decide +kernel
theorem dX11_part_135 : decode cX11_part 135 = .ok (.invokevirtual 252, 3) := by decide +kernel
theorem dX11_part_138 : decode cX11_part 138 = .ok (.ireturn, 1) := by decide +kernel
theorem dX11_margin_0 : decode cX11_margin 0 = .ok (.aload_n 0, 1) := by decide +kernel
theorem dX11_margin_1 : decode cX11_margin 1 = .ok (.iconst 0, 1) := by decide +kernel
theorem dX11_margin_2 : decode cX11_margin 2 = .ok (.putfield 92, 3) := by decide +kernel
theorem dX11_margin_5 : decode cX11_margin 5 = .ok (.aload_n 0, 1) := by decide +kernel
theorem dX11_margin_6 : decode cX11_margin 6 = .ok (.iload_n 1, 1) := by decide +kernel
theorem dX11_margin_7 : decode cX11_margin 7 = .ok (.invokevirtual 301, 3) := by decide +kernel
theorem dX11_margin_10 : decode cX11_margin 10 = .ok (.ifCond .ne 9, 3) := by decide +kernel
theorem dX11_margin_13 : decode cX11_margin 13 = .ok (.aload_n 0, 1) := by decide +kernel
theorem dX11_margin_14 : decode cX11_margin 14 = .ok (.iconst 1, 1) := by decide +kernel
theorem dX11_margin_15 : decode cX11_margin 15 = .ok (.invokevirtual 252, 3) := by decide +kernel
theorem dX11_margin_18 : decode cX11_margin 18 = .ok (.ireturn, 1) := by decide +kernel
theorem dX11_margin_19 : decode cX11_margin 19 = .ok (.iload_n 2, 1) := by decide +kernel
theorem dX11_margin_20 : decode cX11_margin 20 = .ok (.iconst 0, 1) := by decide +kernel
theorem dX11_margin_21 : decode cX11_margin 21 = .ok (.aload_n 0, 1) := by decide +kernel
theorem dX11_margin_22 : decode cX11_margin 22 = .ok (.iload_n 1, 1) := by decide +kernel
theorem dX11_margin_23 : decode cX11_margin 23 = .ok (.iconst 4, 1) := by decide +kernel
theorem dX11_margin_24 : decode cX11_margin 24 = .ok (.invokevirtual 279, 3) := by decide +kernel
theorem dX11_margin_27 : decode cX11_margin 27 = .ok (.invokestatic 117, 3) := by decide +kernel
theorem dX11_margin_30 : decode cX11_margin 30 = .ok (.ifCond .ne 9, 3) := by decide +kernel
theorem dX11_margin_33 : decode cX11_margin 33 = .ok (.aload_n 0, 1) := by decide +kernel
theorem dX11_margin_34 : decode cX11_margin 34 = .ok (.iconst 2, 1) := by decide +kernel
theorem dX11_margin_35 : decode cX11_margin 35 = .ok (.invokevirtual 252, 3) := by decide +kernel
theorem dX11_margin_38 : decode cX11_margin 38 = .ok (.ireturn, 1) := by decide +kernel
theorem dX11_margin_39 : decode cX11_margin 39 = .ok (.aload_n 0, 1) := by decide +kernel
theorem dX11_margin_40 : decode cX11_margin 40 = .ok (.invokevirtual 304, 3) := by decide +kernel
theorem dX11_margin_43 : decode cX11_margin 43 = .ok (.aload_n 0, 1) := by decide +kernel
theorem dX11_margin_44 : decode cX11_margin 44 = .ok (.aload_n 0, 1) := by decide +kernel
theorem dX11_margin_45 : decode cX11_margin 45 = .ok (.iload_n 1, 1) := by decide +kernel
theorem dX11_margin_46 : decode cX11_margin 46 = .ok (.iload_n 2, 1) := by decide +kernel
theorem dX11_margin_47 : decode cX11_margin 47 = .ok (.invokevirtual 294, 3) := by decide +kernel
theorem dX11_margin_50 : decode cX11_margin 50 = .ok (.invokevirtual 282, 3) := by decide +kernel
theorem dX11_margin_53 : decode cX11_margin 53 = .ok (.ireturn, 1) := by decide +kernel
theorem dX11_spare_0 : decode cX11_spare 0 = .ok (.aload_n 0, 1) := by decide +kernel
theorem dX11_spare_1 : decode cX11_spare 1 = .ok (.iconst 0, 1) := by decide +kernel
theorem dX11_spare_2 : decode cX11_spare 2 = .ok (.putfield 92, 3) := by decide +kernel
theorem dX11_spare_5 : decode cX11_spare 5 = .ok (.aload_n 0, 1) := by decide +kernel
theorem dX11_spare_6 : decode cX11_spare 6 = .ok (.iload_n 1, 1) := by decide +kernel
theorem dX11_spare_7 : decode cX11_spare 7 = .ok (.invokevirtual 301, 3) := by decide +kernel
theorem dX11_spare_10 : decode cX11_spare 10 = .ok (.ifCond .ne 9, 3) := by decide +kernel
theorem dX11_spare_13 : decode cX11_spare 13 = .ok (.aload_n 0, 1) := by decide +kernel
theorem dX11_spare_14 : decode cX11_spare 14 = .ok (.iconst 1, 1) := by decide +kernel
theorem dX11_spare_15 : decode cX11_spare 15 = .ok (.invokevirtual 252, 3) := by decide +kernel
theorem dX11_spare_18 : decode cX11_spare 18 = .ok (.ireturn, 1) := by decide +kernel
theorem dX11_spare_19 : decode cX11_spare 19 = .ok (.aload_n 0, 1) := by decide +kernel
theorem dX11_spare_20 : decode cX11_spare 20 = .ok (.invokevirtual 304, 3) := by decide +kernel
theorem dX11_spare_23 : decode cX11_spare 23 = .ok (.bipush (-2), 2) := by decide +kernel
theorem dX11_spare_25 : decode cX11_spare 25 = .ok (.istore_n 2, 1) := by decide +kernel
theorem dX11_spare_26 : decode cX11_spare 26 = .ok (.iconst 0, 1) := by decide +kernel
theorem dX11_spare_27 : decode cX11_spare 27 = .ok (.istore_n 3, 1) := by decide +kernel
theorem dX11_spare_28 : decode cX11_spare 28 = .ok (.iload_n 3, 1) := by decide +kernel
theorem dX11_spare_29 : decode cX11_spare 29 = .ok (.aload_n 0, 1) := by decide +kernel
theorem dX11_spare_30 : decode cX11_spare 30 = .ok (.iload_n 1, 1) := by decide +kernel
theorem dX11_spare_31 : decode cX11_spare 31 = .ok (.iconst 4, 1) := by decide +kernel
theorem dX11_spare_32 : decode cX11_spare 32 = .ok (.invokevirtual 279, 3) := by decide +kernel
theorem dX11_spare_35 : decode cX11_spare 35 = .ok (.if_icmp .gt 27, 3) := by decide +kernel
theorem dX11_spare_38 : decode cX11_spare 38 = .ok (.aload_n 0, 1) := by decide +kernel
theorem dX11_spare_39 : decode cX11_spare 39 = .ok (.iload_n 1, 1) := by decide +kernel
theorem dX11_spare_40 : decode cX11_spare 40 = .ok (.iload_n 3, 1) := by decide +kernel
theorem dX11_spare_41 : decode cX11_spare 41 = .ok (.invokevirtual 294, 3) := by decide +kernel
theorem dX11_spare_44 : decode cX11_spare 44 = .ok (.aload_n 0, 1) := by decide +kernel
theorem dX11_spare_45 : decode cX11_spare 45 = .ok (.iload_n 1, 1) := by decide +kernel
theorem dX11_spare_46 : decode cX11_spare 46 = .ok (.bipush 7, 2) := by decide +kernel
theorem dX11_spare_48 : decode cX11_spare 48 = .ok (.invokevirtual 279, 3) := by decide +kernel
theorem dX11_spare_51 : decode cX11_spare 51 = .ok (.if_icmp .lt 5, 3) := by decide +kernel
theorem dX11_spare_54 : decode cX11_spare 54 = .ok (.iload_n 3, 1) := by decide +kernel
theorem dX11_spare_55 : decode cX11_spare 55 = .ok (.istore_n 2, 1) := by decide +kernel
theorem dX11_spare_56 : decode cX11_spare 56 = .ok (.iinc 3 1, 3) := by decide +kernel
theorem dX11_spare_59 : decode cX11_spare 59 = .ok (.goto (-31), 3) := by decide +kernel
theorem dX11_spare_62 : decode cX11_spare 62 = .ok (.aload_n 0, 1) := by decide +kernel
theorem dX11_spare_63 : decode cX11_spare 63 = .ok (.iload_n 2, 1) := by decide +kernel
theorem dX11_spare_64 : decode cX11_spare 64 = .ok (.invokevirtual 282, 3) := by decide +kernel
theorem dX11_spare_67 : decode cX11_spare 67 = .ok (.ireturn, 1) := by decide +kernel
theorem dX11_mass_0 : decode cX11_mass 0 = .ok (.aload_n 0, 1) := by decide +kernel
theorem dX11_mass_1 : decode cX11_mass 1 = .ok (.iconst 0, 1) := by decide +kernel
theorem dX11_mass_2 : decode cX11_mass 2 = .ok (.putfield 92, 3) := by decide +kernel
theorem dX11_mass_5 : decode cX11_mass 5 = .ok (.aload_n 0, 1) := by decide +kernel
theorem dX11_mass_6 : decode cX11_mass 6 = .ok (.getfield 258, 3) := by decide +kernel
theorem dX11_mass_9 : decode cX11_mass 9 = .ok (.ifCond .ne 9, 3) := by decide +kernel
theorem dX11_mass_12 : decode cX11_mass 12 = .ok (.aload_n 0, 1) := by decide +kernel
theorem dX11_mass_13 : decode cX11_mass 13 = .ok (.iconst 1, 1) := by decide +kernel
theorem dX11_mass_14 : decode cX11_mass 14 = .ok (.invokevirtual 252, 3) := by decide +kernel
theorem dX11_mass_17 : decode cX11_mass 17 = .ok (.ireturn, 1) := by decide +kernel
theorem dX11_mass_18 : decode cX11_mass 18 = .ok (.aload_n 0, 1) := by decide +kernel
theorem dX11_mass_19 : decode cX11_mass 19 = .ok (.invokevirtual 304, 3) := by decide +kernel
theorem dX11_mass_22 : decode cX11_mass 22 = .ok (.aload_n 0, 1) := by decide +kernel
theorem dX11_mass_23 : decode cX11_mass 23 = .ok (.aload_n 0, 1) := by decide +kernel
theorem dX11_mass_24 : decode cX11_mass 24 = .ok (.iconst 0, 1) := by decide +kernel
theorem dX11_mass_25 : decode cX11_mass 25 = .ok (.invokevirtual 291, 3) := by decide +kernel
theorem dX11_mass_28 : decode cX11_mass 28 = .ok (.invokevirtual 282, 3) := by decide +kernel
theorem dX11_mass_31 : decode cX11_mass 31 = .ok (.ireturn, 1) := by decide +kernel
theorem dX11_one_0 : decode cX11_one 0 = .ok (.aload_n 0, 1) := by decide +kernel
theorem dX11_one_1 : decode cX11_one 1 = .ok (.getfield 43, 3) := by decide +kernel
theorem dX11_one_4 : decode cX11_one 4 = .ok (.iconst 0, 1) := by decide +kernel
theorem dX11_one_5 : decode cX11_one 5 = .ok (.iconst 1, 1) := by decide +kernel
theorem dX11_one_6 : decode cX11_one 6 = .ok (.iastore, 1) := by decide +kernel
theorem dX11_one_7 : decode cX11_one 7 = .ok (.aload_n 0, 1) := by decide +kernel
theorem dX11_one_8 : decode cX11_one 8 = .ok (.getfield 46, 3) := by decide +kernel
theorem dX11_one_11 : decode cX11_one 11 = .ok (.iconst 0, 1) := by decide +kernel
theorem dX11_one_12 : decode cX11_one 12 = .ok (.iconst 1, 1) := by decide +kernel
theorem dX11_one_13 : decode cX11_one 13 = .ok (.iastore, 1) := by decide +kernel
theorem dX11_one_14 : decode cX11_one 14 = .ok (.aload_n 0, 1) := by decide +kernel
theorem dX11_one_15 : decode cX11_one 15 = .ok (.iconst 1, 1) := by decide +kernel
theorem dX11_one_16 : decode cX11_one 16 = .ok (.putfield 307, 3) := by decide +kernel
theorem dX11_one_19 : decode cX11_one 19 = .ok (.aload_n 0, 1) := by decide +kernel
theorem dX11_one_20 : decode cX11_one 20 = .ok (.iconst 1, 1) := by decide +kernel
theorem dX11_one_21 : decode cX11_one 21 = .ok (.putfield 310, 3) := by decide +kernel
theorem dX11_one_24 : decode cX11_one 24 = .ok (.return_, 1) := by decide +kernel
theorem dX11_timesOver_0 : decode cX11_timesOver 0 = .ok (.iconst 0, 1) := by decide +kernel
theorem dX11_timesOver_1 : decode cX11_timesOver 1 = .ok (.istore_n 2, 1) := by decide +kernel
theorem dX11_timesOver_2 : decode cX11_timesOver 2 = .ok (.iconst 0, 1) := by decide +kernel
theorem dX11_timesOver_3 : decode cX11_timesOver 3 = .ok (.istore_n 3, 1) := by decide +kernel
theorem dX11_timesOver_4 : decode cX11_timesOver 4 = .ok (.iload_n 3, 1) := by decide +kernel
theorem dX11_timesOver_5 : decode cX11_timesOver 5 = .ok (.aload_n 0, 1) := by decide +kernel
theorem dX11_timesOver_6 : decode cX11_timesOver 6 = .ok (.getfield 307, 3) := by decide +kernel
theorem dX11_timesOver_9 : decode cX11_timesOver 9 = .ok (.if_icmp .ge 40, 3) := by decide +kernel
theorem dX11_timesOver_12 : decode cX11_timesOver 12 = .ok (.aload_n 0, 1) := by decide +kernel
theorem dX11_timesOver_13 : decode cX11_timesOver 13 = .ok (.getfield 43, 3) := by decide +kernel
theorem dX11_timesOver_16 : decode cX11_timesOver 16 = .ok (.iload_n 3, 1) := by decide +kernel
theorem dX11_timesOver_17 : decode cX11_timesOver 17 = .ok (.iaload, 1) := by decide +kernel
theorem dX11_timesOver_18 : decode cX11_timesOver 18 = .ok (.iload_n 1, 1) := by decide +kernel
theorem dX11_timesOver_19 : decode cX11_timesOver 19 = .ok (.imul, 1) := by decide +kernel
theorem dX11_timesOver_20 : decode cX11_timesOver 20 = .ok (.iload_n 2, 1) := by decide +kernel
theorem dX11_timesOver_21 : decode cX11_timesOver 21 = .ok (.iadd, 1) := by decide +kernel
theorem dX11_timesOver_22 : decode cX11_timesOver 22 = .ok (.istore 4, 2) := by decide +kernel
theorem dX11_timesOver_24 : decode cX11_timesOver 24 = .ok (.aload_n 0, 1) := by decide +kernel
theorem dX11_timesOver_25 : decode cX11_timesOver 25 = .ok (.getfield 43, 3) := by decide +kernel
theorem dX11_timesOver_28 : decode cX11_timesOver 28 = .ok (.iload_n 3, 1) := by decide +kernel
theorem dX11_timesOver_29 : decode cX11_timesOver 29 = .ok (.iload 4, 2) := by decide +kernel
theorem dX11_timesOver_31 : decode cX11_timesOver 31 = .ok (.ldc_w 313, 3) := by decide +kernel
theorem dX11_timesOver_34 : decode cX11_timesOver 34 = .ok (.irem, 1) := by decide +kernel
theorem dX11_timesOver_35 : decode cX11_timesOver 35 = .ok (.iastore, 1) := by decide +kernel
theorem dX11_timesOver_36 : decode cX11_timesOver 36 = .ok (.iload 4, 2) := by decide +kernel
theorem dX11_timesOver_38 : decode cX11_timesOver 38 = .ok (.ldc_w 313, 3) := by decide +kernel
theorem dX11_timesOver_41 : decode cX11_timesOver 41 = .ok (.idiv, 1) := by decide +kernel
theorem dX11_timesOver_42 : decode cX11_timesOver 42 = .ok (.istore_n 2, 1) := by decide +kernel
theorem dX11_timesOver_43 : decode cX11_timesOver 43 = .ok (.iinc 3 1, 3) := by decide +kernel
theorem dX11_timesOver_46 : decode cX11_timesOver 46 = .ok (.goto (-42), 3) := by decide +kernel
theorem dX11_timesOver_49 : decode cX11_timesOver 49 = .ok (.iload_n 2, 1) := by decide +kernel
theorem dX11_timesOver_50 : decode cX11_timesOver 50 = .ok (.ifCond .le 23, 3) := by decide +kernel
theorem dX11_timesOver_53 : decode cX11_timesOver 53 = .ok (.aload_n 0, 1) := by decide +kernel
theorem dX11_timesOver_54 : decode cX11_timesOver 54 = .ok (.getfield 43, 3) := by decide +kernel
theorem dX11_timesOver_57 : decode cX11_timesOver 57 = .ok (.aload_n 0, 1) := by decide +kernel
theorem dX11_timesOver_58 : decode cX11_timesOver 58 = .ok (.getfield 307, 3) := by decide +kernel
theorem dX11_timesOver_61 : decode cX11_timesOver 61 = .ok (.iload_n 2, 1) := by decide +kernel
theorem dX11_timesOver_62 : decode cX11_timesOver 62 = .ok (.iastore, 1) := by decide +kernel
theorem dX11_timesOver_63 : decode cX11_timesOver 63 = .ok (.aload_n 0, 1) := by decide +kernel
theorem dX11_timesOver_64 : decode cX11_timesOver 64 = .ok (.dup, 1) := by decide +kernel
theorem dX11_timesOver_65 : decode cX11_timesOver 65 = .ok (.getfield 307, 3) := by decide +kernel
theorem dX11_timesOver_68 : decode cX11_timesOver 68 = .ok (.iconst 1, 1) := by decide +kernel
theorem dX11_timesOver_69 : decode cX11_timesOver 69 = .ok (.iadd, 1) := by decide +kernel
theorem dX11_timesOver_70 : decode cX11_timesOver 70 = .ok (.putfield 307, 3) := by decide +kernel
theorem dX11_timesOver_73 : decode cX11_timesOver 73 = .ok (.return_, 1) := by decide +kernel
theorem dX11_timesUnder_0 : decode cX11_timesUnder 0 = .ok (.iconst 0, 1) := by decide +kernel
theorem dX11_timesUnder_1 : decode cX11_timesUnder 1 = .ok (.istore_n 2, 1) := by decide +kernel
theorem dX11_timesUnder_2 : decode cX11_timesUnder 2 = .ok (.iconst 0, 1) := by decide +kernel
theorem dX11_timesUnder_3 : decode cX11_timesUnder 3 = .ok (.istore_n 3, 1) := by decide +kernel
theorem dX11_timesUnder_4 : decode cX11_timesUnder 4 = .ok (.iload_n 3, 1) := by decide +kernel
theorem dX11_timesUnder_5 : decode cX11_timesUnder 5 = .ok (.aload_n 0, 1) := by decide +kernel
theorem dX11_timesUnder_6 : decode cX11_timesUnder 6 = .ok (.getfield 310, 3) := by decide +kernel
theorem dX11_timesUnder_9 : decode cX11_timesUnder 9 = .ok (.if_icmp .ge 40, 3) := by decide +kernel
theorem dX11_timesUnder_12 : decode cX11_timesUnder 12 = .ok (.aload_n 0, 1) := by decide +kernel
theorem dX11_timesUnder_13 : decode cX11_timesUnder 13 = .ok (.getfield 46, 3) := by decide +kernel
theorem dX11_timesUnder_16 : decode cX11_timesUnder 16 = .ok (.iload_n 3, 1) := by decide +kernel
theorem dX11_timesUnder_17 : decode cX11_timesUnder 17 = .ok (.iaload, 1) := by decide +kernel
theorem dX11_timesUnder_18 : decode cX11_timesUnder 18 = .ok (.iload_n 1, 1) := by decide +kernel
theorem dX11_timesUnder_19 : decode cX11_timesUnder 19 = .ok (.imul, 1) := by decide +kernel
theorem dX11_timesUnder_20 : decode cX11_timesUnder 20 = .ok (.iload_n 2, 1) := by decide +kernel
theorem dX11_timesUnder_21 : decode cX11_timesUnder 21 = .ok (.iadd, 1) := by decide +kernel
theorem dX11_timesUnder_22 : decode cX11_timesUnder 22 = .ok (.istore 4, 2) := by decide +kernel
theorem dX11_timesUnder_24 : decode cX11_timesUnder 24 = .ok (.aload_n 0, 1) := by decide +kernel
theorem dX11_timesUnder_25 : decode cX11_timesUnder 25 = .ok (.getfield 46, 3) := by decide +kernel
theorem dX11_timesUnder_28 : decode cX11_timesUnder 28 = .ok (.iload_n 3, 1) := by decide +kernel
theorem dX11_timesUnder_29 : decode cX11_timesUnder 29 = .ok (.iload 4, 2) := by decide +kernel
theorem dX11_timesUnder_31 : decode cX11_timesUnder 31 = .ok (.ldc_w 313, 3) := by decide +kernel
theorem dX11_timesUnder_34 : decode cX11_timesUnder 34 = .ok (.irem, 1) := by decide +kernel
theorem dX11_timesUnder_35 : decode cX11_timesUnder 35 = .ok (.iastore, 1) := by decide +kernel
theorem dX11_timesUnder_36 : decode cX11_timesUnder 36 = .ok (.iload 4, 2) := by decide +kernel
theorem dX11_timesUnder_38 : decode cX11_timesUnder 38 = .ok (.ldc_w 313, 3) := by decide +kernel
theorem dX11_timesUnder_41 : decode cX11_timesUnder 41 = .ok (.idiv, 1) := by decide +kernel
theorem dX11_timesUnder_42 : decode cX11_timesUnder 42 = .ok (.istore_n 2, 1) := by decide +kernel
theorem dX11_timesUnder_43 : decode cX11_timesUnder 43 = .ok (.iinc 3 1, 3) := by decide +kernel
theorem dX11_timesUnder_46 : decode cX11_timesUnder 46 = .ok (.goto (-42), 3) := by decide +kernel
theorem dX11_timesUnder_49 : decode cX11_timesUnder 49 = .ok (.iload_n 2, 1) := by decide +kernel
theorem dX11_timesUnder_50 : decode cX11_timesUnder 50 = .ok (.ifCond .le 23, 3) := by decide +kernel
theorem dX11_timesUnder_53 : decode cX11_timesUnder 53 = .ok (.aload_n 0, 1) := by decide +kernel
theorem dX11_timesUnder_54 : decode cX11_timesUnder 54 = .ok (.getfield 46, 3) := by decide +kernel
theorem dX11_timesUnder_57 : decode cX11_timesUnder 57 = .ok (.aload_n 0, 1) := by decide +kernel
theorem dX11_timesUnder_58 : decode cX11_timesUnder 58 = .ok (.getfield 310, 3) := by decide +kernel
theorem dX11_timesUnder_61 : decode cX11_timesUnder 61 = .ok (.iload_n 2, 1) := by decide +kernel
theorem dX11_timesUnder_62 : decode cX11_timesUnder 62 = .ok (.iastore, 1) := by decide +kernel
theorem dX11_timesUnder_63 : decode cX11_timesUnder 63 = .ok (.aload_n 0, 1) := by decide +kernel
theorem dX11_timesUnder_64 : decode cX11_timesUnder 64 = .ok (.dup, 1) := by decide +kernel
theorem dX11_timesUnder_65 : decode cX11_timesUnder 65 = .ok (.getfield 310, 3) := by decide +kernel
theorem dX11_timesUnder_68 : decode cX11_timesUnder 68 = .ok (.iconst 1, 1) := by decide +kernel
theorem dX11_timesUnder_69 : decode cX11_timesUnder 69 = .ok (.iadd, 1) := by decide +kernel
theorem dX11_timesUnder_70 : decode cX11_timesUnder 70 = .ok (.putfield 310, 3) := by decide +kernel
theorem dX11_timesUnder_73 : decode cX11_timesUnder 73 = .ok (.return_, 1) := by decide +kernel
theorem dX11_compares_0 : decode cX11_compares 0 = .ok (.aload_n 0, 1) := by decide +kernel
theorem dX11_compares_1 : decode cX11_compares 1 = .ok (.getfield 307, 3) := by decide +kernel
theorem dX11_compares_4 : decode cX11_compares 4 = .ok (.aload_n 0, 1) := by decide +kernel
theorem dX11_compares_5 : decode cX11_compares 5 = .ok (.getfield 310, 3) := by decide +kernel
theorem dX11_compares_8 : decode cX11_compares 8 = .ok (.if_icmp .eq 20, 3) := by decide +kernel
theorem dX11_compares_11 : decode cX11_compares 11 = .ok (.aload_n 0, 1) := by decide +kernel
theorem dX11_compares_12 : decode cX11_compares 12 = .ok (.getfield 307, 3) := by decide +kernel
theorem dX11_compares_15 : decode cX11_compares 15 = .ok (.aload_n 0, 1) := by decide +kernel
theorem dX11_compares_16 : decode cX11_compares 16 = .ok (.getfield 310, 3) := by decide +kernel
theorem dX11_compares_19 : decode cX11_compares 19 = .ok (.if_icmp .ge 7, 3) := by decide +kernel
theorem dX11_compares_22 : decode cX11_compares 22 = .ok (.iconst (-1), 1) := by decide +kernel
theorem dX11_compares_23 : decode cX11_compares 23 = .ok (.goto 4, 3) := by decide +kernel
theorem dX11_compares_26 : decode cX11_compares 26 = .ok (.iconst 1, 1) := by decide +kernel
theorem dX11_compares_27 : decode cX11_compares 27 = .ok (.ireturn, 1) := by decide +kernel
theorem dX11_compares_28 : decode cX11_compares 28 = .ok (.aload_n 0, 1) := by decide +kernel
theorem dX11_compares_29 : decode cX11_compares 29 = .ok (.getfield 307, 3) := by decide +kernel
theorem dX11_compares_32 : decode cX11_compares 32 = .ok (.iconst 1, 1) := by decide +kernel
theorem dX11_compares_33 : decode cX11_compares 33 = .ok (.isub, 1) := by decide +kernel
theorem dX11_compares_34 : decode cX11_compares 34 = .ok (.istore_n 1, 1) := by decide +kernel
theorem dX11_compares_35 : decode cX11_compares 35 = .ok (.iload_n 1, 1) := by decide +kernel
theorem dX11_compares_36 : decode cX11_compares 36 = .ok (.ifCond .lt 45, 3) := by decide +kernel
theorem dX11_compares_39 : decode cX11_compares 39 = .ok (.aload_n 0, 1) := by decide +kernel
theorem dX11_compares_40 : decode cX11_compares 40 = .ok (.getfield 43, 3) := by decide +kernel
theorem dX11_compares_43 : decode cX11_compares 43 = .ok (.iload_n 1, 1) := by decide +kernel
theorem dX11_compares_44 : decode cX11_compares 44 = .ok (.iaload, 1) := by decide +kernel
theorem dX11_compares_45 : decode cX11_compares 45 = .ok (.aload_n 0, 1) := by decide +kernel
theorem dX11_compares_46 : decode cX11_compares 46 = .ok (.getfield 46, 3) := by decide +kernel
theorem dX11_compares_49 : decode cX11_compares 49 = .ok (.iload_n 1, 1) := by decide +kernel
theorem dX11_compares_50 : decode cX11_compares 50 = .ok (.iaload, 1) := by decide +kernel
theorem dX11_compares_51 : decode cX11_compares 51 = .ok (.if_icmp .eq 24, 3) := by decide +kernel
theorem dX11_compares_54 : decode cX11_compares 54 = .ok (.aload_n 0, 1) := by decide +kernel
theorem dX11_compares_55 : decode cX11_compares 55 = .ok (.getfield 43, 3) := by decide +kernel
theorem dX11_compares_58 : decode cX11_compares 58 = .ok (.iload_n 1, 1) := by decide +kernel
theorem dX11_compares_59 : decode cX11_compares 59 = .ok (.iaload, 1) := by decide +kernel
theorem dX11_compares_60 : decode cX11_compares 60 = .ok (.aload_n 0, 1) := by decide +kernel
theorem dX11_compares_61 : decode cX11_compares 61 = .ok (.getfield 46, 3) := by decide +kernel
theorem dX11_compares_64 : decode cX11_compares 64 = .ok (.iload_n 1, 1) := by decide +kernel
theorem dX11_compares_65 : decode cX11_compares 65 = .ok (.iaload, 1) := by decide +kernel
theorem dX11_compares_66 : decode cX11_compares 66 = .ok (.if_icmp .ge 7, 3) := by decide +kernel
theorem dX11_compares_69 : decode cX11_compares 69 = .ok (.iconst (-1), 1) := by decide +kernel
theorem dX11_compares_70 : decode cX11_compares 70 = .ok (.goto 4, 3) := by decide +kernel
theorem dX11_compares_73 : decode cX11_compares 73 = .ok (.iconst 1, 1) := by decide +kernel
theorem dX11_compares_74 : decode cX11_compares 74 = .ok (.ireturn, 1) := by decide +kernel
theorem dX11_compares_75 : decode cX11_compares 75 = .ok (.iinc 1 (-1), 3) := by decide +kernel
theorem dX11_compares_78 : decode cX11_compares 78 = .ok (.goto (-43), 3) := by decide +kernel
theorem dX11_compares_81 : decode cX11_compares 81 = .ok (.iconst 0, 1) := by decide +kernel
theorem dX11_compares_82 : decode cX11_compares 82 = .ok (.ireturn, 1) := by decide +kernel
theorem dX11_times_0 : decode cX11_times 0 = .ok (.iconst 0, 1) := by decide +kernel
theorem dX11_times_1 : decode cX11_times 1 = .ok (.istore 4, 2) := by decide +kernel
theorem dX11_times_3 : decode cX11_times 3 = .ok (.iload 4, 2) := by decide +kernel
theorem dX11_times_5 : decode cX11_times 5 = .ok (.iload_n 3, 1) := by decide +kernel
theorem dX11_times_6 : decode cX11_times 6 = .ok (.if_icmp .ge 19, 3) := by decide +kernel
theorem dX11_times_9 : decode cX11_times 9 = .ok (.aload_n 0, 1) := by decide +kernel
theorem dX11_times_10 : decode cX11_times 10 = .ok (.iload_n 1, 1) := by decide +kernel
theorem dX11_times_11 : decode cX11_times 11 = .ok (.invokevirtual 314, 3) := by decide +kernel
theorem dX11_times_14 : decode cX11_times 14 = .ok (.aload_n 0, 1) := by decide +kernel
theorem dX11_times_15 : decode cX11_times 15 = .ok (.iload_n 2, 1) := by decide +kernel
theorem dX11_times_16 : decode cX11_times 16 = .ok (.invokevirtual 317, 3) := by decide +kernel
theorem dX11_times_19 : decode cX11_times 19 = .ok (.iinc 4 1, 3) := by decide +kernel
theorem dX11_times_22 : decode cX11_times 22 = .ok (.goto (-19), 3) := by decide +kernel
theorem dX11_times_25 : decode cX11_times 25 = .ok (.return_, 1) := by decide +kernel
theorem dX11_laysSpeed_0 : decode cX11_laysSpeed 0 = .ok (.aload_n 0, 1) := by decide +kernel
theorem dX11_laysSpeed_1 : decode cX11_laysSpeed 1 = .ok (.invokevirtual 320, 3) := by decide +kernel
theorem dX11_laysSpeed_4 : decode cX11_laysSpeed 4 = .ok (.iconst 0, 1) := by decide +kernel
theorem dX11_laysSpeed_5 : decode cX11_laysSpeed 5 = .ok (.istore_n 1, 1) := by decide +kernel
theorem dX11_laysSpeed_6 : decode cX11_laysSpeed 6 = .ok (.iload_n 1, 1) := by decide +kernel
theorem dX11_laysSpeed_7 : decode cX11_laysSpeed 7 = .ok (.aload_n 0, 1) := by decide +kernel
theorem dX11_laysSpeed_8 : decode cX11_laysSpeed 8 = .ok (.getfield 270, 3) := by decide +kernel
theorem dX11_laysSpeed_11 : decode cX11_laysSpeed 11 = .ok (.if_icmp .ge 36, 3) := by decide +kernel
theorem dX11_laysSpeed_14 : decode cX11_laysSpeed 14 = .ok (.aload_n 0, 1) := by decide +kernel
theorem dX11_laysSpeed_15 : decode cX11_laysSpeed 15 = .ok (.aload_n 0, 1) := by decide +kernel
theorem dX11_laysSpeed_16 : decode cX11_laysSpeed 16 = .ok (.iload_n 1, 1) := by decide +kernel
theorem dX11_laysSpeed_17 : decode cX11_laysSpeed 17 = .ok (.invokevirtual 291, 3) := by decide +kernel
theorem dX11_laysSpeed_20 : decode cX11_laysSpeed 20 = .ok (.aload_n 0, 1) := by decide +kernel
theorem dX11_laysSpeed_21 : decode cX11_laysSpeed 21 = .ok (.iload_n 1, 1) := by decide +kernel
theorem dX11_laysSpeed_22 : decode cX11_laysSpeed 22 = .ok (.invokevirtual 291, 3) := by decide +kernel
theorem dX11_laysSpeed_25 : decode cX11_laysSpeed 25 = .ok (.aload_n 0, 1) := by decide +kernel
theorem dX11_laysSpeed_26 : decode cX11_laysSpeed 26 = .ok (.getfield 40, 3) := by decide +kernel
theorem dX11_laysSpeed_29 : decode cX11_laysSpeed 29 = .ok (.iload_n 1, 1) := by decide +kernel
theorem dX11_laysSpeed_30 : decode cX11_laysSpeed 30 = .ok (.iaload, 1) := by decide +kernel
theorem dX11_laysSpeed_31 : decode cX11_laysSpeed 31 = .ok (.isub, 1) := by decide +kernel
theorem dX11_laysSpeed_32 : decode cX11_laysSpeed 32 = .ok (.aload_n 0, 1) := by decide +kernel
theorem dX11_laysSpeed_33 : decode cX11_laysSpeed 33 = .ok (.iload_n 1, 1) := by decide +kernel
theorem dX11_laysSpeed_34 : decode cX11_laysSpeed 34 = .ok (.iconst 0, 1) := by decide +kernel
theorem dX11_laysSpeed_35 : decode cX11_laysSpeed 35 = .ok (.invokevirtual 279, 3) := by decide +kernel
theorem dX11_laysSpeed_38 : decode cX11_laysSpeed 38 = .ok (.invokevirtual 323, 3) := by decide +kernel
theorem dX11_laysSpeed_41 : decode cX11_laysSpeed 41 = .ok (.iinc 1 1, 3) := by decide +kernel
theorem dX11_laysSpeed_44 : decode cX11_laysSpeed 44 = .ok (.goto (-38), 3) := by decide +kernel
theorem dX11_laysSpeed_47 : decode cX11_laysSpeed 47 = .ok (.return_, 1) := by decide +kernel
theorem dX11_reachesBy_0 : decode cX11_reachesBy 0 = .ok (.aload_n 0, 1) := by decide +kernel
theorem dX11_reachesBy_1 : decode cX11_reachesBy 1 = .ok (.aload_n 0, 1) := by decide +kernel
theorem dX11_reachesBy_2 : decode cX11_reachesBy 2 = .ok (.getfield 265, 3) := by decide +kernel
theorem dX11_reachesBy_5 : decode cX11_reachesBy 5 = .ok (.aload_n 0, 1) := by decide +kernel
theorem dX11_reachesBy_6 : decode cX11_reachesBy 6 = .ok (.getfield 262, 3) := by decide +kernel
theorem dX11_reachesBy_9 : decode cX11_reachesBy 9 = .ok (.iload_n 1, 1) := by decide +kernel
theorem dX11_reachesBy_10 : decode cX11_reachesBy 10 = .ok (.invokevirtual 323, 3) := by decide +kernel
theorem dX11_reachesBy_13 : decode cX11_reachesBy 13 = .ok (.aload_n 0, 1) := by decide +kernel
theorem dX11_reachesBy_14 : decode cX11_reachesBy 14 = .ok (.invokevirtual 327, 3) := by decide +kernel
theorem dX11_reachesBy_17 : decode cX11_reachesBy 17 = .ok (.ifCond .lt 7, 3) := by decide +kernel
theorem dX11_reachesBy_20 : decode cX11_reachesBy 20 = .ok (.iconst 1, 1) := by decide +kernel
theorem dX11_reachesBy_21 : decode cX11_reachesBy 21 = .ok (.goto 4, 3) := by decide +kernel
theorem dX11_reachesBy_24 : decode cX11_reachesBy 24 = .ok (.iconst 0, 1) := by decide +kernel
theorem dX11_reachesBy_25 : decode cX11_reachesBy 25 = .ok (.ireturn, 1) := by decide +kernel
theorem dX11_greatestBy_0 : decode cX11_greatestBy 0 = .ok (.iconst 0, 1) := by decide +kernel
theorem dX11_greatestBy_1 : decode cX11_greatestBy 1 = .ok (.istore_n 1, 1) := by decide +kernel
theorem dX11_greatestBy_2 : decode cX11_greatestBy 2 = .ok (.iload_n 1, 1) := by decide +kernel
theorem dX11_greatestBy_3 : decode cX11_greatestBy 3 = .ok (.bipush 40, 2) := by decide +kernel
theorem dX11_greatestBy_5 : decode cX11_greatestBy 5 = .ok (.if_icmp .gt 29, 3) := by decide +kernel
theorem dX11_greatestBy_8 : decode cX11_greatestBy 8 = .ok (.aload_n 0, 1) := by decide +kernel
theorem dX11_greatestBy_9 : decode cX11_greatestBy 9 = .ok (.invokevirtual 327, 3) := by decide +kernel
theorem dX11_greatestBy_12 : decode cX11_greatestBy 12 = .ok (.ifCond .lt 22, 3) := by decide +kernel
theorem dX11_greatestBy_15 : decode cX11_greatestBy 15 = .ok (.aload_n 0, 1) := by decide +kernel
theorem dX11_greatestBy_16 : decode cX11_greatestBy 16 = .ok (.aload_n 0, 1) := by decide +kernel
theorem dX11_greatestBy_17 : decode cX11_greatestBy 17 = .ok (.getfield 265, 3) := by decide +kernel
theorem dX11_greatestBy_20 : decode cX11_greatestBy 20 = .ok (.aload_n 0, 1) := by decide +kernel
theorem dX11_greatestBy_21 : decode cX11_greatestBy 21 = .ok (.getfield 262, 3) := by decide +kernel
theorem dX11_greatestBy_24 : decode cX11_greatestBy 24 = .ok (.iconst 1, 1) := by decide +kernel
theorem dX11_greatestBy_25 : decode cX11_greatestBy 25 = .ok (.invokevirtual 323, 3) := by decide +kernel
theorem dX11_greatestBy_28 : decode cX11_greatestBy 28 = .ok (.iinc 1 1, 3) := by decide +kernel
theorem dX11_greatestBy_31 : decode cX11_greatestBy 31 = .ok (.goto (-29), 3) := by decide +kernel
theorem dX11_greatestBy_34 : decode cX11_greatestBy 34 = .ok (.iload_n 1, 1) := by decide +kernel
theorem dX11_greatestBy_35 : decode cX11_greatestBy 35 = .ok (.ifCond .ne 8, 3) := by decide +kernel
theorem dX11_greatestBy_38 : decode cX11_greatestBy 38 = .ok (.bipush (-2), 2) := by decide +kernel
theorem dX11_greatestBy_40 : decode cX11_greatestBy 40 = .ok (.goto 6, 3) := by decide +kernel
theorem dX11_greatestBy_43 : decode cX11_greatestBy 43 = .ok (.iload_n 1, 1) := by decide +kernel
theorem dX11_greatestBy_44 : decode cX11_greatestBy 44 = .ok (.iconst 1, 1) := by decide +kernel
theorem dX11_greatestBy_45 : decode cX11_greatestBy 45 = .ok (.isub, 1) := by decide +kernel
theorem dX11_greatestBy_46 : decode cX11_greatestBy 46 = .ok (.ireturn, 1) := by decide +kernel
theorem dX11_divReaches_0 : decode cX11_divReaches 0 = .ok (.aload_n 0, 1) := by decide +kernel
theorem dX11_divReaches_1 : decode cX11_divReaches 1 = .ok (.invokevirtual 330, 3) := by decide +kernel
theorem dX11_divReaches_4 : decode cX11_divReaches 4 = .ok (.aload_n 0, 1) := by decide +kernel
theorem dX11_divReaches_5 : decode cX11_divReaches 5 = .ok (.iload_n 1, 1) := by decide +kernel
theorem dX11_divReaches_6 : decode cX11_divReaches 6 = .ok (.invokevirtual 333, 3) := by decide +kernel
theorem dX11_divReaches_9 : decode cX11_divReaches 9 = .ok (.ireturn, 1) := by decide +kernel
theorem dX11_refusesPower_0 : decode cX11_refusesPower 0 = .ok (.aload_n 0, 1) := by decide +kernel
theorem dX11_refusesPower_1 : decode cX11_refusesPower 1 = .ok (.getfield 258, 3) := by decide +kernel
theorem dX11_refusesPower_4 : decode cX11_refusesPower 4 = .ok (.ifCond .eq 7, 3) := by decide +kernel
theorem dX11_refusesPower_7 : decode cX11_refusesPower 7 = .ok (.iload_n 1, 1) := by decide +kernel
theorem dX11_refusesPower_8 : decode cX11_refusesPower 8 = .ok (.ifCond .ne 7, 3) := by decide +kernel
theorem dX11_refusesPower_11 : decode cX11_refusesPower 11 = .ok (.iconst 1, 1) := by decide +kernel
theorem dX11_refusesPower_12 : decode cX11_refusesPower 12 = .ok (.goto 18, 3) := by decide +kernel
theorem dX11_refusesPower_15 : decode cX11_refusesPower 15 = .ok (.iload_n 2, 1) := by decide +kernel
theorem dX11_refusesPower_16 : decode cX11_refusesPower 16 = .ok (.iconst 0, 1) := by decide +kernel
theorem dX11_refusesPower_17 : decode cX11_refusesPower 17 = .ok (.bipush 40, 2) := by decide +kernel
theorem dX11_refusesPower_19 : decode cX11_refusesPower 19 = .ok (.invokestatic 117, 3) := by decide +kernel
theorem dX11_refusesPower_22 : decode cX11_refusesPower 22 = .ok (.ifCond .eq 7, 3) := by decide +kernel
theorem dX11_refusesPower_25 : decode cX11_refusesPower 25 = .ok (.iconst 0, 1) := by decide +kernel
theorem dX11_refusesPower_26 : decode cX11_refusesPower 26 = .ok (.goto 4, 3) := by decide +kernel
theorem dX11_refusesPower_29 : decode cX11_refusesPower 29 = .ok (.iconst 2, 1) := by decide +kernel
theorem dX11_refusesPower_30 : decode cX11_refusesPower 30 = .ok (.ireturn, 1) := by decide +kernel
theorem dX11_reaches_0 : decode cX11_reaches 0 = .ok (.aload_n 0, 1) := by decide +kernel
theorem dX11_reaches_1 : decode cX11_reaches 1 = .ok (.iconst 0, 1) := by decide +kernel
theorem dX11_reaches_2 : decode cX11_reaches 2 = .ok (.putfield 92, 3) := by decide +kernel
theorem dX11_reaches_5 : decode cX11_reaches 5 = .ok (.aload_n 0, 1) := by decide +kernel
theorem dX11_reaches_6 : decode cX11_reaches 6 = .ok (.iconst 1, 1) := by decide +kernel
theorem dX11_reaches_7 : decode cX11_reaches 7 = .ok (.iload_n 1, 1) := by decide +kernel
theorem dX11_reaches_8 : decode cX11_reaches 8 = .ok (.invokevirtual 336, 3) := by decide +kernel
theorem dX11_reaches_11 : decode cX11_reaches 11 = .ok (.istore_n 2, 1) := by decide +kernel
theorem dX11_reaches_12 : decode cX11_reaches 12 = .ok (.iload_n 2, 1) := by decide +kernel
theorem dX11_reaches_13 : decode cX11_reaches 13 = .ok (.ifCond .le 9, 3) := by decide +kernel
theorem dX11_reaches_16 : decode cX11_reaches 16 = .ok (.aload_n 0, 1) := by decide +kernel
theorem dX11_reaches_17 : decode cX11_reaches 17 = .ok (.iload_n 2, 1) := by decide +kernel
theorem dX11_reaches_18 : decode cX11_reaches 18 = .ok (.invokevirtual 252, 3) := by decide +kernel
theorem dX11_reaches_21 : decode cX11_reaches 21 = .ok (.ireturn, 1) := by decide +kernel
theorem dX11_reaches_22 : decode cX11_reaches 22 = .ok (.aload_n 0, 1) := by decide +kernel
theorem dX11_reaches_23 : decode cX11_reaches 23 = .ok (.invokevirtual 304, 3) := by decide +kernel
theorem dX11_reaches_26 : decode cX11_reaches 26 = .ok (.aload_n 0, 1) := by decide +kernel
theorem dX11_reaches_27 : decode cX11_reaches 27 = .ok (.aload_n 0, 1) := by decide +kernel
theorem dX11_reaches_28 : decode cX11_reaches 28 = .ok (.iload_n 1, 1) := by decide +kernel
theorem dX11_reaches_29 : decode cX11_reaches 29 = .ok (.invokevirtual 340, 3) := by decide +kernel
theorem dX11_reaches_32 : decode cX11_reaches 32 = .ok (.ifCond .eq 7, 3) := by decide +kernel
theorem dX11_reaches_35 : decode cX11_reaches 35 = .ok (.iconst 1, 1) := by decide +kernel
theorem dX11_reaches_36 : decode cX11_reaches 36 = .ok (.goto 4, 3) := by decide +kernel
theorem dX11_reaches_39 : decode cX11_reaches 39 = .ok (.iconst 0, 1) := by decide +kernel
theorem dX11_reaches_40 : decode cX11_reaches 40 = .ok (.invokevirtual 282, 3) := by decide +kernel
theorem dX11_reaches_43 : decode cX11_reaches 43 = .ok (.ireturn, 1) := by decide +kernel
theorem dX11_greatest_0 : decode cX11_greatest 0 = .ok (.aload_n 0, 1) := by decide +kernel
theorem dX11_greatest_1 : decode cX11_greatest 1 = .ok (.iconst 0, 1) := by decide +kernel
theorem dX11_greatest_2 : decode cX11_greatest 2 = .ok (.putfield 92, 3) := by decide +kernel
theorem dX11_greatest_5 : decode cX11_greatest 5 = .ok (.aload_n 0, 1) := by decide +kernel
theorem dX11_greatest_6 : decode cX11_greatest 6 = .ok (.getfield 258, 3) := by decide +kernel
theorem dX11_greatest_9 : decode cX11_greatest 9 = .ok (.ifCond .ne 9, 3) := by decide +kernel
theorem dX11_greatest_12 : decode cX11_greatest 12 = .ok (.aload_n 0, 1) := by decide +kernel
theorem dX11_greatest_13 : decode cX11_greatest 13 = .ok (.iconst 1, 1) := by decide +kernel
theorem dX11_greatest_14 : decode cX11_greatest 14 = .ok (.invokevirtual 252, 3) := by decide +kernel
theorem dX11_greatest_17 : decode cX11_greatest 17 = .ok (.ireturn, 1) := by decide +kernel
theorem dX11_greatest_18 : decode cX11_greatest 18 = .ok (.aload_n 0, 1) := by decide +kernel
theorem dX11_greatest_19 : decode cX11_greatest 19 = .ok (.invokevirtual 304, 3) := by decide +kernel
theorem dX11_greatest_22 : decode cX11_greatest 22 = .ok (.aload_n 0, 1) := by decide +kernel
theorem dX11_greatest_23 : decode cX11_greatest 23 = .ok (.invokevirtual 330, 3) := by decide +kernel
theorem dX11_greatest_26 : decode cX11_greatest 26 = .ok (.aload_n 0, 1) := by decide +kernel
theorem dX11_greatest_27 : decode cX11_greatest 27 = .ok (.aload_n 0, 1) := by decide +kernel
theorem dX11_greatest_28 : decode cX11_greatest 28 = .ok (.invokevirtual 343, 3) := by decide +kernel
theorem dX11_greatest_31 : decode cX11_greatest 31 = .ok (.invokevirtual 282, 3) := by decide +kernel
theorem dX11_greatest_34 : decode cX11_greatest 34 = .ok (.ireturn, 1) := by decide +kernel
theorem dX11_holds_0 : decode cX11_holds 0 = .ok (.aload_n 0, 1) := by decide +kernel
theorem dX11_holds_1 : decode cX11_holds 1 = .ok (.iconst 0, 1) := by decide +kernel
theorem dX11_holds_2 : decode cX11_holds 2 = .ok (.putfield 92, 3) := by decide +kernel
theorem dX11_holds_5 : decode cX11_holds 5 = .ok (.aload_n 0, 1) := by decide +kernel
theorem dX11_holds_6 : decode cX11_holds 6 = .ok (.getfield 258, 3) := by decide +kernel
theorem dX11_holds_9 : decode cX11_holds 9 = .ok (.ifCond .ne 9, 3) := by decide +kernel
theorem dX11_holds_12 : decode cX11_holds 12 = .ok (.aload_n 0, 1) := by decide +kernel
theorem dX11_holds_13 : decode cX11_holds 13 = .ok (.iconst 1, 1) := by decide +kernel
theorem dX11_holds_14 : decode cX11_holds 14 = .ok (.invokevirtual 252, 3) := by decide +kernel
theorem dX11_holds_17 : decode cX11_holds 17 = .ok (.ireturn, 1) := by decide +kernel
theorem dX11_holds_18 : decode cX11_holds 18 = .ok (.aload_n 0, 1) := by decide +kernel
theorem dX11_holds_19 : decode cX11_holds 19 = .ok (.invokevirtual 304, 3) := by decide +kernel
theorem dX11_holds_22 : decode cX11_holds 22 = .ok (.aload_n 0, 1) := by decide +kernel
theorem dX11_holds_23 : decode cX11_holds 23 = .ok (.aload_n 0, 1) := by decide +kernel
theorem dX11_holds_24 : decode cX11_holds 24 = .ok (.invokevirtual 346, 3) := by decide +kernel
theorem dX11_holds_27 : decode cX11_holds 27 = .ok (.ifCond .eq 7, 3) := by decide +kernel
theorem dX11_holds_30 : decode cX11_holds 30 = .ok (.iconst 1, 1) := by decide +kernel
theorem dX11_holds_31 : decode cX11_holds 31 = .ok (.goto 4, 3) := by decide +kernel
theorem dX11_holds_34 : decode cX11_holds 34 = .ok (.iconst 0, 1) := by decide +kernel
theorem dX11_holds_35 : decode cX11_holds 35 = .ok (.invokevirtual 282, 3) := by decide +kernel
theorem dX11_holds_38 : decode cX11_holds 38 = .ok (.ireturn, 1) := by decide +kernel
theorem dX11_factors_0 : decode cX11_factors 0 = .ok (.iload_n 1, 1) := by decide +kernel
theorem dX11_factors_1 : decode cX11_factors 1 = .ok (.istore_n 3, 1) := by decide +kernel
theorem dX11_factors_2 : decode cX11_factors 2 = .ok (.iconst 2, 1) := by decide +kernel
theorem dX11_factors_3 : decode cX11_factors 3 = .ok (.istore 4, 2) := by decide +kernel
theorem dX11_factors_5 : decode cX11_factors 5 = .ok (.iload_n 3, 1) := by decide +kernel
theorem dX11_factors_6 : decode cX11_factors 6 = .ok (.iconst 1, 1) := by decide +kernel
theorem dX11_factors_7 : decode cX11_factors 7 = .ok (.if_icmp .le 35, 3) := by decide +kernel
theorem dX11_factors_10 : decode cX11_factors 10 = .ok (.iload_n 3, 1) := by decide +kernel
theorem dX11_factors_11 : decode cX11_factors 11 = .ok (.iload 4, 2) := by decide +kernel
theorem dX11_factors_13 : decode cX11_factors 13 = .ok (.irem, 1) := by decide +kernel
theorem dX11_factors_14 : decode cX11_factors 14 = .ok (.ifCond .ne 22, 3) := by decide +kernel
theorem dX11_factors_17 : decode cX11_factors 17 = .ok (.aload_n 0, 1) := by decide +kernel
theorem dX11_factors_18 : decode cX11_factors 18 = .ok (.getfield 49, 3) := by decide +kernel
theorem dX11_factors_21 : decode cX11_factors 21 = .ok (.iload 4, 2) := by decide +kernel
theorem dX11_factors_23 : decode cX11_factors 23 = .ok (.dup2, 1) := by decide +kernel
theorem dX11_factors_24 : decode cX11_factors 24 = .ok (.iaload, 1) := by decide +kernel
theorem dX11_factors_25 : decode cX11_factors 25 = .ok (.iload_n 2, 1) := by decide +kernel
theorem dX11_factors_26 : decode cX11_factors 26 = .ok (.iadd, 1) := by decide +kernel
theorem dX11_factors_27 : decode cX11_factors 27 = .ok (.iastore, 1) := by decide +kernel
theorem dX11_factors_28 : decode cX11_factors 28 = .ok (.iload_n 3, 1) := by decide +kernel
theorem dX11_factors_29 : decode cX11_factors 29 = .ok (.iload 4, 2) := by decide +kernel
theorem dX11_factors_31 : decode cX11_factors 31 = .ok (.idiv, 1) := by decide +kernel
theorem dX11_factors_32 : decode cX11_factors 32 = .ok (.istore_n 3, 1) := by decide +kernel
theorem dX11_factors_33 : decode cX11_factors 33 = .ok (.goto (-23), 3) := by decide +kernel
theorem dX11_factors_36 : decode cX11_factors 36 = .ok (.iinc 4 1, 3) := by decide +kernel
theorem dX11_factors_39 : decode cX11_factors 39 = .ok (.goto (-34), 3) := by decide +kernel
theorem dX11_factors_42 : decode cX11_factors 42 = .ok (.return_, 1) := by decide +kernel
theorem dX11_ratio_0 : decode cX11_ratio 0 = .ok (.aload_n 0, 1) := by decide +kernel
theorem dX11_ratio_1 : decode cX11_ratio 1 = .ok (.iload_n 1, 1) := by decide +kernel
theorem dX11_ratio_2 : decode cX11_ratio 2 = .ok (.iload_n 3, 1) := by decide +kernel
theorem dX11_ratio_3 : decode cX11_ratio 3 = .ok (.invokevirtual 349, 3) := by decide +kernel
theorem dX11_ratio_6 : decode cX11_ratio 6 = .ok (.aload_n 0, 1) := by decide +kernel
theorem dX11_ratio_7 : decode cX11_ratio 7 = .ok (.iload_n 2, 1) := by decide +kernel
theorem dX11_ratio_8 : decode cX11_ratio 8 = .ok (.iload_n 3, 1) := by decide +kernel
theorem dX11_ratio_9 : decode cX11_ratio 9 = .ok (.ineg, 1) := by decide +kernel
theorem dX11_ratio_10 : decode cX11_ratio 10 = .ok (.invokevirtual 349, 3) := by decide +kernel
theorem dX11_ratio_13 : decode cX11_ratio 13 = .ok (.return_, 1) := by decide +kernel
theorem dX11_lowest_0 : decode cX11_lowest 0 = .ok (.lconst 1, 1) := by decide +kernel
theorem dX11_lowest_1 : decode cX11_lowest 1 = .ok (.lstore_n 2, 1) := by decide +kernel
theorem dX11_lowest_2 : decode cX11_lowest 2 = .ok (.iconst 2, 1) := by decide +kernel
theorem dX11_lowest_3 : decode cX11_lowest 3 = .ok (.istore 4, 2) := by decide +kernel
theorem dX11_lowest_5 : decode cX11_lowest 5 = .ok (.iload 4, 2) := by decide +kernel
theorem dX11_lowest_7 : decode cX11_lowest 7 = .ok (.sipush 400, 3) := by decide +kernel
theorem dX11_lowest_10 : decode cX11_lowest 10 = .ok (.if_icmp .ge 59, 3) := by decide +kernel
theorem dX11_lowest_13 : decode cX11_lowest 13 = .ok (.iload_n 1, 1) := by decide +kernel
theorem dX11_lowest_14 : decode cX11_lowest 14 = .ok (.ifCond .eq 13, 3) := by decide +kernel
theorem dX11_lowest_17 : decode cX11_lowest 17 = .ok (.aload_n 0, 1) := by decide +kernel
theorem dX11_lowest_18 : decode cX11_lowest 18 = .ok (.getfield 49, 3) := by decide +kernel
theorem dX11_lowest_21 : decode cX11_lowest 21 = .ok (.iload 4, 2) := by decide +kernel
theorem dX11_lowest_23 : decode cX11_lowest 23 = .ok (.iaload, 1) := by decide +kernel
theorem dX11_lowest_24 : decode cX11_lowest 24 = .ok (.goto 11, 3) := by decide +kernel
theorem dX11_lowest_27 : decode cX11_lowest 27 = .ok (.aload_n 0, 1) := by decide +kernel
theorem dX11_lowest_28 : decode cX11_lowest 28 = .ok (.getfield 49, 3) := by decide +kernel
theorem dX11_lowest_31 : decode cX11_lowest 31 = .ok (.iload 4, 2) := by decide +kernel
theorem dX11_lowest_33 : decode cX11_lowest 33 = .ok (.iaload, 1) := by decide +kernel
theorem dX11_lowest_34 : decode cX11_lowest 34 = .ok (.ineg, 1) := by decide +kernel
theorem dX11_lowest_35 : decode cX11_lowest 35 = .ok (.istore 5, 2) := by decide +kernel
theorem dX11_lowest_37 : decode cX11_lowest 37 = .ok (.iconst 0, 1) := by decide +kernel
theorem dX11_lowest_38 : decode cX11_lowest 38 = .ok (.istore 6, 2) := by decide +kernel
theorem dX11_lowest_40 : decode cX11_lowest 40 = .ok (.iload 6, 2) := by decide +kernel
theorem dX11_lowest_42 : decode cX11_lowest 42 = .ok (.iload 5, 2) := by decide +kernel
theorem dX11_lowest_44 : decode cX11_lowest 44 = .ok (.if_icmp .ge 19, 3) := by decide +kernel
theorem dX11_lowest_47 : decode cX11_lowest 47 = .ok (.lload_n 2, 1) := by decide +kernel
theorem dX11_lowest_48 : decode cX11_lowest 48 = .ok (.iload 4, 2) := by decide +kernel
theorem dX11_lowest_50 : decode cX11_lowest 50 = .ok (.i2l, 1) := by decide +kernel
theorem dX11_lowest_51 : decode cX11_lowest 51 = .ok (.lmul, 1) := by decide +kernel
theorem dX11_lowest_52 : decode cX11_lowest 52 = .ok (.ldc2_w 353, 3) := by decide +kernel
theorem dX11_lowest_55 : decode cX11_lowest 55 = .ok (.lrem, 1) := by decide +kernel
theorem dX11_lowest_56 : decode cX11_lowest 56 = .ok (.lstore_n 2, 1) := by decide +kernel
theorem dX11_lowest_57 : decode cX11_lowest 57 = .ok (.iinc 6 1, 3) := by decide +kernel
theorem dX11_lowest_60 : decode cX11_lowest 60 = .ok (.goto (-20), 3) := by decide +kernel
theorem dX11_lowest_63 : decode cX11_lowest 63 = .ok (.iinc 4 1, 3) := by decide +kernel
theorem dX11_lowest_66 : decode cX11_lowest 66 = .ok (.goto (-61), 3) := by decide +kernel
theorem dX11_lowest_69 : decode cX11_lowest 69 = .ok (.lload_n 2, 1) := by decide +kernel
theorem dX11_lowest_70 : decode cX11_lowest 70 = .ok (.l2i, 1) := by decide +kernel
theorem dX11_lowest_71 : decode cX11_lowest 71 = .ok (.ireturn, 1) := by decide +kernel
theorem dX11_noFactors_0 : decode cX11_noFactors 0 = .ok (.iconst 0, 1) := by decide +kernel
theorem dX11_noFactors_1 : decode cX11_noFactors 1 = .ok (.istore_n 1, 1) := by decide +kernel
theorem dX11_noFactors_2 : decode cX11_noFactors 2 = .ok (.iload_n 1, 1) := by decide +kernel
theorem dX11_noFactors_3 : decode cX11_noFactors 3 = .ok (.sipush 400, 3) := by decide +kernel
theorem dX11_noFactors_6 : decode cX11_noFactors 6 = .ok (.if_icmp .ge 16, 3) := by decide +kernel
theorem dX11_noFactors_9 : decode cX11_noFactors 9 = .ok (.aload_n 0, 1) := by decide +kernel
theorem dX11_noFactors_10 : decode cX11_noFactors 10 = .ok (.getfield 49, 3) := by decide +kernel
theorem dX11_noFactors_13 : decode cX11_noFactors 13 = .ok (.iload_n 1, 1) := by decide +kernel
theorem dX11_noFactors_14 : decode cX11_noFactors 14 = .ok (.iconst 0, 1) := by decide +kernel
theorem dX11_noFactors_15 : decode cX11_noFactors 15 = .ok (.iastore, 1) := by decide +kernel
theorem dX11_noFactors_16 : decode cX11_noFactors 16 = .ok (.iinc 1 1, 3) := by decide +kernel
theorem dX11_noFactors_19 : decode cX11_noFactors 19 = .ok (.goto (-17), 3) := by decide +kernel
theorem dX11_noFactors_22 : decode cX11_noFactors 22 = .ok (.return_, 1) := by decide +kernel
theorem dX11_speed_0 : decode cX11_speed 0 = .ok (.aload_n 0, 1) := by decide +kernel
theorem dX11_speed_1 : decode cX11_speed 1 = .ok (.iconst 0, 1) := by decide +kernel
theorem dX11_speed_2 : decode cX11_speed 2 = .ok (.putfield 92, 3) := by decide +kernel
theorem dX11_speed_5 : decode cX11_speed 5 = .ok (.aload_n 0, 1) := by decide +kernel
theorem dX11_speed_6 : decode cX11_speed 6 = .ok (.getfield 258, 3) := by decide +kernel
theorem dX11_speed_9 : decode cX11_speed 9 = .ok (.ifCond .ne 9, 3) := by decide +kernel
theorem dX11_speed_12 : decode cX11_speed 12 = .ok (.aload_n 0, 1) := by decide +kernel
theorem dX11_speed_13 : decode cX11_speed 13 = .ok (.iconst 1, 1) := by decide +kernel
theorem dX11_speed_14 : decode cX11_speed 14 = .ok (.invokevirtual 252, 3) := by decide +kernel
theorem dX11_speed_17 : decode cX11_speed 17 = .ok (.ireturn, 1) := by decide +kernel
theorem dX11_speed_18 : decode cX11_speed 18 = .ok (.aload_n 0, 1) := by decide +kernel
theorem dX11_speed_19 : decode cX11_speed 19 = .ok (.invokevirtual 304, 3) := by decide +kernel
theorem dX11_speed_22 : decode cX11_speed 22 = .ok (.aload_n 0, 1) := by decide +kernel
theorem dX11_speed_23 : decode cX11_speed 23 = .ok (.invokevirtual 355, 3) := by decide +kernel
theorem dX11_speed_26 : decode cX11_speed 26 = .ok (.iconst 0, 1) := by decide +kernel
theorem dX11_speed_27 : decode cX11_speed 27 = .ok (.istore_n 2, 1) := by decide +kernel
theorem dX11_speed_28 : decode cX11_speed 28 = .ok (.iload_n 2, 1) := by decide +kernel
theorem dX11_speed_29 : decode cX11_speed 29 = .ok (.aload_n 0, 1) := by decide +kernel
theorem dX11_speed_30 : decode cX11_speed 30 = .ok (.getfield 270, 3) := by decide +kernel
theorem dX11_speed_33 : decode cX11_speed 33 = .ok (.if_icmp .ge 36, 3) := by decide +kernel
theorem dX11_speed_36 : decode cX11_speed 36 = .ok (.aload_n 0, 1) := by decide +kernel
theorem dX11_speed_37 : decode cX11_speed 37 = .ok (.aload_n 0, 1) := by decide +kernel
theorem dX11_speed_38 : decode cX11_speed 38 = .ok (.iload_n 2, 1) := by decide +kernel
theorem dX11_speed_39 : decode cX11_speed 39 = .ok (.invokevirtual 291, 3) := by decide +kernel
theorem dX11_speed_42 : decode cX11_speed 42 = .ok (.aload_n 0, 1) := by decide +kernel
theorem dX11_speed_43 : decode cX11_speed 43 = .ok (.iload_n 2, 1) := by decide +kernel
theorem dX11_speed_44 : decode cX11_speed 44 = .ok (.invokevirtual 291, 3) := by decide +kernel
theorem dX11_speed_47 : decode cX11_speed 47 = .ok (.aload_n 0, 1) := by decide +kernel
theorem dX11_speed_48 : decode cX11_speed 48 = .ok (.getfield 40, 3) := by decide +kernel
theorem dX11_speed_51 : decode cX11_speed 51 = .ok (.iload_n 2, 1) := by decide +kernel
theorem dX11_speed_52 : decode cX11_speed 52 = .ok (.iaload, 1) := by decide +kernel
theorem dX11_speed_53 : decode cX11_speed 53 = .ok (.isub, 1) := by decide +kernel
theorem dX11_speed_54 : decode cX11_speed 54 = .ok (.aload_n 0, 1) := by decide +kernel
theorem dX11_speed_55 : decode cX11_speed 55 = .ok (.iload_n 2, 1) := by decide +kernel
theorem dX11_speed_56 : decode cX11_speed 56 = .ok (.iconst 0, 1) := by decide +kernel
theorem dX11_speed_57 : decode cX11_speed 57 = .ok (.invokevirtual 279, 3) := by decide +kernel
theorem dX11_speed_60 : decode cX11_speed 60 = .ok (.invokevirtual 358, 3) := by decide +kernel
theorem dX11_speed_63 : decode cX11_speed 63 = .ok (.iinc 2 1, 3) := by decide +kernel
theorem dX11_speed_66 : decode cX11_speed 66 = .ok (.goto (-38), 3) := by decide +kernel
theorem dX11_speed_69 : decode cX11_speed 69 = .ok (.aload_n 0, 1) := by decide +kernel
theorem dX11_speed_70 : decode cX11_speed 70 = .ok (.aload_n 0, 1) := by decide +kernel
theorem dX11_speed_71 : decode cX11_speed 71 = .ok (.iload_n 1, 1) := by decide +kernel
theorem dX11_speed_72 : decode cX11_speed 72 = .ok (.invokevirtual 361, 3) := by decide +kernel
theorem dX11_speed_75 : decode cX11_speed 75 = .ok (.invokevirtual 282, 3) := by decide +kernel
theorem dX11_speed_78 : decode cX11_speed 78 = .ok (.ireturn, 1) := by decide +kernel
theorem dX11_richer_0 : decode cX11_richer 0 = .ok (.aload_n 0, 1) := by decide +kernel
theorem dX11_richer_1 : decode cX11_richer 1 = .ok (.iconst 0, 1) := by decide +kernel
theorem dX11_richer_2 : decode cX11_richer 2 = .ok (.putfield 92, 3) := by decide +kernel
theorem dX11_richer_5 : decode cX11_richer 5 = .ok (.aload_n 0, 1) := by decide +kernel
theorem dX11_richer_6 : decode cX11_richer 6 = .ok (.iload_n 1, 1) := by decide +kernel
theorem dX11_richer_7 : decode cX11_richer 7 = .ok (.invokevirtual 301, 3) := by decide +kernel
theorem dX11_richer_10 : decode cX11_richer 10 = .ok (.ifCond .eq 16, 3) := by decide +kernel
theorem dX11_richer_13 : decode cX11_richer 13 = .ok (.aload_n 0, 1) := by decide +kernel
theorem dX11_richer_14 : decode cX11_richer 14 = .ok (.iload_n 2, 1) := by decide +kernel
theorem dX11_richer_15 : decode cX11_richer 15 = .ok (.invokevirtual 301, 3) := by decide +kernel
theorem dX11_richer_18 : decode cX11_richer 18 = .ok (.ifCond .eq 8, 3) := by decide +kernel
theorem dX11_richer_21 : decode cX11_richer 21 = .ok (.iload_n 1, 1) := by decide +kernel
theorem dX11_richer_22 : decode cX11_richer 22 = .ok (.iload_n 2, 1) := by decide +kernel
theorem dX11_richer_23 : decode cX11_richer 23 = .ok (.if_icmp .ne 12, 3) := by decide +kernel
theorem dX11_richer_26 : decode cX11_richer 26 = .ok (.aload_n 0, 1) := by decide +kernel
theorem dX11_richer_27 : decode cX11_richer 27 = .ok (.iconst 1, 1) := by decide +kernel
theorem dX11_richer_28 : decode cX11_richer 28 = .ok (.invokevirtual 252, 3) := by decide +kernel
theorem dX11_richer_31 : decode cX11_richer 31 = .ok (.pop, 1) := by decide +kernel
theorem dX11_richer_32 : decode cX11_richer 32 = .ok (.bipush (-2), 2) := by decide +kernel
theorem dX11_richer_34 : decode cX11_richer 34 = .ok (.ireturn, 1) := by decide +kernel
theorem dX11_richer_35 : decode cX11_richer 35 = .ok (.aload_n 0, 1) := by decide +kernel
theorem dX11_richer_36 : decode cX11_richer 36 = .ok (.getfield 30, 3) := by decide +kernel
theorem dX11_richer_39 : decode cX11_richer 39 = .ok (.iconst 2, 1) := by decide +kernel
theorem dX11_richer_40 : decode cX11_richer 40 = .ok (.iload_n 1, 1) := by decide +kernel
theorem dX11_richer_41 : decode cX11_richer 41 = .ok (.iadd, 1) := by decide +kernel
theorem dX11_richer_42 : decode cX11_richer 42 = .ok (.iaload, 1) := by decide +kernel
theorem dX11_richer_43 : decode cX11_richer 43 = .ok (.aload_n 0, 1) := by decide +kernel
theorem dX11_richer_44 : decode cX11_richer 44 = .ok (.iload_n 1, 1) := by decide +kernel
theorem dX11_richer_45 : decode cX11_richer 45 = .ok (.iconst 3, 1) := by decide +kernel
theorem dX11_richer_46 : decode cX11_richer 46 = .ok (.invokevirtual 279, 3) := by decide +kernel
theorem dX11_richer_49 : decode cX11_richer 49 = .ok (.if_icmp .eq 20, 3) := by decide +kernel
theorem dX11_richer_52 : decode cX11_richer 52 = .ok (.aload_n 0, 1) := by decide +kernel
theorem dX11_richer_53 : decode cX11_richer 53 = .ok (.getfield 30, 3) := by decide +kernel
theorem dX11_richer_56 : decode cX11_richer 56 = .ok (.iconst 2, 1) := by decide +kernel
theorem dX11_richer_57 : decode cX11_richer 57 = .ok (.iload_n 2, 1) := by decide +kernel
theorem dX11_richer_58 : decode cX11_richer 58 = .ok (.iadd, 1) := by decide +kernel
theorem dX11_richer_59 : decode cX11_richer 59 = .ok (.iaload, 1) := by decide +kernel
theorem dX11_richer_60 : decode cX11_richer 60 = .ok (.aload_n 0, 1) := by decide +kernel
theorem dX11_richer_61 : decode cX11_richer 61 = .ok (.iload_n 2, 1) := by decide +kernel
theorem dX11_richer_62 : decode cX11_richer 62 = .ok (.iconst 3, 1) := by decide +kernel
theorem dX11_richer_63 : decode cX11_richer 63 = .ok (.invokevirtual 279, 3) := by decide +kernel
theorem dX11_richer_66 : decode cX11_richer 66 = .ok (.if_icmp .ne 12, 3) := by decide +kernel
theorem dX11_richer_69 : decode cX11_richer 69 = .ok (.aload_n 0, 1) := by decide +kernel
theorem dX11_richer_70 : decode cX11_richer 70 = .ok (.iconst 5, 1) := by decide +kernel
theorem dX11_richer_71 : decode cX11_richer 71 = .ok (.invokevirtual 252, 3) := by decide +kernel
theorem dX11_richer_74 : decode cX11_richer 74 = .ok (.pop, 1) := by decide +kernel
theorem dX11_richer_75 : decode cX11_richer 75 = .ok (.bipush (-2), 2) := by decide +kernel
theorem dX11_richer_77 : decode cX11_richer 77 = .ok (.ireturn, 1) := by decide +kernel
theorem dX11_richer_78 : decode cX11_richer 78 = .ok (.aload_n 0, 1) := by decide +kernel
theorem dX11_richer_79 : decode cX11_richer 79 = .ok (.invokevirtual 304, 3) := by decide +kernel
theorem dX11_richer_82 : decode cX11_richer 82 = .ok (.aload_n 0, 1) := by decide +kernel
theorem dX11_richer_83 : decode cX11_richer 83 = .ok (.getfield 40, 3) := by decide +kernel
theorem dX11_richer_86 : decode cX11_richer 86 = .ok (.iload_n 1, 1) := by decide +kernel
theorem dX11_richer_87 : decode cX11_richer 87 = .ok (.dup2, 1) := by decide +kernel
theorem dX11_richer_88 : decode cX11_richer 88 = .ok (.iaload, 1) := by decide +kernel
theorem dX11_richer_89 : decode cX11_richer 89 = .ok (.iconst 1, 1) := by decide +kernel
theorem dX11_richer_90 : decode cX11_richer 90 = .ok (.iadd, 1) := by decide +kernel
theorem dX11_richer_91 : decode cX11_richer 91 = .ok (.iastore, 1) := by decide +kernel
theorem dX11_richer_92 : decode cX11_richer 92 = .ok (.aload_n 0, 1) := by decide +kernel
theorem dX11_richer_93 : decode cX11_richer 93 = .ok (.invokevirtual 330, 3) := by decide +kernel
theorem dX11_richer_96 : decode cX11_richer 96 = .ok (.aload_n 0, 1) := by decide +kernel
theorem dX11_richer_97 : decode cX11_richer 97 = .ok (.getfield 40, 3) := by decide +kernel
theorem dX11_richer_100 : decode cX11_richer 100 = .ok (.iload_n 1, 1) := by decide +kernel
theorem dX11_richer_101 : decode cX11_richer 101 = .ok (.dup2, 1) := by decide +kernel
theorem dX11_richer_102 : decode cX11_richer 102 = .ok (.iaload, 1) := by decide +kernel
theorem dX11_richer_103 : decode cX11_richer 103 = .ok (.iconst 1, 1) := by decide +kernel
theorem dX11_richer_104 : decode cX11_richer 104 = .ok (.isub, 1) := by decide +kernel
theorem dX11_richer_105 : decode cX11_richer 105 = .ok (.iastore, 1) := by decide +kernel
theorem dX11_richer_106 : decode cX11_richer 106 = .ok (.aload_n 0, 1) := by decide +kernel
theorem dX11_richer_107 : decode cX11_richer 107 = .ok (.getfield 40, 3) := by decide +kernel
theorem dX11_richer_110 : decode cX11_richer 110 = .ok (.iload_n 2, 1) := by decide +kernel
theorem dX11_richer_111 : decode cX11_richer 111 = .ok (.dup2, 1) := by decide +kernel
theorem dX11_richer_112 : decode cX11_richer 112 = .ok (.iaload, 1) := by decide +kernel
theorem dX11_richer_113 : decode cX11_richer 113 = .ok (.iconst 1, 1) := by decide +kernel
theorem dX11_richer_114 : decode cX11_richer 114 = .ok (.iadd, 1) := by decide +kernel
theorem dX11_richer_115 : decode cX11_richer 115 = .ok (.iastore, 1) := by decide +kernel
theorem dX11_richer_116 : decode cX11_richer 116 = .ok (.iconst 0, 1) := by decide +kernel
theorem dX11_richer_117 : decode cX11_richer 117 = .ok (.istore_n 3, 1) := by decide +kernel
theorem dX11_richer_118 : decode cX11_richer 118 = .ok (.iload_n 3, 1) := by decide +kernel
theorem dX11_richer_119 : decode cX11_richer 119 = .ok (.aload_n 0, 1) := by decide +kernel
theorem dX11_richer_120 : decode cX11_richer 120 = .ok (.getfield 270, 3) := by decide +kernel
theorem dX11_richer_123 : decode cX11_richer 123 = .ok (.if_icmp .ge 36, 3) := by decide +kernel
theorem dX11_richer_126 : decode cX11_richer 126 = .ok (.aload_n 0, 1) := by decide +kernel
theorem dX11_richer_127 : decode cX11_richer 127 = .ok (.aload_n 0, 1) := by decide +kernel
theorem dX11_richer_128 : decode cX11_richer 128 = .ok (.iload_n 3, 1) := by decide +kernel
theorem dX11_richer_129 : decode cX11_richer 129 = .ok (.invokevirtual 291, 3) := by decide +kernel
theorem dX11_richer_132 : decode cX11_richer 132 = .ok (.aload_n 0, 1) := by decide +kernel
theorem dX11_richer_133 : decode cX11_richer 133 = .ok (.getfield 40, 3) := by decide +kernel
theorem dX11_richer_136 : decode cX11_richer 136 = .ok (.iload_n 3, 1) := by decide +kernel
theorem dX11_richer_137 : decode cX11_richer 137 = .ok (.iaload, 1) := by decide +kernel
theorem dX11_richer_138 : decode cX11_richer 138 = .ok (.isub, 1) := by decide +kernel
theorem dX11_richer_139 : decode cX11_richer 139 = .ok (.aload_n 0, 1) := by decide +kernel
theorem dX11_richer_140 : decode cX11_richer 140 = .ok (.iload_n 3, 1) := by decide +kernel
theorem dX11_richer_141 : decode cX11_richer 141 = .ok (.invokevirtual 291, 3) := by decide +kernel
theorem dX11_richer_144 : decode cX11_richer 144 = .ok (.aload_n 0, 1) := by decide +kernel
theorem dX11_richer_145 : decode cX11_richer 145 = .ok (.iload_n 3, 1) := by decide +kernel
theorem dX11_richer_146 : decode cX11_richer 146 = .ok (.iconst 0, 1) := by decide +kernel
theorem dX11_richer_147 : decode cX11_richer 147 = .ok (.invokevirtual 279, 3) := by decide +kernel
theorem dX11_richer_150 : decode cX11_richer 150 = .ok (.invokevirtual 323, 3) := by decide +kernel
theorem dX11_richer_153 : decode cX11_richer 153 = .ok (.iinc 3 1, 3) := by decide +kernel
theorem dX11_richer_156 : decode cX11_richer 156 = .ok (.goto (-38), 3) := by decide +kernel
theorem dX11_richer_159 : decode cX11_richer 159 = .ok (.aload_n 0, 1) := by decide +kernel
theorem dX11_richer_160 : decode cX11_richer 160 = .ok (.aload_n 0, 1) := by decide +kernel
theorem dX11_richer_161 : decode cX11_richer 161 = .ok (.invokevirtual 327, 3) := by decide +kernel
theorem dX11_richer_164 : decode cX11_richer 164 = .ok (.invokevirtual 282, 3) := by decide +kernel
theorem dX11_richer_167 : decode cX11_richer 167 = .ok (.ireturn, 1) := by decide +kernel
theorem dX11_laysBox_0 : decode cX11_laysBox 0 = .ok (.aload_n 0, 1) := by decide +kernel
theorem dX11_laysBox_1 : decode cX11_laysBox 1 = .ok (.aload_n 0, 1) := by decide +kernel
theorem dX11_laysBox_2 : decode cX11_laysBox 2 = .ok (.getfield 30, 3) := by decide +kernel
theorem dX11_laysBox_5 : decode cX11_laysBox 5 = .ok (.iconst 0, 1) := by decide +kernel
theorem dX11_laysBox_6 : decode cX11_laysBox 6 = .ok (.iaload, 1) := by decide +kernel
theorem dX11_laysBox_7 : decode cX11_laysBox 7 = .ok (.putfield 285, 3) := by decide +kernel
theorem dX11_laysBox_10 : decode cX11_laysBox 10 = .ok (.iconst 0, 1) := by decide +kernel
theorem dX11_laysBox_11 : decode cX11_laysBox 11 = .ok (.istore_n 1, 1) := by decide +kernel
theorem dX11_laysBox_12 : decode cX11_laysBox 12 = .ok (.iload_n 1, 1) := by decide +kernel
theorem dX11_laysBox_13 : decode cX11_laysBox 13 = .ok (.iconst 3, 1) := by decide +kernel
theorem dX11_laysBox_14 : decode cX11_laysBox 14 = .ok (.if_icmp .ge 74, 3) := by decide +kernel
theorem dX11_laysBox_17 : decode cX11_laysBox 17 = .ok (.aload_n 0, 1) := by decide +kernel
theorem dX11_laysBox_18 : decode cX11_laysBox 18 = .ok (.getfield 52, 3) := by decide +kernel
theorem dX11_laysBox_21 : decode cX11_laysBox 21 = .ok (.iload_n 1, 1) := by decide +kernel
theorem dX11_laysBox_22 : decode cX11_laysBox 22 = .ok (.iload_n 1, 1) := by decide +kernel
theorem dX11_laysBox_23 : decode cX11_laysBox 23 = .ok (.aload_n 0, 1) := by decide +kernel
theorem dX11_laysBox_24 : decode cX11_laysBox 24 = .ok (.getfield 270, 3) := by decide +kernel
theorem dX11_laysBox_27 : decode cX11_laysBox 27 = .ok (.if_icmp .ge 14, 3) := by decide +kernel
theorem dX11_laysBox_30 : decode cX11_laysBox 30 = .ok (.aload_n 0, 1) := by decide +kernel
theorem dX11_laysBox_31 : decode cX11_laysBox 31 = .ok (.getfield 30, 3) := by decide +kernel
theorem dX11_laysBox_34 : decode cX11_laysBox 34 = .ok (.iconst 5, 1) := by decide +kernel
theorem dX11_laysBox_35 : decode cX11_laysBox 35 = .ok (.iload_n 1, 1) := by decide +kernel
theorem dX11_laysBox_36 : decode cX11_laysBox 36 = .ok (.iadd, 1) := by decide +kernel
theorem dX11_laysBox_37 : decode cX11_laysBox 37 = .ok (.iaload, 1) := by decide +kernel
theorem dX11_laysBox_38 : decode cX11_laysBox 38 = .ok (.goto 4, 3) := by decide +kernel
theorem dX11_laysBox_41 : decode cX11_laysBox 41 = .ok (.iconst 0, 1) := by decide +kernel
theorem dX11_laysBox_42 : decode cX11_laysBox 42 = .ok (.iastore, 1) := by decide +kernel
theorem dX11_laysBox_43 : decode cX11_laysBox 43 = .ok (.aload_n 0, 1) := by decide +kernel
theorem dX11_laysBox_44 : decode cX11_laysBox 44 = .ok (.getfield 55, 3) := by decide +kernel
theorem dX11_laysBox_47 : decode cX11_laysBox 47 = .ok (.iload_n 1, 1) := by decide +kernel
theorem dX11_laysBox_48 : decode cX11_laysBox 48 = .ok (.iload_n 1, 1) := by decide +kernel
theorem dX11_laysBox_49 : decode cX11_laysBox 49 = .ok (.aload_n 0, 1) := by decide +kernel
theorem dX11_laysBox_50 : decode cX11_laysBox 50 = .ok (.getfield 270, 3) := by decide +kernel
theorem dX11_laysBox_53 : decode cX11_laysBox 53 = .ok (.if_icmp .ge 15, 3) := by decide +kernel
theorem dX11_laysBox_56 : decode cX11_laysBox 56 = .ok (.aload_n 0, 1) := by decide +kernel
theorem dX11_laysBox_57 : decode cX11_laysBox 57 = .ok (.getfield 30, 3) := by decide +kernel
theorem dX11_laysBox_60 : decode cX11_laysBox 60 = .ok (.bipush 8, 2) := by decide +kernel
theorem dX11_laysBox_62 : decode cX11_laysBox 62 = .ok (.iload_n 1, 1) := by decide +kernel
theorem dX11_laysBox_63 : decode cX11_laysBox 63 = .ok (.iadd, 1) := by decide +kernel
theorem dX11_laysBox_64 : decode cX11_laysBox 64 = .ok (.iaload, 1) := by decide +kernel
theorem dX11_laysBox_65 : decode cX11_laysBox 65 = .ok (.goto 4, 3) := by decide +kernel
theorem dX11_laysBox_68 : decode cX11_laysBox 68 = .ok (.iconst 0, 1) := by decide +kernel
theorem dX11_laysBox_69 : decode cX11_laysBox 69 = .ok (.iastore, 1) := by decide +kernel
theorem dX11_laysBox_70 : decode cX11_laysBox 70 = .ok (.aload_n 0, 1) := by decide +kernel
theorem dX11_laysBox_71 : decode cX11_laysBox 71 = .ok (.getfield 40, 3) := by decide +kernel
theorem dX11_laysBox_74 : decode cX11_laysBox 74 = .ok (.iload_n 1, 1) := by decide +kernel
theorem dX11_laysBox_75 : decode cX11_laysBox 75 = .ok (.aload_n 0, 1) := by decide +kernel
theorem dX11_laysBox_76 : decode cX11_laysBox 76 = .ok (.getfield 52, 3) := by decide +kernel
theorem dX11_laysBox_79 : decode cX11_laysBox 79 = .ok (.iload_n 1, 1) := by decide +kernel
theorem dX11_laysBox_80 : decode cX11_laysBox 80 = .ok (.iaload, 1) := by decide +kernel
theorem dX11_laysBox_81 : decode cX11_laysBox 81 = .ok (.iastore, 1) := by decide +kernel
theorem dX11_laysBox_82 : decode cX11_laysBox 82 = .ok (.iinc 1 1, 3) := by decide +kernel
theorem dX11_laysBox_85 : decode cX11_laysBox 85 = .ok (.goto (-73), 3) := by decide +kernel
theorem dX11_laysBox_88 : decode cX11_laysBox 88 = .ok (.return_, 1) := by decide +kernel
theorem dX11_goesOn_0 : decode cX11_goesOn 0 = .ok (.iconst 2, 1) := by decide +kernel
theorem dX11_goesOn_1 : decode cX11_goesOn 1 = .ok (.istore_n 1, 1) := by decide +kernel
theorem dX11_goesOn_2 : decode cX11_goesOn 2 = .ok (.iload_n 1, 1) := by decide +kernel
theorem dX11_goesOn_3 : decode cX11_goesOn 3 = .ok (.ifCond .lt 48, 3) := by decide +kernel
theorem dX11_goesOn_6 : decode cX11_goesOn 6 = .ok (.aload_n 0, 1) := by decide +kernel
theorem dX11_goesOn_7 : decode cX11_goesOn 7 = .ok (.getfield 40, 3) := by decide +kernel
theorem dX11_goesOn_10 : decode cX11_goesOn 10 = .ok (.iload_n 1, 1) := by decide +kernel
theorem dX11_goesOn_11 : decode cX11_goesOn 11 = .ok (.iaload, 1) := by decide +kernel
theorem dX11_goesOn_12 : decode cX11_goesOn 12 = .ok (.aload_n 0, 1) := by decide +kernel
theorem dX11_goesOn_13 : decode cX11_goesOn 13 = .ok (.getfield 55, 3) := by decide +kernel
theorem dX11_goesOn_16 : decode cX11_goesOn 16 = .ok (.iload_n 1, 1) := by decide +kernel
theorem dX11_goesOn_17 : decode cX11_goesOn 17 = .ok (.iaload, 1) := by decide +kernel
theorem dX11_goesOn_18 : decode cX11_goesOn 18 = .ok (.if_icmp .ge 15, 3) := by decide +kernel
theorem dX11_goesOn_21 : decode cX11_goesOn 21 = .ok (.aload_n 0, 1) := by decide +kernel
theorem dX11_goesOn_22 : decode cX11_goesOn 22 = .ok (.getfield 40, 3) := by decide +kernel
theorem dX11_goesOn_25 : decode cX11_goesOn 25 = .ok (.iload_n 1, 1) := by decide +kernel
theorem dX11_goesOn_26 : decode cX11_goesOn 26 = .ok (.dup2, 1) := by decide +kernel
theorem dX11_goesOn_27 : decode cX11_goesOn 27 = .ok (.iaload, 1) := by decide +kernel
theorem dX11_goesOn_28 : decode cX11_goesOn 28 = .ok (.iconst 1, 1) := by decide +kernel
theorem dX11_goesOn_29 : decode cX11_goesOn 29 = .ok (.iadd, 1) := by decide +kernel
theorem dX11_goesOn_30 : decode cX11_goesOn 30 = .ok (.iastore, 1) := by decide +kernel
theorem dX11_goesOn_31 : decode cX11_goesOn 31 = .ok (.iconst 1, 1) := by decide +kernel
theorem dX11_goesOn_32 : decode cX11_goesOn 32 = .ok (.ireturn, 1) := by decide +kernel
theorem dX11_goesOn_33 : decode cX11_goesOn 33 = .ok (.aload_n 0, 1) := by decide +kernel
theorem dX11_goesOn_34 : decode cX11_goesOn 34 = .ok (.getfield 40, 3) := by decide +kernel
theorem dX11_goesOn_37 : decode cX11_goesOn 37 = .ok (.iload_n 1, 1) := by decide +kernel
theorem dX11_goesOn_38 : decode cX11_goesOn 38 = .ok (.aload_n 0, 1) := by decide +kernel
theorem dX11_goesOn_39 : decode cX11_goesOn 39 = .ok (.getfield 52, 3) := by decide +kernel
theorem dX11_goesOn_42 : decode cX11_goesOn 42 = .ok (.iload_n 1, 1) := by decide +kernel
theorem dX11_goesOn_43 : decode cX11_goesOn 43 = .ok (.iaload, 1) := by decide +kernel
theorem dX11_goesOn_44 : decode cX11_goesOn 44 = .ok (.iastore, 1) := by decide +kernel
theorem dX11_goesOn_45 : decode cX11_goesOn 45 = .ok (.iinc 1 (-1), 3) := by decide +kernel
theorem dX11_goesOn_48 : decode cX11_goesOn 48 = .ok (.goto (-46), 3) := by decide +kernel
theorem dX11_goesOn_51 : decode cX11_goesOn 51 = .ok (.iconst 0, 1) := by decide +kernel
theorem dX11_goesOn_52 : decode cX11_goesOn 52 = .ok (.ireturn, 1) := by decide +kernel
theorem dX11_laysBest_0 : decode cX11_laysBest 0 = .ok (.aload_n 0, 1) := by decide +kernel
theorem dX11_laysBest_1 : decode cX11_laysBest 1 = .ok (.bipush (-2), 2) := by decide +kernel
theorem dX11_laysBest_3 : decode cX11_laysBest 3 = .ok (.putfield 365, 3) := by decide +kernel
theorem dX11_laysBest_6 : decode cX11_laysBest 6 = .ok (.iconst 1, 1) := by decide +kernel
theorem dX11_laysBest_7 : decode cX11_laysBest 7 = .ok (.istore_n 2, 1) := by decide +kernel
theorem dX11_laysBest_8 : decode cX11_laysBest 8 = .ok (.iload_n 2, 1) := by decide +kernel
theorem dX11_laysBest_9 : decode cX11_laysBest 9 = .ok (.ifCond .eq 83, 3) := by decide +kernel
theorem dX11_laysBest_12 : decode cX11_laysBest 12 = .ok (.aload_n 0, 1) := by decide +kernel
theorem dX11_laysBest_13 : decode cX11_laysBest 13 = .ok (.iconst 0, 1) := by decide +kernel
theorem dX11_laysBest_14 : decode cX11_laysBest 14 = .ok (.invokevirtual 291, 3) := by decide +kernel
theorem dX11_laysBest_17 : decode cX11_laysBest 17 = .ok (.istore_n 3, 1) := by decide +kernel
theorem dX11_laysBest_18 : decode cX11_laysBest 18 = .ok (.aload_n 0, 1) := by decide +kernel
theorem dX11_laysBest_19 : decode cX11_laysBest 19 = .ok (.getfield 365, 3) := by decide +kernel
theorem dX11_laysBest_22 : decode cX11_laysBest 22 = .ok (.bipush (-2), 2) := by decide +kernel
theorem dX11_laysBest_24 : decode cX11_laysBest 24 = .ok (.if_icmp .eq 11, 3) := by decide +kernel
theorem dX11_laysBest_27 : decode cX11_laysBest 27 = .ok (.iload_n 3, 1) := by decide +kernel
theorem dX11_laysBest_28 : decode cX11_laysBest 28 = .ok (.aload_n 0, 1) := by decide +kernel
theorem dX11_laysBest_29 : decode cX11_laysBest 29 = .ok (.getfield 365, 3) := by decide +kernel
theorem dX11_laysBest_32 : decode cX11_laysBest 32 = .ok (.if_icmp .ge 52, 3) := by decide +kernel
theorem dX11_laysBest_35 : decode cX11_laysBest 35 = .ok (.aload_n 0, 1) := by decide +kernel
theorem dX11_laysBest_36 : decode cX11_laysBest 36 = .ok (.invokevirtual 346, 3) := by decide +kernel
theorem dX11_laysBest_39 : decode cX11_laysBest 39 = .ok (.ifCond .eq 45, 3) := by decide +kernel
theorem dX11_laysBest_42 : decode cX11_laysBest 42 = .ok (.aload_n 0, 1) := by decide +kernel
theorem dX11_laysBest_43 : decode cX11_laysBest 43 = .ok (.iload_n 1, 1) := by decide +kernel
theorem dX11_laysBest_44 : decode cX11_laysBest 44 = .ok (.invokevirtual 340, 3) := by decide +kernel
theorem dX11_laysBest_47 : decode cX11_laysBest 47 = .ok (.ifCond .eq 37, 3) := by decide +kernel
theorem dX11_laysBest_50 : decode cX11_laysBest 50 = .ok (.aload_n 0, 1) := by decide +kernel
theorem dX11_laysBest_51 : decode cX11_laysBest 51 = .ok (.iload_n 3, 1) := by decide +kernel
theorem dX11_laysBest_52 : decode cX11_laysBest 52 = .ok (.putfield 365, 3) := by decide +kernel
theorem dX11_laysBest_55 : decode cX11_laysBest 55 = .ok (.iconst 0, 1) := by decide +kernel
theorem dX11_laysBest_56 : decode cX11_laysBest 56 = .ok (.istore 4, 2) := by decide +kernel
theorem dX11_laysBest_58 : decode cX11_laysBest 58 = .ok (.iload 4, 2) := by decide +kernel
theorem dX11_laysBest_60 : decode cX11_laysBest 60 = .ok (.iconst 3, 1) := by decide +kernel
theorem dX11_laysBest_61 : decode cX11_laysBest 61 = .ok (.if_icmp .ge 23, 3) := by decide +kernel
theorem dX11_laysBest_64 : decode cX11_laysBest 64 = .ok (.aload_n 0, 1) := by decide +kernel
theorem dX11_laysBest_65 : decode cX11_laysBest 65 = .ok (.getfield 58, 3) := by decide +kernel
theorem dX11_laysBest_68 : decode cX11_laysBest 68 = .ok (.iload 4, 2) := by decide +kernel
theorem dX11_laysBest_70 : decode cX11_laysBest 70 = .ok (.aload_n 0, 1) := by decide +kernel
theorem dX11_laysBest_71 : decode cX11_laysBest 71 = .ok (.getfield 40, 3) := by decide +kernel
theorem dX11_laysBest_74 : decode cX11_laysBest 74 = .ok (.iload 4, 2) := by decide +kernel
theorem dX11_laysBest_76 : decode cX11_laysBest 76 = .ok (.iaload, 1) := by decide +kernel
theorem dX11_laysBest_77 : decode cX11_laysBest 77 = .ok (.iastore, 1) := by decide +kernel
theorem dX11_laysBest_78 : decode cX11_laysBest 78 = .ok (.iinc 4 1, 3) := by decide +kernel
theorem dX11_laysBest_81 : decode cX11_laysBest 81 = .ok (.goto (-23), 3) := by decide +kernel
theorem dX11_laysBest_84 : decode cX11_laysBest 84 = .ok (.aload_n 0, 1) := by decide +kernel
theorem dX11_laysBest_85 : decode cX11_laysBest 85 = .ok (.invokevirtual 368, 3) := by decide +kernel
theorem dX11_laysBest_88 : decode cX11_laysBest 88 = .ok (.istore_n 2, 1) := by decide +kernel
theorem dX11_laysBest_89 : decode cX11_laysBest 89 = .ok (.goto (-81), 3) := by decide +kernel
theorem dX11_laysBest_92 : decode cX11_laysBest 92 = .ok (.return_, 1) := by decide +kernel
theorem dX11_least_0 : decode cX11_least 0 = .ok (.aload_n 0, 1) := by decide +kernel
theorem dX11_least_1 : decode cX11_least 1 = .ok (.iconst 0, 1) := by decide +kernel
theorem dX11_least_2 : decode cX11_least 2 = .ok (.putfield 92, 3) := by decide +kernel
theorem dX11_least_5 : decode cX11_least 5 = .ok (.aload_n 0, 1) := by decide +kernel
theorem dX11_least_6 : decode cX11_least 6 = .ok (.iconst 1, 1) := by decide +kernel
theorem dX11_least_7 : decode cX11_least 7 = .ok (.iload_n 1, 1) := by decide +kernel
theorem dX11_least_8 : decode cX11_least 8 = .ok (.invokevirtual 336, 3) := by decide +kernel
theorem dX11_least_11 : decode cX11_least 11 = .ok (.istore_n 2, 1) := by decide +kernel
theorem dX11_least_12 : decode cX11_least 12 = .ok (.iload_n 2, 1) := by decide +kernel
theorem dX11_least_13 : decode cX11_least 13 = .ok (.ifCond .le 9, 3) := by decide +kernel
theorem dX11_least_16 : decode cX11_least 16 = .ok (.aload_n 0, 1) := by decide +kernel
theorem dX11_least_17 : decode cX11_least 17 = .ok (.iload_n 2, 1) := by decide +kernel
theorem dX11_least_18 : decode cX11_least 18 = .ok (.invokevirtual 252, 3) := by decide +kernel
theorem dX11_least_21 : decode cX11_least 21 = .ok (.ireturn, 1) := by decide +kernel
theorem dX11_least_22 : decode cX11_least 22 = .ok (.aload_n 0, 1) := by decide +kernel
theorem dX11_least_23 : decode cX11_least 23 = .ok (.invokevirtual 371, 3) := by decide +kernel
theorem dX11_least_26 : decode cX11_least 26 = .ok (.aload_n 0, 1) := by decide +kernel
theorem dX11_least_27 : decode cX11_least 27 = .ok (.iload_n 1, 1) := by decide +kernel
theorem dX11_least_28 : decode cX11_least 28 = .ok (.invokevirtual 374, 3) := by decide +kernel
theorem dX11_least_31 : decode cX11_least 31 = .ok (.aload_n 0, 1) := by decide +kernel
theorem dX11_least_32 : decode cX11_least 32 = .ok (.aload_n 0, 1) := by decide +kernel
theorem dX11_least_33 : decode cX11_least 33 = .ok (.getfield 365, 3) := by decide +kernel
theorem dX11_least_36 : decode cX11_least 36 = .ok (.invokevirtual 282, 3) := by decide +kernel
theorem dX11_least_39 : decode cX11_least 39 = .ok (.ireturn, 1) := by decide +kernel
theorem dX11_fuel_0 : decode cX11_fuel 0 = .ok (.aload_n 0, 1) := by decide +kernel
theorem dX11_fuel_1 : decode cX11_fuel 1 = .ok (.iconst 0, 1) := by decide +kernel
theorem dX11_fuel_2 : decode cX11_fuel 2 = .ok (.putfield 92, 3) := by decide +kernel
theorem dX11_fuel_5 : decode cX11_fuel 5 = .ok (.aload_n 0, 1) := by decide +kernel
theorem dX11_fuel_6 : decode cX11_fuel 6 = .ok (.aload_n 0, 1) := by decide +kernel
theorem dX11_fuel_7 : decode cX11_fuel 7 = .ok (.iload_n 2, 1) := by decide +kernel
theorem dX11_fuel_8 : decode cX11_fuel 8 = .ok (.invokevirtual 301, 3) := by decide +kernel
theorem dX11_fuel_11 : decode cX11_fuel 11 = .ok (.iload_n 1, 1) := by decide +kernel
theorem dX11_fuel_12 : decode cX11_fuel 12 = .ok (.invokevirtual 336, 3) := by decide +kernel
theorem dX11_fuel_15 : decode cX11_fuel 15 = .ok (.istore_n 3, 1) := by decide +kernel
theorem dX11_fuel_16 : decode cX11_fuel 16 = .ok (.iload_n 3, 1) := by decide +kernel
theorem dX11_fuel_17 : decode cX11_fuel 17 = .ok (.ifCond .le 9, 3) := by decide +kernel
theorem dX11_fuel_20 : decode cX11_fuel 20 = .ok (.aload_n 0, 1) := by decide +kernel
theorem dX11_fuel_21 : decode cX11_fuel 21 = .ok (.iload_n 3, 1) := by decide +kernel
theorem dX11_fuel_22 : decode cX11_fuel 22 = .ok (.invokevirtual 252, 3) := by decide +kernel
theorem dX11_fuel_25 : decode cX11_fuel 25 = .ok (.ireturn, 1) := by decide +kernel
theorem dX11_fuel_26 : decode cX11_fuel 26 = .ok (.aload_n 0, 1) := by decide +kernel
theorem dX11_fuel_27 : decode cX11_fuel 27 = .ok (.invokevirtual 371, 3) := by decide +kernel
theorem dX11_fuel_30 : decode cX11_fuel 30 = .ok (.aload_n 0, 1) := by decide +kernel
theorem dX11_fuel_31 : decode cX11_fuel 31 = .ok (.iload_n 1, 1) := by decide +kernel
theorem dX11_fuel_32 : decode cX11_fuel 32 = .ok (.invokevirtual 374, 3) := by decide +kernel
theorem dX11_fuel_35 : decode cX11_fuel 35 = .ok (.aload_n 0, 1) := by decide +kernel
theorem dX11_fuel_36 : decode cX11_fuel 36 = .ok (.aload_n 0, 1) := by decide +kernel
theorem dX11_fuel_37 : decode cX11_fuel 37 = .ok (.getfield 365, 3) := by decide +kernel
theorem dX11_fuel_40 : decode cX11_fuel 40 = .ok (.bipush (-2), 2) := by decide +kernel
theorem dX11_fuel_42 : decode cX11_fuel 42 = .ok (.if_icmp .ne 8, 3) := by decide +kernel
theorem dX11_fuel_45 : decode cX11_fuel 45 = .ok (.bipush (-2), 2) := by decide +kernel
theorem dX11_fuel_47 : decode cX11_fuel 47 = .ok (.goto 9, 3) := by decide +kernel
theorem dX11_fuel_50 : decode cX11_fuel 50 = .ok (.aload_n 0, 1) := by decide +kernel
theorem dX11_fuel_51 : decode cX11_fuel 51 = .ok (.getfield 58, 3) := by decide +kernel
theorem dX11_fuel_54 : decode cX11_fuel 54 = .ok (.iload_n 2, 1) := by decide +kernel
theorem dX11_fuel_55 : decode cX11_fuel 55 = .ok (.iaload, 1) := by decide +kernel
theorem dX11_fuel_56 : decode cX11_fuel 56 = .ok (.invokevirtual 282, 3) := by decide +kernel
theorem dX11_fuel_59 : decode cX11_fuel 59 = .ok (.ireturn, 1) := by decide +kernel
theorem dX11_farthest_0 : decode cX11_farthest 0 = .ok (.aload_n 0, 1) := by decide +kernel
theorem dX11_farthest_1 : decode cX11_farthest 1 = .ok (.iconst 0, 1) := by decide +kernel
theorem dX11_farthest_2 : decode cX11_farthest 2 = .ok (.putfield 92, 3) := by decide +kernel
theorem dX11_farthest_5 : decode cX11_farthest 5 = .ok (.aload_n 0, 1) := by decide +kernel
theorem dX11_farthest_6 : decode cX11_farthest 6 = .ok (.getfield 258, 3) := by decide +kernel
theorem dX11_farthest_9 : decode cX11_farthest 9 = .ok (.ifCond .ne 9, 3) := by decide +kernel
theorem dX11_farthest_12 : decode cX11_farthest 12 = .ok (.aload_n 0, 1) := by decide +kernel
theorem dX11_farthest_13 : decode cX11_farthest 13 = .ok (.iconst 1, 1) := by decide +kernel
theorem dX11_farthest_14 : decode cX11_farthest 14 = .ok (.invokevirtual 252, 3) := by decide +kernel
theorem dX11_farthest_17 : decode cX11_farthest 17 = .ok (.ireturn, 1) := by decide +kernel
theorem dX11_farthest_18 : decode cX11_farthest 18 = .ok (.bipush (-2), 2) := by decide +kernel
theorem dX11_farthest_20 : decode cX11_farthest 20 = .ok (.istore_n 1, 1) := by decide +kernel
theorem dX11_farthest_21 : decode cX11_farthest 21 = .ok (.aload_n 0, 1) := by decide +kernel
theorem dX11_farthest_22 : decode cX11_farthest 22 = .ok (.invokevirtual 371, 3) := by decide +kernel
theorem dX11_farthest_25 : decode cX11_farthest 25 = .ok (.iconst 1, 1) := by decide +kernel
theorem dX11_farthest_26 : decode cX11_farthest 26 = .ok (.istore_n 2, 1) := by decide +kernel
theorem dX11_farthest_27 : decode cX11_farthest 27 = .ok (.iload_n 2, 1) := by decide +kernel
theorem dX11_farthest_28 : decode cX11_farthest 28 = .ok (.ifCond .eq 34, 3) := by decide +kernel
theorem dX11_farthest_31 : decode cX11_farthest 31 = .ok (.aload_n 0, 1) := by decide +kernel
theorem dX11_farthest_32 : decode cX11_farthest 32 = .ok (.invokevirtual 346, 3) := by decide +kernel
theorem dX11_farthest_35 : decode cX11_farthest 35 = .ok (.ifCond .eq 19, 3) := by decide +kernel
theorem dX11_farthest_38 : decode cX11_farthest 38 = .ok (.aload_n 0, 1) := by decide +kernel
theorem dX11_farthest_39 : decode cX11_farthest 39 = .ok (.invokevirtual 330, 3) := by decide +kernel
theorem dX11_farthest_42 : decode cX11_farthest 42 = .ok (.aload_n 0, 1) := by decide +kernel
theorem dX11_farthest_43 : decode cX11_farthest 43 = .ok (.invokevirtual 343, 3) := by decide +kernel
theorem dX11_farthest_46 : decode cX11_farthest 46 = .ok (.istore_n 3, 1) := by decide +kernel
theorem dX11_farthest_47 : decode cX11_farthest 47 = .ok (.iload_n 3, 1) := by decide +kernel
theorem dX11_farthest_48 : decode cX11_farthest 48 = .ok (.iload_n 1, 1) := by decide +kernel
theorem dX11_farthest_49 : decode cX11_farthest 49 = .ok (.if_icmp .le 5, 3) := by decide +kernel
theorem dX11_farthest_52 : decode cX11_farthest 52 = .ok (.iload_n 3, 1) := by decide +kernel
theorem dX11_farthest_53 : decode cX11_farthest 53 = .ok (.istore_n 1, 1) := by decide +kernel
theorem dX11_farthest_54 : decode cX11_farthest 54 = .ok (.aload_n 0, 1) := by decide +kernel
theorem dX11_farthest_55 : decode cX11_farthest 55 = .ok (.invokevirtual 368, 3) := by decide +kernel
theorem dX11_farthest_58 : decode cX11_farthest 58 = .ok (.istore_n 2, 1) := by decide +kernel
theorem dX11_farthest_59 : decode cX11_farthest 59 = .ok (.goto (-32), 3) := by decide +kernel
theorem dX11_farthest_62 : decode cX11_farthest 62 = .ok (.aload_n 0, 1) := by decide +kernel
theorem dX11_farthest_63 : decode cX11_farthest 63 = .ok (.iload_n 1, 1) := by decide +kernel
theorem dX11_farthest_64 : decode cX11_farthest 64 = .ok (.invokevirtual 282, 3) := by decide +kernel
theorem dX11_farthest_67 : decode cX11_farthest 67 = .ok (.ireturn, 1) := by decide +kernel
theorem dX11_isAny_0 : decode cX11_isAny 0 = .ok (.iconst 1, 1) := by decide +kernel
theorem dX11_isAny_1 : decode cX11_isAny 1 = .ok (.istore_n 1, 1) := by decide +kernel
theorem dX11_isAny_2 : decode cX11_isAny 2 = .ok (.iload_n 1, 1) := by decide +kernel
theorem dX11_isAny_3 : decode cX11_isAny 3 = .ok (.ifCond .eq 33, 3) := by decide +kernel
theorem dX11_isAny_6 : decode cX11_isAny 6 = .ok (.aload_n 0, 1) := by decide +kernel
theorem dX11_isAny_7 : decode cX11_isAny 7 = .ok (.invokevirtual 346, 3) := by decide +kernel
theorem dX11_isAny_10 : decode cX11_isAny 10 = .ok (.ifCond .eq 18, 3) := by decide +kernel
theorem dX11_isAny_13 : decode cX11_isAny 13 = .ok (.aload_n 0, 1) := by decide +kernel
theorem dX11_isAny_14 : decode cX11_isAny 14 = .ok (.aload_n 0, 1) := by decide +kernel
theorem dX11_isAny_15 : decode cX11_isAny 15 = .ok (.getfield 30, 3) := by decide +kernel
theorem dX11_isAny_18 : decode cX11_isAny 18 = .ok (.iconst 1, 1) := by decide +kernel
theorem dX11_isAny_19 : decode cX11_isAny 19 = .ok (.iaload, 1) := by decide +kernel
theorem dX11_isAny_20 : decode cX11_isAny 20 = .ok (.invokevirtual 340, 3) := by decide +kernel
theorem dX11_isAny_23 : decode cX11_isAny 23 = .ok (.ifCond .eq 5, 3) := by decide +kernel
theorem dX11_isAny_26 : decode cX11_isAny 26 = .ok (.iconst 1, 1) := by decide +kernel
theorem dX11_isAny_27 : decode cX11_isAny 27 = .ok (.ireturn, 1) := by decide +kernel
theorem dX11_isAny_28 : decode cX11_isAny 28 = .ok (.aload_n 0, 1) := by decide +kernel
theorem dX11_isAny_29 : decode cX11_isAny 29 = .ok (.invokevirtual 368, 3) := by decide +kernel
theorem dX11_isAny_32 : decode cX11_isAny 32 = .ok (.istore_n 1, 1) := by decide +kernel
theorem dX11_isAny_33 : decode cX11_isAny 33 = .ok (.goto (-31), 3) := by decide +kernel
theorem dX11_isAny_36 : decode cX11_isAny 36 = .ok (.iconst 0, 1) := by decide +kernel
theorem dX11_isAny_37 : decode cX11_isAny 37 = .ok (.ireturn, 1) := by decide +kernel
theorem dX11_lifts_0 : decode cX11_lifts 0 = .ok (.aload_n 0, 1) := by decide +kernel
theorem dX11_lifts_1 : decode cX11_lifts 1 = .ok (.iconst 0, 1) := by decide +kernel
theorem dX11_lifts_2 : decode cX11_lifts 2 = .ok (.putfield 92, 3) := by decide +kernel
theorem dX11_lifts_5 : decode cX11_lifts 5 = .ok (.aload_n 0, 1) := by decide +kernel
theorem dX11_lifts_6 : decode cX11_lifts 6 = .ok (.getfield 258, 3) := by decide +kernel
theorem dX11_lifts_9 : decode cX11_lifts 9 = .ok (.ifCond .ne 9, 3) := by decide +kernel
theorem dX11_lifts_12 : decode cX11_lifts 12 = .ok (.aload_n 0, 1) := by decide +kernel
theorem dX11_lifts_13 : decode cX11_lifts 13 = .ok (.iconst 1, 1) := by decide +kernel
theorem dX11_lifts_14 : decode cX11_lifts 14 = .ok (.invokevirtual 252, 3) := by decide +kernel
theorem dX11_lifts_17 : decode cX11_lifts 17 = .ok (.ireturn, 1) := by decide +kernel
theorem dX11_lifts_18 : decode cX11_lifts 18 = .ok (.bipush 40, 2) := by decide +kernel
theorem dX11_lifts_20 : decode cX11_lifts 20 = .ok (.istore_n 1, 1) := by decide +kernel
theorem dX11_lifts_21 : decode cX11_lifts 21 = .ok (.iload_n 1, 1) := by decide +kernel
theorem dX11_lifts_22 : decode cX11_lifts 22 = .ok (.ifCond .le 31, 3) := by decide +kernel
theorem dX11_lifts_25 : decode cX11_lifts 25 = .ok (.aload_n 0, 1) := by decide +kernel
theorem dX11_lifts_26 : decode cX11_lifts 26 = .ok (.invokevirtual 371, 3) := by decide +kernel
theorem dX11_lifts_29 : decode cX11_lifts 29 = .ok (.aload_n 0, 1) := by decide +kernel
theorem dX11_lifts_30 : decode cX11_lifts 30 = .ok (.iload_n 1, 1) := by decide +kernel
theorem dX11_lifts_31 : decode cX11_lifts 31 = .ok (.putfield 285, 3) := by decide +kernel
theorem dX11_lifts_34 : decode cX11_lifts 34 = .ok (.aload_n 0, 1) := by decide +kernel
theorem dX11_lifts_35 : decode cX11_lifts 35 = .ok (.invokevirtual 377, 3) := by decide +kernel
theorem dX11_lifts_38 : decode cX11_lifts 38 = .ok (.ifCond .eq 9, 3) := by decide +kernel
theorem dX11_lifts_41 : decode cX11_lifts 41 = .ok (.aload_n 0, 1) := by decide +kernel
theorem dX11_lifts_42 : decode cX11_lifts 42 = .ok (.iload_n 1, 1) := by decide +kernel
theorem dX11_lifts_43 : decode cX11_lifts 43 = .ok (.invokevirtual 282, 3) := by decide +kernel
theorem dX11_lifts_46 : decode cX11_lifts 46 = .ok (.ireturn, 1) := by decide +kernel
theorem dX11_lifts_47 : decode cX11_lifts 47 = .ok (.iinc 1 (-1), 3) := by decide +kernel
theorem dX11_lifts_50 : decode cX11_lifts 50 = .ok (.goto (-29), 3) := by decide +kernel
theorem dX11_lifts_53 : decode cX11_lifts 53 = .ok (.aload_n 0, 1) := by decide +kernel
theorem dX11_lifts_54 : decode cX11_lifts 54 = .ok (.bipush (-2), 2) := by decide +kernel
theorem dX11_lifts_56 : decode cX11_lifts 56 = .ok (.invokevirtual 282, 3) := by decide +kernel
theorem dX11_lifts_59 : decode cX11_lifts 59 = .ok (.ireturn, 1) := by decide +kernel
theorem dX11_needs_0 : decode cX11_needs 0 = .ok (.aload_n 0, 1) := by decide +kernel
theorem dX11_needs_1 : decode cX11_needs 1 = .ok (.iconst 0, 1) := by decide +kernel
theorem dX11_needs_2 : decode cX11_needs 2 = .ok (.putfield 92, 3) := by decide +kernel
theorem dX11_needs_5 : decode cX11_needs 5 = .ok (.aload_n 0, 1) := by decide +kernel
theorem dX11_needs_6 : decode cX11_needs 6 = .ok (.iload_n 1, 1) := by decide +kernel
theorem dX11_needs_7 : decode cX11_needs 7 = .ok (.invokevirtual 301, 3) := by decide +kernel
theorem dX11_needs_10 : decode cX11_needs 10 = .ok (.ifCond .ne 9, 3) := by decide +kernel
theorem dX11_needs_13 : decode cX11_needs 13 = .ok (.aload_n 0, 1) := by decide +kernel
theorem dX11_needs_14 : decode cX11_needs 14 = .ok (.iconst 1, 1) := by decide +kernel
theorem dX11_needs_15 : decode cX11_needs 15 = .ok (.invokevirtual 252, 3) := by decide +kernel
theorem dX11_needs_18 : decode cX11_needs 18 = .ok (.ireturn, 1) := by decide +kernel
theorem dX11_needs_19 : decode cX11_needs 19 = .ok (.aload_n 0, 1) := by decide +kernel
theorem dX11_needs_20 : decode cX11_needs 20 = .ok (.invokevirtual 371, 3) := by decide +kernel
theorem dX11_needs_23 : decode cX11_needs 23 = .ok (.aload_n 0, 1) := by decide +kernel
theorem dX11_needs_24 : decode cX11_needs 24 = .ok (.aload_n 0, 1) := by decide +kernel
theorem dX11_needs_25 : decode cX11_needs 25 = .ok (.getfield 30, 3) := by decide +kernel
theorem dX11_needs_28 : decode cX11_needs 28 = .ok (.iconst 1, 1) := by decide +kernel
theorem dX11_needs_29 : decode cX11_needs 29 = .ok (.iaload, 1) := by decide +kernel
theorem dX11_needs_30 : decode cX11_needs 30 = .ok (.invokevirtual 374, 3) := by decide +kernel
theorem dX11_needs_33 : decode cX11_needs 33 = .ok (.aload_n 0, 1) := by decide +kernel
theorem dX11_needs_34 : decode cX11_needs 34 = .ok (.getfield 365, 3) := by decide +kernel
theorem dX11_needs_37 : decode cX11_needs 37 = .ok (.istore_n 2, 1) := by decide +kernel
theorem dX11_needs_38 : decode cX11_needs 38 = .ok (.aload_n 0, 1) := by decide +kernel
theorem dX11_needs_39 : decode cX11_needs 39 = .ok (.invokevirtual 371, 3) := by decide +kernel
theorem dX11_needs_42 : decode cX11_needs 42 = .ok (.aload_n 0, 1) := by decide +kernel
theorem dX11_needs_43 : decode cX11_needs 43 = .ok (.getfield 52, 3) := by decide +kernel
theorem dX11_needs_46 : decode cX11_needs 46 = .ok (.iload_n 1, 1) := by decide +kernel
theorem dX11_needs_47 : decode cX11_needs 47 = .ok (.iconst 0, 1) := by decide +kernel
theorem dX11_needs_48 : decode cX11_needs 48 = .ok (.iastore, 1) := by decide +kernel
theorem dX11_needs_49 : decode cX11_needs 49 = .ok (.aload_n 0, 1) := by decide +kernel
theorem dX11_needs_50 : decode cX11_needs 50 = .ok (.getfield 55, 3) := by decide +kernel
theorem dX11_needs_53 : decode cX11_needs 53 = .ok (.iload_n 1, 1) := by decide +kernel
theorem dX11_needs_54 : decode cX11_needs 54 = .ok (.iconst 0, 1) := by decide +kernel
theorem dX11_needs_55 : decode cX11_needs 55 = .ok (.iastore, 1) := by decide +kernel
theorem dX11_needs_56 : decode cX11_needs 56 = .ok (.aload_n 0, 1) := by decide +kernel
theorem dX11_needs_57 : decode cX11_needs 57 = .ok (.getfield 40, 3) := by decide +kernel
theorem dX11_needs_60 : decode cX11_needs 60 = .ok (.iload_n 1, 1) := by decide +kernel
theorem dX11_needs_61 : decode cX11_needs 61 = .ok (.iconst 0, 1) := by decide +kernel
theorem dX11_needs_62 : decode cX11_needs 62 = .ok (.iastore, 1) := by decide +kernel
theorem dX11_needs_63 : decode cX11_needs 63 = .ok (.aload_n 0, 1) := by decide +kernel
theorem dX11_needs_64 : decode cX11_needs 64 = .ok (.aload_n 0, 1) := by decide +kernel
theorem dX11_needs_65 : decode cX11_needs 65 = .ok (.getfield 30, 3) := by decide +kernel
theorem dX11_needs_68 : decode cX11_needs 68 = .ok (.iconst 1, 1) := by decide +kernel
theorem dX11_needs_69 : decode cX11_needs 69 = .ok (.iaload, 1) := by decide +kernel
theorem dX11_needs_70 : decode cX11_needs 70 = .ok (.invokevirtual 374, 3) := by decide +kernel
theorem dX11_needs_73 : decode cX11_needs 73 = .ok (.aload_n 0, 1) := by decide +kernel
theorem dX11_needs_74 : decode cX11_needs 74 = .ok (.iload_n 2, 1) := by decide +kernel
theorem dX11_needs_75 : decode cX11_needs 75 = .ok (.bipush (-2), 2) := by decide +kernel
theorem dX11_needs_77 : decode cX11_needs 77 = .ok (.if_icmp .eq 12, 3) := by decide +kernel
theorem dX11_needs_80 : decode cX11_needs 80 = .ok (.aload_n 0, 1) := by decide +kernel
theorem dX11_needs_81 : decode cX11_needs 81 = .ok (.getfield 365, 3) := by decide +kernel
theorem dX11_needs_84 : decode cX11_needs 84 = .ok (.bipush (-2), 2) := by decide +kernel
theorem dX11_needs_86 : decode cX11_needs 86 = .ok (.if_icmp .ne 8, 3) := by decide +kernel
theorem dX11_needs_89 : decode cX11_needs 89 = .ok (.bipush (-2), 2) := by decide +kernel
theorem dX11_needs_91 : decode cX11_needs 91 = .ok (.goto 9, 3) := by decide +kernel
theorem dX11_needs_94 : decode cX11_needs 94 = .ok (.aload_n 0, 1) := by decide +kernel
theorem dX11_needs_95 : decode cX11_needs 95 = .ok (.getfield 365, 3) := by decide +kernel
theorem dX11_needs_98 : decode cX11_needs 98 = .ok (.iload_n 2, 1) := by decide +kernel
theorem dX11_needs_99 : decode cX11_needs 99 = .ok (.isub, 1) := by decide +kernel
theorem dX11_needs_100 : decode cX11_needs 100 = .ok (.invokevirtual 282, 3) := by decide +kernel
theorem dX11_needs_103 : decode cX11_needs 103 = .ok (.ireturn, 1) := by decide +kernel
theorem dX11_laysWays_0 : decode cX11_laysWays 0 = .ok (.aload_n 0, 1) := by decide +kernel
theorem dX11_laysWays_1 : decode cX11_laysWays 1 = .ok (.invokevirtual 371, 3) := by decide +kernel
theorem dX11_laysWays_4 : decode cX11_laysWays 4 = .ok (.aload_n 0, 1) := by decide +kernel
theorem dX11_laysWays_5 : decode cX11_laysWays 5 = .ok (.iconst 0, 1) := by decide +kernel
theorem dX11_laysWays_6 : decode cX11_laysWays 6 = .ok (.putfield 380, 3) := by decide +kernel
theorem dX11_laysWays_9 : decode cX11_laysWays 9 = .ok (.aload_n 0, 1) := by decide +kernel
theorem dX11_laysWays_10 : decode cX11_laysWays 10 = .ok (.bipush (-2), 2) := by decide +kernel
theorem dX11_laysWays_12 : decode cX11_laysWays 12 = .ok (.putfield 383, 3) := by decide +kernel
theorem dX11_laysWays_15 : decode cX11_laysWays 15 = .ok (.aload_n 0, 1) := by decide +kernel
theorem dX11_laysWays_16 : decode cX11_laysWays 16 = .ok (.bipush (-2), 2) := by decide +kernel
theorem dX11_laysWays_18 : decode cX11_laysWays 18 = .ok (.putfield 386, 3) := by decide +kernel
theorem dX11_laysWays_21 : decode cX11_laysWays 21 = .ok (.iconst 1, 1) := by decide +kernel
theorem dX11_laysWays_22 : decode cX11_laysWays 22 = .ok (.istore_n 3, 1) := by decide +kernel
theorem dX11_laysWays_23 : decode cX11_laysWays 23 = .ok (.iload_n 3, 1) := by decide +kernel
theorem dX11_laysWays_24 : decode cX11_laysWays 24 = .ok (.ifCond .eq 91, 3) := by decide +kernel
theorem dX11_laysWays_27 : decode cX11_laysWays 27 = .ok (.aload_n 0, 1) := by decide +kernel
theorem dX11_laysWays_28 : decode cX11_laysWays 28 = .ok (.invokevirtual 346, 3) := by decide +kernel
theorem dX11_laysWays_31 : decode cX11_laysWays 31 = .ok (.ifCond .eq 76, 3) := by decide +kernel
theorem dX11_laysWays_34 : decode cX11_laysWays 34 = .ok (.aload_n 0, 1) := by decide +kernel
theorem dX11_laysWays_35 : decode cX11_laysWays 35 = .ok (.iload_n 1, 1) := by decide +kernel
theorem dX11_laysWays_36 : decode cX11_laysWays 36 = .ok (.invokevirtual 340, 3) := by decide +kernel
theorem dX11_laysWays_39 : decode cX11_laysWays 39 = .ok (.ifCond .eq 68, 3) := by decide +kernel
theorem dX11_laysWays_42 : decode cX11_laysWays 42 = .ok (.aload_n 0, 1) := by decide +kernel
theorem dX11_laysWays_43 : decode cX11_laysWays 43 = .ok (.dup, 1) := by decide +kernel
theorem dX11_laysWays_44 : decode cX11_laysWays 44 = .ok (.getfield 380, 3) := by decide +kernel
theorem dX11_laysWays_47 : decode cX11_laysWays 47 = .ok (.iconst 1, 1) := by decide +kernel
theorem dX11_laysWays_48 : decode cX11_laysWays 48 = .ok (.iadd, 1) := by decide +kernel
theorem dX11_laysWays_49 : decode cX11_laysWays 49 = .ok (.putfield 380, 3) := by decide +kernel
theorem dX11_laysWays_52 : decode cX11_laysWays 52 = .ok (.aload_n 0, 1) := by decide +kernel
theorem dX11_laysWays_53 : decode cX11_laysWays 53 = .ok (.getfield 383, 3) := by decide +kernel
theorem dX11_laysWays_56 : decode cX11_laysWays 56 = .ok (.bipush (-2), 2) := by decide +kernel
theorem dX11_laysWays_58 : decode cX11_laysWays 58 = .ok (.if_icmp .eq 16, 3) := by decide +kernel
theorem dX11_laysWays_61 : decode cX11_laysWays 61 = .ok (.aload_n 0, 1) := by decide +kernel
theorem dX11_laysWays_62 : decode cX11_laysWays 62 = .ok (.getfield 40, 3) := by decide +kernel
theorem dX11_laysWays_65 : decode cX11_laysWays 65 = .ok (.iload_n 2, 1) := by decide +kernel
theorem dX11_laysWays_66 : decode cX11_laysWays 66 = .ok (.iaload, 1) := by decide +kernel
theorem dX11_laysWays_67 : decode cX11_laysWays 67 = .ok (.aload_n 0, 1) := by decide +kernel
theorem dX11_laysWays_68 : decode cX11_laysWays 68 = .ok (.getfield 383, 3) := by decide +kernel
theorem dX11_laysWays_71 : decode cX11_laysWays 71 = .ok (.if_icmp .ge 13, 3) := by decide +kernel
theorem dX11_laysWays_74 : decode cX11_laysWays 74 = .ok (.aload_n 0, 1) := by decide +kernel
theorem dX11_laysWays_75 : decode cX11_laysWays 75 = .ok (.aload_n 0, 1) := by decide +kernel
theorem dX11_laysWays_76 : decode cX11_laysWays 76 = .ok (.getfield 40, 3) := by decide +kernel
theorem dX11_laysWays_79 : decode cX11_laysWays 79 = .ok (.iload_n 2, 1) := by decide +kernel
theorem dX11_laysWays_80 : decode cX11_laysWays 80 = .ok (.iaload, 1) := by decide +kernel
theorem dX11_laysWays_81 : decode cX11_laysWays 81 = .ok (.putfield 383, 3) := by decide +kernel
theorem dX11_laysWays_84 : decode cX11_laysWays 84 = .ok (.aload_n 0, 1) := by decide +kernel
theorem dX11_laysWays_85 : decode cX11_laysWays 85 = .ok (.getfield 40, 3) := by decide +kernel
theorem dX11_laysWays_88 : decode cX11_laysWays 88 = .ok (.iload_n 2, 1) := by decide +kernel
theorem dX11_laysWays_89 : decode cX11_laysWays 89 = .ok (.iaload, 1) := by decide +kernel
theorem dX11_laysWays_90 : decode cX11_laysWays 90 = .ok (.aload_n 0, 1) := by decide +kernel
theorem dX11_laysWays_91 : decode cX11_laysWays 91 = .ok (.getfield 386, 3) := by decide +kernel
theorem dX11_laysWays_94 : decode cX11_laysWays 94 = .ok (.if_icmp .le 13, 3) := by decide +kernel
theorem dX11_laysWays_97 : decode cX11_laysWays 97 = .ok (.aload_n 0, 1) := by decide +kernel
theorem dX11_laysWays_98 : decode cX11_laysWays 98 = .ok (.aload_n 0, 1) := by decide +kernel
theorem dX11_laysWays_99 : decode cX11_laysWays 99 = .ok (.getfield 40, 3) := by decide +kernel
theorem dX11_laysWays_102 : decode cX11_laysWays 102 = .ok (.iload_n 2, 1) := by decide +kernel
theorem dX11_laysWays_103 : decode cX11_laysWays 103 = .ok (.iaload, 1) := by decide +kernel
theorem dX11_laysWays_104 : decode cX11_laysWays 104 = .ok (.putfield 386, 3) := by decide +kernel
theorem dX11_laysWays_107 : decode cX11_laysWays 107 = .ok (.aload_n 0, 1) := by decide +kernel
theorem dX11_laysWays_108 : decode cX11_laysWays 108 = .ok (.invokevirtual 368, 3) := by decide +kernel
theorem dX11_laysWays_111 : decode cX11_laysWays 111 = .ok (.istore_n 3, 1) := by decide +kernel
theorem dX11_laysWays_112 : decode cX11_laysWays 112 = .ok (.goto (-89), 3) := by decide +kernel
theorem dX11_laysWays_115 : decode cX11_laysWays 115 = .ok (.return_, 1) := by decide +kernel
theorem dX11_ways_0 : decode cX11_ways 0 = .ok (.aload_n 0, 1) := by decide +kernel
theorem dX11_ways_1 : decode cX11_ways 1 = .ok (.iconst 0, 1) := by decide +kernel
theorem dX11_ways_2 : decode cX11_ways 2 = .ok (.putfield 92, 3) := by decide +kernel
theorem dX11_ways_5 : decode cX11_ways 5 = .ok (.aload_n 0, 1) := by decide +kernel
theorem dX11_ways_6 : decode cX11_ways 6 = .ok (.iconst 1, 1) := by decide +kernel
theorem dX11_ways_7 : decode cX11_ways 7 = .ok (.iload_n 1, 1) := by decide +kernel
theorem dX11_ways_8 : decode cX11_ways 8 = .ok (.invokevirtual 336, 3) := by decide +kernel
theorem dX11_ways_11 : decode cX11_ways 11 = .ok (.istore_n 2, 1) := by decide +kernel
theorem dX11_ways_12 : decode cX11_ways 12 = .ok (.iload_n 2, 1) := by decide +kernel
theorem dX11_ways_13 : decode cX11_ways 13 = .ok (.ifCond .le 9, 3) := by decide +kernel
theorem dX11_ways_16 : decode cX11_ways 16 = .ok (.aload_n 0, 1) := by decide +kernel
theorem dX11_ways_17 : decode cX11_ways 17 = .ok (.iload_n 2, 1) := by decide +kernel
theorem dX11_ways_18 : decode cX11_ways 18 = .ok (.invokevirtual 252, 3) := by decide +kernel
theorem dX11_ways_21 : decode cX11_ways 21 = .ok (.ireturn, 1) := by decide +kernel
theorem dX11_ways_22 : decode cX11_ways 22 = .ok (.aload_n 0, 1) := by decide +kernel
theorem dX11_ways_23 : decode cX11_ways 23 = .ok (.iload_n 1, 1) := by decide +kernel
theorem dX11_ways_24 : decode cX11_ways 24 = .ok (.iconst 0, 1) := by decide +kernel
theorem dX11_ways_25 : decode cX11_ways 25 = .ok (.invokevirtual 389, 3) := by decide +kernel
theorem dX11_ways_28 : decode cX11_ways 28 = .ok (.aload_n 0, 1) := by decide +kernel
theorem dX11_ways_29 : decode cX11_ways 29 = .ok (.aload_n 0, 1) := by decide +kernel
theorem dX11_ways_30 : decode cX11_ways 30 = .ok (.getfield 380, 3) := by decide +kernel
theorem dX11_ways_33 : decode cX11_ways 33 = .ok (.invokevirtual 282, 3) := by decide +kernel
theorem dX11_ways_36 : decode cX11_ways 36 = .ok (.ireturn, 1) := by decide +kernel
theorem dX11_range_0 : decode cX11_range 0 = .ok (.aload_n 0, 1) := by decide +kernel
theorem dX11_range_1 : decode cX11_range 1 = .ok (.iconst 0, 1) := by decide +kernel
theorem dX11_range_2 : decode cX11_range 2 = .ok (.putfield 92, 3) := by decide +kernel
theorem dX11_range_5 : decode cX11_range 5 = .ok (.aload_n 0, 1) := by decide +kernel
theorem dX11_range_6 : decode cX11_range 6 = .ok (.aload_n 0, 1) := by decide +kernel
theorem dX11_range_7 : decode cX11_range 7 = .ok (.iload_n 2, 1) := by decide +kernel
theorem dX11_range_8 : decode cX11_range 8 = .ok (.invokevirtual 301, 3) := by decide +kernel
theorem dX11_range_11 : decode cX11_range 11 = .ok (.iload_n 1, 1) := by decide +kernel
theorem dX11_range_12 : decode cX11_range 12 = .ok (.invokevirtual 336, 3) := by decide +kernel
theorem dX11_range_15 : decode cX11_range 15 = .ok (.istore 4, 2) := by decide +kernel
theorem dX11_range_17 : decode cX11_range 17 = .ok (.iload 4, 2) := by decide +kernel
theorem dX11_range_19 : decode cX11_range 19 = .ok (.ifCond .le 10, 3) := by decide +kernel
theorem dX11_range_22 : decode cX11_range 22 = .ok (.aload_n 0, 1) := by decide +kernel
theorem dX11_range_23 : decode cX11_range 23 = .ok (.iload 4, 2) := by decide +kernel
theorem dX11_range_25 : decode cX11_range 25 = .ok (.invokevirtual 252, 3) := by decide +kernel
theorem dX11_range_28 : decode cX11_range 28 = .ok (.ireturn, 1) := by decide +kernel
theorem dX11_range_29 : decode cX11_range 29 = .ok (.aload_n 0, 1) := by decide +kernel
theorem dX11_range_30 : decode cX11_range 30 = .ok (.iload_n 1, 1) := by decide +kernel
theorem dX11_range_31 : decode cX11_range 31 = .ok (.iload_n 2, 1) := by decide +kernel
theorem dX11_range_32 : decode cX11_range 32 = .ok (.invokevirtual 389, 3) := by decide +kernel
theorem dX11_range_35 : decode cX11_range 35 = .ok (.aload_n 0, 1) := by decide +kernel
theorem dX11_range_36 : decode cX11_range 36 = .ok (.iload_n 3, 1) := by decide +kernel
theorem dX11_range_37 : decode cX11_range 37 = .ok (.ifCond .eq 10, 3) := by decide +kernel
theorem dX11_range_40 : decode cX11_range 40 = .ok (.aload_n 0, 1) := by decide +kernel
theorem dX11_range_41 : decode cX11_range 41 = .ok (.getfield 386, 3) := by decide +kernel
theorem dX11_range_44 : decode cX11_range 44 = .ok (.goto 7, 3) := by decide +kernel
theorem dX11_range_47 : decode cX11_range 47 = .ok (.aload_n 0, 1) := by decide +kernel
theorem dX11_range_48 : decode cX11_range 48 = .ok (.getfield 383, 3) := by decide +kernel
theorem dX11_range_51 : decode cX11_range 51 = .ok (.invokevirtual 282, 3) := by decide +kernel
theorem dX11_range_54 : decode cX11_range 54 = .ok (.ireturn, 1) := by decide +kernel
theorem dX11_takes_0 : decode cX11_takes 0 = .ok (.iconst 0, 1) := by decide +kernel
theorem dX11_takes_1 : decode cX11_takes 1 = .ok (.istore_n 3, 1) := by decide +kernel
theorem dX11_takes_2 : decode cX11_takes 2 = .ok (.iload_n 3, 1) := by decide +kernel
theorem dX11_takes_3 : decode cX11_takes 3 = .ok (.iconst 3, 1) := by decide +kernel
theorem dX11_takes_4 : decode cX11_takes 4 = .ok (.if_icmp .ge 20, 3) := by decide +kernel
theorem dX11_takes_7 : decode cX11_takes 7 = .ok (.aload_n 0, 1) := by decide +kernel
theorem dX11_takes_8 : decode cX11_takes 8 = .ok (.getfield 40, 3) := by decide +kernel
theorem dX11_takes_11 : decode cX11_takes 11 = .ok (.iload_n 3, 1) := by decide +kernel
theorem dX11_takes_12 : decode cX11_takes 12 = .ok (.aload_n 1, 1) := by decide +kernel
theorem dX11_takes_13 : decode cX11_takes 13 = .ok (.iload_n 2, 1) := by decide +kernel
theorem dX11_takes_14 : decode cX11_takes 14 = .ok (.iload_n 3, 1) := by decide +kernel
theorem dX11_takes_15 : decode cX11_takes 15 = .ok (.iadd, 1) := by decide +kernel
theorem dX11_takes_16 : decode cX11_takes 16 = .ok (.iaload, 1) := by decide +kernel
theorem dX11_takes_17 : decode cX11_takes 17 = .ok (.iastore, 1) := by decide +kernel
theorem dX11_takes_18 : decode cX11_takes 18 = .ok (.iinc 3 1, 3) := by decide +kernel
theorem dX11_takes_21 : decode cX11_takes 21 = .ok (.goto (-19), 3) := by decide +kernel
theorem dX11_takes_24 : decode cX11_takes 24 = .ok (.return_, 1) := by decide +kernel
theorem dX11_puts_0 : decode cX11_puts 0 = .ok (.iconst 0, 1) := by decide +kernel
theorem dX11_puts_1 : decode cX11_puts 1 = .ok (.istore_n 3, 1) := by decide +kernel
theorem dX11_puts_2 : decode cX11_puts 2 = .ok (.iload_n 3, 1) := by decide +kernel
theorem dX11_puts_3 : decode cX11_puts 3 = .ok (.iconst 3, 1) := by decide +kernel
theorem dX11_puts_4 : decode cX11_puts 4 = .ok (.if_icmp .ge 20, 3) := by decide +kernel
theorem dX11_puts_7 : decode cX11_puts 7 = .ok (.aload_n 1, 1) := by decide +kernel
theorem dX11_puts_8 : decode cX11_puts 8 = .ok (.iload_n 2, 1) := by decide +kernel
theorem dX11_puts_9 : decode cX11_puts 9 = .ok (.iload_n 3, 1) := by decide +kernel
theorem dX11_puts_10 : decode cX11_puts 10 = .ok (.iadd, 1) := by decide +kernel
theorem dX11_puts_11 : decode cX11_puts 11 = .ok (.aload_n 0, 1) := by decide +kernel
theorem dX11_puts_12 : decode cX11_puts 12 = .ok (.getfield 40, 3) := by decide +kernel
theorem dX11_puts_15 : decode cX11_puts 15 = .ok (.iload_n 3, 1) := by decide +kernel
theorem dX11_puts_16 : decode cX11_puts 16 = .ok (.iaload, 1) := by decide +kernel
theorem dX11_puts_17 : decode cX11_puts 17 = .ok (.iastore, 1) := by decide +kernel
theorem dX11_puts_18 : decode cX11_puts 18 = .ok (.iinc 3 1, 3) := by decide +kernel
theorem dX11_puts_21 : decode cX11_puts 21 = .ok (.goto (-19), 3) := by decide +kernel
theorem dX11_puts_24 : decode cX11_puts 24 = .ok (.return_, 1) := by decide +kernel
theorem dX11_comparesSpeeds_0 : decode cX11_comparesSpeeds 0 = .ok (.aload_n 0, 1) := by decide +kernel
theorem dX11_comparesSpeeds_1 : decode cX11_comparesSpeeds 1 = .ok (.aload_n 3, 1) := by decide +kernel
theorem dX11_comparesSpeeds_2 : decode cX11_comparesSpeeds 2 = .ok (.iload 4, 2) := by decide +kernel
theorem dX11_comparesSpeeds_4 : decode cX11_comparesSpeeds 4 = .ok (.invokevirtual 392, 3) := by decide +kernel
theorem dX11_comparesSpeeds_7 : decode cX11_comparesSpeeds 7 = .ok (.aload_n 0, 1) := by decide +kernel
theorem dX11_comparesSpeeds_8 : decode cX11_comparesSpeeds 8 = .ok (.invokevirtual 320, 3) := by decide +kernel
theorem dX11_comparesSpeeds_11 : decode cX11_comparesSpeeds 11 = .ok (.iconst 0, 1) := by decide +kernel
theorem dX11_comparesSpeeds_12 : decode cX11_comparesSpeeds 12 = .ok (.istore 5, 2) := by decide +kernel
theorem dX11_comparesSpeeds_14 : decode cX11_comparesSpeeds 14 = .ok (.iload 5, 2) := by decide +kernel
theorem dX11_comparesSpeeds_16 : decode cX11_comparesSpeeds 16 = .ok (.aload_n 0, 1) := by decide +kernel
theorem dX11_comparesSpeeds_17 : decode cX11_comparesSpeeds 17 = .ok (.getfield 270, 3) := by decide +kernel
theorem dX11_comparesSpeeds_20 : decode cX11_comparesSpeeds 20 = .ok (.if_icmp .ge 40, 3) := by decide +kernel
theorem dX11_comparesSpeeds_23 : decode cX11_comparesSpeeds 23 = .ok (.aload_n 0, 1) := by decide +kernel
theorem dX11_comparesSpeeds_24 : decode cX11_comparesSpeeds 24 = .ok (.aload_n 0, 1) := by decide +kernel
theorem dX11_comparesSpeeds_25 : decode cX11_comparesSpeeds 25 = .ok (.iload 5, 2) := by decide +kernel
theorem dX11_comparesSpeeds_27 : decode cX11_comparesSpeeds 27 = .ok (.invokevirtual 291, 3) := by decide +kernel
theorem dX11_comparesSpeeds_30 : decode cX11_comparesSpeeds 30 = .ok (.aload_n 0, 1) := by decide +kernel
theorem dX11_comparesSpeeds_31 : decode cX11_comparesSpeeds 31 = .ok (.getfield 40, 3) := by decide +kernel
theorem dX11_comparesSpeeds_34 : decode cX11_comparesSpeeds 34 = .ok (.iload 5, 2) := by decide +kernel
theorem dX11_comparesSpeeds_36 : decode cX11_comparesSpeeds 36 = .ok (.iaload, 1) := by decide +kernel
theorem dX11_comparesSpeeds_37 : decode cX11_comparesSpeeds 37 = .ok (.isub, 1) := by decide +kernel
theorem dX11_comparesSpeeds_38 : decode cX11_comparesSpeeds 38 = .ok (.aload_n 0, 1) := by decide +kernel
theorem dX11_comparesSpeeds_39 : decode cX11_comparesSpeeds 39 = .ok (.iload 5, 2) := by decide +kernel
theorem dX11_comparesSpeeds_41 : decode cX11_comparesSpeeds 41 = .ok (.invokevirtual 291, 3) := by decide +kernel
theorem dX11_comparesSpeeds_44 : decode cX11_comparesSpeeds 44 = .ok (.aload_n 0, 1) := by decide +kernel
theorem dX11_comparesSpeeds_45 : decode cX11_comparesSpeeds 45 = .ok (.iload 5, 2) := by decide +kernel
theorem dX11_comparesSpeeds_47 : decode cX11_comparesSpeeds 47 = .ok (.iconst 0, 1) := by decide +kernel
theorem dX11_comparesSpeeds_48 : decode cX11_comparesSpeeds 48 = .ok (.invokevirtual 279, 3) := by decide +kernel
theorem dX11_comparesSpeeds_51 : decode cX11_comparesSpeeds 51 = .ok (.invokevirtual 323, 3) := by decide +kernel
theorem dX11_comparesSpeeds_54 : decode cX11_comparesSpeeds 54 = .ok (.iinc 5 1, 3) := by decide +kernel
theorem dX11_comparesSpeeds_57 : decode cX11_comparesSpeeds 57 = .ok (.goto (-43), 3) := by decide +kernel
theorem dX11_comparesSpeeds_60 : decode cX11_comparesSpeeds 60 = .ok (.aload_n 0, 1) := by decide +kernel
theorem dX11_comparesSpeeds_61 : decode cX11_comparesSpeeds 61 = .ok (.aload_n 1, 1) := by decide +kernel
theorem dX11_comparesSpeeds_62 : decode cX11_comparesSpeeds 62 = .ok (.iload_n 2, 1) := by decide +kernel
theorem dX11_comparesSpeeds_63 : decode cX11_comparesSpeeds 63 = .ok (.invokevirtual 392, 3) := by decide +kernel
theorem dX11_comparesSpeeds_66 : decode cX11_comparesSpeeds 66 = .ok (.iconst 0, 1) := by decide +kernel
theorem dX11_comparesSpeeds_67 : decode cX11_comparesSpeeds 67 = .ok (.istore 5, 2) := by decide +kernel
theorem dX11_comparesSpeeds_69 : decode cX11_comparesSpeeds 69 = .ok (.iload 5, 2) := by decide +kernel
theorem dX11_comparesSpeeds_71 : decode cX11_comparesSpeeds 71 = .ok (.aload_n 0, 1) := by decide +kernel
theorem dX11_comparesSpeeds_72 : decode cX11_comparesSpeeds 72 = .ok (.getfield 270, 3) := by decide +kernel
theorem dX11_comparesSpeeds_75 : decode cX11_comparesSpeeds 75 = .ok (.if_icmp .ge 40, 3) := by decide +kernel
theorem dX11_comparesSpeeds_78 : decode cX11_comparesSpeeds 78 = .ok (.aload_n 0, 1) := by decide +kernel
theorem dX11_comparesSpeeds_79 : decode cX11_comparesSpeeds 79 = .ok (.aload_n 0, 1) := by decide +kernel
theorem dX11_comparesSpeeds_80 : decode cX11_comparesSpeeds 80 = .ok (.iload 5, 2) := by decide +kernel
theorem dX11_comparesSpeeds_82 : decode cX11_comparesSpeeds 82 = .ok (.invokevirtual 291, 3) := by decide +kernel
theorem dX11_comparesSpeeds_85 : decode cX11_comparesSpeeds 85 = .ok (.aload_n 0, 1) := by decide +kernel
theorem dX11_comparesSpeeds_86 : decode cX11_comparesSpeeds 86 = .ok (.iload 5, 2) := by decide +kernel
theorem dX11_comparesSpeeds_88 : decode cX11_comparesSpeeds 88 = .ok (.invokevirtual 291, 3) := by decide +kernel
theorem dX11_comparesSpeeds_91 : decode cX11_comparesSpeeds 91 = .ok (.aload_n 0, 1) := by decide +kernel
theorem dX11_comparesSpeeds_92 : decode cX11_comparesSpeeds 92 = .ok (.getfield 40, 3) := by decide +kernel
theorem dX11_comparesSpeeds_95 : decode cX11_comparesSpeeds 95 = .ok (.iload 5, 2) := by decide +kernel
theorem dX11_comparesSpeeds_97 : decode cX11_comparesSpeeds 97 = .ok (.iaload, 1) := by decide +kernel
theorem dX11_comparesSpeeds_98 : decode cX11_comparesSpeeds 98 = .ok (.isub, 1) := by decide +kernel
theorem dX11_comparesSpeeds_99 : decode cX11_comparesSpeeds 99 = .ok (.aload_n 0, 1) := by decide +kernel
theorem dX11_comparesSpeeds_100 : decode cX11_comparesSpeeds 100 = .ok (.iload 5, 2) := by decide +kernel
theorem dX11_comparesSpeeds_102 : decode cX11_comparesSpeeds 102 = .ok (.iconst 0, 1) := by decide +kernel
theorem dX11_comparesSpeeds_103 : decode cX11_comparesSpeeds 103 = .ok (.invokevirtual 279, 3) := by decide +kernel
theorem dX11_comparesSpeeds_106 : decode cX11_comparesSpeeds 106 = .ok (.invokevirtual 323, 3) := by decide +kernel
theorem dX11_comparesSpeeds_109 : decode cX11_comparesSpeeds 109 = .ok (.iinc 5 1, 3) := by decide +kernel
theorem dX11_comparesSpeeds_112 : decode cX11_comparesSpeeds 112 = .ok (.goto (-43), 3) := by decide +kernel
theorem dX11_comparesSpeeds_115 : decode cX11_comparesSpeeds 115 = .ok (.aload_n 0, 1) := by decide +kernel
theorem dX11_comparesSpeeds_116 : decode cX11_comparesSpeeds 116 = .ok (.invokevirtual 327, 3) := by decide +kernel
theorem dX11_comparesSpeeds_119 : decode cX11_comparesSpeeds 119 = .ok (.ireturn, 1) := by decide +kernel
theorem dX11_laysFront_0 : decode cX11_laysFront 0 = .ok (.iconst 0, 1) := by decide +kernel
theorem dX11_laysFront_1 : decode cX11_laysFront 1 = .ok (.istore_n 1, 1) := by decide +kernel
theorem dX11_laysFront_2 : decode cX11_laysFront 2 = .ok (.iload_n 1, 1) := by decide +kernel
theorem dX11_laysFront_3 : decode cX11_laysFront 3 = .ok (.sipush 512, 3) := by decide +kernel
theorem dX11_laysFront_6 : decode cX11_laysFront 6 = .ok (.if_icmp .ge 16, 3) := by decide +kernel
theorem dX11_laysFront_9 : decode cX11_laysFront 9 = .ok (.aload_n 0, 1) := by decide +kernel
theorem dX11_laysFront_10 : decode cX11_laysFront 10 = .ok (.getfield 70, 3) := by decide +kernel
theorem dX11_laysFront_13 : decode cX11_laysFront 13 = .ok (.iload_n 1, 1) := by decide +kernel
theorem dX11_laysFront_14 : decode cX11_laysFront 14 = .ok (.iconst 0, 1) := by decide +kernel
theorem dX11_laysFront_15 : decode cX11_laysFront 15 = .ok (.bastore, 1) := by decide +kernel
theorem dX11_laysFront_16 : decode cX11_laysFront 16 = .ok (.iinc 1 1, 3) := by decide +kernel
theorem dX11_laysFront_19 : decode cX11_laysFront 19 = .ok (.goto (-17), 3) := by decide +kernel
theorem dX11_laysFront_22 : decode cX11_laysFront 22 = .ok (.aload_n 0, 1) := by decide +kernel
theorem dX11_laysFront_23 : decode cX11_laysFront 23 = .ok (.invokevirtual 371, 3) := by decide +kernel
theorem dX11_laysFront_26 : decode cX11_laysFront 26 = .ok (.iconst 1, 1) := by decide +kernel
theorem dX11_laysFront_27 : decode cX11_laysFront 27 = .ok (.istore_n 1, 1) := by decide +kernel
theorem dX11_laysFront_28 : decode cX11_laysFront 28 = .ok (.iload_n 1, 1) := by decide +kernel
theorem dX11_laysFront_29 : decode cX11_laysFront 29 = .ok (.ifCond .eq 79, 3) := by decide +kernel
theorem dX11_laysFront_32 : decode cX11_laysFront 32 = .ok (.aload_n 0, 1) := by decide +kernel
theorem dX11_laysFront_33 : decode cX11_laysFront 33 = .ok (.iconst 0, 1) := by decide +kernel
theorem dX11_laysFront_34 : decode cX11_laysFront 34 = .ok (.invokevirtual 291, 3) := by decide +kernel
theorem dX11_laysFront_37 : decode cX11_laysFront 37 = .ok (.istore_n 2, 1) := by decide +kernel
theorem dX11_laysFront_38 : decode cX11_laysFront 38 = .ok (.aload_n 0, 1) := by decide +kernel
theorem dX11_laysFront_39 : decode cX11_laysFront 39 = .ok (.invokevirtual 346, 3) := by decide +kernel
theorem dX11_laysFront_42 : decode cX11_laysFront 42 = .ok (.ifCond .eq 58, 3) := by decide +kernel
theorem dX11_laysFront_45 : decode cX11_laysFront 45 = .ok (.aload_n 0, 1) := by decide +kernel
theorem dX11_laysFront_46 : decode cX11_laysFront 46 = .ok (.aload_n 0, 1) := by decide +kernel
theorem dX11_laysFront_47 : decode cX11_laysFront 47 = .ok (.getfield 67, 3) := by decide +kernel
theorem dX11_laysFront_50 : decode cX11_laysFront 50 = .ok (.iconst 0, 1) := by decide +kernel
theorem dX11_laysFront_51 : decode cX11_laysFront 51 = .ok (.invokevirtual 396, 3) := by decide +kernel
theorem dX11_laysFront_54 : decode cX11_laysFront 54 = .ok (.aload_n 0, 1) := by decide +kernel
theorem dX11_laysFront_55 : decode cX11_laysFront 55 = .ok (.getfield 70, 3) := by decide +kernel
theorem dX11_laysFront_58 : decode cX11_laysFront 58 = .ok (.iload_n 2, 1) := by decide +kernel
theorem dX11_laysFront_59 : decode cX11_laysFront 59 = .ok (.baload, 1) := by decide +kernel
theorem dX11_laysFront_60 : decode cX11_laysFront 60 = .ok (.ifCond .eq 22, 3) := by decide +kernel
theorem dX11_laysFront_63 : decode cX11_laysFront 63 = .ok (.aload_n 0, 1) := by decide +kernel
theorem dX11_laysFront_64 : decode cX11_laysFront 64 = .ok (.aload_n 0, 1) := by decide +kernel
theorem dX11_laysFront_65 : decode cX11_laysFront 65 = .ok (.getfield 67, 3) := by decide +kernel
theorem dX11_laysFront_68 : decode cX11_laysFront 68 = .ok (.iconst 0, 1) := by decide +kernel
theorem dX11_laysFront_69 : decode cX11_laysFront 69 = .ok (.aload_n 0, 1) := by decide +kernel
theorem dX11_laysFront_70 : decode cX11_laysFront 70 = .ok (.getfield 61, 3) := by decide +kernel
theorem dX11_laysFront_73 : decode cX11_laysFront 73 = .ok (.iconst 3, 1) := by decide +kernel
theorem dX11_laysFront_74 : decode cX11_laysFront 74 = .ok (.iload_n 2, 1) := by decide +kernel
theorem dX11_laysFront_75 : decode cX11_laysFront 75 = .ok (.imul, 1) := by decide +kernel
theorem dX11_laysFront_76 : decode cX11_laysFront 76 = .ok (.invokevirtual 399, 3) := by decide +kernel
theorem dX11_laysFront_79 : decode cX11_laysFront 79 = .ok (.ifCond .le 14, 3) := by decide +kernel
theorem dX11_laysFront_82 : decode cX11_laysFront 82 = .ok (.aload_n 0, 1) := by decide +kernel
theorem dX11_laysFront_83 : decode cX11_laysFront 83 = .ok (.aload_n 0, 1) := by decide +kernel
theorem dX11_laysFront_84 : decode cX11_laysFront 84 = .ok (.getfield 61, 3) := by decide +kernel
theorem dX11_laysFront_87 : decode cX11_laysFront 87 = .ok (.iconst 3, 1) := by decide +kernel
theorem dX11_laysFront_88 : decode cX11_laysFront 88 = .ok (.iload_n 2, 1) := by decide +kernel
theorem dX11_laysFront_89 : decode cX11_laysFront 89 = .ok (.imul, 1) := by decide +kernel
theorem dX11_laysFront_90 : decode cX11_laysFront 90 = .ok (.invokevirtual 396, 3) := by decide +kernel
theorem dX11_laysFront_93 : decode cX11_laysFront 93 = .ok (.aload_n 0, 1) := by decide +kernel
theorem dX11_laysFront_94 : decode cX11_laysFront 94 = .ok (.getfield 70, 3) := by decide +kernel
theorem dX11_laysFront_97 : decode cX11_laysFront 97 = .ok (.iload_n 2, 1) := by decide +kernel
theorem dX11_laysFront_98 : decode cX11_laysFront 98 = .ok (.iconst 1, 1) := by decide +kernel
theorem dX11_laysFront_99 : decode cX11_laysFront 99 = .ok (.bastore, 1) := by decide +kernel
theorem dX11_laysFront_100 : decode cX11_laysFront 100 = .ok (.aload_n 0, 1) := by decide +kernel
theorem dX11_laysFront_101 : decode cX11_laysFront 101 = .ok (.invokevirtual 368, 3) := by decide +kernel
theorem dX11_laysFront_104 : decode cX11_laysFront 104 = .ok (.istore_n 1, 1) := by decide +kernel
theorem dX11_laysFront_105 : decode cX11_laysFront 105 = .ok (.goto (-77), 3) := by decide +kernel
theorem dX11_laysFront_108 : decode cX11_laysFront 108 = .ok (.aload_n 0, 1) := by decide +kernel
theorem dX11_laysFront_109 : decode cX11_laysFront 109 = .ok (.iconst 0, 1) := by decide +kernel
theorem dX11_laysFront_110 : decode cX11_laysFront 110 = .ok (.putfield 403, 3) := by decide +kernel
theorem dX11_laysFront_113 : decode cX11_laysFront 113 = .ok (.iconst 0, 1) := by decide +kernel
theorem dX11_laysFront_114 : decode cX11_laysFront 114 = .ok (.istore_n 2, 1) := by decide +kernel
theorem dX11_laysFront_115 : decode cX11_laysFront 115 = .ok (.iload_n 2, 1) := by decide +kernel
theorem dX11_laysFront_116 : decode cX11_laysFront 116 = .ok (.sipush 512, 3) := by decide +kernel
theorem dX11_laysFront_119 : decode cX11_laysFront 119 = .ok (.if_icmp .ge 79, 3) := by decide +kernel
theorem dX11_laysFront_122 : decode cX11_laysFront 122 = .ok (.aload_n 0, 1) := by decide +kernel
theorem dX11_laysFront_123 : decode cX11_laysFront 123 = .ok (.getfield 70, 3) := by decide +kernel
theorem dX11_laysFront_126 : decode cX11_laysFront 126 = .ok (.iload_n 2, 1) := by decide +kernel
theorem dX11_laysFront_127 : decode cX11_laysFront 127 = .ok (.baload, 1) := by decide +kernel
theorem dX11_laysFront_128 : decode cX11_laysFront 128 = .ok (.ifCond .eq 64, 3) := by decide +kernel
theorem dX11_laysFront_131 : decode cX11_laysFront 131 = .ok (.aload_n 0, 1) := by decide +kernel
theorem dX11_laysFront_132 : decode cX11_laysFront 132 = .ok (.getfield 403, 3) := by decide +kernel
theorem dX11_laysFront_135 : decode cX11_laysFront 135 = .ok (.ifCond .le 37, 3) := by decide +kernel
theorem dX11_laysFront_138 : decode cX11_laysFront 138 = .ok (.aload_n 0, 1) := by decide +kernel
theorem dX11_laysFront_139 : decode cX11_laysFront 139 = .ok (.aload_n 0, 1) := by decide +kernel
theorem dX11_laysFront_140 : decode cX11_laysFront 140 = .ok (.getfield 61, 3) := by decide +kernel
theorem dX11_laysFront_143 : decode cX11_laysFront 143 = .ok (.iconst 3, 1) := by decide +kernel
theorem dX11_laysFront_144 : decode cX11_laysFront 144 = .ok (.iload_n 2, 1) := by decide +kernel
theorem dX11_laysFront_145 : decode cX11_laysFront 145 = .ok (.imul, 1) := by decide +kernel
theorem dX11_laysFront_146 : decode cX11_laysFront 146 = .ok (.aload_n 0, 1) := by decide +kernel
theorem dX11_laysFront_147 : decode cX11_laysFront 147 = .ok (.getfield 61, 3) := by decide +kernel
theorem dX11_laysFront_150 : decode cX11_laysFront 150 = .ok (.iconst 3, 1) := by decide +kernel
theorem dX11_laysFront_151 : decode cX11_laysFront 151 = .ok (.aload_n 0, 1) := by decide +kernel
theorem dX11_laysFront_152 : decode cX11_laysFront 152 = .ok (.getfield 64, 3) := by decide +kernel
theorem dX11_laysFront_155 : decode cX11_laysFront 155 = .ok (.aload_n 0, 1) := by decide +kernel
theorem dX11_laysFront_156 : decode cX11_laysFront 156 = .ok (.getfield 403, 3) := by decide +kernel
theorem dX11_laysFront_159 : decode cX11_laysFront 159 = .ok (.iconst 1, 1) := by decide +kernel
theorem dX11_laysFront_160 : decode cX11_laysFront 160 = .ok (.isub, 1) := by decide +kernel
theorem dX11_laysFront_161 : decode cX11_laysFront 161 = .ok (.iaload, 1) := by decide +kernel
theorem dX11_laysFront_162 : decode cX11_laysFront 162 = .ok (.imul, 1) := by decide +kernel
theorem dX11_laysFront_163 : decode cX11_laysFront 163 = .ok (.invokevirtual 399, 3) := by decide +kernel
theorem dX11_laysFront_166 : decode cX11_laysFront 166 = .ok (.ifCond .gt 6, 3) := by decide +kernel
theorem dX11_laysFront_169 : decode cX11_laysFront 169 = .ok (.goto 23, 3) := by decide +kernel
theorem dX11_laysFront_172 : decode cX11_laysFront 172 = .ok (.aload_n 0, 1) := by decide +kernel
theorem dX11_laysFront_173 : decode cX11_laysFront 173 = .ok (.getfield 64, 3) := by decide +kernel
theorem dX11_laysFront_176 : decode cX11_laysFront 176 = .ok (.aload_n 0, 1) := by decide +kernel
theorem dX11_laysFront_177 : decode cX11_laysFront 177 = .ok (.getfield 403, 3) := by decide +kernel
theorem dX11_laysFront_180 : decode cX11_laysFront 180 = .ok (.iload_n 2, 1) := by decide +kernel
theorem dX11_laysFront_181 : decode cX11_laysFront 181 = .ok (.iastore, 1) := by decide +kernel
theorem dX11_laysFront_182 : decode cX11_laysFront 182 = .ok (.aload_n 0, 1) := by decide +kernel
theorem dX11_laysFront_183 : decode cX11_laysFront 183 = .ok (.dup, 1) := by decide +kernel
theorem dX11_laysFront_184 : decode cX11_laysFront 184 = .ok (.getfield 403, 3) := by decide +kernel
theorem dX11_laysFront_187 : decode cX11_laysFront 187 = .ok (.iconst 1, 1) := by decide +kernel
theorem dX11_laysFront_188 : decode cX11_laysFront 188 = .ok (.iadd, 1) := by decide +kernel
theorem dX11_laysFront_189 : decode cX11_laysFront 189 = .ok (.putfield 403, 3) := by decide +kernel
theorem dX11_laysFront_192 : decode cX11_laysFront 192 = .ok (.iinc 2 1, 3) := by decide +kernel
theorem dX11_laysFront_195 : decode cX11_laysFront 195 = .ok (.goto (-80), 3) := by decide +kernel
theorem dX11_laysFront_198 : decode cX11_laysFront 198 = .ok (.return_, 1) := by decide +kernel
theorem dX11_fronts_0 : decode cX11_fronts 0 = .ok (.aload_n 0, 1) := by decide +kernel
theorem dX11_fronts_1 : decode cX11_fronts 1 = .ok (.iconst 0, 1) := by decide +kernel
theorem dX11_fronts_2 : decode cX11_fronts 2 = .ok (.putfield 92, 3) := by decide +kernel
theorem dX11_fronts_5 : decode cX11_fronts 5 = .ok (.aload_n 0, 1) := by decide +kernel
theorem dX11_fronts_6 : decode cX11_fronts 6 = .ok (.getfield 258, 3) := by decide +kernel
theorem dX11_fronts_9 : decode cX11_fronts 9 = .ok (.ifCond .ne 9, 3) := by decide +kernel
theorem dX11_fronts_12 : decode cX11_fronts 12 = .ok (.aload_n 0, 1) := by decide +kernel
theorem dX11_fronts_13 : decode cX11_fronts 13 = .ok (.iconst 1, 1) := by decide +kernel
theorem dX11_fronts_14 : decode cX11_fronts 14 = .ok (.invokevirtual 252, 3) := by decide +kernel
theorem dX11_fronts_17 : decode cX11_fronts 17 = .ok (.ireturn, 1) := by decide +kernel
theorem dX11_fronts_18 : decode cX11_fronts 18 = .ok (.aload_n 0, 1) := by decide +kernel
theorem dX11_fronts_19 : decode cX11_fronts 19 = .ok (.invokevirtual 406, 3) := by decide +kernel
theorem dX11_fronts_22 : decode cX11_fronts 22 = .ok (.aload_n 0, 1) := by decide +kernel
theorem dX11_fronts_23 : decode cX11_fronts 23 = .ok (.aload_n 0, 1) := by decide +kernel
theorem dX11_fronts_24 : decode cX11_fronts 24 = .ok (.getfield 403, 3) := by decide +kernel
theorem dX11_fronts_27 : decode cX11_fronts 27 = .ok (.invokevirtual 282, 3) := by decide +kernel
theorem dX11_fronts_30 : decode cX11_fronts 30 = .ok (.ireturn, 1) := by decide +kernel
theorem dX11_front_0 : decode cX11_front 0 = .ok (.aload_n 0, 1) := by decide +kernel
theorem dX11_front_1 : decode cX11_front 1 = .ok (.iconst 0, 1) := by decide +kernel
theorem dX11_front_2 : decode cX11_front 2 = .ok (.putfield 92, 3) := by decide +kernel
theorem dX11_front_5 : decode cX11_front 5 = .ok (.aload_n 0, 1) := by decide +kernel
theorem dX11_front_6 : decode cX11_front 6 = .ok (.getfield 258, 3) := by decide +kernel
theorem dX11_front_9 : decode cX11_front 9 = .ok (.ifCond .eq 12, 3) := by decide +kernel
theorem dX11_front_12 : decode cX11_front 12 = .ok (.iload_n 2, 1) := by decide +kernel
theorem dX11_front_13 : decode cX11_front 13 = .ok (.iconst 0, 1) := by decide +kernel
theorem dX11_front_14 : decode cX11_front 14 = .ok (.iconst 4, 1) := by decide +kernel
theorem dX11_front_15 : decode cX11_front 15 = .ok (.invokestatic 117, 3) := by decide +kernel
theorem dX11_front_18 : decode cX11_front 18 = .ok (.ifCond .ne 9, 3) := by decide +kernel
theorem dX11_front_21 : decode cX11_front 21 = .ok (.aload_n 0, 1) := by decide +kernel
theorem dX11_front_22 : decode cX11_front 22 = .ok (.iconst 1, 1) := by decide +kernel
theorem dX11_front_23 : decode cX11_front 23 = .ok (.invokevirtual 252, 3) := by decide +kernel
theorem dX11_front_26 : decode cX11_front 26 = .ok (.ireturn, 1) := by decide +kernel
theorem dX11_front_27 : decode cX11_front 27 = .ok (.aload_n 0, 1) := by decide +kernel
theorem dX11_front_28 : decode cX11_front 28 = .ok (.invokevirtual 406, 3) := by decide +kernel
theorem dX11_front_31 : decode cX11_front 31 = .ok (.iload_n 1, 1) := by decide +kernel
theorem dX11_front_32 : decode cX11_front 32 = .ok (.iconst 0, 1) := by decide +kernel
theorem dX11_front_33 : decode cX11_front 33 = .ok (.aload_n 0, 1) := by decide +kernel
theorem dX11_front_34 : decode cX11_front 34 = .ok (.getfield 403, 3) := by decide +kernel
theorem dX11_front_37 : decode cX11_front 37 = .ok (.iconst 1, 1) := by decide +kernel
theorem dX11_front_38 : decode cX11_front 38 = .ok (.isub, 1) := by decide +kernel
theorem dX11_front_39 : decode cX11_front 39 = .ok (.invokestatic 117, 3) := by decide +kernel
theorem dX11_front_42 : decode cX11_front 42 = .ok (.ifCond .ne 9, 3) := by decide +kernel
theorem dX11_front_45 : decode cX11_front 45 = .ok (.aload_n 0, 1) := by decide +kernel
theorem dX11_front_46 : decode cX11_front 46 = .ok (.iconst 1, 1) := by decide +kernel
theorem dX11_front_47 : decode cX11_front 47 = .ok (.invokevirtual 252, 3) := by decide +kernel
theorem dX11_front_50 : decode cX11_front 50 = .ok (.ireturn, 1) := by decide +kernel
theorem dX11_front_51 : decode cX11_front 51 = .ok (.iload_n 2, 1) := by decide +kernel
theorem dX11_front_52 : decode cX11_front 52 = .ok (.ifCond .ne 14, 3) := by decide +kernel
theorem dX11_front_55 : decode cX11_front 55 = .ok (.aload_n 0, 1) := by decide +kernel
theorem dX11_front_56 : decode cX11_front 56 = .ok (.aload_n 0, 1) := by decide +kernel
theorem dX11_front_57 : decode cX11_front 57 = .ok (.getfield 64, 3) := by decide +kernel
theorem dX11_front_60 : decode cX11_front 60 = .ok (.iload_n 1, 1) := by decide +kernel
theorem dX11_front_61 : decode cX11_front 61 = .ok (.iaload, 1) := by decide +kernel
theorem dX11_front_62 : decode cX11_front 62 = .ok (.invokevirtual 282, 3) := by decide +kernel
theorem dX11_front_65 : decode cX11_front 65 = .ok (.ireturn, 1) := by decide +kernel
theorem dX11_front_66 : decode cX11_front 66 = .ok (.aload_n 0, 1) := by decide +kernel
theorem dX11_front_67 : decode cX11_front 67 = .ok (.aload_n 0, 1) := by decide +kernel
theorem dX11_front_68 : decode cX11_front 68 = .ok (.getfield 61, 3) := by decide +kernel
theorem dX11_front_71 : decode cX11_front 71 = .ok (.iconst 3, 1) := by decide +kernel
theorem dX11_front_72 : decode cX11_front 72 = .ok (.aload_n 0, 1) := by decide +kernel
theorem dX11_front_73 : decode cX11_front 73 = .ok (.getfield 64, 3) := by decide +kernel
theorem dX11_front_76 : decode cX11_front 76 = .ok (.iload_n 1, 1) := by decide +kernel
theorem dX11_front_77 : decode cX11_front 77 = .ok (.iaload, 1) := by decide +kernel
theorem dX11_front_78 : decode cX11_front 78 = .ok (.imul, 1) := by decide +kernel
theorem dX11_front_79 : decode cX11_front 79 = .ok (.invokevirtual 392, 3) := by decide +kernel
theorem dX11_front_82 : decode cX11_front 82 = .ok (.iload_n 2, 1) := by decide +kernel
theorem dX11_front_83 : decode cX11_front 83 = .ok (.iconst 1, 1) := by decide +kernel
theorem dX11_front_84 : decode cX11_front 84 = .ok (.if_icmp .le 31, 3) := by decide +kernel
theorem dX11_front_87 : decode cX11_front 87 = .ok (.aload_n 0, 1) := by decide +kernel
theorem dX11_front_88 : decode cX11_front 88 = .ok (.iload_n 2, 1) := by decide +kernel
theorem dX11_front_89 : decode cX11_front 89 = .ok (.iconst 2, 1) := by decide +kernel
theorem dX11_front_90 : decode cX11_front 90 = .ok (.isub, 1) := by decide +kernel
theorem dX11_front_91 : decode cX11_front 91 = .ok (.aload_n 0, 1) := by decide +kernel
theorem dX11_front_92 : decode cX11_front 92 = .ok (.getfield 270, 3) := by decide +kernel
theorem dX11_front_95 : decode cX11_front 95 = .ok (.if_icmp .ge 14, 3) := by decide +kernel
theorem dX11_front_98 : decode cX11_front 98 = .ok (.aload_n 0, 1) := by decide +kernel
theorem dX11_front_99 : decode cX11_front 99 = .ok (.getfield 40, 3) := by decide +kernel
theorem dX11_front_102 : decode cX11_front 102 = .ok (.iload_n 2, 1) := by decide +kernel
theorem dX11_front_103 : decode cX11_front 103 = .ok (.iconst 2, 1) := by decide +kernel
theorem dX11_front_104 : decode cX11_front 104 = .ok (.isub, 1) := by decide +kernel
theorem dX11_front_105 : decode cX11_front 105 = .ok (.iaload, 1) := by decide +kernel
theorem dX11_front_106 : decode cX11_front 106 = .ok (.goto 5, 3) := by decide +kernel
theorem dX11_front_109 : decode cX11_front 109 = .ok (.bipush (-2), 2) := by decide +kernel
theorem dX11_front_111 : decode cX11_front 111 = .ok (.invokevirtual 282, 3) := by decide +kernel
theorem dX11_front_114 : decode cX11_front 114 = .ok (.ireturn, 1) := by decide +kernel
theorem dX11_front_115 : decode cX11_front 115 = .ok (.aload_n 0, 1) := by decide +kernel
theorem dX11_front_116 : decode cX11_front 116 = .ok (.invokevirtual 330, 3) := by decide +kernel
theorem dX11_front_119 : decode cX11_front 119 = .ok (.aload_n 0, 1) := by decide +kernel
theorem dX11_front_120 : decode cX11_front 120 = .ok (.aload_n 0, 1) := by decide +kernel
theorem dX11_front_121 : decode cX11_front 121 = .ok (.invokevirtual 343, 3) := by decide +kernel
theorem dX11_front_124 : decode cX11_front 124 = .ok (.invokevirtual 282, 3) := by decide +kernel
theorem dX11_front_127 : decode cX11_front 127 = .ok (.ireturn, 1) := by decide +kernel
theorem dX11_beaten_0 : decode cX11_beaten 0 = .ok (.aload_n 0, 1) := by decide +kernel
theorem dX11_beaten_1 : decode cX11_beaten 1 = .ok (.iconst 0, 1) := by decide +kernel
theorem dX11_beaten_2 : decode cX11_beaten 2 = .ok (.putfield 92, 3) := by decide +kernel
theorem dX11_beaten_5 : decode cX11_beaten 5 = .ok (.aload_n 0, 1) := by decide +kernel
theorem dX11_beaten_6 : decode cX11_beaten 6 = .ok (.getfield 258, 3) := by decide +kernel
theorem dX11_beaten_9 : decode cX11_beaten 9 = .ok (.ifCond .ne 9, 3) := by decide +kernel
theorem dX11_beaten_12 : decode cX11_beaten 12 = .ok (.aload_n 0, 1) := by decide +kernel
theorem dX11_beaten_13 : decode cX11_beaten 13 = .ok (.iconst 1, 1) := by decide +kernel
theorem dX11_beaten_14 : decode cX11_beaten 14 = .ok (.invokevirtual 252, 3) := by decide +kernel
theorem dX11_beaten_17 : decode cX11_beaten 17 = .ok (.ireturn, 1) := by decide +kernel
theorem dX11_beaten_18 : decode cX11_beaten 18 = .ok (.aload_n 0, 1) := by decide +kernel
theorem dX11_beaten_19 : decode cX11_beaten 19 = .ok (.invokevirtual 406, 3) := by decide +kernel
theorem dX11_beaten_22 : decode cX11_beaten 22 = .ok (.aload_n 0, 1) := by decide +kernel
theorem dX11_beaten_23 : decode cX11_beaten 23 = .ok (.invokevirtual 304, 3) := by decide +kernel
theorem dX11_beaten_26 : decode cX11_beaten 26 = .ok (.aload_n 0, 1) := by decide +kernel
theorem dX11_beaten_27 : decode cX11_beaten 27 = .ok (.aload_n 0, 1) := by decide +kernel
theorem dX11_beaten_28 : decode cX11_beaten 28 = .ok (.getfield 67, 3) := by decide +kernel
theorem dX11_beaten_31 : decode cX11_beaten 31 = .ok (.iconst 0, 1) := by decide +kernel
theorem dX11_beaten_32 : decode cX11_beaten 32 = .ok (.invokevirtual 396, 3) := by decide +kernel
theorem dX11_beaten_35 : decode cX11_beaten 35 = .ok (.aload_n 0, 1) := by decide +kernel
theorem dX11_beaten_36 : decode cX11_beaten 36 = .ok (.iconst 0, 1) := by decide +kernel
theorem dX11_beaten_37 : decode cX11_beaten 37 = .ok (.invokevirtual 291, 3) := by decide +kernel
theorem dX11_beaten_40 : decode cX11_beaten 40 = .ok (.istore_n 1, 1) := by decide +kernel
theorem dX11_beaten_41 : decode cX11_beaten 41 = .ok (.iconst 0, 1) := by decide +kernel
theorem dX11_beaten_42 : decode cX11_beaten 42 = .ok (.istore_n 2, 1) := by decide +kernel
theorem dX11_beaten_43 : decode cX11_beaten 43 = .ok (.iconst 0, 1) := by decide +kernel
theorem dX11_beaten_44 : decode cX11_beaten 44 = .ok (.istore_n 3, 1) := by decide +kernel
theorem dX11_beaten_45 : decode cX11_beaten 45 = .ok (.iload_n 3, 1) := by decide +kernel
theorem dX11_beaten_46 : decode cX11_beaten 46 = .ok (.aload_n 0, 1) := by decide +kernel
theorem dX11_beaten_47 : decode cX11_beaten 47 = .ok (.getfield 403, 3) := by decide +kernel
theorem dX11_beaten_50 : decode cX11_beaten 50 = .ok (.if_icmp .ge 72, 3) := by decide +kernel
theorem dX11_beaten_53 : decode cX11_beaten 53 = .ok (.aload_n 0, 1) := by decide +kernel
theorem dX11_beaten_54 : decode cX11_beaten 54 = .ok (.getfield 64, 3) := by decide +kernel
theorem dX11_beaten_57 : decode cX11_beaten 57 = .ok (.iload_n 3, 1) := by decide +kernel
theorem dX11_beaten_58 : decode cX11_beaten 58 = .ok (.iaload, 1) := by decide +kernel
theorem dX11_beaten_59 : decode cX11_beaten 59 = .ok (.iload_n 1, 1) := by decide +kernel
theorem dX11_beaten_60 : decode cX11_beaten 60 = .ok (.if_icmp .gt 62, 3) := by decide +kernel
theorem dX11_beaten_63 : decode cX11_beaten 63 = .ok (.aload_n 0, 1) := by decide +kernel
theorem dX11_beaten_64 : decode cX11_beaten 64 = .ok (.aload_n 0, 1) := by decide +kernel
theorem dX11_beaten_65 : decode cX11_beaten 65 = .ok (.getfield 61, 3) := by decide +kernel
theorem dX11_beaten_68 : decode cX11_beaten 68 = .ok (.iconst 3, 1) := by decide +kernel
theorem dX11_beaten_69 : decode cX11_beaten 69 = .ok (.aload_n 0, 1) := by decide +kernel
theorem dX11_beaten_70 : decode cX11_beaten 70 = .ok (.getfield 64, 3) := by decide +kernel
theorem dX11_beaten_73 : decode cX11_beaten 73 = .ok (.iload_n 3, 1) := by decide +kernel
theorem dX11_beaten_74 : decode cX11_beaten 74 = .ok (.iaload, 1) := by decide +kernel
theorem dX11_beaten_75 : decode cX11_beaten 75 = .ok (.imul, 1) := by decide +kernel
theorem dX11_beaten_76 : decode cX11_beaten 76 = .ok (.aload_n 0, 1) := by decide +kernel
theorem dX11_beaten_77 : decode cX11_beaten 77 = .ok (.getfield 67, 3) := by decide +kernel
theorem dX11_beaten_80 : decode cX11_beaten 80 = .ok (.iconst 0, 1) := by decide +kernel
theorem dX11_beaten_81 : decode cX11_beaten 81 = .ok (.invokevirtual 399, 3) := by decide +kernel
theorem dX11_beaten_84 : decode cX11_beaten 84 = .ok (.istore 4, 2) := by decide +kernel
theorem dX11_beaten_86 : decode cX11_beaten 86 = .ok (.iload_n 2, 1) := by decide +kernel
theorem dX11_beaten_87 : decode cX11_beaten 87 = .ok (.ifCond .ne 23, 3) := by decide +kernel
theorem dX11_beaten_90 : decode cX11_beaten 90 = .ok (.iload 4, 2) := by decide +kernel
theorem dX11_beaten_92 : decode cX11_beaten 92 = .ok (.ifCond .gt 18, 3) := by decide +kernel
theorem dX11_beaten_95 : decode cX11_beaten 95 = .ok (.iload 4, 2) := by decide +kernel
theorem dX11_beaten_97 : decode cX11_beaten 97 = .ok (.ifCond .ne 17, 3) := by decide +kernel
theorem dX11_beaten_100 : decode cX11_beaten 100 = .ok (.aload_n 0, 1) := by decide +kernel
theorem dX11_beaten_101 : decode cX11_beaten 101 = .ok (.getfield 64, 3) := by decide +kernel
theorem dX11_beaten_104 : decode cX11_beaten 104 = .ok (.iload_n 3, 1) := by decide +kernel
theorem dX11_beaten_105 : decode cX11_beaten 105 = .ok (.iaload, 1) := by decide +kernel
theorem dX11_beaten_106 : decode cX11_beaten 106 = .ok (.iload_n 1, 1) := by decide +kernel
theorem dX11_beaten_107 : decode cX11_beaten 107 = .ok (.if_icmp .ge 7, 3) := by decide +kernel
theorem dX11_beaten_110 : decode cX11_beaten 110 = .ok (.iconst 1, 1) := by decide +kernel
theorem dX11_beaten_111 : decode cX11_beaten 111 = .ok (.goto 4, 3) := by decide +kernel
theorem dX11_beaten_114 : decode cX11_beaten 114 = .ok (.iconst 0, 1) := by decide +kernel
theorem dX11_beaten_115 : decode cX11_beaten 115 = .ok (.istore_n 2, 1) := by decide +kernel
theorem dX11_beaten_116 : decode cX11_beaten 116 = .ok (.iinc 3 1, 3) := by decide +kernel
theorem dX11_beaten_119 : decode cX11_beaten 119 = .ok (.goto (-74), 3) := by decide +kernel
theorem dX11_beaten_122 : decode cX11_beaten 122 = .ok (.aload_n 0, 1) := by decide +kernel
theorem dX11_beaten_123 : decode cX11_beaten 123 = .ok (.iload_n 2, 1) := by decide +kernel
theorem dX11_beaten_124 : decode cX11_beaten 124 = .ok (.ifCond .eq 7, 3) := by decide +kernel
theorem dX11_beaten_127 : decode cX11_beaten 127 = .ok (.iconst 1, 1) := by decide +kernel
theorem dX11_beaten_128 : decode cX11_beaten 128 = .ok (.goto 4, 3) := by decide +kernel
theorem dX11_beaten_131 : decode cX11_beaten 131 = .ok (.iconst 0, 1) := by decide +kernel
theorem dX11_beaten_132 : decode cX11_beaten 132 = .ok (.invokevirtual 282, 3) := by decide +kernel
theorem dX11_beaten_135 : decode cX11_beaten 135 = .ok (.ireturn, 1) := by decide +kernel
theorem dX11_box_0 : decode cX11_box 0 = .ok (.aload_n 0, 1) := by decide +kernel
theorem dX11_box_1 : decode cX11_box 1 = .ok (.iconst 0, 1) := by decide +kernel
theorem dX11_box_2 : decode cX11_box 2 = .ok (.putfield 92, 3) := by decide +kernel
theorem dX11_box_5 : decode cX11_box 5 = .ok (.aload_n 0, 1) := by decide +kernel
theorem dX11_box_6 : decode cX11_box 6 = .ok (.iload_n 1, 1) := by decide +kernel
theorem dX11_box_7 : decode cX11_box 7 = .ok (.invokevirtual 301, 3) := by decide +kernel
theorem dX11_box_10 : decode cX11_box 10 = .ok (.ifCond .eq 27, 3) := by decide +kernel
theorem dX11_box_13 : decode cX11_box 13 = .ok (.aload_n 0, 1) := by decide +kernel
theorem dX11_box_14 : decode cX11_box 14 = .ok (.aload_n 0, 1) := by decide +kernel
theorem dX11_box_15 : decode cX11_box 15 = .ok (.getfield 30, 3) := by decide +kernel
theorem dX11_box_18 : decode cX11_box 18 = .ok (.iload_n 2, 1) := by decide +kernel
theorem dX11_box_19 : decode cX11_box 19 = .ok (.ifCond .eq 8, 3) := by decide +kernel
theorem dX11_box_22 : decode cX11_box 22 = .ok (.bipush 8, 2) := by decide +kernel
theorem dX11_box_24 : decode cX11_box 24 = .ok (.goto 4, 3) := by decide +kernel
theorem dX11_box_27 : decode cX11_box 27 = .ok (.iconst 5, 1) := by decide +kernel
theorem dX11_box_28 : decode cX11_box 28 = .ok (.iload_n 1, 1) := by decide +kernel
theorem dX11_box_29 : decode cX11_box 29 = .ok (.iadd, 1) := by decide +kernel
theorem dX11_box_30 : decode cX11_box 30 = .ok (.iaload, 1) := by decide +kernel
theorem dX11_box_31 : decode cX11_box 31 = .ok (.invokevirtual 282, 3) := by decide +kernel
theorem dX11_box_34 : decode cX11_box 34 = .ok (.goto 8, 3) := by decide +kernel
theorem dX11_box_37 : decode cX11_box 37 = .ok (.aload_n 0, 1) := by decide +kernel
theorem dX11_box_38 : decode cX11_box 38 = .ok (.iconst 1, 1) := by decide +kernel
theorem dX11_box_39 : decode cX11_box 39 = .ok (.invokevirtual 252, 3) := by decide +kernel
theorem dX11_box_42 : decode cX11_box 42 = .ok (.ireturn, 1) := by decide +kernel
theorem dX11_failsIn_0 : decode cX11_failsIn 0 = .ok (.iload_n 1, 1) := by decide +kernel
theorem dX11_failsIn_1 : decode cX11_failsIn 1 = .ok (.iload_n 3, 1) := by decide +kernel
theorem dX11_failsIn_2 : decode cX11_failsIn 2 = .ok (.if_icmp .ne 13, 3) := by decide +kernel
theorem dX11_failsIn_5 : decode cX11_failsIn 5 = .ok (.iload_n 2, 1) := by decide +kernel
theorem dX11_failsIn_6 : decode cX11_failsIn 6 = .ok (.iload 4, 2) := by decide +kernel
theorem dX11_failsIn_8 : decode cX11_failsIn 8 = .ok (.if_icmp .ne 7, 3) := by decide +kernel
theorem dX11_failsIn_11 : decode cX11_failsIn 11 = .ok (.iconst 1, 1) := by decide +kernel
theorem dX11_failsIn_12 : decode cX11_failsIn 12 = .ok (.goto 4, 3) := by decide +kernel
theorem dX11_failsIn_15 : decode cX11_failsIn 15 = .ok (.iconst 0, 1) := by decide +kernel
theorem dX11_failsIn_16 : decode cX11_failsIn 16 = .ok (.istore 5, 2) := by decide +kernel
theorem dX11_failsIn_18 : decode cX11_failsIn 18 = .ok (.iconst 0, 1) := by decide +kernel
theorem dX11_failsIn_19 : decode cX11_failsIn 19 = .ok (.istore 6, 2) := by decide +kernel
theorem dX11_failsIn_21 : decode cX11_failsIn 21 = .ok (.iload 6, 2) := by decide +kernel
theorem dX11_failsIn_23 : decode cX11_failsIn 23 = .ok (.aload_n 0, 1) := by decide +kernel
theorem dX11_failsIn_24 : decode cX11_failsIn 24 = .ok (.getfield 273, 3) := by decide +kernel
theorem dX11_failsIn_27 : decode cX11_failsIn 27 = .ok (.if_icmp .ge 53, 3) := by decide +kernel
theorem dX11_failsIn_30 : decode cX11_failsIn 30 = .ok (.aload_n 0, 1) := by decide +kernel
theorem dX11_failsIn_31 : decode cX11_failsIn 31 = .ok (.getfield 17, 3) := by decide +kernel
theorem dX11_failsIn_34 : decode cX11_failsIn 34 = .ok (.iconst 3, 1) := by decide +kernel
theorem dX11_failsIn_35 : decode cX11_failsIn 35 = .ok (.iload 6, 2) := by decide +kernel
theorem dX11_failsIn_37 : decode cX11_failsIn 37 = .ok (.imul, 1) := by decide +kernel
theorem dX11_failsIn_38 : decode cX11_failsIn 38 = .ok (.iaload, 1) := by decide +kernel
theorem dX11_failsIn_39 : decode cX11_failsIn 39 = .ok (.iload_n 1, 1) := by decide +kernel
theorem dX11_failsIn_40 : decode cX11_failsIn 40 = .ok (.if_icmp .ne 34, 3) := by decide +kernel
theorem dX11_failsIn_43 : decode cX11_failsIn 43 = .ok (.aload_n 0, 1) := by decide +kernel
theorem dX11_failsIn_44 : decode cX11_failsIn 44 = .ok (.getfield 17, 3) := by decide +kernel
theorem dX11_failsIn_47 : decode cX11_failsIn 47 = .ok (.iconst 3, 1) := by decide +kernel
theorem dX11_failsIn_48 : decode cX11_failsIn 48 = .ok (.iload 6, 2) := by decide +kernel
theorem dX11_failsIn_50 : decode cX11_failsIn 50 = .ok (.imul, 1) := by decide +kernel
theorem dX11_failsIn_51 : decode cX11_failsIn 51 = .ok (.iconst 1, 1) := by decide +kernel
theorem dX11_failsIn_52 : decode cX11_failsIn 52 = .ok (.iadd, 1) := by decide +kernel
theorem dX11_failsIn_53 : decode cX11_failsIn 53 = .ok (.iaload, 1) := by decide +kernel
theorem dX11_failsIn_54 : decode cX11_failsIn 54 = .ok (.iload_n 2, 1) := by decide +kernel
theorem dX11_failsIn_55 : decode cX11_failsIn 55 = .ok (.if_icmp .ne 19, 3) := by decide +kernel
theorem dX11_failsIn_58 : decode cX11_failsIn 58 = .ok (.iload 5, 2) := by decide +kernel
theorem dX11_failsIn_60 : decode cX11_failsIn 60 = .ok (.aload_n 0, 1) := by decide +kernel
theorem dX11_failsIn_61 : decode cX11_failsIn 61 = .ok (.getfield 17, 3) := by decide +kernel
theorem dX11_failsIn_64 : decode cX11_failsIn 64 = .ok (.iconst 3, 1) := by decide +kernel
theorem dX11_failsIn_65 : decode cX11_failsIn 65 = .ok (.iload 6, 2) := by decide +kernel
theorem dX11_failsIn_67 : decode cX11_failsIn 67 = .ok (.imul, 1) := by decide +kernel
theorem dX11_failsIn_68 : decode cX11_failsIn 68 = .ok (.iconst 2, 1) := by decide +kernel
theorem dX11_failsIn_69 : decode cX11_failsIn 69 = .ok (.iadd, 1) := by decide +kernel
theorem dX11_failsIn_70 : decode cX11_failsIn 70 = .ok (.iaload, 1) := by decide +kernel
theorem dX11_failsIn_71 : decode cX11_failsIn 71 = .ok (.iadd, 1) := by decide +kernel
theorem dX11_failsIn_72 : decode cX11_failsIn 72 = .ok (.istore 5, 2) := by decide +kernel
theorem dX11_failsIn_74 : decode cX11_failsIn 74 = .ok (.iinc 6 1, 3) := by decide +kernel
theorem dX11_failsIn_77 : decode cX11_failsIn 77 = .ok (.goto (-56), 3) := by decide +kernel
theorem dX11_failsIn_80 : decode cX11_failsIn 80 = .ok (.aload_n 0, 1) := by decide +kernel
theorem dX11_failsIn_81 : decode cX11_failsIn 81 = .ok (.iload_n 1, 1) := by decide +kernel
theorem dX11_failsIn_82 : decode cX11_failsIn 82 = .ok (.iconst 0, 1) := by decide +kernel
theorem dX11_failsIn_83 : decode cX11_failsIn 83 = .ok (.invokevirtual 279, 3) := by decide +kernel
theorem dX11_failsIn_86 : decode cX11_failsIn 86 = .ok (.iconst 2, 1) := by decide +kernel
theorem dX11_failsIn_87 : decode cX11_failsIn 87 = .ok (.if_icmp .ne 7, 3) := by decide +kernel
theorem dX11_failsIn_90 : decode cX11_failsIn 90 = .ok (.iconst 0, 1) := by decide +kernel
theorem dX11_failsIn_91 : decode cX11_failsIn 91 = .ok (.goto 5, 3) := by decide +kernel
theorem dX11_failsIn_94 : decode cX11_failsIn 94 = .ok (.iload 5, 2) := by decide +kernel
theorem dX11_failsIn_96 : decode cX11_failsIn 96 = .ok (.ireturn, 1) := by decide +kernel
theorem dX11_flies_0 : decode cX11_flies 0 = .ok (.aload_n 0, 1) := by decide +kernel
theorem dX11_flies_1 : decode cX11_flies 1 = .ok (.invokevirtual 304, 3) := by decide +kernel
theorem dX11_flies_4 : decode cX11_flies 4 = .ok (.aload_n 0, 1) := by decide +kernel
theorem dX11_flies_5 : decode cX11_flies 5 = .ok (.iconst 0, 1) := by decide +kernel
theorem dX11_flies_6 : decode cX11_flies 6 = .ok (.putfield 409, 3) := by decide +kernel
theorem dX11_flies_9 : decode cX11_flies 9 = .ok (.aload_n 0, 1) := by decide +kernel
theorem dX11_flies_10 : decode cX11_flies 10 = .ok (.iconst 0, 1) := by decide +kernel
theorem dX11_flies_11 : decode cX11_flies 11 = .ok (.putfield 412, 3) := by decide +kernel
theorem dX11_flies_14 : decode cX11_flies 14 = .ok (.aload_n 0, 1) := by decide +kernel
theorem dX11_flies_15 : decode cX11_flies 15 = .ok (.iconst 0, 1) := by decide +kernel
theorem dX11_flies_16 : decode cX11_flies 16 = .ok (.putfield 415, 3) := by decide +kernel
theorem dX11_flies_19 : decode cX11_flies 19 = .ok (.aload_n 0, 1) := by decide +kernel
theorem dX11_flies_20 : decode cX11_flies 20 = .ok (.iconst 0, 1) := by decide +kernel
theorem dX11_flies_21 : decode cX11_flies 21 = .ok (.invokevirtual 291, 3) := by decide +kernel
theorem dX11_flies_24 : decode cX11_flies 24 = .ok (.istore_n 3, 1) := by decide +kernel
theorem dX11_flies_25 : decode cX11_flies 25 = .ok (.iconst 0, 1) := by decide +kernel
theorem dX11_flies_26 : decode cX11_flies 26 = .ok (.istore 4, 2) := by decide +kernel
theorem dX11_flies_28 : decode cX11_flies 28 = .ok (.iload 4, 2) := by decide +kernel
theorem dX11_flies_30 : decode cX11_flies 30 = .ok (.aload_n 0, 1) := by decide +kernel
theorem dX11_flies_31 : decode cX11_flies 31 = .ok (.getfield 270, 3) := by decide +kernel
theorem dX11_flies_34 : decode cX11_flies 34 = .ok (.if_icmp .ge 250, 3) := by decide +kernel
theorem dX11_flies_37 : decode cX11_flies 37 = .ok (.aload_n 0, 1) := by decide +kernel
theorem dX11_flies_38 : decode cX11_flies 38 = .ok (.getfield 40, 3) := by decide +kernel
theorem dX11_flies_41 : decode cX11_flies 41 = .ok (.iload 4, 2) := by decide +kernel
theorem dX11_flies_43 : decode cX11_flies 43 = .ok (.iaload, 1) := by decide +kernel
theorem dX11_flies_44 : decode cX11_flies 44 = .ok (.istore 5, 2) := by decide +kernel
theorem dX11_flies_46 : decode cX11_flies 46 = .ok (.aload_n 0, 1) := by decide +kernel
theorem dX11_flies_47 : decode cX11_flies 47 = .ok (.iload 4, 2) := by decide +kernel
theorem dX11_flies_49 : decode cX11_flies 49 = .ok (.iconst 4, 1) := by decide +kernel
theorem dX11_flies_50 : decode cX11_flies 50 = .ok (.invokevirtual 279, 3) := by decide +kernel
theorem dX11_flies_53 : decode cX11_flies 53 = .ok (.istore 6, 2) := by decide +kernel
theorem dX11_flies_55 : decode cX11_flies 55 = .ok (.iconst 0, 1) := by decide +kernel
theorem dX11_flies_56 : decode cX11_flies 56 = .ok (.istore 7, 2) := by decide +kernel
theorem dX11_flies_58 : decode cX11_flies 58 = .ok (.iload 5, 2) := by decide +kernel
theorem dX11_flies_60 : decode cX11_flies 60 = .ok (.ifCond .le 188, 3) := by decide +kernel
theorem dX11_flies_63 : decode cX11_flies 63 = .ok (.iload 6, 2) := by decide +kernel
theorem dX11_flies_65 : decode cX11_flies 65 = .ok (.ifCond .le 183, 3) := by decide +kernel
theorem dX11_flies_68 : decode cX11_flies 68 = .ok (.iinc 7 1, 3) := by decide +kernel
theorem dX11_flies_71 : decode cX11_flies 71 = .ok (.aload_n 0, 1) := by decide +kernel
theorem dX11_flies_72 : decode cX11_flies 72 = .ok (.iload 4, 2) := by decide +kernel
theorem dX11_flies_74 : decode cX11_flies 74 = .ok (.iload 7, 2) := by decide +kernel
theorem dX11_flies_76 : decode cX11_flies 76 = .ok (.iload_n 1, 1) := by decide +kernel
theorem dX11_flies_77 : decode cX11_flies 77 = .ok (.iload_n 2, 1) := by decide +kernel
theorem dX11_flies_78 : decode cX11_flies 78 = .ok (.invokevirtual 418, 3) := by decide +kernel
theorem dX11_flies_81 : decode cX11_flies 81 = .ok (.istore 8, 2) := by decide +kernel
theorem dX11_flies_83 : decode cX11_flies 83 = .ok (.iload 8, 2) := by decide +kernel
theorem dX11_flies_85 : decode cX11_flies 85 = .ok (.iload 6, 2) := by decide +kernel
theorem dX11_flies_87 : decode cX11_flies 87 = .ok (.if_icmp .le 7, 3) := by decide +kernel
theorem dX11_flies_90 : decode cX11_flies 90 = .ok (.iload 6, 2) := by decide +kernel
theorem dX11_flies_92 : decode cX11_flies 92 = .ok (.istore 8, 2) := by decide +kernel
theorem dX11_flies_94 : decode cX11_flies 94 = .ok (.aload_n 0, 1) := by decide +kernel
theorem dX11_flies_95 : decode cX11_flies 95 = .ok (.dup, 1) := by decide +kernel
theorem dX11_flies_96 : decode cX11_flies 96 = .ok (.getfield 415, 3) := by decide +kernel
theorem dX11_flies_99 : decode cX11_flies 99 = .ok (.iload 8, 2) := by decide +kernel
theorem dX11_flies_101 : decode cX11_flies 101 = .ok (.iadd, 1) := by decide +kernel
theorem dX11_flies_102 : decode cX11_flies 102 = .ok (.putfield 415, 3) := by decide +kernel
theorem dX11_flies_105 : decode cX11_flies 105 = .ok (.iload 6, 2) := by decide +kernel
theorem dX11_flies_107 : decode cX11_flies 107 = .ok (.iload 8, 2) := by decide +kernel
theorem dX11_flies_109 : decode cX11_flies 109 = .ok (.isub, 1) := by decide +kernel
theorem dX11_flies_110 : decode cX11_flies 110 = .ok (.istore 6, 2) := by decide +kernel
theorem dX11_flies_112 : decode cX11_flies 112 = .ok (.iload 6, 2) := by decide +kernel
theorem dX11_flies_114 : decode cX11_flies 114 = .ok (.aload_n 0, 1) := by decide +kernel
theorem dX11_flies_115 : decode cX11_flies 115 = .ok (.iload 4, 2) := by decide +kernel
theorem dX11_flies_117 : decode cX11_flies 117 = .ok (.bipush 6, 2) := by decide +kernel
theorem dX11_flies_119 : decode cX11_flies 119 = .ok (.invokevirtual 279, 3) := by decide +kernel
theorem dX11_flies_122 : decode cX11_flies 122 = .ok (.imul, 1) := by decide +kernel
theorem dX11_flies_123 : decode cX11_flies 123 = .ok (.iload 5, 2) := by decide +kernel
theorem dX11_flies_125 : decode cX11_flies 125 = .ok (.if_icmp .ge 17, 3) := by decide +kernel
theorem dX11_flies_128 : decode cX11_flies 128 = .ok (.iload 6, 2) := by decide +kernel
theorem dX11_flies_130 : decode cX11_flies 130 = .ok (.aload_n 0, 1) := by decide +kernel
theorem dX11_flies_131 : decode cX11_flies 131 = .ok (.iload 4, 2) := by decide +kernel
theorem dX11_flies_133 : decode cX11_flies 133 = .ok (.bipush 6, 2) := by decide +kernel
theorem dX11_flies_135 : decode cX11_flies 135 = .ok (.invokevirtual 279, 3) := by decide +kernel
theorem dX11_flies_138 : decode cX11_flies 138 = .ok (.imul, 1) := by decide +kernel
theorem dX11_flies_139 : decode cX11_flies 139 = .ok (.goto 5, 3) := by decide +kernel
theorem dX11_flies_142 : decode cX11_flies 142 = .ok (.iload 5, 2) := by decide +kernel
theorem dX11_flies_144 : decode cX11_flies 144 = .ok (.istore 9, 2) := by decide +kernel
theorem dX11_flies_146 : decode cX11_flies 146 = .ok (.aload_n 0, 1) := by decide +kernel
theorem dX11_flies_147 : decode cX11_flies 147 = .ok (.getfield 74, 3) := by decide +kernel
theorem dX11_flies_150 : decode cX11_flies 150 = .ok (.aload_n 0, 1) := by decide +kernel
theorem dX11_flies_151 : decode cX11_flies 151 = .ok (.getfield 409, 3) := by decide +kernel
theorem dX11_flies_154 : decode cX11_flies 154 = .ok (.iload 4, 2) := by decide +kernel
theorem dX11_flies_156 : decode cX11_flies 156 = .ok (.iastore, 1) := by decide +kernel
theorem dX11_flies_157 : decode cX11_flies 157 = .ok (.aload_n 0, 1) := by decide +kernel
theorem dX11_flies_158 : decode cX11_flies 158 = .ok (.getfield 77, 3) := by decide +kernel
theorem dX11_flies_161 : decode cX11_flies 161 = .ok (.aload_n 0, 1) := by decide +kernel
theorem dX11_flies_162 : decode cX11_flies 162 = .ok (.getfield 409, 3) := by decide +kernel
theorem dX11_flies_165 : decode cX11_flies 165 = .ok (.iload 7, 2) := by decide +kernel
theorem dX11_flies_167 : decode cX11_flies 167 = .ok (.iastore, 1) := by decide +kernel
theorem dX11_flies_168 : decode cX11_flies 168 = .ok (.aload_n 0, 1) := by decide +kernel
theorem dX11_flies_169 : decode cX11_flies 169 = .ok (.getfield 80, 3) := by decide +kernel
theorem dX11_flies_172 : decode cX11_flies 172 = .ok (.aload_n 0, 1) := by decide +kernel
theorem dX11_flies_173 : decode cX11_flies 173 = .ok (.getfield 409, 3) := by decide +kernel
theorem dX11_flies_176 : decode cX11_flies 176 = .ok (.iload_n 3, 1) := by decide +kernel
theorem dX11_flies_177 : decode cX11_flies 177 = .ok (.iastore, 1) := by decide +kernel
theorem dX11_flies_178 : decode cX11_flies 178 = .ok (.aload_n 0, 1) := by decide +kernel
theorem dX11_flies_179 : decode cX11_flies 179 = .ok (.getfield 86, 3) := by decide +kernel
theorem dX11_flies_182 : decode cX11_flies 182 = .ok (.aload_n 0, 1) := by decide +kernel
theorem dX11_flies_183 : decode cX11_flies 183 = .ok (.getfield 409, 3) := by decide +kernel
theorem dX11_flies_186 : decode cX11_flies 186 = .ok (.iload 6, 2) := by decide +kernel
theorem dX11_flies_188 : decode cX11_flies 188 = .ok (.iastore, 1) := by decide +kernel
theorem dX11_flies_189 : decode cX11_flies 189 = .ok (.aload_n 0, 1) := by decide +kernel
theorem dX11_flies_190 : decode cX11_flies 190 = .ok (.getfield 89, 3) := by decide +kernel
theorem dX11_flies_193 : decode cX11_flies 193 = .ok (.aload_n 0, 1) := by decide +kernel
theorem dX11_flies_194 : decode cX11_flies 194 = .ok (.getfield 409, 3) := by decide +kernel
theorem dX11_flies_197 : decode cX11_flies 197 = .ok (.bipush 100, 2) := by decide +kernel
theorem dX11_flies_199 : decode cX11_flies 199 = .ok (.aload_n 0, 1) := by decide +kernel
theorem dX11_flies_200 : decode cX11_flies 200 = .ok (.iload 4, 2) := by decide +kernel
theorem dX11_flies_202 : decode cX11_flies 202 = .ok (.iconst 5, 1) := by decide +kernel
theorem dX11_flies_203 : decode cX11_flies 203 = .ok (.invokevirtual 279, 3) := by decide +kernel
theorem dX11_flies_206 : decode cX11_flies 206 = .ok (.imul, 1) := by decide +kernel
theorem dX11_flies_207 : decode cX11_flies 207 = .ok (.iload 6, 2) := by decide +kernel
theorem dX11_flies_209 : decode cX11_flies 209 = .ok (.imul, 1) := by decide +kernel
theorem dX11_flies_210 : decode cX11_flies 210 = .ok (.iload_n 3, 1) := by decide +kernel
theorem dX11_flies_211 : decode cX11_flies 211 = .ok (.idiv, 1) := by decide +kernel
theorem dX11_flies_212 : decode cX11_flies 212 = .ok (.iastore, 1) := by decide +kernel
theorem dX11_flies_213 : decode cX11_flies 213 = .ok (.iload_n 3, 1) := by decide +kernel
theorem dX11_flies_214 : decode cX11_flies 214 = .ok (.iload 9, 2) := by decide +kernel
theorem dX11_flies_216 : decode cX11_flies 216 = .ok (.isub, 1) := by decide +kernel
theorem dX11_flies_217 : decode cX11_flies 217 = .ok (.istore_n 3, 1) := by decide +kernel
theorem dX11_flies_218 : decode cX11_flies 218 = .ok (.iload 5, 2) := by decide +kernel
theorem dX11_flies_220 : decode cX11_flies 220 = .ok (.iload 9, 2) := by decide +kernel
theorem dX11_flies_222 : decode cX11_flies 222 = .ok (.isub, 1) := by decide +kernel
theorem dX11_flies_223 : decode cX11_flies 223 = .ok (.istore 5, 2) := by decide +kernel
theorem dX11_flies_225 : decode cX11_flies 225 = .ok (.aload_n 0, 1) := by decide +kernel
theorem dX11_flies_226 : decode cX11_flies 226 = .ok (.getfield 83, 3) := by decide +kernel
theorem dX11_flies_229 : decode cX11_flies 229 = .ok (.aload_n 0, 1) := by decide +kernel
theorem dX11_flies_230 : decode cX11_flies 230 = .ok (.getfield 409, 3) := by decide +kernel
theorem dX11_flies_233 : decode cX11_flies 233 = .ok (.iload_n 3, 1) := by decide +kernel
theorem dX11_flies_234 : decode cX11_flies 234 = .ok (.iastore, 1) := by decide +kernel
theorem dX11_flies_235 : decode cX11_flies 235 = .ok (.aload_n 0, 1) := by decide +kernel
theorem dX11_flies_236 : decode cX11_flies 236 = .ok (.dup, 1) := by decide +kernel
theorem dX11_flies_237 : decode cX11_flies 237 = .ok (.getfield 409, 3) := by decide +kernel
theorem dX11_flies_240 : decode cX11_flies 240 = .ok (.iconst 1, 1) := by decide +kernel
theorem dX11_flies_241 : decode cX11_flies 241 = .ok (.iadd, 1) := by decide +kernel
theorem dX11_flies_242 : decode cX11_flies 242 = .ok (.putfield 409, 3) := by decide +kernel
theorem dX11_flies_245 : decode cX11_flies 245 = .ok (.goto (-187), 3) := by decide +kernel
theorem dX11_flies_248 : decode cX11_flies 248 = .ok (.aload_n 0, 1) := by decide +kernel
theorem dX11_flies_249 : decode cX11_flies 249 = .ok (.dup, 1) := by decide +kernel
theorem dX11_flies_250 : decode cX11_flies 250 = .ok (.getfield 412, 3) := by decide +kernel
theorem dX11_flies_253 : decode cX11_flies 253 = .ok (.iload 5, 2) := by decide +kernel
theorem dX11_flies_255 : decode cX11_flies 255 = .ok (.iadd, 1) := by decide +kernel
theorem dX11_flies_256 : decode cX11_flies 256 = .ok (.putfield 412, 3) := by decide +kernel
theorem dX11_flies_259 : decode cX11_flies 259 = .ok (.iload_n 3, 1) := by decide +kernel
theorem dX11_flies_260 : decode cX11_flies 260 = .ok (.iload 5, 2) := by decide +kernel
theorem dX11_flies_262 : decode cX11_flies 262 = .ok (.aload_n 0, 1) := by decide +kernel
theorem dX11_flies_263 : decode cX11_flies 263 = .ok (.iload 4, 2) := by decide +kernel
theorem dX11_flies_265 : decode cX11_flies 265 = .ok (.aload_n 0, 1) := by decide +kernel
theorem dX11_flies_266 : decode cX11_flies 266 = .ok (.getfield 40, 3) := by decide +kernel
theorem dX11_flies_269 : decode cX11_flies 269 = .ok (.iload 4, 2) := by decide +kernel
theorem dX11_flies_271 : decode cX11_flies 271 = .ok (.iaload, 1) := by decide +kernel
theorem dX11_flies_272 : decode cX11_flies 272 = .ok (.invokevirtual 288, 3) := by decide +kernel
theorem dX11_flies_275 : decode cX11_flies 275 = .ok (.iadd, 1) := by decide +kernel
theorem dX11_flies_276 : decode cX11_flies 276 = .ok (.isub, 1) := by decide +kernel
theorem dX11_flies_277 : decode cX11_flies 277 = .ok (.istore_n 3, 1) := by decide +kernel
theorem dX11_flies_278 : decode cX11_flies 278 = .ok (.iinc 4 1, 3) := by decide +kernel
theorem dX11_flies_281 : decode cX11_flies 281 = .ok (.goto (-253), 3) := by decide +kernel
theorem dX11_flies_284 : decode cX11_flies 284 = .ok (.return_, 1) := by decide +kernel
theorem dX11_laysFlown_0 : decode cX11_laysFlown 0 = .ok (.aload_n 0, 1) := by decide +kernel
theorem dX11_laysFlown_1 : decode cX11_laysFlown 1 = .ok (.invokevirtual 320, 3) := by decide +kernel
theorem dX11_laysFlown_4 : decode cX11_laysFlown 4 = .ok (.iconst 0, 1) := by decide +kernel
theorem dX11_laysFlown_5 : decode cX11_laysFlown 5 = .ok (.istore_n 1, 1) := by decide +kernel
theorem dX11_laysFlown_6 : decode cX11_laysFlown 6 = .ok (.iload_n 1, 1) := by decide +kernel
theorem dX11_laysFlown_7 : decode cX11_laysFlown 7 = .ok (.aload_n 0, 1) := by decide +kernel
theorem dX11_laysFlown_8 : decode cX11_laysFlown 8 = .ok (.getfield 409, 3) := by decide +kernel
theorem dX11_laysFlown_11 : decode cX11_laysFlown 11 = .ok (.if_icmp .ge 58, 3) := by decide +kernel
theorem dX11_laysFlown_14 : decode cX11_laysFlown 14 = .ok (.aload_n 0, 1) := by decide +kernel
theorem dX11_laysFlown_15 : decode cX11_laysFlown 15 = .ok (.aload_n 0, 1) := by decide +kernel
theorem dX11_laysFlown_16 : decode cX11_laysFlown 16 = .ok (.getfield 80, 3) := by decide +kernel
theorem dX11_laysFlown_19 : decode cX11_laysFlown 19 = .ok (.iload_n 1, 1) := by decide +kernel
theorem dX11_laysFlown_20 : decode cX11_laysFlown 20 = .ok (.iaload, 1) := by decide +kernel
theorem dX11_laysFlown_21 : decode cX11_laysFlown 21 = .ok (.aload_n 0, 1) := by decide +kernel
theorem dX11_laysFlown_22 : decode cX11_laysFlown 22 = .ok (.getfield 83, 3) := by decide +kernel
theorem dX11_laysFlown_25 : decode cX11_laysFlown 25 = .ok (.iload_n 1, 1) := by decide +kernel
theorem dX11_laysFlown_26 : decode cX11_laysFlown 26 = .ok (.iaload, 1) := by decide +kernel
theorem dX11_laysFlown_27 : decode cX11_laysFlown 27 = .ok (.aload_n 0, 1) := by decide +kernel
theorem dX11_laysFlown_28 : decode cX11_laysFlown 28 = .ok (.aload_n 0, 1) := by decide +kernel
theorem dX11_laysFlown_29 : decode cX11_laysFlown 29 = .ok (.getfield 74, 3) := by decide +kernel
theorem dX11_laysFlown_32 : decode cX11_laysFlown 32 = .ok (.iload_n 1, 1) := by decide +kernel
theorem dX11_laysFlown_33 : decode cX11_laysFlown 33 = .ok (.iaload, 1) := by decide +kernel
theorem dX11_laysFlown_34 : decode cX11_laysFlown 34 = .ok (.iconst 0, 1) := by decide +kernel
theorem dX11_laysFlown_35 : decode cX11_laysFlown 35 = .ok (.invokevirtual 279, 3) := by decide +kernel
theorem dX11_laysFlown_38 : decode cX11_laysFlown 38 = .ok (.invokevirtual 323, 3) := by decide +kernel
theorem dX11_laysFlown_41 : decode cX11_laysFlown 41 = .ok (.aload_n 0, 1) := by decide +kernel
theorem dX11_laysFlown_42 : decode cX11_laysFlown 42 = .ok (.getfield 268, 3) := by decide +kernel
theorem dX11_laysFlown_45 : decode cX11_laysFlown 45 = .ok (.ifCond .le 18, 3) := by decide +kernel
theorem dX11_laysFlown_48 : decode cX11_laysFlown 48 = .ok (.aload_n 0, 1) := by decide +kernel
theorem dX11_laysFlown_49 : decode cX11_laysFlown 49 = .ok (.aload_n 0, 1) := by decide +kernel
theorem dX11_laysFlown_50 : decode cX11_laysFlown 50 = .ok (.getfield 268, 3) := by decide +kernel
theorem dX11_laysFlown_53 : decode cX11_laysFlown 53 = .ok (.aload_n 0, 1) := by decide +kernel
theorem dX11_laysFlown_54 : decode cX11_laysFlown 54 = .ok (.getfield 268, 3) := by decide +kernel
theorem dX11_laysFlown_57 : decode cX11_laysFlown 57 = .ok (.iconst 1, 1) := by decide +kernel
theorem dX11_laysFlown_58 : decode cX11_laysFlown 58 = .ok (.iadd, 1) := by decide +kernel
theorem dX11_laysFlown_59 : decode cX11_laysFlown 59 = .ok (.iconst 1, 1) := by decide +kernel
theorem dX11_laysFlown_60 : decode cX11_laysFlown 60 = .ok (.invokevirtual 323, 3) := by decide +kernel
theorem dX11_laysFlown_63 : decode cX11_laysFlown 63 = .ok (.iinc 1 1, 3) := by decide +kernel
theorem dX11_laysFlown_66 : decode cX11_laysFlown 66 = .ok (.goto (-60), 3) := by decide +kernel
theorem dX11_laysFlown_69 : decode cX11_laysFlown 69 = .ok (.return_, 1) := by decide +kernel
theorem dX11_leastPushAt_0 : decode cX11_leastPushAt 0 = .ok (.iconst (-1), 1) := by decide +kernel
theorem dX11_leastPushAt_1 : decode cX11_leastPushAt 1 = .ok (.istore_n 1, 1) := by decide +kernel
theorem dX11_leastPushAt_2 : decode cX11_leastPushAt 2 = .ok (.iconst 0, 1) := by decide +kernel
theorem dX11_leastPushAt_3 : decode cX11_leastPushAt 3 = .ok (.istore_n 2, 1) := by decide +kernel
theorem dX11_leastPushAt_4 : decode cX11_leastPushAt 4 = .ok (.iload_n 2, 1) := by decide +kernel
theorem dX11_leastPushAt_5 : decode cX11_leastPushAt 5 = .ok (.aload_n 0, 1) := by decide +kernel
theorem dX11_leastPushAt_6 : decode cX11_leastPushAt 6 = .ok (.getfield 409, 3) := by decide +kernel
theorem dX11_leastPushAt_9 : decode cX11_leastPushAt 9 = .ok (.if_icmp .ge 31, 3) := by decide +kernel
theorem dX11_leastPushAt_12 : decode cX11_leastPushAt 12 = .ok (.iload_n 1, 1) := by decide +kernel
theorem dX11_leastPushAt_13 : decode cX11_leastPushAt 13 = .ok (.iconst (-1), 1) := by decide +kernel
theorem dX11_leastPushAt_14 : decode cX11_leastPushAt 14 = .ok (.if_icmp .eq 18, 3) := by decide +kernel
theorem dX11_leastPushAt_17 : decode cX11_leastPushAt 17 = .ok (.aload_n 0, 1) := by decide +kernel
theorem dX11_leastPushAt_18 : decode cX11_leastPushAt 18 = .ok (.getfield 89, 3) := by decide +kernel
theorem dX11_leastPushAt_21 : decode cX11_leastPushAt 21 = .ok (.iload_n 2, 1) := by decide +kernel
theorem dX11_leastPushAt_22 : decode cX11_leastPushAt 22 = .ok (.iaload, 1) := by decide +kernel
theorem dX11_leastPushAt_23 : decode cX11_leastPushAt 23 = .ok (.aload_n 0, 1) := by decide +kernel
theorem dX11_leastPushAt_24 : decode cX11_leastPushAt 24 = .ok (.getfield 89, 3) := by decide +kernel
theorem dX11_leastPushAt_27 : decode cX11_leastPushAt 27 = .ok (.iload_n 1, 1) := by decide +kernel
theorem dX11_leastPushAt_28 : decode cX11_leastPushAt 28 = .ok (.iaload, 1) := by decide +kernel
theorem dX11_leastPushAt_29 : decode cX11_leastPushAt 29 = .ok (.if_icmp .ge 5, 3) := by decide +kernel
theorem dX11_leastPushAt_32 : decode cX11_leastPushAt 32 = .ok (.iload_n 2, 1) := by decide +kernel
theorem dX11_leastPushAt_33 : decode cX11_leastPushAt 33 = .ok (.istore_n 1, 1) := by decide +kernel
theorem dX11_leastPushAt_34 : decode cX11_leastPushAt 34 = .ok (.iinc 2 1, 3) := by decide +kernel
theorem dX11_leastPushAt_37 : decode cX11_leastPushAt 37 = .ok (.goto (-33), 3) := by decide +kernel
theorem dX11_leastPushAt_40 : decode cX11_leastPushAt 40 = .ok (.iload_n 1, 1) := by decide +kernel
theorem dX11_leastPushAt_41 : decode cX11_leastPushAt 41 = .ok (.ireturn, 1) := by decide +kernel
theorem dX11_flight_0 : decode cX11_flight 0 = .ok (.aload_n 0, 1) := by decide +kernel
theorem dX11_flight_1 : decode cX11_flight 1 = .ok (.iconst 0, 1) := by decide +kernel
theorem dX11_flight_2 : decode cX11_flight 2 = .ok (.putfield 92, 3) := by decide +kernel
theorem dX11_flight_5 : decode cX11_flight 5 = .ok (.aload_n 0, 1) := by decide +kernel
theorem dX11_flight_6 : decode cX11_flight 6 = .ok (.getfield 258, 3) := by decide +kernel
theorem dX11_flight_9 : decode cX11_flight 9 = .ok (.ifCond .eq 12, 3) := by decide +kernel
theorem dX11_flight_12 : decode cX11_flight 12 = .ok (.iload_n 1, 1) := by decide +kernel
theorem dX11_flight_13 : decode cX11_flight 13 = .ok (.iconst 0, 1) := by decide +kernel
theorem dX11_flight_14 : decode cX11_flight 14 = .ok (.iconst 5, 1) := by decide +kernel
theorem dX11_flight_15 : decode cX11_flight 15 = .ok (.invokestatic 117, 3) := by decide +kernel
theorem dX11_flight_18 : decode cX11_flight 18 = .ok (.ifCond .ne 9, 3) := by decide +kernel
theorem dX11_flight_21 : decode cX11_flight 21 = .ok (.aload_n 0, 1) := by decide +kernel
theorem dX11_flight_22 : decode cX11_flight 22 = .ok (.iconst 1, 1) := by decide +kernel
theorem dX11_flight_23 : decode cX11_flight 23 = .ok (.invokevirtual 252, 3) := by decide +kernel
theorem dX11_flight_26 : decode cX11_flight 26 = .ok (.ireturn, 1) := by decide +kernel
theorem dX11_flight_27 : decode cX11_flight 27 = .ok (.aload_n 0, 1) := by decide +kernel
theorem dX11_flight_28 : decode cX11_flight 28 = .ok (.iconst (-1), 1) := by decide +kernel
theorem dX11_flight_29 : decode cX11_flight 29 = .ok (.iconst (-1), 1) := by decide +kernel
theorem dX11_flight_30 : decode cX11_flight 30 = .ok (.invokevirtual 422, 3) := by decide +kernel
theorem dX11_flight_33 : decode cX11_flight 33 = .ok (.aload_n 0, 1) := by decide +kernel
theorem dX11_flight_34 : decode cX11_flight 34 = .ok (.invokevirtual 425, 3) := by decide +kernel
theorem dX11_flight_37 : decode cX11_flight 37 = .ok (.istore_n 2, 1) := by decide +kernel
theorem dX11_flight_38 : decode cX11_flight 38 = .ok (.iload_n 1, 1) := by decide +kernel
theorem dX11_flight_39 : decode cX11_flight 39 = .ok (.tableswitch 99 0 4 #[33, 42, 63, 81, 90], 33) := by decide +kernel
theorem dX11_flight_72 : decode cX11_flight 72 = .ok (.aload_n 0, 1) := by decide +kernel
theorem dX11_flight_73 : decode cX11_flight 73 = .ok (.aload_n 0, 1) := by decide +kernel
theorem dX11_flight_74 : decode cX11_flight 74 = .ok (.getfield 409, 3) := by decide +kernel
theorem dX11_flight_77 : decode cX11_flight 77 = .ok (.invokevirtual 282, 3) := by decide +kernel
theorem dX11_flight_80 : decode cX11_flight 80 = .ok (.ireturn, 1) := by decide +kernel
theorem dX11_flight_81 : decode cX11_flight 81 = .ok (.aload_n 0, 1) := by decide +kernel
theorem dX11_flight_82 : decode cX11_flight 82 = .ok (.iload_n 2, 1) := by decide +kernel
theorem dX11_flight_83 : decode cX11_flight 83 = .ok (.iconst (-1), 1) := by decide +kernel
theorem dX11_flight_84 : decode cX11_flight 84 = .ok (.if_icmp .ne 8, 3) := by decide +kernel
theorem dX11_flight_87 : decode cX11_flight 87 = .ok (.bipush (-2), 2) := by decide +kernel
theorem dX11_flight_89 : decode cX11_flight 89 = .ok (.goto 9, 3) := by decide +kernel
theorem dX11_flight_92 : decode cX11_flight 92 = .ok (.aload_n 0, 1) := by decide +kernel
theorem dX11_flight_93 : decode cX11_flight 93 = .ok (.getfield 89, 3) := by decide +kernel
theorem dX11_flight_96 : decode cX11_flight 96 = .ok (.iload_n 2, 1) := by decide +kernel
theorem dX11_flight_97 : decode cX11_flight 97 = .ok (.iaload, 1) := by decide +kernel
theorem dX11_flight_98 : decode cX11_flight 98 = .ok (.invokevirtual 282, 3) := by decide +kernel
theorem dX11_flight_101 : decode cX11_flight 101 = .ok (.ireturn, 1) := by decide +kernel
theorem dX11_flight_102 : decode cX11_flight 102 = .ok (.aload_n 0, 1) := by decide +kernel
theorem dX11_flight_103 : decode cX11_flight 103 = .ok (.iload_n 2, 1) := by decide +kernel
theorem dX11_flight_104 : decode cX11_flight 104 = .ok (.iconst (-1), 1) := by decide +kernel
theorem dX11_flight_105 : decode cX11_flight 105 = .ok (.if_icmp .ne 8, 3) := by decide +kernel
theorem dX11_flight_108 : decode cX11_flight 108 = .ok (.bipush (-2), 2) := by decide +kernel
theorem dX11_flight_110 : decode cX11_flight 110 = .ok (.goto 6, 3) := by decide +kernel
theorem dX11_flight_113 : decode cX11_flight 113 = .ok (.iload_n 2, 1) := by decide +kernel
theorem dX11_flight_114 : decode cX11_flight 114 = .ok (.iconst 1, 1) := by decide +kernel
theorem dX11_flight_115 : decode cX11_flight 115 = .ok (.iadd, 1) := by decide +kernel
theorem dX11_flight_116 : decode cX11_flight 116 = .ok (.invokevirtual 282, 3) := by decide +kernel
theorem dX11_flight_119 : decode cX11_flight 119 = .ok (.ireturn, 1) := by decide +kernel
theorem dX11_flight_120 : decode cX11_flight 120 = .ok (.aload_n 0, 1) := by decide +kernel
theorem dX11_flight_121 : decode cX11_flight 121 = .ok (.aload_n 0, 1) := by decide +kernel
theorem dX11_flight_122 : decode cX11_flight 122 = .ok (.getfield 412, 3) := by decide +kernel
theorem dX11_flight_125 : decode cX11_flight 125 = .ok (.invokevirtual 282, 3) := by decide +kernel
theorem dX11_flight_128 : decode cX11_flight 128 = .ok (.ireturn, 1) := by decide +kernel
theorem dX11_flight_129 : decode cX11_flight 129 = .ok (.aload_n 0, 1) := by decide +kernel
theorem dX11_flight_130 : decode cX11_flight 130 = .ok (.aload_n 0, 1) := by decide +kernel
theorem dX11_flight_131 : decode cX11_flight 131 = .ok (.getfield 415, 3) := by decide +kernel
theorem dX11_flight_134 : decode cX11_flight 134 = .ok (.invokevirtual 282, 3) := by decide +kernel
theorem dX11_flight_137 : decode cX11_flight 137 = .ok (.ireturn, 1) := by decide +kernel
theorem dX11_flight_138 : decode cX11_flight 138 = .ok (.aload_n 0, 1) := by decide +kernel
theorem dX11_flight_139 : decode cX11_flight 139 = .ok (.invokevirtual 428, 3) := by decide +kernel
theorem dX11_flight_142 : decode cX11_flight 142 = .ok (.aload_n 0, 1) := by decide +kernel
theorem dX11_flight_143 : decode cX11_flight 143 = .ok (.aload_n 0, 1) := by decide +kernel
theorem dX11_flight_144 : decode cX11_flight 144 = .ok (.invokevirtual 343, 3) := by decide +kernel
theorem dX11_flight_147 : decode cX11_flight 147 = .ok (.invokevirtual 282, 3) := by decide +kernel
theorem dX11_flight_150 : decode cX11_flight 150 = .ok (.ireturn, 1) := by decide +kernel
theorem dX11_tick_0 : decode cX11_tick 0 = .ok (.aload_n 0, 1) := by decide +kernel
theorem dX11_tick_1 : decode cX11_tick 1 = .ok (.iconst 0, 1) := by decide +kernel
theorem dX11_tick_2 : decode cX11_tick 2 = .ok (.putfield 92, 3) := by decide +kernel
theorem dX11_tick_5 : decode cX11_tick 5 = .ok (.aload_n 0, 1) := by decide +kernel
theorem dX11_tick_6 : decode cX11_tick 6 = .ok (.getfield 258, 3) := by decide +kernel
theorem dX11_tick_9 : decode cX11_tick 9 = .ok (.ifCond .ne 9, 3) := by decide +kernel
theorem dX11_tick_12 : decode cX11_tick 12 = .ok (.aload_n 0, 1) := by decide +kernel
theorem dX11_tick_13 : decode cX11_tick 13 = .ok (.iconst 1, 1) := by decide +kernel
theorem dX11_tick_14 : decode cX11_tick 14 = .ok (.invokevirtual 252, 3) := by decide +kernel
theorem dX11_tick_17 : decode cX11_tick 17 = .ok (.ireturn, 1) := by decide +kernel
theorem dX11_tick_18 : decode cX11_tick 18 = .ok (.aload_n 0, 1) := by decide +kernel
theorem dX11_tick_19 : decode cX11_tick 19 = .ok (.iconst (-1), 1) := by decide +kernel
theorem dX11_tick_20 : decode cX11_tick 20 = .ok (.iconst (-1), 1) := by decide +kernel
theorem dX11_tick_21 : decode cX11_tick 21 = .ok (.invokevirtual 422, 3) := by decide +kernel
theorem dX11_tick_24 : decode cX11_tick 24 = .ok (.iload_n 1, 1) := by decide +kernel
theorem dX11_tick_25 : decode cX11_tick 25 = .ok (.iconst 1, 1) := by decide +kernel
theorem dX11_tick_26 : decode cX11_tick 26 = .ok (.aload_n 0, 1) := by decide +kernel
theorem dX11_tick_27 : decode cX11_tick 27 = .ok (.getfield 409, 3) := by decide +kernel
theorem dX11_tick_30 : decode cX11_tick 30 = .ok (.invokestatic 117, 3) := by decide +kernel
theorem dX11_tick_33 : decode cX11_tick 33 = .ok (.ifCond .ne 9, 3) := by decide +kernel
theorem dX11_tick_36 : decode cX11_tick 36 = .ok (.aload_n 0, 1) := by decide +kernel
theorem dX11_tick_37 : decode cX11_tick 37 = .ok (.iconst 1, 1) := by decide +kernel
theorem dX11_tick_38 : decode cX11_tick 38 = .ok (.invokevirtual 252, 3) := by decide +kernel
theorem dX11_tick_41 : decode cX11_tick 41 = .ok (.ireturn, 1) := by decide +kernel
theorem dX11_tick_42 : decode cX11_tick 42 = .ok (.iload_n 2, 1) := by decide +kernel
theorem dX11_tick_43 : decode cX11_tick 43 = .ok (.tableswitch 98 0 4 #[33, 46, 59, 72, 85], 33) := by decide +kernel
theorem dX11_tick_76 : decode cX11_tick 76 = .ok (.aload_n 0, 1) := by decide +kernel
theorem dX11_tick_77 : decode cX11_tick 77 = .ok (.aload_n 0, 1) := by decide +kernel
theorem dX11_tick_78 : decode cX11_tick 78 = .ok (.getfield 74, 3) := by decide +kernel
theorem dX11_tick_81 : decode cX11_tick 81 = .ok (.iload_n 1, 1) := by decide +kernel
theorem dX11_tick_82 : decode cX11_tick 82 = .ok (.iconst 1, 1) := by decide +kernel
theorem dX11_tick_83 : decode cX11_tick 83 = .ok (.isub, 1) := by decide +kernel
theorem dX11_tick_84 : decode cX11_tick 84 = .ok (.iaload, 1) := by decide +kernel
theorem dX11_tick_85 : decode cX11_tick 85 = .ok (.invokevirtual 282, 3) := by decide +kernel
theorem dX11_tick_88 : decode cX11_tick 88 = .ok (.ireturn, 1) := by decide +kernel
theorem dX11_tick_89 : decode cX11_tick 89 = .ok (.aload_n 0, 1) := by decide +kernel
theorem dX11_tick_90 : decode cX11_tick 90 = .ok (.aload_n 0, 1) := by decide +kernel
theorem dX11_tick_91 : decode cX11_tick 91 = .ok (.getfield 80, 3) := by decide +kernel
theorem dX11_tick_94 : decode cX11_tick 94 = .ok (.iload_n 1, 1) := by decide +kernel
theorem dX11_tick_95 : decode cX11_tick 95 = .ok (.iconst 1, 1) := by decide +kernel
theorem dX11_tick_96 : decode cX11_tick 96 = .ok (.isub, 1) := by decide +kernel
theorem dX11_tick_97 : decode cX11_tick 97 = .ok (.iaload, 1) := by decide +kernel
theorem dX11_tick_98 : decode cX11_tick 98 = .ok (.invokevirtual 282, 3) := by decide +kernel
theorem dX11_tick_101 : decode cX11_tick 101 = .ok (.ireturn, 1) := by decide +kernel
theorem dX11_tick_102 : decode cX11_tick 102 = .ok (.aload_n 0, 1) := by decide +kernel
theorem dX11_tick_103 : decode cX11_tick 103 = .ok (.aload_n 0, 1) := by decide +kernel
theorem dX11_tick_104 : decode cX11_tick 104 = .ok (.getfield 83, 3) := by decide +kernel
theorem dX11_tick_107 : decode cX11_tick 107 = .ok (.iload_n 1, 1) := by decide +kernel
theorem dX11_tick_108 : decode cX11_tick 108 = .ok (.iconst 1, 1) := by decide +kernel
theorem dX11_tick_109 : decode cX11_tick 109 = .ok (.isub, 1) := by decide +kernel
theorem dX11_tick_110 : decode cX11_tick 110 = .ok (.iaload, 1) := by decide +kernel
theorem dX11_tick_111 : decode cX11_tick 111 = .ok (.invokevirtual 282, 3) := by decide +kernel
theorem dX11_tick_114 : decode cX11_tick 114 = .ok (.ireturn, 1) := by decide +kernel
theorem dX11_tick_115 : decode cX11_tick 115 = .ok (.aload_n 0, 1) := by decide +kernel
theorem dX11_tick_116 : decode cX11_tick 116 = .ok (.aload_n 0, 1) := by decide +kernel
theorem dX11_tick_117 : decode cX11_tick 117 = .ok (.getfield 86, 3) := by decide +kernel
theorem dX11_tick_120 : decode cX11_tick 120 = .ok (.iload_n 1, 1) := by decide +kernel
theorem dX11_tick_121 : decode cX11_tick 121 = .ok (.iconst 1, 1) := by decide +kernel
theorem dX11_tick_122 : decode cX11_tick 122 = .ok (.isub, 1) := by decide +kernel
theorem dX11_tick_123 : decode cX11_tick 123 = .ok (.iaload, 1) := by decide +kernel
theorem dX11_tick_124 : decode cX11_tick 124 = .ok (.invokevirtual 282, 3) := by decide +kernel
theorem dX11_tick_127 : decode cX11_tick 127 = .ok (.ireturn, 1) := by decide +kernel
theorem dX11_tick_128 : decode cX11_tick 128 = .ok (.aload_n 0, 1) := by decide +kernel
theorem dX11_tick_129 : decode cX11_tick 129 = .ok (.aload_n 0, 1) := by decide +kernel
theorem dX11_tick_130 : decode cX11_tick 130 = .ok (.getfield 89, 3) := by decide +kernel
theorem dX11_tick_133 : decode cX11_tick 133 = .ok (.iload_n 1, 1) := by decide +kernel
theorem dX11_tick_134 : decode cX11_tick 134 = .ok (.iconst 1, 1) := by decide +kernel
theorem dX11_tick_135 : decode cX11_tick 135 = .ok (.isub, 1) := by decide +kernel
theorem dX11_tick_136 : decode cX11_tick 136 = .ok (.iaload, 1) := by decide +kernel
theorem dX11_tick_137 : decode cX11_tick 137 = .ok (.invokevirtual 282, 3) := by decide +kernel
theorem dX11_tick_140 : decode cX11_tick 140 = .ok (.ireturn, 1) := by decide +kernel
theorem dX11_tick_141 : decode cX11_tick 141 = .ok (.aload_n 0, 1) := by decide +kernel
theorem dX11_tick_142 : decode cX11_tick 142 = .ok (.iconst 1, 1) := by decide +kernel
theorem dX11_tick_143 : decode cX11_tick 143 = .ok (.invokevirtual 252, 3) := by decide +kernel
theorem dX11_tick_146 : decode cX11_tick 146 = .ok (.ireturn, 1) := by decide +kernel
theorem dX11_arrives_0 : decode cX11_arrives 0 = .ok (.aload_n 0, 1) := by decide +kernel
theorem dX11_arrives_1 : decode cX11_arrives 1 = .ok (.iconst 0, 1) := by decide +kernel
theorem dX11_arrives_2 : decode cX11_arrives 2 = .ok (.putfield 92, 3) := by decide +kernel
theorem dX11_arrives_5 : decode cX11_arrives 5 = .ok (.aload_n 0, 1) := by decide +kernel
theorem dX11_arrives_6 : decode cX11_arrives 6 = .ok (.getfield 258, 3) := by decide +kernel
theorem dX11_arrives_9 : decode cX11_arrives 9 = .ok (.ifCond .ne 9, 3) := by decide +kernel
theorem dX11_arrives_12 : decode cX11_arrives 12 = .ok (.aload_n 0, 1) := by decide +kernel
theorem dX11_arrives_13 : decode cX11_arrives 13 = .ok (.iconst 1, 1) := by decide +kernel
theorem dX11_arrives_14 : decode cX11_arrives 14 = .ok (.invokevirtual 252, 3) := by decide +kernel
theorem dX11_arrives_17 : decode cX11_arrives 17 = .ok (.ireturn, 1) := by decide +kernel
theorem dX11_arrives_18 : decode cX11_arrives 18 = .ok (.aload_n 0, 1) := by decide +kernel
theorem dX11_arrives_19 : decode cX11_arrives 19 = .ok (.iconst (-1), 1) := by decide +kernel
theorem dX11_arrives_20 : decode cX11_arrives 20 = .ok (.iconst (-1), 1) := by decide +kernel
theorem dX11_arrives_21 : decode cX11_arrives 21 = .ok (.invokevirtual 422, 3) := by decide +kernel
theorem dX11_arrives_24 : decode cX11_arrives 24 = .ok (.aload_n 0, 1) := by decide +kernel
theorem dX11_arrives_25 : decode cX11_arrives 25 = .ok (.invokevirtual 428, 3) := by decide +kernel
theorem dX11_arrives_28 : decode cX11_arrives 28 = .ok (.aload_n 0, 1) := by decide +kernel
theorem dX11_arrives_29 : decode cX11_arrives 29 = .ok (.aload_n 0, 1) := by decide +kernel
theorem dX11_arrives_30 : decode cX11_arrives 30 = .ok (.aload_n 0, 1) := by decide +kernel
theorem dX11_arrives_31 : decode cX11_arrives 31 = .ok (.getfield 30, 3) := by decide +kernel
theorem dX11_arrives_34 : decode cX11_arrives 34 = .ok (.iconst 1, 1) := by decide +kernel
theorem dX11_arrives_35 : decode cX11_arrives 35 = .ok (.iaload, 1) := by decide +kernel
theorem dX11_arrives_36 : decode cX11_arrives 36 = .ok (.invokevirtual 333, 3) := by decide +kernel
theorem dX11_arrives_39 : decode cX11_arrives 39 = .ok (.ifCond .eq 7, 3) := by decide +kernel
theorem dX11_arrives_42 : decode cX11_arrives 42 = .ok (.iconst 1, 1) := by decide +kernel
theorem dX11_arrives_43 : decode cX11_arrives 43 = .ok (.goto 4, 3) := by decide +kernel
theorem dX11_arrives_46 : decode cX11_arrives 46 = .ok (.iconst 0, 1) := by decide +kernel
theorem dX11_arrives_47 : decode cX11_arrives 47 = .ok (.invokevirtual 282, 3) := by decide +kernel
theorem dX11_arrives_50 : decode cX11_arrives 50 = .ok (.ireturn, 1) := by decide +kernel
theorem dX11_flown_0 : decode cX11_flown 0 = .ok (.aload_n 0, 1) := by decide +kernel
theorem dX11_flown_1 : decode cX11_flown 1 = .ok (.iconst 0, 1) := by decide +kernel
theorem dX11_flown_2 : decode cX11_flown 2 = .ok (.putfield 92, 3) := by decide +kernel
theorem dX11_flown_5 : decode cX11_flown 5 = .ok (.aload_n 0, 1) := by decide +kernel
theorem dX11_flown_6 : decode cX11_flown 6 = .ok (.getfield 258, 3) := by decide +kernel
theorem dX11_flown_9 : decode cX11_flown 9 = .ok (.ifCond .ne 9, 3) := by decide +kernel
theorem dX11_flown_12 : decode cX11_flown 12 = .ok (.aload_n 0, 1) := by decide +kernel
theorem dX11_flown_13 : decode cX11_flown 13 = .ok (.iconst 1, 1) := by decide +kernel
theorem dX11_flown_14 : decode cX11_flown 14 = .ok (.invokevirtual 252, 3) := by decide +kernel
theorem dX11_flown_17 : decode cX11_flown 17 = .ok (.ireturn, 1) := by decide +kernel
theorem dX11_flown_18 : decode cX11_flown 18 = .ok (.aload_n 0, 1) := by decide +kernel
theorem dX11_flown_19 : decode cX11_flown 19 = .ok (.iconst (-1), 1) := by decide +kernel
theorem dX11_flown_20 : decode cX11_flown 20 = .ok (.iconst (-1), 1) := by decide +kernel
theorem dX11_flown_21 : decode cX11_flown 21 = .ok (.invokevirtual 422, 3) := by decide +kernel
theorem dX11_flown_24 : decode cX11_flown 24 = .ok (.aload_n 0, 1) := by decide +kernel
theorem dX11_flown_25 : decode cX11_flown 25 = .ok (.invokevirtual 355, 3) := by decide +kernel
theorem dX11_flown_28 : decode cX11_flown 28 = .ok (.iconst 0, 1) := by decide +kernel
theorem dX11_flown_29 : decode cX11_flown 29 = .ok (.istore_n 2, 1) := by decide +kernel
theorem dX11_flown_30 : decode cX11_flown 30 = .ok (.iload_n 2, 1) := by decide +kernel
theorem dX11_flown_31 : decode cX11_flown 31 = .ok (.aload_n 0, 1) := by decide +kernel
theorem dX11_flown_32 : decode cX11_flown 32 = .ok (.getfield 409, 3) := by decide +kernel
theorem dX11_flown_35 : decode cX11_flown 35 = .ok (.if_icmp .ge 58, 3) := by decide +kernel
theorem dX11_flown_38 : decode cX11_flown 38 = .ok (.aload_n 0, 1) := by decide +kernel
theorem dX11_flown_39 : decode cX11_flown 39 = .ok (.aload_n 0, 1) := by decide +kernel
theorem dX11_flown_40 : decode cX11_flown 40 = .ok (.getfield 80, 3) := by decide +kernel
theorem dX11_flown_43 : decode cX11_flown 43 = .ok (.iload_n 2, 1) := by decide +kernel
theorem dX11_flown_44 : decode cX11_flown 44 = .ok (.iaload, 1) := by decide +kernel
theorem dX11_flown_45 : decode cX11_flown 45 = .ok (.aload_n 0, 1) := by decide +kernel
theorem dX11_flown_46 : decode cX11_flown 46 = .ok (.getfield 83, 3) := by decide +kernel
theorem dX11_flown_49 : decode cX11_flown 49 = .ok (.iload_n 2, 1) := by decide +kernel
theorem dX11_flown_50 : decode cX11_flown 50 = .ok (.iaload, 1) := by decide +kernel
theorem dX11_flown_51 : decode cX11_flown 51 = .ok (.aload_n 0, 1) := by decide +kernel
theorem dX11_flown_52 : decode cX11_flown 52 = .ok (.aload_n 0, 1) := by decide +kernel
theorem dX11_flown_53 : decode cX11_flown 53 = .ok (.getfield 74, 3) := by decide +kernel
theorem dX11_flown_56 : decode cX11_flown 56 = .ok (.iload_n 2, 1) := by decide +kernel
theorem dX11_flown_57 : decode cX11_flown 57 = .ok (.iaload, 1) := by decide +kernel
theorem dX11_flown_58 : decode cX11_flown 58 = .ok (.iconst 0, 1) := by decide +kernel
theorem dX11_flown_59 : decode cX11_flown 59 = .ok (.invokevirtual 279, 3) := by decide +kernel
theorem dX11_flown_62 : decode cX11_flown 62 = .ok (.invokevirtual 358, 3) := by decide +kernel
theorem dX11_flown_65 : decode cX11_flown 65 = .ok (.aload_n 0, 1) := by decide +kernel
theorem dX11_flown_66 : decode cX11_flown 66 = .ok (.getfield 268, 3) := by decide +kernel
theorem dX11_flown_69 : decode cX11_flown 69 = .ok (.ifCond .le 18, 3) := by decide +kernel
theorem dX11_flown_72 : decode cX11_flown 72 = .ok (.aload_n 0, 1) := by decide +kernel
theorem dX11_flown_73 : decode cX11_flown 73 = .ok (.aload_n 0, 1) := by decide +kernel
theorem dX11_flown_74 : decode cX11_flown 74 = .ok (.getfield 268, 3) := by decide +kernel
theorem dX11_flown_77 : decode cX11_flown 77 = .ok (.aload_n 0, 1) := by decide +kernel
theorem dX11_flown_78 : decode cX11_flown 78 = .ok (.getfield 268, 3) := by decide +kernel
theorem dX11_flown_81 : decode cX11_flown 81 = .ok (.iconst 1, 1) := by decide +kernel
theorem dX11_flown_82 : decode cX11_flown 82 = .ok (.iadd, 1) := by decide +kernel
theorem dX11_flown_83 : decode cX11_flown 83 = .ok (.iconst 1, 1) := by decide +kernel
theorem dX11_flown_84 : decode cX11_flown 84 = .ok (.invokevirtual 358, 3) := by decide +kernel
theorem dX11_flown_87 : decode cX11_flown 87 = .ok (.iinc 2 1, 3) := by decide +kernel
theorem dX11_flown_90 : decode cX11_flown 90 = .ok (.goto (-60), 3) := by decide +kernel
theorem dX11_flown_93 : decode cX11_flown 93 = .ok (.aload_n 0, 1) := by decide +kernel
theorem dX11_flown_94 : decode cX11_flown 94 = .ok (.aload_n 0, 1) := by decide +kernel
theorem dX11_flown_95 : decode cX11_flown 95 = .ok (.iload_n 1, 1) := by decide +kernel
theorem dX11_flown_96 : decode cX11_flown 96 = .ok (.invokevirtual 361, 3) := by decide +kernel
theorem dX11_flown_99 : decode cX11_flown 99 = .ok (.invokevirtual 282, 3) := by decide +kernel
theorem dX11_flown_102 : decode cX11_flown 102 = .ok (.ireturn, 1) := by decide +kernel
theorem dX11_riskOf_0 : decode cX11_riskOf 0 = .ok (.aload_n 0, 1) := by decide +kernel
theorem dX11_riskOf_1 : decode cX11_riskOf 1 = .ok (.iload_n 1, 1) := by decide +kernel
theorem dX11_riskOf_2 : decode cX11_riskOf 2 = .ok (.iload_n 2, 1) := by decide +kernel
theorem dX11_riskOf_3 : decode cX11_riskOf 3 = .ok (.invokevirtual 422, 3) := by decide +kernel
theorem dX11_riskOf_6 : decode cX11_riskOf 6 = .ok (.aload_n 0, 1) := by decide +kernel
theorem dX11_riskOf_7 : decode cX11_riskOf 7 = .ok (.invokevirtual 428, 3) := by decide +kernel
theorem dX11_riskOf_10 : decode cX11_riskOf 10 = .ok (.aload_n 0, 1) := by decide +kernel
theorem dX11_riskOf_11 : decode cX11_riskOf 11 = .ok (.invokevirtual 343, 3) := by decide +kernel
theorem dX11_riskOf_14 : decode cX11_riskOf 14 = .ok (.ireturn, 1) := by decide +kernel
theorem dX11_risk_0 : decode cX11_risk 0 = .ok (.aload_n 0, 1) := by decide +kernel
theorem dX11_risk_1 : decode cX11_risk 1 = .ok (.iconst 0, 1) := by decide +kernel
theorem dX11_risk_2 : decode cX11_risk 2 = .ok (.putfield 92, 3) := by decide +kernel
theorem dX11_risk_5 : decode cX11_risk 5 = .ok (.aload_n 0, 1) := by decide +kernel
theorem dX11_risk_6 : decode cX11_risk 6 = .ok (.iload_n 1, 1) := by decide +kernel
theorem dX11_risk_7 : decode cX11_risk 7 = .ok (.invokevirtual 301, 3) := by decide +kernel
theorem dX11_risk_10 : decode cX11_risk 10 = .ok (.ifCond .ne 9, 3) := by decide +kernel
theorem dX11_risk_13 : decode cX11_risk 13 = .ok (.aload_n 0, 1) := by decide +kernel
theorem dX11_risk_14 : decode cX11_risk 14 = .ok (.iconst 1, 1) := by decide +kernel
theorem dX11_risk_15 : decode cX11_risk 15 = .ok (.invokevirtual 252, 3) := by decide +kernel
theorem dX11_risk_18 : decode cX11_risk 18 = .ok (.ireturn, 1) := by decide +kernel
theorem dX11_risk_19 : decode cX11_risk 19 = .ok (.iload_n 2, 1) := by decide +kernel
theorem dX11_risk_20 : decode cX11_risk 20 = .ok (.iconst 1, 1) := by decide +kernel
theorem dX11_risk_21 : decode cX11_risk 21 = .ok (.bipush 99, 2) := by decide +kernel
theorem dX11_risk_23 : decode cX11_risk 23 = .ok (.invokestatic 117, 3) := by decide +kernel
theorem dX11_risk_26 : decode cX11_risk 26 = .ok (.ifCond .eq 16, 3) := by decide +kernel
theorem dX11_risk_29 : decode cX11_risk 29 = .ok (.aload_n 0, 1) := by decide +kernel
theorem dX11_risk_30 : decode cX11_risk 30 = .ok (.aload_n 0, 1) := by decide +kernel
theorem dX11_risk_31 : decode cX11_risk 31 = .ok (.iload_n 1, 1) := by decide +kernel
theorem dX11_risk_32 : decode cX11_risk 32 = .ok (.iload_n 2, 1) := by decide +kernel
theorem dX11_risk_33 : decode cX11_risk 33 = .ok (.invokevirtual 431, 3) := by decide +kernel
theorem dX11_risk_36 : decode cX11_risk 36 = .ok (.invokevirtual 282, 3) := by decide +kernel
theorem dX11_risk_39 : decode cX11_risk 39 = .ok (.goto 8, 3) := by decide +kernel
theorem dX11_risk_42 : decode cX11_risk 42 = .ok (.aload_n 0, 1) := by decide +kernel
theorem dX11_risk_43 : decode cX11_risk 43 = .ok (.iconst 2, 1) := by decide +kernel
theorem dX11_risk_44 : decode cX11_risk 44 = .ok (.invokevirtual 252, 3) := by decide +kernel
theorem dX11_risk_47 : decode cX11_risk 47 = .ok (.ireturn, 1) := by decide +kernel
theorem dX11_riskiest_0 : decode cX11_riskiest 0 = .ok (.aload_n 0, 1) := by decide +kernel
theorem dX11_riskiest_1 : decode cX11_riskiest 1 = .ok (.iconst 0, 1) := by decide +kernel
theorem dX11_riskiest_2 : decode cX11_riskiest 2 = .ok (.putfield 92, 3) := by decide +kernel
theorem dX11_riskiest_5 : decode cX11_riskiest 5 = .ok (.aload_n 0, 1) := by decide +kernel
theorem dX11_riskiest_6 : decode cX11_riskiest 6 = .ok (.getfield 258, 3) := by decide +kernel
theorem dX11_riskiest_9 : decode cX11_riskiest 9 = .ok (.ifCond .ne 9, 3) := by decide +kernel
theorem dX11_riskiest_12 : decode cX11_riskiest 12 = .ok (.aload_n 0, 1) := by decide +kernel
theorem dX11_riskiest_13 : decode cX11_riskiest 13 = .ok (.iconst 1, 1) := by decide +kernel
theorem dX11_riskiest_14 : decode cX11_riskiest 14 = .ok (.invokevirtual 252, 3) := by decide +kernel
theorem dX11_riskiest_17 : decode cX11_riskiest 17 = .ok (.ireturn, 1) := by decide +kernel
theorem dX11_riskiest_18 : decode cX11_riskiest 18 = .ok (.aload_n 0, 1) := by decide +kernel
theorem dX11_riskiest_19 : decode cX11_riskiest 19 = .ok (.iconst (-1), 1) := by decide +kernel
theorem dX11_riskiest_20 : decode cX11_riskiest 20 = .ok (.iconst (-1), 1) := by decide +kernel
theorem dX11_riskiest_21 : decode cX11_riskiest 21 = .ok (.invokevirtual 422, 3) := by decide +kernel
theorem dX11_riskiest_24 : decode cX11_riskiest 24 = .ok (.aload_n 0, 1) := by decide +kernel
theorem dX11_riskiest_25 : decode cX11_riskiest 25 = .ok (.getfield 409, 3) := by decide +kernel
theorem dX11_riskiest_28 : decode cX11_riskiest 28 = .ok (.istore_n 1, 1) := by decide +kernel
theorem dX11_riskiest_29 : decode cX11_riskiest 29 = .ok (.bipush (-2), 2) := by decide +kernel
theorem dX11_riskiest_31 : decode cX11_riskiest 31 = .ok (.istore_n 2, 1) := by decide +kernel
theorem dX11_riskiest_32 : decode cX11_riskiest 32 = .ok (.iconst 0, 1) := by decide +kernel
theorem dX11_riskiest_33 : decode cX11_riskiest 33 = .ok (.istore_n 3, 1) := by decide +kernel
theorem dX11_riskiest_34 : decode cX11_riskiest 34 = .ok (.iconst 0, 1) := by decide +kernel
theorem dX11_riskiest_35 : decode cX11_riskiest 35 = .ok (.istore 4, 2) := by decide +kernel
theorem dX11_riskiest_37 : decode cX11_riskiest 37 = .ok (.iload 4, 2) := by decide +kernel
theorem dX11_riskiest_39 : decode cX11_riskiest 39 = .ok (.iload_n 1, 1) := by decide +kernel
theorem dX11_riskiest_40 : decode cX11_riskiest 40 = .ok (.if_icmp .ge 58, 3) := by decide +kernel
theorem dX11_riskiest_43 : decode cX11_riskiest 43 = .ok (.aload_n 0, 1) := by decide +kernel
theorem dX11_riskiest_44 : decode cX11_riskiest 44 = .ok (.iconst (-1), 1) := by decide +kernel
theorem dX11_riskiest_45 : decode cX11_riskiest 45 = .ok (.iconst (-1), 1) := by decide +kernel
theorem dX11_riskiest_46 : decode cX11_riskiest 46 = .ok (.invokevirtual 422, 3) := by decide +kernel
theorem dX11_riskiest_49 : decode cX11_riskiest 49 = .ok (.aload_n 0, 1) := by decide +kernel
theorem dX11_riskiest_50 : decode cX11_riskiest 50 = .ok (.aload_n 0, 1) := by decide +kernel
theorem dX11_riskiest_51 : decode cX11_riskiest 51 = .ok (.getfield 74, 3) := by decide +kernel
theorem dX11_riskiest_54 : decode cX11_riskiest 54 = .ok (.iload 4, 2) := by decide +kernel
theorem dX11_riskiest_56 : decode cX11_riskiest 56 = .ok (.iaload, 1) := by decide +kernel
theorem dX11_riskiest_57 : decode cX11_riskiest 57 = .ok (.aload_n 0, 1) := by decide +kernel
theorem dX11_riskiest_58 : decode cX11_riskiest 58 = .ok (.getfield 77, 3) := by decide +kernel
theorem dX11_riskiest_61 : decode cX11_riskiest 61 = .ok (.iload 4, 2) := by decide +kernel
theorem dX11_riskiest_63 : decode cX11_riskiest 63 = .ok (.iaload, 1) := by decide +kernel
theorem dX11_riskiest_64 : decode cX11_riskiest 64 = .ok (.invokevirtual 431, 3) := by decide +kernel
theorem dX11_riskiest_67 : decode cX11_riskiest 67 = .ok (.istore 5, 2) := by decide +kernel
theorem dX11_riskiest_69 : decode cX11_riskiest 69 = .ok (.iload_n 2, 1) := by decide +kernel
theorem dX11_riskiest_70 : decode cX11_riskiest 70 = .ok (.bipush (-2), 2) := by decide +kernel
theorem dX11_riskiest_72 : decode cX11_riskiest 72 = .ok (.if_icmp .eq 12, 3) := by decide +kernel
theorem dX11_riskiest_75 : decode cX11_riskiest 75 = .ok (.iload 5, 2) := by decide +kernel
theorem dX11_riskiest_77 : decode cX11_riskiest 77 = .ok (.iload_n 3, 1) := by decide +kernel
theorem dX11_riskiest_78 : decode cX11_riskiest 78 = .ok (.if_icmp .lt 6, 3) := by decide +kernel
theorem dX11_riskiest_81 : decode cX11_riskiest 81 = .ok (.goto 11, 3) := by decide +kernel
theorem dX11_riskiest_84 : decode cX11_riskiest 84 = .ok (.iload 4, 2) := by decide +kernel
theorem dX11_riskiest_86 : decode cX11_riskiest 86 = .ok (.iconst 1, 1) := by decide +kernel
theorem dX11_riskiest_87 : decode cX11_riskiest 87 = .ok (.iadd, 1) := by decide +kernel
theorem dX11_riskiest_88 : decode cX11_riskiest 88 = .ok (.istore_n 2, 1) := by decide +kernel
theorem dX11_riskiest_89 : decode cX11_riskiest 89 = .ok (.iload 5, 2) := by decide +kernel
theorem dX11_riskiest_91 : decode cX11_riskiest 91 = .ok (.istore_n 3, 1) := by decide +kernel
theorem dX11_riskiest_92 : decode cX11_riskiest 92 = .ok (.iinc 4 1, 3) := by decide +kernel
theorem dX11_riskiest_95 : decode cX11_riskiest 95 = .ok (.goto (-58), 3) := by decide +kernel
theorem dX11_riskiest_98 : decode cX11_riskiest 98 = .ok (.aload_n 0, 1) := by decide +kernel
theorem dX11_riskiest_99 : decode cX11_riskiest 99 = .ok (.iload_n 2, 1) := by decide +kernel
theorem dX11_riskiest_100 : decode cX11_riskiest 100 = .ok (.invokevirtual 282, 3) := by decide +kernel
theorem dX11_riskiest_103 : decode cX11_riskiest 103 = .ok (.ireturn, 1) := by decide +kernel
theorem dX11_remembers_0 : decode cX11_remembers 0 = .ok (.aload_n 0, 1) := by decide +kernel
theorem dX11_remembers_1 : decode cX11_remembers 1 = .ok (.getfield 276, 3) := by decide +kernel
theorem dX11_remembers_4 : decode cX11_remembers 4 = .ok (.bipush 10, 2) := by decide +kernel
theorem dX11_remembers_6 : decode cX11_remembers 6 = .ok (.if_icmp .ne 43, 3) := by decide +kernel
theorem dX11_remembers_9 : decode cX11_remembers 9 = .ok (.bipush 11, 2) := by decide +kernel
theorem dX11_remembers_11 : decode cX11_remembers 11 = .ok (.istore_n 1, 1) := by decide +kernel
theorem dX11_remembers_12 : decode cX11_remembers 12 = .ok (.iload_n 1, 1) := by decide +kernel
theorem dX11_remembers_13 : decode cX11_remembers 13 = .ok (.bipush 110, 2) := by decide +kernel
theorem dX11_remembers_15 : decode cX11_remembers 15 = .ok (.if_icmp .ge 24, 3) := by decide +kernel
theorem dX11_remembers_18 : decode cX11_remembers 18 = .ok (.aload_n 0, 1) := by decide +kernel
theorem dX11_remembers_19 : decode cX11_remembers 19 = .ok (.getfield 33, 3) := by decide +kernel
theorem dX11_remembers_22 : decode cX11_remembers 22 = .ok (.iload_n 1, 1) := by decide +kernel
theorem dX11_remembers_23 : decode cX11_remembers 23 = .ok (.bipush 11, 2) := by decide +kernel
theorem dX11_remembers_25 : decode cX11_remembers 25 = .ok (.isub, 1) := by decide +kernel
theorem dX11_remembers_26 : decode cX11_remembers 26 = .ok (.aload_n 0, 1) := by decide +kernel
theorem dX11_remembers_27 : decode cX11_remembers 27 = .ok (.getfield 33, 3) := by decide +kernel
theorem dX11_remembers_30 : decode cX11_remembers 30 = .ok (.iload_n 1, 1) := by decide +kernel
theorem dX11_remembers_31 : decode cX11_remembers 31 = .ok (.iaload, 1) := by decide +kernel
theorem dX11_remembers_32 : decode cX11_remembers 32 = .ok (.iastore, 1) := by decide +kernel
theorem dX11_remembers_33 : decode cX11_remembers 33 = .ok (.iinc 1 1, 3) := by decide +kernel
theorem dX11_remembers_36 : decode cX11_remembers 36 = .ok (.goto (-24), 3) := by decide +kernel
theorem dX11_remembers_39 : decode cX11_remembers 39 = .ok (.aload_n 0, 1) := by decide +kernel
theorem dX11_remembers_40 : decode cX11_remembers 40 = .ok (.dup, 1) := by decide +kernel
theorem dX11_remembers_41 : decode cX11_remembers 41 = .ok (.getfield 276, 3) := by decide +kernel
theorem dX11_remembers_44 : decode cX11_remembers 44 = .ok (.iconst 1, 1) := by decide +kernel
theorem dX11_remembers_45 : decode cX11_remembers 45 = .ok (.isub, 1) := by decide +kernel
theorem dX11_remembers_46 : decode cX11_remembers 46 = .ok (.putfield 276, 3) := by decide +kernel
theorem dX11_remembers_49 : decode cX11_remembers 49 = .ok (.iconst 0, 1) := by decide +kernel
theorem dX11_remembers_50 : decode cX11_remembers 50 = .ok (.istore_n 1, 1) := by decide +kernel
theorem dX11_remembers_51 : decode cX11_remembers 51 = .ok (.iload_n 1, 1) := by decide +kernel
theorem dX11_remembers_52 : decode cX11_remembers 52 = .ok (.bipush 11, 2) := by decide +kernel
theorem dX11_remembers_54 : decode cX11_remembers 54 = .ok (.if_icmp .ge 29, 3) := by decide +kernel
theorem dX11_remembers_57 : decode cX11_remembers 57 = .ok (.aload_n 0, 1) := by decide +kernel
theorem dX11_remembers_58 : decode cX11_remembers 58 = .ok (.getfield 33, 3) := by decide +kernel
theorem dX11_remembers_61 : decode cX11_remembers 61 = .ok (.bipush 11, 2) := by decide +kernel
theorem dX11_remembers_63 : decode cX11_remembers 63 = .ok (.aload_n 0, 1) := by decide +kernel
theorem dX11_remembers_64 : decode cX11_remembers 64 = .ok (.getfield 276, 3) := by decide +kernel
theorem dX11_remembers_67 : decode cX11_remembers 67 = .ok (.imul, 1) := by decide +kernel
theorem dX11_remembers_68 : decode cX11_remembers 68 = .ok (.iload_n 1, 1) := by decide +kernel
theorem dX11_remembers_69 : decode cX11_remembers 69 = .ok (.iadd, 1) := by decide +kernel
theorem dX11_remembers_70 : decode cX11_remembers 70 = .ok (.aload_n 0, 1) := by decide +kernel
theorem dX11_remembers_71 : decode cX11_remembers 71 = .ok (.getfield 30, 3) := by decide +kernel
theorem dX11_remembers_74 : decode cX11_remembers 74 = .ok (.iload_n 1, 1) := by decide +kernel
theorem dX11_remembers_75 : decode cX11_remembers 75 = .ok (.iaload, 1) := by decide +kernel
theorem dX11_remembers_76 : decode cX11_remembers 76 = .ok (.iastore, 1) := by decide +kernel
theorem dX11_remembers_77 : decode cX11_remembers 77 = .ok (.iinc 1 1, 3) := by decide +kernel
theorem dX11_remembers_80 : decode cX11_remembers 80 = .ok (.goto (-29), 3) := by decide +kernel
theorem dX11_remembers_83 : decode cX11_remembers 83 = .ok (.aload_n 0, 1) := by decide +kernel
theorem dX11_remembers_84 : decode cX11_remembers 84 = .ok (.dup, 1) := by decide +kernel
theorem dX11_remembers_85 : decode cX11_remembers 85 = .ok (.getfield 276, 3) := by decide +kernel
theorem dX11_remembers_88 : decode cX11_remembers 88 = .ok (.iconst 1, 1) := by decide +kernel
theorem dX11_remembers_89 : decode cX11_remembers 89 = .ok (.iadd, 1) := by decide +kernel
theorem dX11_remembers_90 : decode cX11_remembers 90 = .ok (.putfield 276, 3) := by decide +kernel
theorem dX11_remembers_93 : decode cX11_remembers 93 = .ok (.return_, 1) := by decide +kernel
theorem dX11_load_0 : decode cX11_load 0 = .ok (.aload_n 0, 1) := by decide +kernel
theorem dX11_load_1 : decode cX11_load 1 = .ok (.iconst 0, 1) := by decide +kernel
theorem dX11_load_2 : decode cX11_load 2 = .ok (.putfield 92, 3) := by decide +kernel
theorem dX11_load_5 : decode cX11_load 5 = .ok (.aload_n 0, 1) := by decide +kernel
theorem dX11_load_6 : decode cX11_load 6 = .ok (.iload_n 1, 1) := by decide +kernel
theorem dX11_load_7 : decode cX11_load 7 = .ok (.invokevirtual 301, 3) := by decide +kernel
theorem dX11_load_10 : decode cX11_load 10 = .ok (.ifCond .ne 9, 3) := by decide +kernel
theorem dX11_load_13 : decode cX11_load 13 = .ok (.aload_n 0, 1) := by decide +kernel
theorem dX11_load_14 : decode cX11_load 14 = .ok (.iconst 1, 1) := by decide +kernel
theorem dX11_load_15 : decode cX11_load 15 = .ok (.invokevirtual 252, 3) := by decide +kernel
theorem dX11_load_18 : decode cX11_load 18 = .ok (.ireturn, 1) := by decide +kernel
theorem dX11_load_19 : decode cX11_load 19 = .ok (.iload_n 2, 1) := by decide +kernel
theorem dX11_load_20 : decode cX11_load 20 = .ok (.iconst 0, 1) := by decide +kernel
theorem dX11_load_21 : decode cX11_load 21 = .ok (.aload_n 0, 1) := by decide +kernel
theorem dX11_load_22 : decode cX11_load 22 = .ok (.iload_n 1, 1) := by decide +kernel
theorem dX11_load_23 : decode cX11_load 23 = .ok (.iconst 3, 1) := by decide +kernel
theorem dX11_load_24 : decode cX11_load 24 = .ok (.invokevirtual 279, 3) := by decide +kernel
theorem dX11_load_27 : decode cX11_load 27 = .ok (.invokestatic 117, 3) := by decide +kernel
theorem dX11_load_30 : decode cX11_load 30 = .ok (.ifCond .ne 9, 3) := by decide +kernel
theorem dX11_load_33 : decode cX11_load 33 = .ok (.aload_n 0, 1) := by decide +kernel
theorem dX11_load_34 : decode cX11_load 34 = .ok (.iconst 2, 1) := by decide +kernel
theorem dX11_load_35 : decode cX11_load 35 = .ok (.invokevirtual 252, 3) := by decide +kernel
theorem dX11_load_38 : decode cX11_load 38 = .ok (.ireturn, 1) := by decide +kernel
theorem dX11_load_39 : decode cX11_load 39 = .ok (.aload_n 0, 1) := by decide +kernel
theorem dX11_load_40 : decode cX11_load 40 = .ok (.invokevirtual 434, 3) := by decide +kernel
theorem dX11_load_43 : decode cX11_load 43 = .ok (.aload_n 0, 1) := by decide +kernel
theorem dX11_load_44 : decode cX11_load 44 = .ok (.getfield 30, 3) := by decide +kernel
theorem dX11_load_47 : decode cX11_load 47 = .ok (.iconst 2, 1) := by decide +kernel
theorem dX11_load_48 : decode cX11_load 48 = .ok (.iload_n 1, 1) := by decide +kernel
theorem dX11_load_49 : decode cX11_load 49 = .ok (.iadd, 1) := by decide +kernel
theorem dX11_load_50 : decode cX11_load 50 = .ok (.iaload, 1) := by decide +kernel
theorem dX11_load_51 : decode cX11_load 51 = .ok (.istore_n 3, 1) := by decide +kernel
theorem dX11_load_52 : decode cX11_load 52 = .ok (.aload_n 0, 1) := by decide +kernel
theorem dX11_load_53 : decode cX11_load 53 = .ok (.getfield 30, 3) := by decide +kernel
theorem dX11_load_56 : decode cX11_load 56 = .ok (.iconst 2, 1) := by decide +kernel
theorem dX11_load_57 : decode cX11_load 57 = .ok (.iload_n 1, 1) := by decide +kernel
theorem dX11_load_58 : decode cX11_load 58 = .ok (.iadd, 1) := by decide +kernel
theorem dX11_load_59 : decode cX11_load 59 = .ok (.iload_n 2, 1) := by decide +kernel
theorem dX11_load_60 : decode cX11_load 60 = .ok (.iastore, 1) := by decide +kernel
theorem dX11_load_61 : decode cX11_load 61 = .ok (.aload_n 0, 1) := by decide +kernel
theorem dX11_load_62 : decode cX11_load 62 = .ok (.iload_n 3, 1) := by decide +kernel
theorem dX11_load_63 : decode cX11_load 63 = .ok (.invokevirtual 282, 3) := by decide +kernel
theorem dX11_load_66 : decode cX11_load 66 = .ok (.ireturn, 1) := by decide +kernel
theorem dX11_bounds_0 : decode cX11_bounds 0 = .ok (.aload_n 0, 1) := by decide +kernel
theorem dX11_bounds_1 : decode cX11_bounds 1 = .ok (.iconst 0, 1) := by decide +kernel
theorem dX11_bounds_2 : decode cX11_bounds 2 = .ok (.putfield 92, 3) := by decide +kernel
theorem dX11_bounds_5 : decode cX11_bounds 5 = .ok (.aload_n 0, 1) := by decide +kernel
theorem dX11_bounds_6 : decode cX11_bounds 6 = .ok (.iload_n 1, 1) := by decide +kernel
theorem dX11_bounds_7 : decode cX11_bounds 7 = .ok (.invokevirtual 301, 3) := by decide +kernel
theorem dX11_bounds_10 : decode cX11_bounds 10 = .ok (.ifCond .ne 9, 3) := by decide +kernel
theorem dX11_bounds_13 : decode cX11_bounds 13 = .ok (.aload_n 0, 1) := by decide +kernel
theorem dX11_bounds_14 : decode cX11_bounds 14 = .ok (.iconst 1, 1) := by decide +kernel
theorem dX11_bounds_15 : decode cX11_bounds 15 = .ok (.invokevirtual 252, 3) := by decide +kernel
theorem dX11_bounds_18 : decode cX11_bounds 18 = .ok (.ireturn, 1) := by decide +kernel
theorem dX11_bounds_19 : decode cX11_bounds 19 = .ok (.iload_n 2, 1) := by decide +kernel
theorem dX11_bounds_20 : decode cX11_bounds 20 = .ok (.iconst 0, 1) := by decide +kernel
theorem dX11_bounds_21 : decode cX11_bounds 21 = .ok (.aload_n 0, 1) := by decide +kernel
theorem dX11_bounds_22 : decode cX11_bounds 22 = .ok (.iload_n 1, 1) := by decide +kernel
theorem dX11_bounds_23 : decode cX11_bounds 23 = .ok (.iconst 3, 1) := by decide +kernel
theorem dX11_bounds_24 : decode cX11_bounds 24 = .ok (.invokevirtual 279, 3) := by decide +kernel
theorem dX11_bounds_27 : decode cX11_bounds 27 = .ok (.invokestatic 117, 3) := by decide +kernel
theorem dX11_bounds_30 : decode cX11_bounds 30 = .ok (.ifCond .eq 17, 3) := by decide +kernel
theorem dX11_bounds_33 : decode cX11_bounds 33 = .ok (.iload_n 3, 1) := by decide +kernel
theorem dX11_bounds_34 : decode cX11_bounds 34 = .ok (.iload_n 2, 1) := by decide +kernel
theorem dX11_bounds_35 : decode cX11_bounds 35 = .ok (.aload_n 0, 1) := by decide +kernel
theorem dX11_bounds_36 : decode cX11_bounds 36 = .ok (.iload_n 1, 1) := by decide +kernel
theorem dX11_bounds_37 : decode cX11_bounds 37 = .ok (.iconst 3, 1) := by decide +kernel
theorem dX11_bounds_38 : decode cX11_bounds 38 = .ok (.invokevirtual 279, 3) := by decide +kernel
theorem dX11_bounds_41 : decode cX11_bounds 41 = .ok (.invokestatic 117, 3) := by decide +kernel
theorem dX11_bounds_44 : decode cX11_bounds 44 = .ok (.ifCond .ne 9, 3) := by decide +kernel
theorem dX11_bounds_47 : decode cX11_bounds 47 = .ok (.aload_n 0, 1) := by decide +kernel
theorem dX11_bounds_48 : decode cX11_bounds 48 = .ok (.iconst 2, 1) := by decide +kernel
theorem dX11_bounds_49 : decode cX11_bounds 49 = .ok (.invokevirtual 252, 3) := by decide +kernel
theorem dX11_bounds_52 : decode cX11_bounds 52 = .ok (.ireturn, 1) := by decide +kernel
theorem dX11_bounds_53 : decode cX11_bounds 53 = .ok (.aload_n 0, 1) := by decide +kernel
theorem dX11_bounds_54 : decode cX11_bounds 54 = .ok (.invokevirtual 434, 3) := by decide +kernel
theorem dX11_bounds_57 : decode cX11_bounds 57 = .ok (.aload_n 0, 1) := by decide +kernel
theorem dX11_bounds_58 : decode cX11_bounds 58 = .ok (.getfield 30, 3) := by decide +kernel
theorem dX11_bounds_61 : decode cX11_bounds 61 = .ok (.bipush 8, 2) := by decide +kernel
theorem dX11_bounds_63 : decode cX11_bounds 63 = .ok (.iload_n 1, 1) := by decide +kernel
theorem dX11_bounds_64 : decode cX11_bounds 64 = .ok (.iadd, 1) := by decide +kernel
theorem dX11_bounds_65 : decode cX11_bounds 65 = .ok (.iaload, 1) := by decide +kernel
theorem dX11_bounds_66 : decode cX11_bounds 66 = .ok (.aload_n 0, 1) := by decide +kernel
theorem dX11_bounds_67 : decode cX11_bounds 67 = .ok (.getfield 30, 3) := by decide +kernel
theorem dX11_bounds_70 : decode cX11_bounds 70 = .ok (.iconst 5, 1) := by decide +kernel
theorem dX11_bounds_71 : decode cX11_bounds 71 = .ok (.iload_n 1, 1) := by decide +kernel
theorem dX11_bounds_72 : decode cX11_bounds 72 = .ok (.iadd, 1) := by decide +kernel
theorem dX11_bounds_73 : decode cX11_bounds 73 = .ok (.iaload, 1) := by decide +kernel
theorem dX11_bounds_74 : decode cX11_bounds 74 = .ok (.isub, 1) := by decide +kernel
theorem dX11_bounds_75 : decode cX11_bounds 75 = .ok (.istore 4, 2) := by decide +kernel
theorem dX11_bounds_77 : decode cX11_bounds 77 = .ok (.aload_n 0, 1) := by decide +kernel
theorem dX11_bounds_78 : decode cX11_bounds 78 = .ok (.getfield 30, 3) := by decide +kernel
theorem dX11_bounds_81 : decode cX11_bounds 81 = .ok (.iconst 5, 1) := by decide +kernel
theorem dX11_bounds_82 : decode cX11_bounds 82 = .ok (.iload_n 1, 1) := by decide +kernel
theorem dX11_bounds_83 : decode cX11_bounds 83 = .ok (.iadd, 1) := by decide +kernel
theorem dX11_bounds_84 : decode cX11_bounds 84 = .ok (.iload_n 2, 1) := by decide +kernel
theorem dX11_bounds_85 : decode cX11_bounds 85 = .ok (.iastore, 1) := by decide +kernel
theorem dX11_bounds_86 : decode cX11_bounds 86 = .ok (.aload_n 0, 1) := by decide +kernel
theorem dX11_bounds_87 : decode cX11_bounds 87 = .ok (.getfield 30, 3) := by decide +kernel
theorem dX11_bounds_90 : decode cX11_bounds 90 = .ok (.bipush 8, 2) := by decide +kernel
theorem dX11_bounds_92 : decode cX11_bounds 92 = .ok (.iload_n 1, 1) := by decide +kernel
theorem dX11_bounds_93 : decode cX11_bounds 93 = .ok (.iadd, 1) := by decide +kernel
theorem dX11_bounds_94 : decode cX11_bounds 94 = .ok (.iload_n 3, 1) := by decide +kernel
theorem dX11_bounds_95 : decode cX11_bounds 95 = .ok (.iastore, 1) := by decide +kernel
theorem dX11_bounds_96 : decode cX11_bounds 96 = .ok (.aload_n 0, 1) := by decide +kernel
theorem dX11_bounds_97 : decode cX11_bounds 97 = .ok (.iload 4, 2) := by decide +kernel
theorem dX11_bounds_99 : decode cX11_bounds 99 = .ok (.invokevirtual 282, 3) := by decide +kernel
theorem dX11_bounds_102 : decode cX11_bounds 102 = .ok (.ireturn, 1) := by decide +kernel
theorem dX11_adopt_0 : decode cX11_adopt 0 = .ok (.aload_n 0, 1) := by decide +kernel
theorem dX11_adopt_1 : decode cX11_adopt 1 = .ok (.iconst 0, 1) := by decide +kernel
theorem dX11_adopt_2 : decode cX11_adopt 2 = .ok (.putfield 92, 3) := by decide +kernel
theorem dX11_adopt_5 : decode cX11_adopt 5 = .ok (.aload_n 0, 1) := by decide +kernel
theorem dX11_adopt_6 : decode cX11_adopt 6 = .ok (.getfield 258, 3) := by decide +kernel
theorem dX11_adopt_9 : decode cX11_adopt 9 = .ok (.ifCond .ne 9, 3) := by decide +kernel
theorem dX11_adopt_12 : decode cX11_adopt 12 = .ok (.aload_n 0, 1) := by decide +kernel
theorem dX11_adopt_13 : decode cX11_adopt 13 = .ok (.iconst 1, 1) := by decide +kernel
theorem dX11_adopt_14 : decode cX11_adopt 14 = .ok (.invokevirtual 252, 3) := by decide +kernel
theorem dX11_adopt_17 : decode cX11_adopt 17 = .ok (.ireturn, 1) := by decide +kernel
theorem dX11_adopt_18 : decode cX11_adopt 18 = .ok (.aload_n 0, 1) := by decide +kernel
theorem dX11_adopt_19 : decode cX11_adopt 19 = .ok (.invokevirtual 371, 3) := by decide +kernel
theorem dX11_adopt_22 : decode cX11_adopt 22 = .ok (.aload_n 0, 1) := by decide +kernel
theorem dX11_adopt_23 : decode cX11_adopt 23 = .ok (.aload_n 0, 1) := by decide +kernel
theorem dX11_adopt_24 : decode cX11_adopt 24 = .ok (.getfield 30, 3) := by decide +kernel
theorem dX11_adopt_27 : decode cX11_adopt 27 = .ok (.iconst 1, 1) := by decide +kernel
theorem dX11_adopt_28 : decode cX11_adopt 28 = .ok (.iaload, 1) := by decide +kernel
theorem dX11_adopt_29 : decode cX11_adopt 29 = .ok (.invokevirtual 374, 3) := by decide +kernel
theorem dX11_adopt_32 : decode cX11_adopt 32 = .ok (.aload_n 0, 1) := by decide +kernel
theorem dX11_adopt_33 : decode cX11_adopt 33 = .ok (.getfield 365, 3) := by decide +kernel
theorem dX11_adopt_36 : decode cX11_adopt 36 = .ok (.bipush (-2), 2) := by decide +kernel
theorem dX11_adopt_38 : decode cX11_adopt 38 = .ok (.if_icmp .ne 9, 3) := by decide +kernel
theorem dX11_adopt_41 : decode cX11_adopt 41 = .ok (.aload_n 0, 1) := by decide +kernel
theorem dX11_adopt_42 : decode cX11_adopt 42 = .ok (.iconst 5, 1) := by decide +kernel
theorem dX11_adopt_43 : decode cX11_adopt 43 = .ok (.invokevirtual 252, 3) := by decide +kernel
theorem dX11_adopt_46 : decode cX11_adopt 46 = .ok (.ireturn, 1) := by decide +kernel
theorem dX11_adopt_47 : decode cX11_adopt 47 = .ok (.aload_n 0, 1) := by decide +kernel
theorem dX11_adopt_48 : decode cX11_adopt 48 = .ok (.invokevirtual 434, 3) := by decide +kernel
theorem dX11_adopt_51 : decode cX11_adopt 51 = .ok (.iconst 0, 1) := by decide +kernel
theorem dX11_adopt_52 : decode cX11_adopt 52 = .ok (.istore_n 1, 1) := by decide +kernel
theorem dX11_adopt_53 : decode cX11_adopt 53 = .ok (.iload_n 1, 1) := by decide +kernel
theorem dX11_adopt_54 : decode cX11_adopt 54 = .ok (.aload_n 0, 1) := by decide +kernel
theorem dX11_adopt_55 : decode cX11_adopt 55 = .ok (.getfield 270, 3) := by decide +kernel
theorem dX11_adopt_58 : decode cX11_adopt 58 = .ok (.if_icmp .ge 23, 3) := by decide +kernel
theorem dX11_adopt_61 : decode cX11_adopt 61 = .ok (.aload_n 0, 1) := by decide +kernel
theorem dX11_adopt_62 : decode cX11_adopt 62 = .ok (.getfield 30, 3) := by decide +kernel
theorem dX11_adopt_65 : decode cX11_adopt 65 = .ok (.iconst 2, 1) := by decide +kernel
theorem dX11_adopt_66 : decode cX11_adopt 66 = .ok (.iload_n 1, 1) := by decide +kernel
theorem dX11_adopt_67 : decode cX11_adopt 67 = .ok (.iadd, 1) := by decide +kernel
theorem dX11_adopt_68 : decode cX11_adopt 68 = .ok (.aload_n 0, 1) := by decide +kernel
theorem dX11_adopt_69 : decode cX11_adopt 69 = .ok (.getfield 58, 3) := by decide +kernel
theorem dX11_adopt_72 : decode cX11_adopt 72 = .ok (.iload_n 1, 1) := by decide +kernel
theorem dX11_adopt_73 : decode cX11_adopt 73 = .ok (.iaload, 1) := by decide +kernel
theorem dX11_adopt_74 : decode cX11_adopt 74 = .ok (.iastore, 1) := by decide +kernel
theorem dX11_adopt_75 : decode cX11_adopt 75 = .ok (.iinc 1 1, 3) := by decide +kernel
theorem dX11_adopt_78 : decode cX11_adopt 78 = .ok (.goto (-25), 3) := by decide +kernel
theorem dX11_adopt_81 : decode cX11_adopt 81 = .ok (.aload_n 0, 1) := by decide +kernel
theorem dX11_adopt_82 : decode cX11_adopt 82 = .ok (.aload_n 0, 1) := by decide +kernel
theorem dX11_adopt_83 : decode cX11_adopt 83 = .ok (.getfield 365, 3) := by decide +kernel
theorem dX11_adopt_86 : decode cX11_adopt 86 = .ok (.invokevirtual 282, 3) := by decide +kernel
theorem dX11_adopt_89 : decode cX11_adopt 89 = .ok (.ireturn, 1) := by decide +kernel
theorem dX11_payload_0 : decode cX11_payload 0 = .ok (.aload_n 0, 1) := by decide +kernel
theorem dX11_payload_1 : decode cX11_payload 1 = .ok (.iconst 0, 1) := by decide +kernel
theorem dX11_payload_2 : decode cX11_payload 2 = .ok (.putfield 92, 3) := by decide +kernel
theorem dX11_payload_5 : decode cX11_payload 5 = .ok (.aload_n 0, 1) := by decide +kernel
theorem dX11_payload_6 : decode cX11_payload 6 = .ok (.getfield 258, 3) := by decide +kernel
theorem dX11_payload_9 : decode cX11_payload 9 = .ok (.ifCond .ne 9, 3) := by decide +kernel
theorem dX11_payload_12 : decode cX11_payload 12 = .ok (.aload_n 0, 1) := by decide +kernel
theorem dX11_payload_13 : decode cX11_payload 13 = .ok (.iconst 1, 1) := by decide +kernel
theorem dX11_payload_14 : decode cX11_payload 14 = .ok (.invokevirtual 252, 3) := by decide +kernel
theorem dX11_payload_17 : decode cX11_payload 17 = .ok (.ireturn, 1) := by decide +kernel
theorem dX11_payload_18 : decode cX11_payload 18 = .ok (.iload_n 1, 1) := by decide +kernel
theorem dX11_payload_19 : decode cX11_payload 19 = .ok (.iconst 1, 1) := by decide +kernel
theorem dX11_payload_20 : decode cX11_payload 20 = .ok (.bipush 40, 2) := by decide +kernel
theorem dX11_payload_22 : decode cX11_payload 22 = .ok (.invokestatic 117, 3) := by decide +kernel
theorem dX11_payload_25 : decode cX11_payload 25 = .ok (.ifCond .ne 9, 3) := by decide +kernel
theorem dX11_payload_28 : decode cX11_payload 28 = .ok (.aload_n 0, 1) := by decide +kernel
theorem dX11_payload_29 : decode cX11_payload 29 = .ok (.iconst 2, 1) := by decide +kernel
theorem dX11_payload_30 : decode cX11_payload 30 = .ok (.invokevirtual 252, 3) := by decide +kernel
theorem dX11_payload_33 : decode cX11_payload 33 = .ok (.ireturn, 1) := by decide +kernel
theorem dX11_payload_34 : decode cX11_payload 34 = .ok (.aload_n 0, 1) := by decide +kernel
theorem dX11_payload_35 : decode cX11_payload 35 = .ok (.invokevirtual 434, 3) := by decide +kernel
theorem dX11_payload_38 : decode cX11_payload 38 = .ok (.aload_n 0, 1) := by decide +kernel
theorem dX11_payload_39 : decode cX11_payload 39 = .ok (.getfield 30, 3) := by decide +kernel
theorem dX11_payload_42 : decode cX11_payload 42 = .ok (.iconst 0, 1) := by decide +kernel
theorem dX11_payload_43 : decode cX11_payload 43 = .ok (.iaload, 1) := by decide +kernel
theorem dX11_payload_44 : decode cX11_payload 44 = .ok (.istore_n 2, 1) := by decide +kernel
theorem dX11_payload_45 : decode cX11_payload 45 = .ok (.aload_n 0, 1) := by decide +kernel
theorem dX11_payload_46 : decode cX11_payload 46 = .ok (.getfield 30, 3) := by decide +kernel
theorem dX11_payload_49 : decode cX11_payload 49 = .ok (.iconst 0, 1) := by decide +kernel
theorem dX11_payload_50 : decode cX11_payload 50 = .ok (.iload_n 1, 1) := by decide +kernel
theorem dX11_payload_51 : decode cX11_payload 51 = .ok (.iastore, 1) := by decide +kernel
theorem dX11_payload_52 : decode cX11_payload 52 = .ok (.aload_n 0, 1) := by decide +kernel
theorem dX11_payload_53 : decode cX11_payload 53 = .ok (.iload_n 2, 1) := by decide +kernel
theorem dX11_payload_54 : decode cX11_payload 54 = .ok (.invokevirtual 282, 3) := by decide +kernel
theorem dX11_payload_57 : decode cX11_payload 57 = .ok (.ireturn, 1) := by decide +kernel
theorem dX11_power_0 : decode cX11_power 0 = .ok (.aload_n 0, 1) := by decide +kernel
theorem dX11_power_1 : decode cX11_power 1 = .ok (.iconst 0, 1) := by decide +kernel
theorem dX11_power_2 : decode cX11_power 2 = .ok (.putfield 92, 3) := by decide +kernel
theorem dX11_power_5 : decode cX11_power 5 = .ok (.aload_n 0, 1) := by decide +kernel
theorem dX11_power_6 : decode cX11_power 6 = .ok (.getfield 258, 3) := by decide +kernel
theorem dX11_power_9 : decode cX11_power 9 = .ok (.ifCond .ne 9, 3) := by decide +kernel
theorem dX11_power_12 : decode cX11_power 12 = .ok (.aload_n 0, 1) := by decide +kernel
theorem dX11_power_13 : decode cX11_power 13 = .ok (.iconst 1, 1) := by decide +kernel
theorem dX11_power_14 : decode cX11_power 14 = .ok (.invokevirtual 252, 3) := by decide +kernel
theorem dX11_power_17 : decode cX11_power 17 = .ok (.ireturn, 1) := by decide +kernel
theorem dX11_power_18 : decode cX11_power 18 = .ok (.iload_n 1, 1) := by decide +kernel
theorem dX11_power_19 : decode cX11_power 19 = .ok (.iconst 1, 1) := by decide +kernel
theorem dX11_power_20 : decode cX11_power 20 = .ok (.bipush 12, 2) := by decide +kernel
theorem dX11_power_22 : decode cX11_power 22 = .ok (.invokestatic 117, 3) := by decide +kernel
theorem dX11_power_25 : decode cX11_power 25 = .ok (.ifCond .ne 9, 3) := by decide +kernel
theorem dX11_power_28 : decode cX11_power 28 = .ok (.aload_n 0, 1) := by decide +kernel
theorem dX11_power_29 : decode cX11_power 29 = .ok (.iconst 2, 1) := by decide +kernel
theorem dX11_power_30 : decode cX11_power 30 = .ok (.invokevirtual 252, 3) := by decide +kernel
theorem dX11_power_33 : decode cX11_power 33 = .ok (.ireturn, 1) := by decide +kernel
theorem dX11_power_34 : decode cX11_power 34 = .ok (.aload_n 0, 1) := by decide +kernel
theorem dX11_power_35 : decode cX11_power 35 = .ok (.invokevirtual 434, 3) := by decide +kernel
theorem dX11_power_38 : decode cX11_power 38 = .ok (.aload_n 0, 1) := by decide +kernel
theorem dX11_power_39 : decode cX11_power 39 = .ok (.getfield 30, 3) := by decide +kernel
theorem dX11_power_42 : decode cX11_power 42 = .ok (.iconst 1, 1) := by decide +kernel
theorem dX11_power_43 : decode cX11_power 43 = .ok (.iaload, 1) := by decide +kernel
theorem dX11_power_44 : decode cX11_power 44 = .ok (.istore_n 2, 1) := by decide +kernel
theorem dX11_power_45 : decode cX11_power 45 = .ok (.aload_n 0, 1) := by decide +kernel
theorem dX11_power_46 : decode cX11_power 46 = .ok (.getfield 30, 3) := by decide +kernel
theorem dX11_power_49 : decode cX11_power 49 = .ok (.iconst 1, 1) := by decide +kernel
theorem dX11_power_50 : decode cX11_power 50 = .ok (.iload_n 1, 1) := by decide +kernel
theorem dX11_power_51 : decode cX11_power 51 = .ok (.iastore, 1) := by decide +kernel
theorem dX11_power_52 : decode cX11_power 52 = .ok (.aload_n 0, 1) := by decide +kernel
theorem dX11_power_53 : decode cX11_power 53 = .ok (.iload_n 2, 1) := by decide +kernel
theorem dX11_power_54 : decode cX11_power 54 = .ok (.invokevirtual 282, 3) := by decide +kernel
theorem dX11_power_57 : decode cX11_power 57 = .ok (.ireturn, 1) := by decide +kernel
theorem dX11_undo_0 : decode cX11_undo 0 = .ok (.aload_n 0, 1) := by decide +kernel
theorem dX11_undo_1 : decode cX11_undo 1 = .ok (.iconst 0, 1) := by decide +kernel
theorem dX11_undo_2 : decode cX11_undo 2 = .ok (.putfield 92, 3) := by decide +kernel
theorem dX11_undo_5 : decode cX11_undo 5 = .ok (.aload_n 0, 1) := by decide +kernel
theorem dX11_undo_6 : decode cX11_undo 6 = .ok (.getfield 258, 3) := by decide +kernel
theorem dX11_undo_9 : decode cX11_undo 9 = .ok (.ifCond .eq 10, 3) := by decide +kernel
theorem dX11_undo_12 : decode cX11_undo 12 = .ok (.aload_n 0, 1) := by decide +kernel
theorem dX11_undo_13 : decode cX11_undo 13 = .ok (.getfield 276, 3) := by decide +kernel
theorem dX11_undo_16 : decode cX11_undo 16 = .ok (.ifCond .ne 11, 3) := by decide +kernel
theorem dX11_undo_19 : decode cX11_undo 19 = .ok (.aload_n 0, 1) := by decide +kernel
theorem dX11_undo_20 : decode cX11_undo 20 = .ok (.iconst 1, 1) := by decide +kernel
theorem dX11_undo_21 : decode cX11_undo 21 = .ok (.invokevirtual 252, 3) := by decide +kernel
theorem dX11_undo_24 : decode cX11_undo 24 = .ok (.pop, 1) := by decide +kernel
theorem dX11_undo_25 : decode cX11_undo 25 = .ok (.iconst 0, 1) := by decide +kernel
theorem dX11_undo_26 : decode cX11_undo 26 = .ok (.ireturn, 1) := by decide +kernel
theorem dX11_undo_27 : decode cX11_undo 27 = .ok (.aload_n 0, 1) := by decide +kernel
theorem dX11_undo_28 : decode cX11_undo 28 = .ok (.dup, 1) := by decide +kernel
theorem dX11_undo_29 : decode cX11_undo 29 = .ok (.getfield 276, 3) := by decide +kernel
theorem dX11_undo_32 : decode cX11_undo 32 = .ok (.iconst 1, 1) := by decide +kernel
theorem dX11_undo_33 : decode cX11_undo 33 = .ok (.isub, 1) := by decide +kernel
theorem dX11_undo_34 : decode cX11_undo 34 = .ok (.putfield 276, 3) := by decide +kernel
theorem dX11_undo_37 : decode cX11_undo 37 = .ok (.iconst 0, 1) := by decide +kernel
theorem dX11_undo_38 : decode cX11_undo 38 = .ok (.istore_n 1, 1) := by decide +kernel
theorem dX11_undo_39 : decode cX11_undo 39 = .ok (.iload_n 1, 1) := by decide +kernel
theorem dX11_undo_40 : decode cX11_undo 40 = .ok (.bipush 11, 2) := by decide +kernel
theorem dX11_undo_42 : decode cX11_undo 42 = .ok (.if_icmp .ge 29, 3) := by decide +kernel
theorem dX11_undo_45 : decode cX11_undo 45 = .ok (.aload_n 0, 1) := by decide +kernel
theorem dX11_undo_46 : decode cX11_undo 46 = .ok (.getfield 30, 3) := by decide +kernel
theorem dX11_undo_49 : decode cX11_undo 49 = .ok (.iload_n 1, 1) := by decide +kernel
theorem dX11_undo_50 : decode cX11_undo 50 = .ok (.aload_n 0, 1) := by decide +kernel
theorem dX11_undo_51 : decode cX11_undo 51 = .ok (.getfield 33, 3) := by decide +kernel
theorem dX11_undo_54 : decode cX11_undo 54 = .ok (.bipush 11, 2) := by decide +kernel
theorem dX11_undo_56 : decode cX11_undo 56 = .ok (.aload_n 0, 1) := by decide +kernel
theorem dX11_undo_57 : decode cX11_undo 57 = .ok (.getfield 276, 3) := by decide +kernel
theorem dX11_undo_60 : decode cX11_undo 60 = .ok (.imul, 1) := by decide +kernel
theorem dX11_undo_61 : decode cX11_undo 61 = .ok (.iload_n 1, 1) := by decide +kernel
theorem dX11_undo_62 : decode cX11_undo 62 = .ok (.iadd, 1) := by decide +kernel
theorem dX11_undo_63 : decode cX11_undo 63 = .ok (.iaload, 1) := by decide +kernel
theorem dX11_undo_64 : decode cX11_undo 64 = .ok (.iastore, 1) := by decide +kernel
theorem dX11_undo_65 : decode cX11_undo 65 = .ok (.iinc 1 1, 3) := by decide +kernel
theorem dX11_undo_68 : decode cX11_undo 68 = .ok (.goto (-29), 3) := by decide +kernel
theorem dX11_undo_71 : decode cX11_undo 71 = .ok (.aload_n 0, 1) := by decide +kernel
theorem dX11_undo_72 : decode cX11_undo 72 = .ok (.iconst 0, 1) := by decide +kernel
theorem dX11_undo_73 : decode cX11_undo 73 = .ok (.invokevirtual 282, 3) := by decide +kernel
theorem dX11_undo_76 : decode cX11_undo 76 = .ok (.pop, 1) := by decide +kernel
theorem dX11_undo_77 : decode cX11_undo 77 = .ok (.iconst 1, 1) := by decide +kernel
theorem dX11_undo_78 : decode cX11_undo 78 = .ok (.ireturn, 1) := by decide +kernel
theorem dX11_weak_0 : decode cX11_weak 0 = .ok (.aload_n 0, 1) := by decide +kernel
theorem dX11_weak_1 : decode cX11_weak 1 = .ok (.iconst 0, 1) := by decide +kernel
theorem dX11_weak_2 : decode cX11_weak 2 = .ok (.putfield 92, 3) := by decide +kernel
theorem dX11_weak_5 : decode cX11_weak 5 = .ok (.aload_n 0, 1) := by decide +kernel
theorem dX11_weak_6 : decode cX11_weak 6 = .ok (.getfield 258, 3) := by decide +kernel
theorem dX11_weak_9 : decode cX11_weak 9 = .ok (.ifCond .eq 7, 3) := by decide +kernel
theorem dX11_weak_12 : decode cX11_weak 12 = .ok (.aload_n 0, 1) := by decide +kernel
theorem dX11_weak_13 : decode cX11_weak 13 = .ok (.invokevirtual 304, 3) := by decide +kernel
theorem dX11_weak_16 : decode cX11_weak 16 = .ok (.iconst 0, 1) := by decide +kernel
theorem dX11_weak_17 : decode cX11_weak 17 = .ok (.istore_n 2, 1) := by decide +kernel
theorem dX11_weak_18 : decode cX11_weak 18 = .ok (.iconst 0, 1) := by decide +kernel
theorem dX11_weak_19 : decode cX11_weak 19 = .ok (.istore_n 3, 1) := by decide +kernel
theorem dX11_weak_20 : decode cX11_weak 20 = .ok (.aload_n 0, 1) := by decide +kernel
theorem dX11_weak_21 : decode cX11_weak 21 = .ok (.getfield 258, 3) := by decide +kernel
theorem dX11_weak_24 : decode cX11_weak 24 = .ok (.ifCond .eq 38, 3) := by decide +kernel
theorem dX11_weak_27 : decode cX11_weak 27 = .ok (.iload_n 3, 1) := by decide +kernel
theorem dX11_weak_28 : decode cX11_weak 28 = .ok (.aload_n 0, 1) := by decide +kernel
theorem dX11_weak_29 : decode cX11_weak 29 = .ok (.getfield 270, 3) := by decide +kernel
theorem dX11_weak_32 : decode cX11_weak 32 = .ok (.if_icmp .ge 30, 3) := by decide +kernel
theorem dX11_weak_35 : decode cX11_weak 35 = .ok (.aload_n 0, 1) := by decide +kernel
theorem dX11_weak_36 : decode cX11_weak 36 = .ok (.iload_n 3, 1) := by decide +kernel
theorem dX11_weak_37 : decode cX11_weak 37 = .ok (.invokevirtual 297, 3) := by decide +kernel
theorem dX11_weak_40 : decode cX11_weak 40 = .ok (.ifCond .eq 6, 3) := by decide +kernel
theorem dX11_weak_43 : decode cX11_weak 43 = .ok (.goto 13, 3) := by decide +kernel
theorem dX11_weak_46 : decode cX11_weak 46 = .ok (.iload_n 2, 1) := by decide +kernel
theorem dX11_weak_47 : decode cX11_weak 47 = .ok (.iload_n 1, 1) := by decide +kernel
theorem dX11_weak_48 : decode cX11_weak 48 = .ok (.if_icmp .ne 5, 3) := by decide +kernel
theorem dX11_weak_51 : decode cX11_weak 51 = .ok (.iload_n 3, 1) := by decide +kernel
theorem dX11_weak_52 : decode cX11_weak 52 = .ok (.ireturn, 1) := by decide +kernel
theorem dX11_weak_53 : decode cX11_weak 53 = .ok (.iinc 2 1, 3) := by decide +kernel
theorem dX11_weak_56 : decode cX11_weak 56 = .ok (.iinc 3 1, 3) := by decide +kernel
theorem dX11_weak_59 : decode cX11_weak 59 = .ok (.goto (-39), 3) := by decide +kernel
theorem dX11_weak_62 : decode cX11_weak 62 = .ok (.aload_n 0, 1) := by decide +kernel
theorem dX11_weak_63 : decode cX11_weak 63 = .ok (.iconst 1, 1) := by decide +kernel
theorem dX11_weak_64 : decode cX11_weak 64 = .ok (.putfield 92, 3) := by decide +kernel
theorem dX11_weak_67 : decode cX11_weak 67 = .ok (.iconst 0, 1) := by decide +kernel
theorem dX11_weak_68 : decode cX11_weak 68 = .ok (.ireturn, 1) := by decide +kernel
theorem dX11_size_0 : decode cX11_size 0 = .ok (.aload_n 0, 1) := by decide +kernel
theorem dX11_size_1 : decode cX11_size 1 = .ok (.iconst 0, 1) := by decide +kernel
theorem dX11_size_2 : decode cX11_size 2 = .ok (.putfield 92, 3) := by decide +kernel
theorem dX11_size_5 : decode cX11_size 5 = .ok (.iload_n 1, 1) := by decide +kernel
theorem dX11_size_6 : decode cX11_size 6 = .ok (.ifCond .ne 10, 3) := by decide +kernel
theorem dX11_size_9 : decode cX11_size 9 = .ok (.aload_n 0, 1) := by decide +kernel
theorem dX11_size_10 : decode cX11_size 10 = .ok (.getfield 249, 3) := by decide +kernel
theorem dX11_size_13 : decode cX11_size 13 = .ok (.goto 27, 3) := by decide +kernel
theorem dX11_size_16 : decode cX11_size 16 = .ok (.iload_n 1, 1) := by decide +kernel
theorem dX11_size_17 : decode cX11_size 17 = .ok (.iconst 1, 1) := by decide +kernel
theorem dX11_size_18 : decode cX11_size 18 = .ok (.if_icmp .ne 21, 3) := by decide +kernel
theorem dX11_size_21 : decode cX11_size 21 = .ok (.aload_n 0, 1) := by decide +kernel
theorem dX11_size_22 : decode cX11_size 22 = .ok (.getfield 258, 3) := by decide +kernel
theorem dX11_size_25 : decode cX11_size 25 = .ok (.ifCond .eq 10, 3) := by decide +kernel
theorem dX11_size_28 : decode cX11_size 28 = .ok (.aload_n 0, 1) := by decide +kernel
theorem dX11_size_29 : decode cX11_size 29 = .ok (.getfield 276, 3) := by decide +kernel
theorem dX11_size_32 : decode cX11_size 32 = .ok (.goto 8, 3) := by decide +kernel
theorem dX11_size_35 : decode cX11_size 35 = .ok (.iconst 0, 1) := by decide +kernel
theorem dX11_size_36 : decode cX11_size 36 = .ok (.goto 4, 3) := by decide +kernel
theorem dX11_size_39 : decode cX11_size 39 = .ok (.iconst (-1), 1) := by decide +kernel
theorem dX11_size_40 : decode cX11_size 40 = .ok (.ireturn, 1) := by decide +kernel
theorem dX11_trouble_0 : decode cX11_trouble 0 = .ok (.aload_n 0, 1) := by decide +kernel
theorem dX11_trouble_1 : decode cX11_trouble 1 = .ok (.iconst 0, 1) := by decide +kernel
theorem dX11_trouble_2 : decode cX11_trouble 2 = .ok (.putfield 92, 3) := by decide +kernel
theorem dX11_trouble_5 : decode cX11_trouble 5 = .ok (.aload_n 0, 1) := by decide +kernel
theorem dX11_trouble_6 : decode cX11_trouble 6 = .ok (.getfield 95, 3) := by decide +kernel
theorem dX11_trouble_9 : decode cX11_trouble 9 = .ok (.ireturn, 1) := by decide +kernel
