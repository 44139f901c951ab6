theorem dX0_init_0 : decode cX0_init 0 = .ok (.aload_n 0, 1) := by decide +kernel
theorem dX0_init_1 : decode cX0_init 1 = .ok (.invokespecial 3, 3) := by decide +kernel
theorem dX0_init_4 : decode cX0_init 4 = .ok (.aload_n 0, 1) := by decide +kernel
theorem dX0_init_5 : decode cX0_init 5 = .ok (.bipush 6, 2) := by decide +kernel
theorem dX0_init_7 : decode cX0_init 7 = .ok (.anewarray 9, 3) := by decide +kernel
theorem dX0_init_10 : decode cX0_init 10 = .ok (.putfield 11, 3) := by decide +kernel
theorem dX0_init_13 : decode cX0_init 13 = .ok (.aload_n 0, 1) := by decide +kernel
theorem dX0_init_14 : decode cX0_init 14 = .ok (.bipush 6, 2) := by decide +kernel
theorem dX0_init_16 : decode cX0_init 16 = .ok (.newarray .int, 2) := by decide +kernel
theorem dX0_init_18 : decode cX0_init 18 = .ok (.putfield 17, 3) := by decide +kernel
theorem dX0_init_21 : decode cX0_init 21 = .ok (.aload_n 0, 1) := by decide +kernel
theorem dX0_init_22 : decode cX0_init 22 = .ok (.bipush 64, 2) := by decide +kernel
theorem dX0_init_24 : decode cX0_init 24 = .ok (.newarray .int, 2) := by decide +kernel
theorem dX0_init_26 : decode cX0_init 26 = .ok (.putfield 21, 3) := by decide +kernel
theorem dX0_init_29 : decode cX0_init 29 = .ok (.aload_n 0, 1) := by decide +kernel
theorem dX0_init_30 : decode cX0_init 30 = .ok (.iconst 1, 1) := by decide +kernel
theorem dX0_init_31 : decode cX0_init 31 = .ok (.putfield 24, 3) := by decide +kernel
theorem dX0_init_34 : decode cX0_init 34 = .ok (.iconst 0, 1) := by decide +kernel
theorem dX0_init_35 : decode cX0_init 35 = .ok (.istore_n 1, 1) := by decide +kernel
theorem dX0_init_36 : decode cX0_init 36 = .ok (.iload_n 1, 1) := by decide +kernel
theorem dX0_init_37 : decode cX0_init 37 = .ok (.bipush 6, 2) := by decide +kernel
theorem dX0_init_39 : decode cX0_init 39 = .ok (.if_icmp .ge 22, 3) := by decide +kernel
theorem dX0_init_42 : decode cX0_init 42 = .ok (.aload_n 0, 1) := by decide +kernel
theorem dX0_init_43 : decode cX0_init 43 = .ok (.getfield 11, 3) := by decide +kernel
theorem dX0_init_46 : decode cX0_init 46 = .ok (.iload_n 1, 1) := by decide +kernel
theorem dX0_init_47 : decode cX0_init 47 = .ok (.new 9, 3) := by decide +kernel
theorem dX0_init_50 : decode cX0_init 50 = .ok (.dup, 1) := by decide +kernel
theorem dX0_init_51 : decode cX0_init 51 = .ok (.invokespecial 28, 3) := by decide +kernel
theorem dX0_init_54 : decode cX0_init 54 = .ok (.aastore, 1) := by decide +kernel
theorem dX0_init_55 : decode cX0_init 55 = .ok (.iinc 1 1, 3) := by decide +kernel
theorem dX0_init_58 : decode cX0_init 58 = .ok (.goto (-22), 3) := by decide +kernel
theorem dX0_init_61 : decode cX0_init 61 = .ok (.aload_n 0, 1) := by decide +kernel
theorem dX0_init_62 : decode cX0_init 62 = .ok (.getfield 11, 3) := by decide +kernel
theorem dX0_init_65 : decode cX0_init 65 = .ok (.iconst 0, 1) := by decide +kernel
theorem dX0_init_66 : decode cX0_init 66 = .ok (.aaload, 1) := by decide +kernel
theorem dX0_init_67 : decode cX0_init 67 = .ok (.invokestatic 29, 3) := by decide +kernel
theorem dX0_init_70 : decode cX0_init 70 = .ok (.return_, 1) := by decide +kernel
theorem dX0_writeFirst_0 : decode cX0_writeFirst 0 = .ok (.aload_n 0, 1) := by decide +kernel
theorem dX0_writeFirst_1 : decode cX0_writeFirst 1 = .ok (.iconst 0, 1) := by decide +kernel
theorem dX0_writeFirst_2 : decode cX0_writeFirst 2 = .ok (.invokevirtual 33, 3) := by decide +kernel
theorem dX0_writeFirst_5 : decode cX0_writeFirst 5 = .ok (.aload_n 0, 1) := by decide +kernel
theorem dX0_writeFirst_6 : decode cX0_writeFirst 6 = .ok (.iconst 1, 1) := by decide +kernel
theorem dX0_writeFirst_7 : decode cX0_writeFirst 7 = .ok (.invokevirtual 37, 3) := by decide +kernel
theorem dX0_writeFirst_10 : decode cX0_writeFirst 10 = .ok (.aload_n 0, 1) := by decide +kernel
theorem dX0_writeFirst_11 : decode cX0_writeFirst 11 = .ok (.iconst 1, 1) := by decide +kernel
theorem dX0_writeFirst_12 : decode cX0_writeFirst 12 = .ok (.invokevirtual 33, 3) := by decide +kernel
theorem dX0_writeFirst_15 : decode cX0_writeFirst 15 = .ok (.aload_n 0, 1) := by decide +kernel
theorem dX0_writeFirst_16 : decode cX0_writeFirst 16 = .ok (.iconst 0, 1) := by decide +kernel
theorem dX0_writeFirst_17 : decode cX0_writeFirst 17 = .ok (.invokevirtual 37, 3) := by decide +kernel
theorem dX0_writeFirst_20 : decode cX0_writeFirst 20 = .ok (.aload_n 0, 1) := by decide +kernel
theorem dX0_writeFirst_21 : decode cX0_writeFirst 21 = .ok (.iconst 2, 1) := by decide +kernel
theorem dX0_writeFirst_22 : decode cX0_writeFirst 22 = .ok (.invokevirtual 33, 3) := by decide +kernel
theorem dX0_writeFirst_25 : decode cX0_writeFirst 25 = .ok (.aload_n 0, 1) := by decide +kernel
theorem dX0_writeFirst_26 : decode cX0_writeFirst 26 = .ok (.iconst 1, 1) := by decide +kernel
theorem dX0_writeFirst_27 : decode cX0_writeFirst 27 = .ok (.invokevirtual 37, 3) := by decide +kernel
theorem dX0_writeFirst_30 : decode cX0_writeFirst 30 = .ok (.aload_n 0, 1) := by decide +kernel
theorem dX0_writeFirst_31 : decode cX0_writeFirst 31 = .ok (.iconst 3, 1) := by decide +kernel
theorem dX0_writeFirst_32 : decode cX0_writeFirst 32 = .ok (.invokevirtual 33, 3) := by decide +kernel
theorem dX0_writeFirst_35 : decode cX0_writeFirst 35 = .ok (.return_, 1) := by decide +kernel
theorem dX0_namesWeek_0 : decode cX0_namesWeek 0 = .ok (.iload_n 1, 1) := by decide +kernel
theorem dX0_namesWeek_1 : decode cX0_namesWeek 1 = .ok (.aload_n 0, 1) := by decide +kernel
theorem dX0_namesWeek_2 : decode cX0_namesWeek 2 = .ok (.getfield 24, 3) := by decide +kernel
theorem dX0_namesWeek_5 : decode cX0_namesWeek 5 = .ok (.invokestatic 40, 3) := by decide +kernel
theorem dX0_namesWeek_8 : decode cX0_namesWeek 8 = .ok (.ifCond .eq 19, 3) := by decide +kernel
theorem dX0_namesWeek_11 : decode cX0_namesWeek 11 = .ok (.aload_n 0, 1) := by decide +kernel
theorem dX0_namesWeek_12 : decode cX0_namesWeek 12 = .ok (.getfield 11, 3) := by decide +kernel
theorem dX0_namesWeek_15 : decode cX0_namesWeek 15 = .ok (.iload_n 1, 1) := by decide +kernel
theorem dX0_namesWeek_16 : decode cX0_namesWeek 16 = .ok (.aaload, 1) := by decide +kernel
theorem dX0_namesWeek_17 : decode cX0_namesWeek 17 = .ok (.getfield 44, 3) := by decide +kernel
theorem dX0_namesWeek_20 : decode cX0_namesWeek 20 = .ok (.ifCond .eq 7, 3) := by decide +kernel
theorem dX0_namesWeek_23 : decode cX0_namesWeek 23 = .ok (.iconst 1, 1) := by decide +kernel
theorem dX0_namesWeek_24 : decode cX0_namesWeek 24 = .ok (.goto 4, 3) := by decide +kernel
theorem dX0_namesWeek_27 : decode cX0_namesWeek 27 = .ok (.iconst 0, 1) := by decide +kernel
theorem dX0_namesWeek_28 : decode cX0_namesWeek 28 = .ok (.ireturn, 1) := by decide +kernel
theorem dX0_says_0 : decode cX0_says 0 = .ok (.iload_n 1, 1) := by decide +kernel
theorem dX0_says_1 : decode cX0_says 1 = .ok (.aload_n 0, 1) := by decide +kernel
theorem dX0_says_2 : decode cX0_says 2 = .ok (.getfield 24, 3) := by decide +kernel
theorem dX0_says_5 : decode cX0_says 5 = .ok (.invokestatic 40, 3) := by decide +kernel
theorem dX0_says_8 : decode cX0_says 8 = .ok (.ifCond .eq 11, 3) := by decide +kernel
theorem dX0_says_11 : decode cX0_says 11 = .ok (.iload_n 2, 1) := by decide +kernel
theorem dX0_says_12 : decode cX0_says 12 = .ok (.iconst 3, 1) := by decide +kernel
theorem dX0_says_13 : decode cX0_says 13 = .ok (.invokestatic 40, 3) := by decide +kernel
theorem dX0_says_16 : decode cX0_says 16 = .ok (.ifCond .ne 5, 3) := by decide +kernel
theorem dX0_says_19 : decode cX0_says 19 = .ok (.iconst 0, 1) := by decide +kernel
theorem dX0_says_20 : decode cX0_says 20 = .ok (.ireturn, 1) := by decide +kernel
theorem dX0_says_21 : decode cX0_says 21 = .ok (.aload_n 0, 1) := by decide +kernel
theorem dX0_says_22 : decode cX0_says 22 = .ok (.getfield 11, 3) := by decide +kernel
theorem dX0_says_25 : decode cX0_says 25 = .ok (.iload_n 1, 1) := by decide +kernel
theorem dX0_says_26 : decode cX0_says 26 = .ok (.aaload, 1) := by decide +kernel
theorem dX0_says_27 : decode cX0_says 27 = .ok (.astore_n 3, 1) := by decide +kernel
theorem dX0_says_28 : decode cX0_says 28 = .ok (.aload_n 3, 1) := by decide +kernel
theorem dX0_says_29 : decode cX0_says 29 = .ok (.getfield 48, 3) := by decide +kernel
theorem dX0_says_32 : decode cX0_says 32 = .ok (.iload_n 2, 1) := by decide +kernel
theorem dX0_says_33 : decode cX0_says 33 = .ok (.iconst 1, 1) := by decide +kernel
theorem dX0_says_34 : decode cX0_says 34 = .ok (.iadd, 1) := by decide +kernel
theorem dX0_says_35 : decode cX0_says 35 = .ok (.iaload, 1) := by decide +kernel
theorem dX0_says_36 : decode cX0_says 36 = .ok (.istore 4, 2) := by decide +kernel
theorem dX0_says_38 : decode cX0_says 38 = .ok (.iconst 0, 1) := by decide +kernel
theorem dX0_says_39 : decode cX0_says 39 = .ok (.istore 5, 2) := by decide +kernel
theorem dX0_says_41 : decode cX0_says 41 = .ok (.aload_n 3, 1) := by decide +kernel
theorem dX0_says_42 : decode cX0_says 42 = .ok (.getfield 48, 3) := by decide +kernel
theorem dX0_says_45 : decode cX0_says 45 = .ok (.iload_n 2, 1) := by decide +kernel
theorem dX0_says_46 : decode cX0_says 46 = .ok (.iaload, 1) := by decide +kernel
theorem dX0_says_47 : decode cX0_says 47 = .ok (.istore 6, 2) := by decide +kernel
theorem dX0_says_49 : decode cX0_says 49 = .ok (.iload 6, 2) := by decide +kernel
theorem dX0_says_51 : decode cX0_says 51 = .ok (.iload 4, 2) := by decide +kernel
theorem dX0_says_53 : decode cX0_says 53 = .ok (.if_icmp .ge 166, 3) := by decide +kernel
theorem dX0_says_56 : decode cX0_says 56 = .ok (.iload 6, 2) := by decide +kernel
theorem dX0_says_58 : decode cX0_says 58 = .ok (.aload_n 3, 1) := by decide +kernel
theorem dX0_says_59 : decode cX0_says 59 = .ok (.getfield 51, 3) := by decide +kernel
theorem dX0_says_62 : decode cX0_says 62 = .ok (.if_icmp .ge 157, 3) := by decide +kernel
theorem dX0_says_65 : decode cX0_says 65 = .ok (.aload_n 3, 1) := by decide +kernel
theorem dX0_says_66 : decode cX0_says 66 = .ok (.getfield 54, 3) := by decide +kernel
theorem dX0_says_69 : decode cX0_says 69 = .ok (.iload 6, 2) := by decide +kernel
theorem dX0_says_71 : decode cX0_says 71 = .ok (.iaload, 1) := by decide +kernel
theorem dX0_says_72 : decode cX0_says 72 = .ok (.istore 7, 2) := by decide +kernel
theorem dX0_says_74 : decode cX0_says 74 = .ok (.iload 7, 2) := by decide +kernel
theorem dX0_says_76 : decode cX0_says 76 = .ok (.ifCond .ge 10, 3) := by decide +kernel
theorem dX0_says_79 : decode cX0_says 79 = .ok (.iload 7, 2) := by decide +kernel
theorem dX0_says_81 : decode cX0_says 81 = .ok (.bipush (-100), 2) := by decide +kernel
theorem dX0_says_83 : decode cX0_says 83 = .ok (.if_icmp .gt 42, 3) := by decide +kernel
theorem dX0_says_86 : decode cX0_says 86 = .ok (.iload 5, 2) := by decide +kernel
theorem dX0_says_88 : decode cX0_says 88 = .ok (.bipush 64, 2) := by decide +kernel
theorem dX0_says_90 : decode cX0_says 90 = .ok (.if_icmp .ge 123, 3) := by decide +kernel
theorem dX0_says_93 : decode cX0_says 93 = .ok (.aload_n 0, 1) := by decide +kernel
theorem dX0_says_94 : decode cX0_says 94 = .ok (.getfield 21, 3) := by decide +kernel
theorem dX0_says_97 : decode cX0_says 97 = .ok (.iload 5, 2) := by decide +kernel
theorem dX0_says_99 : decode cX0_says 99 = .ok (.iload 7, 2) := by decide +kernel
theorem dX0_says_101 : decode cX0_says 101 = .ok (.ifCond .lt 8, 3) := by decide +kernel
theorem dX0_says_104 : decode cX0_says 104 = .ok (.iload 7, 2) := by decide +kernel
theorem dX0_says_106 : decode cX0_says 106 = .ok (.goto 12, 3) := by decide +kernel
theorem dX0_says_109 : decode cX0_says 109 = .ok (.aload_n 0, 1) := by decide +kernel
theorem dX0_says_110 : decode cX0_says 110 = .ok (.bipush (-100), 2) := by decide +kernel
theorem dX0_says_112 : decode cX0_says 112 = .ok (.iload 7, 2) := by decide +kernel
theorem dX0_says_114 : decode cX0_says 114 = .ok (.isub, 1) := by decide +kernel
theorem dX0_says_115 : decode cX0_says 115 = .ok (.invokevirtual 57, 3) := by decide +kernel
theorem dX0_says_118 : decode cX0_says 118 = .ok (.iastore, 1) := by decide +kernel
theorem dX0_says_119 : decode cX0_says 119 = .ok (.iinc 5 1, 3) := by decide +kernel
theorem dX0_says_122 : decode cX0_says 122 = .ok (.goto 91, 3) := by decide +kernel
theorem dX0_says_125 : decode cX0_says 125 = .ok (.iload 7, 2) := by decide +kernel
theorem dX0_says_127 : decode cX0_says 127 = .ok (.ineg, 1) := by decide +kernel
theorem dX0_says_128 : decode cX0_says 128 = .ok (.iconst 3, 1) := by decide +kernel
theorem dX0_says_129 : decode cX0_says 129 = .ok (.if_icmp .eq 11, 3) := by decide +kernel
theorem dX0_says_132 : decode cX0_says 132 = .ok (.iload 7, 2) := by decide +kernel
theorem dX0_says_134 : decode cX0_says 134 = .ok (.ineg, 1) := by decide +kernel
theorem dX0_says_135 : decode cX0_says 135 = .ok (.bipush 9, 2) := by decide +kernel
theorem dX0_says_137 : decode cX0_says 137 = .ok (.if_icmp .ne 36, 3) := by decide +kernel
theorem dX0_says_140 : decode cX0_says 140 = .ok (.iload 5, 2) := by decide +kernel
theorem dX0_says_142 : decode cX0_says 142 = .ok (.iconst 1, 1) := by decide +kernel
theorem dX0_says_143 : decode cX0_says 143 = .ok (.if_icmp .lt 70, 3) := by decide +kernel
theorem dX0_says_146 : decode cX0_says 146 = .ok (.aload_n 0, 1) := by decide +kernel
theorem dX0_says_147 : decode cX0_says 147 = .ok (.getfield 21, 3) := by decide +kernel
theorem dX0_says_150 : decode cX0_says 150 = .ok (.iload 5, 2) := by decide +kernel
theorem dX0_says_152 : decode cX0_says 152 = .ok (.iconst 1, 1) := by decide +kernel
theorem dX0_says_153 : decode cX0_says 153 = .ok (.isub, 1) := by decide +kernel
theorem dX0_says_154 : decode cX0_says 154 = .ok (.iload 7, 2) := by decide +kernel
theorem dX0_says_156 : decode cX0_says 156 = .ok (.ineg, 1) := by decide +kernel
theorem dX0_says_157 : decode cX0_says 157 = .ok (.aload_n 0, 1) := by decide +kernel
theorem dX0_says_158 : decode cX0_says 158 = .ok (.getfield 21, 3) := by decide +kernel
theorem dX0_says_161 : decode cX0_says 161 = .ok (.iload 5, 2) := by decide +kernel
theorem dX0_says_163 : decode cX0_says 163 = .ok (.iconst 1, 1) := by decide +kernel
theorem dX0_says_164 : decode cX0_says 164 = .ok (.isub, 1) := by decide +kernel
theorem dX0_says_165 : decode cX0_says 165 = .ok (.iaload, 1) := by decide +kernel
theorem dX0_says_166 : decode cX0_says 166 = .ok (.invokestatic 61, 3) := by decide +kernel
theorem dX0_says_169 : decode cX0_says 169 = .ok (.iastore, 1) := by decide +kernel
theorem dX0_says_170 : decode cX0_says 170 = .ok (.goto 43, 3) := by decide +kernel
theorem dX0_says_173 : decode cX0_says 173 = .ok (.iload 5, 2) := by decide +kernel
theorem dX0_says_175 : decode cX0_says 175 = .ok (.iconst 2, 1) := by decide +kernel
theorem dX0_says_176 : decode cX0_says 176 = .ok (.if_icmp .lt 37, 3) := by decide +kernel
theorem dX0_says_179 : decode cX0_says 179 = .ok (.iinc 5 (-1), 3) := by decide +kernel
theorem dX0_says_182 : decode cX0_says 182 = .ok (.aload_n 0, 1) := by decide +kernel
theorem dX0_says_183 : decode cX0_says 183 = .ok (.getfield 21, 3) := by decide +kernel
theorem dX0_says_186 : decode cX0_says 186 = .ok (.iload 5, 2) := by decide +kernel
theorem dX0_says_188 : decode cX0_says 188 = .ok (.iconst 1, 1) := by decide +kernel
theorem dX0_says_189 : decode cX0_says 189 = .ok (.isub, 1) := by decide +kernel
theorem dX0_says_190 : decode cX0_says 190 = .ok (.iload 7, 2) := by decide +kernel
theorem dX0_says_192 : decode cX0_says 192 = .ok (.ineg, 1) := by decide +kernel
theorem dX0_says_193 : decode cX0_says 193 = .ok (.aload_n 0, 1) := by decide +kernel
theorem dX0_says_194 : decode cX0_says 194 = .ok (.getfield 21, 3) := by decide +kernel
theorem dX0_says_197 : decode cX0_says 197 = .ok (.iload 5, 2) := by decide +kernel
theorem dX0_says_199 : decode cX0_says 199 = .ok (.iconst 1, 1) := by decide +kernel
theorem dX0_says_200 : decode cX0_says 200 = .ok (.isub, 1) := by decide +kernel
theorem dX0_says_201 : decode cX0_says 201 = .ok (.iaload, 1) := by decide +kernel
theorem dX0_says_202 : decode cX0_says 202 = .ok (.aload_n 0, 1) := by decide +kernel
theorem dX0_says_203 : decode cX0_says 203 = .ok (.getfield 21, 3) := by decide +kernel
theorem dX0_says_206 : decode cX0_says 206 = .ok (.iload 5, 2) := by decide +kernel
theorem dX0_says_208 : decode cX0_says 208 = .ok (.iaload, 1) := by decide +kernel
theorem dX0_says_209 : decode cX0_says 209 = .ok (.invokestatic 65, 3) := by decide +kernel
theorem dX0_says_212 : decode cX0_says 212 = .ok (.iastore, 1) := by decide +kernel
theorem dX0_says_213 : decode cX0_says 213 = .ok (.iinc 6 1, 3) := by decide +kernel
theorem dX0_says_216 : decode cX0_says 216 = .ok (.goto (-167), 3) := by decide +kernel
theorem dX0_says_219 : decode cX0_says 219 = .ok (.iload 5, 2) := by decide +kernel
theorem dX0_says_221 : decode cX0_says 221 = .ok (.iconst 1, 1) := by decide +kernel
theorem dX0_says_222 : decode cX0_says 222 = .ok (.if_icmp .lt 16, 3) := by decide +kernel
theorem dX0_says_225 : decode cX0_says 225 = .ok (.aload_n 0, 1) := by decide +kernel
theorem dX0_says_226 : decode cX0_says 226 = .ok (.getfield 21, 3) := by decide +kernel
theorem dX0_says_229 : decode cX0_says 229 = .ok (.iconst 0, 1) := by decide +kernel
theorem dX0_says_230 : decode cX0_says 230 = .ok (.iaload, 1) := by decide +kernel
theorem dX0_says_231 : decode cX0_says 231 = .ok (.ifCond .eq 7, 3) := by decide +kernel
theorem dX0_says_234 : decode cX0_says 234 = .ok (.iconst 1, 1) := by decide +kernel
theorem dX0_says_235 : decode cX0_says 235 = .ok (.goto 4, 3) := by decide +kernel
theorem dX0_says_238 : decode cX0_says 238 = .ok (.iconst 0, 1) := by decide +kernel
theorem dX0_says_239 : decode cX0_says 239 = .ok (.ireturn, 1) := by decide +kernel
theorem dX0_nameOf_0 : decode cX0_nameOf 0 = .ok (.iload_n 1, 1) := by decide +kernel
theorem dX0_nameOf_1 : decode cX0_nameOf 1 = .ok (.ifCond .lt 18, 3) := by decide +kernel
theorem dX0_nameOf_4 : decode cX0_nameOf 4 = .ok (.iload_n 1, 1) := by decide +kernel
theorem dX0_nameOf_5 : decode cX0_nameOf 5 = .ok (.bipush 6, 2) := by decide +kernel
theorem dX0_nameOf_7 : decode cX0_nameOf 7 = .ok (.if_icmp .ge 12, 3) := by decide +kernel
theorem dX0_nameOf_10 : decode cX0_nameOf 10 = .ok (.aload_n 0, 1) := by decide +kernel
theorem dX0_nameOf_11 : decode cX0_nameOf 11 = .ok (.getfield 17, 3) := by decide +kernel
theorem dX0_nameOf_14 : decode cX0_nameOf 14 = .ok (.iload_n 1, 1) := by decide +kernel
theorem dX0_nameOf_15 : decode cX0_nameOf 15 = .ok (.iaload, 1) := by decide +kernel
theorem dX0_nameOf_16 : decode cX0_nameOf 16 = .ok (.goto 4, 3) := by decide +kernel
theorem dX0_nameOf_19 : decode cX0_nameOf 19 = .ok (.iconst 0, 1) := by decide +kernel
theorem dX0_nameOf_20 : decode cX0_nameOf 20 = .ok (.ireturn, 1) := by decide +kernel
theorem dX0_turned_0 : decode cX0_turned 0 = .ok (.iload_n 0, 1) := by decide +kernel
theorem dX0_turned_1 : decode cX0_turned 1 = .ok (.bipush 9, 2) := by decide +kernel
theorem dX0_turned_3 : decode cX0_turned 3 = .ok (.if_icmp .ne 6, 3) := by decide +kernel
theorem dX0_turned_6 : decode cX0_turned 6 = .ok (.iload_n 1, 1) := by decide +kernel
theorem dX0_turned_7 : decode cX0_turned 7 = .ok (.ineg, 1) := by decide +kernel
theorem dX0_turned_8 : decode cX0_turned 8 = .ok (.ireturn, 1) := by decide +kernel
theorem dX0_turned_9 : decode cX0_turned 9 = .ok (.iload_n 1, 1) := by decide +kernel
theorem dX0_turned_10 : decode cX0_turned 10 = .ok (.ifCond .ne 7, 3) := by decide +kernel
theorem dX0_turned_13 : decode cX0_turned 13 = .ok (.iconst 1, 1) := by decide +kernel
theorem dX0_turned_14 : decode cX0_turned 14 = .ok (.goto 4, 3) := by decide +kernel
theorem dX0_turned_17 : decode cX0_turned 17 = .ok (.iconst 0, 1) := by decide +kernel
theorem dX0_turned_18 : decode cX0_turned 18 = .ok (.ireturn, 1) := by decide +kernel
theorem dX0_joined_0 : decode cX0_joined 0 = .ok (.iload_n 0, 1) := by decide +kernel
theorem dX0_joined_1 : decode cX0_joined 1 = .ok (.tableswitch 101 1 7 #[43, 57, 101, 71, 82, 93, 97], 43) := by decide +kernel
theorem dX0_joined_44 : decode cX0_joined 44 = .ok (.iload_n 1, 1) := by decide +kernel
theorem dX0_joined_45 : decode cX0_joined 45 = .ok (.ifCond .ne 7, 3) := by decide +kernel
theorem dX0_joined_48 : decode cX0_joined 48 = .ok (.iload_n 2, 1) := by decide +kernel
theorem dX0_joined_49 : decode cX0_joined 49 = .ok (.ifCond .eq 7, 3) := by decide +kernel
theorem dX0_joined_52 : decode cX0_joined 52 = .ok (.iconst 1, 1) := by decide +kernel
theorem dX0_joined_53 : decode cX0_joined 53 = .ok (.goto 4, 3) := by decide +kernel
theorem dX0_joined_56 : decode cX0_joined 56 = .ok (.iconst 0, 1) := by decide +kernel
theorem dX0_joined_57 : decode cX0_joined 57 = .ok (.ireturn, 1) := by decide +kernel
theorem dX0_joined_58 : decode cX0_joined 58 = .ok (.iload_n 1, 1) := by decide +kernel
theorem dX0_joined_59 : decode cX0_joined 59 = .ok (.ifCond .eq 11, 3) := by decide +kernel
theorem dX0_joined_62 : decode cX0_joined 62 = .ok (.iload_n 2, 1) := by decide +kernel
theorem dX0_joined_63 : decode cX0_joined 63 = .ok (.ifCond .eq 7, 3) := by decide +kernel
theorem dX0_joined_66 : decode cX0_joined 66 = .ok (.iconst 1, 1) := by decide +kernel
theorem dX0_joined_67 : decode cX0_joined 67 = .ok (.goto 4, 3) := by decide +kernel
theorem dX0_joined_70 : decode cX0_joined 70 = .ok (.iconst 0, 1) := by decide +kernel
theorem dX0_joined_71 : decode cX0_joined 71 = .ok (.ireturn, 1) := by decide +kernel
theorem dX0_joined_72 : decode cX0_joined 72 = .ok (.iload_n 1, 1) := by decide +kernel
theorem dX0_joined_73 : decode cX0_joined 73 = .ok (.iload_n 2, 1) := by decide +kernel
theorem dX0_joined_74 : decode cX0_joined 74 = .ok (.if_icmp .ge 7, 3) := by decide +kernel
theorem dX0_joined_77 : decode cX0_joined 77 = .ok (.iconst 1, 1) := by decide +kernel
theorem dX0_joined_78 : decode cX0_joined 78 = .ok (.goto 4, 3) := by decide +kernel
theorem dX0_joined_81 : decode cX0_joined 81 = .ok (.iconst 0, 1) := by decide +kernel
theorem dX0_joined_82 : decode cX0_joined 82 = .ok (.ireturn, 1) := by decide +kernel
theorem dX0_joined_83 : decode cX0_joined 83 = .ok (.iload_n 1, 1) := by decide +kernel
theorem dX0_joined_84 : decode cX0_joined 84 = .ok (.iload_n 2, 1) := by decide +kernel
theorem dX0_joined_85 : decode cX0_joined 85 = .ok (.if_icmp .ne 7, 3) := by decide +kernel
theorem dX0_joined_88 : decode cX0_joined 88 = .ok (.iconst 1, 1) := by decide +kernel
theorem dX0_joined_89 : decode cX0_joined 89 = .ok (.goto 4, 3) := by decide +kernel
theorem dX0_joined_92 : decode cX0_joined 92 = .ok (.iconst 0, 1) := by decide +kernel
theorem dX0_joined_93 : decode cX0_joined 93 = .ok (.ireturn, 1) := by decide +kernel
theorem dX0_joined_94 : decode cX0_joined 94 = .ok (.iload_n 1, 1) := by decide +kernel
theorem dX0_joined_95 : decode cX0_joined 95 = .ok (.iload_n 2, 1) := by decide +kernel
theorem dX0_joined_96 : decode cX0_joined 96 = .ok (.iadd, 1) := by decide +kernel
theorem dX0_joined_97 : decode cX0_joined 97 = .ok (.ireturn, 1) := by decide +kernel
theorem dX0_joined_98 : decode cX0_joined 98 = .ok (.iload_n 1, 1) := by decide +kernel
theorem dX0_joined_99 : decode cX0_joined 99 = .ok (.iload_n 2, 1) := by decide +kernel
theorem dX0_joined_100 : decode cX0_joined 100 = .ok (.isub, 1) := by decide +kernel
theorem dX0_joined_101 : decode cX0_joined 101 = .ok (.ireturn, 1) := by decide +kernel
theorem dX0_joined_102 : decode cX0_joined 102 = .ok (.iload_n 1, 1) := by decide +kernel
theorem dX0_joined_103 : decode cX0_joined 103 = .ok (.iload_n 2, 1) := by decide +kernel
theorem dX0_joined_104 : decode cX0_joined 104 = .ok (.imul, 1) := by decide +kernel
theorem dX0_joined_105 : decode cX0_joined 105 = .ok (.ireturn, 1) := by decide +kernel
theorem dX1_init_0 : decode cX1_init 0 = .ok (.aload_n 0, 1) := by decide +kernel
theorem dX1_init_1 : decode cX1_init 1 = .ok (.invokespecial 3, 3) := by decide +kernel
theorem dX1_init_4 : decode cX1_init 4 = .ok (.aload_n 0, 1) := by decide +kernel
theorem dX1_init_5 : decode cX1_init 5 = .ok (.aload_n 1, 1) := by decide +kernel
theorem dX1_init_6 : decode cX1_init 6 = .ok (.putfield 9, 3) := by decide +kernel
theorem dX1_init_9 : decode cX1_init 9 = .ok (.aload_n 0, 1) := by decide +kernel
theorem dX1_init_10 : decode cX1_init 10 = .ok (.aload_n 2, 1) := by decide +kernel
theorem dX1_init_11 : decode cX1_init 11 = .ok (.putfield 15, 3) := by decide +kernel
theorem dX1_init_14 : decode cX1_init 14 = .ok (.return_, 1) := by decide +kernel
theorem dX1_after_0 : decode cX1_after 0 = .ok (.iload_n 0, 1) := by decide +kernel
theorem dX1_after_1 : decode cX1_after 1 = .ok (.ldc 19, 2) := by decide +kernel
theorem dX1_after_3 : decode cX1_after 3 = .ok (.imul, 1) := by decide +kernel
theorem dX1_after_4 : decode cX1_after 4 = .ok (.sipush 12345, 3) := by decide +kernel
theorem dX1_after_7 : decode cX1_after 7 = .ok (.iadd, 1) := by decide +kernel
theorem dX1_after_8 : decode cX1_after 8 = .ok (.ireturn, 1) := by decide +kernel
theorem dX1_begin_0 : decode cX1_begin 0 = .ok (.aload_n 0, 1) := by decide +kernel
theorem dX1_begin_1 : decode cX1_begin 1 = .ok (.iload_n 1, 1) := by decide +kernel
theorem dX1_begin_2 : decode cX1_begin 2 = .ok (.putfield 20, 3) := by decide +kernel
theorem dX1_begin_5 : decode cX1_begin 5 = .ok (.aload_n 0, 1) := by decide +kernel
theorem dX1_begin_6 : decode cX1_begin 6 = .ok (.aload_n 0, 1) := by decide +kernel
theorem dX1_begin_7 : decode cX1_begin 7 = .ok (.getfield 9, 3) := by decide +kernel
theorem dX1_begin_10 : decode cX1_begin 10 = .ok (.getfield 24, 3) := by decide +kernel
theorem dX1_begin_13 : decode cX1_begin 13 = .ok (.putfield 29, 3) := by decide +kernel
theorem dX1_begin_16 : decode cX1_begin 16 = .ok (.aload_n 0, 1) := by decide +kernel
theorem dX1_begin_17 : decode cX1_begin 17 = .ok (.aload_n 0, 1) := by decide +kernel
theorem dX1_begin_18 : decode cX1_begin 18 = .ok (.getfield 9, 3) := by decide +kernel
theorem dX1_begin_21 : decode cX1_begin 21 = .ok (.getfield 30, 3) := by decide +kernel
theorem dX1_begin_24 : decode cX1_begin 24 = .ok (.putfield 33, 3) := by decide +kernel
theorem dX1_begin_27 : decode cX1_begin 27 = .ok (.return_, 1) := by decide +kernel
theorem dX1_goOn_0 : decode cX1_goOn 0 = .ok (.aload_n 0, 1) := by decide +kernel
theorem dX1_goOn_1 : decode cX1_goOn 1 = .ok (.aload_n 0, 1) := by decide +kernel
theorem dX1_goOn_2 : decode cX1_goOn 2 = .ok (.getfield 20, 3) := by decide +kernel
theorem dX1_goOn_5 : decode cX1_goOn 5 = .ok (.invokestatic 36, 3) := by decide +kernel
theorem dX1_goOn_8 : decode cX1_goOn 8 = .ok (.putfield 20, 3) := by decide +kernel
theorem dX1_goOn_11 : decode cX1_goOn 11 = .ok (.aload_n 0, 1) := by decide +kernel
theorem dX1_goOn_12 : decode cX1_goOn 12 = .ok (.aload_n 0, 1) := by decide +kernel
theorem dX1_goOn_13 : decode cX1_goOn 13 = .ok (.getfield 15, 3) := by decide +kernel
theorem dX1_goOn_16 : decode cX1_goOn 16 = .ok (.aload_n 0, 1) := by decide +kernel
theorem dX1_goOn_17 : decode cX1_goOn 17 = .ok (.getfield 33, 3) := by decide +kernel
theorem dX1_goOn_20 : decode cX1_goOn 20 = .ok (.aload_n 0, 1) := by decide +kernel
theorem dX1_goOn_21 : decode cX1_goOn 21 = .ok (.getfield 29, 3) := by decide +kernel
theorem dX1_goOn_24 : decode cX1_goOn 24 = .ok (.aload_n 0, 1) := by decide +kernel
theorem dX1_goOn_25 : decode cX1_goOn 25 = .ok (.getfield 20, 3) := by decide +kernel
theorem dX1_goOn_28 : decode cX1_goOn 28 = .ok (.invokevirtual 40, 3) := by decide +kernel
theorem dX1_goOn_31 : decode cX1_goOn 31 = .ok (.putfield 33, 3) := by decide +kernel
theorem dX1_goOn_34 : decode cX1_goOn 34 = .ok (.aload_n 0, 1) := by decide +kernel
theorem dX1_goOn_35 : decode cX1_goOn 35 = .ok (.dup, 1) := by decide +kernel
theorem dX1_goOn_36 : decode cX1_goOn 36 = .ok (.getfield 29, 3) := by decide +kernel
theorem dX1_goOn_39 : decode cX1_goOn 39 = .ok (.iconst 1, 1) := by decide +kernel
theorem dX1_goOn_40 : decode cX1_goOn 40 = .ok (.iadd, 1) := by decide +kernel
theorem dX1_goOn_41 : decode cX1_goOn 41 = .ok (.putfield 29, 3) := by decide +kernel
theorem dX1_goOn_44 : decode cX1_goOn 44 = .ok (.return_, 1) := by decide +kernel
theorem dX1_isSeen_0 : decode cX1_isSeen 0 = .ok (.aload_n 0, 1) := by decide +kernel
theorem dX1_isSeen_1 : decode cX1_isSeen 1 = .ok (.getfield 15, 3) := by decide +kernel
theorem dX1_isSeen_4 : decode cX1_isSeen 4 = .ok (.aload_n 0, 1) := by decide +kernel
theorem dX1_isSeen_5 : decode cX1_isSeen 5 = .ok (.getfield 33, 3) := by decide +kernel
theorem dX1_isSeen_8 : decode cX1_isSeen 8 = .ok (.aload_n 0, 1) := by decide +kernel
theorem dX1_isSeen_9 : decode cX1_isSeen 9 = .ok (.getfield 29, 3) := by decide +kernel
theorem dX1_isSeen_12 : decode cX1_isSeen 12 = .ok (.invokevirtual 46, 3) := by decide +kernel
theorem dX1_isSeen_15 : decode cX1_isSeen 15 = .ok (.iconst (-1), 1) := by decide +kernel
theorem dX1_isSeen_16 : decode cX1_isSeen 16 = .ok (.if_icmp .eq 7, 3) := by decide +kernel
theorem dX1_isSeen_19 : decode cX1_isSeen 19 = .ok (.iconst 1, 1) := by decide +kernel
theorem dX1_isSeen_20 : decode cX1_isSeen 20 = .ok (.goto 4, 3) := by decide +kernel
theorem dX1_isSeen_23 : decode cX1_isSeen 23 = .ok (.iconst 0, 1) := by decide +kernel
theorem dX1_isSeen_24 : decode cX1_isSeen 24 = .ok (.ireturn, 1) := by decide +kernel
theorem dX1_isSeenBy_0 : decode cX1_isSeenBy 0 = .ok (.aload_n 0, 1) := by decide +kernel
theorem dX1_isSeenBy_1 : decode cX1_isSeenBy 1 = .ok (.iload_n 1, 1) := by decide +kernel
theorem dX1_isSeenBy_2 : decode cX1_isSeenBy 2 = .ok (.invokevirtual 50, 3) := by decide +kernel
theorem dX1_isSeenBy_5 : decode cX1_isSeenBy 5 = .ok (.iconst 0, 1) := by decide +kernel
theorem dX1_isSeenBy_6 : decode cX1_isSeenBy 6 = .ok (.istore_n 2, 1) := by decide +kernel
theorem dX1_isSeenBy_7 : decode cX1_isSeenBy 7 = .ok (.iload_n 2, 1) := by decide +kernel
theorem dX1_isSeenBy_8 : decode cX1_isSeenBy 8 = .ok (.bipush 8, 2) := by decide +kernel
theorem dX1_isSeenBy_10 : decode cX1_isSeenBy 10 = .ok (.if_icmp .ge 22, 3) := by decide +kernel
theorem dX1_isSeenBy_13 : decode cX1_isSeenBy 13 = .ok (.aload_n 0, 1) := by decide +kernel
theorem dX1_isSeenBy_14 : decode cX1_isSeenBy 14 = .ok (.invokevirtual 54, 3) := by decide +kernel
theorem dX1_isSeenBy_17 : decode cX1_isSeenBy 17 = .ok (.aload_n 0, 1) := by decide +kernel
theorem dX1_isSeenBy_18 : decode cX1_isSeenBy 18 = .ok (.invokevirtual 57, 3) := by decide +kernel
theorem dX1_isSeenBy_21 : decode cX1_isSeenBy 21 = .ok (.ifCond .eq 5, 3) := by decide +kernel
theorem dX1_isSeenBy_24 : decode cX1_isSeenBy 24 = .ok (.iconst 1, 1) := by decide +kernel
theorem dX1_isSeenBy_25 : decode cX1_isSeenBy 25 = .ok (.ireturn, 1) := by decide +kernel
theorem dX1_isSeenBy_26 : decode cX1_isSeenBy 26 = .ok (.iinc 2 1, 3) := by decide +kernel
theorem dX1_isSeenBy_29 : decode cX1_isSeenBy 29 = .ok (.goto (-22), 3) := by decide +kernel
theorem dX1_isSeenBy_32 : decode cX1_isSeenBy 32 = .ok (.iconst 0, 1) := by decide +kernel
theorem dX1_isSeenBy_33 : decode cX1_isSeenBy 33 = .ok (.ireturn, 1) := by decide +kernel
theorem dX2_init_0 : decode cX2_init 0 = .ok (.aload_n 0, 1) := by decide +kernel
theorem dX2_init_1 : decode cX2_init 1 = .ok (.invokespecial 3, 3) := by decide +kernel
theorem dX2_init_4 : decode cX2_init 4 = .ok (.aload_n 0, 1) := by decide +kernel
theorem dX2_init_5 : decode cX2_init 5 = .ok (.bipush 8, 2) := by decide +kernel
theorem dX2_init_7 : decode cX2_init 7 = .ok (.newarray .int, 2) := by decide +kernel
theorem dX2_init_9 : decode cX2_init 9 = .ok (.putfield 9, 3) := by decide +kernel
theorem dX2_init_12 : decode cX2_init 12 = .ok (.aload_n 0, 1) := by decide +kernel
theorem dX2_init_13 : decode cX2_init 13 = .ok (.iconst 5, 1) := by decide +kernel
theorem dX2_init_14 : decode cX2_init 14 = .ok (.anewarray 15, 3) := by decide +kernel
theorem dX2_init_17 : decode cX2_init 17 = .ok (.putfield 17, 3) := by decide +kernel
theorem dX2_init_20 : decode cX2_init 20 = .ok (.aload_n 0, 1) := by decide +kernel
theorem dX2_init_21 : decode cX2_init 21 = .ok (.sipush 255, 3) := by decide +kernel
theorem dX2_init_24 : decode cX2_init 24 = .ok (.putfield 21, 3) := by decide +kernel
theorem dX2_init_27 : decode cX2_init 27 = .ok (.iconst 0, 1) := by decide +kernel
theorem dX2_init_28 : decode cX2_init 28 = .ok (.istore_n 1, 1) := by decide +kernel
theorem dX2_init_29 : decode cX2_init 29 = .ok (.iload_n 1, 1) := by decide +kernel
theorem dX2_init_30 : decode cX2_init 30 = .ok (.iconst 5, 1) := by decide +kernel
theorem dX2_init_31 : decode cX2_init 31 = .ok (.if_icmp .ge 22, 3) := by decide +kernel
theorem dX2_init_34 : decode cX2_init 34 = .ok (.aload_n 0, 1) := by decide +kernel
theorem dX2_init_35 : decode cX2_init 35 = .ok (.getfield 17, 3) := by decide +kernel
theorem dX2_init_38 : decode cX2_init 38 = .ok (.iload_n 1, 1) := by decide +kernel
theorem dX2_init_39 : decode cX2_init 39 = .ok (.new 15, 3) := by decide +kernel
theorem dX2_init_42 : decode cX2_init 42 = .ok (.dup, 1) := by decide +kernel
theorem dX2_init_43 : decode cX2_init 43 = .ok (.invokespecial 25, 3) := by decide +kernel
theorem dX2_init_46 : decode cX2_init 46 = .ok (.aastore, 1) := by decide +kernel
theorem dX2_init_47 : decode cX2_init 47 = .ok (.iinc 1 1, 3) := by decide +kernel
theorem dX2_init_50 : decode cX2_init 50 = .ok (.goto (-21), 3) := by decide +kernel
theorem dX2_init_53 : decode cX2_init 53 = .ok (.return_, 1) := by decide +kernel
theorem dX2_takeFrom_0 : decode cX2_takeFrom 0 = .ok (.aload_n 1, 1) := by decide +kernel
theorem dX2_takeFrom_1 : decode cX2_takeFrom 1 = .ok (.getfield 9, 3) := by decide +kernel
theorem dX2_takeFrom_4 : decode cX2_takeFrom 4 = .ok (.iconst 0, 1) := by decide +kernel
theorem dX2_takeFrom_5 : decode cX2_takeFrom 5 = .ok (.aload_n 0, 1) := by decide +kernel
theorem dX2_takeFrom_6 : decode cX2_takeFrom 6 = .ok (.getfield 9, 3) := by decide +kernel
theorem dX2_takeFrom_9 : decode cX2_takeFrom 9 = .ok (.iconst 0, 1) := by decide +kernel
theorem dX2_takeFrom_10 : decode cX2_takeFrom 10 = .ok (.bipush 8, 2) := by decide +kernel
theorem dX2_takeFrom_12 : decode cX2_takeFrom 12 = .ok (.invokestatic 26, 3) := by decide +kernel
theorem dX2_takeFrom_15 : decode cX2_takeFrom 15 = .ok (.iconst 0, 1) := by decide +kernel
theorem dX2_takeFrom_16 : decode cX2_takeFrom 16 = .ok (.istore_n 2, 1) := by decide +kernel
theorem dX2_takeFrom_17 : decode cX2_takeFrom 17 = .ok (.iload_n 2, 1) := by decide +kernel
theorem dX2_takeFrom_18 : decode cX2_takeFrom 18 = .ok (.iconst 5, 1) := by decide +kernel
theorem dX2_takeFrom_19 : decode cX2_takeFrom 19 = .ok (.if_icmp .ge 24, 3) := by decide +kernel
theorem dX2_takeFrom_22 : decode cX2_takeFrom 22 = .ok (.aload_n 0, 1) := by decide +kernel
theorem dX2_takeFrom_23 : decode cX2_takeFrom 23 = .ok (.getfield 17, 3) := by decide +kernel
theorem dX2_takeFrom_26 : decode cX2_takeFrom 26 = .ok (.iload_n 2, 1) := by decide +kernel
theorem dX2_takeFrom_27 : decode cX2_takeFrom 27 = .ok (.aaload, 1) := by decide +kernel
theorem dX2_takeFrom_28 : decode cX2_takeFrom 28 = .ok (.aload_n 1, 1) := by decide +kernel
theorem dX2_takeFrom_29 : decode cX2_takeFrom 29 = .ok (.getfield 17, 3) := by decide +kernel
theorem dX2_takeFrom_32 : decode cX2_takeFrom 32 = .ok (.iload_n 2, 1) := by decide +kernel
theorem dX2_takeFrom_33 : decode cX2_takeFrom 33 = .ok (.aaload, 1) := by decide +kernel
theorem dX2_takeFrom_34 : decode cX2_takeFrom 34 = .ok (.invokevirtual 32, 3) := by decide +kernel
theorem dX2_takeFrom_37 : decode cX2_takeFrom 37 = .ok (.iinc 2 1, 3) := by decide +kernel
theorem dX2_takeFrom_40 : decode cX2_takeFrom 40 = .ok (.goto (-23), 3) := by decide +kernel
theorem dX2_takeFrom_43 : decode cX2_takeFrom 43 = .ok (.aload_n 0, 1) := by decide +kernel
theorem dX2_takeFrom_44 : decode cX2_takeFrom 44 = .ok (.aload_n 1, 1) := by decide +kernel
theorem dX2_takeFrom_45 : decode cX2_takeFrom 45 = .ok (.getfield 36, 3) := by decide +kernel
theorem dX2_takeFrom_48 : decode cX2_takeFrom 48 = .ok (.putfield 36, 3) := by decide +kernel
theorem dX2_takeFrom_51 : decode cX2_takeFrom 51 = .ok (.aload_n 0, 1) := by decide +kernel
theorem dX2_takeFrom_52 : decode cX2_takeFrom 52 = .ok (.aload_n 1, 1) := by decide +kernel
theorem dX2_takeFrom_53 : decode cX2_takeFrom 53 = .ok (.getfield 39, 3) := by decide +kernel
theorem dX2_takeFrom_56 : decode cX2_takeFrom 56 = .ok (.putfield 39, 3) := by decide +kernel
theorem dX2_takeFrom_59 : decode cX2_takeFrom 59 = .ok (.aload_n 0, 1) := by decide +kernel
theorem dX2_takeFrom_60 : decode cX2_takeFrom 60 = .ok (.aload_n 1, 1) := by decide +kernel
theorem dX2_takeFrom_61 : decode cX2_takeFrom 61 = .ok (.getfield 42, 3) := by decide +kernel
theorem dX2_takeFrom_64 : decode cX2_takeFrom 64 = .ok (.putfield 42, 3) := by decide +kernel
theorem dX2_takeFrom_67 : decode cX2_takeFrom 67 = .ok (.aload_n 0, 1) := by decide +kernel
theorem dX2_takeFrom_68 : decode cX2_takeFrom 68 = .ok (.aload_n 1, 1) := by decide +kernel
theorem dX2_takeFrom_69 : decode cX2_takeFrom 69 = .ok (.getfield 45, 3) := by decide +kernel
theorem dX2_takeFrom_72 : decode cX2_takeFrom 72 = .ok (.putfield 45, 3) := by decide +kernel
theorem dX2_takeFrom_75 : decode cX2_takeFrom 75 = .ok (.aload_n 0, 1) := by decide +kernel
theorem dX2_takeFrom_76 : decode cX2_takeFrom 76 = .ok (.aload_n 1, 1) := by decide +kernel
theorem dX2_takeFrom_77 : decode cX2_takeFrom 77 = .ok (.getfield 21, 3) := by decide +kernel
theorem dX2_takeFrom_80 : decode cX2_takeFrom 80 = .ok (.putfield 21, 3) := by decide +kernel
theorem dX2_takeFrom_83 : decode cX2_takeFrom 83 = .ok (.aload_n 0, 1) := by decide +kernel
theorem dX2_takeFrom_84 : decode cX2_takeFrom 84 = .ok (.aload_n 1, 1) := by decide +kernel
theorem dX2_takeFrom_85 : decode cX2_takeFrom 85 = .ok (.getfield 48, 3) := by decide +kernel
theorem dX2_takeFrom_88 : decode cX2_takeFrom 88 = .ok (.putfield 48, 3) := by decide +kernel
theorem dX2_takeFrom_91 : decode cX2_takeFrom 91 = .ok (.return_, 1) := by decide +kernel
theorem dX2_addFinder_0 : decode cX2_addFinder 0 = .ok (.iload_n 1, 1) := by decide +kernel
theorem dX2_addFinder_1 : decode cX2_addFinder 1 = .ok (.bipush 6, 2) := by decide +kernel
theorem dX2_addFinder_3 : decode cX2_addFinder 3 = .ok (.invokestatic 51, 3) := by decide +kernel
theorem dX2_addFinder_6 : decode cX2_addFinder 6 = .ok (.ifCond .eq 21, 3) := by decide +kernel
theorem dX2_addFinder_9 : decode cX2_addFinder 9 = .ok (.iload_n 2, 1) := by decide +kernel
theorem dX2_addFinder_10 : decode cX2_addFinder 10 = .ok (.bipush 10, 2) := by decide +kernel
theorem dX2_addFinder_12 : decode cX2_addFinder 12 = .ok (.invokestatic 51, 3) := by decide +kernel
theorem dX2_addFinder_15 : decode cX2_addFinder 15 = .ok (.ifCond .eq 12, 3) := by decide +kernel
theorem dX2_addFinder_18 : decode cX2_addFinder 18 = .ok (.iload_n 3, 1) := by decide +kernel
theorem dX2_addFinder_19 : decode cX2_addFinder 19 = .ok (.bipush 8, 2) := by decide +kernel
theorem dX2_addFinder_21 : decode cX2_addFinder 21 = .ok (.invokestatic 51, 3) := by decide +kernel
theorem dX2_addFinder_24 : decode cX2_addFinder 24 = .ok (.ifCond .ne 6, 3) := by decide +kernel
theorem dX2_addFinder_27 : decode cX2_addFinder 27 = .ok (.bipush (-2), 2) := by decide +kernel
theorem dX2_addFinder_29 : decode cX2_addFinder 29 = .ok (.ireturn, 1) := by decide +kernel
theorem dX2_addFinder_30 : decode cX2_addFinder 30 = .ok (.aload_n 0, 1) := by decide +kernel
theorem dX2_addFinder_31 : decode cX2_addFinder 31 = .ok (.getfield 36, 3) := by decide +kernel
theorem dX2_addFinder_34 : decode cX2_addFinder 34 = .ok (.iconst 5, 1) := by decide +kernel
theorem dX2_addFinder_35 : decode cX2_addFinder 35 = .ok (.if_icmp .lt 6, 3) := by decide +kernel
theorem dX2_addFinder_38 : decode cX2_addFinder 38 = .ok (.bipush (-4), 2) := by decide +kernel
theorem dX2_addFinder_40 : decode cX2_addFinder 40 = .ok (.ireturn, 1) := by decide +kernel
theorem dX2_addFinder_41 : decode cX2_addFinder 41 = .ok (.aload_n 0, 1) := by decide +kernel
theorem dX2_addFinder_42 : decode cX2_addFinder 42 = .ok (.getfield 17, 3) := by decide +kernel
theorem dX2_addFinder_45 : decode cX2_addFinder 45 = .ok (.aload_n 0, 1) := by decide +kernel
theorem dX2_addFinder_46 : decode cX2_addFinder 46 = .ok (.getfield 36, 3) := by decide +kernel
theorem dX2_addFinder_49 : decode cX2_addFinder 49 = .ok (.aaload, 1) := by decide +kernel
theorem dX2_addFinder_50 : decode cX2_addFinder 50 = .ok (.astore 4, 2) := by decide +kernel
theorem dX2_addFinder_52 : decode cX2_addFinder 52 = .ok (.aload 4, 2) := by decide +kernel
theorem dX2_addFinder_54 : decode cX2_addFinder 54 = .ok (.iload_n 1, 1) := by decide +kernel
theorem dX2_addFinder_55 : decode cX2_addFinder 55 = .ok (.putfield 55, 3) := by decide +kernel
theorem dX2_addFinder_58 : decode cX2_addFinder 58 = .ok (.aload 4, 2) := by decide +kernel
theorem dX2_addFinder_60 : decode cX2_addFinder 60 = .ok (.iload_n 2, 1) := by decide +kernel
theorem dX2_addFinder_61 : decode cX2_addFinder 61 = .ok (.putfield 58, 3) := by decide +kernel
theorem dX2_addFinder_64 : decode cX2_addFinder 64 = .ok (.aload 4, 2) := by decide +kernel
theorem dX2_addFinder_66 : decode cX2_addFinder 66 = .ok (.iload_n 3, 1) := by decide +kernel
theorem dX2_addFinder_67 : decode cX2_addFinder 67 = .ok (.putfield 61, 3) := by decide +kernel
theorem dX2_addFinder_70 : decode cX2_addFinder 70 = .ok (.aload 4, 2) := by decide +kernel
theorem dX2_addFinder_72 : decode cX2_addFinder 72 = .ok (.iconst 0, 1) := by decide +kernel
theorem dX2_addFinder_73 : decode cX2_addFinder 73 = .ok (.putfield 64, 3) := by decide +kernel
theorem dX2_addFinder_76 : decode cX2_addFinder 76 = .ok (.aload_n 0, 1) := by decide +kernel
theorem dX2_addFinder_77 : decode cX2_addFinder 77 = .ok (.dup, 1) := by decide +kernel
theorem dX2_addFinder_78 : decode cX2_addFinder 78 = .ok (.getfield 36, 3) := by decide +kernel
theorem dX2_addFinder_81 : decode cX2_addFinder 81 = .ok (.iconst 1, 1) := by decide +kernel
theorem dX2_addFinder_82 : decode cX2_addFinder 82 = .ok (.iadd, 1) := by decide +kernel
theorem dX2_addFinder_83 : decode cX2_addFinder 83 = .ok (.putfield 36, 3) := by decide +kernel
theorem dX2_addFinder_86 : decode cX2_addFinder 86 = .ok (.aload_n 0, 1) := by decide +kernel
theorem dX2_addFinder_87 : decode cX2_addFinder 87 = .ok (.getfield 36, 3) := by decide +kernel
theorem dX2_addFinder_90 : decode cX2_addFinder 90 = .ok (.iconst 1, 1) := by decide +kernel
theorem dX2_addFinder_91 : decode cX2_addFinder 91 = .ok (.isub, 1) := by decide +kernel
theorem dX2_addFinder_92 : decode cX2_addFinder 92 = .ok (.ireturn, 1) := by decide +kernel
theorem dX2_putLane_0 : decode cX2_putLane 0 = .ok (.iload_n 3, 1) := by decide +kernel
theorem dX2_putLane_1 : decode cX2_putLane 1 = .ok (.ifCond .eq 30, 3) := by decide +kernel
theorem dX2_putLane_4 : decode cX2_putLane 4 = .ok (.aload_n 0, 1) := by decide +kernel
theorem dX2_putLane_5 : decode cX2_putLane 5 = .ok (.getfield 9, 3) := by decide +kernel
theorem dX2_putLane_8 : decode cX2_putLane 8 = .ok (.iload_n 1, 1) := by decide +kernel
theorem dX2_putLane_9 : decode cX2_putLane 9 = .ok (.dup2, 1) := by decide +kernel
theorem dX2_putLane_10 : decode cX2_putLane 10 = .ok (.iaload, 1) := by decide +kernel
theorem dX2_putLane_11 : decode cX2_putLane 11 = .ok (.iconst 1, 1) := by decide +kernel
theorem dX2_putLane_12 : decode cX2_putLane 12 = .ok (.iload_n 2, 1) := by decide +kernel
theorem dX2_putLane_13 : decode cX2_putLane 13 = .ok (.ishl, 1) := by decide +kernel
theorem dX2_putLane_14 : decode cX2_putLane 14 = .ok (.ior, 1) := by decide +kernel
theorem dX2_putLane_15 : decode cX2_putLane 15 = .ok (.iastore, 1) := by decide +kernel
theorem dX2_putLane_16 : decode cX2_putLane 16 = .ok (.aload_n 0, 1) := by decide +kernel
theorem dX2_putLane_17 : decode cX2_putLane 17 = .ok (.getfield 9, 3) := by decide +kernel
theorem dX2_putLane_20 : decode cX2_putLane 20 = .ok (.iload_n 2, 1) := by decide +kernel
theorem dX2_putLane_21 : decode cX2_putLane 21 = .ok (.dup2, 1) := by decide +kernel
theorem dX2_putLane_22 : decode cX2_putLane 22 = .ok (.iaload, 1) := by decide +kernel
theorem dX2_putLane_23 : decode cX2_putLane 23 = .ok (.iconst 1, 1) := by decide +kernel
theorem dX2_putLane_24 : decode cX2_putLane 24 = .ok (.iload_n 1, 1) := by decide +kernel
theorem dX2_putLane_25 : decode cX2_putLane 25 = .ok (.ishl, 1) := by decide +kernel
theorem dX2_putLane_26 : decode cX2_putLane 26 = .ok (.ior, 1) := by decide +kernel
theorem dX2_putLane_27 : decode cX2_putLane 27 = .ok (.iastore, 1) := by decide +kernel
theorem dX2_putLane_28 : decode cX2_putLane 28 = .ok (.goto 31, 3) := by decide +kernel
theorem dX2_putLane_31 : decode cX2_putLane 31 = .ok (.aload_n 0, 1) := by decide +kernel
theorem dX2_putLane_32 : decode cX2_putLane 32 = .ok (.getfield 9, 3) := by decide +kernel
theorem dX2_putLane_35 : decode cX2_putLane 35 = .ok (.iload_n 1, 1) := by decide +kernel
theorem dX2_putLane_36 : decode cX2_putLane 36 = .ok (.dup2, 1) := by decide +kernel
theorem dX2_putLane_37 : decode cX2_putLane 37 = .ok (.iaload, 1) := by decide +kernel
theorem dX2_putLane_38 : decode cX2_putLane 38 = .ok (.iconst 1, 1) := by decide +kernel
theorem dX2_putLane_39 : decode cX2_putLane 39 = .ok (.iload_n 2, 1) := by decide +kernel
theorem dX2_putLane_40 : decode cX2_putLane 40 = .ok (.ishl, 1) := by decide +kernel
theorem dX2_putLane_41 : decode cX2_putLane 41 = .ok (.iconst (-1), 1) := by decide +kernel
theorem dX2_putLane_42 : decode cX2_putLane 42 = .ok (.ixor, 1) := by decide +kernel
theorem dX2_putLane_43 : decode cX2_putLane 43 = .ok (.iand, 1) := by decide +kernel
theorem dX2_putLane_44 : decode cX2_putLane 44 = .ok (.iastore, 1) := by decide +kernel
theorem dX2_putLane_45 : decode cX2_putLane 45 = .ok (.aload_n 0, 1) := by decide +kernel
theorem dX2_putLane_46 : decode cX2_putLane 46 = .ok (.getfield 9, 3) := by decide +kernel
theorem dX2_putLane_49 : decode cX2_putLane 49 = .ok (.iload_n 2, 1) := by decide +kernel
theorem dX2_putLane_50 : decode cX2_putLane 50 = .ok (.dup2, 1) := by decide +kernel
theorem dX2_putLane_51 : decode cX2_putLane 51 = .ok (.iaload, 1) := by decide +kernel
theorem dX2_putLane_52 : decode cX2_putLane 52 = .ok (.iconst 1, 1) := by decide +kernel
theorem dX2_putLane_53 : decode cX2_putLane 53 = .ok (.iload_n 1, 1) := by decide +kernel
theorem dX2_putLane_54 : decode cX2_putLane 54 = .ok (.ishl, 1) := by decide +kernel
theorem dX2_putLane_55 : decode cX2_putLane 55 = .ok (.iconst (-1), 1) := by decide +kernel
theorem dX2_putLane_56 : decode cX2_putLane 56 = .ok (.ixor, 1) := by decide +kernel
theorem dX2_putLane_57 : decode cX2_putLane 57 = .ok (.iand, 1) := by decide +kernel
theorem dX2_putLane_58 : decode cX2_putLane 58 = .ok (.iastore, 1) := by decide +kernel
theorem dX2_putLane_59 : decode cX2_putLane 59 = .ok (.return_, 1) := by decide +kernel
theorem dX2_laneCount_0 : decode cX2_laneCount 0 = .ok (.iconst 0, 1) := by decide +kernel
theorem dX2_laneCount_1 : decode cX2_laneCount 1 = .ok (.istore_n 1, 1) := by decide +kernel
theorem dX2_laneCount_2 : decode cX2_laneCount 2 = .ok (.iconst 0, 1) := by decide +kernel
theorem dX2_laneCount_3 : decode cX2_laneCount 3 = .ok (.istore_n 2, 1) := by decide +kernel
theorem dX2_laneCount_4 : decode cX2_laneCount 4 = .ok (.iload_n 2, 1) := by decide +kernel
theorem dX2_laneCount_5 : decode cX2_laneCount 5 = .ok (.bipush 8, 2) := by decide +kernel
theorem dX2_laneCount_7 : decode cX2_laneCount 7 = .ok (.if_icmp .ge 21, 3) := by decide +kernel
theorem dX2_laneCount_10 : decode cX2_laneCount 10 = .ok (.iload_n 1, 1) := by decide +kernel
theorem dX2_laneCount_11 : decode cX2_laneCount 11 = .ok (.aload_n 0, 1) := by decide +kernel
theorem dX2_laneCount_12 : decode cX2_laneCount 12 = .ok (.getfield 9, 3) := by decide +kernel
theorem dX2_laneCount_15 : decode cX2_laneCount 15 = .ok (.iload_n 2, 1) := by decide +kernel
theorem dX2_laneCount_16 : decode cX2_laneCount 16 = .ok (.iaload, 1) := by decide +kernel
theorem dX2_laneCount_17 : decode cX2_laneCount 17 = .ok (.invokestatic 67, 3) := by decide +kernel
theorem dX2_laneCount_20 : decode cX2_laneCount 20 = .ok (.iadd, 1) := by decide +kernel
theorem dX2_laneCount_21 : decode cX2_laneCount 21 = .ok (.istore_n 1, 1) := by decide +kernel
theorem dX2_laneCount_22 : decode cX2_laneCount 22 = .ok (.iinc 2 1, 3) := by decide +kernel
theorem dX2_laneCount_25 : decode cX2_laneCount 25 = .ok (.goto (-21), 3) := by decide +kernel
theorem dX2_laneCount_28 : decode cX2_laneCount 28 = .ok (.iload_n 1, 1) := by decide +kernel
theorem dX2_laneCount_29 : decode cX2_laneCount 29 = .ok (.iconst 2, 1) := by decide +kernel
theorem dX2_laneCount_30 : decode cX2_laneCount 30 = .ok (.idiv, 1) := by decide +kernel
theorem dX2_laneCount_31 : decode cX2_laneCount 31 = .ok (.ireturn, 1) := by decide +kernel
theorem dX2_known_0 : decode cX2_known 0 = .ok (.iload_n 2, 1) := by decide +kernel
theorem dX2_known_1 : decode cX2_known 1 = .ok (.tableswitch 88 0 11 #[63, 68, 73, 78, 88, 88, 88, 88, 88, 88, 88, 83], 63) := by decide +kernel
theorem dX2_known_64 : decode cX2_known 64 = .ok (.aload_n 0, 1) := by decide +kernel
theorem dX2_known_65 : decode cX2_known 65 = .ok (.getfield 39, 3) := by decide +kernel
theorem dX2_known_68 : decode cX2_known 68 = .ok (.ireturn, 1) := by decide +kernel
theorem dX2_known_69 : decode cX2_known 69 = .ok (.aload_n 0, 1) := by decide +kernel
theorem dX2_known_70 : decode cX2_known 70 = .ok (.getfield 42, 3) := by decide +kernel
theorem dX2_known_73 : decode cX2_known 73 = .ok (.ireturn, 1) := by decide +kernel
theorem dX2_known_74 : decode cX2_known 74 = .ok (.aload_n 0, 1) := by decide +kernel
theorem dX2_known_75 : decode cX2_known 75 = .ok (.getfield 45, 3) := by decide +kernel
theorem dX2_known_78 : decode cX2_known 78 = .ok (.ireturn, 1) := by decide +kernel
theorem dX2_known_79 : decode cX2_known 79 = .ok (.aload_n 0, 1) := by decide +kernel
theorem dX2_known_80 : decode cX2_known 80 = .ok (.getfield 21, 3) := by decide +kernel
theorem dX2_known_83 : decode cX2_known 83 = .ok (.ireturn, 1) := by decide +kernel
theorem dX2_known_84 : decode cX2_known 84 = .ok (.aload_n 0, 1) := by decide +kernel
theorem dX2_known_85 : decode cX2_known 85 = .ok (.getfield 48, 3) := by decide +kernel
theorem dX2_known_88 : decode cX2_known 88 = .ok (.ireturn, 1) := by decide +kernel
theorem dX2_known_89 : decode cX2_known 89 = .ok (.iload_n 1, 1) := by decide +kernel
theorem dX2_known_90 : decode cX2_known 90 = .ok (.aload_n 0, 1) := by decide +kernel
theorem dX2_known_91 : decode cX2_known 91 = .ok (.getfield 36, 3) := by decide +kernel
theorem dX2_known_94 : decode cX2_known 94 = .ok (.invokestatic 51, 3) := by decide +kernel
theorem dX2_known_97 : decode cX2_known 97 = .ok (.ifCond .eq 16, 3) := by decide +kernel
theorem dX2_known_100 : decode cX2_known 100 = .ok (.aload_n 0, 1) := by decide +kernel
theorem dX2_known_101 : decode cX2_known 101 = .ok (.getfield 17, 3) := by decide +kernel
theorem dX2_known_104 : decode cX2_known 104 = .ok (.iload_n 1, 1) := by decide +kernel
theorem dX2_known_105 : decode cX2_known 105 = .ok (.aaload, 1) := by decide +kernel
theorem dX2_known_106 : decode cX2_known 106 = .ok (.iload_n 2, 1) := by decide +kernel
theorem dX2_known_107 : decode cX2_known 107 = .ok (.invokestatic 73, 3) := by decide +kernel
theorem dX2_known_110 : decode cX2_known 110 = .ok (.goto 5, 3) := by decide +kernel
theorem dX2_known_113 : decode cX2_known 113 = .ok (.bipush (-2), 2) := by decide +kernel
theorem dX2_known_115 : decode cX2_known 115 = .ok (.ireturn, 1) := by decide +kernel
theorem dX2_knownOf_0 : decode cX2_knownOf 0 = .ok (.iload_n 1, 1) := by decide +kernel
theorem dX2_knownOf_1 : decode cX2_knownOf 1 = .ok (.tableswitch 51 4 7 #[31, 36, 41, 46], 31) := by decide +kernel
theorem dX2_knownOf_32 : decode cX2_knownOf 32 = .ok (.aload_n 0, 1) := by decide +kernel
theorem dX2_knownOf_33 : decode cX2_knownOf 33 = .ok (.getfield 58, 3) := by decide +kernel
theorem dX2_knownOf_36 : decode cX2_knownOf 36 = .ok (.ireturn, 1) := by decide +kernel
theorem dX2_knownOf_37 : decode cX2_knownOf 37 = .ok (.aload_n 0, 1) := by decide +kernel
theorem dX2_knownOf_38 : decode cX2_knownOf 38 = .ok (.getfield 61, 3) := by decide +kernel
theorem dX2_knownOf_41 : decode cX2_knownOf 41 = .ok (.ireturn, 1) := by decide +kernel
theorem dX2_knownOf_42 : decode cX2_knownOf 42 = .ok (.aload_n 0, 1) := by decide +kernel
theorem dX2_knownOf_43 : decode cX2_knownOf 43 = .ok (.getfield 55, 3) := by decide +kernel
theorem dX2_knownOf_46 : decode cX2_knownOf 46 = .ok (.ireturn, 1) := by decide +kernel
theorem dX2_knownOf_47 : decode cX2_knownOf 47 = .ok (.aload_n 0, 1) := by decide +kernel
theorem dX2_knownOf_48 : decode cX2_knownOf 48 = .ok (.getfield 64, 3) := by decide +kernel
theorem dX2_knownOf_51 : decode cX2_knownOf 51 = .ok (.ireturn, 1) := by decide +kernel
theorem dX2_knownOf_52 : decode cX2_knownOf 52 = .ok (.bipush (-2), 2) := by decide +kernel
theorem dX2_knownOf_54 : decode cX2_knownOf 54 = .ok (.ireturn, 1) := by decide +kernel
theorem dX2_become_0 : decode cX2_become 0 = .ok (.iload_n 2, 1) := by decide +kernel
theorem dX2_become_1 : decode cX2_become 1 = .ok (.tableswitch 103 0 11 #[63, 71, 79, 87, 103, 103, 103, 103, 103, 103, 103, 95], 63) := by decide +kernel
theorem dX2_become_64 : decode cX2_become 64 = .ok (.aload_n 0, 1) := by decide +kernel
theorem dX2_become_65 : decode cX2_become 65 = .ok (.iload_n 3, 1) := by decide +kernel
theorem dX2_become_66 : decode cX2_become 66 = .ok (.putfield 39, 3) := by decide +kernel
theorem dX2_become_69 : decode cX2_become 69 = .ok (.goto 57, 3) := by decide +kernel
theorem dX2_become_72 : decode cX2_become 72 = .ok (.aload_n 0, 1) := by decide +kernel
theorem dX2_become_73 : decode cX2_become 73 = .ok (.iload_n 3, 1) := by decide +kernel
theorem dX2_become_74 : decode cX2_become 74 = .ok (.putfield 42, 3) := by decide +kernel
theorem dX2_become_77 : decode cX2_become 77 = .ok (.goto 49, 3) := by decide +kernel
theorem dX2_become_80 : decode cX2_become 80 = .ok (.aload_n 0, 1) := by decide +kernel
theorem dX2_become_81 : decode cX2_become 81 = .ok (.iload_n 3, 1) := by decide +kernel
theorem dX2_become_82 : decode cX2_become 82 = .ok (.putfield 45, 3) := by decide +kernel
theorem dX2_become_85 : decode cX2_become 85 = .ok (.goto 41, 3) := by decide +kernel
theorem dX2_become_88 : decode cX2_become 88 = .ok (.aload_n 0, 1) := by decide +kernel
theorem dX2_become_89 : decode cX2_become 89 = .ok (.iload_n 3, 1) := by decide +kernel
theorem dX2_become_90 : decode cX2_become 90 = .ok (.putfield 21, 3) := by decide +kernel
theorem dX2_become_93 : decode cX2_become 93 = .ok (.goto 33, 3) := by decide +kernel
theorem dX2_become_96 : decode cX2_become 96 = .ok (.aload_n 0, 1) := by decide +kernel
theorem dX2_become_97 : decode cX2_become 97 = .ok (.iload_n 3, 1) := by decide +kernel
theorem dX2_become_98 : decode cX2_become 98 = .ok (.putfield 48, 3) := by decide +kernel
theorem dX2_become_101 : decode cX2_become 101 = .ok (.goto 25, 3) := by decide +kernel
theorem dX2_become_104 : decode cX2_become 104 = .ok (.iload_n 1, 1) := by decide +kernel
theorem dX2_become_105 : decode cX2_become 105 = .ok (.aload_n 0, 1) := by decide +kernel
theorem dX2_become_106 : decode cX2_become 106 = .ok (.getfield 36, 3) := by decide +kernel
theorem dX2_become_109 : decode cX2_become 109 = .ok (.invokestatic 51, 3) := by decide +kernel
theorem dX2_become_112 : decode cX2_become 112 = .ok (.ifCond .eq 14, 3) := by decide +kernel
theorem dX2_become_115 : decode cX2_become 115 = .ok (.aload_n 0, 1) := by decide +kernel
theorem dX2_become_116 : decode cX2_become 116 = .ok (.getfield 17, 3) := by decide +kernel
theorem dX2_become_119 : decode cX2_become 119 = .ok (.iload_n 1, 1) := by decide +kernel
theorem dX2_become_120 : decode cX2_become 120 = .ok (.aaload, 1) := by decide +kernel
theorem dX2_become_121 : decode cX2_become 121 = .ok (.iload_n 2, 1) := by decide +kernel
theorem dX2_become_122 : decode cX2_become 122 = .ok (.iload_n 3, 1) := by decide +kernel
theorem dX2_become_123 : decode cX2_become 123 = .ok (.invokestatic 77, 3) := by decide +kernel
theorem dX2_become_126 : decode cX2_become 126 = .ok (.return_, 1) := by decide +kernel
theorem dX2_becomeOf_0 : decode cX2_becomeOf 0 = .ok (.iload_n 1, 1) := by decide +kernel
theorem dX2_becomeOf_1 : decode cX2_becomeOf 1 = .ok (.iconst 4, 1) := by decide +kernel
theorem dX2_becomeOf_2 : decode cX2_becomeOf 2 = .ok (.if_icmp .ne 11, 3) := by decide +kernel
theorem dX2_becomeOf_5 : decode cX2_becomeOf 5 = .ok (.aload_n 0, 1) := by decide +kernel
theorem dX2_becomeOf_6 : decode cX2_becomeOf 6 = .ok (.iload_n 2, 1) := by decide +kernel
theorem dX2_becomeOf_7 : decode cX2_becomeOf 7 = .ok (.putfield 58, 3) := by decide +kernel
theorem dX2_becomeOf_10 : decode cX2_becomeOf 10 = .ok (.goto 27, 3) := by decide +kernel
theorem dX2_becomeOf_13 : decode cX2_becomeOf 13 = .ok (.iload_n 1, 1) := by decide +kernel
theorem dX2_becomeOf_14 : decode cX2_becomeOf 14 = .ok (.iconst 5, 1) := by decide +kernel
theorem dX2_becomeOf_15 : decode cX2_becomeOf 15 = .ok (.if_icmp .ne 11, 3) := by decide +kernel
theorem dX2_becomeOf_18 : decode cX2_becomeOf 18 = .ok (.aload_n 0, 1) := by decide +kernel
theorem dX2_becomeOf_19 : decode cX2_becomeOf 19 = .ok (.iload_n 2, 1) := by decide +kernel
theorem dX2_becomeOf_20 : decode cX2_becomeOf 20 = .ok (.putfield 61, 3) := by decide +kernel
theorem dX2_becomeOf_23 : decode cX2_becomeOf 23 = .ok (.goto 14, 3) := by decide +kernel
theorem dX2_becomeOf_26 : decode cX2_becomeOf 26 = .ok (.iload_n 1, 1) := by decide +kernel
theorem dX2_becomeOf_27 : decode cX2_becomeOf 27 = .ok (.bipush 6, 2) := by decide +kernel
theorem dX2_becomeOf_29 : decode cX2_becomeOf 29 = .ok (.if_icmp .ne 8, 3) := by decide +kernel
theorem dX2_becomeOf_32 : decode cX2_becomeOf 32 = .ok (.aload_n 0, 1) := by decide +kernel
theorem dX2_becomeOf_33 : decode cX2_becomeOf 33 = .ok (.iload_n 2, 1) := by decide +kernel
theorem dX2_becomeOf_34 : decode cX2_becomeOf 34 = .ok (.putfield 55, 3) := by decide +kernel
theorem dX2_becomeOf_37 : decode cX2_becomeOf 37 = .ok (.return_, 1) := by decide +kernel
theorem dX3_init_0 : decode cX3_init 0 = .ok (.aload_n 0, 1) := by decide +kernel
theorem dX3_init_1 : decode cX3_init 1 = .ok (.invokespecial 3, 3) := by decide +kernel
theorem dX3_init_4 : decode cX3_init 4 = .ok (.return_, 1) := by decide +kernel
theorem dX3_takeFrom_0 : decode cX3_takeFrom 0 = .ok (.aload_n 0, 1) := by decide +kernel
theorem dX3_takeFrom_1 : decode cX3_takeFrom 1 = .ok (.aload_n 1, 1) := by decide +kernel
theorem dX3_takeFrom_2 : decode cX3_takeFrom 2 = .ok (.getfield 9, 3) := by decide +kernel
theorem dX3_takeFrom_5 : decode cX3_takeFrom 5 = .ok (.putfield 9, 3) := by decide +kernel
theorem dX3_takeFrom_8 : decode cX3_takeFrom 8 = .ok (.aload_n 0, 1) := by decide +kernel
theorem dX3_takeFrom_9 : decode cX3_takeFrom 9 = .ok (.aload_n 1, 1) := by decide +kernel
theorem dX3_takeFrom_10 : decode cX3_takeFrom 10 = .ok (.getfield 15, 3) := by decide +kernel
theorem dX3_takeFrom_13 : decode cX3_takeFrom 13 = .ok (.putfield 15, 3) := by decide +kernel
theorem dX3_takeFrom_16 : decode cX3_takeFrom 16 = .ok (.aload_n 0, 1) := by decide +kernel
theorem dX3_takeFrom_17 : decode cX3_takeFrom 17 = .ok (.aload_n 1, 1) := by decide +kernel
theorem dX3_takeFrom_18 : decode cX3_takeFrom 18 = .ok (.getfield 18, 3) := by decide +kernel
theorem dX3_takeFrom_21 : decode cX3_takeFrom 21 = .ok (.putfield 18, 3) := by decide +kernel
theorem dX3_takeFrom_24 : decode cX3_takeFrom 24 = .ok (.aload_n 0, 1) := by decide +kernel
theorem dX3_takeFrom_25 : decode cX3_takeFrom 25 = .ok (.aload_n 1, 1) := by decide +kernel
theorem dX3_takeFrom_26 : decode cX3_takeFrom 26 = .ok (.getfield 21, 3) := by decide +kernel
theorem dX3_takeFrom_29 : decode cX3_takeFrom 29 = .ok (.putfield 21, 3) := by decide +kernel
theorem dX3_takeFrom_32 : decode cX3_takeFrom 32 = .ok (.return_, 1) := by decide +kernel
theorem dX3_isUnder_0 : decode cX3_isUnder 0 = .ok (.aload_n 0, 1) := by decide +kernel
theorem dX3_isUnder_1 : decode cX3_isUnder 1 = .ok (.getfield 9, 3) := by decide +kernel
theorem dX3_isUnder_4 : decode cX3_isUnder 4 = .ok (.istore_n 2, 1) := by decide +kernel
theorem dX3_isUnder_5 : decode cX3_isUnder 5 = .ok (.iconst 0, 1) := by decide +kernel
theorem dX3_isUnder_6 : decode cX3_isUnder 6 = .ok (.istore_n 3, 1) := by decide +kernel
theorem dX3_isUnder_7 : decode cX3_isUnder 7 = .ok (.iload_n 3, 1) := by decide +kernel
theorem dX3_isUnder_8 : decode cX3_isUnder 8 = .ok (.bipush 6, 2) := by decide +kernel
theorem dX3_isUnder_10 : decode cX3_isUnder 10 = .ok (.if_icmp .ge 31, 3) := by decide +kernel
theorem dX3_isUnder_13 : decode cX3_isUnder 13 = .ok (.iload_n 2, 1) := by decide +kernel
theorem dX3_isUnder_14 : decode cX3_isUnder 14 = .ok (.bipush 6, 2) := by decide +kernel
theorem dX3_isUnder_16 : decode cX3_isUnder 16 = .ok (.invokestatic 24, 3) := by decide +kernel
theorem dX3_isUnder_19 : decode cX3_isUnder 19 = .ok (.ifCond .eq 22, 3) := by decide +kernel
theorem dX3_isUnder_22 : decode cX3_isUnder 22 = .ok (.iload_n 2, 1) := by decide +kernel
theorem dX3_isUnder_23 : decode cX3_isUnder 23 = .ok (.iload_n 1, 1) := by decide +kernel
theorem dX3_isUnder_24 : decode cX3_isUnder 24 = .ok (.if_icmp .ne 5, 3) := by decide +kernel
theorem dX3_isUnder_27 : decode cX3_isUnder 27 = .ok (.iconst 1, 1) := by decide +kernel
theorem dX3_isUnder_28 : decode cX3_isUnder 28 = .ok (.ireturn, 1) := by decide +kernel
theorem dX3_isUnder_29 : decode cX3_isUnder 29 = .ok (.getstatic 28, 3) := by decide +kernel
theorem dX3_isUnder_32 : decode cX3_isUnder 32 = .ok (.iload_n 2, 1) := by decide +kernel
theorem dX3_isUnder_33 : decode cX3_isUnder 33 = .ok (.iaload, 1) := by decide +kernel
theorem dX3_isUnder_34 : decode cX3_isUnder 34 = .ok (.istore_n 2, 1) := by decide +kernel
theorem dX3_isUnder_35 : decode cX3_isUnder 35 = .ok (.iinc 3 1, 3) := by decide +kernel
theorem dX3_isUnder_38 : decode cX3_isUnder 38 = .ok (.goto (-31), 3) := by decide +kernel
theorem dX3_isUnder_41 : decode cX3_isUnder 41 = .ok (.iconst 0, 1) := by decide +kernel
theorem dX3_isUnder_42 : decode cX3_isUnder 42 = .ok (.ireturn, 1) := by decide +kernel
theorem dX4_init_0 : decode cX4_init 0 = .ok (.aload_n 0, 1) := by decide +kernel
theorem dX4_init_1 : decode cX4_init 1 = .ok (.invokespecial 3, 3) := by decide +kernel
theorem dX4_init_4 : decode cX4_init 4 = .ok (.aload_n 0, 1) := by decide +kernel
theorem dX4_init_5 : decode cX4_init 5 = .ok (.sipush 256, 3) := by decide +kernel
theorem dX4_init_8 : decode cX4_init 8 = .ok (.newarray .int, 2) := by decide +kernel
theorem dX4_init_10 : decode cX4_init 10 = .ok (.putfield 9, 3) := by decide +kernel
theorem dX4_init_13 : decode cX4_init 13 = .ok (.aload_n 0, 1) := by decide +kernel
theorem dX4_init_14 : decode cX4_init 14 = .ok (.sipush 2048, 3) := by decide +kernel
theorem dX4_init_17 : decode cX4_init 17 = .ok (.newarray .int, 2) := by decide +kernel
theorem dX4_init_19 : decode cX4_init 19 = .ok (.putfield 15, 3) := by decide +kernel
theorem dX4_init_22 : decode cX4_init 22 = .ok (.aload_n 0, 1) := by decide +kernel
theorem dX4_init_23 : decode cX4_init 23 = .ok (.sipush 2048, 3) := by decide +kernel
theorem dX4_init_26 : decode cX4_init 26 = .ok (.newarray .int, 2) := by decide +kernel
theorem dX4_init_28 : decode cX4_init 28 = .ok (.putfield 18, 3) := by decide +kernel
theorem dX4_init_31 : decode cX4_init 31 = .ok (.aload_n 0, 1) := by decide +kernel
theorem dX4_init_32 : decode cX4_init 32 = .ok (.aload_n 1, 1) := by decide +kernel
theorem dX4_init_33 : decode cX4_init 33 = .ok (.putfield 21, 3) := by decide +kernel
theorem dX4_init_36 : decode cX4_init 36 = .ok (.aload_n 0, 1) := by decide +kernel
theorem dX4_init_37 : decode cX4_init 37 = .ok (.aload_n 2, 1) := by decide +kernel
theorem dX4_init_38 : decode cX4_init 38 = .ok (.putfield 25, 3) := by decide +kernel
theorem dX4_init_41 : decode cX4_init 41 = .ok (.return_, 1) := by decide +kernel
theorem dX4_isLess_0 : decode cX4_isLess 0 = .ok (.iload_n 0, 1) := by decide +kernel
theorem dX4_isLess_1 : decode cX4_isLess 1 = .ok (.iconst (-1), 1) := by decide +kernel
theorem dX4_isLess_2 : decode cX4_isLess 2 = .ok (.if_icmp .eq 17, 3) := by decide +kernel
theorem dX4_isLess_5 : decode cX4_isLess 5 = .ok (.iload_n 1, 1) := by decide +kernel
theorem dX4_isLess_6 : decode cX4_isLess 6 = .ok (.iconst (-1), 1) := by decide +kernel
theorem dX4_isLess_7 : decode cX4_isLess 7 = .ok (.if_icmp .eq 8, 3) := by decide +kernel
theorem dX4_isLess_10 : decode cX4_isLess 10 = .ok (.iload_n 0, 1) := by decide +kernel
theorem dX4_isLess_11 : decode cX4_isLess 11 = .ok (.iload_n 1, 1) := by decide +kernel
theorem dX4_isLess_12 : decode cX4_isLess 12 = .ok (.if_icmp .ge 7, 3) := by decide +kernel
theorem dX4_isLess_15 : decode cX4_isLess 15 = .ok (.iconst 1, 1) := by decide +kernel
theorem dX4_isLess_16 : decode cX4_isLess 16 = .ok (.goto 4, 3) := by decide +kernel
theorem dX4_isLess_19 : decode cX4_isLess 19 = .ok (.iconst 0, 1) := by decide +kernel
theorem dX4_isLess_20 : decode cX4_isLess 20 = .ok (.ireturn, 1) := by decide +kernel
theorem dX4_prepare_0 : decode cX4_prepare 0 = .ok (.aload_n 0, 1) := by decide +kernel
theorem dX4_prepare_1 : decode cX4_prepare 1 = .ok (.getfield 25, 3) := by decide +kernel
theorem dX4_prepare_4 : decode cX4_prepare 4 = .ok (.aload_n 0, 1) := by decide +kernel
theorem dX4_prepare_5 : decode cX4_prepare 5 = .ok (.getfield 21, 3) := by decide +kernel
theorem dX4_prepare_8 : decode cX4_prepare 8 = .ok (.getfield 29, 3) := by decide +kernel
theorem dX4_prepare_11 : decode cX4_prepare 11 = .ok (.invokevirtual 35, 3) := by decide +kernel
theorem dX4_prepare_14 : decode cX4_prepare 14 = .ok (.iconst 0, 1) := by decide +kernel
theorem dX4_prepare_15 : decode cX4_prepare 15 = .ok (.istore_n 2, 1) := by decide +kernel
theorem dX4_prepare_16 : decode cX4_prepare 16 = .ok (.iload_n 2, 1) := by decide +kernel
theorem dX4_prepare_17 : decode cX4_prepare 17 = .ok (.sipush 256, 3) := by decide +kernel
theorem dX4_prepare_20 : decode cX4_prepare 20 = .ok (.if_icmp .ge 23, 3) := by decide +kernel
theorem dX4_prepare_23 : decode cX4_prepare 23 = .ok (.aload_n 0, 1) := by decide +kernel
theorem dX4_prepare_24 : decode cX4_prepare 24 = .ok (.getfield 9, 3) := by decide +kernel
theorem dX4_prepare_27 : decode cX4_prepare 27 = .ok (.iload_n 2, 1) := by decide +kernel
theorem dX4_prepare_28 : decode cX4_prepare 28 = .ok (.aload_n 0, 1) := by decide +kernel
theorem dX4_prepare_29 : decode cX4_prepare 29 = .ok (.getfield 25, 3) := by decide +kernel
theorem dX4_prepare_32 : decode cX4_prepare 32 = .ok (.iload_n 2, 1) := by decide +kernel
theorem dX4_prepare_33 : decode cX4_prepare 33 = .ok (.invokevirtual 41, 3) := by decide +kernel
theorem dX4_prepare_36 : decode cX4_prepare 36 = .ok (.iastore, 1) := by decide +kernel
theorem dX4_prepare_37 : decode cX4_prepare 37 = .ok (.iinc 2 1, 3) := by decide +kernel
theorem dX4_prepare_40 : decode cX4_prepare 40 = .ok (.goto (-24), 3) := by decide +kernel
theorem dX4_prepare_43 : decode cX4_prepare 43 = .ok (.aload_n 0, 1) := by decide +kernel
theorem dX4_prepare_44 : decode cX4_prepare 44 = .ok (.aload_n 0, 1) := by decide +kernel
theorem dX4_prepare_45 : decode cX4_prepare 45 = .ok (.getfield 25, 3) := by decide +kernel
theorem dX4_prepare_48 : decode cX4_prepare 48 = .ok (.aload_n 1, 1) := by decide +kernel
theorem dX4_prepare_49 : decode cX4_prepare 49 = .ok (.invokevirtual 45, 3) := by decide +kernel
theorem dX4_prepare_52 : decode cX4_prepare 52 = .ok (.putfield 49, 3) := by decide +kernel
theorem dX4_prepare_55 : decode cX4_prepare 55 = .ok (.return_, 1) := by decide +kernel
theorem dX4_fewestWithout_0 : decode cX4_fewestWithout 0 = .ok (.aload_n 0, 1) := by decide +kernel
theorem dX4_fewestWithout_1 : decode cX4_fewestWithout 1 = .ok (.getfield 21, 3) := by decide +kernel
theorem dX4_fewestWithout_4 : decode cX4_fewestWithout 4 = .ok (.iload_n 1, 1) := by decide +kernel
theorem dX4_fewestWithout_5 : decode cX4_fewestWithout 5 = .ok (.iload_n 2, 1) := by decide +kernel
theorem dX4_fewestWithout_6 : decode cX4_fewestWithout 6 = .ok (.iconst 0, 1) := by decide +kernel
theorem dX4_fewestWithout_7 : decode cX4_fewestWithout 7 = .ok (.invokevirtual 52, 3) := by decide +kernel
theorem dX4_fewestWithout_10 : decode cX4_fewestWithout 10 = .ok (.aload_n 0, 1) := by decide +kernel
theorem dX4_fewestWithout_11 : decode cX4_fewestWithout 11 = .ok (.aload_n 3, 1) := by decide +kernel
theorem dX4_fewestWithout_12 : decode cX4_fewestWithout 12 = .ok (.invokevirtual 56, 3) := by decide +kernel
theorem dX4_fewestWithout_15 : decode cX4_fewestWithout 15 = .ok (.aload_n 0, 1) := by decide +kernel
theorem dX4_fewestWithout_16 : decode cX4_fewestWithout 16 = .ok (.aload_n 3, 1) := by decide +kernel
theorem dX4_fewestWithout_17 : decode cX4_fewestWithout 17 = .ok (.getfield 60, 3) := by decide +kernel
theorem dX4_fewestWithout_20 : decode cX4_fewestWithout 20 = .ok (.bipush 40, 2) := by decide +kernel
theorem dX4_fewestWithout_22 : decode cX4_fewestWithout 22 = .ok (.invokevirtual 65, 3) := by decide +kernel
theorem dX4_fewestWithout_25 : decode cX4_fewestWithout 25 = .ok (.istore 4, 2) := by decide +kernel
theorem dX4_fewestWithout_27 : decode cX4_fewestWithout 27 = .ok (.aload_n 0, 1) := by decide +kernel
theorem dX4_fewestWithout_28 : decode cX4_fewestWithout 28 = .ok (.getfield 21, 3) := by decide +kernel
theorem dX4_fewestWithout_31 : decode cX4_fewestWithout 31 = .ok (.iload_n 1, 1) := by decide +kernel
theorem dX4_fewestWithout_32 : decode cX4_fewestWithout 32 = .ok (.iload_n 2, 1) := by decide +kernel
theorem dX4_fewestWithout_33 : decode cX4_fewestWithout 33 = .ok (.iconst 1, 1) := by decide +kernel
theorem dX4_fewestWithout_34 : decode cX4_fewestWithout 34 = .ok (.invokevirtual 52, 3) := by decide +kernel
theorem dX4_fewestWithout_37 : decode cX4_fewestWithout 37 = .ok (.iload 4, 2) := by decide +kernel
theorem dX4_fewestWithout_39 : decode cX4_fewestWithout 39 = .ok (.ireturn, 1) := by decide +kernel
theorem dX4_fewestFrom_0 : decode cX4_fewestFrom 0 = .ok (.aload_n 0, 1) := by decide +kernel
theorem dX4_fewestFrom_1 : decode cX4_fewestFrom 1 = .ok (.iconst (-1), 1) := by decide +kernel
theorem dX4_fewestFrom_2 : decode cX4_fewestFrom 2 = .ok (.putfield 69, 3) := by decide +kernel
theorem dX4_fewestFrom_5 : decode cX4_fewestFrom 5 = .ok (.aload_n 0, 1) := by decide +kernel
theorem dX4_fewestFrom_6 : decode cX4_fewestFrom 6 = .ok (.getfield 21, 3) := by decide +kernel
theorem dX4_fewestFrom_9 : decode cX4_fewestFrom 9 = .ok (.getfield 72, 3) := by decide +kernel
theorem dX4_fewestFrom_12 : decode cX4_fewestFrom 12 = .ok (.ifCond .ne 5, 3) := by decide +kernel
theorem dX4_fewestFrom_15 : decode cX4_fewestFrom 15 = .ok (.iconst 0, 1) := by decide +kernel
theorem dX4_fewestFrom_16 : decode cX4_fewestFrom 16 = .ok (.ireturn, 1) := by decide +kernel
theorem dX4_fewestFrom_17 : decode cX4_fewestFrom 17 = .ok (.aload_n 0, 1) := by decide +kernel
theorem dX4_fewestFrom_18 : decode cX4_fewestFrom 18 = .ok (.getfield 15, 3) := by decide +kernel
theorem dX4_fewestFrom_21 : decode cX4_fewestFrom 21 = .ok (.iconst (-1), 1) := by decide +kernel
theorem dX4_fewestFrom_22 : decode cX4_fewestFrom 22 = .ok (.invokestatic 75, 3) := by decide +kernel
theorem dX4_fewestFrom_25 : decode cX4_fewestFrom 25 = .ok (.aload_n 0, 1) := by decide +kernel
theorem dX4_fewestFrom_26 : decode cX4_fewestFrom 26 = .ok (.iconst 0, 1) := by decide +kernel
theorem dX4_fewestFrom_27 : decode cX4_fewestFrom 27 = .ok (.putfield 81, 3) := by decide +kernel
theorem dX4_fewestFrom_30 : decode cX4_fewestFrom 30 = .ok (.iload_n 1, 1) := by decide +kernel
theorem dX4_fewestFrom_31 : decode cX4_fewestFrom 31 = .ok (.sipush 256, 3) := by decide +kernel
theorem dX4_fewestFrom_34 : decode cX4_fewestFrom 34 = .ok (.imul, 1) := by decide +kernel
theorem dX4_fewestFrom_35 : decode cX4_fewestFrom 35 = .ok (.aload_n 0, 1) := by decide +kernel
theorem dX4_fewestFrom_36 : decode cX4_fewestFrom 36 = .ok (.getfield 21, 3) := by decide +kernel
theorem dX4_fewestFrom_39 : decode cX4_fewestFrom 39 = .ok (.getfield 72, 3) := by decide +kernel
theorem dX4_fewestFrom_42 : decode cX4_fewestFrom 42 = .ok (.iadd, 1) := by decide +kernel
theorem dX4_fewestFrom_43 : decode cX4_fewestFrom 43 = .ok (.istore_n 3, 1) := by decide +kernel
theorem dX4_fewestFrom_44 : decode cX4_fewestFrom 44 = .ok (.aload_n 0, 1) := by decide +kernel
theorem dX4_fewestFrom_45 : decode cX4_fewestFrom 45 = .ok (.iload_n 3, 1) := by decide +kernel
theorem dX4_fewestFrom_46 : decode cX4_fewestFrom 46 = .ok (.iload_n 3, 1) := by decide +kernel
theorem dX4_fewestFrom_47 : decode cX4_fewestFrom 47 = .ok (.invokevirtual 84, 3) := by decide +kernel
theorem dX4_fewestFrom_50 : decode cX4_fewestFrom 50 = .ok (.iconst 0, 1) := by decide +kernel
theorem dX4_fewestFrom_51 : decode cX4_fewestFrom 51 = .ok (.istore 4, 2) := by decide +kernel
theorem dX4_fewestFrom_53 : decode cX4_fewestFrom 53 = .ok (.iconst 1, 1) := by decide +kernel
theorem dX4_fewestFrom_54 : decode cX4_fewestFrom 54 = .ok (.istore 5, 2) := by decide +kernel
theorem dX4_fewestFrom_56 : decode cX4_fewestFrom 56 = .ok (.iload 5, 2) := by decide +kernel
theorem dX4_fewestFrom_58 : decode cX4_fewestFrom 58 = .ok (.iload_n 2, 1) := by decide +kernel
theorem dX4_fewestFrom_59 : decode cX4_fewestFrom 59 = .ok (.if_icmp .gt 58, 3) := by decide +kernel
theorem dX4_fewestFrom_62 : decode cX4_fewestFrom 62 = .ok (.aload_n 0, 1) := by decide +kernel
theorem dX4_fewestFrom_63 : decode cX4_fewestFrom 63 = .ok (.getfield 81, 3) := by decide +kernel
theorem dX4_fewestFrom_66 : decode cX4_fewestFrom 66 = .ok (.istore 6, 2) := by decide +kernel
theorem dX4_fewestFrom_68 : decode cX4_fewestFrom 68 = .ok (.iload 4, 2) := by decide +kernel
theorem dX4_fewestFrom_70 : decode cX4_fewestFrom 70 = .ok (.istore 7, 2) := by decide +kernel
theorem dX4_fewestFrom_72 : decode cX4_fewestFrom 72 = .ok (.iload 7, 2) := by decide +kernel
theorem dX4_fewestFrom_74 : decode cX4_fewestFrom 74 = .ok (.iload 6, 2) := by decide +kernel
theorem dX4_fewestFrom_76 : decode cX4_fewestFrom 76 = .ok (.if_icmp .ge 31, 3) := by decide +kernel
theorem dX4_fewestFrom_79 : decode cX4_fewestFrom 79 = .ok (.aload_n 0, 1) := by decide +kernel
theorem dX4_fewestFrom_80 : decode cX4_fewestFrom 80 = .ok (.aload_n 0, 1) := by decide +kernel
theorem dX4_fewestFrom_81 : decode cX4_fewestFrom 81 = .ok (.getfield 18, 3) := by decide +kernel
theorem dX4_fewestFrom_84 : decode cX4_fewestFrom 84 = .ok (.iload 7, 2) := by decide +kernel
theorem dX4_fewestFrom_86 : decode cX4_fewestFrom 86 = .ok (.iaload, 1) := by decide +kernel
theorem dX4_fewestFrom_87 : decode cX4_fewestFrom 87 = .ok (.invokevirtual 88, 3) := by decide +kernel
theorem dX4_fewestFrom_90 : decode cX4_fewestFrom 90 = .ok (.aload_n 0, 1) := by decide +kernel
theorem dX4_fewestFrom_91 : decode cX4_fewestFrom 91 = .ok (.getfield 69, 3) := by decide +kernel
theorem dX4_fewestFrom_94 : decode cX4_fewestFrom 94 = .ok (.iconst (-1), 1) := by decide +kernel
theorem dX4_fewestFrom_95 : decode cX4_fewestFrom 95 = .ok (.if_icmp .eq 6, 3) := by decide +kernel
theorem dX4_fewestFrom_98 : decode cX4_fewestFrom 98 = .ok (.iload 5, 2) := by decide +kernel
theorem dX4_fewestFrom_100 : decode cX4_fewestFrom 100 = .ok (.ireturn, 1) := by decide +kernel
theorem dX4_fewestFrom_101 : decode cX4_fewestFrom 101 = .ok (.iinc 7 1, 3) := by decide +kernel
theorem dX4_fewestFrom_104 : decode cX4_fewestFrom 104 = .ok (.goto (-32), 3) := by decide +kernel
theorem dX4_fewestFrom_107 : decode cX4_fewestFrom 107 = .ok (.iload 6, 2) := by decide +kernel
theorem dX4_fewestFrom_109 : decode cX4_fewestFrom 109 = .ok (.istore 4, 2) := by decide +kernel
theorem dX4_fewestFrom_111 : decode cX4_fewestFrom 111 = .ok (.iinc 5 1, 3) := by decide +kernel
theorem dX4_fewestFrom_114 : decode cX4_fewestFrom 114 = .ok (.goto (-58), 3) := by decide +kernel
theorem dX4_fewestFrom_117 : decode cX4_fewestFrom 117 = .ok (.iconst (-1), 1) := by decide +kernel
theorem dX4_fewestFrom_118 : decode cX4_fewestFrom 118 = .ok (.ireturn, 1) := by decide +kernel
theorem dX4_goOnFrom_0 : decode cX4_goOnFrom 0 = .ok (.iload_n 1, 1) := by decide +kernel
theorem dX4_goOnFrom_1 : decode cX4_goOnFrom 1 = .ok (.sipush 256, 3) := by decide +kernel
theorem dX4_goOnFrom_4 : decode cX4_goOnFrom 4 = .ok (.idiv, 1) := by decide +kernel
theorem dX4_goOnFrom_5 : decode cX4_goOnFrom 5 = .ok (.istore_n 2, 1) := by decide +kernel
theorem dX4_goOnFrom_6 : decode cX4_goOnFrom 6 = .ok (.aload_n 0, 1) := by decide +kernel
theorem dX4_goOnFrom_7 : decode cX4_goOnFrom 7 = .ok (.getfield 21, 3) := by decide +kernel
theorem dX4_goOnFrom_10 : decode cX4_goOnFrom 10 = .ok (.getfield 91, 3) := by decide +kernel
theorem dX4_goOnFrom_13 : decode cX4_goOnFrom 13 = .ok (.iload_n 2, 1) := by decide +kernel
theorem dX4_goOnFrom_14 : decode cX4_goOnFrom 14 = .ok (.iaload, 1) := by decide +kernel
theorem dX4_goOnFrom_15 : decode cX4_goOnFrom 15 = .ok (.iconst 1, 1) := by decide +kernel
theorem dX4_goOnFrom_16 : decode cX4_goOnFrom 16 = .ok (.iload_n 2, 1) := by decide +kernel
theorem dX4_goOnFrom_17 : decode cX4_goOnFrom 17 = .ok (.ishl, 1) := by decide +kernel
theorem dX4_goOnFrom_18 : decode cX4_goOnFrom 18 = .ok (.ior, 1) := by decide +kernel
theorem dX4_goOnFrom_19 : decode cX4_goOnFrom 19 = .ok (.istore_n 3, 1) := by decide +kernel
theorem dX4_goOnFrom_20 : decode cX4_goOnFrom 20 = .ok (.aload_n 0, 1) := by decide +kernel
theorem dX4_goOnFrom_21 : decode cX4_goOnFrom 21 = .ok (.getfield 9, 3) := by decide +kernel
theorem dX4_goOnFrom_24 : decode cX4_goOnFrom 24 = .ok (.iload_n 1, 1) := by decide +kernel
theorem dX4_goOnFrom_25 : decode cX4_goOnFrom 25 = .ok (.sipush 256, 3) := by decide +kernel
theorem dX4_goOnFrom_28 : decode cX4_goOnFrom 28 = .ok (.irem, 1) := by decide +kernel
theorem dX4_goOnFrom_29 : decode cX4_goOnFrom 29 = .ok (.iaload, 1) := by decide +kernel
theorem dX4_goOnFrom_30 : decode cX4_goOnFrom 30 = .ok (.istore 4, 2) := by decide +kernel
theorem dX4_goOnFrom_32 : decode cX4_goOnFrom 32 = .ok (.iconst 0, 1) := by decide +kernel
theorem dX4_goOnFrom_33 : decode cX4_goOnFrom 33 = .ok (.istore 5, 2) := by decide +kernel
theorem dX4_goOnFrom_35 : decode cX4_goOnFrom 35 = .ok (.iload 5, 2) := by decide +kernel
theorem dX4_goOnFrom_37 : decode cX4_goOnFrom 37 = .ok (.bipush 8, 2) := by decide +kernel
theorem dX4_goOnFrom_39 : decode cX4_goOnFrom 39 = .ok (.if_icmp .ge 71, 3) := by decide +kernel
theorem dX4_goOnFrom_42 : decode cX4_goOnFrom 42 = .ok (.aload_n 0, 1) := by decide +kernel
theorem dX4_goOnFrom_43 : decode cX4_goOnFrom 43 = .ok (.getfield 69, 3) := by decide +kernel
theorem dX4_goOnFrom_46 : decode cX4_goOnFrom 46 = .ok (.iconst (-1), 1) := by decide +kernel
theorem dX4_goOnFrom_47 : decode cX4_goOnFrom 47 = .ok (.if_icmp .ne 63, 3) := by decide +kernel
theorem dX4_goOnFrom_50 : decode cX4_goOnFrom 50 = .ok (.iload_n 3, 1) := by decide +kernel
theorem dX4_goOnFrom_51 : decode cX4_goOnFrom 51 = .ok (.iload 5, 2) := by decide +kernel
theorem dX4_goOnFrom_53 : decode cX4_goOnFrom 53 = .ok (.ishr, 1) := by decide +kernel
theorem dX4_goOnFrom_54 : decode cX4_goOnFrom 54 = .ok (.iconst 1, 1) := by decide +kernel
theorem dX4_goOnFrom_55 : decode cX4_goOnFrom 55 = .ok (.iand, 1) := by decide +kernel
theorem dX4_goOnFrom_56 : decode cX4_goOnFrom 56 = .ok (.ifCond .eq 48, 3) := by decide +kernel
theorem dX4_goOnFrom_59 : decode cX4_goOnFrom 59 = .ok (.iload 4, 2) := by decide +kernel
theorem dX4_goOnFrom_61 : decode cX4_goOnFrom 61 = .ok (.aload_n 0, 1) := by decide +kernel
theorem dX4_goOnFrom_62 : decode cX4_goOnFrom 62 = .ok (.getfield 49, 3) := by decide +kernel
theorem dX4_goOnFrom_65 : decode cX4_goOnFrom 65 = .ok (.iconst 1, 1) := by decide +kernel
theorem dX4_goOnFrom_66 : decode cX4_goOnFrom 66 = .ok (.iload 5, 2) := by decide +kernel
theorem dX4_goOnFrom_68 : decode cX4_goOnFrom 68 = .ok (.ishl, 1) := by decide +kernel
theorem dX4_goOnFrom_69 : decode cX4_goOnFrom 69 = .ok (.iand, 1) := by decide +kernel
theorem dX4_goOnFrom_70 : decode cX4_goOnFrom 70 = .ok (.iconst (-1), 1) := by decide +kernel
theorem dX4_goOnFrom_71 : decode cX4_goOnFrom 71 = .ok (.ixor, 1) := by decide +kernel
theorem dX4_goOnFrom_72 : decode cX4_goOnFrom 72 = .ok (.iand, 1) := by decide +kernel
theorem dX4_goOnFrom_73 : decode cX4_goOnFrom 73 = .ok (.istore 6, 2) := by decide +kernel
theorem dX4_goOnFrom_75 : decode cX4_goOnFrom 75 = .ok (.aload_n 0, 1) := by decide +kernel
theorem dX4_goOnFrom_76 : decode cX4_goOnFrom 76 = .ok (.iload 5, 2) := by decide +kernel
theorem dX4_goOnFrom_78 : decode cX4_goOnFrom 78 = .ok (.sipush 256, 3) := by decide +kernel
theorem dX4_goOnFrom_81 : decode cX4_goOnFrom 81 = .ok (.imul, 1) := by decide +kernel
theorem dX4_goOnFrom_82 : decode cX4_goOnFrom 82 = .ok (.iload 6, 2) := by decide +kernel
theorem dX4_goOnFrom_84 : decode cX4_goOnFrom 84 = .ok (.iadd, 1) := by decide +kernel
theorem dX4_goOnFrom_85 : decode cX4_goOnFrom 85 = .ok (.iload_n 1, 1) := by decide +kernel
theorem dX4_goOnFrom_86 : decode cX4_goOnFrom 86 = .ok (.invokevirtual 84, 3) := by decide +kernel
theorem dX4_goOnFrom_89 : decode cX4_goOnFrom 89 = .ok (.iload 6, 2) := by decide +kernel
theorem dX4_goOnFrom_91 : decode cX4_goOnFrom 91 = .ok (.ifCond .ne 13, 3) := by decide +kernel
theorem dX4_goOnFrom_94 : decode cX4_goOnFrom 94 = .ok (.aload_n 0, 1) := by decide +kernel
theorem dX4_goOnFrom_95 : decode cX4_goOnFrom 95 = .ok (.iload 5, 2) := by decide +kernel
theorem dX4_goOnFrom_97 : decode cX4_goOnFrom 97 = .ok (.sipush 256, 3) := by decide +kernel
theorem dX4_goOnFrom_100 : decode cX4_goOnFrom 100 = .ok (.imul, 1) := by decide +kernel
theorem dX4_goOnFrom_101 : decode cX4_goOnFrom 101 = .ok (.putfield 69, 3) := by decide +kernel
theorem dX4_goOnFrom_104 : decode cX4_goOnFrom 104 = .ok (.iinc 5 1, 3) := by decide +kernel
theorem dX4_goOnFrom_107 : decode cX4_goOnFrom 107 = .ok (.goto (-72), 3) := by decide +kernel
theorem dX4_goOnFrom_110 : decode cX4_goOnFrom 110 = .ok (.return_, 1) := by decide +kernel
theorem dX4_enqueue_0 : decode cX4_enqueue 0 = .ok (.aload_n 0, 1) := by decide +kernel
theorem dX4_enqueue_1 : decode cX4_enqueue 1 = .ok (.getfield 15, 3) := by decide +kernel
theorem dX4_enqueue_4 : decode cX4_enqueue 4 = .ok (.iload_n 1, 1) := by decide +kernel
theorem dX4_enqueue_5 : decode cX4_enqueue 5 = .ok (.iaload, 1) := by decide +kernel
theorem dX4_enqueue_6 : decode cX4_enqueue 6 = .ok (.iconst (-1), 1) := by decide +kernel
theorem dX4_enqueue_7 : decode cX4_enqueue 7 = .ok (.if_icmp .ne 42, 3) := by decide +kernel
theorem dX4_enqueue_10 : decode cX4_enqueue 10 = .ok (.aload_n 0, 1) := by decide +kernel
theorem dX4_enqueue_11 : decode cX4_enqueue 11 = .ok (.getfield 81, 3) := by decide +kernel
theorem dX4_enqueue_14 : decode cX4_enqueue 14 = .ok (.aload_n 0, 1) := by decide +kernel
theorem dX4_enqueue_15 : decode cX4_enqueue 15 = .ok (.getfield 18, 3) := by decide +kernel
theorem dX4_enqueue_18 : decode cX4_enqueue 18 = .ok (.arraylength, 1) := by decide +kernel
theorem dX4_enqueue_19 : decode cX4_enqueue 19 = .ok (.if_icmp .ge 30, 3) := by decide +kernel
theorem dX4_enqueue_22 : decode cX4_enqueue 22 = .ok (.aload_n 0, 1) := by decide +kernel
theorem dX4_enqueue_23 : decode cX4_enqueue 23 = .ok (.getfield 15, 3) := by decide +kernel
theorem dX4_enqueue_26 : decode cX4_enqueue 26 = .ok (.iload_n 1, 1) := by decide +kernel
theorem dX4_enqueue_27 : decode cX4_enqueue 27 = .ok (.iload_n 2, 1) := by decide +kernel
theorem dX4_enqueue_28 : decode cX4_enqueue 28 = .ok (.iastore, 1) := by decide +kernel
theorem dX4_enqueue_29 : decode cX4_enqueue 29 = .ok (.aload_n 0, 1) := by decide +kernel
theorem dX4_enqueue_30 : decode cX4_enqueue 30 = .ok (.getfield 18, 3) := by decide +kernel
theorem dX4_enqueue_33 : decode cX4_enqueue 33 = .ok (.aload_n 0, 1) := by decide +kernel
theorem dX4_enqueue_34 : decode cX4_enqueue 34 = .ok (.getfield 81, 3) := by decide +kernel
theorem dX4_enqueue_37 : decode cX4_enqueue 37 = .ok (.iload_n 1, 1) := by decide +kernel
theorem dX4_enqueue_38 : decode cX4_enqueue 38 = .ok (.iastore, 1) := by decide +kernel
theorem dX4_enqueue_39 : decode cX4_enqueue 39 = .ok (.aload_n 0, 1) := by decide +kernel
theorem dX4_enqueue_40 : decode cX4_enqueue 40 = .ok (.dup, 1) := by decide +kernel
theorem dX4_enqueue_41 : decode cX4_enqueue 41 = .ok (.getfield 81, 3) := by decide +kernel
theorem dX4_enqueue_44 : decode cX4_enqueue 44 = .ok (.iconst 1, 1) := by decide +kernel
theorem dX4_enqueue_45 : decode cX4_enqueue 45 = .ok (.iadd, 1) := by decide +kernel
theorem dX4_enqueue_46 : decode cX4_enqueue 46 = .ok (.putfield 81, 3) := by decide +kernel
theorem dX4_enqueue_49 : decode cX4_enqueue 49 = .ok (.return_, 1) := by decide +kernel
theorem dX4_wayOf_0 : decode cX4_wayOf 0 = .ok (.iload_n 1, 1) := by decide +kernel
theorem dX4_wayOf_1 : decode cX4_wayOf 1 = .ok (.iconst (-1), 1) := by decide +kernel
theorem dX4_wayOf_2 : decode cX4_wayOf 2 = .ok (.if_icmp .eq 9, 3) := by decide +kernel
theorem dX4_wayOf_5 : decode cX4_wayOf 5 = .ok (.iload_n 1, 1) := by decide +kernel
theorem dX4_wayOf_6 : decode cX4_wayOf 6 = .ok (.bipush 9, 2) := by decide +kernel
theorem dX4_wayOf_8 : decode cX4_wayOf 8 = .ok (.if_icmp .le 5, 3) := by decide +kernel
theorem dX4_wayOf_11 : decode cX4_wayOf 11 = .ok (.iconst (-1), 1) := by decide +kernel
theorem dX4_wayOf_12 : decode cX4_wayOf 12 = .ok (.ireturn, 1) := by decide +kernel
theorem dX4_wayOf_13 : decode cX4_wayOf 13 = .ok (.iconst 0, 1) := by decide +kernel
theorem dX4_wayOf_14 : decode cX4_wayOf 14 = .ok (.istore_n 2, 1) := by decide +kernel
theorem dX4_wayOf_15 : decode cX4_wayOf 15 = .ok (.iconst 1, 1) := by decide +kernel
theorem dX4_wayOf_16 : decode cX4_wayOf 16 = .ok (.istore_n 3, 1) := by decide +kernel
theorem dX4_wayOf_17 : decode cX4_wayOf 17 = .ok (.aload_n 0, 1) := by decide +kernel
theorem dX4_wayOf_18 : decode cX4_wayOf 18 = .ok (.getfield 69, 3) := by decide +kernel
theorem dX4_wayOf_21 : decode cX4_wayOf 21 = .ok (.istore 4, 2) := by decide +kernel
theorem dX4_wayOf_23 : decode cX4_wayOf 23 = .ok (.iconst 0, 1) := by decide +kernel
theorem dX4_wayOf_24 : decode cX4_wayOf 24 = .ok (.istore 5, 2) := by decide +kernel
theorem dX4_wayOf_26 : decode cX4_wayOf 26 = .ok (.iload 5, 2) := by decide +kernel
theorem dX4_wayOf_28 : decode cX4_wayOf 28 = .ok (.iload_n 1, 1) := by decide +kernel
theorem dX4_wayOf_29 : decode cX4_wayOf 29 = .ok (.if_icmp .ge 42, 3) := by decide +kernel
theorem dX4_wayOf_32 : decode cX4_wayOf 32 = .ok (.iload 4, 2) := by decide +kernel
theorem dX4_wayOf_34 : decode cX4_wayOf 34 = .ok (.iconst (-1), 1) := by decide +kernel
theorem dX4_wayOf_35 : decode cX4_wayOf 35 = .ok (.if_icmp .eq 36, 3) := by decide +kernel
theorem dX4_wayOf_38 : decode cX4_wayOf 38 = .ok (.iload_n 2, 1) := by decide +kernel
theorem dX4_wayOf_39 : decode cX4_wayOf 39 = .ok (.iload 4, 2) := by decide +kernel
theorem dX4_wayOf_41 : decode cX4_wayOf 41 = .ok (.sipush 256, 3) := by decide +kernel
theorem dX4_wayOf_44 : decode cX4_wayOf 44 = .ok (.idiv, 1) := by decide +kernel
theorem dX4_wayOf_45 : decode cX4_wayOf 45 = .ok (.iconst 1, 1) := by decide +kernel
theorem dX4_wayOf_46 : decode cX4_wayOf 46 = .ok (.iadd, 1) := by decide +kernel
theorem dX4_wayOf_47 : decode cX4_wayOf 47 = .ok (.iload_n 3, 1) := by decide +kernel
theorem dX4_wayOf_48 : decode cX4_wayOf 48 = .ok (.imul, 1) := by decide +kernel
theorem dX4_wayOf_49 : decode cX4_wayOf 49 = .ok (.iadd, 1) := by decide +kernel
theorem dX4_wayOf_50 : decode cX4_wayOf 50 = .ok (.istore_n 2, 1) := by decide +kernel
theorem dX4_wayOf_51 : decode cX4_wayOf 51 = .ok (.iload_n 3, 1) := by decide +kernel
theorem dX4_wayOf_52 : decode cX4_wayOf 52 = .ok (.bipush 10, 2) := by decide +kernel
theorem dX4_wayOf_54 : decode cX4_wayOf 54 = .ok (.imul, 1) := by decide +kernel
theorem dX4_wayOf_55 : decode cX4_wayOf 55 = .ok (.istore_n 3, 1) := by decide +kernel
theorem dX4_wayOf_56 : decode cX4_wayOf 56 = .ok (.aload_n 0, 1) := by decide +kernel
theorem dX4_wayOf_57 : decode cX4_wayOf 57 = .ok (.getfield 15, 3) := by decide +kernel
theorem dX4_wayOf_60 : decode cX4_wayOf 60 = .ok (.iload 4, 2) := by decide +kernel
theorem dX4_wayOf_62 : decode cX4_wayOf 62 = .ok (.iaload, 1) := by decide +kernel
theorem dX4_wayOf_63 : decode cX4_wayOf 63 = .ok (.istore 4, 2) := by decide +kernel
theorem dX4_wayOf_65 : decode cX4_wayOf 65 = .ok (.iinc 5 1, 3) := by decide +kernel
theorem dX4_wayOf_68 : decode cX4_wayOf 68 = .ok (.goto (-42), 3) := by decide +kernel
theorem dX4_wayOf_71 : decode cX4_wayOf 71 = .ok (.iload_n 2, 1) := by decide +kernel
theorem dX4_wayOf_72 : decode cX4_wayOf 72 = .ok (.ireturn, 1) := by decide +kernel
theorem dX5_init_0 : decode cX5_init 0 = .ok (.aload_n 0, 1) := by decide +kernel
theorem dX5_init_1 : decode cX5_init 1 = .ok (.invokespecial 3, 3) := by decide +kernel
theorem dX5_init_4 : decode cX5_init 4 = .ok (.aload_n 0, 1) := by decide +kernel
theorem dX5_init_5 : decode cX5_init 5 = .ok (.bipush 40, 2) := by decide +kernel
theorem dX5_init_7 : decode cX5_init 7 = .ok (.newarray .int, 2) := by decide +kernel
theorem dX5_init_9 : decode cX5_init 9 = .ok (.putfield 9, 3) := by decide +kernel
theorem dX5_init_12 : decode cX5_init 12 = .ok (.aload_n 0, 1) := by decide +kernel
theorem dX5_init_13 : decode cX5_init 13 = .ok (.iconst (-1), 1) := by decide +kernel
theorem dX5_init_14 : decode cX5_init 14 = .ok (.putfield 15, 3) := by decide +kernel
theorem dX5_init_17 : decode cX5_init 17 = .ok (.return_, 1) := by decide +kernel
theorem dX5_become_0 : decode cX5_become 0 = .ok (.aload_n 0, 1) := by decide +kernel
theorem dX5_become_1 : decode cX5_become 1 = .ok (.iload_n 1, 1) := by decide +kernel
theorem dX5_become_2 : decode cX5_become 2 = .ok (.putfield 15, 3) := by decide +kernel
theorem dX5_become_5 : decode cX5_become 5 = .ok (.aload_n 0, 1) := by decide +kernel
theorem dX5_become_6 : decode cX5_become 6 = .ok (.iconst 0, 1) := by decide +kernel
theorem dX5_become_7 : decode cX5_become 7 = .ok (.iload_n 2, 1) := by decide +kernel
theorem dX5_become_8 : decode cX5_become 8 = .ok (.bipush 40, 2) := by decide +kernel
theorem dX5_become_10 : decode cX5_become 10 = .ok (.invokestatic 19, 3) := by decide +kernel
theorem dX5_become_13 : decode cX5_become 13 = .ok (.invokestatic 25, 3) := by decide +kernel
theorem dX5_become_16 : decode cX5_become 16 = .ok (.putfield 28, 3) := by decide +kernel
theorem dX5_become_19 : decode cX5_become 19 = .ok (.aload_n 0, 1) := by decide +kernel
theorem dX5_become_20 : decode cX5_become 20 = .ok (.getfield 9, 3) := by decide +kernel
theorem dX5_become_23 : decode cX5_become 23 = .ok (.iconst 0, 1) := by decide +kernel
theorem dX5_become_24 : decode cX5_become 24 = .ok (.invokestatic 31, 3) := by decide +kernel
theorem dX5_become_27 : decode cX5_become 27 = .ok (.return_, 1) := by decide +kernel
theorem dX5_put_0 : decode cX5_put 0 = .ok (.iload_n 1, 1) := by decide +kernel
theorem dX5_put_1 : decode cX5_put 1 = .ok (.aload_n 0, 1) := by decide +kernel
theorem dX5_put_2 : decode cX5_put 2 = .ok (.getfield 28, 3) := by decide +kernel
theorem dX5_put_5 : decode cX5_put 5 = .ok (.invokestatic 37, 3) := by decide +kernel
theorem dX5_put_8 : decode cX5_put 8 = .ok (.ifCond .ne 4, 3) := by decide +kernel
theorem dX5_put_11 : decode cX5_put 11 = .ok (.return_, 1) := by decide +kernel
theorem dX5_put_12 : decode cX5_put 12 = .ok (.aload_n 0, 1) := by decide +kernel
theorem dX5_put_13 : decode cX5_put 13 = .ok (.getfield 15, 3) := by decide +kernel
theorem dX5_put_16 : decode cX5_put 16 = .ok (.ifCond .ne 14, 3) := by decide +kernel
theorem dX5_put_19 : decode cX5_put 19 = .ok (.aload_n 0, 1) := by decide +kernel
theorem dX5_put_20 : decode cX5_put 20 = .ok (.getfield 9, 3) := by decide +kernel
theorem dX5_put_23 : decode cX5_put 23 = .ok (.iload_n 1, 1) := by decide +kernel
theorem dX5_put_24 : decode cX5_put 24 = .ok (.iload_n 2, 1) := by decide +kernel
theorem dX5_put_25 : decode cX5_put 25 = .ok (.i2b, 1) := by decide +kernel
theorem dX5_put_26 : decode cX5_put 26 = .ok (.iastore, 1) := by decide +kernel
theorem dX5_put_27 : decode cX5_put 27 = .ok (.goto 29, 3) := by decide +kernel
theorem dX5_put_30 : decode cX5_put 30 = .ok (.aload_n 0, 1) := by decide +kernel
theorem dX5_put_31 : decode cX5_put 31 = .ok (.getfield 15, 3) := by decide +kernel
theorem dX5_put_34 : decode cX5_put 34 = .ok (.iconst 1, 1) := by decide +kernel
theorem dX5_put_35 : decode cX5_put 35 = .ok (.if_icmp .ne 14, 3) := by decide +kernel
theorem dX5_put_38 : decode cX5_put 38 = .ok (.aload_n 0, 1) := by decide +kernel
theorem dX5_put_39 : decode cX5_put 39 = .ok (.getfield 9, 3) := by decide +kernel
theorem dX5_put_42 : decode cX5_put 42 = .ok (.iload_n 1, 1) := by decide +kernel
theorem dX5_put_43 : decode cX5_put 43 = .ok (.iload_n 2, 1) := by decide +kernel
theorem dX5_put_44 : decode cX5_put 44 = .ok (.i2s, 1) := by decide +kernel
theorem dX5_put_45 : decode cX5_put 45 = .ok (.iastore, 1) := by decide +kernel
theorem dX5_put_46 : decode cX5_put 46 = .ok (.goto 10, 3) := by decide +kernel
theorem dX5_put_49 : decode cX5_put 49 = .ok (.aload_n 0, 1) := by decide +kernel
theorem dX5_put_50 : decode cX5_put 50 = .ok (.getfield 9, 3) := by decide +kernel
theorem dX5_put_53 : decode cX5_put 53 = .ok (.iload_n 1, 1) := by decide +kernel
theorem dX5_put_54 : decode cX5_put 54 = .ok (.iload_n 2, 1) := by decide +kernel
theorem dX5_put_55 : decode cX5_put 55 = .ok (.iastore, 1) := by decide +kernel
theorem dX5_put_56 : decode cX5_put 56 = .ok (.return_, 1) := by decide +kernel
theorem dX5_holds_0 : decode cX5_holds 0 = .ok (.iload_n 1, 1) := by decide +kernel
theorem dX5_holds_1 : decode cX5_holds 1 = .ok (.ifCond .lt 29, 3) := by decide +kernel
theorem dX5_holds_4 : decode cX5_holds 4 = .ok (.iload_n 2, 1) := by decide +kernel
theorem dX5_holds_5 : decode cX5_holds 5 = .ok (.ifCond .lt 25, 3) := by decide +kernel
theorem dX5_holds_8 : decode cX5_holds 8 = .ok (.iload_n 1, 1) := by decide +kernel
theorem dX5_holds_9 : decode cX5_holds 9 = .ok (.aload_n 0, 1) := by decide +kernel
theorem dX5_holds_10 : decode cX5_holds 10 = .ok (.getfield 28, 3) := by decide +kernel
theorem dX5_holds_13 : decode cX5_holds 13 = .ok (.if_icmp .gt 17, 3) := by decide +kernel
theorem dX5_holds_16 : decode cX5_holds 16 = .ok (.iload_n 2, 1) := by decide +kernel
theorem dX5_holds_17 : decode cX5_holds 17 = .ok (.aload_n 0, 1) := by decide +kernel
theorem dX5_holds_18 : decode cX5_holds 18 = .ok (.getfield 28, 3) := by decide +kernel
theorem dX5_holds_21 : decode cX5_holds 21 = .ok (.iload_n 1, 1) := by decide +kernel
theorem dX5_holds_22 : decode cX5_holds 22 = .ok (.isub, 1) := by decide +kernel
theorem dX5_holds_23 : decode cX5_holds 23 = .ok (.if_icmp .gt 7, 3) := by decide +kernel
theorem dX5_holds_26 : decode cX5_holds 26 = .ok (.iconst 1, 1) := by decide +kernel
theorem dX5_holds_27 : decode cX5_holds 27 = .ok (.goto 4, 3) := by decide +kernel
theorem dX5_holds_30 : decode cX5_holds 30 = .ok (.iconst 0, 1) := by decide +kernel
theorem dX5_holds_31 : decode cX5_holds 31 = .ok (.ireturn, 1) := by decide +kernel
theorem dX6_init_0 : decode cX6_init 0 = .ok (.aload_n 0, 1) := by decide +kernel
theorem dX6_init_1 : decode cX6_init 1 = .ok (.invokespecial 3, 3) := by decide +kernel
theorem dX6_init_4 : decode cX6_init 4 = .ok (.aload_n 0, 1) := by decide +kernel
theorem dX6_init_5 : decode cX6_init 5 = .ok (.sipush 160, 3) := by decide +kernel
theorem dX6_init_8 : decode cX6_init 8 = .ok (.newarray .int, 2) := by decide +kernel
theorem dX6_init_10 : decode cX6_init 10 = .ok (.putfield 9, 3) := by decide +kernel
theorem dX6_init_13 : decode cX6_init 13 = .ok (.aload_n 0, 1) := by decide +kernel
theorem dX6_init_14 : decode cX6_init 14 = .ok (.bipush 64, 2) := by decide +kernel
theorem dX6_init_16 : decode cX6_init 16 = .ok (.newarray .int, 2) := by decide +kernel
theorem dX6_init_18 : decode cX6_init 18 = .ok (.putfield 15, 3) := by decide +kernel
theorem dX6_init_21 : decode cX6_init 21 = .ok (.return_, 1) := by decide +kernel
theorem dX6_put_0 : decode cX6_put 0 = .ok (.aload_n 0, 1) := by decide +kernel
theorem dX6_put_1 : decode cX6_put 1 = .ok (.getfield 18, 3) := by decide +kernel
theorem dX6_put_4 : decode cX6_put 4 = .ok (.aload_n 0, 1) := by decide +kernel
theorem dX6_put_5 : decode cX6_put 5 = .ok (.getfield 9, 3) := by decide +kernel
theorem dX6_put_8 : decode cX6_put 8 = .ok (.arraylength, 1) := by decide +kernel
theorem dX6_put_9 : decode cX6_put 9 = .ok (.if_icmp .lt 5, 3) := by decide +kernel
theorem dX6_put_12 : decode cX6_put 12 = .ok (.iconst 0, 1) := by decide +kernel
theorem dX6_put_13 : decode cX6_put 13 = .ok (.ireturn, 1) := by decide +kernel
theorem dX6_put_14 : decode cX6_put 14 = .ok (.aload_n 0, 1) := by decide +kernel
theorem dX6_put_15 : decode cX6_put 15 = .ok (.getfield 9, 3) := by decide +kernel
theorem dX6_put_18 : decode cX6_put 18 = .ok (.aload_n 0, 1) := by decide +kernel
theorem dX6_put_19 : decode cX6_put 19 = .ok (.getfield 18, 3) := by decide +kernel
theorem dX6_put_22 : decode cX6_put 22 = .ok (.iload_n 1, 1) := by decide +kernel
theorem dX6_put_23 : decode cX6_put 23 = .ok (.iastore, 1) := by decide +kernel
theorem dX6_put_24 : decode cX6_put 24 = .ok (.aload_n 0, 1) := by decide +kernel
theorem dX6_put_25 : decode cX6_put 25 = .ok (.dup, 1) := by decide +kernel
theorem dX6_put_26 : decode cX6_put 26 = .ok (.getfield 18, 3) := by decide +kernel
theorem dX6_put_29 : decode cX6_put 29 = .ok (.iconst 1, 1) := by decide +kernel
theorem dX6_put_30 : decode cX6_put 30 = .ok (.iadd, 1) := by decide +kernel
theorem dX6_put_31 : decode cX6_put 31 = .ok (.putfield 18, 3) := by decide +kernel
theorem dX6_put_34 : decode cX6_put 34 = .ok (.iconst 1, 1) := by decide +kernel
theorem dX6_put_35 : decode cX6_put 35 = .ok (.ireturn, 1) := by decide +kernel
theorem dX6_readInto_0 : decode cX6_readInto 0 = .ok (.aload_n 0, 1) := by decide +kernel
theorem dX6_readInto_1 : decode cX6_readInto 1 = .ok (.iconst 0, 1) := by decide +kernel
theorem dX6_readInto_2 : decode cX6_readInto 2 = .ok (.putfield 22, 3) := by decide +kernel
theorem dX6_readInto_5 : decode cX6_readInto 5 = .ok (.aload_n 1, 1) := by decide +kernel
theorem dX6_readInto_6 : decode cX6_readInto 6 = .ok (.invokevirtual 25, 3) := by decide +kernel
theorem dX6_readInto_9 : decode cX6_readInto 9 = .ok (.iconst 0, 1) := by decide +kernel
theorem dX6_readInto_10 : decode cX6_readInto 10 = .ok (.istore_n 2, 1) := by decide +kernel
theorem dX6_readInto_11 : decode cX6_readInto 11 = .ok (.iload_n 2, 1) := by decide +kernel
theorem dX6_readInto_12 : decode cX6_readInto 12 = .ok (.iconst 3, 1) := by decide +kernel
theorem dX6_readInto_13 : decode cX6_readInto 13 = .ok (.if_icmp .ge 47, 3) := by decide +kernel
theorem dX6_readInto_16 : decode cX6_readInto 16 = .ok (.aload_n 0, 1) := by decide +kernel
theorem dX6_readInto_17 : decode cX6_readInto 17 = .ok (.invokevirtual 30, 3) := by decide +kernel
theorem dX6_readInto_20 : decode cX6_readInto 20 = .ok (.aload_n 0, 1) := by decide +kernel
theorem dX6_readInto_21 : decode cX6_readInto 21 = .ok (.getfield 33, 3) := by decide +kernel
theorem dX6_readInto_24 : decode cX6_readInto 24 = .ok (.bipush 13, 2) := by decide +kernel
theorem dX6_readInto_26 : decode cX6_readInto 26 = .ok (.iload_n 2, 1) := by decide +kernel
theorem dX6_readInto_27 : decode cX6_readInto 27 = .ok (.iadd, 1) := by decide +kernel
theorem dX6_readInto_28 : decode cX6_readInto 28 = .ok (.if_icmp .eq 8, 3) := by decide +kernel
theorem dX6_readInto_31 : decode cX6_readInto 31 = .ok (.aload_n 0, 1) := by decide +kernel
theorem dX6_readInto_32 : decode cX6_readInto 32 = .ok (.getfield 36, 3) := by decide +kernel
theorem dX6_readInto_35 : decode cX6_readInto 35 = .ok (.ireturn, 1) := by decide +kernel
theorem dX6_readInto_36 : decode cX6_readInto 36 = .ok (.aload_n 1, 1) := by decide +kernel
theorem dX6_readInto_37 : decode cX6_readInto 37 = .ok (.iload_n 2, 1) := by decide +kernel
theorem dX6_readInto_38 : decode cX6_readInto 38 = .ok (.invokevirtual 39, 3) := by decide +kernel
theorem dX6_readInto_41 : decode cX6_readInto 41 = .ok (.aload_n 0, 1) := by decide +kernel
theorem dX6_readInto_42 : decode cX6_readInto 42 = .ok (.aload_n 1, 1) := by decide +kernel
theorem dX6_readInto_43 : decode cX6_readInto 43 = .ok (.invokevirtual 43, 3) := by decide +kernel
theorem dX6_readInto_46 : decode cX6_readInto 46 = .ok (.ifCond .ne 8, 3) := by decide +kernel
theorem dX6_readInto_49 : decode cX6_readInto 49 = .ok (.aload_n 0, 1) := by decide +kernel
theorem dX6_readInto_50 : decode cX6_readInto 50 = .ok (.getfield 36, 3) := by decide +kernel
theorem dX6_readInto_53 : decode cX6_readInto 53 = .ok (.ireturn, 1) := by decide +kernel
theorem dX6_readInto_54 : decode cX6_readInto 54 = .ok (.iinc 2 1, 3) := by decide +kernel
theorem dX6_readInto_57 : decode cX6_readInto 57 = .ok (.goto (-46), 3) := by decide +kernel
theorem dX6_readInto_60 : decode cX6_readInto 60 = .ok (.aload_n 1, 1) := by decide +kernel
theorem dX6_readInto_61 : decode cX6_readInto 61 = .ok (.iconst 3, 1) := by decide +kernel
theorem dX6_readInto_62 : decode cX6_readInto 62 = .ok (.invokevirtual 39, 3) := by decide +kernel
theorem dX6_readInto_65 : decode cX6_readInto 65 = .ok (.aload_n 0, 1) := by decide +kernel
theorem dX6_readInto_66 : decode cX6_readInto 66 = .ok (.invokevirtual 30, 3) := by decide +kernel
theorem dX6_readInto_69 : decode cX6_readInto 69 = .ok (.aload_n 0, 1) := by decide +kernel
theorem dX6_readInto_70 : decode cX6_readInto 70 = .ok (.getfield 33, 3) := by decide +kernel
theorem dX6_readInto_73 : decode cX6_readInto 73 = .ok (.bipush 18, 2) := by decide +kernel
theorem dX6_readInto_75 : decode cX6_readInto 75 = .ok (.if_icmp .ne 7, 3) := by decide +kernel
theorem dX6_readInto_78 : decode cX6_readInto 78 = .ok (.iconst (-1), 1) := by decide +kernel
theorem dX6_readInto_79 : decode cX6_readInto 79 = .ok (.goto 7, 3) := by decide +kernel
theorem dX6_readInto_82 : decode cX6_readInto 82 = .ok (.aload_n 0, 1) := by decide +kernel
theorem dX6_readInto_83 : decode cX6_readInto 83 = .ok (.getfield 36, 3) := by decide +kernel
theorem dX6_readInto_86 : decode cX6_readInto 86 = .ok (.ireturn, 1) := by decide +kernel
theorem dX6_readPart_0 : decode cX6_readPart 0 = .ok (.aload_n 0, 1) := by decide +kernel
theorem dX6_readPart_1 : decode cX6_readPart 1 = .ok (.iconst 0, 1) := by decide +kernel
theorem dX6_readPart_2 : decode cX6_readPart 2 = .ok (.putfield 47, 3) := by decide +kernel
theorem dX6_readPart_5 : decode cX6_readPart 5 = .ok (.aload_n 0, 1) := by decide +kernel
theorem dX6_readPart_6 : decode cX6_readPart 6 = .ok (.iconst 0, 1) := by decide +kernel
theorem dX6_readPart_7 : decode cX6_readPart 7 = .ok (.putfield 50, 3) := by decide +kernel
theorem dX6_readPart_10 : decode cX6_readPart 10 = .ok (.iconst 1, 1) := by decide +kernel
theorem dX6_readPart_11 : decode cX6_readPart 11 = .ok (.istore_n 2, 1) := by decide +kernel
theorem dX6_readPart_12 : decode cX6_readPart 12 = .ok (.iconst 0, 1) := by decide +kernel
theorem dX6_readPart_13 : decode cX6_readPart 13 = .ok (.istore_n 3, 1) := by decide +kernel
theorem dX6_readPart_14 : decode cX6_readPart 14 = .ok (.iload_n 3, 1) := by decide +kernel
theorem dX6_readPart_15 : decode cX6_readPart 15 = .ok (.sipush 160, 3) := by decide +kernel
theorem dX6_readPart_18 : decode cX6_readPart 18 = .ok (.if_icmp .gt 138, 3) := by decide +kernel
theorem dX6_readPart_21 : decode cX6_readPart 21 = .ok (.aload_n 0, 1) := by decide +kernel
theorem dX6_readPart_22 : decode cX6_readPart 22 = .ok (.invokevirtual 30, 3) := by decide +kernel
theorem dX6_readPart_25 : decode cX6_readPart 25 = .ok (.iload_n 2, 1) := by decide +kernel
theorem dX6_readPart_26 : decode cX6_readPart 26 = .ok (.ifCond .eq 62, 3) := by decide +kernel
theorem dX6_readPart_29 : decode cX6_readPart 29 = .ok (.aload_n 0, 1) := by decide +kernel
theorem dX6_readPart_30 : decode cX6_readPart 30 = .ok (.getfield 33, 3) := by decide +kernel
theorem dX6_readPart_33 : decode cX6_readPart 33 = .ok (.bipush 16, 2) := by decide +kernel
theorem dX6_readPart_35 : decode cX6_readPart 35 = .ok (.if_icmp .eq 12, 3) := by decide +kernel
theorem dX6_readPart_38 : decode cX6_readPart 38 = .ok (.aload_n 0, 1) := by decide +kernel
theorem dX6_readPart_39 : decode cX6_readPart 39 = .ok (.getfield 33, 3) := by decide +kernel
theorem dX6_readPart_42 : decode cX6_readPart 42 = .ok (.bipush 17, 2) := by decide +kernel
theorem dX6_readPart_44 : decode cX6_readPart 44 = .ok (.if_icmp .ne 35, 3) := by decide +kernel
theorem dX6_readPart_47 : decode cX6_readPart 47 = .ok (.aload_n 1, 1) := by decide +kernel
theorem dX6_readPart_48 : decode cX6_readPart 48 = .ok (.aload_n 0, 1) := by decide +kernel
theorem dX6_readPart_49 : decode cX6_readPart 49 = .ok (.getfield 33, 3) := by decide +kernel
theorem dX6_readPart_52 : decode cX6_readPart 52 = .ok (.bipush 16, 2) := by decide +kernel
theorem dX6_readPart_54 : decode cX6_readPart 54 = .ok (.if_icmp .ne 10, 3) := by decide +kernel
theorem dX6_readPart_57 : decode cX6_readPart 57 = .ok (.aload_n 0, 1) := by decide +kernel
theorem dX6_readPart_58 : decode cX6_readPart 58 = .ok (.getfield 53, 3) := by decide +kernel
theorem dX6_readPart_61 : decode cX6_readPart 61 = .ok (.goto 10, 3) := by decide +kernel
theorem dX6_readPart_64 : decode cX6_readPart 64 = .ok (.bipush (-100), 2) := by decide +kernel
theorem dX6_readPart_66 : decode cX6_readPart 66 = .ok (.aload_n 0, 1) := by decide +kernel
theorem dX6_readPart_67 : decode cX6_readPart 67 = .ok (.getfield 53, 3) := by decide +kernel
theorem dX6_readPart_70 : decode cX6_readPart 70 = .ok (.isub, 1) := by decide +kernel
theorem dX6_readPart_71 : decode cX6_readPart 71 = .ok (.invokevirtual 56, 3) := by decide +kernel
theorem dX6_readPart_74 : decode cX6_readPart 74 = .ok (.iconst 0, 1) := by decide +kernel
theorem dX6_readPart_75 : decode cX6_readPart 75 = .ok (.istore_n 2, 1) := by decide +kernel
theorem dX6_readPart_76 : decode cX6_readPart 76 = .ok (.goto 74, 3) := by decide +kernel
theorem dX6_readPart_79 : decode cX6_readPart 79 = .ok (.aload_n 0, 1) := by decide +kernel
theorem dX6_readPart_80 : decode cX6_readPart 80 = .ok (.invokevirtual 59, 3) := by decide +kernel
theorem dX6_readPart_83 : decode cX6_readPart 83 = .ok (.ifCond .ne 67, 3) := by decide +kernel
theorem dX6_readPart_86 : decode cX6_readPart 86 = .ok (.iconst 0, 1) := by decide +kernel
theorem dX6_readPart_87 : decode cX6_readPart 87 = .ok (.ireturn, 1) := by decide +kernel
theorem dX6_readPart_88 : decode cX6_readPart 88 = .ok (.aload_n 0, 1) := by decide +kernel
theorem dX6_readPart_89 : decode cX6_readPart 89 = .ok (.getfield 33, 3) := by decide +kernel
theorem dX6_readPart_92 : decode cX6_readPart 92 = .ok (.bipush 12, 2) := by decide +kernel
theorem dX6_readPart_94 : decode cX6_readPart 94 = .ok (.if_icmp .ne 22, 3) := by decide +kernel
theorem dX6_readPart_97 : decode cX6_readPart 97 = .ok (.aload_n 0, 1) := by decide +kernel
theorem dX6_readPart_98 : decode cX6_readPart 98 = .ok (.aload_n 1, 1) := by decide +kernel
theorem dX6_readPart_99 : decode cX6_readPart 99 = .ok (.iconst 1, 1) := by decide +kernel
theorem dX6_readPart_100 : decode cX6_readPart 100 = .ok (.invokevirtual 63, 3) := by decide +kernel
theorem dX6_readPart_103 : decode cX6_readPart 103 = .ok (.aload_n 0, 1) := by decide +kernel
theorem dX6_readPart_104 : decode cX6_readPart 104 = .ok (.getfield 47, 3) := by decide +kernel
theorem dX6_readPart_107 : decode cX6_readPart 107 = .ok (.ifCond .ne 7, 3) := by decide +kernel
theorem dX6_readPart_110 : decode cX6_readPart 110 = .ok (.iconst 1, 1) := by decide +kernel
theorem dX6_readPart_111 : decode cX6_readPart 111 = .ok (.goto 4, 3) := by decide +kernel
theorem dX6_readPart_114 : decode cX6_readPart 114 = .ok (.iconst 0, 1) := by decide +kernel
theorem dX6_readPart_115 : decode cX6_readPart 115 = .ok (.ireturn, 1) := by decide +kernel
theorem dX6_readPart_116 : decode cX6_readPart 116 = .ok (.aload_n 0, 1) := by decide +kernel
theorem dX6_readPart_117 : decode cX6_readPart 117 = .ok (.getfield 33, 3) := by decide +kernel
theorem dX6_readPart_120 : decode cX6_readPart 120 = .ok (.bipush 11, 2) := by decide +kernel
theorem dX6_readPart_122 : decode cX6_readPart 122 = .ok (.if_icmp .ne 13, 3) := by decide +kernel
theorem dX6_readPart_125 : decode cX6_readPart 125 = .ok (.aload_n 0, 1) := by decide +kernel
theorem dX6_readPart_126 : decode cX6_readPart 126 = .ok (.aload_n 1, 1) := by decide +kernel
theorem dX6_readPart_127 : decode cX6_readPart 127 = .ok (.invokevirtual 67, 3) := by decide +kernel
theorem dX6_readPart_130 : decode cX6_readPart 130 = .ok (.ifCond .ne 20, 3) := by decide +kernel
theorem dX6_readPart_133 : decode cX6_readPart 133 = .ok (.iconst 0, 1) := by decide +kernel
theorem dX6_readPart_134 : decode cX6_readPart 134 = .ok (.ireturn, 1) := by decide +kernel
theorem dX6_readPart_135 : decode cX6_readPart 135 = .ok (.aload_n 0, 1) := by decide +kernel
theorem dX6_readPart_136 : decode cX6_readPart 136 = .ok (.aload_n 1, 1) := by decide +kernel
theorem dX6_readPart_137 : decode cX6_readPart 137 = .ok (.invokevirtual 70, 3) := by decide +kernel
theorem dX6_readPart_140 : decode cX6_readPart 140 = .ok (.ifCond .eq 8, 3) := by decide +kernel
theorem dX6_readPart_143 : decode cX6_readPart 143 = .ok (.iconst 1, 1) := by decide +kernel
theorem dX6_readPart_144 : decode cX6_readPart 144 = .ok (.istore_n 2, 1) := by decide +kernel
theorem dX6_readPart_145 : decode cX6_readPart 145 = .ok (.goto 5, 3) := by decide +kernel
theorem dX6_readPart_148 : decode cX6_readPart 148 = .ok (.iconst 0, 1) := by decide +kernel
theorem dX6_readPart_149 : decode cX6_readPart 149 = .ok (.ireturn, 1) := by decide +kernel
theorem dX6_readPart_150 : decode cX6_readPart 150 = .ok (.iinc 3 1, 3) := by decide +kernel
theorem dX6_readPart_153 : decode cX6_readPart 153 = .ok (.goto (-139), 3) := by decide +kernel
theorem dX6_readPart_156 : decode cX6_readPart 156 = .ok (.iconst 0, 1) := by decide +kernel
theorem dX6_readPart_157 : decode cX6_readPart 157 = .ok (.ireturn, 1) := by decide +kernel
theorem dX6_takeAhead_0 : decode cX6_takeAhead 0 = .ok (.aload_n 0, 1) := by decide +kernel
theorem dX6_takeAhead_1 : decode cX6_takeAhead 1 = .ok (.getfield 50, 3) := by decide +kernel
theorem dX6_takeAhead_4 : decode cX6_takeAhead 4 = .ok (.iconst 5, 1) := by decide +kernel
theorem dX6_takeAhead_5 : decode cX6_takeAhead 5 = .ok (.if_icmp .lt 5, 3) := by decide +kernel
theorem dX6_takeAhead_8 : decode cX6_takeAhead 8 = .ok (.iconst 0, 1) := by decide +kernel
theorem dX6_takeAhead_9 : decode cX6_takeAhead 9 = .ok (.ireturn, 1) := by decide +kernel
theorem dX6_takeAhead_10 : decode cX6_takeAhead 10 = .ok (.aload_n 0, 1) := by decide +kernel
theorem dX6_takeAhead_11 : decode cX6_takeAhead 11 = .ok (.getfield 33, 3) := by decide +kernel
theorem dX6_takeAhead_14 : decode cX6_takeAhead 14 = .ok (.bipush 10, 2) := by decide +kernel
theorem dX6_takeAhead_16 : decode cX6_takeAhead 16 = .ok (.if_icmp .ne 10, 3) := by decide +kernel
theorem dX6_takeAhead_19 : decode cX6_takeAhead 19 = .ok (.aload_n 0, 1) := by decide +kernel
theorem dX6_takeAhead_20 : decode cX6_takeAhead 20 = .ok (.bipush 10, 2) := by decide +kernel
theorem dX6_takeAhead_22 : decode cX6_takeAhead 22 = .ok (.invokevirtual 73, 3) := by decide +kernel
theorem dX6_takeAhead_25 : decode cX6_takeAhead 25 = .ok (.ireturn, 1) := by decide +kernel
theorem dX6_takeAhead_26 : decode cX6_takeAhead 26 = .ok (.aload_n 0, 1) := by decide +kernel
theorem dX6_takeAhead_27 : decode cX6_takeAhead 27 = .ok (.getfield 33, 3) := by decide +kernel
theorem dX6_takeAhead_30 : decode cX6_takeAhead 30 = .ok (.bipush 7, 2) := by decide +kernel
theorem dX6_takeAhead_32 : decode cX6_takeAhead 32 = .ok (.if_icmp .ne 10, 3) := by decide +kernel
theorem dX6_takeAhead_35 : decode cX6_takeAhead 35 = .ok (.aload_n 0, 1) := by decide +kernel
theorem dX6_takeAhead_36 : decode cX6_takeAhead 36 = .ok (.bipush 9, 2) := by decide +kernel
theorem dX6_takeAhead_38 : decode cX6_takeAhead 38 = .ok (.invokevirtual 73, 3) := by decide +kernel
theorem dX6_takeAhead_41 : decode cX6_takeAhead 41 = .ok (.ireturn, 1) := by decide +kernel
theorem dX6_takeAhead_42 : decode cX6_takeAhead 42 = .ok (.aload_n 0, 1) := by decide +kernel
theorem dX6_takeAhead_43 : decode cX6_takeAhead 43 = .ok (.getfield 33, 3) := by decide +kernel
theorem dX6_takeAhead_46 : decode cX6_takeAhead 46 = .ok (.iconst 3, 1) := by decide +kernel
theorem dX6_takeAhead_47 : decode cX6_takeAhead 47 = .ok (.if_icmp .ne 22, 3) := by decide +kernel
theorem dX6_takeAhead_50 : decode cX6_takeAhead 50 = .ok (.aload_n 0, 1) := by decide +kernel
theorem dX6_takeAhead_51 : decode cX6_takeAhead 51 = .ok (.invokevirtual 77, 3) := by decide +kernel
theorem dX6_takeAhead_54 : decode cX6_takeAhead 54 = .ok (.ifCond .eq 15, 3) := by decide +kernel
theorem dX6_takeAhead_57 : decode cX6_takeAhead 57 = .ok (.aload_n 0, 1) := by decide +kernel
theorem dX6_takeAhead_58 : decode cX6_takeAhead 58 = .ok (.iconst 3, 1) := by decide +kernel
theorem dX6_takeAhead_59 : decode cX6_takeAhead 59 = .ok (.invokevirtual 73, 3) := by decide +kernel
theorem dX6_takeAhead_62 : decode cX6_takeAhead 62 = .ok (.ifCond .eq 7, 3) := by decide +kernel
theorem dX6_takeAhead_65 : decode cX6_takeAhead 65 = .ok (.iconst 1, 1) := by decide +kernel
theorem dX6_takeAhead_66 : decode cX6_takeAhead 66 = .ok (.goto 4, 3) := by decide +kernel
theorem dX6_takeAhead_69 : decode cX6_takeAhead 69 = .ok (.iconst 0, 1) := by decide +kernel
theorem dX6_takeAhead_70 : decode cX6_takeAhead 70 = .ok (.ireturn, 1) := by decide +kernel
theorem dX6_notMayStand_0 : decode cX6_notMayStand 0 = .ok (.aload_n 0, 1) := by decide +kernel
theorem dX6_notMayStand_1 : decode cX6_notMayStand 1 = .ok (.getfield 47, 3) := by decide +kernel
theorem dX6_notMayStand_4 : decode cX6_notMayStand 4 = .ok (.ifCond .eq 22, 3) := by decide +kernel
theorem dX6_notMayStand_7 : decode cX6_notMayStand 7 = .ok (.getstatic 80, 3) := by decide +kernel
theorem dX6_notMayStand_10 : decode cX6_notMayStand 10 = .ok (.aload_n 0, 1) := by decide +kernel
theorem dX6_notMayStand_11 : decode cX6_notMayStand 11 = .ok (.getfield 15, 3) := by decide +kernel
theorem dX6_notMayStand_14 : decode cX6_notMayStand 14 = .ok (.aload_n 0, 1) := by decide +kernel
theorem dX6_notMayStand_15 : decode cX6_notMayStand 15 = .ok (.getfield 47, 3) := by decide +kernel
theorem dX6_notMayStand_18 : decode cX6_notMayStand 18 = .ok (.iconst 1, 1) := by decide +kernel
theorem dX6_notMayStand_19 : decode cX6_notMayStand 19 = .ok (.isub, 1) := by decide +kernel
theorem dX6_notMayStand_20 : decode cX6_notMayStand 20 = .ok (.iaload, 1) := by decide +kernel
theorem dX6_notMayStand_21 : decode cX6_notMayStand 21 = .ok (.iaload, 1) := by decide +kernel
theorem dX6_notMayStand_22 : decode cX6_notMayStand 22 = .ok (.iconst 4, 1) := by decide +kernel
theorem dX6_notMayStand_23 : decode cX6_notMayStand 23 = .ok (.if_icmp .ge 7, 3) := by decide +kernel
theorem dX6_notMayStand_26 : decode cX6_notMayStand 26 = .ok (.iconst 1, 1) := by decide +kernel
theorem dX6_notMayStand_27 : decode cX6_notMayStand 27 = .ok (.goto 4, 3) := by decide +kernel
theorem dX6_notMayStand_30 : decode cX6_notMayStand 30 = .ok (.iconst 0, 1) := by decide +kernel
theorem dX6_notMayStand_31 : decode cX6_notMayStand 31 = .ok (.ireturn, 1) := by decide +kernel
theorem dX6_takeClose_0 : decode cX6_takeClose 0 = .ok (.aload_n 0, 1) := by decide +kernel
theorem dX6_takeClose_1 : decode cX6_takeClose 1 = .ok (.aload_n 1, 1) := by decide +kernel
theorem dX6_takeClose_2 : decode cX6_takeClose 2 = .ok (.iconst 1, 1) := by decide +kernel
theorem dX6_takeClose_3 : decode cX6_takeClose 3 = .ok (.invokevirtual 63, 3) := by decide +kernel
theorem dX6_takeClose_6 : decode cX6_takeClose 6 = .ok (.aload_n 0, 1) := by decide +kernel
theorem dX6_takeClose_7 : decode cX6_takeClose 7 = .ok (.getfield 47, 3) := by decide +kernel
theorem dX6_takeClose_10 : decode cX6_takeClose 10 = .ok (.ifCond .ne 5, 3) := by decide +kernel
theorem dX6_takeClose_13 : decode cX6_takeClose 13 = .ok (.iconst 0, 1) := by decide +kernel
theorem dX6_takeClose_14 : decode cX6_takeClose 14 = .ok (.ireturn, 1) := by decide +kernel
theorem dX6_takeClose_15 : decode cX6_takeClose 15 = .ok (.aload_n 0, 1) := by decide +kernel
theorem dX6_takeClose_16 : decode cX6_takeClose 16 = .ok (.dup, 1) := by decide +kernel
theorem dX6_takeClose_17 : decode cX6_takeClose 17 = .ok (.getfield 47, 3) := by decide +kernel
theorem dX6_takeClose_20 : decode cX6_takeClose 20 = .ok (.iconst 1, 1) := by decide +kernel
theorem dX6_takeClose_21 : decode cX6_takeClose 21 = .ok (.isub, 1) := by decide +kernel
theorem dX6_takeClose_22 : decode cX6_takeClose 22 = .ok (.putfield 47, 3) := by decide +kernel
theorem dX6_takeClose_25 : decode cX6_takeClose 25 = .ok (.aload_n 0, 1) := by decide +kernel
theorem dX6_takeClose_26 : decode cX6_takeClose 26 = .ok (.dup, 1) := by decide +kernel
theorem dX6_takeClose_27 : decode cX6_takeClose 27 = .ok (.getfield 50, 3) := by decide +kernel
theorem dX6_takeClose_30 : decode cX6_takeClose 30 = .ok (.iconst 1, 1) := by decide +kernel
theorem dX6_takeClose_31 : decode cX6_takeClose 31 = .ok (.isub, 1) := by decide +kernel
theorem dX6_takeClose_32 : decode cX6_takeClose 32 = .ok (.putfield 50, 3) := by decide +kernel
theorem dX6_takeClose_35 : decode cX6_takeClose 35 = .ok (.iconst 1, 1) := by decide +kernel
theorem dX6_takeClose_36 : decode cX6_takeClose 36 = .ok (.ireturn, 1) := by decide +kernel
theorem dX6_takeBetween_0 : decode cX6_takeBetween 0 = .ok (.aload_n 0, 1) := by decide +kernel
theorem dX6_takeBetween_1 : decode cX6_takeBetween 1 = .ok (.getfield 33, 3) := by decide +kernel
theorem dX6_takeBetween_4 : decode cX6_takeBetween 4 = .ok (.iconst 1, 1) := by decide +kernel
theorem dX6_takeBetween_5 : decode cX6_takeBetween 5 = .ok (.if_icmp .lt 20, 3) := by decide +kernel
theorem dX6_takeBetween_8 : decode cX6_takeBetween 8 = .ok (.aload_n 0, 1) := by decide +kernel
theorem dX6_takeBetween_9 : decode cX6_takeBetween 9 = .ok (.getfield 33, 3) := by decide +kernel
theorem dX6_takeBetween_12 : decode cX6_takeBetween 12 = .ok (.bipush 8, 2) := by decide +kernel
theorem dX6_takeBetween_14 : decode cX6_takeBetween 14 = .ok (.if_icmp .gt 11, 3) := by decide +kernel
theorem dX6_takeBetween_17 : decode cX6_takeBetween 17 = .ok (.aload_n 0, 1) := by decide +kernel
theorem dX6_takeBetween_18 : decode cX6_takeBetween 18 = .ok (.getfield 33, 3) := by decide +kernel
theorem dX6_takeBetween_21 : decode cX6_takeBetween 21 = .ok (.iconst 3, 1) := by decide +kernel
theorem dX6_takeBetween_22 : decode cX6_takeBetween 22 = .ok (.if_icmp .ne 5, 3) := by decide +kernel
theorem dX6_takeBetween_25 : decode cX6_takeBetween 25 = .ok (.iconst 0, 1) := by decide +kernel
theorem dX6_takeBetween_26 : decode cX6_takeBetween 26 = .ok (.ireturn, 1) := by decide +kernel
theorem dX6_takeBetween_27 : decode cX6_takeBetween 27 = .ok (.getstatic 80, 3) := by decide +kernel
theorem dX6_takeBetween_30 : decode cX6_takeBetween 30 = .ok (.aload_n 0, 1) := by decide +kernel
theorem dX6_takeBetween_31 : decode cX6_takeBetween 31 = .ok (.getfield 33, 3) := by decide +kernel
theorem dX6_takeBetween_34 : decode cX6_takeBetween 34 = .ok (.iaload, 1) := by decide +kernel
theorem dX6_takeBetween_35 : decode cX6_takeBetween 35 = .ok (.iconst 4, 1) := by decide +kernel
theorem dX6_takeBetween_36 : decode cX6_takeBetween 36 = .ok (.if_icmp .ne 7, 3) := by decide +kernel
theorem dX6_takeBetween_39 : decode cX6_takeBetween 39 = .ok (.iconst 1, 1) := by decide +kernel
theorem dX6_takeBetween_40 : decode cX6_takeBetween 40 = .ok (.goto 4, 3) := by decide +kernel
theorem dX6_takeBetween_43 : decode cX6_takeBetween 43 = .ok (.iconst 0, 1) := by decide +kernel
theorem dX6_takeBetween_44 : decode cX6_takeBetween 44 = .ok (.istore_n 2, 1) := by decide +kernel
theorem dX6_takeBetween_45 : decode cX6_takeBetween 45 = .ok (.aload_n 0, 1) := by decide +kernel
theorem dX6_takeBetween_46 : decode cX6_takeBetween 46 = .ok (.aload_n 1, 1) := by decide +kernel
theorem dX6_takeBetween_47 : decode cX6_takeBetween 47 = .ok (.iload_n 2, 1) := by decide +kernel
theorem dX6_takeBetween_48 : decode cX6_takeBetween 48 = .ok (.ifCond .eq 7, 3) := by decide +kernel
theorem dX6_takeBetween_51 : decode cX6_takeBetween 51 = .ok (.iconst 5, 1) := by decide +kernel
theorem dX6_takeBetween_52 : decode cX6_takeBetween 52 = .ok (.goto 11, 3) := by decide +kernel
theorem dX6_takeBetween_55 : decode cX6_takeBetween 55 = .ok (.getstatic 80, 3) := by decide +kernel
theorem dX6_takeBetween_58 : decode cX6_takeBetween 58 = .ok (.aload_n 0, 1) := by decide +kernel
theorem dX6_takeBetween_59 : decode cX6_takeBetween 59 = .ok (.getfield 33, 3) := by decide +kernel
theorem dX6_takeBetween_62 : decode cX6_takeBetween 62 = .ok (.iaload, 1) := by decide +kernel
theorem dX6_takeBetween_63 : decode cX6_takeBetween 63 = .ok (.invokevirtual 63, 3) := by decide +kernel
theorem dX6_takeBetween_66 : decode cX6_takeBetween 66 = .ok (.iload_n 2, 1) := by decide +kernel
theorem dX6_takeBetween_67 : decode cX6_takeBetween 67 = .ok (.ifCond .eq 31, 3) := by decide +kernel
theorem dX6_takeBetween_70 : decode cX6_takeBetween 70 = .ok (.aload_n 0, 1) := by decide +kernel
theorem dX6_takeBetween_71 : decode cX6_takeBetween 71 = .ok (.getfield 47, 3) := by decide +kernel
theorem dX6_takeBetween_74 : decode cX6_takeBetween 74 = .ok (.ifCond .le 24, 3) := by decide +kernel
theorem dX6_takeBetween_77 : decode cX6_takeBetween 77 = .ok (.getstatic 80, 3) := by decide +kernel
theorem dX6_takeBetween_80 : decode cX6_takeBetween 80 = .ok (.aload_n 0, 1) := by decide +kernel
theorem dX6_takeBetween_81 : decode cX6_takeBetween 81 = .ok (.getfield 15, 3) := by decide +kernel
theorem dX6_takeBetween_84 : decode cX6_takeBetween 84 = .ok (.aload_n 0, 1) := by decide +kernel
theorem dX6_takeBetween_85 : decode cX6_takeBetween 85 = .ok (.getfield 47, 3) := by decide +kernel
theorem dX6_takeBetween_88 : decode cX6_takeBetween 88 = .ok (.iconst 1, 1) := by decide +kernel
theorem dX6_takeBetween_89 : decode cX6_takeBetween 89 = .ok (.isub, 1) := by decide +kernel
theorem dX6_takeBetween_90 : decode cX6_takeBetween 90 = .ok (.iaload, 1) := by decide +kernel
theorem dX6_takeBetween_91 : decode cX6_takeBetween 91 = .ok (.iaload, 1) := by decide +kernel
theorem dX6_takeBetween_92 : decode cX6_takeBetween 92 = .ok (.iconst 4, 1) := by decide +kernel
theorem dX6_takeBetween_93 : decode cX6_takeBetween 93 = .ok (.if_icmp .ne 5, 3) := by decide +kernel
theorem dX6_takeBetween_96 : decode cX6_takeBetween 96 = .ok (.iconst 0, 1) := by decide +kernel
theorem dX6_takeBetween_97 : decode cX6_takeBetween 97 = .ok (.ireturn, 1) := by decide +kernel
theorem dX6_takeBetween_98 : decode cX6_takeBetween 98 = .ok (.aload_n 0, 1) := by decide +kernel
theorem dX6_takeBetween_99 : decode cX6_takeBetween 99 = .ok (.aload_n 0, 1) := by decide +kernel
theorem dX6_takeBetween_100 : decode cX6_takeBetween 100 = .ok (.getfield 33, 3) := by decide +kernel
theorem dX6_takeBetween_103 : decode cX6_takeBetween 103 = .ok (.invokevirtual 73, 3) := by decide +kernel
theorem dX6_takeBetween_106 : decode cX6_takeBetween 106 = .ok (.ireturn, 1) := by decide +kernel
theorem dX6_hold_0 : decode cX6_hold 0 = .ok (.aload_n 0, 1) := by decide +kernel
theorem dX6_hold_1 : decode cX6_hold 1 = .ok (.getfield 47, 3) := by decide +kernel
theorem dX6_hold_4 : decode cX6_hold 4 = .ok (.aload_n 0, 1) := by decide +kernel
theorem dX6_hold_5 : decode cX6_hold 5 = .ok (.getfield 15, 3) := by decide +kernel
theorem dX6_hold_8 : decode cX6_hold 8 = .ok (.arraylength, 1) := by decide +kernel
theorem dX6_hold_9 : decode cX6_hold 9 = .ok (.if_icmp .lt 5, 3) := by decide +kernel
theorem dX6_hold_12 : decode cX6_hold 12 = .ok (.iconst 0, 1) := by decide +kernel
theorem dX6_hold_13 : decode cX6_hold 13 = .ok (.ireturn, 1) := by decide +kernel
theorem dX6_hold_14 : decode cX6_hold 14 = .ok (.aload_n 0, 1) := by decide +kernel
theorem dX6_hold_15 : decode cX6_hold 15 = .ok (.getfield 15, 3) := by decide +kernel
theorem dX6_hold_18 : decode cX6_hold 18 = .ok (.aload_n 0, 1) := by decide +kernel
theorem dX6_hold_19 : decode cX6_hold 19 = .ok (.getfield 47, 3) := by decide +kernel
theorem dX6_hold_22 : decode cX6_hold 22 = .ok (.iload_n 1, 1) := by decide +kernel
theorem dX6_hold_23 : decode cX6_hold 23 = .ok (.iastore, 1) := by decide +kernel
theorem dX6_hold_24 : decode cX6_hold 24 = .ok (.aload_n 0, 1) := by decide +kernel
theorem dX6_hold_25 : decode cX6_hold 25 = .ok (.dup, 1) := by decide +kernel
theorem dX6_hold_26 : decode cX6_hold 26 = .ok (.getfield 47, 3) := by decide +kernel
theorem dX6_hold_29 : decode cX6_hold 29 = .ok (.iconst 1, 1) := by decide +kernel
theorem dX6_hold_30 : decode cX6_hold 30 = .ok (.iadd, 1) := by decide +kernel
theorem dX6_hold_31 : decode cX6_hold 31 = .ok (.putfield 47, 3) := by decide +kernel
theorem dX6_hold_34 : decode cX6_hold 34 = .ok (.iload_n 1, 1) := by decide +kernel
theorem dX6_hold_35 : decode cX6_hold 35 = .ok (.invokestatic 83, 3) := by decide +kernel
theorem dX6_hold_38 : decode cX6_hold 38 = .ok (.ifCond .eq 13, 3) := by decide +kernel
theorem dX6_hold_41 : decode cX6_hold 41 = .ok (.aload_n 0, 1) := by decide +kernel
theorem dX6_hold_42 : decode cX6_hold 42 = .ok (.dup, 1) := by decide +kernel
theorem dX6_hold_43 : decode cX6_hold 43 = .ok (.getfield 50, 3) := by decide +kernel
theorem dX6_hold_46 : decode cX6_hold 46 = .ok (.iconst 1, 1) := by decide +kernel
theorem dX6_hold_47 : decode cX6_hold 47 = .ok (.iadd, 1) := by decide +kernel
theorem dX6_hold_48 : decode cX6_hold 48 = .ok (.putfield 50, 3) := by decide +kernel
theorem dX6_hold_51 : decode cX6_hold 51 = .ok (.iconst 1, 1) := by decide +kernel
theorem dX6_hold_52 : decode cX6_hold 52 = .ok (.ireturn, 1) := by decide +kernel
theorem dX6_settle_0 : decode cX6_settle 0 = .ok (.aload_n 0, 1) := by decide +kernel
theorem dX6_settle_1 : decode cX6_settle 1 = .ok (.getfield 47, 3) := by decide +kernel
theorem dX6_settle_4 : decode cX6_settle 4 = .ok (.istore_n 3, 1) := by decide +kernel
theorem dX6_settle_5 : decode cX6_settle 5 = .ok (.iload_n 3, 1) := by decide +kernel
theorem dX6_settle_6 : decode cX6_settle 6 = .ok (.ifCond .le 71, 3) := by decide +kernel
theorem dX6_settle_9 : decode cX6_settle 9 = .ok (.getstatic 80, 3) := by decide +kernel
theorem dX6_settle_12 : decode cX6_settle 12 = .ok (.aload_n 0, 1) := by decide +kernel
theorem dX6_settle_13 : decode cX6_settle 13 = .ok (.getfield 15, 3) := by decide +kernel
theorem dX6_settle_16 : decode cX6_settle 16 = .ok (.iload_n 3, 1) := by decide +kernel
theorem dX6_settle_17 : decode cX6_settle 17 = .ok (.iconst 1, 1) := by decide +kernel
theorem dX6_settle_18 : decode cX6_settle 18 = .ok (.isub, 1) := by decide +kernel
theorem dX6_settle_19 : decode cX6_settle 19 = .ok (.iaload, 1) := by decide +kernel
theorem dX6_settle_20 : decode cX6_settle 20 = .ok (.iaload, 1) := by decide +kernel
theorem dX6_settle_21 : decode cX6_settle 21 = .ok (.iload_n 2, 1) := by decide +kernel
theorem dX6_settle_22 : decode cX6_settle 22 = .ok (.if_icmp .lt 55, 3) := by decide +kernel
theorem dX6_settle_25 : decode cX6_settle 25 = .ok (.aload_n 0, 1) := by decide +kernel
theorem dX6_settle_26 : decode cX6_settle 26 = .ok (.iload_n 3, 1) := by decide +kernel
theorem dX6_settle_27 : decode cX6_settle 27 = .ok (.iconst 1, 1) := by decide +kernel
theorem dX6_settle_28 : decode cX6_settle 28 = .ok (.isub, 1) := by decide +kernel
theorem dX6_settle_29 : decode cX6_settle 29 = .ok (.putfield 47, 3) := by decide +kernel
theorem dX6_settle_32 : decode cX6_settle 32 = .ok (.aload_n 1, 1) := by decide +kernel
theorem dX6_settle_33 : decode cX6_settle 33 = .ok (.aload_n 0, 1) := by decide +kernel
theorem dX6_settle_34 : decode cX6_settle 34 = .ok (.getfield 15, 3) := by decide +kernel
theorem dX6_settle_37 : decode cX6_settle 37 = .ok (.aload_n 0, 1) := by decide +kernel
theorem dX6_settle_38 : decode cX6_settle 38 = .ok (.getfield 47, 3) := by decide +kernel
theorem dX6_settle_41 : decode cX6_settle 41 = .ok (.iaload, 1) := by decide +kernel
theorem dX6_settle_42 : decode cX6_settle 42 = .ok (.ineg, 1) := by decide +kernel
theorem dX6_settle_43 : decode cX6_settle 43 = .ok (.invokevirtual 56, 3) := by decide +kernel
theorem dX6_settle_46 : decode cX6_settle 46 = .ok (.aload_n 0, 1) := by decide +kernel
theorem dX6_settle_47 : decode cX6_settle 47 = .ok (.getfield 15, 3) := by decide +kernel
theorem dX6_settle_50 : decode cX6_settle 50 = .ok (.aload_n 0, 1) := by decide +kernel
theorem dX6_settle_51 : decode cX6_settle 51 = .ok (.getfield 47, 3) := by decide +kernel
theorem dX6_settle_54 : decode cX6_settle 54 = .ok (.iaload, 1) := by decide +kernel
theorem dX6_settle_55 : decode cX6_settle 55 = .ok (.invokestatic 83, 3) := by decide +kernel
theorem dX6_settle_58 : decode cX6_settle 58 = .ok (.ifCond .eq 13, 3) := by decide +kernel
theorem dX6_settle_61 : decode cX6_settle 61 = .ok (.aload_n 0, 1) := by decide +kernel
theorem dX6_settle_62 : decode cX6_settle 62 = .ok (.dup, 1) := by decide +kernel
theorem dX6_settle_63 : decode cX6_settle 63 = .ok (.getfield 50, 3) := by decide +kernel
theorem dX6_settle_66 : decode cX6_settle 66 = .ok (.iconst 1, 1) := by decide +kernel
theorem dX6_settle_67 : decode cX6_settle 67 = .ok (.isub, 1) := by decide +kernel
theorem dX6_settle_68 : decode cX6_settle 68 = .ok (.putfield 50, 3) := by decide +kernel
theorem dX6_settle_71 : decode cX6_settle 71 = .ok (.iinc 3 (-1), 3) := by decide +kernel
theorem dX6_settle_74 : decode cX6_settle 74 = .ok (.goto (-69), 3) := by decide +kernel
theorem dX6_settle_77 : decode cX6_settle 77 = .ok (.return_, 1) := by decide +kernel
theorem dX6_counts_0 : decode cX6_counts 0 = .ok (.iload_n 0, 1) := by decide +kernel
theorem dX6_counts_1 : decode cX6_counts 1 = .ok (.bipush 10, 2) := by decide +kernel
theorem dX6_counts_3 : decode cX6_counts 3 = .ok (.if_icmp .eq 14, 3) := by decide +kernel
theorem dX6_counts_6 : decode cX6_counts 6 = .ok (.iload_n 0, 1) := by decide +kernel
theorem dX6_counts_7 : decode cX6_counts 7 = .ok (.iconst 3, 1) := by decide +kernel
theorem dX6_counts_8 : decode cX6_counts 8 = .ok (.if_icmp .eq 9, 3) := by decide +kernel
theorem dX6_counts_11 : decode cX6_counts 11 = .ok (.iload_n 0, 1) := by decide +kernel
theorem dX6_counts_12 : decode cX6_counts 12 = .ok (.bipush 9, 2) := by decide +kernel
theorem dX6_counts_14 : decode cX6_counts 14 = .ok (.if_icmp .ne 7, 3) := by decide +kernel
theorem dX6_counts_17 : decode cX6_counts 17 = .ok (.iconst 1, 1) := by decide +kernel
theorem dX6_counts_18 : decode cX6_counts 18 = .ok (.goto 4, 3) := by decide +kernel
theorem dX6_counts_21 : decode cX6_counts 21 = .ok (.iconst 0, 1) := by decide +kernel
theorem dX6_counts_22 : decode cX6_counts 22 = .ok (.ireturn, 1) := by decide +kernel
theorem dX6_advance_0 : decode cX6_advance 0 = .ok (.aload_n 0, 1) := by decide +kernel
theorem dX6_advance_1 : decode cX6_advance 1 = .ok (.getfield 22, 3) := by decide +kernel
theorem dX6_advance_4 : decode cX6_advance 4 = .ok (.aload_n 0, 1) := by decide +kernel
theorem dX6_advance_5 : decode cX6_advance 5 = .ok (.getfield 18, 3) := by decide +kernel
theorem dX6_advance_8 : decode cX6_advance 8 = .ok (.if_icmp .ge 44, 3) := by decide +kernel
theorem dX6_advance_11 : decode cX6_advance 11 = .ok (.aload_n 0, 1) := by decide +kernel
theorem dX6_advance_12 : decode cX6_advance 12 = .ok (.getfield 9, 3) := by decide +kernel
theorem dX6_advance_15 : decode cX6_advance 15 = .ok (.aload_n 0, 1) := by decide +kernel
theorem dX6_advance_16 : decode cX6_advance 16 = .ok (.getfield 22, 3) := by decide +kernel
theorem dX6_advance_19 : decode cX6_advance 19 = .ok (.iaload, 1) := by decide +kernel
theorem dX6_advance_20 : decode cX6_advance 20 = .ok (.bipush 32, 2) := by decide +kernel
theorem dX6_advance_22 : decode cX6_advance 22 = .ok (.if_icmp .eq 17, 3) := by decide +kernel
theorem dX6_advance_25 : decode cX6_advance 25 = .ok (.aload_n 0, 1) := by decide +kernel
theorem dX6_advance_26 : decode cX6_advance 26 = .ok (.getfield 9, 3) := by decide +kernel
theorem dX6_advance_29 : decode cX6_advance 29 = .ok (.aload_n 0, 1) := by decide +kernel
theorem dX6_advance_30 : decode cX6_advance 30 = .ok (.getfield 22, 3) := by decide +kernel
theorem dX6_advance_33 : decode cX6_advance 33 = .ok (.iaload, 1) := by decide +kernel
theorem dX6_advance_34 : decode cX6_advance 34 = .ok (.bipush 10, 2) := by decide +kernel
theorem dX6_advance_36 : decode cX6_advance 36 = .ok (.if_icmp .ne 16, 3) := by decide +kernel
theorem dX6_advance_39 : decode cX6_advance 39 = .ok (.aload_n 0, 1) := by decide +kernel
theorem dX6_advance_40 : decode cX6_advance 40 = .ok (.dup, 1) := by decide +kernel
theorem dX6_advance_41 : decode cX6_advance 41 = .ok (.getfield 22, 3) := by decide +kernel
theorem dX6_advance_44 : decode cX6_advance 44 = .ok (.iconst 1, 1) := by decide +kernel
theorem dX6_advance_45 : decode cX6_advance 45 = .ok (.iadd, 1) := by decide +kernel
theorem dX6_advance_46 : decode cX6_advance 46 = .ok (.putfield 22, 3) := by decide +kernel
theorem dX6_advance_49 : decode cX6_advance 49 = .ok (.goto (-49), 3) := by decide +kernel
theorem dX6_advance_52 : decode cX6_advance 52 = .ok (.aload_n 0, 1) := by decide +kernel
theorem dX6_advance_53 : decode cX6_advance 53 = .ok (.aload_n 0, 1) := by decide +kernel
theorem dX6_advance_54 : decode cX6_advance 54 = .ok (.getfield 22, 3) := by decide +kernel
theorem dX6_advance_57 : decode cX6_advance 57 = .ok (.putfield 36, 3) := by decide +kernel
theorem dX6_advance_60 : decode cX6_advance 60 = .ok (.aload_n 0, 1) := by decide +kernel
theorem dX6_advance_61 : decode cX6_advance 61 = .ok (.getfield 22, 3) := by decide +kernel
theorem dX6_advance_64 : decode cX6_advance 64 = .ok (.aload_n 0, 1) := by decide +kernel
theorem dX6_advance_65 : decode cX6_advance 65 = .ok (.getfield 18, 3) := by decide +kernel
theorem dX6_advance_68 : decode cX6_advance 68 = .ok (.if_icmp .lt 12, 3) := by decide +kernel
theorem dX6_advance_71 : decode cX6_advance 71 = .ok (.aload_n 0, 1) := by decide +kernel
theorem dX6_advance_72 : decode cX6_advance 72 = .ok (.bipush 18, 2) := by decide +kernel
theorem dX6_advance_74 : decode cX6_advance 74 = .ok (.putfield 33, 3) := by decide +kernel
theorem dX6_advance_77 : decode cX6_advance 77 = .ok (.goto 51, 3) := by decide +kernel
theorem dX6_advance_80 : decode cX6_advance 80 = .ok (.aload_n 0, 1) := by decide +kernel
theorem dX6_advance_81 : decode cX6_advance 81 = .ok (.getfield 9, 3) := by decide +kernel
theorem dX6_advance_84 : decode cX6_advance 84 = .ok (.aload_n 0, 1) := by decide +kernel
theorem dX6_advance_85 : decode cX6_advance 85 = .ok (.getfield 22, 3) := by decide +kernel
theorem dX6_advance_88 : decode cX6_advance 88 = .ok (.iaload, 1) := by decide +kernel
theorem dX6_advance_89 : decode cX6_advance 89 = .ok (.invokestatic 86, 3) := by decide +kernel
theorem dX6_advance_92 : decode cX6_advance 92 = .ok (.ifCond .eq 10, 3) := by decide +kernel
theorem dX6_advance_95 : decode cX6_advance 95 = .ok (.aload_n 0, 1) := by decide +kernel
theorem dX6_advance_96 : decode cX6_advance 96 = .ok (.invokevirtual 89, 3) := by decide +kernel
theorem dX6_advance_99 : decode cX6_advance 99 = .ok (.goto 29, 3) := by decide +kernel
theorem dX6_advance_102 : decode cX6_advance 102 = .ok (.aload_n 0, 1) := by decide +kernel
theorem dX6_advance_103 : decode cX6_advance 103 = .ok (.getfield 9, 3) := by decide +kernel
theorem dX6_advance_106 : decode cX6_advance 106 = .ok (.aload_n 0, 1) := by decide +kernel
theorem dX6_advance_107 : decode cX6_advance 107 = .ok (.getfield 22, 3) := by decide +kernel
theorem dX6_advance_110 : decode cX6_advance 110 = .ok (.iaload, 1) := by decide +kernel
theorem dX6_advance_111 : decode cX6_advance 111 = .ok (.invokestatic 92, 3) := by decide +kernel
theorem dX6_advance_114 : decode cX6_advance 114 = .ok (.ifCond .eq 10, 3) := by decide +kernel
theorem dX6_advance_117 : decode cX6_advance 117 = .ok (.aload_n 0, 1) := by decide +kernel
theorem dX6_advance_118 : decode cX6_advance 118 = .ok (.invokevirtual 95, 3) := by decide +kernel
theorem dX6_advance_121 : decode cX6_advance 121 = .ok (.goto 7, 3) := by decide +kernel
theorem dX6_advance_124 : decode cX6_advance 124 = .ok (.aload_n 0, 1) := by decide +kernel
theorem dX6_advance_125 : decode cX6_advance 125 = .ok (.invokevirtual 98, 3) := by decide +kernel
theorem dX6_advance_128 : decode cX6_advance 128 = .ok (.return_, 1) := by decide +kernel
theorem dX6_takeWord_0 : decode cX6_takeWord 0 = .ok (.aload_n 0, 1) := by decide +kernel
theorem dX6_takeWord_1 : decode cX6_takeWord 1 = .ok (.getfield 22, 3) := by decide +kernel
theorem dX6_takeWord_4 : decode cX6_takeWord 4 = .ok (.aload_n 0, 1) := by decide +kernel
theorem dX6_takeWord_5 : decode cX6_takeWord 5 = .ok (.getfield 18, 3) := by decide +kernel
theorem dX6_takeWord_8 : decode cX6_takeWord 8 = .ok (.if_icmp .ge 31, 3) := by decide +kernel
theorem dX6_takeWord_11 : decode cX6_takeWord 11 = .ok (.aload_n 0, 1) := by decide +kernel
theorem dX6_takeWord_12 : decode cX6_takeWord 12 = .ok (.getfield 9, 3) := by decide +kernel
theorem dX6_takeWord_15 : decode cX6_takeWord 15 = .ok (.aload_n 0, 1) := by decide +kernel
theorem dX6_takeWord_16 : decode cX6_takeWord 16 = .ok (.getfield 22, 3) := by decide +kernel
theorem dX6_takeWord_19 : decode cX6_takeWord 19 = .ok (.iaload, 1) := by decide +kernel
theorem dX6_takeWord_20 : decode cX6_takeWord 20 = .ok (.invokestatic 86, 3) := by decide +kernel
theorem dX6_takeWord_23 : decode cX6_takeWord 23 = .ok (.ifCond .eq 16, 3) := by decide +kernel
theorem dX6_takeWord_26 : decode cX6_takeWord 26 = .ok (.aload_n 0, 1) := by decide +kernel
theorem dX6_takeWord_27 : decode cX6_takeWord 27 = .ok (.dup, 1) := by decide +kernel
theorem dX6_takeWord_28 : decode cX6_takeWord 28 = .ok (.getfield 22, 3) := by decide +kernel
theorem dX6_takeWord_31 : decode cX6_takeWord 31 = .ok (.iconst 1, 1) := by decide +kernel
theorem dX6_takeWord_32 : decode cX6_takeWord 32 = .ok (.iadd, 1) := by decide +kernel
theorem dX6_takeWord_33 : decode cX6_takeWord 33 = .ok (.putfield 22, 3) := by decide +kernel
theorem dX6_takeWord_36 : decode cX6_takeWord 36 = .ok (.goto (-36), 3) := by decide +kernel
theorem dX6_takeWord_39 : decode cX6_takeWord 39 = .ok (.aload_n 0, 1) := by decide +kernel
theorem dX6_takeWord_40 : decode cX6_takeWord 40 = .ok (.bipush 19, 2) := by decide +kernel
theorem dX6_takeWord_42 : decode cX6_takeWord 42 = .ok (.putfield 33, 3) := by decide +kernel
theorem dX6_takeWord_45 : decode cX6_takeWord 45 = .ok (.iconst 0, 1) := by decide +kernel
theorem dX6_takeWord_46 : decode cX6_takeWord 46 = .ok (.istore_n 1, 1) := by decide +kernel
theorem dX6_takeWord_47 : decode cX6_takeWord 47 = .ok (.iload_n 1, 1) := by decide +kernel
theorem dX6_takeWord_48 : decode cX6_takeWord 48 = .ok (.bipush 12, 2) := by decide +kernel
theorem dX6_takeWord_50 : decode cX6_takeWord 50 = .ok (.if_icmp .ge 61, 3) := by decide +kernel
theorem dX6_takeWord_53 : decode cX6_takeWord 53 = .ok (.aload_n 0, 1) := by decide +kernel
theorem dX6_takeWord_54 : decode cX6_takeWord 54 = .ok (.iload_n 1, 1) := by decide +kernel
theorem dX6_takeWord_55 : decode cX6_takeWord 55 = .ok (.invokevirtual 101, 3) := by decide +kernel
theorem dX6_takeWord_58 : decode cX6_takeWord 58 = .ok (.ifCond .eq 47, 3) := by decide +kernel
theorem dX6_takeWord_61 : decode cX6_takeWord 61 = .ok (.aload_n 0, 1) := by decide +kernel
theorem dX6_takeWord_62 : decode cX6_takeWord 62 = .ok (.iload_n 1, 1) := by decide +kernel
theorem dX6_takeWord_63 : decode cX6_takeWord 63 = .ok (.bipush 6, 2) := by decide +kernel
theorem dX6_takeWord_65 : decode cX6_takeWord 65 = .ok (.isub, 1) := by decide +kernel
theorem dX6_takeWord_66 : decode cX6_takeWord 66 = .ok (.putfield 53, 3) := by decide +kernel
theorem dX6_takeWord_69 : decode cX6_takeWord 69 = .ok (.iload_n 1, 1) := by decide +kernel
theorem dX6_takeWord_70 : decode cX6_takeWord 70 = .ok (.bipush 6, 2) := by decide +kernel
theorem dX6_takeWord_72 : decode cX6_takeWord 72 = .ok (.if_icmp .lt 12, 3) := by decide +kernel
theorem dX6_takeWord_75 : decode cX6_takeWord 75 = .ok (.aload_n 0, 1) := by decide +kernel
theorem dX6_takeWord_76 : decode cX6_takeWord 76 = .ok (.bipush 17, 2) := by decide +kernel
theorem dX6_takeWord_78 : decode cX6_takeWord 78 = .ok (.putfield 33, 3) := by decide +kernel
theorem dX6_takeWord_81 : decode cX6_takeWord 81 = .ok (.goto 24, 3) := by decide +kernel
theorem dX6_takeWord_84 : decode cX6_takeWord 84 = .ok (.aload_n 0, 1) := by decide +kernel
theorem dX6_takeWord_85 : decode cX6_takeWord 85 = .ok (.iload_n 1, 1) := by decide +kernel
theorem dX6_takeWord_86 : decode cX6_takeWord 86 = .ok (.iconst 3, 1) := by decide +kernel
theorem dX6_takeWord_87 : decode cX6_takeWord 87 = .ok (.if_icmp .lt 11, 3) := by decide +kernel
theorem dX6_takeWord_90 : decode cX6_takeWord 90 = .ok (.iconst 1, 1) := by decide +kernel
theorem dX6_takeWord_91 : decode cX6_takeWord 91 = .ok (.iload_n 1, 1) := by decide +kernel
theorem dX6_takeWord_92 : decode cX6_takeWord 92 = .ok (.iadd, 1) := by decide +kernel
theorem dX6_takeWord_93 : decode cX6_takeWord 93 = .ok (.iconst 3, 1) := by decide +kernel
theorem dX6_takeWord_94 : decode cX6_takeWord 94 = .ok (.isub, 1) := by decide +kernel
theorem dX6_takeWord_95 : decode cX6_takeWord 95 = .ok (.goto 7, 3) := by decide +kernel
theorem dX6_takeWord_98 : decode cX6_takeWord 98 = .ok (.bipush 13, 2) := by decide +kernel
theorem dX6_takeWord_100 : decode cX6_takeWord 100 = .ok (.iload_n 1, 1) := by decide +kernel
theorem dX6_takeWord_101 : decode cX6_takeWord 101 = .ok (.iadd, 1) := by decide +kernel
theorem dX6_takeWord_102 : decode cX6_takeWord 102 = .ok (.putfield 33, 3) := by decide +kernel
theorem dX6_takeWord_105 : decode cX6_takeWord 105 = .ok (.iinc 1 1, 3) := by decide +kernel
theorem dX6_takeWord_108 : decode cX6_takeWord 108 = .ok (.goto (-61), 3) := by decide +kernel
theorem dX6_takeWord_111 : decode cX6_takeWord 111 = .ok (.return_, 1) := by decide +kernel
theorem dX6_isWord_0 : decode cX6_isWord 0 = .ok (.aload_n 0, 1) := by decide +kernel
theorem dX6_isWord_1 : decode cX6_isWord 1 = .ok (.getfield 22, 3) := by decide +kernel
theorem dX6_isWord_4 : decode cX6_isWord 4 = .ok (.aload_n 0, 1) := by decide +kernel
theorem dX6_isWord_5 : decode cX6_isWord 5 = .ok (.getfield 36, 3) := by decide +kernel
theorem dX6_isWord_8 : decode cX6_isWord 8 = .ok (.isub, 1) := by decide +kernel
theorem dX6_isWord_9 : decode cX6_isWord 9 = .ok (.istore_n 2, 1) := by decide +kernel
theorem dX6_isWord_10 : decode cX6_isWord 10 = .ok (.iload_n 2, 1) := by decide +kernel
theorem dX6_isWord_11 : decode cX6_isWord 11 = .ok (.bipush 6, 2) := by decide +kernel
theorem dX6_isWord_13 : decode cX6_isWord 13 = .ok (.if_icmp .le 5, 3) := by decide +kernel
theorem dX6_isWord_16 : decode cX6_isWord 16 = .ok (.iconst 0, 1) := by decide +kernel
theorem dX6_isWord_17 : decode cX6_isWord 17 = .ok (.ireturn, 1) := by decide +kernel
theorem dX6_isWord_18 : decode cX6_isWord 18 = .ok (.iconst 0, 1) := by decide +kernel
theorem dX6_isWord_19 : decode cX6_isWord 19 = .ok (.istore_n 3, 1) := by decide +kernel
theorem dX6_isWord_20 : decode cX6_isWord 20 = .ok (.iload_n 3, 1) := by decide +kernel
theorem dX6_isWord_21 : decode cX6_isWord 21 = .ok (.bipush 6, 2) := by decide +kernel
theorem dX6_isWord_23 : decode cX6_isWord 23 = .ok (.if_icmp .ge 55, 3) := by decide +kernel
theorem dX6_isWord_26 : decode cX6_isWord 26 = .ok (.ldc 104, 2) := by decide +kernel
theorem dX6_isWord_28 : decode cX6_isWord 28 = .ok (.iload_n 1, 1) := by decide +kernel
theorem dX6_isWord_29 : decode cX6_isWord 29 = .ok (.bipush 6, 2) := by decide +kernel
theorem dX6_isWord_31 : decode cX6_isWord 31 = .ok (.imul, 1) := by decide +kernel
theorem dX6_isWord_32 : decode cX6_isWord 32 = .ok (.iload_n 3, 1) := by decide +kernel
theorem dX6_isWord_33 : decode cX6_isWord 33 = .ok (.iadd, 1) := by decide +kernel
theorem dX6_isWord_34 : decode cX6_isWord 34 = .ok (.invokevirtual 106, 3) := by decide +kernel
theorem dX6_isWord_37 : decode cX6_isWord 37 = .ok (.istore 4, 2) := by decide +kernel
theorem dX6_isWord_39 : decode cX6_isWord 39 = .ok (.iload_n 3, 1) := by decide +kernel
theorem dX6_isWord_40 : decode cX6_isWord 40 = .ok (.iload_n 2, 1) := by decide +kernel
theorem dX6_isWord_41 : decode cX6_isWord 41 = .ok (.if_icmp .ge 22, 3) := by decide +kernel
theorem dX6_isWord_44 : decode cX6_isWord 44 = .ok (.aload_n 0, 1) := by decide +kernel
theorem dX6_isWord_45 : decode cX6_isWord 45 = .ok (.getfield 9, 3) := by decide +kernel
theorem dX6_isWord_48 : decode cX6_isWord 48 = .ok (.aload_n 0, 1) := by decide +kernel
theorem dX6_isWord_49 : decode cX6_isWord 49 = .ok (.getfield 36, 3) := by decide +kernel
theorem dX6_isWord_52 : decode cX6_isWord 52 = .ok (.iload_n 3, 1) := by decide +kernel
theorem dX6_isWord_53 : decode cX6_isWord 53 = .ok (.iadd, 1) := by decide +kernel
theorem dX6_isWord_54 : decode cX6_isWord 54 = .ok (.iaload, 1) := by decide +kernel
theorem dX6_isWord_55 : decode cX6_isWord 55 = .ok (.iload 4, 2) := by decide +kernel
theorem dX6_isWord_57 : decode cX6_isWord 57 = .ok (.if_icmp .eq 15, 3) := by decide +kernel
theorem dX6_isWord_60 : decode cX6_isWord 60 = .ok (.goto 10, 3) := by decide +kernel
theorem dX6_isWord_63 : decode cX6_isWord 63 = .ok (.iload 4, 2) := by decide +kernel
theorem dX6_isWord_65 : decode cX6_isWord 65 = .ok (.bipush 32, 2) := by decide +kernel
theorem dX6_isWord_67 : decode cX6_isWord 67 = .ok (.if_icmp .eq 5, 3) := by decide +kernel
theorem dX6_isWord_70 : decode cX6_isWord 70 = .ok (.iconst 0, 1) := by decide +kernel
theorem dX6_isWord_71 : decode cX6_isWord 71 = .ok (.ireturn, 1) := by decide +kernel
theorem dX6_isWord_72 : decode cX6_isWord 72 = .ok (.iinc 3 1, 3) := by decide +kernel
theorem dX6_isWord_75 : decode cX6_isWord 75 = .ok (.goto (-55), 3) := by decide +kernel
theorem dX6_isWord_78 : decode cX6_isWord 78 = .ok (.iconst 1, 1) := by decide +kernel
theorem dX6_isWord_79 : decode cX6_isWord 79 = .ok (.ireturn, 1) := by decide +kernel
theorem dX6_takeNumber_0 : decode cX6_takeNumber 0 = .ok (.aload_n 0, 1) := by decide +kernel
theorem dX6_takeNumber_1 : decode cX6_takeNumber 1 = .ok (.iconst 0, 1) := by decide +kernel
theorem dX6_takeNumber_2 : decode cX6_takeNumber 2 = .ok (.putfield 53, 3) := by decide +kernel
theorem dX6_takeNumber_5 : decode cX6_takeNumber 5 = .ok (.aload_n 0, 1) := by decide +kernel
theorem dX6_takeNumber_6 : decode cX6_takeNumber 6 = .ok (.getfield 22, 3) := by decide +kernel
theorem dX6_takeNumber_9 : decode cX6_takeNumber 9 = .ok (.aload_n 0, 1) := by decide +kernel
theorem dX6_takeNumber_10 : decode cX6_takeNumber 10 = .ok (.getfield 18, 3) := by decide +kernel
theorem dX6_takeNumber_13 : decode cX6_takeNumber 13 = .ok (.if_icmp .ge 55, 3) := by decide +kernel
theorem dX6_takeNumber_16 : decode cX6_takeNumber 16 = .ok (.aload_n 0, 1) := by decide +kernel
theorem dX6_takeNumber_17 : decode cX6_takeNumber 17 = .ok (.getfield 9, 3) := by decide +kernel
theorem dX6_takeNumber_20 : decode cX6_takeNumber 20 = .ok (.aload_n 0, 1) := by decide +kernel
theorem dX6_takeNumber_21 : decode cX6_takeNumber 21 = .ok (.getfield 22, 3) := by decide +kernel
theorem dX6_takeNumber_24 : decode cX6_takeNumber 24 = .ok (.iaload, 1) := by decide +kernel
theorem dX6_takeNumber_25 : decode cX6_takeNumber 25 = .ok (.invokestatic 92, 3) := by decide +kernel
theorem dX6_takeNumber_28 : decode cX6_takeNumber 28 = .ok (.ifCond .eq 40, 3) := by decide +kernel
theorem dX6_takeNumber_31 : decode cX6_takeNumber 31 = .ok (.aload_n 0, 1) := by decide +kernel
theorem dX6_takeNumber_32 : decode cX6_takeNumber 32 = .ok (.aload_n 0, 1) := by decide +kernel
theorem dX6_takeNumber_33 : decode cX6_takeNumber 33 = .ok (.getfield 53, 3) := by decide +kernel
theorem dX6_takeNumber_36 : decode cX6_takeNumber 36 = .ok (.bipush 10, 2) := by decide +kernel
theorem dX6_takeNumber_38 : decode cX6_takeNumber 38 = .ok (.imul, 1) := by decide +kernel
theorem dX6_takeNumber_39 : decode cX6_takeNumber 39 = .ok (.aload_n 0, 1) := by decide +kernel
theorem dX6_takeNumber_40 : decode cX6_takeNumber 40 = .ok (.getfield 9, 3) := by decide +kernel
theorem dX6_takeNumber_43 : decode cX6_takeNumber 43 = .ok (.aload_n 0, 1) := by decide +kernel
theorem dX6_takeNumber_44 : decode cX6_takeNumber 44 = .ok (.getfield 22, 3) := by decide +kernel
theorem dX6_takeNumber_47 : decode cX6_takeNumber 47 = .ok (.iaload, 1) := by decide +kernel
theorem dX6_takeNumber_48 : decode cX6_takeNumber 48 = .ok (.iadd, 1) := by decide +kernel
theorem dX6_takeNumber_49 : decode cX6_takeNumber 49 = .ok (.bipush 48, 2) := by decide +kernel
theorem dX6_takeNumber_51 : decode cX6_takeNumber 51 = .ok (.isub, 1) := by decide +kernel
theorem dX6_takeNumber_52 : decode cX6_takeNumber 52 = .ok (.putfield 53, 3) := by decide +kernel
theorem dX6_takeNumber_55 : decode cX6_takeNumber 55 = .ok (.aload_n 0, 1) := by decide +kernel
theorem dX6_takeNumber_56 : decode cX6_takeNumber 56 = .ok (.dup, 1) := by decide +kernel
theorem dX6_takeNumber_57 : decode cX6_takeNumber 57 = .ok (.getfield 22, 3) := by decide +kernel
theorem dX6_takeNumber_60 : decode cX6_takeNumber 60 = .ok (.iconst 1, 1) := by decide +kernel
theorem dX6_takeNumber_61 : decode cX6_takeNumber 61 = .ok (.iadd, 1) := by decide +kernel
theorem dX6_takeNumber_62 : decode cX6_takeNumber 62 = .ok (.putfield 22, 3) := by decide +kernel
theorem dX6_takeNumber_65 : decode cX6_takeNumber 65 = .ok (.goto (-60), 3) := by decide +kernel
theorem dX6_takeNumber_68 : decode cX6_takeNumber 68 = .ok (.aload_n 0, 1) := by decide +kernel
theorem dX6_takeNumber_69 : decode cX6_takeNumber 69 = .ok (.aload_n 0, 1) := by decide +kernel
theorem dX6_takeNumber_70 : decode cX6_takeNumber 70 = .ok (.getfield 22, 3) := by decide +kernel
theorem dX6_takeNumber_73 : decode cX6_takeNumber 73 = .ok (.aload_n 0, 1) := by decide +kernel
theorem dX6_takeNumber_74 : decode cX6_takeNumber 74 = .ok (.getfield 36, 3) := by decide +kernel
theorem dX6_takeNumber_77 : decode cX6_takeNumber 77 = .ok (.isub, 1) := by decide +kernel
theorem dX6_takeNumber_78 : decode cX6_takeNumber 78 = .ok (.iconst 4, 1) := by decide +kernel
theorem dX6_takeNumber_79 : decode cX6_takeNumber 79 = .ok (.if_icmp .le 8, 3) := by decide +kernel
theorem dX6_takeNumber_82 : decode cX6_takeNumber 82 = .ok (.bipush 19, 2) := by decide +kernel
theorem dX6_takeNumber_84 : decode cX6_takeNumber 84 = .ok (.goto 5, 3) := by decide +kernel
theorem dX6_takeNumber_87 : decode cX6_takeNumber 87 = .ok (.bipush 16, 2) := by decide +kernel
theorem dX6_takeNumber_89 : decode cX6_takeNumber 89 = .ok (.putfield 33, 3) := by decide +kernel
theorem dX6_takeNumber_92 : decode cX6_takeNumber 92 = .ok (.return_, 1) := by decide +kernel
theorem dX6_takeSign_0 : decode cX6_takeSign 0 = .ok (.ldc 112, 2) := by decide +kernel
theorem dX6_takeSign_2 : decode cX6_takeSign 2 = .ok (.aload_n 0, 1) := by decide +kernel
theorem dX6_takeSign_3 : decode cX6_takeSign 3 = .ok (.getfield 9, 3) := by decide +kernel
theorem dX6_takeSign_6 : decode cX6_takeSign 6 = .ok (.aload_n 0, 1) := by decide +kernel
theorem dX6_takeSign_7 : decode cX6_takeSign 7 = .ok (.getfield 22, 3) := by decide +kernel
theorem dX6_takeSign_10 : decode cX6_takeSign 10 = .ok (.iaload, 1) := by decide +kernel
theorem dX6_takeSign_11 : decode cX6_takeSign 11 = .ok (.i2c, 1) := by decide +kernel
theorem dX6_takeSign_12 : decode cX6_takeSign 12 = .ok (.invokevirtual 114, 3) := by decide +kernel
theorem dX6_takeSign_15 : decode cX6_takeSign 15 = .ok (.istore_n 1, 1) := by decide +kernel
theorem dX6_takeSign_16 : decode cX6_takeSign 16 = .ok (.aload_n 0, 1) := by decide +kernel
theorem dX6_takeSign_17 : decode cX6_takeSign 17 = .ok (.iload_n 1, 1) := by decide +kernel
theorem dX6_takeSign_18 : decode cX6_takeSign 18 = .ok (.getstatic 118, 3) := by decide +kernel
theorem dX6_takeSign_21 : decode cX6_takeSign 21 = .ok (.arraylength, 1) := by decide +kernel
theorem dX6_takeSign_22 : decode cX6_takeSign 22 = .ok (.invokestatic 121, 3) := by decide +kernel
theorem dX6_takeSign_25 : decode cX6_takeSign 25 = .ok (.ifCond .eq 11, 3) := by decide +kernel
theorem dX6_takeSign_28 : decode cX6_takeSign 28 = .ok (.getstatic 118, 3) := by decide +kernel
theorem dX6_takeSign_31 : decode cX6_takeSign 31 = .ok (.iload_n 1, 1) := by decide +kernel
theorem dX6_takeSign_32 : decode cX6_takeSign 32 = .ok (.iaload, 1) := by decide +kernel
theorem dX6_takeSign_33 : decode cX6_takeSign 33 = .ok (.goto 5, 3) := by decide +kernel
theorem dX6_takeSign_36 : decode cX6_takeSign 36 = .ok (.bipush 19, 2) := by decide +kernel
theorem dX6_takeSign_38 : decode cX6_takeSign 38 = .ok (.putfield 33, 3) := by decide +kernel
theorem dX6_takeSign_41 : decode cX6_takeSign 41 = .ok (.aload_n 0, 1) := by decide +kernel
theorem dX6_takeSign_42 : decode cX6_takeSign 42 = .ok (.dup, 1) := by decide +kernel
theorem dX6_takeSign_43 : decode cX6_takeSign 43 = .ok (.getfield 22, 3) := by decide +kernel
theorem dX6_takeSign_46 : decode cX6_takeSign 46 = .ok (.iconst 1, 1) := by decide +kernel
theorem dX6_takeSign_47 : decode cX6_takeSign 47 = .ok (.iadd, 1) := by decide +kernel
theorem dX6_takeSign_48 : decode cX6_takeSign 48 = .ok (.putfield 22, 3) := by decide +kernel
theorem dX6_takeSign_51 : decode cX6_takeSign 51 = .ok (.return_, 1) := by decide +kernel
theorem dX6_isLetter_0 : decode cX6_isLetter 0 = .ok (.iload_n 0, 1) := by decide +kernel
theorem dX6_isLetter_1 : decode cX6_isLetter 1 = .ok (.bipush 97, 2) := by decide +kernel
theorem dX6_isLetter_3 : decode cX6_isLetter 3 = .ok (.if_icmp .lt 13, 3) := by decide +kernel
theorem dX6_isLetter_6 : decode cX6_isLetter 6 = .ok (.iload_n 0, 1) := by decide +kernel
theorem dX6_isLetter_7 : decode cX6_isLetter 7 = .ok (.bipush 122, 2) := by decide +kernel
theorem dX6_isLetter_9 : decode cX6_isLetter 9 = .ok (.if_icmp .gt 7, 3) := by decide +kernel
theorem dX6_isLetter_12 : decode cX6_isLetter 12 = .ok (.iconst 1, 1) := by decide +kernel
theorem dX6_isLetter_13 : decode cX6_isLetter 13 = .ok (.goto 4, 3) := by decide +kernel
theorem dX6_isLetter_16 : decode cX6_isLetter 16 = .ok (.iconst 0, 1) := by decide +kernel
theorem dX6_isLetter_17 : decode cX6_isLetter 17 = .ok (.ireturn, 1) := by decide +kernel
theorem dX6_isDigit_0 : decode cX6_isDigit 0 = .ok (.iload_n 0, 1) := by decide +kernel
theorem dX6_isDigit_1 : decode cX6_isDigit 1 = .ok (.bipush 48, 2) := by decide +kernel
theorem dX6_isDigit_3 : decode cX6_isDigit 3 = .ok (.if_icmp .lt 13, 3) := by decide +kernel
theorem dX6_isDigit_6 : decode cX6_isDigit 6 = .ok (.iload_n 0, 1) := by decide +kernel
theorem dX6_isDigit_7 : decode cX6_isDigit 7 = .ok (.bipush 57, 2) := by decide +kernel
theorem dX6_isDigit_9 : decode cX6_isDigit 9 = .ok (.if_icmp .gt 7, 3) := by decide +kernel
theorem dX6_isDigit_12 : decode cX6_isDigit 12 = .ok (.iconst 1, 1) := by decide +kernel
theorem dX6_isDigit_13 : decode cX6_isDigit 13 = .ok (.goto 4, 3) := by decide +kernel
theorem dX6_isDigit_16 : decode cX6_isDigit 16 = .ok (.iconst 0, 1) := by decide +kernel
theorem dX6_isDigit_17 : decode cX6_isDigit 17 = .ok (.ireturn, 1) := by decide +kernel
theorem dX7_init_0 : decode cX7_init 0 = .ok (.aload_n 0, 1) := by decide +kernel
theorem dX7_init_1 : decode cX7_init 1 = .ok (.invokespecial 3, 3) := by decide +kernel
theorem dX7_init_4 : decode cX7_init 4 = .ok (.aload_n 0, 1) := by decide +kernel
theorem dX7_init_5 : decode cX7_init 5 = .ok (.bipush 8, 2) := by decide +kernel
theorem dX7_init_7 : decode cX7_init 7 = .ok (.newarray .int, 2) := by decide +kernel
theorem dX7_init_9 : decode cX7_init 9 = .ok (.putfield 9, 3) := by decide +kernel
theorem dX7_init_12 : decode cX7_init 12 = .ok (.aload_n 0, 1) := by decide +kernel
theorem dX7_init_13 : decode cX7_init 13 = .ok (.bipush 8, 2) := by decide +kernel
theorem dX7_init_15 : decode cX7_init 15 = .ok (.newarray .int, 2) := by decide +kernel
theorem dX7_init_17 : decode cX7_init 17 = .ok (.putfield 15, 3) := by decide +kernel
theorem dX7_init_20 : decode cX7_init 20 = .ok (.aload_n 0, 1) := by decide +kernel
theorem dX7_init_21 : decode cX7_init 21 = .ok (.aload_n 1, 1) := by decide +kernel
theorem dX7_init_22 : decode cX7_init 22 = .ok (.putfield 18, 3) := by decide +kernel
theorem dX7_init_25 : decode cX7_init 25 = .ok (.aload_n 0, 1) := by decide +kernel
theorem dX7_init_26 : decode cX7_init 26 = .ok (.aload_n 2, 1) := by decide +kernel
theorem dX7_init_27 : decode cX7_init 27 = .ok (.putfield 22, 3) := by decide +kernel
theorem dX7_init_30 : decode cX7_init 30 = .ok (.return_, 1) := by decide +kernel
theorem dX7_follow_0 : decode cX7_follow 0 = .ok (.iconst 0, 1) := by decide +kernel
theorem dX7_follow_1 : decode cX7_follow 1 = .ok (.istore_n 2, 1) := by decide +kernel
theorem dX7_follow_2 : decode cX7_follow 2 = .ok (.iload_n 2, 1) := by decide +kernel
theorem dX7_follow_3 : decode cX7_follow 3 = .ok (.bipush 8, 2) := by decide +kernel
theorem dX7_follow_5 : decode cX7_follow 5 = .ok (.if_icmp .ge 18, 3) := by decide +kernel
theorem dX7_follow_8 : decode cX7_follow 8 = .ok (.aload_n 0, 1) := by decide +kernel
theorem dX7_follow_9 : decode cX7_follow 9 = .ok (.getfield 9, 3) := by decide +kernel
theorem dX7_follow_12 : decode cX7_follow 12 = .ok (.iload_n 2, 1) := by decide +kernel
theorem dX7_follow_13 : decode cX7_follow 13 = .ok (.iconst 1, 1) := by decide +kernel
theorem dX7_follow_14 : decode cX7_follow 14 = .ok (.iload_n 2, 1) := by decide +kernel
theorem dX7_follow_15 : decode cX7_follow 15 = .ok (.ishl, 1) := by decide +kernel
theorem dX7_follow_16 : decode cX7_follow 16 = .ok (.iastore, 1) := by decide +kernel
theorem dX7_follow_17 : decode cX7_follow 17 = .ok (.iinc 2 1, 3) := by decide +kernel
theorem dX7_follow_20 : decode cX7_follow 20 = .ok (.goto (-18), 3) := by decide +kernel
theorem dX7_follow_23 : decode cX7_follow 23 = .ok (.aload_n 0, 1) := by decide +kernel
theorem dX7_follow_24 : decode cX7_follow 24 = .ok (.iconst (-1), 1) := by decide +kernel
theorem dX7_follow_25 : decode cX7_follow 25 = .ok (.putfield 26, 3) := by decide +kernel
theorem dX7_follow_28 : decode cX7_follow 28 = .ok (.aload_n 0, 1) := by decide +kernel
theorem dX7_follow_29 : decode cX7_follow 29 = .ok (.invokevirtual 30, 3) := by decide +kernel
theorem dX7_follow_32 : decode cX7_follow 32 = .ok (.iconst 0, 1) := by decide +kernel
theorem dX7_follow_33 : decode cX7_follow 33 = .ok (.istore_n 2, 1) := by decide +kernel
theorem dX7_follow_34 : decode cX7_follow 34 = .ok (.iload_n 2, 1) := by decide +kernel
theorem dX7_follow_35 : decode cX7_follow 35 = .ok (.aload_n 1, 1) := by decide +kernel
theorem dX7_follow_36 : decode cX7_follow 36 = .ok (.getfield 33, 3) := by decide +kernel
theorem dX7_follow_39 : decode cX7_follow 39 = .ok (.if_icmp .ge 73, 3) := by decide +kernel
theorem dX7_follow_42 : decode cX7_follow 42 = .ok (.aload_n 0, 1) := by decide +kernel
theorem dX7_follow_43 : decode cX7_follow 43 = .ok (.getfield 26, 3) := by decide +kernel
theorem dX7_follow_46 : decode cX7_follow 46 = .ok (.iconst (-1), 1) := by decide +kernel
theorem dX7_follow_47 : decode cX7_follow 47 = .ok (.if_icmp .ne 65, 3) := by decide +kernel
theorem dX7_follow_50 : decode cX7_follow 50 = .ok (.aload_n 0, 1) := by decide +kernel
theorem dX7_follow_51 : decode cX7_follow 51 = .ok (.getfield 22, 3) := by decide +kernel
theorem dX7_follow_54 : decode cX7_follow 54 = .ok (.iload_n 2, 1) := by decide +kernel
theorem dX7_follow_55 : decode cX7_follow 55 = .ok (.invokevirtual 38, 3) := by decide +kernel
theorem dX7_follow_58 : decode cX7_follow 58 = .ok (.aload_n 0, 1) := by decide +kernel
theorem dX7_follow_59 : decode cX7_follow 59 = .ok (.invokevirtual 44, 3) := by decide +kernel
theorem dX7_follow_62 : decode cX7_follow 62 = .ok (.aload_n 0, 1) := by decide +kernel
theorem dX7_follow_63 : decode cX7_follow 63 = .ok (.aload_n 1, 1) := by decide +kernel
theorem dX7_follow_64 : decode cX7_follow 64 = .ok (.getfield 47, 3) := by decide +kernel
theorem dX7_follow_67 : decode cX7_follow 67 = .ok (.iload_n 2, 1) := by decide +kernel
theorem dX7_follow_68 : decode cX7_follow 68 = .ok (.iaload, 1) := by decide +kernel
theorem dX7_follow_69 : decode cX7_follow 69 = .ok (.aload_n 0, 1) := by decide +kernel
theorem dX7_follow_70 : decode cX7_follow 70 = .ok (.getfield 22, 3) := by decide +kernel
theorem dX7_follow_73 : decode cX7_follow 73 = .ok (.aload_n 0, 1) := by decide +kernel
theorem dX7_follow_74 : decode cX7_follow 74 = .ok (.getfield 18, 3) := by decide +kernel
theorem dX7_follow_77 : decode cX7_follow 77 = .ok (.getfield 50, 3) := by decide +kernel
theorem dX7_follow_80 : decode cX7_follow 80 = .ok (.iload_n 2, 1) := by decide +kernel
theorem dX7_follow_81 : decode cX7_follow 81 = .ok (.iadd, 1) := by decide +kernel
theorem dX7_follow_82 : decode cX7_follow 82 = .ok (.iconst 1, 1) := by decide +kernel
theorem dX7_follow_83 : decode cX7_follow 83 = .ok (.iadd, 1) := by decide +kernel
theorem dX7_follow_84 : decode cX7_follow 84 = .ok (.invokevirtual 55, 3) := by decide +kernel
theorem dX7_follow_87 : decode cX7_follow 87 = .ok (.invokevirtual 59, 3) := by decide +kernel
theorem dX7_follow_90 : decode cX7_follow 90 = .ok (.aload_n 0, 1) := by decide +kernel
theorem dX7_follow_91 : decode cX7_follow 91 = .ok (.invokevirtual 30, 3) := by decide +kernel
theorem dX7_follow_94 : decode cX7_follow 94 = .ok (.aload_n 0, 1) := by decide +kernel
theorem dX7_follow_95 : decode cX7_follow 95 = .ok (.getfield 63, 3) := by decide +kernel
theorem dX7_follow_98 : decode cX7_follow 98 = .ok (.ifCond .ne 8, 3) := by decide +kernel
theorem dX7_follow_101 : decode cX7_follow 101 = .ok (.aload_n 0, 1) := by decide +kernel
theorem dX7_follow_102 : decode cX7_follow 102 = .ok (.iload_n 2, 1) := by decide +kernel
theorem dX7_follow_103 : decode cX7_follow 103 = .ok (.putfield 26, 3) := by decide +kernel
theorem dX7_follow_106 : decode cX7_follow 106 = .ok (.iinc 2 1, 3) := by decide +kernel
theorem dX7_follow_109 : decode cX7_follow 109 = .ok (.goto (-75), 3) := by decide +kernel
theorem dX7_follow_112 : decode cX7_follow 112 = .ok (.aload_n 0, 1) := by decide +kernel
theorem dX7_follow_113 : decode cX7_follow 113 = .ok (.getfield 26, 3) := by decide +kernel
theorem dX7_follow_116 : decode cX7_follow 116 = .ok (.iconst (-1), 1) := by decide +kernel
theorem dX7_follow_117 : decode cX7_follow 117 = .ok (.if_icmp .ne 7, 3) := by decide +kernel
theorem dX7_follow_120 : decode cX7_follow 120 = .ok (.iconst 1, 1) := by decide +kernel
theorem dX7_follow_121 : decode cX7_follow 121 = .ok (.goto 4, 3) := by decide +kernel
theorem dX7_follow_124 : decode cX7_follow 124 = .ok (.iconst 0, 1) := by decide +kernel
theorem dX7_follow_125 : decode cX7_follow 125 = .ok (.ireturn, 1) := by decide +kernel
theorem dX7_goAlongMoves_0 : decode cX7_goAlongMoves 0 = .ok (.aload_n 0, 1) := by decide +kernel
theorem dX7_goAlongMoves_1 : decode cX7_goAlongMoves 1 = .ok (.getfield 15, 3) := by decide +kernel
theorem dX7_goAlongMoves_4 : decode cX7_goAlongMoves 4 = .ok (.iconst 0, 1) := by decide +kernel
theorem dX7_goAlongMoves_5 : decode cX7_goAlongMoves 5 = .ok (.invokestatic 66, 3) := by decide +kernel
theorem dX7_goAlongMoves_8 : decode cX7_goAlongMoves 8 = .ok (.iconst 0, 1) := by decide +kernel
theorem dX7_goAlongMoves_9 : decode cX7_goAlongMoves 9 = .ok (.istore_n 1, 1) := by decide +kernel
theorem dX7_goAlongMoves_10 : decode cX7_goAlongMoves 10 = .ok (.iload_n 1, 1) := by decide +kernel
theorem dX7_goAlongMoves_11 : decode cX7_goAlongMoves 11 = .ok (.bipush 8, 2) := by decide +kernel
theorem dX7_goAlongMoves_13 : decode cX7_goAlongMoves 13 = .ok (.if_icmp .ge 54, 3) := by decide +kernel
theorem dX7_goAlongMoves_16 : decode cX7_goAlongMoves 16 = .ok (.iconst 0, 1) := by decide +kernel
theorem dX7_goAlongMoves_17 : decode cX7_goAlongMoves 17 = .ok (.istore_n 2, 1) := by decide +kernel
theorem dX7_goAlongMoves_18 : decode cX7_goAlongMoves 18 = .ok (.iload_n 2, 1) := by decide +kernel
theorem dX7_goAlongMoves_19 : decode cX7_goAlongMoves 19 = .ok (.bipush 8, 2) := by decide +kernel
theorem dX7_goAlongMoves_21 : decode cX7_goAlongMoves 21 = .ok (.if_icmp .ge 40, 3) := by decide +kernel
theorem dX7_goAlongMoves_24 : decode cX7_goAlongMoves 24 = .ok (.aload_n 0, 1) := by decide +kernel
theorem dX7_goAlongMoves_25 : decode cX7_goAlongMoves 25 = .ok (.getfield 22, 3) := by decide +kernel
theorem dX7_goAlongMoves_28 : decode cX7_goAlongMoves 28 = .ok (.getfield 72, 3) := by decide +kernel
theorem dX7_goAlongMoves_31 : decode cX7_goAlongMoves 31 = .ok (.iload_n 1, 1) := by decide +kernel
theorem dX7_goAlongMoves_32 : decode cX7_goAlongMoves 32 = .ok (.iaload, 1) := by decide +kernel
theorem dX7_goAlongMoves_33 : decode cX7_goAlongMoves 33 = .ok (.iload_n 2, 1) := by decide +kernel
theorem dX7_goAlongMoves_34 : decode cX7_goAlongMoves 34 = .ok (.ishr, 1) := by decide +kernel
theorem dX7_goAlongMoves_35 : decode cX7_goAlongMoves 35 = .ok (.iconst 1, 1) := by decide +kernel
theorem dX7_goAlongMoves_36 : decode cX7_goAlongMoves 36 = .ok (.iand, 1) := by decide +kernel
theorem dX7_goAlongMoves_37 : decode cX7_goAlongMoves 37 = .ok (.ifCond .eq 18, 3) := by decide +kernel
theorem dX7_goAlongMoves_40 : decode cX7_goAlongMoves 40 = .ok (.aload_n 0, 1) := by decide +kernel
theorem dX7_goAlongMoves_41 : decode cX7_goAlongMoves 41 = .ok (.getfield 15, 3) := by decide +kernel
theorem dX7_goAlongMoves_44 : decode cX7_goAlongMoves 44 = .ok (.iload_n 2, 1) := by decide +kernel
theorem dX7_goAlongMoves_45 : decode cX7_goAlongMoves 45 = .ok (.dup2, 1) := by decide +kernel
theorem dX7_goAlongMoves_46 : decode cX7_goAlongMoves 46 = .ok (.iaload, 1) := by decide +kernel
theorem dX7_goAlongMoves_47 : decode cX7_goAlongMoves 47 = .ok (.aload_n 0, 1) := by decide +kernel
theorem dX7_goAlongMoves_48 : decode cX7_goAlongMoves 48 = .ok (.getfield 9, 3) := by decide +kernel
theorem dX7_goAlongMoves_51 : decode cX7_goAlongMoves 51 = .ok (.iload_n 1, 1) := by decide +kernel
theorem dX7_goAlongMoves_52 : decode cX7_goAlongMoves 52 = .ok (.iaload, 1) := by decide +kernel
theorem dX7_goAlongMoves_53 : decode cX7_goAlongMoves 53 = .ok (.ior, 1) := by decide +kernel
theorem dX7_goAlongMoves_54 : decode cX7_goAlongMoves 54 = .ok (.iastore, 1) := by decide +kernel
theorem dX7_goAlongMoves_55 : decode cX7_goAlongMoves 55 = .ok (.iinc 2 1, 3) := by decide +kernel
theorem dX7_goAlongMoves_58 : decode cX7_goAlongMoves 58 = .ok (.goto (-40), 3) := by decide +kernel
theorem dX7_goAlongMoves_61 : decode cX7_goAlongMoves 61 = .ok (.iinc 1 1, 3) := by decide +kernel
theorem dX7_goAlongMoves_64 : decode cX7_goAlongMoves 64 = .ok (.goto (-54), 3) := by decide +kernel
theorem dX7_goAlongMoves_67 : decode cX7_goAlongMoves 67 = .ok (.aload_n 0, 1) := by decide +kernel
theorem dX7_goAlongMoves_68 : decode cX7_goAlongMoves 68 = .ok (.getfield 9, 3) := by decide +kernel
theorem dX7_goAlongMoves_71 : decode cX7_goAlongMoves 71 = .ok (.astore_n 1, 1) := by decide +kernel
theorem dX7_goAlongMoves_72 : decode cX7_goAlongMoves 72 = .ok (.aload_n 0, 1) := by decide +kernel
theorem dX7_goAlongMoves_73 : decode cX7_goAlongMoves 73 = .ok (.aload_n 0, 1) := by decide +kernel
theorem dX7_goAlongMoves_74 : decode cX7_goAlongMoves 74 = .ok (.getfield 15, 3) := by decide +kernel
theorem dX7_goAlongMoves_77 : decode cX7_goAlongMoves 77 = .ok (.putfield 9, 3) := by decide +kernel
theorem dX7_goAlongMoves_80 : decode cX7_goAlongMoves 80 = .ok (.aload_n 0, 1) := by decide +kernel
theorem dX7_goAlongMoves_81 : decode cX7_goAlongMoves 81 = .ok (.aload_n 1, 1) := by decide +kernel
theorem dX7_goAlongMoves_82 : decode cX7_goAlongMoves 82 = .ok (.putfield 15, 3) := by decide +kernel
theorem dX7_goAlongMoves_85 : decode cX7_goAlongMoves 85 = .ok (.return_, 1) := by decide +kernel
theorem dX7_keepTold_0 : decode cX7_keepTold 0 = .ok (.iconst 0, 1) := by decide +kernel
theorem dX7_keepTold_1 : decode cX7_keepTold 1 = .ok (.istore_n 3, 1) := by decide +kernel
theorem dX7_keepTold_2 : decode cX7_keepTold 2 = .ok (.iload_n 3, 1) := by decide +kernel
theorem dX7_keepTold_3 : decode cX7_keepTold 3 = .ok (.bipush 8, 2) := by decide +kernel
theorem dX7_keepTold_5 : decode cX7_keepTold 5 = .ok (.if_icmp .ge 71, 3) := by decide +kernel
theorem dX7_keepTold_8 : decode cX7_keepTold 8 = .ok (.iload_n 2, 1) := by decide +kernel
theorem dX7_keepTold_9 : decode cX7_keepTold 9 = .ok (.iload_n 3, 1) := by decide +kernel
theorem dX7_keepTold_10 : decode cX7_keepTold 10 = .ok (.ishr, 1) := by decide +kernel
theorem dX7_keepTold_11 : decode cX7_keepTold 11 = .ok (.iconst 1, 1) := by decide +kernel
theorem dX7_keepTold_12 : decode cX7_keepTold 12 = .ok (.iand, 1) := by decide +kernel
theorem dX7_keepTold_13 : decode cX7_keepTold 13 = .ok (.ifCond .eq 7, 3) := by decide +kernel
theorem dX7_keepTold_16 : decode cX7_keepTold 16 = .ok (.iconst 1, 1) := by decide +kernel
theorem dX7_keepTold_17 : decode cX7_keepTold 17 = .ok (.goto 4, 3) := by decide +kernel
theorem dX7_keepTold_20 : decode cX7_keepTold 20 = .ok (.iconst 0, 1) := by decide +kernel
theorem dX7_keepTold_21 : decode cX7_keepTold 21 = .ok (.istore 4, 2) := by decide +kernel
theorem dX7_keepTold_23 : decode cX7_keepTold 23 = .ok (.iload_n 1, 1) := by decide +kernel
theorem dX7_keepTold_24 : decode cX7_keepTold 24 = .ok (.iconst (-1), 1) := by decide +kernel
theorem dX7_keepTold_25 : decode cX7_keepTold 25 = .ok (.if_icmp .ne 16, 3) := by decide +kernel
theorem dX7_keepTold_28 : decode cX7_keepTold 28 = .ok (.iload 4, 2) := by decide +kernel
theorem dX7_keepTold_30 : decode cX7_keepTold 30 = .ok (.ifCond .ne 7, 3) := by decide +kernel
theorem dX7_keepTold_33 : decode cX7_keepTold 33 = .ok (.iconst 1, 1) := by decide +kernel
theorem dX7_keepTold_34 : decode cX7_keepTold 34 = .ok (.goto 22, 3) := by decide +kernel
theorem dX7_keepTold_37 : decode cX7_keepTold 37 = .ok (.iconst 0, 1) := by decide +kernel
theorem dX7_keepTold_38 : decode cX7_keepTold 38 = .ok (.goto 18, 3) := by decide +kernel
theorem dX7_keepTold_41 : decode cX7_keepTold 41 = .ok (.iload 4, 2) := by decide +kernel
theorem dX7_keepTold_43 : decode cX7_keepTold 43 = .ok (.ifCond .eq 12, 3) := by decide +kernel
theorem dX7_keepTold_46 : decode cX7_keepTold 46 = .ok (.iload_n 3, 1) := by decide +kernel
theorem dX7_keepTold_47 : decode cX7_keepTold 47 = .ok (.iload_n 1, 1) := by decide +kernel
theorem dX7_keepTold_48 : decode cX7_keepTold 48 = .ok (.if_icmp .ne 7, 3) := by decide +kernel
theorem dX7_keepTold_51 : decode cX7_keepTold 51 = .ok (.iconst 1, 1) := by decide +kernel
theorem dX7_keepTold_52 : decode cX7_keepTold 52 = .ok (.goto 4, 3) := by decide +kernel
theorem dX7_keepTold_55 : decode cX7_keepTold 55 = .ok (.iconst 0, 1) := by decide +kernel
theorem dX7_keepTold_56 : decode cX7_keepTold 56 = .ok (.istore 5, 2) := by decide +kernel
theorem dX7_keepTold_58 : decode cX7_keepTold 58 = .ok (.iload 5, 2) := by decide +kernel
theorem dX7_keepTold_60 : decode cX7_keepTold 60 = .ok (.ifCond .ne 10, 3) := by decide +kernel
theorem dX7_keepTold_63 : decode cX7_keepTold 63 = .ok (.aload_n 0, 1) := by decide +kernel
theorem dX7_keepTold_64 : decode cX7_keepTold 64 = .ok (.getfield 9, 3) := by decide +kernel
theorem dX7_keepTold_67 : decode cX7_keepTold 67 = .ok (.iload_n 3, 1) := by decide +kernel
theorem dX7_keepTold_68 : decode cX7_keepTold 68 = .ok (.iconst 0, 1) := by decide +kernel
theorem dX7_keepTold_69 : decode cX7_keepTold 69 = .ok (.iastore, 1) := by decide +kernel
theorem dX7_keepTold_70 : decode cX7_keepTold 70 = .ok (.iinc 3 1, 3) := by decide +kernel
theorem dX7_keepTold_73 : decode cX7_keepTold 73 = .ok (.goto (-71), 3) := by decide +kernel
theorem dX7_keepTold_76 : decode cX7_keepTold 76 = .ok (.return_, 1) := by decide +kernel
theorem dX7_sumUp_0 : decode cX7_sumUp 0 = .ok (.aload_n 0, 1) := by decide +kernel
theorem dX7_sumUp_1 : decode cX7_sumUp 1 = .ok (.iconst 0, 1) := by decide +kernel
theorem dX7_sumUp_2 : decode cX7_sumUp 2 = .ok (.putfield 63, 3) := by decide +kernel
theorem dX7_sumUp_5 : decode cX7_sumUp 5 = .ok (.aload_n 0, 1) := by decide +kernel
theorem dX7_sumUp_6 : decode cX7_sumUp 6 = .ok (.iconst 0, 1) := by decide +kernel
theorem dX7_sumUp_7 : decode cX7_sumUp 7 = .ok (.putfield 75, 3) := by decide +kernel
theorem dX7_sumUp_10 : decode cX7_sumUp 10 = .ok (.iconst 0, 1) := by decide +kernel
theorem dX7_sumUp_11 : decode cX7_sumUp 11 = .ok (.istore_n 1, 1) := by decide +kernel
theorem dX7_sumUp_12 : decode cX7_sumUp 12 = .ok (.iload_n 1, 1) := by decide +kernel
theorem dX7_sumUp_13 : decode cX7_sumUp 13 = .ok (.bipush 8, 2) := by decide +kernel
theorem dX7_sumUp_15 : decode cX7_sumUp 15 = .ok (.if_icmp .ge 45, 3) := by decide +kernel
theorem dX7_sumUp_18 : decode cX7_sumUp 18 = .ok (.aload_n 0, 1) := by decide +kernel
theorem dX7_sumUp_19 : decode cX7_sumUp 19 = .ok (.getfield 9, 3) := by decide +kernel
theorem dX7_sumUp_22 : decode cX7_sumUp 22 = .ok (.iload_n 1, 1) := by decide +kernel
theorem dX7_sumUp_23 : decode cX7_sumUp 23 = .ok (.iaload, 1) := by decide +kernel
theorem dX7_sumUp_24 : decode cX7_sumUp 24 = .ok (.ifCond .eq 30, 3) := by decide +kernel
theorem dX7_sumUp_27 : decode cX7_sumUp 27 = .ok (.aload_n 0, 1) := by decide +kernel
theorem dX7_sumUp_28 : decode cX7_sumUp 28 = .ok (.dup, 1) := by decide +kernel
theorem dX7_sumUp_29 : decode cX7_sumUp 29 = .ok (.getfield 63, 3) := by decide +kernel
theorem dX7_sumUp_32 : decode cX7_sumUp 32 = .ok (.iconst 1, 1) := by decide +kernel
theorem dX7_sumUp_33 : decode cX7_sumUp 33 = .ok (.iload_n 1, 1) := by decide +kernel
theorem dX7_sumUp_34 : decode cX7_sumUp 34 = .ok (.ishl, 1) := by decide +kernel
theorem dX7_sumUp_35 : decode cX7_sumUp 35 = .ok (.ior, 1) := by decide +kernel
theorem dX7_sumUp_36 : decode cX7_sumUp 36 = .ok (.putfield 63, 3) := by decide +kernel
theorem dX7_sumUp_39 : decode cX7_sumUp 39 = .ok (.aload_n 0, 1) := by decide +kernel
theorem dX7_sumUp_40 : decode cX7_sumUp 40 = .ok (.dup, 1) := by decide +kernel
theorem dX7_sumUp_41 : decode cX7_sumUp 41 = .ok (.getfield 75, 3) := by decide +kernel
theorem dX7_sumUp_44 : decode cX7_sumUp 44 = .ok (.aload_n 0, 1) := by decide +kernel
theorem dX7_sumUp_45 : decode cX7_sumUp 45 = .ok (.getfield 9, 3) := by decide +kernel
theorem dX7_sumUp_48 : decode cX7_sumUp 48 = .ok (.iload_n 1, 1) := by decide +kernel
theorem dX7_sumUp_49 : decode cX7_sumUp 49 = .ok (.iaload, 1) := by decide +kernel
theorem dX7_sumUp_50 : decode cX7_sumUp 50 = .ok (.ior, 1) := by decide +kernel
theorem dX7_sumUp_51 : decode cX7_sumUp 51 = .ok (.putfield 75, 3) := by decide +kernel
theorem dX7_sumUp_54 : decode cX7_sumUp 54 = .ok (.iinc 1 1, 3) := by decide +kernel
theorem dX7_sumUp_57 : decode cX7_sumUp 57 = .ok (.goto (-45), 3) := by decide +kernel
theorem dX7_sumUp_60 : decode cX7_sumUp 60 = .ok (.return_, 1) := by decide +kernel
theorem dX7_fitting_0 : decode cX7_fitting 0 = .ok (.aload_n 0, 1) := by decide +kernel
theorem dX7_fitting_1 : decode cX7_fitting 1 = .ok (.getfield 18, 3) := by decide +kernel
theorem dX7_fitting_4 : decode cX7_fitting 4 = .ok (.iload_n 2, 1) := by decide +kernel
theorem dX7_fitting_5 : decode cX7_fitting 5 = .ok (.iload_n 3, 1) := by decide +kernel
theorem dX7_fitting_6 : decode cX7_fitting 6 = .ok (.invokevirtual 78, 3) := by decide +kernel
theorem dX7_fitting_9 : decode cX7_fitting 9 = .ok (.istore 5, 2) := by decide +kernel
theorem dX7_fitting_11 : decode cX7_fitting 11 = .ok (.iconst 0, 1) := by decide +kernel
theorem dX7_fitting_12 : decode cX7_fitting 12 = .ok (.istore 6, 2) := by decide +kernel
theorem dX7_fitting_14 : decode cX7_fitting 14 = .ok (.iconst 0, 1) := by decide +kernel
theorem dX7_fitting_15 : decode cX7_fitting 15 = .ok (.istore 7, 2) := by decide +kernel
theorem dX7_fitting_17 : decode cX7_fitting 17 = .ok (.iload 7, 2) := by decide +kernel
theorem dX7_fitting_19 : decode cX7_fitting 19 = .ok (.iload 4, 2) := by decide +kernel
theorem dX7_fitting_21 : decode cX7_fitting 21 = .ok (.if_icmp .ge 37, 3) := by decide +kernel
theorem dX7_fitting_24 : decode cX7_fitting 24 = .ok (.aload_n 0, 1) := by decide +kernel
theorem dX7_fitting_25 : decode cX7_fitting 25 = .ok (.getfield 18, 3) := by decide +kernel
theorem dX7_fitting_28 : decode cX7_fitting 28 = .ok (.iload_n 2, 1) := by decide +kernel
theorem dX7_fitting_29 : decode cX7_fitting 29 = .ok (.iload_n 3, 1) := by decide +kernel
theorem dX7_fitting_30 : decode cX7_fitting 30 = .ok (.iload 7, 2) := by decide +kernel
theorem dX7_fitting_32 : decode cX7_fitting 32 = .ok (.invokevirtual 82, 3) := by decide +kernel
theorem dX7_fitting_35 : decode cX7_fitting 35 = .ok (.aload_n 0, 1) := by decide +kernel
theorem dX7_fitting_36 : decode cX7_fitting 36 = .ok (.aload_n 1, 1) := by decide +kernel
theorem dX7_fitting_37 : decode cX7_fitting 37 = .ok (.invokevirtual 86, 3) := by decide +kernel
theorem dX7_fitting_40 : decode cX7_fitting 40 = .ok (.ifCond .eq 12, 3) := by decide +kernel
theorem dX7_fitting_43 : decode cX7_fitting 43 = .ok (.iload 6, 2) := by decide +kernel
theorem dX7_fitting_45 : decode cX7_fitting 45 = .ok (.iconst 1, 1) := by decide +kernel
theorem dX7_fitting_46 : decode cX7_fitting 46 = .ok (.iload 7, 2) := by decide +kernel
theorem dX7_fitting_48 : decode cX7_fitting 48 = .ok (.ishl, 1) := by decide +kernel
theorem dX7_fitting_49 : decode cX7_fitting 49 = .ok (.ior, 1) := by decide +kernel
theorem dX7_fitting_50 : decode cX7_fitting 50 = .ok (.istore 6, 2) := by decide +kernel
theorem dX7_fitting_52 : decode cX7_fitting 52 = .ok (.iinc 7 1, 3) := by decide +kernel
theorem dX7_fitting_55 : decode cX7_fitting 55 = .ok (.goto (-38), 3) := by decide +kernel
theorem dX7_fitting_58 : decode cX7_fitting 58 = .ok (.aload_n 0, 1) := by decide +kernel
theorem dX7_fitting_59 : decode cX7_fitting 59 = .ok (.getfield 18, 3) := by decide +kernel
theorem dX7_fitting_62 : decode cX7_fitting 62 = .ok (.iload_n 2, 1) := by decide +kernel
theorem dX7_fitting_63 : decode cX7_fitting 63 = .ok (.iload_n 3, 1) := by decide +kernel
theorem dX7_fitting_64 : decode cX7_fitting 64 = .ok (.iload 5, 2) := by decide +kernel
theorem dX7_fitting_66 : decode cX7_fitting 66 = .ok (.invokevirtual 82, 3) := by decide +kernel
theorem dX7_fitting_69 : decode cX7_fitting 69 = .ok (.iload 6, 2) := by decide +kernel
theorem dX7_fitting_71 : decode cX7_fitting 71 = .ok (.ireturn, 1) := by decide +kernel
theorem dX8_init_0 : decode cX8_init 0 = .ok (.aload_n 0, 1) := by decide +kernel
theorem dX8_init_1 : decode cX8_init 1 = .ok (.invokespecial 3, 3) := by decide +kernel
theorem dX8_init_4 : decode cX8_init 4 = .ok (.aload_n 0, 1) := by decide +kernel
theorem dX8_init_5 : decode cX8_init 5 = .ok (.sipush 160, 3) := by decide +kernel
theorem dX8_init_8 : decode cX8_init 8 = .ok (.newarray .int, 2) := by decide +kernel
theorem dX8_init_10 : decode cX8_init 10 = .ok (.putfield 9, 3) := by decide +kernel
theorem dX8_init_13 : decode cX8_init 13 = .ok (.aload_n 0, 1) := by decide +kernel
theorem dX8_init_14 : decode cX8_init 14 = .ok (.iconst 4, 1) := by decide +kernel
theorem dX8_init_15 : decode cX8_init 15 = .ok (.newarray .int, 2) := by decide +kernel
theorem dX8_init_17 : decode cX8_init 17 = .ok (.putfield 15, 3) := by decide +kernel
theorem dX8_init_20 : decode cX8_init 20 = .ok (.return_, 1) := by decide +kernel
theorem dX8_clear_0 : decode cX8_clear 0 = .ok (.aload_n 0, 1) := by decide +kernel
theorem dX8_clear_1 : decode cX8_clear 1 = .ok (.iconst 0, 1) := by decide +kernel
theorem dX8_clear_2 : decode cX8_clear 2 = .ok (.putfield 18, 3) := by decide +kernel
theorem dX8_clear_5 : decode cX8_clear 5 = .ok (.aload_n 0, 1) := by decide +kernel
theorem dX8_clear_6 : decode cX8_clear 6 = .ok (.iconst 0, 1) := by decide +kernel
theorem dX8_clear_7 : decode cX8_clear 7 = .ok (.putfield 22, 3) := by decide +kernel
theorem dX8_clear_10 : decode cX8_clear 10 = .ok (.return_, 1) := by decide +kernel
theorem dX8_beginPart_0 : decode cX8_beginPart 0 = .ok (.iload_n 1, 1) := by decide +kernel
theorem dX8_beginPart_1 : decode cX8_beginPart 1 = .ok (.aload_n 0, 1) := by decide +kernel
theorem dX8_beginPart_2 : decode cX8_beginPart 2 = .ok (.getfield 15, 3) := by decide +kernel
theorem dX8_beginPart_5 : decode cX8_beginPart 5 = .ok (.arraylength, 1) := by decide +kernel
theorem dX8_beginPart_6 : decode cX8_beginPart 6 = .ok (.invokestatic 26, 3) := by decide +kernel
theorem dX8_beginPart_9 : decode cX8_beginPart 9 = .ok (.ifCond .eq 13, 3) := by decide +kernel
theorem dX8_beginPart_12 : decode cX8_beginPart 12 = .ok (.aload_n 0, 1) := by decide +kernel
theorem dX8_beginPart_13 : decode cX8_beginPart 13 = .ok (.getfield 15, 3) := by decide +kernel
theorem dX8_beginPart_16 : decode cX8_beginPart 16 = .ok (.iload_n 1, 1) := by decide +kernel
theorem dX8_beginPart_17 : decode cX8_beginPart 17 = .ok (.aload_n 0, 1) := by decide +kernel
theorem dX8_beginPart_18 : decode cX8_beginPart 18 = .ok (.getfield 18, 3) := by decide +kernel
theorem dX8_beginPart_21 : decode cX8_beginPart 21 = .ok (.iastore, 1) := by decide +kernel
theorem dX8_beginPart_22 : decode cX8_beginPart 22 = .ok (.return_, 1) := by decide +kernel
theorem dX8_add_0 : decode cX8_add 0 = .ok (.aload_n 0, 1) := by decide +kernel
theorem dX8_add_1 : decode cX8_add 1 = .ok (.getfield 18, 3) := by decide +kernel
theorem dX8_add_4 : decode cX8_add 4 = .ok (.aload_n 0, 1) := by decide +kernel
theorem dX8_add_5 : decode cX8_add 5 = .ok (.getfield 9, 3) := by decide +kernel
theorem dX8_add_8 : decode cX8_add 8 = .ok (.arraylength, 1) := by decide +kernel
theorem dX8_add_9 : decode cX8_add 9 = .ok (.if_icmp .ge 45, 3) := by decide +kernel
theorem dX8_add_12 : decode cX8_add 12 = .ok (.aload_n 0, 1) := by decide +kernel
theorem dX8_add_13 : decode cX8_add 13 = .ok (.getfield 9, 3) := by decide +kernel
theorem dX8_add_16 : decode cX8_add 16 = .ok (.aload_n 0, 1) := by decide +kernel
theorem dX8_add_17 : decode cX8_add 17 = .ok (.getfield 18, 3) := by decide +kernel
theorem dX8_add_20 : decode cX8_add 20 = .ok (.iload_n 1, 1) := by decide +kernel
theorem dX8_add_21 : decode cX8_add 21 = .ok (.iastore, 1) := by decide +kernel
theorem dX8_add_22 : decode cX8_add 22 = .ok (.aload_n 0, 1) := by decide +kernel
theorem dX8_add_23 : decode cX8_add 23 = .ok (.dup, 1) := by decide +kernel
theorem dX8_add_24 : decode cX8_add 24 = .ok (.getfield 18, 3) := by decide +kernel
theorem dX8_add_27 : decode cX8_add 27 = .ok (.iconst 1, 1) := by decide +kernel
theorem dX8_add_28 : decode cX8_add 28 = .ok (.iadd, 1) := by decide +kernel
theorem dX8_add_29 : decode cX8_add 29 = .ok (.putfield 18, 3) := by decide +kernel
theorem dX8_add_32 : decode cX8_add 32 = .ok (.aload_n 0, 1) := by decide +kernel
theorem dX8_add_33 : decode cX8_add 33 = .ok (.aload_n 0, 1) := by decide +kernel
theorem dX8_add_34 : decode cX8_add 34 = .ok (.getfield 22, 3) := by decide +kernel
theorem dX8_add_37 : decode cX8_add 37 = .ok (.ifCond .ne 9, 3) := by decide +kernel
theorem dX8_add_40 : decode cX8_add 40 = .ok (.iload_n 1, 1) := by decide +kernel
theorem dX8_add_41 : decode cX8_add 41 = .ok (.bipush (-102), 2) := by decide +kernel
theorem dX8_add_43 : decode cX8_add 43 = .ok (.if_icmp .ne 7, 3) := by decide +kernel
theorem dX8_add_46 : decode cX8_add 46 = .ok (.iconst 1, 1) := by decide +kernel
theorem dX8_add_47 : decode cX8_add 47 = .ok (.goto 4, 3) := by decide +kernel
theorem dX8_add_50 : decode cX8_add 50 = .ok (.iconst 0, 1) := by decide +kernel
theorem dX8_add_51 : decode cX8_add 51 = .ok (.putfield 22, 3) := by decide +kernel
theorem dX8_add_54 : decode cX8_add 54 = .ok (.return_, 1) := by decide +kernel
theorem dX9_init_0 : decode cX9_init 0 = .ok (.aload_n 0, 1) := by decide +kernel
theorem dX9_init_1 : decode cX9_init 1 = .ok (.invokespecial 3, 3) := by decide +kernel
theorem dX9_init_4 : decode cX9_init 4 = .ok (.aload_n 0, 1) := by decide +kernel
theorem dX9_init_5 : decode cX9_init 5 = .ok (.bipush 8, 2) := by decide +kernel
theorem dX9_init_7 : decode cX9_init 7 = .ok (.newarray .int, 2) := by decide +kernel
theorem dX9_init_9 : decode cX9_init 9 = .ok (.putfield 9, 3) := by decide +kernel
theorem dX9_init_12 : decode cX9_init 12 = .ok (.aload_n 0, 1) := by decide +kernel
theorem dX9_init_13 : decode cX9_init 13 = .ok (.aload_n 1, 1) := by decide +kernel
theorem dX9_init_14 : decode cX9_init 14 = .ok (.putfield 15, 3) := by decide +kernel
theorem dX9_init_17 : decode cX9_init 17 = .ok (.aload_n 0, 1) := by decide +kernel
theorem dX9_init_18 : decode cX9_init 18 = .ok (.aload_n 2, 1) := by decide +kernel
theorem dX9_init_19 : decode cX9_init 19 = .ok (.putfield 19, 3) := by decide +kernel
theorem dX9_init_22 : decode cX9_init 22 = .ok (.return_, 1) := by decide +kernel
theorem dX9_layMoves_0 : decode cX9_layMoves 0 = .ok (.iconst 0, 1) := by decide +kernel
theorem dX9_layMoves_1 : decode cX9_layMoves 1 = .ok (.istore_n 2, 1) := by decide +kernel
theorem dX9_layMoves_2 : decode cX9_layMoves 2 = .ok (.iload_n 2, 1) := by decide +kernel
theorem dX9_layMoves_3 : decode cX9_layMoves 3 = .ok (.bipush 8, 2) := by decide +kernel
theorem dX9_layMoves_5 : decode cX9_layMoves 5 = .ok (.if_icmp .ge 21, 3) := by decide +kernel
theorem dX9_layMoves_8 : decode cX9_layMoves 8 = .ok (.aload_n 0, 1) := by decide +kernel
theorem dX9_layMoves_9 : decode cX9_layMoves 9 = .ok (.getfield 9, 3) := by decide +kernel
theorem dX9_layMoves_12 : decode cX9_layMoves 12 = .ok (.iload_n 2, 1) := by decide +kernel
theorem dX9_layMoves_13 : decode cX9_layMoves 13 = .ok (.aload_n 0, 1) := by decide +kernel
theorem dX9_layMoves_14 : decode cX9_layMoves 14 = .ok (.iload_n 2, 1) := by decide +kernel
theorem dX9_layMoves_15 : decode cX9_layMoves 15 = .ok (.iload_n 1, 1) := by decide +kernel
theorem dX9_layMoves_16 : decode cX9_layMoves 16 = .ok (.invokevirtual 23, 3) := by decide +kernel
theorem dX9_layMoves_19 : decode cX9_layMoves 19 = .ok (.iastore, 1) := by decide +kernel
theorem dX9_layMoves_20 : decode cX9_layMoves 20 = .ok (.iinc 2 1, 3) := by decide +kernel
theorem dX9_layMoves_23 : decode cX9_layMoves 23 = .ok (.goto (-21), 3) := by decide +kernel
theorem dX9_layMoves_26 : decode cX9_layMoves 26 = .ok (.return_, 1) := by decide +kernel
theorem dX9_layMovesOf_0 : decode cX9_layMovesOf 0 = .ok (.iload_n 1, 1) := by decide +kernel
theorem dX9_layMovesOf_1 : decode cX9_layMovesOf 1 = .ok (.ifCond .eq 20, 3) := by decide +kernel
theorem dX9_layMovesOf_4 : decode cX9_layMovesOf 4 = .ok (.aload_n 0, 1) := by decide +kernel
theorem dX9_layMovesOf_5 : decode cX9_layMovesOf 5 = .ok (.getfield 19, 3) := by decide +kernel
theorem dX9_layMovesOf_8 : decode cX9_layMovesOf 8 = .ok (.aload_n 0, 1) := by decide +kernel
theorem dX9_layMovesOf_9 : decode cX9_layMovesOf 9 = .ok (.getfield 15, 3) := by decide +kernel
theorem dX9_layMovesOf_12 : decode cX9_layMovesOf 12 = .ok (.getfield 27, 3) := by decide +kernel
theorem dX9_layMovesOf_15 : decode cX9_layMovesOf 15 = .ok (.invokevirtual 33, 3) := by decide +kernel
theorem dX9_layMovesOf_18 : decode cX9_layMovesOf 18 = .ok (.ifCond .eq 16, 3) := by decide +kernel
theorem dX9_layMovesOf_21 : decode cX9_layMovesOf 21 = .ok (.aload_n 0, 1) := by decide +kernel
theorem dX9_layMovesOf_22 : decode cX9_layMovesOf 22 = .ok (.aload_n 0, 1) := by decide +kernel
theorem dX9_layMovesOf_23 : decode cX9_layMovesOf 23 = .ok (.getfield 15, 3) := by decide +kernel
theorem dX9_layMovesOf_26 : decode cX9_layMovesOf 26 = .ok (.getfield 39, 3) := by decide +kernel
theorem dX9_layMovesOf_29 : decode cX9_layMovesOf 29 = .ok (.iload_n 1, 1) := by decide +kernel
theorem dX9_layMovesOf_30 : decode cX9_layMovesOf 30 = .ok (.iadd, 1) := by decide +kernel
theorem dX9_layMovesOf_31 : decode cX9_layMovesOf 31 = .ok (.invokevirtual 42, 3) := by decide +kernel
theorem dX9_layMovesOf_34 : decode cX9_layMovesOf 34 = .ok (.return_, 1) := by decide +kernel
theorem dX9_nextFrom_0 : decode cX9_nextFrom 0 = .ok (.aload_n 0, 1) := by decide +kernel
theorem dX9_nextFrom_1 : decode cX9_nextFrom 1 = .ok (.iload_n 1, 1) := by decide +kernel
theorem dX9_nextFrom_2 : decode cX9_nextFrom 2 = .ok (.iload_n 2, 1) := by decide +kernel
theorem dX9_nextFrom_3 : decode cX9_nextFrom 3 = .ok (.iconst 0, 1) := by decide +kernel
theorem dX9_nextFrom_4 : decode cX9_nextFrom 4 = .ok (.invokevirtual 46, 3) := by decide +kernel
theorem dX9_nextFrom_7 : decode cX9_nextFrom 7 = .ok (.iconst 0, 1) := by decide +kernel
theorem dX9_nextFrom_8 : decode cX9_nextFrom 8 = .ok (.istore_n 3, 1) := by decide +kernel
theorem dX9_nextFrom_9 : decode cX9_nextFrom 9 = .ok (.iconst 0, 1) := by decide +kernel
theorem dX9_nextFrom_10 : decode cX9_nextFrom 10 = .ok (.istore 4, 2) := by decide +kernel
theorem dX9_nextFrom_12 : decode cX9_nextFrom 12 = .ok (.iload 4, 2) := by decide +kernel
theorem dX9_nextFrom_14 : decode cX9_nextFrom 14 = .ok (.bipush 8, 2) := by decide +kernel
theorem dX9_nextFrom_16 : decode cX9_nextFrom 16 = .ok (.if_icmp .ge 62, 3) := by decide +kernel
theorem dX9_nextFrom_19 : decode cX9_nextFrom 19 = .ok (.aload_n 0, 1) := by decide +kernel
theorem dX9_nextFrom_20 : decode cX9_nextFrom 20 = .ok (.getfield 15, 3) := by decide +kernel
theorem dX9_nextFrom_23 : decode cX9_nextFrom 23 = .ok (.getfield 50, 3) := by decide +kernel
theorem dX9_nextFrom_26 : decode cX9_nextFrom 26 = .ok (.iload_n 1, 1) := by decide +kernel
theorem dX9_nextFrom_27 : decode cX9_nextFrom 27 = .ok (.iaload, 1) := by decide +kernel
theorem dX9_nextFrom_28 : decode cX9_nextFrom 28 = .ok (.iload 4, 2) := by decide +kernel
theorem dX9_nextFrom_30 : decode cX9_nextFrom 30 = .ok (.ishr, 1) := by decide +kernel
theorem dX9_nextFrom_31 : decode cX9_nextFrom 31 = .ok (.iconst 1, 1) := by decide +kernel
theorem dX9_nextFrom_32 : decode cX9_nextFrom 32 = .ok (.iand, 1) := by decide +kernel
theorem dX9_nextFrom_33 : decode cX9_nextFrom 33 = .ok (.ifCond .eq 39, 3) := by decide +kernel
theorem dX9_nextFrom_36 : decode cX9_nextFrom 36 = .ok (.aload_n 0, 1) := by decide +kernel
theorem dX9_nextFrom_37 : decode cX9_nextFrom 37 = .ok (.getfield 19, 3) := by decide +kernel
theorem dX9_nextFrom_40 : decode cX9_nextFrom 40 = .ok (.getfield 53, 3) := by decide +kernel
theorem dX9_nextFrom_43 : decode cX9_nextFrom 43 = .ok (.iconst 1, 1) := by decide +kernel
theorem dX9_nextFrom_44 : decode cX9_nextFrom 44 = .ok (.iload 4, 2) := by decide +kernel
theorem dX9_nextFrom_46 : decode cX9_nextFrom 46 = .ok (.iastore, 1) := by decide +kernel
theorem dX9_nextFrom_47 : decode cX9_nextFrom 47 = .ok (.aload_n 0, 1) := by decide +kernel
theorem dX9_nextFrom_48 : decode cX9_nextFrom 48 = .ok (.getfield 19, 3) := by decide +kernel
theorem dX9_nextFrom_51 : decode cX9_nextFrom 51 = .ok (.aload_n 0, 1) := by decide +kernel
theorem dX9_nextFrom_52 : decode cX9_nextFrom 52 = .ok (.getfield 15, 3) := by decide +kernel
theorem dX9_nextFrom_55 : decode cX9_nextFrom 55 = .ok (.getfield 27, 3) := by decide +kernel
theorem dX9_nextFrom_58 : decode cX9_nextFrom 58 = .ok (.iconst 0, 1) := by decide +kernel
theorem dX9_nextFrom_59 : decode cX9_nextFrom 59 = .ok (.invokevirtual 56, 3) := by decide +kernel
theorem dX9_nextFrom_62 : decode cX9_nextFrom 62 = .ok (.ifCond .eq 10, 3) := by decide +kernel
theorem dX9_nextFrom_65 : decode cX9_nextFrom 65 = .ok (.iload_n 3, 1) := by decide +kernel
theorem dX9_nextFrom_66 : decode cX9_nextFrom 66 = .ok (.iconst 1, 1) := by decide +kernel
theorem dX9_nextFrom_67 : decode cX9_nextFrom 67 = .ok (.iload 4, 2) := by decide +kernel
theorem dX9_nextFrom_69 : decode cX9_nextFrom 69 = .ok (.ishl, 1) := by decide +kernel
theorem dX9_nextFrom_70 : decode cX9_nextFrom 70 = .ok (.ior, 1) := by decide +kernel
theorem dX9_nextFrom_71 : decode cX9_nextFrom 71 = .ok (.istore_n 3, 1) := by decide +kernel
theorem dX9_nextFrom_72 : decode cX9_nextFrom 72 = .ok (.iinc 4 1, 3) := by decide +kernel
theorem dX9_nextFrom_75 : decode cX9_nextFrom 75 = .ok (.goto (-63), 3) := by decide +kernel
theorem dX9_nextFrom_78 : decode cX9_nextFrom 78 = .ok (.aload_n 0, 1) := by decide +kernel
theorem dX9_nextFrom_79 : decode cX9_nextFrom 79 = .ok (.getfield 19, 3) := by decide +kernel
theorem dX9_nextFrom_82 : decode cX9_nextFrom 82 = .ok (.getfield 53, 3) := by decide +kernel
theorem dX9_nextFrom_85 : decode cX9_nextFrom 85 = .ok (.iconst 1, 1) := by decide +kernel
theorem dX9_nextFrom_86 : decode cX9_nextFrom 86 = .ok (.iconst 0, 1) := by decide +kernel
theorem dX9_nextFrom_87 : decode cX9_nextFrom 87 = .ok (.iastore, 1) := by decide +kernel
theorem dX9_nextFrom_88 : decode cX9_nextFrom 88 = .ok (.aload_n 0, 1) := by decide +kernel
theorem dX9_nextFrom_89 : decode cX9_nextFrom 89 = .ok (.getfield 19, 3) := by decide +kernel
theorem dX9_nextFrom_92 : decode cX9_nextFrom 92 = .ok (.aload_n 0, 1) := by decide +kernel
theorem dX9_nextFrom_93 : decode cX9_nextFrom 93 = .ok (.getfield 15, 3) := by decide +kernel
theorem dX9_nextFrom_96 : decode cX9_nextFrom 96 = .ok (.getfield 27, 3) := by decide +kernel
theorem dX9_nextFrom_99 : decode cX9_nextFrom 99 = .ok (.iconst 1, 1) := by decide +kernel
theorem dX9_nextFrom_100 : decode cX9_nextFrom 100 = .ok (.invokevirtual 56, 3) := by decide +kernel
theorem dX9_nextFrom_103 : decode cX9_nextFrom 103 = .ok (.ifCond .ne 7, 3) := by decide +kernel
theorem dX9_nextFrom_106 : decode cX9_nextFrom 106 = .ok (.iload_n 3, 1) := by decide +kernel
theorem dX9_nextFrom_107 : decode cX9_nextFrom 107 = .ok (.ifCond .ne 9, 3) := by decide +kernel
theorem dX9_nextFrom_110 : decode cX9_nextFrom 110 = .ok (.iload_n 3, 1) := by decide +kernel
theorem dX9_nextFrom_111 : decode cX9_nextFrom 111 = .ok (.iconst 1, 1) := by decide +kernel
theorem dX9_nextFrom_112 : decode cX9_nextFrom 112 = .ok (.iload_n 1, 1) := by decide +kernel
theorem dX9_nextFrom_113 : decode cX9_nextFrom 113 = .ok (.ishl, 1) := by decide +kernel
theorem dX9_nextFrom_114 : decode cX9_nextFrom 114 = .ok (.ior, 1) := by decide +kernel
theorem dX9_nextFrom_115 : decode cX9_nextFrom 115 = .ok (.istore_n 3, 1) := by decide +kernel
theorem dX9_nextFrom_116 : decode cX9_nextFrom 116 = .ok (.iload_n 3, 1) := by decide +kernel
theorem dX9_nextFrom_117 : decode cX9_nextFrom 117 = .ok (.ireturn, 1) := by decide +kernel
theorem dX9_askOf_0 : decode cX9_askOf 0 = .ok (.aload_n 0, 1) := by decide +kernel
theorem dX9_askOf_1 : decode cX9_askOf 1 = .ok (.getfield 19, 3) := by decide +kernel
theorem dX9_askOf_4 : decode cX9_askOf 4 = .ok (.getfield 53, 3) := by decide +kernel
theorem dX9_askOf_7 : decode cX9_askOf 7 = .ok (.iconst 0, 1) := by decide +kernel
theorem dX9_askOf_8 : decode cX9_askOf 8 = .ok (.iload_n 1, 1) := by decide +kernel
theorem dX9_askOf_9 : decode cX9_askOf 9 = .ok (.iastore, 1) := by decide +kernel
theorem dX9_askOf_10 : decode cX9_askOf 10 = .ok (.aload_n 0, 1) := by decide +kernel
theorem dX9_askOf_11 : decode cX9_askOf 11 = .ok (.getfield 19, 3) := by decide +kernel
theorem dX9_askOf_14 : decode cX9_askOf 14 = .ok (.getfield 53, 3) := by decide +kernel
theorem dX9_askOf_17 : decode cX9_askOf 17 = .ok (.iconst 1, 1) := by decide +kernel
theorem dX9_askOf_18 : decode cX9_askOf 18 = .ok (.iconst 0, 1) := by decide +kernel
theorem dX9_askOf_19 : decode cX9_askOf 19 = .ok (.iastore, 1) := by decide +kernel
theorem dX9_askOf_20 : decode cX9_askOf 20 = .ok (.aload_n 0, 1) := by decide +kernel
theorem dX9_askOf_21 : decode cX9_askOf 21 = .ok (.getfield 19, 3) := by decide +kernel
theorem dX9_askOf_24 : decode cX9_askOf 24 = .ok (.getfield 53, 3) := by decide +kernel
theorem dX9_askOf_27 : decode cX9_askOf 27 = .ok (.iconst 2, 1) := by decide +kernel
theorem dX9_askOf_28 : decode cX9_askOf 28 = .ok (.iload_n 2, 1) := by decide +kernel
theorem dX9_askOf_29 : decode cX9_askOf 29 = .ok (.iastore, 1) := by decide +kernel
theorem dX9_askOf_30 : decode cX9_askOf 30 = .ok (.aload_n 0, 1) := by decide +kernel
theorem dX9_askOf_31 : decode cX9_askOf 31 = .ok (.getfield 19, 3) := by decide +kernel
theorem dX9_askOf_34 : decode cX9_askOf 34 = .ok (.getfield 53, 3) := by decide +kernel
theorem dX9_askOf_37 : decode cX9_askOf 37 = .ok (.iconst 3, 1) := by decide +kernel
theorem dX9_askOf_38 : decode cX9_askOf 38 = .ok (.iload_n 3, 1) := by decide +kernel
theorem dX9_askOf_39 : decode cX9_askOf 39 = .ok (.iastore, 1) := by decide +kernel
theorem dX9_askOf_40 : decode cX9_askOf 40 = .ok (.aload_n 0, 1) := by decide +kernel
theorem dX9_askOf_41 : decode cX9_askOf 41 = .ok (.getfield 19, 3) := by decide +kernel
theorem dX9_askOf_44 : decode cX9_askOf 44 = .ok (.getfield 53, 3) := by decide +kernel
theorem dX9_askOf_47 : decode cX9_askOf 47 = .ok (.iconst 4, 1) := by decide +kernel
theorem dX9_askOf_48 : decode cX9_askOf 48 = .ok (.aload_n 0, 1) := by decide +kernel
theorem dX9_askOf_49 : decode cX9_askOf 49 = .ok (.getfield 15, 3) := by decide +kernel
theorem dX9_askOf_52 : decode cX9_askOf 52 = .ok (.getfield 50, 3) := by decide +kernel
theorem dX9_askOf_55 : decode cX9_askOf 55 = .ok (.iload_n 1, 1) := by decide +kernel
theorem dX9_askOf_56 : decode cX9_askOf 56 = .ok (.iaload, 1) := by decide +kernel
theorem dX9_askOf_57 : decode cX9_askOf 57 = .ok (.invokestatic 60, 3) := by decide +kernel
theorem dX9_askOf_60 : decode cX9_askOf 60 = .ok (.iastore, 1) := by decide +kernel
theorem dX9_askOf_61 : decode cX9_askOf 61 = .ok (.aload_n 0, 1) := by decide +kernel
theorem dX9_askOf_62 : decode cX9_askOf 62 = .ok (.getfield 19, 3) := by decide +kernel
theorem dX9_askOf_65 : decode cX9_askOf 65 = .ok (.getfield 53, 3) := by decide +kernel
theorem dX9_askOf_68 : decode cX9_askOf 68 = .ok (.iconst 5, 1) := by decide +kernel
theorem dX9_askOf_69 : decode cX9_askOf 69 = .ok (.aload_n 0, 1) := by decide +kernel
theorem dX9_askOf_70 : decode cX9_askOf 70 = .ok (.getfield 15, 3) := by decide +kernel
theorem dX9_askOf_73 : decode cX9_askOf 73 = .ok (.getfield 66, 3) := by decide +kernel
theorem dX9_askOf_76 : decode cX9_askOf 76 = .ok (.iastore, 1) := by decide +kernel
theorem dX9_askOf_77 : decode cX9_askOf 77 = .ok (.return_, 1) := by decide +kernel
theorem dX9_spreadOf_0 : decode cX9_spreadOf 0 = .ok (.iconst 0, 1) := by decide +kernel
theorem dX9_spreadOf_1 : decode cX9_spreadOf 1 = .ok (.istore_n 2, 1) := by decide +kernel
theorem dX9_spreadOf_2 : decode cX9_spreadOf 2 = .ok (.iconst 0, 1) := by decide +kernel
theorem dX9_spreadOf_3 : decode cX9_spreadOf 3 = .ok (.istore_n 3, 1) := by decide +kernel
theorem dX9_spreadOf_4 : decode cX9_spreadOf 4 = .ok (.iload_n 3, 1) := by decide +kernel
theorem dX9_spreadOf_5 : decode cX9_spreadOf 5 = .ok (.bipush 8, 2) := by decide +kernel
theorem dX9_spreadOf_7 : decode cX9_spreadOf 7 = .ok (.if_icmp .ge 26, 3) := by decide +kernel
theorem dX9_spreadOf_10 : decode cX9_spreadOf 10 = .ok (.iload_n 1, 1) := by decide +kernel
theorem dX9_spreadOf_11 : decode cX9_spreadOf 11 = .ok (.iload_n 3, 1) := by decide +kernel
theorem dX9_spreadOf_12 : decode cX9_spreadOf 12 = .ok (.ishr, 1) := by decide +kernel
theorem dX9_spreadOf_13 : decode cX9_spreadOf 13 = .ok (.iconst 1, 1) := by decide +kernel
theorem dX9_spreadOf_14 : decode cX9_spreadOf 14 = .ok (.iand, 1) := by decide +kernel
theorem dX9_spreadOf_15 : decode cX9_spreadOf 15 = .ok (.ifCond .eq 12, 3) := by decide +kernel
theorem dX9_spreadOf_18 : decode cX9_spreadOf 18 = .ok (.iload_n 2, 1) := by decide +kernel
theorem dX9_spreadOf_19 : decode cX9_spreadOf 19 = .ok (.aload_n 0, 1) := by decide +kernel
theorem dX9_spreadOf_20 : decode cX9_spreadOf 20 = .ok (.getfield 9, 3) := by decide +kernel
theorem dX9_spreadOf_23 : decode cX9_spreadOf 23 = .ok (.iload_n 3, 1) := by decide +kernel
theorem dX9_spreadOf_24 : decode cX9_spreadOf 24 = .ok (.iaload, 1) := by decide +kernel
theorem dX9_spreadOf_25 : decode cX9_spreadOf 25 = .ok (.ior, 1) := by decide +kernel
theorem dX9_spreadOf_26 : decode cX9_spreadOf 26 = .ok (.istore_n 2, 1) := by decide +kernel
theorem dX9_spreadOf_27 : decode cX9_spreadOf 27 = .ok (.iinc 3 1, 3) := by decide +kernel
theorem dX9_spreadOf_30 : decode cX9_spreadOf 30 = .ok (.goto (-26), 3) := by decide +kernel
theorem dX9_spreadOf_33 : decode cX9_spreadOf 33 = .ok (.iload_n 2, 1) := by decide +kernel
theorem dX9_spreadOf_34 : decode cX9_spreadOf 34 = .ok (.ireturn, 1) := by decide +kernel
theorem dX9_wouldSee_0 : decode cX9_wouldSee 0 = .ok (.aload_n 0, 1) := by decide +kernel
theorem dX9_wouldSee_1 : decode cX9_wouldSee 1 = .ok (.iload_n 2, 1) := by decide +kernel
theorem dX9_wouldSee_2 : decode cX9_wouldSee 2 = .ok (.iload_n 3, 1) := by decide +kernel
theorem dX9_wouldSee_3 : decode cX9_wouldSee 3 = .ok (.aload_n 1, 1) := by decide +kernel
theorem dX9_wouldSee_4 : decode cX9_wouldSee 4 = .ok (.getfield 69, 3) := by decide +kernel
theorem dX9_wouldSee_7 : decode cX9_wouldSee 7 = .ok (.invokevirtual 46, 3) := by decide +kernel
theorem dX9_wouldSee_10 : decode cX9_wouldSee 10 = .ok (.aload_n 0, 1) := by decide +kernel
theorem dX9_wouldSee_11 : decode cX9_wouldSee 11 = .ok (.getfield 19, 3) := by decide +kernel
theorem dX9_wouldSee_14 : decode cX9_wouldSee 14 = .ok (.aload_n 0, 1) := by decide +kernel
theorem dX9_wouldSee_15 : decode cX9_wouldSee 15 = .ok (.getfield 15, 3) := by decide +kernel
theorem dX9_wouldSee_18 : decode cX9_wouldSee 18 = .ok (.getfield 27, 3) := by decide +kernel
theorem dX9_wouldSee_21 : decode cX9_wouldSee 21 = .ok (.iconst 2, 1) := by decide +kernel
theorem dX9_wouldSee_22 : decode cX9_wouldSee 22 = .ok (.invokevirtual 56, 3) := by decide +kernel
theorem dX9_wouldSee_25 : decode cX9_wouldSee 25 = .ok (.istore 4, 2) := by decide +kernel
theorem dX9_wouldSee_27 : decode cX9_wouldSee 27 = .ok (.aload_n 1, 1) := by decide +kernel
theorem dX9_wouldSee_28 : decode cX9_wouldSee 28 = .ok (.getfield 74, 3) := by decide +kernel
theorem dX9_wouldSee_31 : decode cX9_wouldSee 31 = .ok (.tableswitch 118 0 4 #[33, 36, 58, 75, 95], 33) := by decide +kernel
theorem dX9_wouldSee_64 : decode cX9_wouldSee 64 = .ok (.iload 4, 2) := by decide +kernel
theorem dX9_wouldSee_66 : decode cX9_wouldSee 66 = .ok (.ireturn, 1) := by decide +kernel
theorem dX9_wouldSee_67 : decode cX9_wouldSee 67 = .ok (.iload 4, 2) := by decide +kernel
theorem dX9_wouldSee_69 : decode cX9_wouldSee 69 = .ok (.ifCond .ne 14, 3) := by decide +kernel
theorem dX9_wouldSee_72 : decode cX9_wouldSee 72 = .ok (.iload_n 2, 1) := by decide +kernel
theorem dX9_wouldSee_73 : decode cX9_wouldSee 73 = .ok (.aload_n 1, 1) := by decide +kernel
theorem dX9_wouldSee_74 : decode cX9_wouldSee 74 = .ok (.getfield 69, 3) := by decide +kernel
theorem dX9_wouldSee_77 : decode cX9_wouldSee 77 = .ok (.bipush 8, 2) := by decide +kernel
theorem dX9_wouldSee_79 : decode cX9_wouldSee 79 = .ok (.irem, 1) := by decide +kernel
theorem dX9_wouldSee_80 : decode cX9_wouldSee 80 = .ok (.if_icmp .ne 7, 3) := by decide +kernel
theorem dX9_wouldSee_83 : decode cX9_wouldSee 83 = .ok (.iconst 1, 1) := by decide +kernel
theorem dX9_wouldSee_84 : decode cX9_wouldSee 84 = .ok (.goto 4, 3) := by decide +kernel
theorem dX9_wouldSee_87 : decode cX9_wouldSee 87 = .ok (.iconst 0, 1) := by decide +kernel
theorem dX9_wouldSee_88 : decode cX9_wouldSee 88 = .ok (.ireturn, 1) := by decide +kernel
theorem dX9_wouldSee_89 : decode cX9_wouldSee 89 = .ok (.iload 4, 2) := by decide +kernel
theorem dX9_wouldSee_91 : decode cX9_wouldSee 91 = .ok (.ifCond .eq 13, 3) := by decide +kernel
theorem dX9_wouldSee_94 : decode cX9_wouldSee 94 = .ok (.iload_n 2, 1) := by decide +kernel
theorem dX9_wouldSee_95 : decode cX9_wouldSee 95 = .ok (.iconst 2, 1) := by decide +kernel
theorem dX9_wouldSee_96 : decode cX9_wouldSee 96 = .ok (.irem, 1) := by decide +kernel
theorem dX9_wouldSee_97 : decode cX9_wouldSee 97 = .ok (.ifCond .ne 7, 3) := by decide +kernel
theorem dX9_wouldSee_100 : decode cX9_wouldSee 100 = .ok (.iconst 1, 1) := by decide +kernel
theorem dX9_wouldSee_101 : decode cX9_wouldSee 101 = .ok (.goto 4, 3) := by decide +kernel
theorem dX9_wouldSee_104 : decode cX9_wouldSee 104 = .ok (.iconst 0, 1) := by decide +kernel
theorem dX9_wouldSee_105 : decode cX9_wouldSee 105 = .ok (.ireturn, 1) := by decide +kernel
theorem dX9_wouldSee_106 : decode cX9_wouldSee 106 = .ok (.aload_n 0, 1) := by decide +kernel
theorem dX9_wouldSee_107 : decode cX9_wouldSee 107 = .ok (.getfield 15, 3) := by decide +kernel
theorem dX9_wouldSee_110 : decode cX9_wouldSee 110 = .ok (.getfield 66, 3) := by decide +kernel
theorem dX9_wouldSee_113 : decode cX9_wouldSee 113 = .ok (.aload_n 1, 1) := by decide +kernel
theorem dX9_wouldSee_114 : decode cX9_wouldSee 114 = .ok (.getfield 69, 3) := by decide +kernel
theorem dX9_wouldSee_117 : decode cX9_wouldSee 117 = .ok (.if_icmp .eq 7, 3) := by decide +kernel
theorem dX9_wouldSee_120 : decode cX9_wouldSee 120 = .ok (.iconst 1, 1) := by decide +kernel
theorem dX9_wouldSee_121 : decode cX9_wouldSee 121 = .ok (.goto 4, 3) := by decide +kernel
theorem dX9_wouldSee_124 : decode cX9_wouldSee 124 = .ok (.iconst 0, 1) := by decide +kernel
theorem dX9_wouldSee_125 : decode cX9_wouldSee 125 = .ok (.ireturn, 1) := by decide +kernel
theorem dX9_wouldSee_126 : decode cX9_wouldSee 126 = .ok (.iload 4, 2) := by decide +kernel
theorem dX9_wouldSee_128 : decode cX9_wouldSee 128 = .ok (.ifCond .eq 9, 3) := by decide +kernel
theorem dX9_wouldSee_131 : decode cX9_wouldSee 131 = .ok (.iload_n 2, 1) := by decide +kernel
theorem dX9_wouldSee_132 : decode cX9_wouldSee 132 = .ok (.iconst 2, 1) := by decide +kernel
theorem dX9_wouldSee_133 : decode cX9_wouldSee 133 = .ok (.irem, 1) := by decide +kernel
theorem dX9_wouldSee_134 : decode cX9_wouldSee 134 = .ok (.ifCond .eq 9, 3) := by decide +kernel
theorem dX9_wouldSee_137 : decode cX9_wouldSee 137 = .ok (.iload_n 3, 1) := by decide +kernel
theorem dX9_wouldSee_138 : decode cX9_wouldSee 138 = .ok (.iconst 4, 1) := by decide +kernel
theorem dX9_wouldSee_139 : decode cX9_wouldSee 139 = .ok (.irem, 1) := by decide +kernel
theorem dX9_wouldSee_140 : decode cX9_wouldSee 140 = .ok (.ifCond .ne 7, 3) := by decide +kernel
theorem dX9_wouldSee_143 : decode cX9_wouldSee 143 = .ok (.iconst 1, 1) := by decide +kernel
theorem dX9_wouldSee_144 : decode cX9_wouldSee 144 = .ok (.goto 4, 3) := by decide +kernel
theorem dX9_wouldSee_147 : decode cX9_wouldSee 147 = .ok (.iconst 0, 1) := by decide +kernel
theorem dX9_wouldSee_148 : decode cX9_wouldSee 148 = .ok (.ireturn, 1) := by decide +kernel
theorem dX9_wouldSee_149 : decode cX9_wouldSee 149 = .ok (.iconst 0, 1) := by decide +kernel
theorem dX9_wouldSee_150 : decode cX9_wouldSee 150 = .ok (.ireturn, 1) := by decide +kernel
theorem dX9_eyesOf_0 : decode cX9_eyesOf 0 = .ok (.iconst 0, 1) := by decide +kernel
theorem dX9_eyesOf_1 : decode cX9_eyesOf 1 = .ok (.istore_n 2, 1) := by decide +kernel
theorem dX9_eyesOf_2 : decode cX9_eyesOf 2 = .ok (.iconst 0, 1) := by decide +kernel
theorem dX9_eyesOf_3 : decode cX9_eyesOf 3 = .ok (.istore_n 3, 1) := by decide +kernel
theorem dX9_eyesOf_4 : decode cX9_eyesOf 4 = .ok (.iload_n 3, 1) := by decide +kernel
theorem dX9_eyesOf_5 : decode cX9_eyesOf 5 = .ok (.bipush 8, 2) := by decide +kernel
theorem dX9_eyesOf_7 : decode cX9_eyesOf 7 = .ok (.if_icmp .ge 31, 3) := by decide +kernel
theorem dX9_eyesOf_10 : decode cX9_eyesOf 10 = .ok (.aload_n 0, 1) := by decide +kernel
theorem dX9_eyesOf_11 : decode cX9_eyesOf 11 = .ok (.aload_n 1, 1) := by decide +kernel
theorem dX9_eyesOf_12 : decode cX9_eyesOf 12 = .ok (.iload_n 3, 1) := by decide +kernel
theorem dX9_eyesOf_13 : decode cX9_eyesOf 13 = .ok (.aload_n 0, 1) := by decide +kernel
theorem dX9_eyesOf_14 : decode cX9_eyesOf 14 = .ok (.getfield 15, 3) := by decide +kernel
theorem dX9_eyesOf_17 : decode cX9_eyesOf 17 = .ok (.getfield 39, 3) := by decide +kernel
theorem dX9_eyesOf_20 : decode cX9_eyesOf 20 = .ok (.invokevirtual 77, 3) := by decide +kernel
theorem dX9_eyesOf_23 : decode cX9_eyesOf 23 = .ok (.ifCond .eq 9, 3) := by decide +kernel
theorem dX9_eyesOf_26 : decode cX9_eyesOf 26 = .ok (.iload_n 2, 1) := by decide +kernel
theorem dX9_eyesOf_27 : decode cX9_eyesOf 27 = .ok (.iconst 1, 1) := by decide +kernel
theorem dX9_eyesOf_28 : decode cX9_eyesOf 28 = .ok (.iload_n 3, 1) := by decide +kernel
theorem dX9_eyesOf_29 : decode cX9_eyesOf 29 = .ok (.ishl, 1) := by decide +kernel
theorem dX9_eyesOf_30 : decode cX9_eyesOf 30 = .ok (.ior, 1) := by decide +kernel
theorem dX9_eyesOf_31 : decode cX9_eyesOf 31 = .ok (.istore_n 2, 1) := by decide +kernel
theorem dX9_eyesOf_32 : decode cX9_eyesOf 32 = .ok (.iinc 3 1, 3) := by decide +kernel
theorem dX9_eyesOf_35 : decode cX9_eyesOf 35 = .ok (.goto (-31), 3) := by decide +kernel
theorem dX9_eyesOf_38 : decode cX9_eyesOf 38 = .ok (.iload_n 2, 1) := by decide +kernel
theorem dX9_eyesOf_39 : decode cX9_eyesOf 39 = .ok (.ireturn, 1) := by decide +kernel
theorem dX9_watched_0 : decode cX9_watched 0 = .ok (.iconst 0, 1) := by decide +kernel
theorem dX9_watched_1 : decode cX9_watched 1 = .ok (.istore_n 2, 1) := by decide +kernel
theorem dX9_watched_2 : decode cX9_watched 2 = .ok (.iconst 0, 1) := by decide +kernel
theorem dX9_watched_3 : decode cX9_watched 3 = .ok (.istore_n 3, 1) := by decide +kernel
theorem dX9_watched_4 : decode cX9_watched 4 = .ok (.iload_n 3, 1) := by decide +kernel
theorem dX9_watched_5 : decode cX9_watched 5 = .ok (.aload_n 0, 1) := by decide +kernel
theorem dX9_watched_6 : decode cX9_watched 6 = .ok (.getfield 15, 3) := by decide +kernel
theorem dX9_watched_9 : decode cX9_watched 9 = .ok (.getfield 81, 3) := by decide +kernel
theorem dX9_watched_12 : decode cX9_watched 12 = .ok (.if_icmp .ge 45, 3) := by decide +kernel
theorem dX9_watched_15 : decode cX9_watched 15 = .ok (.aload_n 0, 1) := by decide +kernel
theorem dX9_watched_16 : decode cX9_watched 16 = .ok (.getfield 15, 3) := by decide +kernel
theorem dX9_watched_19 : decode cX9_watched 19 = .ok (.getfield 84, 3) := by decide +kernel
theorem dX9_watched_22 : decode cX9_watched 22 = .ok (.iload_n 3, 1) := by decide +kernel
theorem dX9_watched_23 : decode cX9_watched 23 = .ok (.aaload, 1) := by decide +kernel
theorem dX9_watched_24 : decode cX9_watched 24 = .ok (.astore 4, 2) := by decide +kernel
theorem dX9_watched_26 : decode cX9_watched 26 = .ok (.aload_n 0, 1) := by decide +kernel
theorem dX9_watched_27 : decode cX9_watched 27 = .ok (.aload 4, 2) := by decide +kernel
theorem dX9_watched_29 : decode cX9_watched 29 = .ok (.aload 4, 2) := by decide +kernel
theorem dX9_watched_31 : decode cX9_watched 31 = .ok (.getfield 88, 3) := by decide +kernel
theorem dX9_watched_34 : decode cX9_watched 34 = .ok (.iload_n 1, 1) := by decide +kernel
theorem dX9_watched_35 : decode cX9_watched 35 = .ok (.invokevirtual 77, 3) := by decide +kernel
theorem dX9_watched_38 : decode cX9_watched 38 = .ok (.ifCond .eq 13, 3) := by decide +kernel
theorem dX9_watched_41 : decode cX9_watched 41 = .ok (.iload_n 2, 1) := by decide +kernel
theorem dX9_watched_42 : decode cX9_watched 42 = .ok (.iconst 1, 1) := by decide +kernel
theorem dX9_watched_43 : decode cX9_watched 43 = .ok (.aload 4, 2) := by decide +kernel
theorem dX9_watched_45 : decode cX9_watched 45 = .ok (.getfield 88, 3) := by decide +kernel
theorem dX9_watched_48 : decode cX9_watched 48 = .ok (.ishl, 1) := by decide +kernel
theorem dX9_watched_49 : decode cX9_watched 49 = .ok (.ior, 1) := by decide +kernel
theorem dX9_watched_50 : decode cX9_watched 50 = .ok (.istore_n 2, 1) := by decide +kernel
theorem dX9_watched_51 : decode cX9_watched 51 = .ok (.iinc 3 1, 3) := by decide +kernel
theorem dX9_watched_54 : decode cX9_watched 54 = .ok (.goto (-50), 3) := by decide +kernel
theorem dX9_watched_57 : decode cX9_watched 57 = .ok (.iload_n 2, 1) := by decide +kernel
theorem dX9_watched_58 : decode cX9_watched 58 = .ok (.ireturn, 1) := by decide +kernel
theorem dX9_firstSeer_0 : decode cX9_firstSeer 0 = .ok (.iconst 0, 1) := by decide +kernel
theorem dX9_firstSeer_1 : decode cX9_firstSeer 1 = .ok (.istore_n 3, 1) := by decide +kernel
theorem dX9_firstSeer_2 : decode cX9_firstSeer 2 = .ok (.iload_n 3, 1) := by decide +kernel
theorem dX9_firstSeer_3 : decode cX9_firstSeer 3 = .ok (.aload_n 0, 1) := by decide +kernel
theorem dX9_firstSeer_4 : decode cX9_firstSeer 4 = .ok (.getfield 15, 3) := by decide +kernel
theorem dX9_firstSeer_7 : decode cX9_firstSeer 7 = .ok (.getfield 81, 3) := by decide +kernel
theorem dX9_firstSeer_10 : decode cX9_firstSeer 10 = .ok (.if_icmp .ge 42, 3) := by decide +kernel
theorem dX9_firstSeer_13 : decode cX9_firstSeer 13 = .ok (.aload_n 0, 1) := by decide +kernel
theorem dX9_firstSeer_14 : decode cX9_firstSeer 14 = .ok (.getfield 15, 3) := by decide +kernel
theorem dX9_firstSeer_17 : decode cX9_firstSeer 17 = .ok (.getfield 84, 3) := by decide +kernel
theorem dX9_firstSeer_20 : decode cX9_firstSeer 20 = .ok (.iload_n 3, 1) := by decide +kernel
theorem dX9_firstSeer_21 : decode cX9_firstSeer 21 = .ok (.aaload, 1) := by decide +kernel
theorem dX9_firstSeer_22 : decode cX9_firstSeer 22 = .ok (.astore 4, 2) := by decide +kernel
theorem dX9_firstSeer_24 : decode cX9_firstSeer 24 = .ok (.aload 4, 2) := by decide +kernel
theorem dX9_firstSeer_26 : decode cX9_firstSeer 26 = .ok (.getfield 88, 3) := by decide +kernel
theorem dX9_firstSeer_29 : decode cX9_firstSeer 29 = .ok (.iload_n 1, 1) := by decide +kernel
theorem dX9_firstSeer_30 : decode cX9_firstSeer 30 = .ok (.if_icmp .ne 16, 3) := by decide +kernel
theorem dX9_firstSeer_33 : decode cX9_firstSeer 33 = .ok (.aload_n 0, 1) := by decide +kernel
theorem dX9_firstSeer_34 : decode cX9_firstSeer 34 = .ok (.aload 4, 2) := by decide +kernel
theorem dX9_firstSeer_36 : decode cX9_firstSeer 36 = .ok (.iload_n 1, 1) := by decide +kernel
theorem dX9_firstSeer_37 : decode cX9_firstSeer 37 = .ok (.iload_n 2, 1) := by decide +kernel
theorem dX9_firstSeer_38 : decode cX9_firstSeer 38 = .ok (.invokevirtual 77, 3) := by decide +kernel
theorem dX9_firstSeer_41 : decode cX9_firstSeer 41 = .ok (.ifCond .eq 5, 3) := by decide +kernel
theorem dX9_firstSeer_44 : decode cX9_firstSeer 44 = .ok (.iload_n 3, 1) := by decide +kernel
theorem dX9_firstSeer_45 : decode cX9_firstSeer 45 = .ok (.ireturn, 1) := by decide +kernel
theorem dX9_firstSeer_46 : decode cX9_firstSeer 46 = .ok (.iinc 3 1, 3) := by decide +kernel
theorem dX9_firstSeer_49 : decode cX9_firstSeer 49 = .ok (.goto (-47), 3) := by decide +kernel
theorem dX9_firstSeer_52 : decode cX9_firstSeer 52 = .ok (.iconst (-1), 1) := by decide +kernel
theorem dX9_firstSeer_53 : decode cX9_firstSeer 53 = .ok (.ireturn, 1) := by decide +kernel
theorem dX9_pickFrom_0 : decode cX9_pickFrom 0 = .ok (.aload_n 0, 1) := by decide +kernel
theorem dX9_pickFrom_1 : decode cX9_pickFrom 1 = .ok (.iload_n 1, 1) := by decide +kernel
theorem dX9_pickFrom_2 : decode cX9_pickFrom 2 = .ok (.iload_n 2, 1) := by decide +kernel
theorem dX9_pickFrom_3 : decode cX9_pickFrom 3 = .ok (.invokevirtual 23, 3) := by decide +kernel
theorem dX9_pickFrom_6 : decode cX9_pickFrom 6 = .ok (.istore 4, 2) := by decide +kernel
theorem dX9_pickFrom_8 : decode cX9_pickFrom 8 = .ok (.iconst 1, 1) := by decide +kernel
theorem dX9_pickFrom_9 : decode cX9_pickFrom 9 = .ok (.iload 4, 2) := by decide +kernel
theorem dX9_pickFrom_11 : decode cX9_pickFrom 11 = .ok (.invokestatic 60, 3) := by decide +kernel
theorem dX9_pickFrom_14 : decode cX9_pickFrom 14 = .ok (.invokestatic 91, 3) := by decide +kernel
theorem dX9_pickFrom_17 : decode cX9_pickFrom 17 = .ok (.istore 5, 2) := by decide +kernel
theorem dX9_pickFrom_19 : decode cX9_pickFrom 19 = .ok (.iload_n 3, 1) := by decide +kernel
theorem dX9_pickFrom_20 : decode cX9_pickFrom 20 = .ok (.bipush 9, 2) := by decide +kernel
theorem dX9_pickFrom_22 : decode cX9_pickFrom 22 = .ok (.iushr, 1) := by decide +kernel
theorem dX9_pickFrom_23 : decode cX9_pickFrom 23 = .ok (.iload 5, 2) := by decide +kernel
theorem dX9_pickFrom_25 : decode cX9_pickFrom 25 = .ok (.irem, 1) := by decide +kernel
theorem dX9_pickFrom_26 : decode cX9_pickFrom 26 = .ok (.istore 6, 2) := by decide +kernel
theorem dX9_pickFrom_28 : decode cX9_pickFrom 28 = .ok (.iconst 0, 1) := by decide +kernel
theorem dX9_pickFrom_29 : decode cX9_pickFrom 29 = .ok (.istore 7, 2) := by decide +kernel
theorem dX9_pickFrom_31 : decode cX9_pickFrom 31 = .ok (.iload 7, 2) := by decide +kernel
theorem dX9_pickFrom_33 : decode cX9_pickFrom 33 = .ok (.bipush 8, 2) := by decide +kernel
theorem dX9_pickFrom_35 : decode cX9_pickFrom 35 = .ok (.if_icmp .ge 30, 3) := by decide +kernel
theorem dX9_pickFrom_38 : decode cX9_pickFrom 38 = .ok (.iload 4, 2) := by decide +kernel
theorem dX9_pickFrom_40 : decode cX9_pickFrom 40 = .ok (.iload 7, 2) := by decide +kernel
theorem dX9_pickFrom_42 : decode cX9_pickFrom 42 = .ok (.ishr, 1) := by decide +kernel
theorem dX9_pickFrom_43 : decode cX9_pickFrom 43 = .ok (.iconst 1, 1) := by decide +kernel
theorem dX9_pickFrom_44 : decode cX9_pickFrom 44 = .ok (.iand, 1) := by decide +kernel
theorem dX9_pickFrom_45 : decode cX9_pickFrom 45 = .ok (.ifCond .eq 14, 3) := by decide +kernel
theorem dX9_pickFrom_48 : decode cX9_pickFrom 48 = .ok (.iload 6, 2) := by decide +kernel
theorem dX9_pickFrom_50 : decode cX9_pickFrom 50 = .ok (.ifCond .ne 6, 3) := by decide +kernel
theorem dX9_pickFrom_53 : decode cX9_pickFrom 53 = .ok (.iload 7, 2) := by decide +kernel
theorem dX9_pickFrom_55 : decode cX9_pickFrom 55 = .ok (.ireturn, 1) := by decide +kernel
theorem dX9_pickFrom_56 : decode cX9_pickFrom 56 = .ok (.iinc 6 (-1), 3) := by decide +kernel
theorem dX9_pickFrom_59 : decode cX9_pickFrom 59 = .ok (.iinc 7 1, 3) := by decide +kernel
theorem dX9_pickFrom_62 : decode cX9_pickFrom 62 = .ok (.goto (-31), 3) := by decide +kernel
theorem dX9_pickFrom_65 : decode cX9_pickFrom 65 = .ok (.iload_n 1, 1) := by decide +kernel
theorem dX9_pickFrom_66 : decode cX9_pickFrom 66 = .ok (.ireturn, 1) := by decide +kernel
theorem dX10_init_0 : decode cX10_init 0 = .ok (.aload_n 0, 1) := by decide +kernel
theorem dX10_init_1 : decode cX10_init 1 = .ok (.invokespecial 1, 3) := by decide +kernel
theorem dX10_init_4 : decode cX10_init 4 = .ok (.aload_n 0, 1) := by decide +kernel
theorem dX10_init_5 : decode cX10_init 5 = .ok (.new 7, 3) := by decide +kernel
theorem dX10_init_8 : decode cX10_init 8 = .ok (.dup, 1) := by decide +kernel
theorem dX10_init_9 : decode cX10_init 9 = .ok (.invokespecial 9, 3) := by decide +kernel
theorem dX10_init_12 : decode cX10_init 12 = .ok (.putfield 10, 3) := by decide +kernel
theorem dX10_init_15 : decode cX10_init 15 = .ok (.aload_n 0, 1) := by decide +kernel
theorem dX10_init_16 : decode cX10_init 16 = .ok (.new 7, 3) := by decide +kernel
theorem dX10_init_19 : decode cX10_init 19 = .ok (.dup, 1) := by decide +kernel
theorem dX10_init_20 : decode cX10_init 20 = .ok (.invokespecial 9, 3) := by decide +kernel
theorem dX10_init_23 : decode cX10_init 23 = .ok (.putfield 16, 3) := by decide +kernel
theorem dX10_init_26 : decode cX10_init 26 = .ok (.aload_n 0, 1) := by decide +kernel
theorem dX10_init_27 : decode cX10_init 27 = .ok (.new 19, 3) := by decide +kernel
theorem dX10_init_30 : decode cX10_init 30 = .ok (.dup, 1) := by decide +kernel
theorem dX10_init_31 : decode cX10_init 31 = .ok (.invokespecial 21, 3) := by decide +kernel
theorem dX10_init_34 : decode cX10_init 34 = .ok (.putfield 22, 3) := by decide +kernel
theorem dX10_init_37 : decode cX10_init 37 = .ok (.aload_n 0, 1) := by decide +kernel
theorem dX10_init_38 : decode cX10_init 38 = .ok (.new 26, 3) := by decide +kernel
theorem dX10_init_41 : decode cX10_init 41 = .ok (.dup, 1) := by decide +kernel
theorem dX10_init_42 : decode cX10_init 42 = .ok (.invokespecial 28, 3) := by decide +kernel
theorem dX10_init_45 : decode cX10_init 45 = .ok (.putfield 29, 3) := by decide +kernel
theorem dX10_init_48 : decode cX10_init 48 = .ok (.aload_n 0, 1) := by decide +kernel
theorem dX10_init_49 : decode cX10_init 49 = .ok (.new 33, 3) := by decide +kernel
theorem dX10_init_52 : decode cX10_init 52 = .ok (.dup, 1) := by decide +kernel
theorem dX10_init_53 : decode cX10_init 53 = .ok (.aload_n 0, 1) := by decide +kernel
theorem dX10_init_54 : decode cX10_init 54 = .ok (.getfield 10, 3) := by decide +kernel
theorem dX10_init_57 : decode cX10_init 57 = .ok (.aload_n 0, 1) := by decide +kernel
theorem dX10_init_58 : decode cX10_init 58 = .ok (.getfield 22, 3) := by decide +kernel
theorem dX10_init_61 : decode cX10_init 61 = .ok (.invokespecial 35, 3) := by decide +kernel
theorem dX10_init_64 : decode cX10_init 64 = .ok (.putfield 38, 3) := by decide +kernel
theorem dX10_init_67 : decode cX10_init 67 = .ok (.aload_n 0, 1) := by decide +kernel
theorem dX10_init_68 : decode cX10_init 68 = .ok (.new 42, 3) := by decide +kernel
theorem dX10_init_71 : decode cX10_init 71 = .ok (.dup, 1) := by decide +kernel
theorem dX10_init_72 : decode cX10_init 72 = .ok (.aload_n 0, 1) := by decide +kernel
theorem dX10_init_73 : decode cX10_init 73 = .ok (.getfield 10, 3) := by decide +kernel
theorem dX10_init_76 : decode cX10_init 76 = .ok (.aload_n 0, 1) := by decide +kernel
theorem dX10_init_77 : decode cX10_init 77 = .ok (.getfield 38, 3) := by decide +kernel
theorem dX10_init_80 : decode cX10_init 80 = .ok (.invokespecial 44, 3) := by decide +kernel
theorem dX10_init_83 : decode cX10_init 83 = .ok (.putfield 47, 3) := by decide +kernel
theorem dX10_init_86 : decode cX10_init 86 = .ok (.aload_n 0, 1) := by decide +kernel
theorem dX10_init_87 : decode cX10_init 87 = .ok (.new 51, 3) := by decide +kernel
theorem dX10_init_90 : decode cX10_init 90 = .ok (.dup, 1) := by decide +kernel
theorem dX10_init_91 : decode cX10_init 91 = .ok (.aload_n 0, 1) := by decide +kernel
theorem dX10_init_92 : decode cX10_init 92 = .ok (.getfield 10, 3) := by decide +kernel
theorem dX10_init_95 : decode cX10_init 95 = .ok (.aload_n 0, 1) := by decide +kernel
theorem dX10_init_96 : decode cX10_init 96 = .ok (.getfield 38, 3) := by decide +kernel
theorem dX10_init_99 : decode cX10_init 99 = .ok (.invokespecial 53, 3) := by decide +kernel
theorem dX10_init_102 : decode cX10_init 102 = .ok (.putfield 54, 3) := by decide +kernel
theorem dX10_init_105 : decode cX10_init 105 = .ok (.aload_n 0, 1) := by decide +kernel
theorem dX10_init_106 : decode cX10_init 106 = .ok (.new 58, 3) := by decide +kernel
theorem dX10_init_109 : decode cX10_init 109 = .ok (.dup, 1) := by decide +kernel
theorem dX10_init_110 : decode cX10_init 110 = .ok (.aload_n 0, 1) := by decide +kernel
theorem dX10_init_111 : decode cX10_init 111 = .ok (.getfield 10, 3) := by decide +kernel
theorem dX10_init_114 : decode cX10_init 114 = .ok (.aload_n 0, 1) := by decide +kernel
theorem dX10_init_115 : decode cX10_init 115 = .ok (.getfield 38, 3) := by decide +kernel
theorem dX10_init_118 : decode cX10_init 118 = .ok (.invokespecial 60, 3) := by decide +kernel
theorem dX10_init_121 : decode cX10_init 121 = .ok (.putfield 61, 3) := by decide +kernel
theorem dX10_init_124 : decode cX10_init 124 = .ok (.aload_n 0, 1) := by decide +kernel
theorem dX10_init_125 : decode cX10_init 125 = .ok (.iconst 4, 1) := by decide +kernel
theorem dX10_init_126 : decode cX10_init 126 = .ok (.anewarray 65, 3) := by decide +kernel
theorem dX10_init_129 : decode cX10_init 129 = .ok (.putfield 67, 3) := by decide +kernel
theorem dX10_init_132 : decode cX10_init 132 = .ok (.iconst 0, 1) := by decide +kernel
theorem dX10_init_133 : decode cX10_init 133 = .ok (.istore_n 1, 1) := by decide +kernel
theorem dX10_init_134 : decode cX10_init 134 = .ok (.iload_n 1, 1) := by decide +kernel
theorem dX10_init_135 : decode cX10_init 135 = .ok (.iconst 4, 1) := by decide +kernel
theorem dX10_init_136 : decode cX10_init 136 = .ok (.if_icmp .ge 22, 3) := by decide +kernel
theorem dX10_init_139 : decode cX10_init 139 = .ok (.aload_n 0, 1) := by decide +kernel
theorem dX10_init_140 : decode cX10_init 140 = .ok (.getfield 67, 3) := by decide +kernel
theorem dX10_init_143 : decode cX10_init 143 = .ok (.iload_n 1, 1) := by decide +kernel
theorem dX10_init_144 : decode cX10_init 144 = .ok (.new 65, 3) := by decide +kernel
theorem dX10_init_147 : decode cX10_init 147 = .ok (.dup, 1) := by decide +kernel
theorem dX10_init_148 : decode cX10_init 148 = .ok (.invokespecial 71, 3) := by decide +kernel
theorem dX10_init_151 : decode cX10_init 151 = .ok (.aastore, 1) := by decide +kernel
theorem dX10_init_152 : decode cX10_init 152 = .ok (.iinc 1 1, 3) := by decide +kernel
theorem dX10_init_155 : decode cX10_init 155 = .ok (.goto (-21), 3) := by decide +kernel
theorem dX10_init_158 : decode cX10_init 158 = .ok (.return_, 1) := by decide +kernel
theorem dX10_set_0 : decode cX10_set 0 = .ok (.iload_n 1, 1) := by decide +kernel
theorem dX10_set_1 : decode cX10_set 1 = .ok (.getstatic 72, 3) := by decide +kernel
theorem dX10_set_4 : decode cX10_set 4 = .ok (.arraylength, 1) := by decide +kernel
theorem dX10_set_5 : decode cX10_set 5 = .ok (.invokestatic 76, 3) := by decide +kernel
theorem dX10_set_8 : decode cX10_set 8 = .ok (.ifCond .eq 15, 3) := by decide +kernel
theorem dX10_set_11 : decode cX10_set 11 = .ok (.iload_n 3, 1) := by decide +kernel
theorem dX10_set_12 : decode cX10_set 12 = .ok (.getstatic 72, 3) := by decide +kernel
theorem dX10_set_15 : decode cX10_set 15 = .ok (.iload_n 1, 1) := by decide +kernel
theorem dX10_set_16 : decode cX10_set 16 = .ok (.iaload, 1) := by decide +kernel
theorem dX10_set_17 : decode cX10_set 17 = .ok (.invokestatic 76, 3) := by decide +kernel
theorem dX10_set_20 : decode cX10_set 20 = .ok (.ifCond .ne 6, 3) := by decide +kernel
theorem dX10_set_23 : decode cX10_set 23 = .ok (.bipush (-2), 2) := by decide +kernel
theorem dX10_set_25 : decode cX10_set 25 = .ok (.ireturn, 1) := by decide +kernel
theorem dX10_set_26 : decode cX10_set 26 = .ok (.iload_n 1, 1) := by decide +kernel
theorem dX10_set_27 : decode cX10_set 27 = .ok (.iconst 4, 1) := by decide +kernel
theorem dX10_set_28 : decode cX10_set 28 = .ok (.if_icmp .lt 20, 3) := by decide +kernel
theorem dX10_set_31 : decode cX10_set 31 = .ok (.iload_n 2, 1) := by decide +kernel
theorem dX10_set_32 : decode cX10_set 32 = .ok (.aload_n 0, 1) := by decide +kernel
theorem dX10_set_33 : decode cX10_set 33 = .ok (.getfield 10, 3) := by decide +kernel
theorem dX10_set_36 : decode cX10_set 36 = .ok (.getfield 80, 3) := by decide +kernel
theorem dX10_set_39 : decode cX10_set 39 = .ok (.invokestatic 76, 3) := by decide +kernel
theorem dX10_set_42 : decode cX10_set 42 = .ok (.ifCond .ne 6, 3) := by decide +kernel
theorem dX10_set_45 : decode cX10_set 45 = .ok (.bipush (-2), 2) := by decide +kernel
theorem dX10_set_47 : decode cX10_set 47 = .ok (.ireturn, 1) := by decide +kernel
theorem dX10_set_48 : decode cX10_set 48 = .ok (.aload_n 0, 1) := by decide +kernel
theorem dX10_set_49 : decode cX10_set 49 = .ok (.getfield 10, 3) := by decide +kernel
theorem dX10_set_52 : decode cX10_set 52 = .ok (.iload_n 2, 1) := by decide +kernel
theorem dX10_set_53 : decode cX10_set 53 = .ok (.iload_n 1, 1) := by decide +kernel
theorem dX10_set_54 : decode cX10_set 54 = .ok (.invokevirtual 84, 3) := by decide +kernel
theorem dX10_set_57 : decode cX10_set 57 = .ok (.istore 4, 2) := by decide +kernel
theorem dX10_set_59 : decode cX10_set 59 = .ok (.aload_n 0, 1) := by decide +kernel
theorem dX10_set_60 : decode cX10_set 60 = .ok (.getfield 10, 3) := by decide +kernel
theorem dX10_set_63 : decode cX10_set 63 = .ok (.iload_n 2, 1) := by decide +kernel
theorem dX10_set_64 : decode cX10_set 64 = .ok (.iload_n 1, 1) := by decide +kernel
theorem dX10_set_65 : decode cX10_set 65 = .ok (.iload_n 3, 1) := by decide +kernel
theorem dX10_set_66 : decode cX10_set 66 = .ok (.invokevirtual 88, 3) := by decide +kernel
theorem dX10_set_69 : decode cX10_set 69 = .ok (.iload 4, 2) := by decide +kernel
theorem dX10_set_71 : decode cX10_set 71 = .ok (.ireturn, 1) := by decide +kernel
theorem dX10_lane_0 : decode cX10_lane 0 = .ok (.iload_n 1, 1) := by decide +kernel
theorem dX10_lane_1 : decode cX10_lane 1 = .ok (.bipush 8, 2) := by decide +kernel
theorem dX10_lane_3 : decode cX10_lane 3 = .ok (.invokestatic 76, 3) := by decide +kernel
theorem dX10_lane_6 : decode cX10_lane 6 = .ok (.ifCond .eq 25, 3) := by decide +kernel
theorem dX10_lane_9 : decode cX10_lane 9 = .ok (.iload_n 2, 1) := by decide +kernel
theorem dX10_lane_10 : decode cX10_lane 10 = .ok (.bipush 8, 2) := by decide +kernel
theorem dX10_lane_12 : decode cX10_lane 12 = .ok (.invokestatic 76, 3) := by decide +kernel
theorem dX10_lane_15 : decode cX10_lane 15 = .ok (.ifCond .eq 16, 3) := by decide +kernel
theorem dX10_lane_18 : decode cX10_lane 18 = .ok (.iload_n 1, 1) := by decide +kernel
theorem dX10_lane_19 : decode cX10_lane 19 = .ok (.iload_n 2, 1) := by decide +kernel
theorem dX10_lane_20 : decode cX10_lane 20 = .ok (.if_icmp .eq 11, 3) := by decide +kernel
theorem dX10_lane_23 : decode cX10_lane 23 = .ok (.iload_n 3, 1) := by decide +kernel
theorem dX10_lane_24 : decode cX10_lane 24 = .ok (.iconst 2, 1) := by decide +kernel
theorem dX10_lane_25 : decode cX10_lane 25 = .ok (.invokestatic 76, 3) := by decide +kernel
theorem dX10_lane_28 : decode cX10_lane 28 = .ok (.ifCond .ne 6, 3) := by decide +kernel
theorem dX10_lane_31 : decode cX10_lane 31 = .ok (.bipush (-2), 2) := by decide +kernel
theorem dX10_lane_33 : decode cX10_lane 33 = .ok (.ireturn, 1) := by decide +kernel
theorem dX10_lane_34 : decode cX10_lane 34 = .ok (.aload_n 0, 1) := by decide +kernel
theorem dX10_lane_35 : decode cX10_lane 35 = .ok (.getfield 10, 3) := by decide +kernel
theorem dX10_lane_38 : decode cX10_lane 38 = .ok (.getfield 92, 3) := by decide +kernel
theorem dX10_lane_41 : decode cX10_lane 41 = .ok (.iload_n 1, 1) := by decide +kernel
theorem dX10_lane_42 : decode cX10_lane 42 = .ok (.iaload, 1) := by decide +kernel
theorem dX10_lane_43 : decode cX10_lane 43 = .ok (.iload_n 2, 1) := by decide +kernel
theorem dX10_lane_44 : decode cX10_lane 44 = .ok (.ishr, 1) := by decide +kernel
theorem dX10_lane_45 : decode cX10_lane 45 = .ok (.iconst 1, 1) := by decide +kernel
theorem dX10_lane_46 : decode cX10_lane 46 = .ok (.iand, 1) := by decide +kernel
theorem dX10_lane_47 : decode cX10_lane 47 = .ok (.istore 4, 2) := by decide +kernel
theorem dX10_lane_49 : decode cX10_lane 49 = .ok (.aload_n 0, 1) := by decide +kernel
theorem dX10_lane_50 : decode cX10_lane 50 = .ok (.getfield 10, 3) := by decide +kernel
theorem dX10_lane_53 : decode cX10_lane 53 = .ok (.iload_n 1, 1) := by decide +kernel
theorem dX10_lane_54 : decode cX10_lane 54 = .ok (.iload_n 2, 1) := by decide +kernel
theorem dX10_lane_55 : decode cX10_lane 55 = .ok (.iload_n 3, 1) := by decide +kernel
theorem dX10_lane_56 : decode cX10_lane 56 = .ok (.iconst 1, 1) := by decide +kernel
theorem dX10_lane_57 : decode cX10_lane 57 = .ok (.if_icmp .ne 7, 3) := by decide +kernel
theorem dX10_lane_60 : decode cX10_lane 60 = .ok (.iconst 1, 1) := by decide +kernel
theorem dX10_lane_61 : decode cX10_lane 61 = .ok (.goto 4, 3) := by decide +kernel
theorem dX10_lane_64 : decode cX10_lane 64 = .ok (.iconst 0, 1) := by decide +kernel
theorem dX10_lane_65 : decode cX10_lane 65 = .ok (.invokevirtual 95, 3) := by decide +kernel
theorem dX10_lane_68 : decode cX10_lane 68 = .ok (.iload 4, 2) := by decide +kernel
theorem dX10_lane_70 : decode cX10_lane 70 = .ok (.ireturn, 1) := by decide +kernel
theorem dX10_finder_0 : decode cX10_finder 0 = .ok (.aload_n 0, 1) := by decide +kernel
theorem dX10_finder_1 : decode cX10_finder 1 = .ok (.getfield 10, 3) := by decide +kernel
theorem dX10_finder_4 : decode cX10_finder 4 = .ok (.iload_n 1, 1) := by decide +kernel
theorem dX10_finder_5 : decode cX10_finder 5 = .ok (.iload_n 2, 1) := by decide +kernel
theorem dX10_finder_6 : decode cX10_finder 6 = .ok (.iload_n 3, 1) := by decide +kernel
theorem dX10_finder_7 : decode cX10_finder 7 = .ok (.invokevirtual 99, 3) := by decide +kernel
theorem dX10_finder_10 : decode cX10_finder 10 = .ok (.ireturn, 1) := by decide +kernel
theorem dX10_told_0 : decode cX10_told 0 = .ok (.iload_n 2, 1) := by decide +kernel
theorem dX10_told_1 : decode cX10_told 1 = .ok (.bipush 11, 2) := by decide +kernel
theorem dX10_told_3 : decode cX10_told 3 = .ok (.invokestatic 76, 3) := by decide +kernel
theorem dX10_told_6 : decode cX10_told 6 = .ok (.ifCond .ne 6, 3) := by decide +kernel
theorem dX10_told_9 : decode cX10_told 9 = .ok (.bipush (-2), 2) := by decide +kernel
theorem dX10_told_11 : decode cX10_told 11 = .ok (.ireturn, 1) := by decide +kernel
theorem dX10_told_12 : decode cX10_told 12 = .ok (.iload_n 2, 1) := by decide +kernel
theorem dX10_told_13 : decode cX10_told 13 = .ok (.bipush 9, 2) := by decide +kernel
theorem dX10_told_15 : decode cX10_told 15 = .ok (.if_icmp .eq 9, 3) := by decide +kernel
theorem dX10_told_18 : decode cX10_told 18 = .ok (.iload_n 2, 1) := by decide +kernel
theorem dX10_told_19 : decode cX10_told 19 = .ok (.bipush 10, 2) := by decide +kernel
theorem dX10_told_21 : decode cX10_told 21 = .ok (.if_icmp .ne 49, 3) := by decide +kernel
theorem dX10_told_24 : decode cX10_told 24 = .ok (.iload_n 1, 1) := by decide +kernel
theorem dX10_told_25 : decode cX10_told 25 = .ok (.bipush 8, 2) := by decide +kernel
theorem dX10_told_27 : decode cX10_told 27 = .ok (.invokestatic 76, 3) := by decide +kernel
theorem dX10_told_30 : decode cX10_told 30 = .ok (.ifCond .ne 6, 3) := by decide +kernel
theorem dX10_told_33 : decode cX10_told 33 = .ok (.bipush (-2), 2) := by decide +kernel
theorem dX10_told_35 : decode cX10_told 35 = .ok (.ireturn, 1) := by decide +kernel
theorem dX10_told_36 : decode cX10_told 36 = .ok (.iload_n 2, 1) := by decide +kernel
theorem dX10_told_37 : decode cX10_told 37 = .ok (.bipush 9, 2) := by decide +kernel
theorem dX10_told_39 : decode cX10_told 39 = .ok (.if_icmp .ne 15, 3) := by decide +kernel
theorem dX10_told_42 : decode cX10_told 42 = .ok (.aload_n 0, 1) := by decide +kernel
theorem dX10_told_43 : decode cX10_told 43 = .ok (.getfield 10, 3) := by decide +kernel
theorem dX10_told_46 : decode cX10_told 46 = .ok (.getfield 92, 3) := by decide +kernel
theorem dX10_told_49 : decode cX10_told 49 = .ok (.iload_n 1, 1) := by decide +kernel
theorem dX10_told_50 : decode cX10_told 50 = .ok (.iaload, 1) := by decide +kernel
theorem dX10_told_51 : decode cX10_told 51 = .ok (.goto 18, 3) := by decide +kernel
theorem dX10_told_54 : decode cX10_told 54 = .ok (.aload_n 0, 1) := by decide +kernel
theorem dX10_told_55 : decode cX10_told 55 = .ok (.getfield 38, 3) := by decide +kernel
theorem dX10_told_58 : decode cX10_told 58 = .ok (.iload_n 1, 1) := by decide +kernel
theorem dX10_told_59 : decode cX10_told 59 = .ok (.aload_n 0, 1) := by decide +kernel
theorem dX10_told_60 : decode cX10_told 60 = .ok (.getfield 10, 3) := by decide +kernel
theorem dX10_told_63 : decode cX10_told 63 = .ok (.getfield 103, 3) := by decide +kernel
theorem dX10_told_66 : decode cX10_told 66 = .ok (.invokevirtual 106, 3) := by decide +kernel
theorem dX10_told_69 : decode cX10_told 69 = .ok (.ireturn, 1) := by decide +kernel
theorem dX10_told_70 : decode cX10_told 70 = .ok (.iload_n 2, 1) := by decide +kernel
theorem dX10_told_71 : decode cX10_told 71 = .ok (.iconst 4, 1) := by decide +kernel
theorem dX10_told_72 : decode cX10_told 72 = .ok (.if_icmp .lt 20, 3) := by decide +kernel
theorem dX10_told_75 : decode cX10_told 75 = .ok (.iload_n 1, 1) := by decide +kernel
theorem dX10_told_76 : decode cX10_told 76 = .ok (.aload_n 0, 1) := by decide +kernel
theorem dX10_told_77 : decode cX10_told 77 = .ok (.getfield 10, 3) := by decide +kernel
theorem dX10_told_80 : decode cX10_told 80 = .ok (.getfield 80, 3) := by decide +kernel
theorem dX10_told_83 : decode cX10_told 83 = .ok (.invokestatic 76, 3) := by decide +kernel
theorem dX10_told_86 : decode cX10_told 86 = .ok (.ifCond .ne 6, 3) := by decide +kernel
theorem dX10_told_89 : decode cX10_told 89 = .ok (.bipush (-2), 2) := by decide +kernel
theorem dX10_told_91 : decode cX10_told 91 = .ok (.ireturn, 1) := by decide +kernel
theorem dX10_told_92 : decode cX10_told 92 = .ok (.iload_n 2, 1) := by decide +kernel
theorem dX10_told_93 : decode cX10_told 93 = .ok (.bipush 8, 2) := by decide +kernel
theorem dX10_told_95 : decode cX10_told 95 = .ok (.if_icmp .ne 22, 3) := by decide +kernel
theorem dX10_told_98 : decode cX10_told 98 = .ok (.aload_n 0, 1) := by decide +kernel
theorem dX10_told_99 : decode cX10_told 99 = .ok (.getfield 38, 3) := by decide +kernel
theorem dX10_told_102 : decode cX10_told 102 = .ok (.aload_n 0, 1) := by decide +kernel
theorem dX10_told_103 : decode cX10_told 103 = .ok (.getfield 10, 3) := by decide +kernel
theorem dX10_told_106 : decode cX10_told 106 = .ok (.getfield 109, 3) := by decide +kernel
theorem dX10_told_109 : decode cX10_told 109 = .ok (.iload_n 1, 1) := by decide +kernel
theorem dX10_told_110 : decode cX10_told 110 = .ok (.aaload, 1) := by decide +kernel
theorem dX10_told_111 : decode cX10_told 111 = .ok (.invokevirtual 113, 3) := by decide +kernel
theorem dX10_told_114 : decode cX10_told 114 = .ok (.goto 12, 3) := by decide +kernel
theorem dX10_told_117 : decode cX10_told 117 = .ok (.aload_n 0, 1) := by decide +kernel
theorem dX10_told_118 : decode cX10_told 118 = .ok (.getfield 10, 3) := by decide +kernel
theorem dX10_told_121 : decode cX10_told 121 = .ok (.iload_n 1, 1) := by decide +kernel
theorem dX10_told_122 : decode cX10_told 122 = .ok (.iload_n 2, 1) := by decide +kernel
theorem dX10_told_123 : decode cX10_told 123 = .ok (.invokevirtual 84, 3) := by decide +kernel
theorem dX10_told_126 : decode cX10_told 126 = .ok (.ireturn, 1) := by decide +kernel
theorem dX10_feed_0 : decode cX10_feed 0 = .ok (.iload_n 1, 1) := by decide +kernel
theorem dX10_feed_1 : decode cX10_feed 1 = .ok (.sipush 256, 3) := by decide +kernel
theorem dX10_feed_4 : decode cX10_feed 4 = .ok (.invokestatic 76, 3) := by decide +kernel
theorem dX10_feed_7 : decode cX10_feed 7 = .ok (.ifCond .ne 6, 3) := by decide +kernel
theorem dX10_feed_10 : decode cX10_feed 10 = .ok (.bipush (-2), 2) := by decide +kernel
theorem dX10_feed_12 : decode cX10_feed 12 = .ok (.ireturn, 1) := by decide +kernel
theorem dX10_feed_13 : decode cX10_feed 13 = .ok (.aload_n 0, 1) := by decide +kernel
theorem dX10_feed_14 : decode cX10_feed 14 = .ok (.getfield 29, 3) := by decide +kernel
theorem dX10_feed_17 : decode cX10_feed 17 = .ok (.iload_n 1, 1) := by decide +kernel
theorem dX10_feed_18 : decode cX10_feed 18 = .ok (.invokevirtual 117, 3) := by decide +kernel
theorem dX10_feed_21 : decode cX10_feed 21 = .ok (.ifCond .eq 13, 3) := by decide +kernel
theorem dX10_feed_24 : decode cX10_feed 24 = .ok (.aload_n 0, 1) := by decide +kernel
theorem dX10_feed_25 : decode cX10_feed 25 = .ok (.getfield 29, 3) := by decide +kernel
theorem dX10_feed_28 : decode cX10_feed 28 = .ok (.getfield 121, 3) := by decide +kernel
theorem dX10_feed_31 : decode cX10_feed 31 = .ok (.goto 5, 3) := by decide +kernel
theorem dX10_feed_34 : decode cX10_feed 34 = .ok (.bipush (-4), 2) := by decide +kernel
theorem dX10_feed_36 : decode cX10_feed 36 = .ok (.ireturn, 1) := by decide +kernel
theorem dX10_text_0 : decode cX10_text 0 = .ok (.aload_n 0, 1) := by decide +kernel
theorem dX10_text_1 : decode cX10_text 1 = .ok (.getfield 22, 3) := by decide +kernel
theorem dX10_text_4 : decode cX10_text 4 = .ok (.getfield 124, 3) := by decide +kernel
theorem dX10_text_7 : decode cX10_text 7 = .ok (.bipush 6, 2) := by decide +kernel
theorem dX10_text_9 : decode cX10_text 9 = .ok (.if_icmp .lt 6, 3) := by decide +kernel
theorem dX10_text_12 : decode cX10_text 12 = .ok (.bipush (-4), 2) := by decide +kernel
theorem dX10_text_14 : decode cX10_text 14 = .ok (.ireturn, 1) := by decide +kernel
theorem dX10_text_15 : decode cX10_text 15 = .ok (.aload_n 0, 1) := by decide +kernel
theorem dX10_text_16 : decode cX10_text 16 = .ok (.getfield 29, 3) := by decide +kernel
theorem dX10_text_19 : decode cX10_text 19 = .ok (.aload_n 0, 1) := by decide +kernel
theorem dX10_text_20 : decode cX10_text 20 = .ok (.getfield 22, 3) := by decide +kernel
theorem dX10_text_23 : decode cX10_text 23 = .ok (.getfield 125, 3) := by decide +kernel
theorem dX10_text_26 : decode cX10_text 26 = .ok (.aload_n 0, 1) := by decide +kernel
theorem dX10_text_27 : decode cX10_text 27 = .ok (.getfield 22, 3) := by decide +kernel
theorem dX10_text_30 : decode cX10_text 30 = .ok (.getfield 124, 3) := by decide +kernel
theorem dX10_text_33 : decode cX10_text 33 = .ok (.aaload, 1) := by decide +kernel
theorem dX10_text_34 : decode cX10_text 34 = .ok (.invokevirtual 129, 3) := by decide +kernel
theorem dX10_text_37 : decode cX10_text 37 = .ok (.istore_n 1, 1) := by decide +kernel
theorem dX10_text_38 : decode cX10_text 38 = .ok (.aload_n 0, 1) := by decide +kernel
theorem dX10_text_39 : decode cX10_text 39 = .ok (.getfield 29, 3) := by decide +kernel
theorem dX10_text_42 : decode cX10_text 42 = .ok (.iconst 0, 1) := by decide +kernel
theorem dX10_text_43 : decode cX10_text 43 = .ok (.putfield 121, 3) := by decide +kernel
theorem dX10_text_46 : decode cX10_text 46 = .ok (.iload_n 1, 1) := by decide +kernel
theorem dX10_text_47 : decode cX10_text 47 = .ok (.iconst (-1), 1) := by decide +kernel
theorem dX10_text_48 : decode cX10_text 48 = .ok (.if_icmp .eq 8, 3) := by decide +kernel
theorem dX10_text_51 : decode cX10_text 51 = .ok (.bipush (-100), 2) := by decide +kernel
theorem dX10_text_53 : decode cX10_text 53 = .ok (.iload_n 1, 1) := by decide +kernel
theorem dX10_text_54 : decode cX10_text 54 = .ok (.isub, 1) := by decide +kernel
theorem dX10_text_55 : decode cX10_text 55 = .ok (.ireturn, 1) := by decide +kernel
theorem dX10_text_56 : decode cX10_text 56 = .ok (.aload_n 0, 1) := by decide +kernel
theorem dX10_text_57 : decode cX10_text 57 = .ok (.getfield 22, 3) := by decide +kernel
theorem dX10_text_60 : decode cX10_text 60 = .ok (.dup, 1) := by decide +kernel
theorem dX10_text_61 : decode cX10_text 61 = .ok (.getfield 124, 3) := by decide +kernel
theorem dX10_text_64 : decode cX10_text 64 = .ok (.iconst 1, 1) := by decide +kernel
theorem dX10_text_65 : decode cX10_text 65 = .ok (.iadd, 1) := by decide +kernel
theorem dX10_text_66 : decode cX10_text 66 = .ok (.putfield 124, 3) := by decide +kernel
theorem dX10_text_69 : decode cX10_text 69 = .ok (.aload_n 0, 1) := by decide +kernel
theorem dX10_text_70 : decode cX10_text 70 = .ok (.getfield 22, 3) := by decide +kernel
theorem dX10_text_73 : decode cX10_text 73 = .ok (.getfield 124, 3) := by decide +kernel
theorem dX10_text_76 : decode cX10_text 76 = .ok (.iconst 1, 1) := by decide +kernel
theorem dX10_text_77 : decode cX10_text 77 = .ok (.isub, 1) := by decide +kernel
theorem dX10_text_78 : decode cX10_text 78 = .ok (.ireturn, 1) := by decide +kernel
theorem dX10_force_0 : decode cX10_force 0 = .ok (.iload_n 1, 1) := by decide +kernel
theorem dX10_force_1 : decode cX10_force 1 = .ok (.aload_n 0, 1) := by decide +kernel
theorem dX10_force_2 : decode cX10_force 2 = .ok (.getfield 22, 3) := by decide +kernel
theorem dX10_force_5 : decode cX10_force 5 = .ok (.getfield 124, 3) := by decide +kernel
theorem dX10_force_8 : decode cX10_force 8 = .ok (.invokestatic 76, 3) := by decide +kernel
theorem dX10_force_11 : decode cX10_force 11 = .ok (.ifCond .ne 6, 3) := by decide +kernel
theorem dX10_force_14 : decode cX10_force 14 = .ok (.bipush (-2), 2) := by decide +kernel
theorem dX10_force_16 : decode cX10_force 16 = .ok (.ireturn, 1) := by decide +kernel
theorem dX10_force_17 : decode cX10_force 17 = .ok (.aload_n 0, 1) := by decide +kernel
theorem dX10_force_18 : decode cX10_force 18 = .ok (.getfield 10, 3) := by decide +kernel
theorem dX10_force_21 : decode cX10_force 21 = .ok (.getfield 133, 3) := by decide +kernel
theorem dX10_force_24 : decode cX10_force 24 = .ok (.istore_n 2, 1) := by decide +kernel
theorem dX10_force_25 : decode cX10_force 25 = .ok (.aload_n 0, 1) := by decide +kernel
theorem dX10_force_26 : decode cX10_force 26 = .ok (.getfield 10, 3) := by decide +kernel
theorem dX10_force_29 : decode cX10_force 29 = .ok (.iload_n 1, 1) := by decide +kernel
theorem dX10_force_30 : decode cX10_force 30 = .ok (.putfield 133, 3) := by decide +kernel
theorem dX10_force_33 : decode cX10_force 33 = .ok (.iload_n 2, 1) := by decide +kernel
theorem dX10_force_34 : decode cX10_force 34 = .ok (.ireturn, 1) := by decide +kernel
theorem dX10_spread_0 : decode cX10_spread 0 = .ok (.iload_n 1, 1) := by decide +kernel
theorem dX10_spread_1 : decode cX10_spread 1 = .ok (.sipush 256, 3) := by decide +kernel
theorem dX10_spread_4 : decode cX10_spread 4 = .ok (.invokestatic 76, 3) := by decide +kernel
theorem dX10_spread_7 : decode cX10_spread 7 = .ok (.ifCond .eq 11, 3) := by decide +kernel
theorem dX10_spread_10 : decode cX10_spread 10 = .ok (.iload_n 2, 1) := by decide +kernel
theorem dX10_spread_11 : decode cX10_spread 11 = .ok (.iconst 3, 1) := by decide +kernel
theorem dX10_spread_12 : decode cX10_spread 12 = .ok (.invokestatic 76, 3) := by decide +kernel
theorem dX10_spread_15 : decode cX10_spread 15 = .ok (.ifCond .ne 6, 3) := by decide +kernel
theorem dX10_spread_18 : decode cX10_spread 18 = .ok (.bipush (-2), 2) := by decide +kernel
theorem dX10_spread_20 : decode cX10_spread 20 = .ok (.ireturn, 1) := by decide +kernel
theorem dX10_spread_21 : decode cX10_spread 21 = .ok (.iload_n 1, 1) := by decide +kernel
theorem dX10_spread_22 : decode cX10_spread 22 = .ok (.istore_n 3, 1) := by decide +kernel
theorem dX10_spread_23 : decode cX10_spread 23 = .ok (.iload_n 2, 1) := by decide +kernel
theorem dX10_spread_24 : decode cX10_spread 24 = .ok (.iconst 1, 1) := by decide +kernel
theorem dX10_spread_25 : decode cX10_spread 25 = .ok (.if_icmp .eq 26, 3) := by decide +kernel
theorem dX10_spread_28 : decode cX10_spread 28 = .ok (.aload_n 0, 1) := by decide +kernel
theorem dX10_spread_29 : decode cX10_spread 29 = .ok (.getfield 38, 3) := by decide +kernel
theorem dX10_spread_32 : decode cX10_spread 32 = .ok (.aload_n 0, 1) := by decide +kernel
theorem dX10_spread_33 : decode cX10_spread 33 = .ok (.getfield 10, 3) := by decide +kernel
theorem dX10_spread_36 : decode cX10_spread 36 = .ok (.getfield 103, 3) := by decide +kernel
theorem dX10_spread_39 : decode cX10_spread 39 = .ok (.invokevirtual 136, 3) := by decide +kernel
theorem dX10_spread_42 : decode cX10_spread 42 = .ok (.aload_n 0, 1) := by decide +kernel
theorem dX10_spread_43 : decode cX10_spread 43 = .ok (.getfield 38, 3) := by decide +kernel
theorem dX10_spread_46 : decode cX10_spread 46 = .ok (.iload_n 3, 1) := by decide +kernel
theorem dX10_spread_47 : decode cX10_spread 47 = .ok (.invokevirtual 140, 3) := by decide +kernel
theorem dX10_spread_50 : decode cX10_spread 50 = .ok (.istore_n 3, 1) := by decide +kernel
theorem dX10_spread_51 : decode cX10_spread 51 = .ok (.iload_n 2, 1) := by decide +kernel
theorem dX10_spread_52 : decode cX10_spread 52 = .ok (.ifCond .eq 22, 3) := by decide +kernel
theorem dX10_spread_55 : decode cX10_spread 55 = .ok (.iload_n 3, 1) := by decide +kernel
theorem dX10_spread_56 : decode cX10_spread 56 = .ok (.aload_n 0, 1) := by decide +kernel
theorem dX10_spread_57 : decode cX10_spread 57 = .ok (.getfield 38, 3) := by decide +kernel
theorem dX10_spread_60 : decode cX10_spread 60 = .ok (.aload_n 0, 1) := by decide +kernel
theorem dX10_spread_61 : decode cX10_spread 61 = .ok (.getfield 10, 3) := by decide +kernel
theorem dX10_spread_64 : decode cX10_spread 64 = .ok (.getfield 103, 3) := by decide +kernel
theorem dX10_spread_67 : decode cX10_spread 67 = .ok (.invokevirtual 144, 3) := by decide +kernel
theorem dX10_spread_70 : decode cX10_spread 70 = .ok (.iconst (-1), 1) := by decide +kernel
theorem dX10_spread_71 : decode cX10_spread 71 = .ok (.ixor, 1) := by decide +kernel
theorem dX10_spread_72 : decode cX10_spread 72 = .ok (.iand, 1) := by decide +kernel
theorem dX10_spread_73 : decode cX10_spread 73 = .ok (.istore_n 3, 1) := by decide +kernel
theorem dX10_spread_74 : decode cX10_spread 74 = .ok (.iload_n 3, 1) := by decide +kernel
theorem dX10_spread_75 : decode cX10_spread 75 = .ok (.ireturn, 1) := by decide +kernel
theorem dX10_week_0 : decode cX10_week 0 = .ok (.aload_n 0, 1) := by decide +kernel
theorem dX10_week_1 : decode cX10_week 1 = .ok (.getfield 10, 3) := by decide +kernel
theorem dX10_week_4 : decode cX10_week 4 = .ok (.getfield 103, 3) := by decide +kernel
theorem dX10_week_7 : decode cX10_week 7 = .ok (.sipush 999, 3) := by decide +kernel
theorem dX10_week_10 : decode cX10_week 10 = .ok (.if_icmp .lt 6, 3) := by decide +kernel
theorem dX10_week_13 : decode cX10_week 13 = .ok (.bipush (-3), 2) := by decide +kernel
theorem dX10_week_15 : decode cX10_week 15 = .ok (.ireturn, 1) := by decide +kernel
theorem dX10_week_16 : decode cX10_week 16 = .ok (.aload_n 0, 1) := by decide +kernel
theorem dX10_week_17 : decode cX10_week 17 = .ok (.getfield 38, 3) := by decide +kernel
theorem dX10_week_20 : decode cX10_week 20 = .ok (.aload_n 0, 1) := by decide +kernel
theorem dX10_week_21 : decode cX10_week 21 = .ok (.getfield 10, 3) := by decide +kernel
theorem dX10_week_24 : decode cX10_week 24 = .ok (.getfield 103, 3) := by decide +kernel
theorem dX10_week_27 : decode cX10_week 27 = .ok (.invokevirtual 136, 3) := by decide +kernel
theorem dX10_week_30 : decode cX10_week 30 = .ok (.aload_n 0, 1) := by decide +kernel
theorem dX10_week_31 : decode cX10_week 31 = .ok (.getfield 10, 3) := by decide +kernel
theorem dX10_week_34 : decode cX10_week 34 = .ok (.aload_n 0, 1) := by decide +kernel
theorem dX10_week_35 : decode cX10_week 35 = .ok (.getfield 38, 3) := by decide +kernel
theorem dX10_week_38 : decode cX10_week 38 = .ok (.aload_n 0, 1) := by decide +kernel
theorem dX10_week_39 : decode cX10_week 39 = .ok (.getfield 10, 3) := by decide +kernel
theorem dX10_week_42 : decode cX10_week 42 = .ok (.getfield 147, 3) := by decide +kernel
theorem dX10_week_45 : decode cX10_week 45 = .ok (.invokevirtual 140, 3) := by decide +kernel
theorem dX10_week_48 : decode cX10_week 48 = .ok (.putfield 147, 3) := by decide +kernel
theorem dX10_week_51 : decode cX10_week 51 = .ok (.aload_n 0, 1) := by decide +kernel
theorem dX10_week_52 : decode cX10_week 52 = .ok (.getfield 10, 3) := by decide +kernel
theorem dX10_week_55 : decode cX10_week 55 = .ok (.aload_n 0, 1) := by decide +kernel
theorem dX10_week_56 : decode cX10_week 56 = .ok (.getfield 38, 3) := by decide +kernel
theorem dX10_week_59 : decode cX10_week 59 = .ok (.aload_n 0, 1) := by decide +kernel
theorem dX10_week_60 : decode cX10_week 60 = .ok (.getfield 10, 3) := by decide +kernel
theorem dX10_week_63 : decode cX10_week 63 = .ok (.getfield 150, 3) := by decide +kernel
theorem dX10_week_66 : decode cX10_week 66 = .ok (.aload_n 0, 1) := by decide +kernel
theorem dX10_week_67 : decode cX10_week 67 = .ok (.getfield 10, 3) := by decide +kernel
theorem dX10_week_70 : decode cX10_week 70 = .ok (.getfield 103, 3) := by decide +kernel
theorem dX10_week_73 : decode cX10_week 73 = .ok (.iload_n 1, 1) := by decide +kernel
theorem dX10_week_74 : decode cX10_week 74 = .ok (.invokestatic 153, 3) := by decide +kernel
theorem dX10_week_77 : decode cX10_week 77 = .ok (.invokevirtual 156, 3) := by decide +kernel
theorem dX10_week_80 : decode cX10_week 80 = .ok (.putfield 150, 3) := by decide +kernel
theorem dX10_week_83 : decode cX10_week 83 = .ok (.aload_n 0, 1) := by decide +kernel
theorem dX10_week_84 : decode cX10_week 84 = .ok (.getfield 10, 3) := by decide +kernel
theorem dX10_week_87 : decode cX10_week 87 = .ok (.dup, 1) := by decide +kernel
theorem dX10_week_88 : decode cX10_week 88 = .ok (.getfield 103, 3) := by decide +kernel
theorem dX10_week_91 : decode cX10_week 91 = .ok (.iconst 1, 1) := by decide +kernel
theorem dX10_week_92 : decode cX10_week 92 = .ok (.iadd, 1) := by decide +kernel
theorem dX10_week_93 : decode cX10_week 93 = .ok (.putfield 103, 3) := by decide +kernel
theorem dX10_week_96 : decode cX10_week 96 = .ok (.aload_n 0, 1) := by decide +kernel
theorem dX10_week_97 : decode cX10_week 97 = .ok (.getfield 38, 3) := by decide +kernel
theorem dX10_week_100 : decode cX10_week 100 = .ok (.aload_n 0, 1) := by decide +kernel
theorem dX10_week_101 : decode cX10_week 101 = .ok (.getfield 10, 3) := by decide +kernel
theorem dX10_week_104 : decode cX10_week 104 = .ok (.getfield 150, 3) := by decide +kernel
theorem dX10_week_107 : decode cX10_week 107 = .ok (.aload_n 0, 1) := by decide +kernel
theorem dX10_week_108 : decode cX10_week 108 = .ok (.getfield 10, 3) := by decide +kernel
theorem dX10_week_111 : decode cX10_week 111 = .ok (.getfield 103, 3) := by decide +kernel
theorem dX10_week_114 : decode cX10_week 114 = .ok (.invokevirtual 159, 3) := by decide +kernel
theorem dX10_week_117 : decode cX10_week 117 = .ok (.istore_n 2, 1) := by decide +kernel
theorem dX10_week_118 : decode cX10_week 118 = .ok (.iload_n 2, 1) := by decide +kernel
theorem dX10_week_119 : decode cX10_week 119 = .ok (.iconst (-1), 1) := by decide +kernel
theorem dX10_week_120 : decode cX10_week 120 = .ok (.if_icmp .ne 34, 3) := by decide +kernel
theorem dX10_week_123 : decode cX10_week 123 = .ok (.aload_n 0, 1) := by decide +kernel
theorem dX10_week_124 : decode cX10_week 124 = .ok (.getfield 10, 3) := by decide +kernel
theorem dX10_week_127 : decode cX10_week 127 = .ok (.dup, 1) := by decide +kernel
theorem dX10_week_128 : decode cX10_week 128 = .ok (.getfield 147, 3) := by decide +kernel
theorem dX10_week_131 : decode cX10_week 131 = .ok (.aload_n 0, 1) := by decide +kernel
theorem dX10_week_132 : decode cX10_week 132 = .ok (.getfield 38, 3) := by decide +kernel
theorem dX10_week_135 : decode cX10_week 135 = .ok (.aload_n 0, 1) := by decide +kernel
theorem dX10_week_136 : decode cX10_week 136 = .ok (.getfield 10, 3) := by decide +kernel
theorem dX10_week_139 : decode cX10_week 139 = .ok (.getfield 103, 3) := by decide +kernel
theorem dX10_week_142 : decode cX10_week 142 = .ok (.invokevirtual 144, 3) := by decide +kernel
theorem dX10_week_145 : decode cX10_week 145 = .ok (.iconst (-1), 1) := by decide +kernel
theorem dX10_week_146 : decode cX10_week 146 = .ok (.ixor, 1) := by decide +kernel
theorem dX10_week_147 : decode cX10_week 147 = .ok (.iand, 1) := by decide +kernel
theorem dX10_week_148 : decode cX10_week 148 = .ok (.putfield 147, 3) := by decide +kernel
theorem dX10_week_151 : decode cX10_week 151 = .ok (.goto 45, 3) := by decide +kernel
theorem dX10_week_154 : decode cX10_week 154 = .ok (.aload_n 0, 1) := by decide +kernel
theorem dX10_week_155 : decode cX10_week 155 = .ok (.getfield 10, 3) := by decide +kernel
theorem dX10_week_158 : decode cX10_week 158 = .ok (.getfield 109, 3) := by decide +kernel
theorem dX10_week_161 : decode cX10_week 161 = .ok (.iload_n 2, 1) := by decide +kernel
theorem dX10_week_162 : decode cX10_week 162 = .ok (.aaload, 1) := by decide +kernel
theorem dX10_week_163 : decode cX10_week 163 = .ok (.astore_n 3, 1) := by decide +kernel
theorem dX10_week_164 : decode cX10_week 164 = .ok (.aload_n 3, 1) := by decide +kernel
theorem dX10_week_165 : decode cX10_week 165 = .ok (.aload_n 3, 1) := by decide +kernel
theorem dX10_week_166 : decode cX10_week 166 = .ok (.getfield 162, 3) := by decide +kernel
theorem dX10_week_169 : decode cX10_week 169 = .ok (.iconst 1, 1) := by decide +kernel
theorem dX10_week_170 : decode cX10_week 170 = .ok (.iadd, 1) := by decide +kernel
theorem dX10_week_171 : decode cX10_week 171 = .ok (.sipush 999, 3) := by decide +kernel
theorem dX10_week_174 : decode cX10_week 174 = .ok (.invokestatic 167, 3) := by decide +kernel
theorem dX10_week_177 : decode cX10_week 177 = .ok (.putfield 162, 3) := by decide +kernel
theorem dX10_week_180 : decode cX10_week 180 = .ok (.aload_n 0, 1) := by decide +kernel
theorem dX10_week_181 : decode cX10_week 181 = .ok (.getfield 10, 3) := by decide +kernel
theorem dX10_week_184 : decode cX10_week 184 = .ok (.iconst 1, 1) := by decide +kernel
theorem dX10_week_185 : decode cX10_week 185 = .ok (.aload_n 0, 1) := by decide +kernel
theorem dX10_week_186 : decode cX10_week 186 = .ok (.getfield 10, 3) := by decide +kernel
theorem dX10_week_189 : decode cX10_week 189 = .ok (.getfield 150, 3) := by decide +kernel
theorem dX10_week_192 : decode cX10_week 192 = .ok (.ishl, 1) := by decide +kernel
theorem dX10_week_193 : decode cX10_week 193 = .ok (.putfield 147, 3) := by decide +kernel
theorem dX10_week_196 : decode cX10_week 196 = .ok (.iload_n 2, 1) := by decide +kernel
theorem dX10_week_197 : decode cX10_week 197 = .ok (.ireturn, 1) := by decide +kernel
theorem dX10_go_0 : decode cX10_go 0 = .ok (.iload_n 1, 1) := by decide +kernel
theorem dX10_go_1 : decode cX10_go 1 = .ok (.aload_n 0, 1) := by decide +kernel
theorem dX10_go_2 : decode cX10_go 2 = .ok (.getfield 10, 3) := by decide +kernel
theorem dX10_go_5 : decode cX10_go 5 = .ok (.getfield 80, 3) := by decide +kernel
theorem dX10_go_8 : decode cX10_go 8 = .ok (.invokestatic 76, 3) := by decide +kernel
theorem dX10_go_11 : decode cX10_go 11 = .ok (.ifCond .eq 12, 3) := by decide +kernel
theorem dX10_go_14 : decode cX10_go 14 = .ok (.iload_n 2, 1) := by decide +kernel
theorem dX10_go_15 : decode cX10_go 15 = .ok (.bipush 8, 2) := by decide +kernel
theorem dX10_go_17 : decode cX10_go 17 = .ok (.invokestatic 76, 3) := by decide +kernel
theorem dX10_go_20 : decode cX10_go 20 = .ok (.ifCond .ne 6, 3) := by decide +kernel
theorem dX10_go_23 : decode cX10_go 23 = .ok (.bipush (-2), 2) := by decide +kernel
theorem dX10_go_25 : decode cX10_go 25 = .ok (.ireturn, 1) := by decide +kernel
theorem dX10_go_26 : decode cX10_go 26 = .ok (.aload_n 0, 1) := by decide +kernel
theorem dX10_go_27 : decode cX10_go 27 = .ok (.getfield 10, 3) := by decide +kernel
theorem dX10_go_30 : decode cX10_go 30 = .ok (.getfield 109, 3) := by decide +kernel
theorem dX10_go_33 : decode cX10_go 33 = .ok (.iload_n 1, 1) := by decide +kernel
theorem dX10_go_34 : decode cX10_go 34 = .ok (.aaload, 1) := by decide +kernel
theorem dX10_go_35 : decode cX10_go 35 = .ok (.astore_n 3, 1) := by decide +kernel
theorem dX10_go_36 : decode cX10_go 36 = .ok (.aload_n 3, 1) := by decide +kernel
theorem dX10_go_37 : decode cX10_go 37 = .ok (.getfield 172, 3) := by decide +kernel
theorem dX10_go_40 : decode cX10_go 40 = .ok (.istore 4, 2) := by decide +kernel
theorem dX10_go_42 : decode cX10_go 42 = .ok (.aload_n 0, 1) := by decide +kernel
theorem dX10_go_43 : decode cX10_go 43 = .ok (.getfield 10, 3) := by decide +kernel
theorem dX10_go_46 : decode cX10_go 46 = .ok (.getfield 92, 3) := by decide +kernel
theorem dX10_go_49 : decode cX10_go 49 = .ok (.iload 4, 2) := by decide +kernel
theorem dX10_go_51 : decode cX10_go 51 = .ok (.iaload, 1) := by decide +kernel
theorem dX10_go_52 : decode cX10_go 52 = .ok (.iload_n 2, 1) := by decide +kernel
theorem dX10_go_53 : decode cX10_go 53 = .ok (.ishr, 1) := by decide +kernel
theorem dX10_go_54 : decode cX10_go 54 = .ok (.iconst 1, 1) := by decide +kernel
theorem dX10_go_55 : decode cX10_go 55 = .ok (.iand, 1) := by decide +kernel
theorem dX10_go_56 : decode cX10_go 56 = .ok (.ifCond .ne 6, 3) := by decide +kernel
theorem dX10_go_59 : decode cX10_go 59 = .ok (.bipush (-3), 2) := by decide +kernel
theorem dX10_go_61 : decode cX10_go 61 = .ok (.ireturn, 1) := by decide +kernel
theorem dX10_go_62 : decode cX10_go 62 = .ok (.aload_n 3, 1) := by decide +kernel
theorem dX10_go_63 : decode cX10_go 63 = .ok (.iload_n 2, 1) := by decide +kernel
theorem dX10_go_64 : decode cX10_go 64 = .ok (.putfield 172, 3) := by decide +kernel
theorem dX10_go_67 : decode cX10_go 67 = .ok (.iload 4, 2) := by decide +kernel
theorem dX10_go_69 : decode cX10_go 69 = .ok (.ireturn, 1) := by decide +kernel
theorem dX10_run_0 : decode cX10_run 0 = .ok (.iload_n 1, 1) := by decide +kernel
theorem dX10_run_1 : decode cX10_run 1 = .ok (.bipush 41, 2) := by decide +kernel
theorem dX10_run_3 : decode cX10_run 3 = .ok (.invokestatic 76, 3) := by decide +kernel
theorem dX10_run_6 : decode cX10_run 6 = .ok (.ifCond .eq 11, 3) := by decide +kernel
theorem dX10_run_9 : decode cX10_run 9 = .ok (.iload_n 2, 1) := by decide +kernel
theorem dX10_run_10 : decode cX10_run 10 = .ok (.iconst 3, 1) := by decide +kernel
theorem dX10_run_11 : decode cX10_run 11 = .ok (.invokestatic 76, 3) := by decide +kernel
theorem dX10_run_14 : decode cX10_run 14 = .ok (.ifCond .ne 6, 3) := by decide +kernel
theorem dX10_run_17 : decode cX10_run 17 = .ok (.bipush (-2), 2) := by decide +kernel
theorem dX10_run_19 : decode cX10_run 19 = .ok (.ireturn, 1) := by decide +kernel
theorem dX10_run_20 : decode cX10_run 20 = .ok (.aload_n 0, 1) := by decide +kernel
theorem dX10_run_21 : decode cX10_run 21 = .ok (.getfield 10, 3) := by decide +kernel
theorem dX10_run_24 : decode cX10_run 24 = .ok (.getfield 147, 3) := by decide +kernel
theorem dX10_run_27 : decode cX10_run 27 = .ok (.istore_n 3, 1) := by decide +kernel
theorem dX10_run_28 : decode cX10_run 28 = .ok (.iconst (-1), 1) := by decide +kernel
theorem dX10_run_29 : decode cX10_run 29 = .ok (.istore 4, 2) := by decide +kernel
theorem dX10_run_31 : decode cX10_run 31 = .ok (.iconst 0, 1) := by decide +kernel
theorem dX10_run_32 : decode cX10_run 32 = .ok (.istore 5, 2) := by decide +kernel
theorem dX10_run_34 : decode cX10_run 34 = .ok (.iconst 0, 1) := by decide +kernel
theorem dX10_run_35 : decode cX10_run 35 = .ok (.istore 6, 2) := by decide +kernel
theorem dX10_run_37 : decode cX10_run 37 = .ok (.iload 6, 2) := by decide +kernel
theorem dX10_run_39 : decode cX10_run 39 = .ok (.iload_n 1, 1) := by decide +kernel
theorem dX10_run_40 : decode cX10_run 40 = .ok (.if_icmp .ge 72, 3) := by decide +kernel
theorem dX10_run_43 : decode cX10_run 43 = .ok (.iload 4, 2) := by decide +kernel
theorem dX10_run_45 : decode cX10_run 45 = .ok (.iconst (-1), 1) := by decide +kernel
theorem dX10_run_46 : decode cX10_run 46 = .ok (.if_icmp .ne 66, 3) := by decide +kernel
theorem dX10_run_49 : decode cX10_run 49 = .ok (.aload_n 0, 1) := by decide +kernel
theorem dX10_run_50 : decode cX10_run 50 = .ok (.getfield 38, 3) := by decide +kernel
theorem dX10_run_53 : decode cX10_run 53 = .ok (.iload 6, 2) := by decide +kernel
theorem dX10_run_55 : decode cX10_run 55 = .ok (.invokevirtual 175, 3) := by decide +kernel
theorem dX10_run_58 : decode cX10_run 58 = .ok (.aload_n 0, 1) := by decide +kernel
theorem dX10_run_59 : decode cX10_run 59 = .ok (.getfield 38, 3) := by decide +kernel
theorem dX10_run_62 : decode cX10_run 62 = .ok (.iload_n 3, 1) := by decide +kernel
theorem dX10_run_63 : decode cX10_run 63 = .ok (.invokevirtual 140, 3) := by decide +kernel
theorem dX10_run_66 : decode cX10_run 66 = .ok (.aload_n 0, 1) := by decide +kernel
theorem dX10_run_67 : decode cX10_run 67 = .ok (.getfield 38, 3) := by decide +kernel
theorem dX10_run_70 : decode cX10_run 70 = .ok (.aload_n 0, 1) := by decide +kernel
theorem dX10_run_71 : decode cX10_run 71 = .ok (.getfield 10, 3) := by decide +kernel
theorem dX10_run_74 : decode cX10_run 74 = .ok (.getfield 103, 3) := by decide +kernel
theorem dX10_run_77 : decode cX10_run 77 = .ok (.iload 6, 2) := by decide +kernel
theorem dX10_run_79 : decode cX10_run 79 = .ok (.iadd, 1) := by decide +kernel
theorem dX10_run_80 : decode cX10_run 80 = .ok (.iconst 1, 1) := by decide +kernel
theorem dX10_run_81 : decode cX10_run 81 = .ok (.iadd, 1) := by decide +kernel
theorem dX10_run_82 : decode cX10_run 82 = .ok (.invokevirtual 144, 3) := by decide +kernel
theorem dX10_run_85 : decode cX10_run 85 = .ok (.iconst (-1), 1) := by decide +kernel
theorem dX10_run_86 : decode cX10_run 86 = .ok (.ixor, 1) := by decide +kernel
theorem dX10_run_87 : decode cX10_run 87 = .ok (.iand, 1) := by decide +kernel
theorem dX10_run_88 : decode cX10_run 88 = .ok (.istore_n 3, 1) := by decide +kernel
theorem dX10_run_89 : decode cX10_run 89 = .ok (.iload 5, 2) := by decide +kernel
theorem dX10_run_91 : decode cX10_run 91 = .ok (.iload_n 3, 1) := by decide +kernel
theorem dX10_run_92 : decode cX10_run 92 = .ok (.invokestatic 178, 3) := by decide +kernel
theorem dX10_run_95 : decode cX10_run 95 = .ok (.iadd, 1) := by decide +kernel
theorem dX10_run_96 : decode cX10_run 96 = .ok (.istore 5, 2) := by decide +kernel
theorem dX10_run_98 : decode cX10_run 98 = .ok (.iload_n 3, 1) := by decide +kernel
theorem dX10_run_99 : decode cX10_run 99 = .ok (.ifCond .ne 7, 3) := by decide +kernel
theorem dX10_run_102 : decode cX10_run 102 = .ok (.iload 6, 2) := by decide +kernel
theorem dX10_run_104 : decode cX10_run 104 = .ok (.istore 4, 2) := by decide +kernel
theorem dX10_run_106 : decode cX10_run 106 = .ok (.iinc 6 1, 3) := by decide +kernel
theorem dX10_run_109 : decode cX10_run 109 = .ok (.goto (-72), 3) := by decide +kernel
theorem dX10_run_112 : decode cX10_run 112 = .ok (.iload_n 2, 1) := by decide +kernel
theorem dX10_run_113 : decode cX10_run 113 = .ok (.ifCond .ne 5, 3) := by decide +kernel
theorem dX10_run_116 : decode cX10_run 116 = .ok (.iload_n 3, 1) := by decide +kernel
theorem dX10_run_117 : decode cX10_run 117 = .ok (.ireturn, 1) := by decide +kernel
theorem dX10_run_118 : decode cX10_run 118 = .ok (.iload_n 2, 1) := by decide +kernel
theorem dX10_run_119 : decode cX10_run 119 = .ok (.iconst 1, 1) := by decide +kernel
theorem dX10_run_120 : decode cX10_run 120 = .ok (.if_icmp .ne 8, 3) := by decide +kernel
theorem dX10_run_123 : decode cX10_run 123 = .ok (.iload 4, 2) := by decide +kernel
theorem dX10_run_125 : decode cX10_run 125 = .ok (.goto 5, 3) := by decide +kernel
theorem dX10_run_128 : decode cX10_run 128 = .ok (.iload 5, 2) := by decide +kernel
theorem dX10_run_130 : decode cX10_run 130 = .ok (.ireturn, 1) := by decide +kernel
theorem dX10_sure_0 : decode cX10_sure 0 = .ok (.iload_n 1, 1) := by decide +kernel
theorem dX10_sure_1 : decode cX10_sure 1 = .ok (.aload_n 0, 1) := by decide +kernel
theorem dX10_sure_2 : decode cX10_sure 2 = .ok (.getfield 10, 3) := by decide +kernel
theorem dX10_sure_5 : decode cX10_sure 5 = .ok (.getfield 80, 3) := by decide +kernel
theorem dX10_sure_8 : decode cX10_sure 8 = .ok (.invokestatic 76, 3) := by decide +kernel
theorem dX10_sure_11 : decode cX10_sure 11 = .ok (.ifCond .eq 20, 3) := by decide +kernel
theorem dX10_sure_14 : decode cX10_sure 14 = .ok (.iload_n 2, 1) := by decide +kernel
theorem dX10_sure_15 : decode cX10_sure 15 = .ok (.bipush 41, 2) := by decide +kernel
theorem dX10_sure_17 : decode cX10_sure 17 = .ok (.invokestatic 76, 3) := by decide +kernel
theorem dX10_sure_20 : decode cX10_sure 20 = .ok (.ifCond .eq 11, 3) := by decide +kernel
theorem dX10_sure_23 : decode cX10_sure 23 = .ok (.iload_n 3, 1) := by decide +kernel
theorem dX10_sure_24 : decode cX10_sure 24 = .ok (.iconst 2, 1) := by decide +kernel
theorem dX10_sure_25 : decode cX10_sure 25 = .ok (.invokestatic 76, 3) := by decide +kernel
theorem dX10_sure_28 : decode cX10_sure 28 = .ok (.ifCond .ne 6, 3) := by decide +kernel
theorem dX10_sure_31 : decode cX10_sure 31 = .ok (.bipush (-2), 2) := by decide +kernel
theorem dX10_sure_33 : decode cX10_sure 33 = .ok (.ireturn, 1) := by decide +kernel
theorem dX10_sure_34 : decode cX10_sure 34 = .ok (.aload_n 0, 1) := by decide +kernel
theorem dX10_sure_35 : decode cX10_sure 35 = .ok (.getfield 10, 3) := by decide +kernel
theorem dX10_sure_38 : decode cX10_sure 38 = .ok (.getfield 109, 3) := by decide +kernel
theorem dX10_sure_41 : decode cX10_sure 41 = .ok (.iload_n 1, 1) := by decide +kernel
theorem dX10_sure_42 : decode cX10_sure 42 = .ok (.aaload, 1) := by decide +kernel
theorem dX10_sure_43 : decode cX10_sure 43 = .ok (.astore 4, 2) := by decide +kernel
theorem dX10_sure_45 : decode cX10_sure 45 = .ok (.aload_n 0, 1) := by decide +kernel
theorem dX10_sure_46 : decode cX10_sure 46 = .ok (.getfield 47, 3) := by decide +kernel
theorem dX10_sure_49 : decode cX10_sure 49 = .ok (.aload 4, 2) := by decide +kernel
theorem dX10_sure_51 : decode cX10_sure 51 = .ok (.invokevirtual 183, 3) := by decide +kernel
theorem dX10_sure_54 : decode cX10_sure 54 = .ok (.aload_n 0, 1) := by decide +kernel
theorem dX10_sure_55 : decode cX10_sure 55 = .ok (.getfield 47, 3) := by decide +kernel
theorem dX10_sure_58 : decode cX10_sure 58 = .ok (.aload 4, 2) := by decide +kernel
theorem dX10_sure_60 : decode cX10_sure 60 = .ok (.getfield 172, 3) := by decide +kernel
theorem dX10_sure_63 : decode cX10_sure 63 = .ok (.iload_n 2, 1) := by decide +kernel
theorem dX10_sure_64 : decode cX10_sure 64 = .ok (.invokevirtual 187, 3) := by decide +kernel
theorem dX10_sure_67 : decode cX10_sure 67 = .ok (.istore 5, 2) := by decide +kernel
theorem dX10_sure_69 : decode cX10_sure 69 = .ok (.iload_n 3, 1) := by decide +kernel
theorem dX10_sure_70 : decode cX10_sure 70 = .ok (.ifCond .ne 8, 3) := by decide +kernel
theorem dX10_sure_73 : decode cX10_sure 73 = .ok (.iload 5, 2) := by decide +kernel
theorem dX10_sure_75 : decode cX10_sure 75 = .ok (.goto 12, 3) := by decide +kernel
theorem dX10_sure_78 : decode cX10_sure 78 = .ok (.aload_n 0, 1) := by decide +kernel
theorem dX10_sure_79 : decode cX10_sure 79 = .ok (.getfield 47, 3) := by decide +kernel
theorem dX10_sure_82 : decode cX10_sure 82 = .ok (.iload 5, 2) := by decide +kernel
theorem dX10_sure_84 : decode cX10_sure 84 = .ok (.invokevirtual 190, 3) := by decide +kernel
theorem dX10_sure_87 : decode cX10_sure 87 = .ok (.ireturn, 1) := by decide +kernel
theorem dX10_stand_0 : decode cX10_stand 0 = .ok (.iload_n 1, 1) := by decide +kernel
theorem dX10_stand_1 : decode cX10_stand 1 = .ok (.aload_n 0, 1) := by decide +kernel
theorem dX10_stand_2 : decode cX10_stand 2 = .ok (.getfield 10, 3) := by decide +kernel
theorem dX10_stand_5 : decode cX10_stand 5 = .ok (.getfield 80, 3) := by decide +kernel
theorem dX10_stand_8 : decode cX10_stand 8 = .ok (.invokestatic 76, 3) := by decide +kernel
theorem dX10_stand_11 : decode cX10_stand 11 = .ok (.ifCond .eq 11, 3) := by decide +kernel
theorem dX10_stand_14 : decode cX10_stand 14 = .ok (.iload_n 2, 1) := by decide +kernel
theorem dX10_stand_15 : decode cX10_stand 15 = .ok (.iconst 3, 1) := by decide +kernel
theorem dX10_stand_16 : decode cX10_stand 16 = .ok (.invokestatic 76, 3) := by decide +kernel
theorem dX10_stand_19 : decode cX10_stand 19 = .ok (.ifCond .ne 6, 3) := by decide +kernel
theorem dX10_stand_22 : decode cX10_stand 22 = .ok (.bipush (-2), 2) := by decide +kernel
theorem dX10_stand_24 : decode cX10_stand 24 = .ok (.ireturn, 1) := by decide +kernel
theorem dX10_stand_25 : decode cX10_stand 25 = .ok (.aload_n 0, 1) := by decide +kernel
theorem dX10_stand_26 : decode cX10_stand 26 = .ok (.getfield 47, 3) := by decide +kernel
theorem dX10_stand_29 : decode cX10_stand 29 = .ok (.aload_n 0, 1) := by decide +kernel
theorem dX10_stand_30 : decode cX10_stand 30 = .ok (.getfield 10, 3) := by decide +kernel
theorem dX10_stand_33 : decode cX10_stand 33 = .ok (.getfield 109, 3) := by decide +kernel
theorem dX10_stand_36 : decode cX10_stand 36 = .ok (.iload_n 1, 1) := by decide +kernel
theorem dX10_stand_37 : decode cX10_stand 37 = .ok (.aaload, 1) := by decide +kernel
theorem dX10_stand_38 : decode cX10_stand 38 = .ok (.invokevirtual 183, 3) := by decide +kernel
theorem dX10_stand_41 : decode cX10_stand 41 = .ok (.iconst (-1), 1) := by decide +kernel
theorem dX10_stand_42 : decode cX10_stand 42 = .ok (.istore_n 3, 1) := by decide +kernel
theorem dX10_stand_43 : decode cX10_stand 43 = .ok (.iconst (-1), 1) := by decide +kernel
theorem dX10_stand_44 : decode cX10_stand 44 = .ok (.istore 4, 2) := by decide +kernel
theorem dX10_stand_46 : decode cX10_stand 46 = .ok (.iconst 0, 1) := by decide +kernel
theorem dX10_stand_47 : decode cX10_stand 47 = .ok (.istore 5, 2) := by decide +kernel
theorem dX10_stand_49 : decode cX10_stand 49 = .ok (.iconst 0, 1) := by decide +kernel
theorem dX10_stand_50 : decode cX10_stand 50 = .ok (.istore 6, 2) := by decide +kernel
theorem dX10_stand_52 : decode cX10_stand 52 = .ok (.iload 6, 2) := by decide +kernel
theorem dX10_stand_54 : decode cX10_stand 54 = .ok (.bipush 8, 2) := by decide +kernel
theorem dX10_stand_56 : decode cX10_stand 56 = .ok (.if_icmp .ge 54, 3) := by decide +kernel
theorem dX10_stand_59 : decode cX10_stand 59 = .ok (.aload_n 0, 1) := by decide +kernel
theorem dX10_stand_60 : decode cX10_stand 60 = .ok (.getfield 47, 3) := by decide +kernel
theorem dX10_stand_63 : decode cX10_stand 63 = .ok (.iload 6, 2) := by decide +kernel
theorem dX10_stand_65 : decode cX10_stand 65 = .ok (.bipush 40, 2) := by decide +kernel
theorem dX10_stand_67 : decode cX10_stand 67 = .ok (.invokevirtual 187, 3) := by decide +kernel
theorem dX10_stand_70 : decode cX10_stand 70 = .ok (.istore 7, 2) := by decide +kernel
theorem dX10_stand_72 : decode cX10_stand 72 = .ok (.iload 7, 2) := by decide +kernel
theorem dX10_stand_74 : decode cX10_stand 74 = .ok (.iconst (-1), 1) := by decide +kernel
theorem dX10_stand_75 : decode cX10_stand 75 = .ok (.if_icmp .eq 12, 3) := by decide +kernel
theorem dX10_stand_78 : decode cX10_stand 78 = .ok (.iload 5, 2) := by decide +kernel
theorem dX10_stand_80 : decode cX10_stand 80 = .ok (.iconst 1, 1) := by decide +kernel
theorem dX10_stand_81 : decode cX10_stand 81 = .ok (.iload 6, 2) := by decide +kernel
theorem dX10_stand_83 : decode cX10_stand 83 = .ok (.ishl, 1) := by decide +kernel
theorem dX10_stand_84 : decode cX10_stand 84 = .ok (.ior, 1) := by decide +kernel
theorem dX10_stand_85 : decode cX10_stand 85 = .ok (.istore 5, 2) := by decide +kernel
theorem dX10_stand_87 : decode cX10_stand 87 = .ok (.iload 7, 2) := by decide +kernel
theorem dX10_stand_89 : decode cX10_stand 89 = .ok (.iload 4, 2) := by decide +kernel
theorem dX10_stand_91 : decode cX10_stand 91 = .ok (.invokestatic 193, 3) := by decide +kernel
theorem dX10_stand_94 : decode cX10_stand 94 = .ok (.ifCond .eq 10, 3) := by decide +kernel
theorem dX10_stand_97 : decode cX10_stand 97 = .ok (.iload 6, 2) := by decide +kernel
theorem dX10_stand_99 : decode cX10_stand 99 = .ok (.istore_n 3, 1) := by decide +kernel
theorem dX10_stand_100 : decode cX10_stand 100 = .ok (.iload 7, 2) := by decide +kernel
theorem dX10_stand_102 : decode cX10_stand 102 = .ok (.istore 4, 2) := by decide +kernel
theorem dX10_stand_104 : decode cX10_stand 104 = .ok (.iinc 6 1, 3) := by decide +kernel
theorem dX10_stand_107 : decode cX10_stand 107 = .ok (.goto (-55), 3) := by decide +kernel
theorem dX10_stand_110 : decode cX10_stand 110 = .ok (.iload_n 2, 1) := by decide +kernel
theorem dX10_stand_111 : decode cX10_stand 111 = .ok (.iconst 2, 1) := by decide +kernel
theorem dX10_stand_112 : decode cX10_stand 112 = .ok (.if_icmp .ne 6, 3) := by decide +kernel
theorem dX10_stand_115 : decode cX10_stand 115 = .ok (.iload 5, 2) := by decide +kernel
theorem dX10_stand_117 : decode cX10_stand 117 = .ok (.ireturn, 1) := by decide +kernel
theorem dX10_stand_118 : decode cX10_stand 118 = .ok (.iload_n 2, 1) := by decide +kernel
theorem dX10_stand_119 : decode cX10_stand 119 = .ok (.ifCond .ne 7, 3) := by decide +kernel
theorem dX10_stand_122 : decode cX10_stand 122 = .ok (.iload_n 3, 1) := by decide +kernel
theorem dX10_stand_123 : decode cX10_stand 123 = .ok (.goto 5, 3) := by decide +kernel
theorem dX10_stand_126 : decode cX10_stand 126 = .ok (.iload 4, 2) := by decide +kernel
theorem dX10_stand_128 : decode cX10_stand 128 = .ok (.ireturn, 1) := by decide +kernel
theorem dX10_shut_0 : decode cX10_shut 0 = .ok (.iload_n 1, 1) := by decide +kernel
theorem dX10_shut_1 : decode cX10_shut 1 = .ok (.aload_n 0, 1) := by decide +kernel
theorem dX10_shut_2 : decode cX10_shut 2 = .ok (.getfield 10, 3) := by decide +kernel
theorem dX10_shut_5 : decode cX10_shut 5 = .ok (.getfield 80, 3) := by decide +kernel
theorem dX10_shut_8 : decode cX10_shut 8 = .ok (.invokestatic 76, 3) := by decide +kernel
theorem dX10_shut_11 : decode cX10_shut 11 = .ok (.ifCond .eq 11, 3) := by decide +kernel
theorem dX10_shut_14 : decode cX10_shut 14 = .ok (.iload_n 2, 1) := by decide +kernel
theorem dX10_shut_15 : decode cX10_shut 15 = .ok (.iconst 2, 1) := by decide +kernel
theorem dX10_shut_16 : decode cX10_shut 16 = .ok (.invokestatic 76, 3) := by decide +kernel
theorem dX10_shut_19 : decode cX10_shut 19 = .ok (.ifCond .ne 6, 3) := by decide +kernel
theorem dX10_shut_22 : decode cX10_shut 22 = .ok (.bipush (-2), 2) := by decide +kernel
theorem dX10_shut_24 : decode cX10_shut 24 = .ok (.ireturn, 1) := by decide +kernel
theorem dX10_shut_25 : decode cX10_shut 25 = .ok (.aload_n 0, 1) := by decide +kernel
theorem dX10_shut_26 : decode cX10_shut 26 = .ok (.getfield 10, 3) := by decide +kernel
theorem dX10_shut_29 : decode cX10_shut 29 = .ok (.getfield 109, 3) := by decide +kernel
theorem dX10_shut_32 : decode cX10_shut 32 = .ok (.iload_n 1, 1) := by decide +kernel
theorem dX10_shut_33 : decode cX10_shut 33 = .ok (.aaload, 1) := by decide +kernel
theorem dX10_shut_34 : decode cX10_shut 34 = .ok (.astore_n 3, 1) := by decide +kernel
theorem dX10_shut_35 : decode cX10_shut 35 = .ok (.iconst (-1), 1) := by decide +kernel
theorem dX10_shut_36 : decode cX10_shut 36 = .ok (.istore 4, 2) := by decide +kernel
theorem dX10_shut_38 : decode cX10_shut 38 = .ok (.aload_n 0, 1) := by decide +kernel
theorem dX10_shut_39 : decode cX10_shut 39 = .ok (.getfield 47, 3) := by decide +kernel
theorem dX10_shut_42 : decode cX10_shut 42 = .ok (.aload_n 3, 1) := by decide +kernel
theorem dX10_shut_43 : decode cX10_shut 43 = .ok (.invokevirtual 183, 3) := by decide +kernel
theorem dX10_shut_46 : decode cX10_shut 46 = .ok (.aload_n 0, 1) := by decide +kernel
theorem dX10_shut_47 : decode cX10_shut 47 = .ok (.getfield 47, 3) := by decide +kernel
theorem dX10_shut_50 : decode cX10_shut 50 = .ok (.aload_n 3, 1) := by decide +kernel
theorem dX10_shut_51 : decode cX10_shut 51 = .ok (.getfield 172, 3) := by decide +kernel
theorem dX10_shut_54 : decode cX10_shut 54 = .ok (.bipush 40, 2) := by decide +kernel
theorem dX10_shut_56 : decode cX10_shut 56 = .ok (.invokevirtual 187, 3) := by decide +kernel
theorem dX10_shut_59 : decode cX10_shut 59 = .ok (.istore 5, 2) := by decide +kernel
theorem dX10_shut_61 : decode cX10_shut 61 = .ok (.iconst 0, 1) := by decide +kernel
theorem dX10_shut_62 : decode cX10_shut 62 = .ok (.istore 6, 2) := by decide +kernel
theorem dX10_shut_64 : decode cX10_shut 64 = .ok (.iload 6, 2) := by decide +kernel
theorem dX10_shut_66 : decode cX10_shut 66 = .ok (.bipush 8, 2) := by decide +kernel
theorem dX10_shut_68 : decode cX10_shut 68 = .ok (.if_icmp .ge 87, 3) := by decide +kernel
theorem dX10_shut_71 : decode cX10_shut 71 = .ok (.iload 6, 2) := by decide +kernel
theorem dX10_shut_73 : decode cX10_shut 73 = .ok (.iconst 1, 1) := by decide +kernel
theorem dX10_shut_74 : decode cX10_shut 74 = .ok (.iadd, 1) := by decide +kernel
theorem dX10_shut_75 : decode cX10_shut 75 = .ok (.istore 7, 2) := by decide +kernel
theorem dX10_shut_77 : decode cX10_shut 77 = .ok (.iload 7, 2) := by decide +kernel
theorem dX10_shut_79 : decode cX10_shut 79 = .ok (.bipush 8, 2) := by decide +kernel
theorem dX10_shut_81 : decode cX10_shut 81 = .ok (.if_icmp .ge 68, 3) := by decide +kernel
theorem dX10_shut_84 : decode cX10_shut 84 = .ok (.aload_n 0, 1) := by decide +kernel
theorem dX10_shut_85 : decode cX10_shut 85 = .ok (.getfield 10, 3) := by decide +kernel
theorem dX10_shut_88 : decode cX10_shut 88 = .ok (.getfield 92, 3) := by decide +kernel
theorem dX10_shut_91 : decode cX10_shut 91 = .ok (.iload 6, 2) := by decide +kernel
theorem dX10_shut_93 : decode cX10_shut 93 = .ok (.iaload, 1) := by decide +kernel
theorem dX10_shut_94 : decode cX10_shut 94 = .ok (.iload 7, 2) := by decide +kernel
theorem dX10_shut_96 : decode cX10_shut 96 = .ok (.ishr, 1) := by decide +kernel
theorem dX10_shut_97 : decode cX10_shut 97 = .ok (.iconst 1, 1) := by decide +kernel
theorem dX10_shut_98 : decode cX10_shut 98 = .ok (.iand, 1) := by decide +kernel
theorem dX10_shut_99 : decode cX10_shut 99 = .ok (.ifCond .ne 6, 3) := by decide +kernel
theorem dX10_shut_102 : decode cX10_shut 102 = .ok (.goto 41, 3) := by decide +kernel
theorem dX10_shut_105 : decode cX10_shut 105 = .ok (.aload_n 0, 1) := by decide +kernel
theorem dX10_shut_106 : decode cX10_shut 106 = .ok (.getfield 47, 3) := by decide +kernel
theorem dX10_shut_109 : decode cX10_shut 109 = .ok (.iload 6, 2) := by decide +kernel
theorem dX10_shut_111 : decode cX10_shut 111 = .ok (.iload 7, 2) := by decide +kernel
theorem dX10_shut_113 : decode cX10_shut 113 = .ok (.aload_n 3, 1) := by decide +kernel
theorem dX10_shut_114 : decode cX10_shut 114 = .ok (.invokevirtual 196, 3) := by decide +kernel
theorem dX10_shut_117 : decode cX10_shut 117 = .ok (.istore 8, 2) := by decide +kernel
theorem dX10_shut_119 : decode cX10_shut 119 = .ok (.iload 8, 2) := by decide +kernel
theorem dX10_shut_121 : decode cX10_shut 121 = .ok (.iload 5, 2) := by decide +kernel
theorem dX10_shut_123 : decode cX10_shut 123 = .ok (.invokestatic 193, 3) := by decide +kernel
theorem dX10_shut_126 : decode cX10_shut 126 = .ok (.ifCond .eq 17, 3) := by decide +kernel
theorem dX10_shut_129 : decode cX10_shut 129 = .ok (.bipush 10, 2) := by decide +kernel
theorem dX10_shut_131 : decode cX10_shut 131 = .ok (.iload 6, 2) := by decide +kernel
theorem dX10_shut_133 : decode cX10_shut 133 = .ok (.imul, 1) := by decide +kernel
theorem dX10_shut_134 : decode cX10_shut 134 = .ok (.iload 7, 2) := by decide +kernel
theorem dX10_shut_136 : decode cX10_shut 136 = .ok (.iadd, 1) := by decide +kernel
theorem dX10_shut_137 : decode cX10_shut 137 = .ok (.istore 4, 2) := by decide +kernel
theorem dX10_shut_139 : decode cX10_shut 139 = .ok (.iload 8, 2) := by decide +kernel
theorem dX10_shut_141 : decode cX10_shut 141 = .ok (.istore 5, 2) := by decide +kernel
theorem dX10_shut_143 : decode cX10_shut 143 = .ok (.iinc 7 1, 3) := by decide +kernel
theorem dX10_shut_146 : decode cX10_shut 146 = .ok (.goto (-69), 3) := by decide +kernel
theorem dX10_shut_149 : decode cX10_shut 149 = .ok (.iinc 6 1, 3) := by decide +kernel
theorem dX10_shut_152 : decode cX10_shut 152 = .ok (.goto (-88), 3) := by decide +kernel
theorem dX10_shut_155 : decode cX10_shut 155 = .ok (.iload_n 2, 1) := by decide +kernel
theorem dX10_shut_156 : decode cX10_shut 156 = .ok (.ifCond .ne 8, 3) := by decide +kernel
theorem dX10_shut_159 : decode cX10_shut 159 = .ok (.iload 4, 2) := by decide +kernel
theorem dX10_shut_161 : decode cX10_shut 161 = .ok (.goto 5, 3) := by decide +kernel
theorem dX10_shut_164 : decode cX10_shut 164 = .ok (.iload 5, 2) := by decide +kernel
theorem dX10_shut_166 : decode cX10_shut 166 = .ok (.ireturn, 1) := by decide +kernel
theorem dX10_look_0 : decode cX10_look 0 = .ok (.iload_n 1, 1) := by decide +kernel
theorem dX10_look_1 : decode cX10_look 1 = .ok (.iconst 1, 1) := by decide +kernel
theorem dX10_look_2 : decode cX10_look 2 = .ok (.if_icmp .lt 16, 3) := by decide +kernel
theorem dX10_look_5 : decode cX10_look 5 = .ok (.iload_n 1, 1) := by decide +kernel
theorem dX10_look_6 : decode cX10_look 6 = .ok (.iconst 3, 1) := by decide +kernel
theorem dX10_look_7 : decode cX10_look 7 = .ok (.if_icmp .gt 11, 3) := by decide +kernel
theorem dX10_look_10 : decode cX10_look 10 = .ok (.iload_n 2, 1) := by decide +kernel
theorem dX10_look_11 : decode cX10_look 11 = .ok (.iconst 2, 1) := by decide +kernel
theorem dX10_look_12 : decode cX10_look 12 = .ok (.invokestatic 76, 3) := by decide +kernel
theorem dX10_look_15 : decode cX10_look 15 = .ok (.ifCond .ne 6, 3) := by decide +kernel
theorem dX10_look_18 : decode cX10_look 18 = .ok (.bipush (-2), 2) := by decide +kernel
theorem dX10_look_20 : decode cX10_look 20 = .ok (.ireturn, 1) := by decide +kernel
theorem dX10_look_21 : decode cX10_look 21 = .ok (.aload_n 0, 1) := by decide +kernel
theorem dX10_look_22 : decode cX10_look 22 = .ok (.getfield 38, 3) := by decide +kernel
theorem dX10_look_25 : decode cX10_look 25 = .ok (.aload_n 0, 1) := by decide +kernel
theorem dX10_look_26 : decode cX10_look 26 = .ok (.getfield 10, 3) := by decide +kernel
theorem dX10_look_29 : decode cX10_look 29 = .ok (.getfield 103, 3) := by decide +kernel
theorem dX10_look_32 : decode cX10_look 32 = .ok (.invokevirtual 136, 3) := by decide +kernel
theorem dX10_look_35 : decode cX10_look 35 = .ok (.aload_n 0, 1) := by decide +kernel
theorem dX10_look_36 : decode cX10_look 36 = .ok (.getfield 38, 3) := by decide +kernel
theorem dX10_look_39 : decode cX10_look 39 = .ok (.aload_n 0, 1) := by decide +kernel
theorem dX10_look_40 : decode cX10_look 40 = .ok (.getfield 10, 3) := by decide +kernel
theorem dX10_look_43 : decode cX10_look 43 = .ok (.getfield 147, 3) := by decide +kernel
theorem dX10_look_46 : decode cX10_look 46 = .ok (.invokevirtual 140, 3) := by decide +kernel
theorem dX10_look_49 : decode cX10_look 49 = .ok (.istore_n 3, 1) := by decide +kernel
theorem dX10_look_50 : decode cX10_look 50 = .ok (.iconst 0, 1) := by decide +kernel
theorem dX10_look_51 : decode cX10_look 51 = .ok (.istore 4, 2) := by decide +kernel
theorem dX10_look_53 : decode cX10_look 53 = .ok (.bipush 9, 2) := by decide +kernel
theorem dX10_look_55 : decode cX10_look 55 = .ok (.istore 5, 2) := by decide +kernel
theorem dX10_look_57 : decode cX10_look 57 = .ok (.iconst 1, 1) := by decide +kernel
theorem dX10_look_58 : decode cX10_look 58 = .ok (.istore 6, 2) := by decide +kernel
theorem dX10_look_60 : decode cX10_look 60 = .ok (.iload 6, 2) := by decide +kernel
theorem dX10_look_62 : decode cX10_look 62 = .ok (.sipush 255, 3) := by decide +kernel
theorem dX10_look_65 : decode cX10_look 65 = .ok (.if_icmp .gt 54, 3) := by decide +kernel
theorem dX10_look_68 : decode cX10_look 68 = .ok (.iload 6, 2) := by decide +kernel
theorem dX10_look_70 : decode cX10_look 70 = .ok (.invokestatic 178, 3) := by decide +kernel
theorem dX10_look_73 : decode cX10_look 73 = .ok (.iload_n 1, 1) := by decide +kernel
theorem dX10_look_74 : decode cX10_look 74 = .ok (.if_icmp .eq 6, 3) := by decide +kernel
theorem dX10_look_77 : decode cX10_look 77 = .ok (.goto 36, 3) := by decide +kernel
theorem dX10_look_80 : decode cX10_look 80 = .ok (.aload_n 0, 1) := by decide +kernel
theorem dX10_look_81 : decode cX10_look 81 = .ok (.getfield 38, 3) := by decide +kernel
theorem dX10_look_84 : decode cX10_look 84 = .ok (.iload_n 3, 1) := by decide +kernel
theorem dX10_look_85 : decode cX10_look 85 = .ok (.iload 6, 2) := by decide +kernel
theorem dX10_look_87 : decode cX10_look 87 = .ok (.iconst (-1), 1) := by decide +kernel
theorem dX10_look_88 : decode cX10_look 88 = .ok (.ixor, 1) := by decide +kernel
theorem dX10_look_89 : decode cX10_look 89 = .ok (.iand, 1) := by decide +kernel
theorem dX10_look_90 : decode cX10_look 90 = .ok (.invokevirtual 140, 3) := by decide +kernel
theorem dX10_look_93 : decode cX10_look 93 = .ok (.invokestatic 178, 3) := by decide +kernel
theorem dX10_look_96 : decode cX10_look 96 = .ok (.istore 7, 2) := by decide +kernel
theorem dX10_look_98 : decode cX10_look 98 = .ok (.iload 7, 2) := by decide +kernel
theorem dX10_look_100 : decode cX10_look 100 = .ok (.iload 5, 2) := by decide +kernel
theorem dX10_look_102 : decode cX10_look 102 = .ok (.if_icmp .ge 11, 3) := by decide +kernel
theorem dX10_look_105 : decode cX10_look 105 = .ok (.iload 6, 2) := by decide +kernel
theorem dX10_look_107 : decode cX10_look 107 = .ok (.istore 4, 2) := by decide +kernel
theorem dX10_look_109 : decode cX10_look 109 = .ok (.iload 7, 2) := by decide +kernel
theorem dX10_look_111 : decode cX10_look 111 = .ok (.istore 5, 2) := by decide +kernel
theorem dX10_look_113 : decode cX10_look 113 = .ok (.iinc 6 1, 3) := by decide +kernel
theorem dX10_look_116 : decode cX10_look 116 = .ok (.goto (-56), 3) := by decide +kernel
theorem dX10_look_119 : decode cX10_look 119 = .ok (.iload_n 2, 1) := by decide +kernel
theorem dX10_look_120 : decode cX10_look 120 = .ok (.ifCond .ne 8, 3) := by decide +kernel
theorem dX10_look_123 : decode cX10_look 123 = .ok (.iload 4, 2) := by decide +kernel
theorem dX10_look_125 : decode cX10_look 125 = .ok (.goto 5, 3) := by decide +kernel
theorem dX10_look_128 : decode cX10_look 128 = .ok (.iload 5, 2) := by decide +kernel
theorem dX10_look_130 : decode cX10_look 130 = .ok (.ireturn, 1) := by decide +kernel
theorem dX10_tells_0 : decode cX10_tells 0 = .ok (.iload_n 1, 1) := by decide +kernel
theorem dX10_tells_1 : decode cX10_tells 1 = .ok (.iconst 4, 1) := by decide +kernel
theorem dX10_tells_2 : decode cX10_tells 2 = .ok (.invokestatic 76, 3) := by decide +kernel
theorem dX10_tells_5 : decode cX10_tells 5 = .ok (.ifCond .eq 11, 3) := by decide +kernel
theorem dX10_tells_8 : decode cX10_tells 8 = .ok (.iload_n 2, 1) := by decide +kernel
theorem dX10_tells_9 : decode cX10_tells 9 = .ok (.iconst 5, 1) := by decide +kernel
theorem dX10_tells_10 : decode cX10_tells 10 = .ok (.invokestatic 76, 3) := by decide +kernel
theorem dX10_tells_13 : decode cX10_tells 13 = .ok (.ifCond .ne 6, 3) := by decide +kernel
theorem dX10_tells_16 : decode cX10_tells 16 = .ok (.bipush (-2), 2) := by decide +kernel
theorem dX10_tells_18 : decode cX10_tells 18 = .ok (.ireturn, 1) := by decide +kernel
theorem dX10_tells_19 : decode cX10_tells 19 = .ok (.aload_n 0, 1) := by decide +kernel
theorem dX10_tells_20 : decode cX10_tells 20 = .ok (.getfield 67, 3) := by decide +kernel
theorem dX10_tells_23 : decode cX10_tells 23 = .ok (.iload_n 1, 1) := by decide +kernel
theorem dX10_tells_24 : decode cX10_tells 24 = .ok (.aaload, 1) := by decide +kernel
theorem dX10_tells_25 : decode cX10_tells 25 = .ok (.astore_n 3, 1) := by decide +kernel
theorem dX10_tells_26 : decode cX10_tells 26 = .ok (.aload_n 3, 1) := by decide +kernel
theorem dX10_tells_27 : decode cX10_tells 27 = .ok (.invokestatic 200, 3) := by decide +kernel
theorem dX10_tells_30 : decode cX10_tells 30 = .ok (.istore 4, 2) := by decide +kernel
theorem dX10_tells_32 : decode cX10_tells 32 = .ok (.iload 4, 2) := by decide +kernel
theorem dX10_tells_34 : decode cX10_tells 34 = .ok (.ifCond .eq 6, 3) := by decide +kernel
theorem dX10_tells_37 : decode cX10_tells 37 = .ok (.iload 4, 2) := by decide +kernel
theorem dX10_tells_39 : decode cX10_tells 39 = .ok (.ireturn, 1) := by decide +kernel
theorem dX10_tells_40 : decode cX10_tells 40 = .ok (.iload_n 2, 1) := by decide +kernel
theorem dX10_tells_41 : decode cX10_tells 41 = .ok (.iconst 3, 1) := by decide +kernel
theorem dX10_tells_42 : decode cX10_tells 42 = .ok (.if_icmp .ne 16, 3) := by decide +kernel
theorem dX10_tells_45 : decode cX10_tells 45 = .ok (.aload_n 0, 1) := by decide +kernel
theorem dX10_tells_46 : decode cX10_tells 46 = .ok (.getfield 54, 3) := by decide +kernel
theorem dX10_tells_49 : decode cX10_tells 49 = .ok (.aload_n 3, 1) := by decide +kernel
theorem dX10_tells_50 : decode cX10_tells 50 = .ok (.iconst (-1), 1) := by decide +kernel
theorem dX10_tells_51 : decode cX10_tells 51 = .ok (.iconst 1, 1) := by decide +kernel
theorem dX10_tells_52 : decode cX10_tells 52 = .ok (.bipush 10, 2) := by decide +kernel
theorem dX10_tells_54 : decode cX10_tells 54 = .ok (.invokevirtual 204, 3) := by decide +kernel
theorem dX10_tells_57 : decode cX10_tells 57 = .ok (.ireturn, 1) := by decide +kernel
theorem dX10_tells_58 : decode cX10_tells 58 = .ok (.iload_n 2, 1) := by decide +kernel
theorem dX10_tells_59 : decode cX10_tells 59 = .ok (.iconst 4, 1) := by decide +kernel
theorem dX10_tells_60 : decode cX10_tells 60 = .ok (.if_icmp .ne 22, 3) := by decide +kernel
theorem dX10_tells_63 : decode cX10_tells 63 = .ok (.aload_n 0, 1) := by decide +kernel
theorem dX10_tells_64 : decode cX10_tells 64 = .ok (.getfield 54, 3) := by decide +kernel
theorem dX10_tells_67 : decode cX10_tells 67 = .ok (.aload_n 3, 1) := by decide +kernel
theorem dX10_tells_68 : decode cX10_tells 68 = .ok (.iconst (-1), 1) := by decide +kernel
theorem dX10_tells_69 : decode cX10_tells 69 = .ok (.bipush 11, 2) := by decide +kernel
theorem dX10_tells_71 : decode cX10_tells 71 = .ok (.aload_n 0, 1) := by decide +kernel
theorem dX10_tells_72 : decode cX10_tells 72 = .ok (.getfield 22, 3) := by decide +kernel
theorem dX10_tells_75 : decode cX10_tells 75 = .ok (.getfield 124, 3) := by decide +kernel
theorem dX10_tells_78 : decode cX10_tells 78 = .ok (.invokevirtual 204, 3) := by decide +kernel
theorem dX10_tells_81 : decode cX10_tells 81 = .ok (.ireturn, 1) := by decide +kernel
theorem dX10_tells_82 : decode cX10_tells 82 = .ok (.aload_n 0, 1) := by decide +kernel
theorem dX10_tells_83 : decode cX10_tells 83 = .ok (.getfield 54, 3) := by decide +kernel
theorem dX10_tells_86 : decode cX10_tells 86 = .ok (.aload_n 3, 1) := by decide +kernel
theorem dX10_tells_87 : decode cX10_tells 87 = .ok (.invokevirtual 208, 3) := by decide +kernel
theorem dX10_tells_90 : decode cX10_tells 90 = .ok (.pop, 1) := by decide +kernel
theorem dX10_tells_91 : decode cX10_tells 91 = .ok (.iload_n 2, 1) := by decide +kernel
theorem dX10_tells_92 : decode cX10_tells 92 = .ok (.ifCond .ne 11, 3) := by decide +kernel
theorem dX10_tells_95 : decode cX10_tells 95 = .ok (.aload_n 0, 1) := by decide +kernel
theorem dX10_tells_96 : decode cX10_tells 96 = .ok (.getfield 54, 3) := by decide +kernel
theorem dX10_tells_99 : decode cX10_tells 99 = .ok (.getfield 212, 3) := by decide +kernel
theorem dX10_tells_102 : decode cX10_tells 102 = .ok (.ireturn, 1) := by decide +kernel
theorem dX10_tells_103 : decode cX10_tells 103 = .ok (.iload_n 2, 1) := by decide +kernel
theorem dX10_tells_104 : decode cX10_tells 104 = .ok (.iconst 1, 1) := by decide +kernel
theorem dX10_tells_105 : decode cX10_tells 105 = .ok (.if_icmp .ne 13, 3) := by decide +kernel
theorem dX10_tells_108 : decode cX10_tells 108 = .ok (.aload_n 0, 1) := by decide +kernel
theorem dX10_tells_109 : decode cX10_tells 109 = .ok (.getfield 54, 3) := by decide +kernel
theorem dX10_tells_112 : decode cX10_tells 112 = .ok (.getfield 215, 3) := by decide +kernel
theorem dX10_tells_115 : decode cX10_tells 115 = .ok (.goto 10, 3) := by decide +kernel
theorem dX10_tells_118 : decode cX10_tells 118 = .ok (.aload_n 0, 1) := by decide +kernel
theorem dX10_tells_119 : decode cX10_tells 119 = .ok (.getfield 54, 3) := by decide +kernel
theorem dX10_tells_122 : decode cX10_tells 122 = .ok (.getfield 218, 3) := by decide +kernel
theorem dX10_tells_125 : decode cX10_tells 125 = .ok (.ireturn, 1) := by decide +kernel
theorem dX10_eyes_0 : decode cX10_eyes 0 = .ok (.iload_n 1, 1) := by decide +kernel
theorem dX10_eyes_1 : decode cX10_eyes 1 = .ok (.iconst 4, 1) := by decide +kernel
theorem dX10_eyes_2 : decode cX10_eyes 2 = .ok (.invokestatic 76, 3) := by decide +kernel
theorem dX10_eyes_5 : decode cX10_eyes 5 = .ok (.ifCond .eq 25, 3) := by decide +kernel
theorem dX10_eyes_8 : decode cX10_eyes 8 = .ok (.iload_n 2, 1) := by decide +kernel
theorem dX10_eyes_9 : decode cX10_eyes 9 = .ok (.aload_n 0, 1) := by decide +kernel
theorem dX10_eyes_10 : decode cX10_eyes 10 = .ok (.getfield 10, 3) := by decide +kernel
theorem dX10_eyes_13 : decode cX10_eyes 13 = .ok (.getfield 80, 3) := by decide +kernel
theorem dX10_eyes_16 : decode cX10_eyes 16 = .ok (.invokestatic 76, 3) := by decide +kernel
theorem dX10_eyes_19 : decode cX10_eyes 19 = .ok (.ifCond .eq 11, 3) := by decide +kernel
theorem dX10_eyes_22 : decode cX10_eyes 22 = .ok (.iload_n 3, 1) := by decide +kernel
theorem dX10_eyes_23 : decode cX10_eyes 23 = .ok (.iconst 2, 1) := by decide +kernel
theorem dX10_eyes_24 : decode cX10_eyes 24 = .ok (.invokestatic 76, 3) := by decide +kernel
theorem dX10_eyes_27 : decode cX10_eyes 27 = .ok (.ifCond .ne 6, 3) := by decide +kernel
theorem dX10_eyes_30 : decode cX10_eyes 30 = .ok (.bipush (-2), 2) := by decide +kernel
theorem dX10_eyes_32 : decode cX10_eyes 32 = .ok (.ireturn, 1) := by decide +kernel
theorem dX10_eyes_33 : decode cX10_eyes 33 = .ok (.aload_n 0, 1) := by decide +kernel
theorem dX10_eyes_34 : decode cX10_eyes 34 = .ok (.getfield 67, 3) := by decide +kernel
theorem dX10_eyes_37 : decode cX10_eyes 37 = .ok (.iload_n 1, 1) := by decide +kernel
theorem dX10_eyes_38 : decode cX10_eyes 38 = .ok (.aaload, 1) := by decide +kernel
theorem dX10_eyes_39 : decode cX10_eyes 39 = .ok (.astore 4, 2) := by decide +kernel
theorem dX10_eyes_41 : decode cX10_eyes 41 = .ok (.aload 4, 2) := by decide +kernel
theorem dX10_eyes_43 : decode cX10_eyes 43 = .ok (.invokestatic 200, 3) := by decide +kernel
theorem dX10_eyes_46 : decode cX10_eyes 46 = .ok (.istore 5, 2) := by decide +kernel
theorem dX10_eyes_48 : decode cX10_eyes 48 = .ok (.iload 5, 2) := by decide +kernel
theorem dX10_eyes_50 : decode cX10_eyes 50 = .ok (.ifCond .eq 6, 3) := by decide +kernel
theorem dX10_eyes_53 : decode cX10_eyes 53 = .ok (.iload 5, 2) := by decide +kernel
theorem dX10_eyes_55 : decode cX10_eyes 55 = .ok (.ireturn, 1) := by decide +kernel
theorem dX10_eyes_56 : decode cX10_eyes 56 = .ok (.iload_n 3, 1) := by decide +kernel
theorem dX10_eyes_57 : decode cX10_eyes 57 = .ok (.ifCond .ne 18, 3) := by decide +kernel
theorem dX10_eyes_60 : decode cX10_eyes 60 = .ok (.aload_n 0, 1) := by decide +kernel
theorem dX10_eyes_61 : decode cX10_eyes 61 = .ok (.getfield 54, 3) := by decide +kernel
theorem dX10_eyes_64 : decode cX10_eyes 64 = .ok (.aload 4, 2) := by decide +kernel
theorem dX10_eyes_66 : decode cX10_eyes 66 = .ok (.iload_n 2, 1) := by decide +kernel
theorem dX10_eyes_67 : decode cX10_eyes 67 = .ok (.bipush 6, 2) := by decide +kernel
theorem dX10_eyes_69 : decode cX10_eyes 69 = .ok (.bipush 6, 2) := by decide +kernel
theorem dX10_eyes_71 : decode cX10_eyes 71 = .ok (.invokevirtual 204, 3) := by decide +kernel
theorem dX10_eyes_74 : decode cX10_eyes 74 = .ok (.ireturn, 1) := by decide +kernel
theorem dX10_eyes_75 : decode cX10_eyes 75 = .ok (.aload_n 0, 1) := by decide +kernel
theorem dX10_eyes_76 : decode cX10_eyes 76 = .ok (.getfield 54, 3) := by decide +kernel
theorem dX10_eyes_79 : decode cX10_eyes 79 = .ok (.aload 4, 2) := by decide +kernel
theorem dX10_eyes_81 : decode cX10_eyes 81 = .ok (.iload_n 2, 1) := by decide +kernel
theorem dX10_eyes_82 : decode cX10_eyes 82 = .ok (.iconst 4, 1) := by decide +kernel
theorem dX10_eyes_83 : decode cX10_eyes 83 = .ok (.bipush 10, 2) := by decide +kernel
theorem dX10_eyes_85 : decode cX10_eyes 85 = .ok (.invokevirtual 204, 3) := by decide +kernel
theorem dX10_eyes_88 : decode cX10_eyes 88 = .ok (.ireturn, 1) := by decide +kernel
theorem dX10_film_0 : decode cX10_film 0 = .ok (.iload_n 1, 1) := by decide +kernel
theorem dX10_film_1 : decode cX10_film 1 = .ok (.iconst 4, 1) := by decide +kernel
theorem dX10_film_2 : decode cX10_film 2 = .ok (.invokestatic 76, 3) := by decide +kernel
theorem dX10_film_5 : decode cX10_film 5 = .ok (.ifCond .eq 12, 3) := by decide +kernel
theorem dX10_film_8 : decode cX10_film 8 = .ok (.iload_n 3, 1) := by decide +kernel
theorem dX10_film_9 : decode cX10_film 9 = .ok (.bipush 31, 2) := by decide +kernel
theorem dX10_film_11 : decode cX10_film 11 = .ok (.invokestatic 76, 3) := by decide +kernel
theorem dX10_film_14 : decode cX10_film 14 = .ok (.ifCond .ne 6, 3) := by decide +kernel
theorem dX10_film_17 : decode cX10_film 17 = .ok (.bipush (-2), 2) := by decide +kernel
theorem dX10_film_19 : decode cX10_film 19 = .ok (.ireturn, 1) := by decide +kernel
theorem dX10_film_20 : decode cX10_film 20 = .ok (.aload_n 0, 1) := by decide +kernel
theorem dX10_film_21 : decode cX10_film 21 = .ok (.getfield 67, 3) := by decide +kernel
theorem dX10_film_24 : decode cX10_film 24 = .ok (.iload_n 1, 1) := by decide +kernel
theorem dX10_film_25 : decode cX10_film 25 = .ok (.aaload, 1) := by decide +kernel
theorem dX10_film_26 : decode cX10_film 26 = .ok (.astore 4, 2) := by decide +kernel
theorem dX10_film_28 : decode cX10_film 28 = .ok (.aload 4, 2) := by decide +kernel
theorem dX10_film_30 : decode cX10_film 30 = .ok (.iconst 0, 1) := by decide +kernel
theorem dX10_film_31 : decode cX10_film 31 = .ok (.iload_n 3, 1) := by decide +kernel
theorem dX10_film_32 : decode cX10_film 32 = .ok (.invokevirtual 221, 3) := by decide +kernel
theorem dX10_film_35 : decode cX10_film 35 = .ok (.aload_n 0, 1) := by decide +kernel
theorem dX10_film_36 : decode cX10_film 36 = .ok (.getfield 61, 3) := by decide +kernel
theorem dX10_film_39 : decode cX10_film 39 = .ok (.iload_n 2, 1) := by decide +kernel
theorem dX10_film_40 : decode cX10_film 40 = .ok (.invokevirtual 224, 3) := by decide +kernel
theorem dX10_film_43 : decode cX10_film 43 = .ok (.iconst 0, 1) := by decide +kernel
theorem dX10_film_44 : decode cX10_film 44 = .ok (.istore 5, 2) := by decide +kernel
theorem dX10_film_46 : decode cX10_film 46 = .ok (.iload 5, 2) := by decide +kernel
theorem dX10_film_48 : decode cX10_film 48 = .ok (.iload_n 3, 1) := by decide +kernel
theorem dX10_film_49 : decode cX10_film 49 = .ok (.if_icmp .ge 44, 3) := by decide +kernel
theorem dX10_film_52 : decode cX10_film 52 = .ok (.aload_n 0, 1) := by decide +kernel
theorem dX10_film_53 : decode cX10_film 53 = .ok (.getfield 61, 3) := by decide +kernel
theorem dX10_film_56 : decode cX10_film 56 = .ok (.invokevirtual 227, 3) := by decide +kernel
theorem dX10_film_59 : decode cX10_film 59 = .ok (.aload 4, 2) := by decide +kernel
theorem dX10_film_61 : decode cX10_film 61 = .ok (.iload 5, 2) := by decide +kernel
theorem dX10_film_63 : decode cX10_film 63 = .ok (.aload_n 0, 1) := by decide +kernel
theorem dX10_film_64 : decode cX10_film 64 = .ok (.getfield 61, 3) := by decide +kernel
theorem dX10_film_67 : decode cX10_film 67 = .ok (.invokevirtual 230, 3) := by decide +kernel
theorem dX10_film_70 : decode cX10_film 70 = .ok (.ifCond .eq 13, 3) := by decide +kernel
theorem dX10_film_73 : decode cX10_film 73 = .ok (.aload_n 0, 1) := by decide +kernel
theorem dX10_film_74 : decode cX10_film 74 = .ok (.getfield 61, 3) := by decide +kernel
theorem dX10_film_77 : decode cX10_film 77 = .ok (.getfield 234, 3) := by decide +kernel
theorem dX10_film_80 : decode cX10_film 80 = .ok (.goto 4, 3) := by decide +kernel
theorem dX10_film_83 : decode cX10_film 83 = .ok (.iconst (-1), 1) := by decide +kernel
theorem dX10_film_84 : decode cX10_film 84 = .ok (.invokevirtual 237, 3) := by decide +kernel
theorem dX10_film_87 : decode cX10_film 87 = .ok (.iinc 5 1, 3) := by decide +kernel
theorem dX10_film_90 : decode cX10_film 90 = .ok (.goto (-44), 3) := by decide +kernel
theorem dX10_film_93 : decode cX10_film 93 = .ok (.iload_n 3, 1) := by decide +kernel
theorem dX10_film_94 : decode cX10_film 94 = .ok (.ireturn, 1) := by decide +kernel
theorem dX10_drawn_0 : decode cX10_drawn 0 = .ok (.iload_n 2, 1) := by decide +kernel
theorem dX10_drawn_1 : decode cX10_drawn 1 = .ok (.bipush 41, 2) := by decide +kernel
theorem dX10_drawn_3 : decode cX10_drawn 3 = .ok (.invokestatic 76, 3) := by decide +kernel
theorem dX10_drawn_6 : decode cX10_drawn 6 = .ok (.ifCond .ne 6, 3) := by decide +kernel
theorem dX10_drawn_9 : decode cX10_drawn 9 = .ok (.bipush (-2), 2) := by decide +kernel
theorem dX10_drawn_11 : decode cX10_drawn 11 = .ok (.ireturn, 1) := by decide +kernel
theorem dX10_drawn_12 : decode cX10_drawn 12 = .ok (.aload_n 0, 1) := by decide +kernel
theorem dX10_drawn_13 : decode cX10_drawn 13 = .ok (.getfield 61, 3) := by decide +kernel
theorem dX10_drawn_16 : decode cX10_drawn 16 = .ok (.iload_n 1, 1) := by decide +kernel
theorem dX10_drawn_17 : decode cX10_drawn 17 = .ok (.invokevirtual 224, 3) := by decide +kernel
theorem dX10_drawn_20 : decode cX10_drawn 20 = .ok (.iconst 0, 1) := by decide +kernel
theorem dX10_drawn_21 : decode cX10_drawn 21 = .ok (.istore_n 3, 1) := by decide +kernel
theorem dX10_drawn_22 : decode cX10_drawn 22 = .ok (.iload_n 3, 1) := by decide +kernel
theorem dX10_drawn_23 : decode cX10_drawn 23 = .ok (.iload_n 2, 1) := by decide +kernel
theorem dX10_drawn_24 : decode cX10_drawn 24 = .ok (.if_icmp .ge 16, 3) := by decide +kernel
theorem dX10_drawn_27 : decode cX10_drawn 27 = .ok (.aload_n 0, 1) := by decide +kernel
theorem dX10_drawn_28 : decode cX10_drawn 28 = .ok (.getfield 61, 3) := by decide +kernel
theorem dX10_drawn_31 : decode cX10_drawn 31 = .ok (.invokevirtual 227, 3) := by decide +kernel
theorem dX10_drawn_34 : decode cX10_drawn 34 = .ok (.iinc 3 1, 3) := by decide +kernel
theorem dX10_drawn_37 : decode cX10_drawn 37 = .ok (.goto (-15), 3) := by decide +kernel
theorem dX10_drawn_40 : decode cX10_drawn 40 = .ok (.aload_n 0, 1) := by decide +kernel
theorem dX10_drawn_41 : decode cX10_drawn 41 = .ok (.getfield 61, 3) := by decide +kernel
theorem dX10_drawn_44 : decode cX10_drawn 44 = .ok (.getfield 234, 3) := by decide +kernel
theorem dX10_drawn_47 : decode cX10_drawn 47 = .ok (.ireturn, 1) := by decide +kernel
theorem dX10_chance_0 : decode cX10_chance 0 = .ok (.iload_n 2, 1) := by decide +kernel
theorem dX10_chance_1 : decode cX10_chance 1 = .ok (.iconst 1, 1) := by decide +kernel
theorem dX10_chance_2 : decode cX10_chance 2 = .ok (.if_icmp .lt 17, 3) := by decide +kernel
theorem dX10_chance_5 : decode cX10_chance 5 = .ok (.iload_n 2, 1) := by decide +kernel
theorem dX10_chance_6 : decode cX10_chance 6 = .ok (.bipush 20, 2) := by decide +kernel
theorem dX10_chance_8 : decode cX10_chance 8 = .ok (.if_icmp .gt 11, 3) := by decide +kernel
theorem dX10_chance_11 : decode cX10_chance 11 = .ok (.iload_n 3, 1) := by decide +kernel
theorem dX10_chance_12 : decode cX10_chance 12 = .ok (.iconst 2, 1) := by decide +kernel
theorem dX10_chance_13 : decode cX10_chance 13 = .ok (.invokestatic 76, 3) := by decide +kernel
theorem dX10_chance_16 : decode cX10_chance 16 = .ok (.ifCond .ne 7, 3) := by decide +kernel
theorem dX10_chance_19 : decode cX10_chance 19 = .ok (.ldc2_w 239, 3) := by decide +kernel
theorem dX10_chance_22 : decode cX10_chance 22 = .ok (.lreturn, 1) := by decide +kernel
theorem dX10_chance_23 : decode cX10_chance 23 = .ok (.iconst 0, 1) := by decide +kernel
theorem dX10_chance_24 : decode cX10_chance 24 = .ok (.istore 4, 2) := by decide +kernel
theorem dX10_chance_26 : decode cX10_chance 26 = .ok (.iconst 0, 1) := by decide +kernel
theorem dX10_chance_27 : decode cX10_chance 27 = .ok (.istore 5, 2) := by decide +kernel
theorem dX10_chance_29 : decode cX10_chance 29 = .ok (.iload 5, 2) := by decide +kernel
theorem dX10_chance_31 : decode cX10_chance 31 = .ok (.iload_n 2, 1) := by decide +kernel
theorem dX10_chance_32 : decode cX10_chance 32 = .ok (.if_icmp .ge 26, 3) := by decide +kernel
theorem dX10_chance_35 : decode cX10_chance 35 = .ok (.aload_n 0, 1) := by decide +kernel
theorem dX10_chance_36 : decode cX10_chance 36 = .ok (.getfield 61, 3) := by decide +kernel
theorem dX10_chance_39 : decode cX10_chance 39 = .ok (.iload_n 1, 1) := by decide +kernel
theorem dX10_chance_40 : decode cX10_chance 40 = .ok (.iload 5, 2) := by decide +kernel
theorem dX10_chance_42 : decode cX10_chance 42 = .ok (.iadd, 1) := by decide +kernel
theorem dX10_chance_43 : decode cX10_chance 43 = .ok (.invokevirtual 241, 3) := by decide +kernel
theorem dX10_chance_46 : decode cX10_chance 46 = .ok (.ifCond .eq 6, 3) := by decide +kernel
theorem dX10_chance_49 : decode cX10_chance 49 = .ok (.iinc 4 1, 3) := by decide +kernel
theorem dX10_chance_52 : decode cX10_chance 52 = .ok (.iinc 5 1, 3) := by decide +kernel
theorem dX10_chance_55 : decode cX10_chance 55 = .ok (.goto (-26), 3) := by decide +kernel
theorem dX10_chance_58 : decode cX10_chance 58 = .ok (.iload 4, 2) := by decide +kernel
theorem dX10_chance_60 : decode cX10_chance 60 = .ok (.iload_n 2, 1) := by decide +kernel
theorem dX10_chance_61 : decode cX10_chance 61 = .ok (.invokestatic 244, 3) := by decide +kernel
theorem dX10_chance_64 : decode cX10_chance 64 = .ok (.istore 5, 2) := by decide +kernel
theorem dX10_chance_66 : decode cX10_chance 66 = .ok (.iload_n 3, 1) := by decide +kernel
theorem dX10_chance_67 : decode cX10_chance 67 = .ok (.ifCond .ne 8, 3) := by decide +kernel
theorem dX10_chance_70 : decode cX10_chance 70 = .ok (.iload 4, 2) := by decide +kernel
theorem dX10_chance_72 : decode cX10_chance 72 = .ok (.goto 4, 3) := by decide +kernel
theorem dX10_chance_75 : decode cX10_chance 75 = .ok (.iload_n 2, 1) := by decide +kernel
theorem dX10_chance_76 : decode cX10_chance 76 = .ok (.iload 5, 2) := by decide +kernel
theorem dX10_chance_78 : decode cX10_chance 78 = .ok (.idiv, 1) := by decide +kernel
theorem dX10_chance_79 : decode cX10_chance 79 = .ok (.i2l, 1) := by decide +kernel
theorem dX10_chance_80 : decode cX10_chance 80 = .ok (.lreturn, 1) := by decide +kernel
theorem dX10_image_0 : decode cX10_image 0 = .ok (.aload_n 0, 1) := by decide +kernel
theorem dX10_image_1 : decode cX10_image 1 = .ok (.getfield 16, 3) := by decide +kernel
theorem dX10_image_4 : decode cX10_image 4 = .ok (.aload_n 0, 1) := by decide +kernel
theorem dX10_image_5 : decode cX10_image 5 = .ok (.getfield 10, 3) := by decide +kernel
theorem dX10_image_8 : decode cX10_image 8 = .ok (.invokevirtual 247, 3) := by decide +kernel
theorem dX10_image_11 : decode cX10_image 11 = .ok (.aload_n 0, 1) := by decide +kernel
theorem dX10_image_12 : decode cX10_image 12 = .ok (.iconst 1, 1) := by decide +kernel
theorem dX10_image_13 : decode cX10_image 13 = .ok (.putfield 251, 3) := by decide +kernel
theorem dX10_image_16 : decode cX10_image 16 = .ok (.aload_n 0, 1) := by decide +kernel
theorem dX10_image_17 : decode cX10_image 17 = .ok (.getfield 10, 3) := by decide +kernel
theorem dX10_image_20 : decode cX10_image 20 = .ok (.getfield 80, 3) := by decide +kernel
theorem dX10_image_23 : decode cX10_image 23 = .ok (.ireturn, 1) := by decide +kernel
theorem dX10_back_0 : decode cX10_back 0 = .ok (.aload_n 0, 1) := by decide +kernel
theorem dX10_back_1 : decode cX10_back 1 = .ok (.getfield 251, 3) := by decide +kernel
theorem dX10_back_4 : decode cX10_back 4 = .ok (.ifCond .ne 6, 3) := by decide +kernel
theorem dX10_back_7 : decode cX10_back 7 = .ok (.bipush (-3), 2) := by decide +kernel
theorem dX10_back_9 : decode cX10_back 9 = .ok (.ireturn, 1) := by decide +kernel
theorem dX10_back_10 : decode cX10_back 10 = .ok (.aload_n 0, 1) := by decide +kernel
theorem dX10_back_11 : decode cX10_back 11 = .ok (.getfield 10, 3) := by decide +kernel
theorem dX10_back_14 : decode cX10_back 14 = .ok (.aload_n 0, 1) := by decide +kernel
theorem dX10_back_15 : decode cX10_back 15 = .ok (.getfield 16, 3) := by decide +kernel
theorem dX10_back_18 : decode cX10_back 18 = .ok (.invokevirtual 247, 3) := by decide +kernel
theorem dX10_back_21 : decode cX10_back 21 = .ok (.aload_n 0, 1) := by decide +kernel
theorem dX10_back_22 : decode cX10_back 22 = .ok (.getfield 10, 3) := by decide +kernel
theorem dX10_back_25 : decode cX10_back 25 = .ok (.getfield 80, 3) := by decide +kernel
theorem dX10_back_28 : decode cX10_back 28 = .ok (.ireturn, 1) := by decide +kernel
theorem dX10_count_0 : decode cX10_count 0 = .ok (.iload_n 1, 1) := by decide +kernel
theorem dX10_count_1 : decode cX10_count 1 = .ok (.tableswitch 90 0 5 #[39, 47, 55, 66, 74, 82], 39) := by decide +kernel
theorem dX10_count_40 : decode cX10_count 40 = .ok (.aload_n 0, 1) := by decide +kernel
theorem dX10_count_41 : decode cX10_count 41 = .ok (.getfield 10, 3) := by decide +kernel
theorem dX10_count_44 : decode cX10_count 44 = .ok (.getfield 80, 3) := by decide +kernel
theorem dX10_count_47 : decode cX10_count 47 = .ok (.ireturn, 1) := by decide +kernel
theorem dX10_count_48 : decode cX10_count 48 = .ok (.aload_n 0, 1) := by decide +kernel
theorem dX10_count_49 : decode cX10_count 49 = .ok (.getfield 10, 3) := by decide +kernel
theorem dX10_count_52 : decode cX10_count 52 = .ok (.invokevirtual 255, 3) := by decide +kernel
theorem dX10_count_55 : decode cX10_count 55 = .ok (.ireturn, 1) := by decide +kernel
theorem dX10_count_56 : decode cX10_count 56 = .ok (.aload_n 0, 1) := by decide +kernel
theorem dX10_count_57 : decode cX10_count 57 = .ok (.getfield 10, 3) := by decide +kernel
theorem dX10_count_60 : decode cX10_count 60 = .ok (.getfield 147, 3) := by decide +kernel
theorem dX10_count_63 : decode cX10_count 63 = .ok (.invokestatic 178, 3) := by decide +kernel
theorem dX10_count_66 : decode cX10_count 66 = .ok (.ireturn, 1) := by decide +kernel
theorem dX10_count_67 : decode cX10_count 67 = .ok (.aload_n 0, 1) := by decide +kernel
theorem dX10_count_68 : decode cX10_count 68 = .ok (.getfield 22, 3) := by decide +kernel
theorem dX10_count_71 : decode cX10_count 71 = .ok (.getfield 124, 3) := by decide +kernel
theorem dX10_count_74 : decode cX10_count 74 = .ok (.ireturn, 1) := by decide +kernel
theorem dX10_count_75 : decode cX10_count 75 = .ok (.aload_n 0, 1) := by decide +kernel
theorem dX10_count_76 : decode cX10_count 76 = .ok (.getfield 29, 3) := by decide +kernel
theorem dX10_count_79 : decode cX10_count 79 = .ok (.getfield 121, 3) := by decide +kernel
theorem dX10_count_82 : decode cX10_count 82 = .ok (.ireturn, 1) := by decide +kernel
theorem dX10_count_83 : decode cX10_count 83 = .ok (.aload_n 0, 1) := by decide +kernel
theorem dX10_count_84 : decode cX10_count 84 = .ok (.getfield 10, 3) := by decide +kernel
theorem dX10_count_87 : decode cX10_count 87 = .ok (.getfield 133, 3) := by decide +kernel
theorem dX10_count_90 : decode cX10_count 90 = .ok (.ireturn, 1) := by decide +kernel
theorem dX10_count_91 : decode cX10_count 91 = .ok (.bipush (-2), 2) := by decide +kernel
theorem dX10_count_93 : decode cX10_count 93 = .ok (.ireturn, 1) := by decide +kernel
theorem dX10_sheet_0 : decode cX10_sheet 0 = .ok (.iload_n 1, 1) := by decide +kernel
theorem dX10_sheet_1 : decode cX10_sheet 1 = .ok (.iconst 4, 1) := by decide +kernel
theorem dX10_sheet_2 : decode cX10_sheet 2 = .ok (.invokestatic 76, 3) := by decide +kernel
theorem dX10_sheet_5 : decode cX10_sheet 5 = .ok (.ifCond .eq 13, 3) := by decide +kernel
theorem dX10_sheet_8 : decode cX10_sheet 8 = .ok (.iload_n 2, 1) := by decide +kernel
theorem dX10_sheet_9 : decode cX10_sheet 9 = .ok (.iconst (-1), 1) := by decide +kernel
theorem dX10_sheet_10 : decode cX10_sheet 10 = .ok (.if_icmp .lt 8, 3) := by decide +kernel
theorem dX10_sheet_13 : decode cX10_sheet 13 = .ok (.iload_n 2, 1) := by decide +kernel
theorem dX10_sheet_14 : decode cX10_sheet 14 = .ok (.iconst 3, 1) := by decide +kernel
theorem dX10_sheet_15 : decode cX10_sheet 15 = .ok (.if_icmp .lt 6, 3) := by decide +kernel
theorem dX10_sheet_18 : decode cX10_sheet 18 = .ok (.bipush (-2), 2) := by decide +kernel
theorem dX10_sheet_20 : decode cX10_sheet 20 = .ok (.ireturn, 1) := by decide +kernel
theorem dX10_sheet_21 : decode cX10_sheet 21 = .ok (.iload_n 2, 1) := by decide +kernel
theorem dX10_sheet_22 : decode cX10_sheet 22 = .ok (.iconst (-1), 1) := by decide +kernel
theorem dX10_sheet_23 : decode cX10_sheet 23 = .ok (.if_icmp .ne 16, 3) := by decide +kernel
theorem dX10_sheet_26 : decode cX10_sheet 26 = .ok (.aload_n 0, 1) := by decide +kernel
theorem dX10_sheet_27 : decode cX10_sheet 27 = .ok (.getfield 67, 3) := by decide +kernel
theorem dX10_sheet_30 : decode cX10_sheet 30 = .ok (.iload_n 1, 1) := by decide +kernel
theorem dX10_sheet_31 : decode cX10_sheet 31 = .ok (.aaload, 1) := by decide +kernel
theorem dX10_sheet_32 : decode cX10_sheet 32 = .ok (.iconst (-1), 1) := by decide +kernel
theorem dX10_sheet_33 : decode cX10_sheet 33 = .ok (.iconst 0, 1) := by decide +kernel
theorem dX10_sheet_34 : decode cX10_sheet 34 = .ok (.invokevirtual 221, 3) := by decide +kernel
theorem dX10_sheet_37 : decode cX10_sheet 37 = .ok (.iconst 1, 1) := by decide +kernel
theorem dX10_sheet_38 : decode cX10_sheet 38 = .ok (.ireturn, 1) := by decide +kernel
theorem dX10_sheet_39 : decode cX10_sheet 39 = .ok (.iload_n 3, 1) := by decide +kernel
theorem dX10_sheet_40 : decode cX10_sheet 40 = .ok (.bipush 40, 2) := by decide +kernel
theorem dX10_sheet_42 : decode cX10_sheet 42 = .ok (.if_icmp .le 6, 3) := by decide +kernel
theorem dX10_sheet_45 : decode cX10_sheet 45 = .ok (.bipush (-2), 2) := by decide +kernel
theorem dX10_sheet_47 : decode cX10_sheet 47 = .ok (.ireturn, 1) := by decide +kernel
theorem dX10_sheet_48 : decode cX10_sheet 48 = .ok (.iload_n 3, 1) := by decide +kernel
theorem dX10_sheet_49 : decode cX10_sheet 49 = .ok (.ifCond .ge 6, 3) := by decide +kernel
theorem dX10_sheet_52 : decode cX10_sheet 52 = .ok (.bipush (-14), 2) := by decide +kernel
theorem dX10_sheet_54 : decode cX10_sheet 54 = .ok (.ireturn, 1) := by decide +kernel
theorem dX10_sheet_55 : decode cX10_sheet 55 = .ok (.aload_n 0, 1) := by decide +kernel
theorem dX10_sheet_56 : decode cX10_sheet 56 = .ok (.getfield 67, 3) := by decide +kernel
theorem dX10_sheet_59 : decode cX10_sheet 59 = .ok (.iload_n 1, 1) := by decide +kernel
theorem dX10_sheet_60 : decode cX10_sheet 60 = .ok (.aaload, 1) := by decide +kernel
theorem dX10_sheet_61 : decode cX10_sheet 61 = .ok (.iload_n 2, 1) := by decide +kernel
theorem dX10_sheet_62 : decode cX10_sheet 62 = .ok (.iload_n 3, 1) := by decide +kernel
theorem dX10_sheet_63 : decode cX10_sheet 63 = .ok (.invokevirtual 221, 3) := by decide +kernel
theorem dX10_sheet_66 : decode cX10_sheet 66 = .ok (.iconst 1, 1) := by decide +kernel
theorem dX10_sheet_67 : decode cX10_sheet 67 = .ok (.ireturn, 1) := by decide +kernel
theorem dX10_cell_0 : decode cX10_cell 0 = .ok (.iload_n 1, 1) := by decide +kernel
theorem dX10_cell_1 : decode cX10_cell 1 = .ok (.iconst 4, 1) := by decide +kernel
theorem dX10_cell_2 : decode cX10_cell 2 = .ok (.invokestatic 76, 3) := by decide +kernel
theorem dX10_cell_5 : decode cX10_cell 5 = .ok (.ifCond .ne 6, 3) := by decide +kernel
theorem dX10_cell_8 : decode cX10_cell 8 = .ok (.bipush (-2), 2) := by decide +kernel
theorem dX10_cell_10 : decode cX10_cell 10 = .ok (.ireturn, 1) := by decide +kernel
theorem dX10_cell_11 : decode cX10_cell 11 = .ok (.aload_n 0, 1) := by decide +kernel
theorem dX10_cell_12 : decode cX10_cell 12 = .ok (.getfield 67, 3) := by decide +kernel
theorem dX10_cell_15 : decode cX10_cell 15 = .ok (.iload_n 1, 1) := by decide +kernel
theorem dX10_cell_16 : decode cX10_cell 16 = .ok (.aaload, 1) := by decide +kernel
theorem dX10_cell_17 : decode cX10_cell 17 = .ok (.astore 4, 2) := by decide +kernel
theorem dX10_cell_19 : decode cX10_cell 19 = .ok (.aload 4, 2) := by decide +kernel
theorem dX10_cell_21 : decode cX10_cell 21 = .ok (.getfield 259, 3) := by decide +kernel
theorem dX10_cell_24 : decode cX10_cell 24 = .ok (.iconst (-1), 1) := by decide +kernel
theorem dX10_cell_25 : decode cX10_cell 25 = .ok (.if_icmp .ne 6, 3) := by decide +kernel
theorem dX10_cell_28 : decode cX10_cell 28 = .ok (.bipush (-11), 2) := by decide +kernel
theorem dX10_cell_30 : decode cX10_cell 30 = .ok (.ireturn, 1) := by decide +kernel
theorem dX10_cell_31 : decode cX10_cell 31 = .ok (.iload_n 2, 1) := by decide +kernel
theorem dX10_cell_32 : decode cX10_cell 32 = .ok (.aload 4, 2) := by decide +kernel
theorem dX10_cell_34 : decode cX10_cell 34 = .ok (.getfield 262, 3) := by decide +kernel
theorem dX10_cell_37 : decode cX10_cell 37 = .ok (.invokestatic 76, 3) := by decide +kernel
theorem dX10_cell_40 : decode cX10_cell 40 = .ok (.ifCond .ne 6, 3) := by decide +kernel
theorem dX10_cell_43 : decode cX10_cell 43 = .ok (.bipush (-12), 2) := by decide +kernel
theorem dX10_cell_45 : decode cX10_cell 45 = .ok (.ireturn, 1) := by decide +kernel
theorem dX10_cell_46 : decode cX10_cell 46 = .ok (.aload 4, 2) := by decide +kernel
theorem dX10_cell_48 : decode cX10_cell 48 = .ok (.iload_n 2, 1) := by decide +kernel
theorem dX10_cell_49 : decode cX10_cell 49 = .ok (.iload_n 3, 1) := by decide +kernel
theorem dX10_cell_50 : decode cX10_cell 50 = .ok (.invokevirtual 237, 3) := by decide +kernel
theorem dX10_cell_53 : decode cX10_cell 53 = .ok (.iconst 1, 1) := by decide +kernel
theorem dX10_cell_54 : decode cX10_cell 54 = .ok (.ireturn, 1) := by decide +kernel
theorem dX10_copy_0 : decode cX10_copy 0 = .ok (.iload_n 1, 1) := by decide +kernel
theorem dX10_copy_1 : decode cX10_copy 1 = .ok (.iconst 4, 1) := by decide +kernel
theorem dX10_copy_2 : decode cX10_copy 2 = .ok (.invokestatic 76, 3) := by decide +kernel
theorem dX10_copy_5 : decode cX10_copy 5 = .ok (.ifCond .eq 11, 3) := by decide +kernel
theorem dX10_copy_8 : decode cX10_copy 8 = .ok (.iload_n 3, 1) := by decide +kernel
theorem dX10_copy_9 : decode cX10_copy 9 = .ok (.iconst 4, 1) := by decide +kernel
theorem dX10_copy_10 : decode cX10_copy 10 = .ok (.invokestatic 76, 3) := by decide +kernel
theorem dX10_copy_13 : decode cX10_copy 13 = .ok (.ifCond .ne 6, 3) := by decide +kernel
theorem dX10_copy_16 : decode cX10_copy 16 = .ok (.bipush (-2), 2) := by decide +kernel
theorem dX10_copy_18 : decode cX10_copy 18 = .ok (.ireturn, 1) := by decide +kernel
theorem dX10_copy_19 : decode cX10_copy 19 = .ok (.aload_n 0, 1) := by decide +kernel
theorem dX10_copy_20 : decode cX10_copy 20 = .ok (.getfield 67, 3) := by decide +kernel
theorem dX10_copy_23 : decode cX10_copy 23 = .ok (.iload_n 1, 1) := by decide +kernel
theorem dX10_copy_24 : decode cX10_copy 24 = .ok (.aaload, 1) := by decide +kernel
theorem dX10_copy_25 : decode cX10_copy 25 = .ok (.astore 6, 2) := by decide +kernel
theorem dX10_copy_27 : decode cX10_copy 27 = .ok (.aload_n 0, 1) := by decide +kernel
theorem dX10_copy_28 : decode cX10_copy 28 = .ok (.getfield 67, 3) := by decide +kernel
theorem dX10_copy_31 : decode cX10_copy 31 = .ok (.iload_n 3, 1) := by decide +kernel
theorem dX10_copy_32 : decode cX10_copy 32 = .ok (.aaload, 1) := by decide +kernel
theorem dX10_copy_33 : decode cX10_copy 33 = .ok (.astore 7, 2) := by decide +kernel
theorem dX10_copy_35 : decode cX10_copy 35 = .ok (.aload 6, 2) := by decide +kernel
theorem dX10_copy_37 : decode cX10_copy 37 = .ok (.getfield 259, 3) := by decide +kernel
theorem dX10_copy_40 : decode cX10_copy 40 = .ok (.iconst (-1), 1) := by decide +kernel
theorem dX10_copy_41 : decode cX10_copy 41 = .ok (.if_icmp .eq 12, 3) := by decide +kernel
theorem dX10_copy_44 : decode cX10_copy 44 = .ok (.aload 7, 2) := by decide +kernel
theorem dX10_copy_46 : decode cX10_copy 46 = .ok (.getfield 259, 3) := by decide +kernel
theorem dX10_copy_49 : decode cX10_copy 49 = .ok (.iconst (-1), 1) := by decide +kernel
theorem dX10_copy_50 : decode cX10_copy 50 = .ok (.if_icmp .ne 6, 3) := by decide +kernel
theorem dX10_copy_53 : decode cX10_copy 53 = .ok (.bipush (-11), 2) := by decide +kernel
theorem dX10_copy_55 : decode cX10_copy 55 = .ok (.ireturn, 1) := by decide +kernel
theorem dX10_copy_56 : decode cX10_copy 56 = .ok (.aload 6, 2) := by decide +kernel
theorem dX10_copy_58 : decode cX10_copy 58 = .ok (.getfield 259, 3) := by decide +kernel
theorem dX10_copy_61 : decode cX10_copy 61 = .ok (.aload 7, 2) := by decide +kernel
theorem dX10_copy_63 : decode cX10_copy 63 = .ok (.getfield 259, 3) := by decide +kernel
theorem dX10_copy_66 : decode cX10_copy 66 = .ok (.if_icmp .eq 6, 3) := by decide +kernel
theorem dX10_copy_69 : decode cX10_copy 69 = .ok (.bipush (-13), 2) := by decide +kernel
theorem dX10_copy_71 : decode cX10_copy 71 = .ok (.ireturn, 1) := by decide +kernel
theorem dX10_copy_72 : decode cX10_copy 72 = .ok (.aload 6, 2) := by decide +kernel
theorem dX10_copy_74 : decode cX10_copy 74 = .ok (.iload_n 2, 1) := by decide +kernel
theorem dX10_copy_75 : decode cX10_copy 75 = .ok (.iload 5, 2) := by decide +kernel
theorem dX10_copy_77 : decode cX10_copy 77 = .ok (.invokevirtual 263, 3) := by decide +kernel
theorem dX10_copy_80 : decode cX10_copy 80 = .ok (.ifCond .eq 15, 3) := by decide +kernel
theorem dX10_copy_83 : decode cX10_copy 83 = .ok (.aload 7, 2) := by decide +kernel
theorem dX10_copy_85 : decode cX10_copy 85 = .ok (.iload 4, 2) := by decide +kernel
theorem dX10_copy_87 : decode cX10_copy 87 = .ok (.iload 5, 2) := by decide +kernel
theorem dX10_copy_89 : decode cX10_copy 89 = .ok (.invokevirtual 263, 3) := by decide +kernel
theorem dX10_copy_92 : decode cX10_copy 92 = .ok (.ifCond .ne 6, 3) := by decide +kernel
theorem dX10_copy_95 : decode cX10_copy 95 = .ok (.bipush (-12), 2) := by decide +kernel
theorem dX10_copy_97 : decode cX10_copy 97 = .ok (.ireturn, 1) := by decide +kernel
theorem dX10_copy_98 : decode cX10_copy 98 = .ok (.aload 6, 2) := by decide +kernel
theorem dX10_copy_100 : decode cX10_copy 100 = .ok (.getfield 266, 3) := by decide +kernel
theorem dX10_copy_103 : decode cX10_copy 103 = .ok (.iload_n 2, 1) := by decide +kernel
theorem dX10_copy_104 : decode cX10_copy 104 = .ok (.aload 7, 2) := by decide +kernel
theorem dX10_copy_106 : decode cX10_copy 106 = .ok (.getfield 266, 3) := by decide +kernel
theorem dX10_copy_109 : decode cX10_copy 109 = .ok (.iload 4, 2) := by decide +kernel
theorem dX10_copy_111 : decode cX10_copy 111 = .ok (.iload 5, 2) := by decide +kernel
theorem dX10_copy_113 : decode cX10_copy 113 = .ok (.invokestatic 269, 3) := by decide +kernel
theorem dX10_copy_116 : decode cX10_copy 116 = .ok (.iload 5, 2) := by decide +kernel
theorem dX10_copy_118 : decode cX10_copy 118 = .ok (.ireturn, 1) := by decide +kernel
theorem dX10_finders_0 : decode cX10_finders 0 = .ok (.iload_n 1, 1) := by decide +kernel
theorem dX10_finders_1 : decode cX10_finders 1 = .ok (.iconst 4, 1) := by decide +kernel
theorem dX10_finders_2 : decode cX10_finders 2 = .ok (.invokestatic 76, 3) := by decide +kernel
theorem dX10_finders_5 : decode cX10_finders 5 = .ok (.ifCond .eq 21, 3) := by decide +kernel
theorem dX10_finders_8 : decode cX10_finders 8 = .ok (.iload_n 2, 1) := by decide +kernel
theorem dX10_finders_9 : decode cX10_finders 9 = .ok (.iconst 3, 1) := by decide +kernel
theorem dX10_finders_10 : decode cX10_finders 10 = .ok (.invokestatic 76, 3) := by decide +kernel
theorem dX10_finders_13 : decode cX10_finders 13 = .ok (.ifCond .eq 13, 3) := by decide +kernel
theorem dX10_finders_16 : decode cX10_finders 16 = .ok (.iload 4, 2) := by decide +kernel
theorem dX10_finders_18 : decode cX10_finders 18 = .ok (.bipush 6, 2) := by decide +kernel
theorem dX10_finders_20 : decode cX10_finders 20 = .ok (.invokestatic 76, 3) := by decide +kernel
theorem dX10_finders_23 : decode cX10_finders 23 = .ok (.ifCond .ne 6, 3) := by decide +kernel
theorem dX10_finders_26 : decode cX10_finders 26 = .ok (.bipush (-2), 2) := by decide +kernel
theorem dX10_finders_28 : decode cX10_finders 28 = .ok (.ireturn, 1) := by decide +kernel
theorem dX10_finders_29 : decode cX10_finders 29 = .ok (.aload_n 0, 1) := by decide +kernel
theorem dX10_finders_30 : decode cX10_finders 30 = .ok (.getfield 67, 3) := by decide +kernel
theorem dX10_finders_33 : decode cX10_finders 33 = .ok (.iload_n 1, 1) := by decide +kernel
theorem dX10_finders_34 : decode cX10_finders 34 = .ok (.aaload, 1) := by decide +kernel
theorem dX10_finders_35 : decode cX10_finders 35 = .ok (.astore 5, 2) := by decide +kernel
theorem dX10_finders_37 : decode cX10_finders 37 = .ok (.aload 5, 2) := by decide +kernel
theorem dX10_finders_39 : decode cX10_finders 39 = .ok (.getfield 259, 3) := by decide +kernel
theorem dX10_finders_42 : decode cX10_finders 42 = .ok (.iconst (-1), 1) := by decide +kernel
theorem dX10_finders_43 : decode cX10_finders 43 = .ok (.if_icmp .eq 15, 3) := by decide +kernel
theorem dX10_finders_46 : decode cX10_finders 46 = .ok (.aload 5, 2) := by decide +kernel
theorem dX10_finders_48 : decode cX10_finders 48 = .ok (.getfield 259, 3) := by decide +kernel
theorem dX10_finders_51 : decode cX10_finders 51 = .ok (.iload_n 2, 1) := by decide +kernel
theorem dX10_finders_52 : decode cX10_finders 52 = .ok (.if_icmp .eq 6, 3) := by decide +kernel
theorem dX10_finders_55 : decode cX10_finders 55 = .ok (.bipush (-13), 2) := by decide +kernel
theorem dX10_finders_57 : decode cX10_finders 57 = .ok (.ireturn, 1) := by decide +kernel
theorem dX10_finders_58 : decode cX10_finders 58 = .ok (.aload 5, 2) := by decide +kernel
theorem dX10_finders_60 : decode cX10_finders 60 = .ok (.getfield 259, 3) := by decide +kernel
theorem dX10_finders_63 : decode cX10_finders 63 = .ok (.iconst (-1), 1) := by decide +kernel
theorem dX10_finders_64 : decode cX10_finders 64 = .ok (.if_icmp .ne 6, 3) := by decide +kernel
theorem dX10_finders_67 : decode cX10_finders 67 = .ok (.bipush (-11), 2) := by decide +kernel
theorem dX10_finders_69 : decode cX10_finders 69 = .ok (.ireturn, 1) := by decide +kernel
theorem dX10_finders_70 : decode cX10_finders 70 = .ok (.iconst 0, 1) := by decide +kernel
theorem dX10_finders_71 : decode cX10_finders 71 = .ok (.istore 6, 2) := by decide +kernel
theorem dX10_finders_73 : decode cX10_finders 73 = .ok (.iconst 0, 1) := by decide +kernel
theorem dX10_finders_74 : decode cX10_finders 74 = .ok (.istore 7, 2) := by decide +kernel
theorem dX10_finders_76 : decode cX10_finders 76 = .ok (.iload 7, 2) := by decide +kernel
theorem dX10_finders_78 : decode cX10_finders 78 = .ok (.iload 4, 2) := by decide +kernel
theorem dX10_finders_80 : decode cX10_finders 80 = .ok (.if_icmp .ge 88, 3) := by decide +kernel
theorem dX10_finders_83 : decode cX10_finders 83 = .ok (.iload_n 3, 1) := by decide +kernel
theorem dX10_finders_84 : decode cX10_finders 84 = .ok (.aload 5, 2) := by decide +kernel
theorem dX10_finders_86 : decode cX10_finders 86 = .ok (.getfield 262, 3) := by decide +kernel
theorem dX10_finders_89 : decode cX10_finders 89 = .ok (.invokestatic 76, 3) := by decide +kernel
theorem dX10_finders_92 : decode cX10_finders 92 = .ok (.ifCond .eq 18, 3) := by decide +kernel
theorem dX10_finders_95 : decode cX10_finders 95 = .ok (.aload 5, 2) := by decide +kernel
theorem dX10_finders_97 : decode cX10_finders 97 = .ok (.iload_n 3, 1) := by decide +kernel
theorem dX10_finders_98 : decode cX10_finders 98 = .ok (.iconst 3, 1) := by decide +kernel
theorem dX10_finders_99 : decode cX10_finders 99 = .ok (.iload 7, 2) := by decide +kernel
theorem dX10_finders_101 : decode cX10_finders 101 = .ok (.imul, 1) := by decide +kernel
theorem dX10_finders_102 : decode cX10_finders 102 = .ok (.iadd, 1) := by decide +kernel
theorem dX10_finders_103 : decode cX10_finders 103 = .ok (.iconst 3, 1) := by decide +kernel
theorem dX10_finders_104 : decode cX10_finders 104 = .ok (.invokevirtual 263, 3) := by decide +kernel
theorem dX10_finders_107 : decode cX10_finders 107 = .ok (.ifCond .ne 6, 3) := by decide +kernel
theorem dX10_finders_110 : decode cX10_finders 110 = .ok (.bipush (-12), 2) := by decide +kernel
theorem dX10_finders_112 : decode cX10_finders 112 = .ok (.ireturn, 1) := by decide +kernel
theorem dX10_finders_113 : decode cX10_finders 113 = .ok (.iload_n 3, 1) := by decide +kernel
theorem dX10_finders_114 : decode cX10_finders 114 = .ok (.iconst 3, 1) := by decide +kernel
theorem dX10_finders_115 : decode cX10_finders 115 = .ok (.iload 7, 2) := by decide +kernel
theorem dX10_finders_117 : decode cX10_finders 117 = .ok (.imul, 1) := by decide +kernel
theorem dX10_finders_118 : decode cX10_finders 118 = .ok (.iadd, 1) := by decide +kernel
theorem dX10_finders_119 : decode cX10_finders 119 = .ok (.istore 8, 2) := by decide +kernel
theorem dX10_finders_121 : decode cX10_finders 121 = .ok (.aload_n 0, 1) := by decide +kernel
theorem dX10_finders_122 : decode cX10_finders 122 = .ok (.getfield 10, 3) := by decide +kernel
theorem dX10_finders_125 : decode cX10_finders 125 = .ok (.aload 5, 2) := by decide +kernel
theorem dX10_finders_127 : decode cX10_finders 127 = .ok (.getfield 266, 3) := by decide +kernel
theorem dX10_finders_130 : decode cX10_finders 130 = .ok (.iload 8, 2) := by decide +kernel
theorem dX10_finders_132 : decode cX10_finders 132 = .ok (.iaload, 1) := by decide +kernel
theorem dX10_finders_133 : decode cX10_finders 133 = .ok (.aload 5, 2) := by decide +kernel
theorem dX10_finders_135 : decode cX10_finders 135 = .ok (.getfield 266, 3) := by decide +kernel
theorem dX10_finders_138 : decode cX10_finders 138 = .ok (.iload 8, 2) := by decide +kernel
theorem dX10_finders_140 : decode cX10_finders 140 = .ok (.iconst 1, 1) := by decide +kernel
theorem dX10_finders_141 : decode cX10_finders 141 = .ok (.iadd, 1) := by decide +kernel
theorem dX10_finders_142 : decode cX10_finders 142 = .ok (.iaload, 1) := by decide +kernel
theorem dX10_finders_143 : decode cX10_finders 143 = .ok (.aload 5, 2) := by decide +kernel
theorem dX10_finders_145 : decode cX10_finders 145 = .ok (.getfield 266, 3) := by decide +kernel
theorem dX10_finders_148 : decode cX10_finders 148 = .ok (.iload 8, 2) := by decide +kernel
theorem dX10_finders_150 : decode cX10_finders 150 = .ok (.iconst 2, 1) := by decide +kernel
theorem dX10_finders_151 : decode cX10_finders 151 = .ok (.iadd, 1) := by decide +kernel
theorem dX10_finders_152 : decode cX10_finders 152 = .ok (.iaload, 1) := by decide +kernel
theorem dX10_finders_153 : decode cX10_finders 153 = .ok (.invokevirtual 99, 3) := by decide +kernel
theorem dX10_finders_156 : decode cX10_finders 156 = .ok (.ifCond .lt 6, 3) := by decide +kernel
theorem dX10_finders_159 : decode cX10_finders 159 = .ok (.iinc 6 1, 3) := by decide +kernel
theorem dX10_finders_162 : decode cX10_finders 162 = .ok (.iinc 7 1, 3) := by decide +kernel
theorem dX10_finders_165 : decode cX10_finders 165 = .ok (.goto (-89), 3) := by decide +kernel
theorem dX10_finders_168 : decode cX10_finders 168 = .ok (.iload 6, 2) := by decide +kernel
theorem dX10_finders_170 : decode cX10_finders 170 = .ok (.ireturn, 1) := by decide +kernel
theorem dX10_taken_0 : decode cX10_taken 0 = .ok (.iload_n 2, 1) := by decide +kernel
theorem dX10_taken_1 : decode cX10_taken 1 = .ok (.bipush 6, 2) := by decide +kernel
theorem dX10_taken_3 : decode cX10_taken 3 = .ok (.invokestatic 76, 3) := by decide +kernel
theorem dX10_taken_6 : decode cX10_taken 6 = .ok (.ifCond .ne 6, 3) := by decide +kernel
theorem dX10_taken_9 : decode cX10_taken 9 = .ok (.bipush (-2), 2) := by decide +kernel
theorem dX10_taken_11 : decode cX10_taken 11 = .ok (.ireturn, 1) := by decide +kernel
theorem dX10_taken_12 : decode cX10_taken 12 = .ok (.iload_n 1, 1) := by decide +kernel
theorem dX10_taken_13 : decode cX10_taken 13 = .ok (.aload_n 0, 1) := by decide +kernel
theorem dX10_taken_14 : decode cX10_taken 14 = .ok (.getfield 10, 3) := by decide +kernel
theorem dX10_taken_17 : decode cX10_taken 17 = .ok (.getfield 80, 3) := by decide +kernel
theorem dX10_taken_20 : decode cX10_taken 20 = .ok (.invokestatic 76, 3) := by decide +kernel
theorem dX10_taken_23 : decode cX10_taken 23 = .ok (.ifCond .ne 6, 3) := by decide +kernel
theorem dX10_taken_26 : decode cX10_taken 26 = .ok (.bipush (-11), 2) := by decide +kernel
theorem dX10_taken_28 : decode cX10_taken 28 = .ok (.ireturn, 1) := by decide +kernel
theorem dX10_taken_29 : decode cX10_taken 29 = .ok (.aload_n 0, 1) := by decide +kernel
theorem dX10_taken_30 : decode cX10_taken 30 = .ok (.getfield 10, 3) := by decide +kernel
theorem dX10_taken_33 : decode cX10_taken 33 = .ok (.getfield 109, 3) := by decide +kernel
theorem dX10_taken_36 : decode cX10_taken 36 = .ok (.iload_n 1, 1) := by decide +kernel
theorem dX10_taken_37 : decode cX10_taken 37 = .ok (.aaload, 1) := by decide +kernel
theorem dX10_taken_38 : decode cX10_taken 38 = .ok (.astore_n 3, 1) := by decide +kernel
theorem dX10_taken_39 : decode cX10_taken 39 = .ok (.aload_n 3, 1) := by decide +kernel
theorem dX10_taken_40 : decode cX10_taken 40 = .ok (.iload_n 2, 1) := by decide +kernel
theorem dX10_taken_41 : decode cX10_taken 41 = .ok (.invokevirtual 275, 3) := by decide +kernel
theorem dX10_taken_44 : decode cX10_taken 44 = .ok (.ifCond .eq 10, 3) := by decide +kernel
theorem dX10_taken_47 : decode cX10_taken 47 = .ok (.aload_n 3, 1) := by decide +kernel
theorem dX10_taken_48 : decode cX10_taken 48 = .ok (.getfield 278, 3) := by decide +kernel
theorem dX10_taken_51 : decode cX10_taken 51 = .ok (.goto 5, 3) := by decide +kernel
theorem dX10_taken_54 : decode cX10_taken 54 = .ok (.bipush (-13), 2) := by decide +kernel
theorem dX10_taken_56 : decode cX10_taken 56 = .ok (.ireturn, 1) := by decide +kernel
theorem dX10_within_0 : decode cX10_within 0 = .ok (.iload_n 0, 1) := by decide +kernel
theorem dX10_within_1 : decode cX10_within 1 = .ok (.ifCond .lt 12, 3) := by decide +kernel
theorem dX10_within_4 : decode cX10_within 4 = .ok (.iload_n 0, 1) := by decide +kernel
theorem dX10_within_5 : decode cX10_within 5 = .ok (.iload_n 1, 1) := by decide +kernel
theorem dX10_within_6 : decode cX10_within 6 = .ok (.if_icmp .ge 7, 3) := by decide +kernel
theorem dX10_within_9 : decode cX10_within 9 = .ok (.iconst 1, 1) := by decide +kernel
theorem dX10_within_10 : decode cX10_within 10 = .ok (.goto 4, 3) := by decide +kernel
theorem dX10_within_13 : decode cX10_within 13 = .ok (.iconst 0, 1) := by decide +kernel
theorem dX10_within_14 : decode cX10_within 14 = .ok (.ireturn, 1) := by decide +kernel
theorem dX10_refusalOfTold_0 : decode cX10_refusalOfTold 0 = .ok (.aload_n 0, 1) := by decide +kernel
theorem dX10_refusalOfTold_1 : decode cX10_refusalOfTold 1 = .ok (.getfield 259, 3) := by decide +kernel
theorem dX10_refusalOfTold_4 : decode cX10_refusalOfTold 4 = .ok (.iconst (-1), 1) := by decide +kernel
theorem dX10_refusalOfTold_5 : decode cX10_refusalOfTold 5 = .ok (.if_icmp .ne 6, 3) := by decide +kernel
theorem dX10_refusalOfTold_8 : decode cX10_refusalOfTold 8 = .ok (.bipush (-11), 2) := by decide +kernel
theorem dX10_refusalOfTold_10 : decode cX10_refusalOfTold 10 = .ok (.ireturn, 1) := by decide +kernel
theorem dX10_refusalOfTold_11 : decode cX10_refusalOfTold 11 = .ok (.aload_n 0, 1) := by decide +kernel
theorem dX10_refusalOfTold_12 : decode cX10_refusalOfTold 12 = .ok (.getfield 262, 3) := by decide +kernel
theorem dX10_refusalOfTold_15 : decode cX10_refusalOfTold 15 = .ok (.bipush 30, 2) := by decide +kernel
theorem dX10_refusalOfTold_17 : decode cX10_refusalOfTold 17 = .ok (.if_icmp .le 8, 3) := by decide +kernel
theorem dX10_refusalOfTold_20 : decode cX10_refusalOfTold 20 = .ok (.bipush (-2), 2) := by decide +kernel
theorem dX10_refusalOfTold_22 : decode cX10_refusalOfTold 22 = .ok (.goto 4, 3) := by decide +kernel
theorem dX10_refusalOfTold_25 : decode cX10_refusalOfTold 25 = .ok (.iconst 0, 1) := by decide +kernel
theorem dX10_refusalOfTold_26 : decode cX10_refusalOfTold 26 = .ok (.ireturn, 1) := by decide +kernel
theorem dX10_commonDivisor_0 : decode cX10_commonDivisor 0 = .ok (.iload_n 1, 1) := by decide +kernel
theorem dX10_commonDivisor_1 : decode cX10_commonDivisor 1 = .ok (.istore_n 2, 1) := by decide +kernel
theorem dX10_commonDivisor_2 : decode cX10_commonDivisor 2 = .ok (.iload_n 2, 1) := by decide +kernel
theorem dX10_commonDivisor_3 : decode cX10_commonDivisor 3 = .ok (.iconst 1, 1) := by decide +kernel
theorem dX10_commonDivisor_4 : decode cX10_commonDivisor 4 = .ok (.if_icmp .le 23, 3) := by decide +kernel
theorem dX10_commonDivisor_7 : decode cX10_commonDivisor 7 = .ok (.iload_n 0, 1) := by decide +kernel
theorem dX10_commonDivisor_8 : decode cX10_commonDivisor 8 = .ok (.iload_n 2, 1) := by decide +kernel
theorem dX10_commonDivisor_9 : decode cX10_commonDivisor 9 = .ok (.irem, 1) := by decide +kernel
theorem dX10_commonDivisor_10 : decode cX10_commonDivisor 10 = .ok (.ifCond .ne 11, 3) := by decide +kernel
theorem dX10_commonDivisor_13 : decode cX10_commonDivisor 13 = .ok (.iload_n 1, 1) := by decide +kernel
theorem dX10_commonDivisor_14 : decode cX10_commonDivisor 14 = .ok (.iload_n 2, 1) := by decide +kernel
theorem dX10_commonDivisor_15 : decode cX10_commonDivisor 15 = .ok (.irem, 1) := by decide +kernel
theorem dX10_commonDivisor_16 : decode cX10_commonDivisor 16 = .ok (.ifCond .ne 5, 3) := by decide +kernel
theorem dX10_commonDivisor_19 : decode cX10_commonDivisor 19 = .ok (.iload_n 2, 1) := by decide +kernel
theorem dX10_commonDivisor_20 : decode cX10_commonDivisor 20 = .ok (.ireturn, 1) := by decide +kernel
theorem dX10_commonDivisor_21 : decode cX10_commonDivisor 21 = .ok (.iinc 2 (-1), 3) := by decide +kernel
theorem dX10_commonDivisor_24 : decode cX10_commonDivisor 24 = .ok (.goto (-22), 3) := by decide +kernel
theorem dX10_commonDivisor_27 : decode cX10_commonDivisor 27 = .ok (.iconst 1, 1) := by decide +kernel
theorem dX10_commonDivisor_28 : decode cX10_commonDivisor 28 = .ok (.ireturn, 1) := by decide +kernel
