theorem dX11_in_0 : decode cX11_in 0 = .ok (.lload_n 0, 1) := by decide +kernel
theorem dX11_in_1 : decode cX11_in 1 = .ok (.lload_n 2, 1) := by decide +kernel
theorem dX11_in_2 : decode cX11_in 2 = .ok (.lcmp, 1) := by decide +kernel
theorem dX11_in_3 : decode cX11_in 3 = .ok (.ifCond .lt 14, 3) := by decide +kernel
theorem dX11_in_6 : decode cX11_in 6 = .ok (.lload_n 0, 1) := by decide +kernel
theorem dX11_in_7 : decode cX11_in 7 = .ok (.lload 4, 2) := by decide +kernel
theorem dX11_in_9 : decode cX11_in 9 = .ok (.lcmp, 1) := by decide +kernel
theorem dX11_in_10 : decode cX11_in 10 = .ok (.ifCond .gt 7, 3) := by decide +kernel
theorem dX11_in_13 : decode cX11_in 13 = .ok (.iconst 1, 1) := by decide +kernel
theorem dX11_in_14 : decode cX11_in 14 = .ok (.goto 4, 3) := by decide +kernel
theorem dX11_in_17 : decode cX11_in 17 = .ok (.iconst 0, 1) := by decide +kernel
theorem dX11_in_18 : decode cX11_in 18 = .ok (.ireturn, 1) := by decide +kernel
theorem dX11_init_0 : decode cX11_init 0 = .ok (.aload_n 0, 1) := by decide +kernel
theorem dX11_init_1 : decode cX11_init 1 = .ok (.invokespecial 7, 3) := by decide +kernel
theorem dX11_init_4 : decode cX11_init 4 = .ok (.aload_n 0, 1) := by decide +kernel
theorem dX11_init_5 : decode cX11_init 5 = .ok (.sipush 960, 3) := by decide +kernel
theorem dX11_init_8 : decode cX11_init 8 = .ok (.newarray .int, 2) := by decide +kernel
theorem dX11_init_10 : decode cX11_init 10 = .ok (.putfield 13, 3) := by decide +kernel
theorem dX11_init_13 : decode cX11_init 13 = .ok (.aload_n 0, 1) := by decide +kernel
theorem dX11_init_14 : decode cX11_init 14 = .ok (.bipush 6, 2) := by decide +kernel
theorem dX11_init_16 : decode cX11_init 16 = .ok (.newarray .int, 2) := by decide +kernel
theorem dX11_init_18 : decode cX11_init 18 = .ok (.putfield 17, 3) := by decide +kernel
theorem dX11_init_21 : decode cX11_init 21 = .ok (.aload_n 0, 1) := by decide +kernel
theorem dX11_init_22 : decode cX11_init 22 = .ok (.sipush 160, 3) := by decide +kernel
theorem dX11_init_25 : decode cX11_init 25 = .ok (.newarray .int, 2) := by decide +kernel
theorem dX11_init_27 : decode cX11_init 27 = .ok (.putfield 20, 3) := by decide +kernel
theorem dX11_init_30 : decode cX11_init 30 = .ok (.aload_n 0, 1) := by decide +kernel
theorem dX11_init_31 : decode cX11_init 31 = .ok (.iconst 4, 1) := by decide +kernel
theorem dX11_init_32 : decode cX11_init 32 = .ok (.newarray .int, 2) := by decide +kernel
theorem dX11_init_34 : decode cX11_init 34 = .ok (.putfield 23, 3) := by decide +kernel
theorem dX11_init_37 : decode cX11_init 37 = .ok (.aload_n 0, 1) := by decide +kernel
theorem dX11_init_38 : decode cX11_init 38 = .ok (.bipush 8, 2) := by decide +kernel
theorem dX11_init_40 : decode cX11_init 40 = .ok (.newarray .int, 2) := by decide +kernel
theorem dX11_init_42 : decode cX11_init 42 = .ok (.putfield 26, 3) := by decide +kernel
theorem dX11_init_45 : decode cX11_init 45 = .ok (.aload_n 0, 1) := by decide +kernel
theorem dX11_init_46 : decode cX11_init 46 = .ok (.iconst 5, 1) := by decide +kernel
theorem dX11_init_47 : decode cX11_init 47 = .ok (.newarray .int, 2) := by decide +kernel
theorem dX11_init_49 : decode cX11_init 49 = .ok (.putfield 29, 3) := by decide +kernel
theorem dX11_init_52 : decode cX11_init 52 = .ok (.aload_n 0, 1) := by decide +kernel
theorem dX11_init_53 : decode cX11_init 53 = .ok (.bipush 15, 2) := by decide +kernel
theorem dX11_init_55 : decode cX11_init 55 = .ok (.newarray .int, 2) := by decide +kernel
theorem dX11_init_57 : decode cX11_init 57 = .ok (.putfield 32, 3) := by decide +kernel
theorem dX11_init_60 : decode cX11_init 60 = .ok (.aload_n 0, 1) := by decide +kernel
theorem dX11_init_61 : decode cX11_init 61 = .ok (.sipush 256, 3) := by decide +kernel
theorem dX11_init_64 : decode cX11_init 64 = .ok (.newarray .int, 2) := by decide +kernel
theorem dX11_init_66 : decode cX11_init 66 = .ok (.putfield 35, 3) := by decide +kernel
theorem dX11_init_69 : decode cX11_init 69 = .ok (.aload_n 0, 1) := by decide +kernel
theorem dX11_init_70 : decode cX11_init 70 = .ok (.sipush 2048, 3) := by decide +kernel
theorem dX11_init_73 : decode cX11_init 73 = .ok (.newarray .int, 2) := by decide +kernel
theorem dX11_init_75 : decode cX11_init 75 = .ok (.putfield 38, 3) := by decide +kernel
theorem dX11_init_78 : decode cX11_init 78 = .ok (.aload_n 0, 1) := by decide +kernel
theorem dX11_init_79 : decode cX11_init 79 = .ok (.iconst 4, 1) := by decide +kernel
theorem dX11_init_80 : decode cX11_init 80 = .ok (.newarray .int, 2) := by decide +kernel
theorem dX11_init_82 : decode cX11_init 82 = .ok (.putfield 41, 3) := by decide +kernel
theorem dX11_init_85 : decode cX11_init 85 = .ok (.aload_n 0, 1) := by decide +kernel
theorem dX11_init_86 : decode cX11_init 86 = .ok (.bipush 8, 2) := by decide +kernel
theorem dX11_init_88 : decode cX11_init 88 = .ok (.newarray .int, 2) := by decide +kernel
theorem dX11_init_90 : decode cX11_init 90 = .ok (.putfield 44, 3) := by decide +kernel
theorem dX11_init_93 : decode cX11_init 93 = .ok (.aload_n 0, 1) := by decide +kernel
theorem dX11_init_94 : decode cX11_init 94 = .ok (.bipush 15, 2) := by decide +kernel
theorem dX11_init_96 : decode cX11_init 96 = .ok (.newarray .int, 2) := by decide +kernel
theorem dX11_init_98 : decode cX11_init 98 = .ok (.putfield 47, 3) := by decide +kernel
theorem dX11_init_101 : decode cX11_init 101 = .ok (.aload_n 0, 1) := by decide +kernel
theorem dX11_init_102 : decode cX11_init 102 = .ok (.iconst (-1), 1) := by decide +kernel
theorem dX11_init_103 : decode cX11_init 103 = .ok (.putfield 50, 3) := by decide +kernel
theorem dX11_init_106 : decode cX11_init 106 = .ok (.aload_n 0, 1) := by decide +kernel
theorem dX11_init_107 : decode cX11_init 107 = .ok (.iconst 4, 1) := by decide +kernel
theorem dX11_init_108 : decode cX11_init 108 = .ok (.newarray .boolean, 2) := by decide +kernel
theorem dX11_init_110 : decode cX11_init 110 = .ok (.putfield 53, 3) := by decide +kernel
theorem dX11_init_113 : decode cX11_init 113 = .ok (.aload_n 0, 1) := by decide +kernel
theorem dX11_init_114 : decode cX11_init 114 = .ok (.iconst 4, 1) := by decide +kernel
theorem dX11_init_115 : decode cX11_init 115 = .ok (.newarray .int, 2) := by decide +kernel
theorem dX11_init_117 : decode cX11_init 117 = .ok (.putfield 57, 3) := by decide +kernel
theorem dX11_init_120 : decode cX11_init 120 = .ok (.aload_n 0, 1) := by decide +kernel
theorem dX11_init_121 : decode cX11_init 121 = .ok (.iconst 4, 1) := by decide +kernel
theorem dX11_init_122 : decode cX11_init 122 = .ok (.newarray .int, 2) := by decide +kernel
theorem dX11_init_124 : decode cX11_init 124 = .ok (.putfield 60, 3) := by decide +kernel
theorem dX11_init_127 : decode cX11_init 127 = .ok (.aload_n 0, 1) := by decide +kernel
theorem dX11_init_128 : decode cX11_init 128 = .ok (.sipush 160, 3) := by decide +kernel
theorem dX11_init_131 : decode cX11_init 131 = .ok (.newarray .int, 2) := by decide +kernel
theorem dX11_init_133 : decode cX11_init 133 = .ok (.putfield 63, 3) := by decide +kernel
theorem dX11_init_136 : decode cX11_init 136 = .ok (.aload_n 0, 1) := by decide +kernel
theorem dX11_init_137 : decode cX11_init 137 = .ok (.getfield 23, 3) := by decide +kernel
theorem dX11_init_140 : decode cX11_init 140 = .ok (.iconst 3, 1) := by decide +kernel
theorem dX11_init_141 : decode cX11_init 141 = .ok (.sipush 255, 3) := by decide +kernel
theorem dX11_init_144 : decode cX11_init 144 = .ok (.iastore, 1) := by decide +kernel
theorem dX11_init_145 : decode cX11_init 145 = .ok (.aload_n 0, 1) := by decide +kernel
theorem dX11_init_146 : decode cX11_init 146 = .ok (.iconst 0, 1) := by decide +kernel
theorem dX11_init_147 : decode cX11_init 147 = .ok (.bipush 103, 2) := by decide +kernel
theorem dX11_init_149 : decode cX11_init 149 = .ok (.bipush 111, 2) := by decide +kernel
theorem dX11_init_151 : decode cX11_init 151 = .ok (.bipush 101, 2) := by decide +kernel
theorem dX11_init_153 : decode cX11_init 153 = .ok (.bipush 115, 2) := by decide +kernel
theorem dX11_init_155 : decode cX11_init 155 = .ok (.bipush 32, 2) := by decide +kernel
theorem dX11_init_157 : decode cX11_init 157 = .ok (.bipush 49, 2) := by decide +kernel
theorem dX11_init_159 : decode cX11_init 159 = .ok (.bipush 32, 2) := by decide +kernel
theorem dX11_init_161 : decode cX11_init 161 = .ok (.bipush 59, 2) := by decide +kernel
theorem dX11_init_163 : decode cX11_init 163 = .ok (.invokevirtual 66, 3) := by decide +kernel
theorem dX11_init_166 : decode cX11_init 166 = .ok (.aload_n 0, 1) := by decide +kernel
theorem dX11_init_167 : decode cX11_init 167 = .ok (.bipush 8, 2) := by decide +kernel
theorem dX11_init_169 : decode cX11_init 169 = .ok (.bipush 32, 2) := by decide +kernel
theorem dX11_init_171 : decode cX11_init 171 = .ok (.bipush 115, 2) := by decide +kernel
theorem dX11_init_173 : decode cX11_init 173 = .ok (.bipush 116, 2) := by decide +kernel
theorem dX11_init_175 : decode cX11_init 175 = .ok (.bipush 97, 2) := by decide +kernel
theorem dX11_init_177 : decode cX11_init 177 = .ok (.bipush 121, 2) := by decide +kernel
theorem dX11_init_179 : decode cX11_init 179 = .ok (.bipush 115, 2) := by decide +kernel
theorem dX11_init_181 : decode cX11_init 181 = .ok (.bipush 32, 2) := by decide +kernel
theorem dX11_init_183 : decode cX11_init 183 = .ok (.bipush 48, 2) := by decide +kernel
theorem dX11_init_185 : decode cX11_init 185 = .ok (.invokevirtual 66, 3) := by decide +kernel
theorem dX11_init_188 : decode cX11_init 188 = .ok (.aload_n 0, 1) := by decide +kernel
theorem dX11_init_189 : decode cX11_init 189 = .ok (.bipush 16, 2) := by decide +kernel
theorem dX11_init_191 : decode cX11_init 191 = .ok (.bipush 32, 2) := by decide +kernel
theorem dX11_init_193 : decode cX11_init 193 = .ok (.bipush 59, 2) := by decide +kernel
theorem dX11_init_195 : decode cX11_init 195 = .ok (.bipush 32, 2) := by decide +kernel
theorem dX11_init_197 : decode cX11_init 197 = .ok (.bipush 115, 2) := by decide +kernel
theorem dX11_init_199 : decode cX11_init 199 = .ok (.bipush 101, 2) := by decide +kernel
theorem dX11_init_201 : decode cX11_init 201 = .ok (.bipush 101, 2) := by decide +kernel
theorem dX11_init_203 : decode cX11_init 203 = .ok (.bipush 115, 2) := by decide +kernel
theorem dX11_init_205 : decode cX11_init 205 = .ok (.bipush 32, 2) := by decide +kernel
theorem dX11_init_207 : decode cX11_init 207 = .ok (.invokevirtual 66, 3) := by decide +kernel
theorem dX11_init_210 : decode cX11_init 210 = .ok (.aload_n 0, 1) := by decide +kernel
theorem dX11_init_211 : decode cX11_init 211 = .ok (.bipush 24, 2) := by decide +kernel
theorem dX11_init_213 : decode cX11_init 213 = .ok (.bipush 49, 2) := by decide +kernel
theorem dX11_init_215 : decode cX11_init 215 = .ok (.bipush 32, 2) := by decide +kernel
theorem dX11_init_217 : decode cX11_init 217 = .ok (.bipush 59, 2) := by decide +kernel
theorem dX11_init_219 : decode cX11_init 219 = .ok (.bipush 32, 2) := by decide +kernel
theorem dX11_init_221 : decode cX11_init 221 = .ok (.bipush 32, 2) := by decide +kernel
theorem dX11_init_223 : decode cX11_init 223 = .ok (.bipush 32, 2) := by decide +kernel
theorem dX11_init_225 : decode cX11_init 225 = .ok (.bipush 32, 2) := by decide +kernel
theorem dX11_init_227 : decode cX11_init 227 = .ok (.bipush 32, 2) := by decide +kernel
theorem dX11_init_229 : decode cX11_init 229 = .ok (.invokevirtual 66, 3) := by decide +kernel
theorem dX11_init_232 : decode cX11_init 232 = .ok (.aload_n 0, 1) := by decide +kernel
theorem dX11_init_233 : decode cX11_init 233 = .ok (.getfield 17, 3) := by decide +kernel
theorem dX11_init_236 : decode cX11_init 236 = .ok (.iconst 0, 1) := by decide +kernel
theorem dX11_init_237 : decode cX11_init 237 = .ok (.bipush 32, 2) := by decide +kernel
theorem dX11_init_239 : decode cX11_init 239 = .ok (.iastore, 1) := by decide +kernel
theorem dX11_init_240 : decode cX11_init 240 = .ok (.aload_n 0, 1) := by decide +kernel
theorem dX11_init_241 : decode cX11_init 241 = .ok (.iconst 1, 1) := by decide +kernel
theorem dX11_init_242 : decode cX11_init 242 = .ok (.putfield 70, 3) := by decide +kernel
theorem dX11_init_245 : decode cX11_init 245 = .ok (.return_, 1) := by decide +kernel
theorem dX11_spell_0 : decode cX11_spell 0 = .ok (.aload_n 0, 1) := by decide +kernel
theorem dX11_spell_1 : decode cX11_spell 1 = .ok (.getfield 13, 3) := by decide +kernel
theorem dX11_spell_4 : decode cX11_spell 4 = .ok (.iload_n 1, 1) := by decide +kernel
theorem dX11_spell_5 : decode cX11_spell 5 = .ok (.iload_n 2, 1) := by decide +kernel
theorem dX11_spell_6 : decode cX11_spell 6 = .ok (.iastore, 1) := by decide +kernel
theorem dX11_spell_7 : decode cX11_spell 7 = .ok (.aload_n 0, 1) := by decide +kernel
theorem dX11_spell_8 : decode cX11_spell 8 = .ok (.getfield 13, 3) := by decide +kernel
theorem dX11_spell_11 : decode cX11_spell 11 = .ok (.iload_n 1, 1) := by decide +kernel
theorem dX11_spell_12 : decode cX11_spell 12 = .ok (.iconst 1, 1) := by decide +kernel
theorem dX11_spell_13 : decode cX11_spell 13 = .ok (.iadd, 1) := by decide +kernel
theorem dX11_spell_14 : decode cX11_spell 14 = .ok (.iload_n 3, 1) := by decide +kernel
theorem dX11_spell_15 : decode cX11_spell 15 = .ok (.iastore, 1) := by decide +kernel
theorem dX11_spell_16 : decode cX11_spell 16 = .ok (.aload_n 0, 1) := by decide +kernel
theorem dX11_spell_17 : decode cX11_spell 17 = .ok (.getfield 13, 3) := by decide +kernel
theorem dX11_spell_20 : decode cX11_spell 20 = .ok (.iload_n 1, 1) := by decide +kernel
theorem dX11_spell_21 : decode cX11_spell 21 = .ok (.iconst 2, 1) := by decide +kernel
theorem dX11_spell_22 : decode cX11_spell 22 = .ok (.iadd, 1) := by decide +kernel
theorem dX11_spell_23 : decode cX11_spell 23 = .ok (.iload 4, 2) := by decide +kernel
theorem dX11_spell_25 : decode cX11_spell 25 = .ok (.iastore, 1) := by decide +kernel
theorem dX11_spell_26 : decode cX11_spell 26 = .ok (.aload_n 0, 1) := by decide +kernel
theorem dX11_spell_27 : decode cX11_spell 27 = .ok (.getfield 13, 3) := by decide +kernel
theorem dX11_spell_30 : decode cX11_spell 30 = .ok (.iload_n 1, 1) := by decide +kernel
theorem dX11_spell_31 : decode cX11_spell 31 = .ok (.iconst 3, 1) := by decide +kernel
theorem dX11_spell_32 : decode cX11_spell 32 = .ok (.iadd, 1) := by decide +kernel
theorem dX11_spell_33 : decode cX11_spell 33 = .ok (.iload 5, 2) := by decide +kernel
theorem dX11_spell_35 : decode cX11_spell 35 = .ok (.iastore, 1) := by decide +kernel
theorem dX11_spell_36 : decode cX11_spell 36 = .ok (.aload_n 0, 1) := by decide +kernel
theorem dX11_spell_37 : decode cX11_spell 37 = .ok (.getfield 13, 3) := by decide +kernel
theorem dX11_spell_40 : decode cX11_spell 40 = .ok (.iload_n 1, 1) := by decide +kernel
theorem dX11_spell_41 : decode cX11_spell 41 = .ok (.iconst 4, 1) := by decide +kernel
theorem dX11_spell_42 : decode cX11_spell 42 = .ok (.iadd, 1) := by decide +kernel
theorem dX11_spell_43 : decode cX11_spell 43 = .ok (.iload 6, 2) := by decide +kernel
theorem dX11_spell_45 : decode cX11_spell 45 = .ok (.iastore, 1) := by decide +kernel
theorem dX11_spell_46 : decode cX11_spell 46 = .ok (.aload_n 0, 1) := by decide +kernel
theorem dX11_spell_47 : decode cX11_spell 47 = .ok (.getfield 13, 3) := by decide +kernel
theorem dX11_spell_50 : decode cX11_spell 50 = .ok (.iload_n 1, 1) := by decide +kernel
theorem dX11_spell_51 : decode cX11_spell 51 = .ok (.iconst 5, 1) := by decide +kernel
theorem dX11_spell_52 : decode cX11_spell 52 = .ok (.iadd, 1) := by decide +kernel
theorem dX11_spell_53 : decode cX11_spell 53 = .ok (.iload 7, 2) := by decide +kernel
theorem dX11_spell_55 : decode cX11_spell 55 = .ok (.iastore, 1) := by decide +kernel
theorem dX11_spell_56 : decode cX11_spell 56 = .ok (.aload_n 0, 1) := by decide +kernel
theorem dX11_spell_57 : decode cX11_spell 57 = .ok (.getfield 13, 3) := by decide +kernel
theorem dX11_spell_60 : decode cX11_spell 60 = .ok (.iload_n 1, 1) := by decide +kernel
theorem dX11_spell_61 : decode cX11_spell 61 = .ok (.bipush 6, 2) := by decide +kernel
theorem dX11_spell_63 : decode cX11_spell 63 = .ok (.iadd, 1) := by decide +kernel
theorem dX11_spell_64 : decode cX11_spell 64 = .ok (.iload 8, 2) := by decide +kernel
theorem dX11_spell_66 : decode cX11_spell 66 = .ok (.iastore, 1) := by decide +kernel
theorem dX11_spell_67 : decode cX11_spell 67 = .ok (.aload_n 0, 1) := by decide +kernel
theorem dX11_spell_68 : decode cX11_spell 68 = .ok (.getfield 13, 3) := by decide +kernel
theorem dX11_spell_71 : decode cX11_spell 71 = .ok (.iload_n 1, 1) := by decide +kernel
theorem dX11_spell_72 : decode cX11_spell 72 = .ok (.bipush 7, 2) := by decide +kernel
theorem dX11_spell_74 : decode cX11_spell 74 = .ok (.iadd, 1) := by decide +kernel
theorem dX11_spell_75 : decode cX11_spell 75 = .ok (.iload 9, 2) := by decide +kernel
theorem dX11_spell_77 : decode cX11_spell 77 = .ok (.iastore, 1) := by decide +kernel
theorem dX11_spell_78 : decode cX11_spell 78 = .ok (.return_, 1) := by decide +kernel
theorem dX11_isOne_0 : decode cX11_isOne 0 = .ok (.iload_n 1, 1) := by decide +kernel
theorem dX11_isOne_1 : decode cX11_isOne 1 = .ok (.i2l, 1) := by decide +kernel
theorem dX11_isOne_2 : decode cX11_isOne 2 = .ok (.lconst 0, 1) := by decide +kernel
theorem dX11_isOne_3 : decode cX11_isOne 3 = .ok (.aload_n 0, 1) := by decide +kernel
theorem dX11_isOne_4 : decode cX11_isOne 4 = .ok (.getfield 73, 3) := by decide +kernel
theorem dX11_isOne_7 : decode cX11_isOne 7 = .ok (.iconst 1, 1) := by decide +kernel
theorem dX11_isOne_8 : decode cX11_isOne 8 = .ok (.isub, 1) := by decide +kernel
theorem dX11_isOne_9 : decode cX11_isOne 9 = .ok (.i2l, 1) := by decide +kernel
theorem dX11_isOne_10 : decode cX11_isOne 10 = .ok (.invokestatic 76, 3) := by decide +kernel
theorem dX11_isOne_13 : decode cX11_isOne 13 = .ok (.ireturn, 1) := by decide +kernel
theorem dX11_isPlace_0 : decode cX11_isPlace 0 = .ok (.iload_n 0, 1) := by decide +kernel
theorem dX11_isPlace_1 : decode cX11_isPlace 1 = .ok (.i2l, 1) := by decide +kernel
theorem dX11_isPlace_2 : decode cX11_isPlace 2 = .ok (.lconst 0, 1) := by decide +kernel
theorem dX11_isPlace_3 : decode cX11_isPlace 3 = .ok (.ldc2_w 80, 3) := by decide +kernel
theorem dX11_isPlace_6 : decode cX11_isPlace 6 = .ok (.invokestatic 76, 3) := by decide +kernel
theorem dX11_isPlace_9 : decode cX11_isPlace 9 = .ok (.ireturn, 1) := by decide +kernel
theorem dX11_mostOf_0 : decode cX11_mostOf 0 = .ok (.iload_n 0, 1) := by decide +kernel
theorem dX11_mostOf_1 : decode cX11_mostOf 1 = .ok (.ifCond .ne 9, 3) := by decide +kernel
theorem dX11_mostOf_4 : decode cX11_mostOf 4 = .ok (.sipush 999, 3) := by decide +kernel
theorem dX11_mostOf_7 : decode cX11_mostOf 7 = .ok (.goto 31, 3) := by decide +kernel
theorem dX11_mostOf_10 : decode cX11_mostOf 10 = .ok (.iload_n 0, 1) := by decide +kernel
theorem dX11_mostOf_11 : decode cX11_mostOf 11 = .ok (.iconst 3, 1) := by decide +kernel
theorem dX11_mostOf_12 : decode cX11_mostOf 12 = .ok (.if_icmp .ne 9, 3) := by decide +kernel
theorem dX11_mostOf_15 : decode cX11_mostOf 15 = .ok (.sipush 255, 3) := by decide +kernel
theorem dX11_mostOf_18 : decode cX11_mostOf 18 = .ok (.goto 20, 3) := by decide +kernel
theorem dX11_mostOf_21 : decode cX11_mostOf 21 = .ok (.iload_n 0, 1) := by decide +kernel
theorem dX11_mostOf_22 : decode cX11_mostOf 22 = .ok (.iconst 2, 1) := by decide +kernel
theorem dX11_mostOf_23 : decode cX11_mostOf 23 = .ok (.if_icmp .eq 8, 3) := by decide +kernel
theorem dX11_mostOf_26 : decode cX11_mostOf 26 = .ok (.iload_n 0, 1) := by decide +kernel
theorem dX11_mostOf_27 : decode cX11_mostOf 27 = .ok (.iconst 5, 1) := by decide +kernel
theorem dX11_mostOf_28 : decode cX11_mostOf 28 = .ok (.if_icmp .ne 8, 3) := by decide +kernel
theorem dX11_mostOf_31 : decode cX11_mostOf 31 = .ok (.bipush 7, 2) := by decide +kernel
theorem dX11_mostOf_33 : decode cX11_mostOf 33 = .ok (.goto 5, 3) := by decide +kernel
theorem dX11_mostOf_36 : decode cX11_mostOf 36 = .ok (.bipush 9, 2) := by decide +kernel
theorem dX11_mostOf_38 : decode cX11_mostOf 38 = .ok (.ireturn, 1) := by decide +kernel
theorem dX11_isOf_0 : decode cX11_isOf 0 = .ok (.iload_n 1, 1) := by decide +kernel
theorem dX11_isOf_1 : decode cX11_isOf 1 = .ok (.iconst 4, 1) := by decide +kernel
theorem dX11_isOf_2 : decode cX11_isOf 2 = .ok (.if_icmp .lt 27, 3) := by decide +kernel
theorem dX11_isOf_5 : decode cX11_isOf 5 = .ok (.iload_n 1, 1) := by decide +kernel
theorem dX11_isOf_6 : decode cX11_isOf 6 = .ok (.bipush 8, 2) := by decide +kernel
theorem dX11_isOf_8 : decode cX11_isOf 8 = .ok (.if_icmp .le 13, 3) := by decide +kernel
theorem dX11_isOf_11 : decode cX11_isOf 11 = .ok (.iload_n 2, 1) := by decide +kernel
theorem dX11_isOf_12 : decode cX11_isOf 12 = .ok (.invokestatic 82, 3) := by decide +kernel
theorem dX11_isOf_15 : decode cX11_isOf 15 = .ok (.ifCond .eq 18, 3) := by decide +kernel
theorem dX11_isOf_18 : decode cX11_isOf 18 = .ok (.goto 11, 3) := by decide +kernel
theorem dX11_isOf_21 : decode cX11_isOf 21 = .ok (.aload_n 0, 1) := by decide +kernel
theorem dX11_isOf_22 : decode cX11_isOf 22 = .ok (.iload_n 2, 1) := by decide +kernel
theorem dX11_isOf_23 : decode cX11_isOf 23 = .ok (.invokevirtual 86, 3) := by decide +kernel
theorem dX11_isOf_26 : decode cX11_isOf 26 = .ok (.ifCond .eq 7, 3) := by decide +kernel
theorem dX11_isOf_29 : decode cX11_isOf 29 = .ok (.iconst 1, 1) := by decide +kernel
theorem dX11_isOf_30 : decode cX11_isOf 30 = .ok (.goto 4, 3) := by decide +kernel
theorem dX11_isOf_33 : decode cX11_isOf 33 = .ok (.iconst 0, 1) := by decide +kernel
theorem dX11_isOf_34 : decode cX11_isOf 34 = .ok (.ireturn, 1) := by decide +kernel
theorem dX11_set_0 : decode cX11_set 0 = .ok (.iload_n 1, 1) := by decide +kernel
theorem dX11_set_1 : decode cX11_set 1 = .ok (.i2l, 1) := by decide +kernel
theorem dX11_set_2 : decode cX11_set 2 = .ok (.lconst 0, 1) := by decide +kernel
theorem dX11_set_3 : decode cX11_set 3 = .ok (.ldc2_w 89, 3) := by decide +kernel
theorem dX11_set_6 : decode cX11_set 6 = .ok (.invokestatic 76, 3) := by decide +kernel
theorem dX11_set_9 : decode cX11_set 9 = .ok (.ifCond .eq 26, 3) := by decide +kernel
theorem dX11_set_12 : decode cX11_set 12 = .ok (.aload_n 0, 1) := by decide +kernel
theorem dX11_set_13 : decode cX11_set 13 = .ok (.iload_n 1, 1) := by decide +kernel
theorem dX11_set_14 : decode cX11_set 14 = .ok (.iload_n 2, 1) := by decide +kernel
theorem dX11_set_15 : decode cX11_set 15 = .ok (.invokevirtual 91, 3) := by decide +kernel
theorem dX11_set_18 : decode cX11_set 18 = .ok (.ifCond .eq 17, 3) := by decide +kernel
theorem dX11_set_21 : decode cX11_set 21 = .ok (.iload_n 3, 1) := by decide +kernel
theorem dX11_set_22 : decode cX11_set 22 = .ok (.i2l, 1) := by decide +kernel
theorem dX11_set_23 : decode cX11_set 23 = .ok (.lconst 0, 1) := by decide +kernel
theorem dX11_set_24 : decode cX11_set 24 = .ok (.iload_n 1, 1) := by decide +kernel
theorem dX11_set_25 : decode cX11_set 25 = .ok (.invokestatic 95, 3) := by decide +kernel
theorem dX11_set_28 : decode cX11_set 28 = .ok (.i2l, 1) := by decide +kernel
theorem dX11_set_29 : decode cX11_set 29 = .ok (.invokestatic 76, 3) := by decide +kernel
theorem dX11_set_32 : decode cX11_set 32 = .ok (.ifCond .ne 6, 3) := by decide +kernel
theorem dX11_set_35 : decode cX11_set 35 = .ok (.bipush (-2), 2) := by decide +kernel
theorem dX11_set_37 : decode cX11_set 37 = .ok (.ireturn, 1) := by decide +kernel
theorem dX11_set_38 : decode cX11_set 38 = .ok (.aload_n 0, 1) := by decide +kernel
theorem dX11_set_39 : decode cX11_set 39 = .ok (.iload_n 2, 1) := by decide +kernel
theorem dX11_set_40 : decode cX11_set 40 = .ok (.iload_n 1, 1) := by decide +kernel
theorem dX11_set_41 : decode cX11_set 41 = .ok (.invokevirtual 99, 3) := by decide +kernel
theorem dX11_set_44 : decode cX11_set 44 = .ok (.istore 4, 2) := by decide +kernel
theorem dX11_set_46 : decode cX11_set 46 = .ok (.aload_n 0, 1) := by decide +kernel
theorem dX11_set_47 : decode cX11_set 47 = .ok (.iload_n 1, 1) := by decide +kernel
theorem dX11_set_48 : decode cX11_set 48 = .ok (.iload_n 2, 1) := by decide +kernel
theorem dX11_set_49 : decode cX11_set 49 = .ok (.iload_n 3, 1) := by decide +kernel
theorem dX11_set_50 : decode cX11_set 50 = .ok (.invokevirtual 103, 3) := by decide +kernel
theorem dX11_set_53 : decode cX11_set 53 = .ok (.iload 4, 2) := by decide +kernel
theorem dX11_set_55 : decode cX11_set 55 = .ok (.ireturn, 1) := by decide +kernel
theorem dX11_lays_0 : decode cX11_lays 0 = .ok (.iload_n 1, 1) := by decide +kernel
theorem dX11_lays_1 : decode cX11_lays 1 = .ok (.iconst 4, 1) := by decide +kernel
theorem dX11_lays_2 : decode cX11_lays 2 = .ok (.if_icmp .ge 13, 3) := by decide +kernel
theorem dX11_lays_5 : decode cX11_lays 5 = .ok (.aload_n 0, 1) := by decide +kernel
theorem dX11_lays_6 : decode cX11_lays 6 = .ok (.getfield 23, 3) := by decide +kernel
theorem dX11_lays_9 : decode cX11_lays 9 = .ok (.iload_n 1, 1) := by decide +kernel
theorem dX11_lays_10 : decode cX11_lays 10 = .ok (.iload_n 3, 1) := by decide +kernel
theorem dX11_lays_11 : decode cX11_lays 11 = .ok (.iastore, 1) := by decide +kernel
theorem dX11_lays_12 : decode cX11_lays 12 = .ok (.goto 46, 3) := by decide +kernel
theorem dX11_lays_15 : decode cX11_lays 15 = .ok (.iload_n 1, 1) := by decide +kernel
theorem dX11_lays_16 : decode cX11_lays 16 = .ok (.bipush 6, 2) := by decide +kernel
theorem dX11_lays_18 : decode cX11_lays 18 = .ok (.if_icmp .ge 19, 3) := by decide +kernel
theorem dX11_lays_21 : decode cX11_lays 21 = .ok (.aload_n 0, 1) := by decide +kernel
theorem dX11_lays_22 : decode cX11_lays 22 = .ok (.getfield 32, 3) := by decide +kernel
theorem dX11_lays_25 : decode cX11_lays 25 = .ok (.iconst 3, 1) := by decide +kernel
theorem dX11_lays_26 : decode cX11_lays 26 = .ok (.iload_n 2, 1) := by decide +kernel
theorem dX11_lays_27 : decode cX11_lays 27 = .ok (.imul, 1) := by decide +kernel
theorem dX11_lays_28 : decode cX11_lays 28 = .ok (.iload_n 1, 1) := by decide +kernel
theorem dX11_lays_29 : decode cX11_lays 29 = .ok (.iadd, 1) := by decide +kernel
theorem dX11_lays_30 : decode cX11_lays 30 = .ok (.iconst 4, 1) := by decide +kernel
theorem dX11_lays_31 : decode cX11_lays 31 = .ok (.isub, 1) := by decide +kernel
theorem dX11_lays_32 : decode cX11_lays 32 = .ok (.iload_n 3, 1) := by decide +kernel
theorem dX11_lays_33 : decode cX11_lays 33 = .ok (.iastore, 1) := by decide +kernel
theorem dX11_lays_34 : decode cX11_lays 34 = .ok (.goto 24, 3) := by decide +kernel
theorem dX11_lays_37 : decode cX11_lays 37 = .ok (.iload_n 1, 1) := by decide +kernel
theorem dX11_lays_38 : decode cX11_lays 38 = .ok (.bipush 6, 2) := by decide +kernel
theorem dX11_lays_40 : decode cX11_lays 40 = .ok (.if_icmp .ne 13, 3) := by decide +kernel
theorem dX11_lays_43 : decode cX11_lays 43 = .ok (.aload_n 0, 1) := by decide +kernel
theorem dX11_lays_44 : decode cX11_lays 44 = .ok (.getfield 29, 3) := by decide +kernel
theorem dX11_lays_47 : decode cX11_lays 47 = .ok (.iload_n 2, 1) := by decide +kernel
theorem dX11_lays_48 : decode cX11_lays 48 = .ok (.iload_n 3, 1) := by decide +kernel
theorem dX11_lays_49 : decode cX11_lays 49 = .ok (.iastore, 1) := by decide +kernel
theorem dX11_lays_50 : decode cX11_lays 50 = .ok (.goto 8, 3) := by decide +kernel
theorem dX11_lays_53 : decode cX11_lays 53 = .ok (.aload_n 0, 1) := by decide +kernel
theorem dX11_lays_54 : decode cX11_lays 54 = .ok (.iload_n 3, 1) := by decide +kernel
theorem dX11_lays_55 : decode cX11_lays 55 = .ok (.putfield 107, 3) := by decide +kernel
theorem dX11_lays_58 : decode cX11_lays 58 = .ok (.return_, 1) := by decide +kernel
theorem dX11_laysLane_0 : decode cX11_laysLane 0 = .ok (.aload_n 0, 1) := by decide +kernel
theorem dX11_laysLane_1 : decode cX11_laysLane 1 = .ok (.getfield 26, 3) := by decide +kernel
theorem dX11_laysLane_4 : decode cX11_laysLane 4 = .ok (.iload_n 1, 1) := by decide +kernel
theorem dX11_laysLane_5 : decode cX11_laysLane 5 = .ok (.aload_n 0, 1) := by decide +kernel
theorem dX11_laysLane_6 : decode cX11_laysLane 6 = .ok (.getfield 26, 3) := by decide +kernel
theorem dX11_laysLane_9 : decode cX11_laysLane 9 = .ok (.iload_n 1, 1) := by decide +kernel
theorem dX11_laysLane_10 : decode cX11_laysLane 10 = .ok (.iaload, 1) := by decide +kernel
theorem dX11_laysLane_11 : decode cX11_laysLane 11 = .ok (.iconst 1, 1) := by decide +kernel
theorem dX11_laysLane_12 : decode cX11_laysLane 12 = .ok (.iload_n 2, 1) := by decide +kernel
theorem dX11_laysLane_13 : decode cX11_laysLane 13 = .ok (.ishl, 1) := by decide +kernel
theorem dX11_laysLane_14 : decode cX11_laysLane 14 = .ok (.iconst (-1), 1) := by decide +kernel
theorem dX11_laysLane_15 : decode cX11_laysLane 15 = .ok (.ixor, 1) := by decide +kernel
theorem dX11_laysLane_16 : decode cX11_laysLane 16 = .ok (.iand, 1) := by decide +kernel
theorem dX11_laysLane_17 : decode cX11_laysLane 17 = .ok (.iload_n 3, 1) := by decide +kernel
theorem dX11_laysLane_18 : decode cX11_laysLane 18 = .ok (.iload_n 2, 1) := by decide +kernel
theorem dX11_laysLane_19 : decode cX11_laysLane 19 = .ok (.ishl, 1) := by decide +kernel
theorem dX11_laysLane_20 : decode cX11_laysLane 20 = .ok (.ior, 1) := by decide +kernel
theorem dX11_laysLane_21 : decode cX11_laysLane 21 = .ok (.iastore, 1) := by decide +kernel
theorem dX11_laysLane_22 : decode cX11_laysLane 22 = .ok (.aload_n 0, 1) := by decide +kernel
theorem dX11_laysLane_23 : decode cX11_laysLane 23 = .ok (.getfield 26, 3) := by decide +kernel
theorem dX11_laysLane_26 : decode cX11_laysLane 26 = .ok (.iload_n 2, 1) := by decide +kernel
theorem dX11_laysLane_27 : decode cX11_laysLane 27 = .ok (.aload_n 0, 1) := by decide +kernel
theorem dX11_laysLane_28 : decode cX11_laysLane 28 = .ok (.getfield 26, 3) := by decide +kernel
theorem dX11_laysLane_31 : decode cX11_laysLane 31 = .ok (.iload_n 2, 1) := by decide +kernel
theorem dX11_laysLane_32 : decode cX11_laysLane 32 = .ok (.iaload, 1) := by decide +kernel
theorem dX11_laysLane_33 : decode cX11_laysLane 33 = .ok (.iconst 1, 1) := by decide +kernel
theorem dX11_laysLane_34 : decode cX11_laysLane 34 = .ok (.iload_n 1, 1) := by decide +kernel
theorem dX11_laysLane_35 : decode cX11_laysLane 35 = .ok (.ishl, 1) := by decide +kernel
theorem dX11_laysLane_36 : decode cX11_laysLane 36 = .ok (.iconst (-1), 1) := by decide +kernel
theorem dX11_laysLane_37 : decode cX11_laysLane 37 = .ok (.ixor, 1) := by decide +kernel
theorem dX11_laysLane_38 : decode cX11_laysLane 38 = .ok (.iand, 1) := by decide +kernel
theorem dX11_laysLane_39 : decode cX11_laysLane 39 = .ok (.iload_n 3, 1) := by decide +kernel
theorem dX11_laysLane_40 : decode cX11_laysLane 40 = .ok (.iload_n 1, 1) := by decide +kernel
theorem dX11_laysLane_41 : decode cX11_laysLane 41 = .ok (.ishl, 1) := by decide +kernel
theorem dX11_laysLane_42 : decode cX11_laysLane 42 = .ok (.ior, 1) := by decide +kernel
theorem dX11_laysLane_43 : decode cX11_laysLane 43 = .ok (.iastore, 1) := by decide +kernel
theorem dX11_laysLane_44 : decode cX11_laysLane 44 = .ok (.return_, 1) := by decide +kernel
theorem dX11_lane_0 : decode cX11_lane 0 = .ok (.iload_n 1, 1) := by decide +kernel
theorem dX11_lane_1 : decode cX11_lane 1 = .ok (.invokestatic 82, 3) := by decide +kernel
theorem dX11_lane_4 : decode cX11_lane 4 = .ok (.ifCond .eq 25, 3) := by decide +kernel
theorem dX11_lane_7 : decode cX11_lane 7 = .ok (.iload_n 2, 1) := by decide +kernel
theorem dX11_lane_8 : decode cX11_lane 8 = .ok (.invokestatic 82, 3) := by decide +kernel
theorem dX11_lane_11 : decode cX11_lane 11 = .ok (.ifCond .eq 18, 3) := by decide +kernel
theorem dX11_lane_14 : decode cX11_lane 14 = .ok (.iload_n 1, 1) := by decide +kernel
theorem dX11_lane_15 : decode cX11_lane 15 = .ok (.iload_n 2, 1) := by decide +kernel
theorem dX11_lane_16 : decode cX11_lane 16 = .ok (.if_icmp .eq 13, 3) := by decide +kernel
theorem dX11_lane_19 : decode cX11_lane 19 = .ok (.iload_n 3, 1) := by decide +kernel
theorem dX11_lane_20 : decode cX11_lane 20 = .ok (.i2l, 1) := by decide +kernel
theorem dX11_lane_21 : decode cX11_lane 21 = .ok (.lconst 0, 1) := by decide +kernel
theorem dX11_lane_22 : decode cX11_lane 22 = .ok (.lconst 1, 1) := by decide +kernel
theorem dX11_lane_23 : decode cX11_lane 23 = .ok (.invokestatic 76, 3) := by decide +kernel
theorem dX11_lane_26 : decode cX11_lane 26 = .ok (.ifCond .ne 6, 3) := by decide +kernel
theorem dX11_lane_29 : decode cX11_lane 29 = .ok (.bipush (-2), 2) := by decide +kernel
theorem dX11_lane_31 : decode cX11_lane 31 = .ok (.ireturn, 1) := by decide +kernel
theorem dX11_lane_32 : decode cX11_lane 32 = .ok (.aload_n 0, 1) := by decide +kernel
theorem dX11_lane_33 : decode cX11_lane 33 = .ok (.getfield 26, 3) := by decide +kernel
theorem dX11_lane_36 : decode cX11_lane 36 = .ok (.iload_n 1, 1) := by decide +kernel
theorem dX11_lane_37 : decode cX11_lane 37 = .ok (.iaload, 1) := by decide +kernel
theorem dX11_lane_38 : decode cX11_lane 38 = .ok (.iload_n 2, 1) := by decide +kernel
theorem dX11_lane_39 : decode cX11_lane 39 = .ok (.ishr, 1) := by decide +kernel
theorem dX11_lane_40 : decode cX11_lane 40 = .ok (.iconst 1, 1) := by decide +kernel
theorem dX11_lane_41 : decode cX11_lane 41 = .ok (.iand, 1) := by decide +kernel
theorem dX11_lane_42 : decode cX11_lane 42 = .ok (.istore 4, 2) := by decide +kernel
theorem dX11_lane_44 : decode cX11_lane 44 = .ok (.aload_n 0, 1) := by decide +kernel
theorem dX11_lane_45 : decode cX11_lane 45 = .ok (.iload_n 1, 1) := by decide +kernel
theorem dX11_lane_46 : decode cX11_lane 46 = .ok (.iload_n 2, 1) := by decide +kernel
theorem dX11_lane_47 : decode cX11_lane 47 = .ok (.iload_n 3, 1) := by decide +kernel
theorem dX11_lane_48 : decode cX11_lane 48 = .ok (.invokevirtual 110, 3) := by decide +kernel
theorem dX11_lane_51 : decode cX11_lane 51 = .ok (.iload 4, 2) := by decide +kernel
theorem dX11_lane_53 : decode cX11_lane 53 = .ok (.ireturn, 1) := by decide +kernel
theorem dX11_finder_0 : decode cX11_finder 0 = .ok (.iload_n 1, 1) := by decide +kernel
theorem dX11_finder_1 : decode cX11_finder 1 = .ok (.i2l, 1) := by decide +kernel
theorem dX11_finder_2 : decode cX11_finder 2 = .ok (.lconst 0, 1) := by decide +kernel
theorem dX11_finder_3 : decode cX11_finder 3 = .ok (.ldc2_w 89, 3) := by decide +kernel
theorem dX11_finder_6 : decode cX11_finder 6 = .ok (.invokestatic 76, 3) := by decide +kernel
theorem dX11_finder_9 : decode cX11_finder 9 = .ok (.ifCond .eq 22, 3) := by decide +kernel
theorem dX11_finder_12 : decode cX11_finder 12 = .ok (.iload_n 2, 1) := by decide +kernel
theorem dX11_finder_13 : decode cX11_finder 13 = .ok (.i2l, 1) := by decide +kernel
theorem dX11_finder_14 : decode cX11_finder 14 = .ok (.lconst 0, 1) := by decide +kernel
theorem dX11_finder_15 : decode cX11_finder 15 = .ok (.ldc2_w 113, 3) := by decide +kernel
theorem dX11_finder_18 : decode cX11_finder 18 = .ok (.invokestatic 76, 3) := by decide +kernel
theorem dX11_finder_21 : decode cX11_finder 21 = .ok (.ifCond .eq 10, 3) := by decide +kernel
theorem dX11_finder_24 : decode cX11_finder 24 = .ok (.iload_n 3, 1) := by decide +kernel
theorem dX11_finder_25 : decode cX11_finder 25 = .ok (.invokestatic 82, 3) := by decide +kernel
theorem dX11_finder_28 : decode cX11_finder 28 = .ok (.ifCond .ne 6, 3) := by decide +kernel
theorem dX11_finder_31 : decode cX11_finder 31 = .ok (.bipush (-2), 2) := by decide +kernel
theorem dX11_finder_33 : decode cX11_finder 33 = .ok (.ireturn, 1) := by decide +kernel
theorem dX11_finder_34 : decode cX11_finder 34 = .ok (.aload_n 0, 1) := by decide +kernel
theorem dX11_finder_35 : decode cX11_finder 35 = .ok (.getfield 73, 3) := by decide +kernel
theorem dX11_finder_38 : decode cX11_finder 38 = .ok (.iconst 5, 1) := by decide +kernel
theorem dX11_finder_39 : decode cX11_finder 39 = .ok (.if_icmp .ne 6, 3) := by decide +kernel
theorem dX11_finder_42 : decode cX11_finder 42 = .ok (.bipush (-4), 2) := by decide +kernel
theorem dX11_finder_44 : decode cX11_finder 44 = .ok (.ireturn, 1) := by decide +kernel
theorem dX11_finder_45 : decode cX11_finder 45 = .ok (.aload_n 0, 1) := by decide +kernel
theorem dX11_finder_46 : decode cX11_finder 46 = .ok (.getfield 29, 3) := by decide +kernel
theorem dX11_finder_49 : decode cX11_finder 49 = .ok (.aload_n 0, 1) := by decide +kernel
theorem dX11_finder_50 : decode cX11_finder 50 = .ok (.getfield 73, 3) := by decide +kernel
theorem dX11_finder_53 : decode cX11_finder 53 = .ok (.iload_n 1, 1) := by decide +kernel
theorem dX11_finder_54 : decode cX11_finder 54 = .ok (.iastore, 1) := by decide +kernel
theorem dX11_finder_55 : decode cX11_finder 55 = .ok (.aload_n 0, 1) := by decide +kernel
theorem dX11_finder_56 : decode cX11_finder 56 = .ok (.getfield 32, 3) := by decide +kernel
theorem dX11_finder_59 : decode cX11_finder 59 = .ok (.iconst 3, 1) := by decide +kernel
theorem dX11_finder_60 : decode cX11_finder 60 = .ok (.aload_n 0, 1) := by decide +kernel
theorem dX11_finder_61 : decode cX11_finder 61 = .ok (.getfield 73, 3) := by decide +kernel
theorem dX11_finder_64 : decode cX11_finder 64 = .ok (.imul, 1) := by decide +kernel
theorem dX11_finder_65 : decode cX11_finder 65 = .ok (.iload_n 2, 1) := by decide +kernel
theorem dX11_finder_66 : decode cX11_finder 66 = .ok (.iastore, 1) := by decide +kernel
theorem dX11_finder_67 : decode cX11_finder 67 = .ok (.aload_n 0, 1) := by decide +kernel
theorem dX11_finder_68 : decode cX11_finder 68 = .ok (.getfield 32, 3) := by decide +kernel
theorem dX11_finder_71 : decode cX11_finder 71 = .ok (.iconst 3, 1) := by decide +kernel
theorem dX11_finder_72 : decode cX11_finder 72 = .ok (.aload_n 0, 1) := by decide +kernel
theorem dX11_finder_73 : decode cX11_finder 73 = .ok (.getfield 73, 3) := by decide +kernel
theorem dX11_finder_76 : decode cX11_finder 76 = .ok (.imul, 1) := by decide +kernel
theorem dX11_finder_77 : decode cX11_finder 77 = .ok (.iconst 1, 1) := by decide +kernel
theorem dX11_finder_78 : decode cX11_finder 78 = .ok (.iadd, 1) := by decide +kernel
theorem dX11_finder_79 : decode cX11_finder 79 = .ok (.iload_n 3, 1) := by decide +kernel
theorem dX11_finder_80 : decode cX11_finder 80 = .ok (.iastore, 1) := by decide +kernel
theorem dX11_finder_81 : decode cX11_finder 81 = .ok (.aload_n 0, 1) := by decide +kernel
theorem dX11_finder_82 : decode cX11_finder 82 = .ok (.getfield 32, 3) := by decide +kernel
theorem dX11_finder_85 : decode cX11_finder 85 = .ok (.iconst 3, 1) := by decide +kernel
theorem dX11_finder_86 : decode cX11_finder 86 = .ok (.aload_n 0, 1) := by decide +kernel
theorem dX11_finder_87 : decode cX11_finder 87 = .ok (.getfield 73, 3) := by decide +kernel
theorem dX11_finder_90 : decode cX11_finder 90 = .ok (.imul, 1) := by decide +kernel
theorem dX11_finder_91 : decode cX11_finder 91 = .ok (.iconst 2, 1) := by decide +kernel
theorem dX11_finder_92 : decode cX11_finder 92 = .ok (.iadd, 1) := by decide +kernel
theorem dX11_finder_93 : decode cX11_finder 93 = .ok (.iconst 0, 1) := by decide +kernel
theorem dX11_finder_94 : decode cX11_finder 94 = .ok (.iastore, 1) := by decide +kernel
theorem dX11_finder_95 : decode cX11_finder 95 = .ok (.aload_n 0, 1) := by decide +kernel
theorem dX11_finder_96 : decode cX11_finder 96 = .ok (.dup, 1) := by decide +kernel
theorem dX11_finder_97 : decode cX11_finder 97 = .ok (.getfield 73, 3) := by decide +kernel
theorem dX11_finder_100 : decode cX11_finder 100 = .ok (.iconst 1, 1) := by decide +kernel
theorem dX11_finder_101 : decode cX11_finder 101 = .ok (.iadd, 1) := by decide +kernel
theorem dX11_finder_102 : decode cX11_finder 102 = .ok (.putfield 73, 3) := by decide +kernel
theorem dX11_finder_105 : decode cX11_finder 105 = .ok (.aload_n 0, 1) := by decide +kernel
theorem dX11_finder_106 : decode cX11_finder 106 = .ok (.getfield 73, 3) := by decide +kernel
theorem dX11_finder_109 : decode cX11_finder 109 = .ok (.iconst 1, 1) := by decide +kernel
theorem dX11_finder_110 : decode cX11_finder 110 = .ok (.isub, 1) := by decide +kernel
theorem dX11_finder_111 : decode cX11_finder 111 = .ok (.ireturn, 1) := by decide +kernel
theorem dX11_told_0 : decode cX11_told 0 = .ok (.iload_n 2, 1) := by decide +kernel
theorem dX11_told_1 : decode cX11_told 1 = .ok (.i2l, 1) := by decide +kernel
theorem dX11_told_2 : decode cX11_told 2 = .ok (.lconst 0, 1) := by decide +kernel
theorem dX11_told_3 : decode cX11_told 3 = .ok (.ldc2_w 115, 3) := by decide +kernel
theorem dX11_told_6 : decode cX11_told 6 = .ok (.invokestatic 76, 3) := by decide +kernel
theorem dX11_told_9 : decode cX11_told 9 = .ok (.ifCond .eq 12, 3) := by decide +kernel
theorem dX11_told_12 : decode cX11_told 12 = .ok (.aload_n 0, 1) := by decide +kernel
theorem dX11_told_13 : decode cX11_told 13 = .ok (.iload_n 2, 1) := by decide +kernel
theorem dX11_told_14 : decode cX11_told 14 = .ok (.iload_n 1, 1) := by decide +kernel
theorem dX11_told_15 : decode cX11_told 15 = .ok (.invokevirtual 91, 3) := by decide +kernel
theorem dX11_told_18 : decode cX11_told 18 = .ok (.ifCond .ne 6, 3) := by decide +kernel
theorem dX11_told_21 : decode cX11_told 21 = .ok (.bipush (-2), 2) := by decide +kernel
theorem dX11_told_23 : decode cX11_told 23 = .ok (.ireturn, 1) := by decide +kernel
theorem dX11_told_24 : decode cX11_told 24 = .ok (.iload_n 2, 1) := by decide +kernel
theorem dX11_told_25 : decode cX11_told 25 = .ok (.iconst 4, 1) := by decide +kernel
theorem dX11_told_26 : decode cX11_told 26 = .ok (.if_icmp .ge 10, 3) := by decide +kernel
theorem dX11_told_29 : decode cX11_told 29 = .ok (.aload_n 0, 1) := by decide +kernel
theorem dX11_told_30 : decode cX11_told 30 = .ok (.getfield 23, 3) := by decide +kernel
theorem dX11_told_33 : decode cX11_told 33 = .ok (.iload_n 2, 1) := by decide +kernel
theorem dX11_told_34 : decode cX11_told 34 = .ok (.iaload, 1) := by decide +kernel
theorem dX11_told_35 : decode cX11_told 35 = .ok (.ireturn, 1) := by decide +kernel
theorem dX11_told_36 : decode cX11_told 36 = .ok (.iload_n 2, 1) := by decide +kernel
theorem dX11_told_37 : decode cX11_told 37 = .ok (.bipush 8, 2) := by decide +kernel
theorem dX11_told_39 : decode cX11_told 39 = .ok (.if_icmp .ge 50, 3) := by decide +kernel
theorem dX11_told_42 : decode cX11_told 42 = .ok (.iload_n 2, 1) := by decide +kernel
theorem dX11_told_43 : decode cX11_told 43 = .ok (.bipush 6, 2) := by decide +kernel
theorem dX11_told_45 : decode cX11_told 45 = .ok (.if_icmp .ge 18, 3) := by decide +kernel
theorem dX11_told_48 : decode cX11_told 48 = .ok (.aload_n 0, 1) := by decide +kernel
theorem dX11_told_49 : decode cX11_told 49 = .ok (.getfield 32, 3) := by decide +kernel
theorem dX11_told_52 : decode cX11_told 52 = .ok (.iconst 3, 1) := by decide +kernel
theorem dX11_told_53 : decode cX11_told 53 = .ok (.iload_n 1, 1) := by decide +kernel
theorem dX11_told_54 : decode cX11_told 54 = .ok (.imul, 1) := by decide +kernel
theorem dX11_told_55 : decode cX11_told 55 = .ok (.iload_n 2, 1) := by decide +kernel
theorem dX11_told_56 : decode cX11_told 56 = .ok (.iadd, 1) := by decide +kernel
theorem dX11_told_57 : decode cX11_told 57 = .ok (.iconst 4, 1) := by decide +kernel
theorem dX11_told_58 : decode cX11_told 58 = .ok (.isub, 1) := by decide +kernel
theorem dX11_told_59 : decode cX11_told 59 = .ok (.iaload, 1) := by decide +kernel
theorem dX11_told_60 : decode cX11_told 60 = .ok (.goto 28, 3) := by decide +kernel
theorem dX11_told_63 : decode cX11_told 63 = .ok (.iload_n 2, 1) := by decide +kernel
theorem dX11_told_64 : decode cX11_told 64 = .ok (.bipush 6, 2) := by decide +kernel
theorem dX11_told_66 : decode cX11_told 66 = .ok (.if_icmp .ne 12, 3) := by decide +kernel
theorem dX11_told_69 : decode cX11_told 69 = .ok (.aload_n 0, 1) := by decide +kernel
theorem dX11_told_70 : decode cX11_told 70 = .ok (.getfield 29, 3) := by decide +kernel
theorem dX11_told_73 : decode cX11_told 73 = .ok (.iload_n 1, 1) := by decide +kernel
theorem dX11_told_74 : decode cX11_told 74 = .ok (.iaload, 1) := by decide +kernel
theorem dX11_told_75 : decode cX11_told 75 = .ok (.goto 13, 3) := by decide +kernel
theorem dX11_told_78 : decode cX11_told 78 = .ok (.aload_n 0, 1) := by decide +kernel
theorem dX11_told_79 : decode cX11_told 79 = .ok (.getfield 32, 3) := by decide +kernel
theorem dX11_told_82 : decode cX11_told 82 = .ok (.iconst 3, 1) := by decide +kernel
theorem dX11_told_83 : decode cX11_told 83 = .ok (.iload_n 1, 1) := by decide +kernel
theorem dX11_told_84 : decode cX11_told 84 = .ok (.imul, 1) := by decide +kernel
theorem dX11_told_85 : decode cX11_told 85 = .ok (.iconst 2, 1) := by decide +kernel
theorem dX11_told_86 : decode cX11_told 86 = .ok (.iadd, 1) := by decide +kernel
theorem dX11_told_87 : decode cX11_told 87 = .ok (.iaload, 1) := by decide +kernel
theorem dX11_told_88 : decode cX11_told 88 = .ok (.ireturn, 1) := by decide +kernel
theorem dX11_told_89 : decode cX11_told 89 = .ok (.iload_n 2, 1) := by decide +kernel
theorem dX11_told_90 : decode cX11_told 90 = .ok (.bipush 8, 2) := by decide +kernel
theorem dX11_told_92 : decode cX11_told 92 = .ok (.if_icmp .ne 11, 3) := by decide +kernel
theorem dX11_told_95 : decode cX11_told 95 = .ok (.aload_n 0, 1) := by decide +kernel
theorem dX11_told_96 : decode cX11_told 96 = .ok (.iload_n 1, 1) := by decide +kernel
theorem dX11_told_97 : decode cX11_told 97 = .ok (.invokevirtual 117, 3) := by decide +kernel
theorem dX11_told_100 : decode cX11_told 100 = .ok (.goto 23, 3) := by decide +kernel
theorem dX11_told_103 : decode cX11_told 103 = .ok (.iload_n 2, 1) := by decide +kernel
theorem dX11_told_104 : decode cX11_told 104 = .ok (.bipush 9, 2) := by decide +kernel
theorem dX11_told_106 : decode cX11_told 106 = .ok (.if_icmp .ne 12, 3) := by decide +kernel
theorem dX11_told_109 : decode cX11_told 109 = .ok (.aload_n 0, 1) := by decide +kernel
theorem dX11_told_110 : decode cX11_told 110 = .ok (.getfield 26, 3) := by decide +kernel
theorem dX11_told_113 : decode cX11_told 113 = .ok (.iload_n 1, 1) := by decide +kernel
theorem dX11_told_114 : decode cX11_told 114 = .ok (.iaload, 1) := by decide +kernel
theorem dX11_told_115 : decode cX11_told 115 = .ok (.goto 8, 3) := by decide +kernel
theorem dX11_told_118 : decode cX11_told 118 = .ok (.aload_n 0, 1) := by decide +kernel
theorem dX11_told_119 : decode cX11_told 119 = .ok (.iload_n 1, 1) := by decide +kernel
theorem dX11_told_120 : decode cX11_told 120 = .ok (.invokevirtual 120, 3) := by decide +kernel
theorem dX11_told_123 : decode cX11_told 123 = .ok (.ireturn, 1) := by decide +kernel
theorem dX11_feed_0 : decode cX11_feed 0 = .ok (.iload_n 1, 1) := by decide +kernel
theorem dX11_feed_1 : decode cX11_feed 1 = .ok (.i2l, 1) := by decide +kernel
theorem dX11_feed_2 : decode cX11_feed 2 = .ok (.lconst 0, 1) := by decide +kernel
theorem dX11_feed_3 : decode cX11_feed 3 = .ok (.ldc2_w 123, 3) := by decide +kernel
theorem dX11_feed_6 : decode cX11_feed 6 = .ok (.invokestatic 76, 3) := by decide +kernel
theorem dX11_feed_9 : decode cX11_feed 9 = .ok (.ifCond .ne 6, 3) := by decide +kernel
theorem dX11_feed_12 : decode cX11_feed 12 = .ok (.bipush (-2), 2) := by decide +kernel
theorem dX11_feed_14 : decode cX11_feed 14 = .ok (.ireturn, 1) := by decide +kernel
theorem dX11_feed_15 : decode cX11_feed 15 = .ok (.aload_n 0, 1) := by decide +kernel
theorem dX11_feed_16 : decode cX11_feed 16 = .ok (.getfield 125, 3) := by decide +kernel
theorem dX11_feed_19 : decode cX11_feed 19 = .ok (.sipush 160, 3) := by decide +kernel
theorem dX11_feed_22 : decode cX11_feed 22 = .ok (.if_icmp .ne 6, 3) := by decide +kernel
theorem dX11_feed_25 : decode cX11_feed 25 = .ok (.bipush (-4), 2) := by decide +kernel
theorem dX11_feed_27 : decode cX11_feed 27 = .ok (.ireturn, 1) := by decide +kernel
theorem dX11_feed_28 : decode cX11_feed 28 = .ok (.aload_n 0, 1) := by decide +kernel
theorem dX11_feed_29 : decode cX11_feed 29 = .ok (.getfield 20, 3) := by decide +kernel
theorem dX11_feed_32 : decode cX11_feed 32 = .ok (.aload_n 0, 1) := by decide +kernel
theorem dX11_feed_33 : decode cX11_feed 33 = .ok (.getfield 125, 3) := by decide +kernel
theorem dX11_feed_36 : decode cX11_feed 36 = .ok (.iload_n 1, 1) := by decide +kernel
theorem dX11_feed_37 : decode cX11_feed 37 = .ok (.iastore, 1) := by decide +kernel
theorem dX11_feed_38 : decode cX11_feed 38 = .ok (.aload_n 0, 1) := by decide +kernel
theorem dX11_feed_39 : decode cX11_feed 39 = .ok (.dup, 1) := by decide +kernel
theorem dX11_feed_40 : decode cX11_feed 40 = .ok (.getfield 125, 3) := by decide +kernel
theorem dX11_feed_43 : decode cX11_feed 43 = .ok (.iconst 1, 1) := by decide +kernel
theorem dX11_feed_44 : decode cX11_feed 44 = .ok (.iadd, 1) := by decide +kernel
theorem dX11_feed_45 : decode cX11_feed 45 = .ok (.putfield 125, 3) := by decide +kernel
theorem dX11_feed_48 : decode cX11_feed 48 = .ok (.aload_n 0, 1) := by decide +kernel
theorem dX11_feed_49 : decode cX11_feed 49 = .ok (.getfield 125, 3) := by decide +kernel
theorem dX11_feed_52 : decode cX11_feed 52 = .ok (.ireturn, 1) := by decide +kernel
theorem dX11_byteAt_0 : decode cX11_byteAt 0 = .ok (.iload_n 1, 1) := by decide +kernel
theorem dX11_byteAt_1 : decode cX11_byteAt 1 = .ok (.aload_n 0, 1) := by decide +kernel
theorem dX11_byteAt_2 : decode cX11_byteAt 2 = .ok (.getfield 128, 3) := by decide +kernel
theorem dX11_byteAt_5 : decode cX11_byteAt 5 = .ok (.if_icmp .ge 17, 3) := by decide +kernel
theorem dX11_byteAt_8 : decode cX11_byteAt 8 = .ok (.aload_n 0, 1) := by decide +kernel
theorem dX11_byteAt_9 : decode cX11_byteAt 9 = .ok (.getfield 13, 3) := by decide +kernel
theorem dX11_byteAt_12 : decode cX11_byteAt 12 = .ok (.aload_n 0, 1) := by decide +kernel
theorem dX11_byteAt_13 : decode cX11_byteAt 13 = .ok (.getfield 131, 3) := by decide +kernel
theorem dX11_byteAt_16 : decode cX11_byteAt 16 = .ok (.iload_n 1, 1) := by decide +kernel
theorem dX11_byteAt_17 : decode cX11_byteAt 17 = .ok (.iadd, 1) := by decide +kernel
theorem dX11_byteAt_18 : decode cX11_byteAt 18 = .ok (.iaload, 1) := by decide +kernel
theorem dX11_byteAt_19 : decode cX11_byteAt 19 = .ok (.goto 4, 3) := by decide +kernel
theorem dX11_byteAt_22 : decode cX11_byteAt 22 = .ok (.iconst (-1), 1) := by decide +kernel
theorem dX11_byteAt_23 : decode cX11_byteAt 23 = .ok (.ireturn, 1) := by decide +kernel
theorem dX11_next_0 : decode cX11_next 0 = .ok (.aload_n 0, 1) := by decide +kernel
theorem dX11_next_1 : decode cX11_next 1 = .ok (.aload_n 0, 1) := by decide +kernel
theorem dX11_next_2 : decode cX11_next 2 = .ok (.getfield 134, 3) := by decide +kernel
theorem dX11_next_5 : decode cX11_next 5 = .ok (.invokevirtual 137, 3) := by decide +kernel
theorem dX11_next_8 : decode cX11_next 8 = .ok (.bipush 32, 2) := by decide +kernel
theorem dX11_next_10 : decode cX11_next 10 = .ok (.if_icmp .eq 16, 3) := by decide +kernel
theorem dX11_next_13 : decode cX11_next 13 = .ok (.aload_n 0, 1) := by decide +kernel
theorem dX11_next_14 : decode cX11_next 14 = .ok (.aload_n 0, 1) := by decide +kernel
theorem dX11_next_15 : decode cX11_next 15 = .ok (.getfield 134, 3) := by decide +kernel
theorem dX11_next_18 : decode cX11_next 18 = .ok (.invokevirtual 137, 3) := by decide +kernel
theorem dX11_next_21 : decode cX11_next 21 = .ok (.bipush 10, 2) := by decide +kernel
theorem dX11_next_23 : decode cX11_next 23 = .ok (.if_icmp .ne 16, 3) := by decide +kernel
theorem dX11_next_26 : decode cX11_next 26 = .ok (.aload_n 0, 1) := by decide +kernel
theorem dX11_next_27 : decode cX11_next 27 = .ok (.dup, 1) := by decide +kernel
theorem dX11_next_28 : decode cX11_next 28 = .ok (.getfield 134, 3) := by decide +kernel
theorem dX11_next_31 : decode cX11_next 31 = .ok (.iconst 1, 1) := by decide +kernel
theorem dX11_next_32 : decode cX11_next 32 = .ok (.iadd, 1) := by decide +kernel
theorem dX11_next_33 : decode cX11_next 33 = .ok (.putfield 134, 3) := by decide +kernel
theorem dX11_next_36 : decode cX11_next 36 = .ok (.goto (-36), 3) := by decide +kernel
theorem dX11_next_39 : decode cX11_next 39 = .ok (.aload_n 0, 1) := by decide +kernel
theorem dX11_next_40 : decode cX11_next 40 = .ok (.aload_n 0, 1) := by decide +kernel
theorem dX11_next_41 : decode cX11_next 41 = .ok (.getfield 134, 3) := by decide +kernel
theorem dX11_next_44 : decode cX11_next 44 = .ok (.putfield 140, 3) := by decide +kernel
theorem dX11_next_47 : decode cX11_next 47 = .ok (.aload_n 0, 1) := by decide +kernel
theorem dX11_next_48 : decode cX11_next 48 = .ok (.aload_n 0, 1) := by decide +kernel
theorem dX11_next_49 : decode cX11_next 49 = .ok (.getfield 134, 3) := by decide +kernel
theorem dX11_next_52 : decode cX11_next 52 = .ok (.invokevirtual 137, 3) := by decide +kernel
theorem dX11_next_55 : decode cX11_next 55 = .ok (.istore_n 1, 1) := by decide +kernel
theorem dX11_next_56 : decode cX11_next 56 = .ok (.aload_n 0, 1) := by decide +kernel
theorem dX11_next_57 : decode cX11_next 57 = .ok (.iconst 4, 1) := by decide +kernel
theorem dX11_next_58 : decode cX11_next 58 = .ok (.putfield 143, 3) := by decide +kernel
theorem dX11_next_61 : decode cX11_next 61 = .ok (.iload_n 1, 1) := by decide +kernel
theorem dX11_next_62 : decode cX11_next 62 = .ok (.ifCond .ge 19, 3) := by decide +kernel
theorem dX11_next_65 : decode cX11_next 65 = .ok (.aload_n 0, 1) := by decide +kernel
theorem dX11_next_66 : decode cX11_next 66 = .ok (.iconst 0, 1) := by decide +kernel
theorem dX11_next_67 : decode cX11_next 67 = .ok (.putfield 143, 3) := by decide +kernel
theorem dX11_next_70 : decode cX11_next 70 = .ok (.aload_n 0, 1) := by decide +kernel
theorem dX11_next_71 : decode cX11_next 71 = .ok (.aload_n 0, 1) := by decide +kernel
theorem dX11_next_72 : decode cX11_next 72 = .ok (.getfield 128, 3) := by decide +kernel
theorem dX11_next_75 : decode cX11_next 75 = .ok (.putfield 140, 3) := by decide +kernel
theorem dX11_next_78 : decode cX11_next 78 = .ok (.goto 243, 3) := by decide +kernel
theorem dX11_next_81 : decode cX11_next 81 = .ok (.iload_n 1, 1) := by decide +kernel
theorem dX11_next_82 : decode cX11_next 82 = .ok (.i2l, 1) := by decide +kernel
theorem dX11_next_83 : decode cX11_next 83 = .ok (.ldc2_w 146, 3) := by decide +kernel
theorem dX11_next_86 : decode cX11_next 86 = .ok (.ldc2_w 148, 3) := by decide +kernel
theorem dX11_next_89 : decode cX11_next 89 = .ok (.invokestatic 76, 3) := by decide +kernel
theorem dX11_next_92 : decode cX11_next 92 = .ok (.ifCond .eq 42, 3) := by decide +kernel
theorem dX11_next_95 : decode cX11_next 95 = .ok (.aload_n 0, 1) := by decide +kernel
theorem dX11_next_96 : decode cX11_next 96 = .ok (.iconst 1, 1) := by decide +kernel
theorem dX11_next_97 : decode cX11_next 97 = .ok (.putfield 143, 3) := by decide +kernel
theorem dX11_next_100 : decode cX11_next 100 = .ok (.aload_n 0, 1) := by decide +kernel
theorem dX11_next_101 : decode cX11_next 101 = .ok (.aload_n 0, 1) := by decide +kernel
theorem dX11_next_102 : decode cX11_next 102 = .ok (.getfield 134, 3) := by decide +kernel
theorem dX11_next_105 : decode cX11_next 105 = .ok (.invokevirtual 137, 3) := by decide +kernel
theorem dX11_next_108 : decode cX11_next 108 = .ok (.i2l, 1) := by decide +kernel
theorem dX11_next_109 : decode cX11_next 109 = .ok (.ldc2_w 146, 3) := by decide +kernel
theorem dX11_next_112 : decode cX11_next 112 = .ok (.ldc2_w 148, 3) := by decide +kernel
theorem dX11_next_115 : decode cX11_next 115 = .ok (.invokestatic 76, 3) := by decide +kernel
theorem dX11_next_118 : decode cX11_next 118 = .ok (.ifCond .eq 203, 3) := by decide +kernel
theorem dX11_next_121 : decode cX11_next 121 = .ok (.aload_n 0, 1) := by decide +kernel
theorem dX11_next_122 : decode cX11_next 122 = .ok (.dup, 1) := by decide +kernel
theorem dX11_next_123 : decode cX11_next 123 = .ok (.getfield 134, 3) := by decide +kernel
theorem dX11_next_126 : decode cX11_next 126 = .ok (.iconst 1, 1) := by decide +kernel
theorem dX11_next_127 : decode cX11_next 127 = .ok (.iadd, 1) := by decide +kernel
theorem dX11_next_128 : decode cX11_next 128 = .ok (.putfield 134, 3) := by decide +kernel
theorem dX11_next_131 : decode cX11_next 131 = .ok (.goto (-31), 3) := by decide +kernel
theorem dX11_next_134 : decode cX11_next 134 = .ok (.iload_n 1, 1) := by decide +kernel
theorem dX11_next_135 : decode cX11_next 135 = .ok (.i2l, 1) := by decide +kernel
theorem dX11_next_136 : decode cX11_next 136 = .ok (.ldc2_w 150, 3) := by decide +kernel
theorem dX11_next_139 : decode cX11_next 139 = .ok (.ldc2_w 152, 3) := by decide +kernel
theorem dX11_next_142 : decode cX11_next 142 = .ok (.invokestatic 76, 3) := by decide +kernel
theorem dX11_next_145 : decode cX11_next 145 = .ok (.ifCond .eq 107, 3) := by decide +kernel
theorem dX11_next_148 : decode cX11_next 148 = .ok (.aload_n 0, 1) := by decide +kernel
theorem dX11_next_149 : decode cX11_next 149 = .ok (.iconst 2, 1) := by decide +kernel
theorem dX11_next_150 : decode cX11_next 150 = .ok (.putfield 143, 3) := by decide +kernel
theorem dX11_next_153 : decode cX11_next 153 = .ok (.aload_n 0, 1) := by decide +kernel
theorem dX11_next_154 : decode cX11_next 154 = .ok (.lconst 0, 1) := by decide +kernel
theorem dX11_next_155 : decode cX11_next 155 = .ok (.putfield 154, 3) := by decide +kernel
theorem dX11_next_158 : decode cX11_next 158 = .ok (.iconst 0, 1) := by decide +kernel
theorem dX11_next_159 : decode cX11_next 159 = .ok (.istore_n 2, 1) := by decide +kernel
theorem dX11_next_160 : decode cX11_next 160 = .ok (.aload_n 0, 1) := by decide +kernel
theorem dX11_next_161 : decode cX11_next 161 = .ok (.aload_n 0, 1) := by decide +kernel
theorem dX11_next_162 : decode cX11_next 162 = .ok (.getfield 134, 3) := by decide +kernel
theorem dX11_next_165 : decode cX11_next 165 = .ok (.invokevirtual 137, 3) := by decide +kernel
theorem dX11_next_168 : decode cX11_next 168 = .ok (.i2l, 1) := by decide +kernel
theorem dX11_next_169 : decode cX11_next 169 = .ok (.ldc2_w 150, 3) := by decide +kernel
theorem dX11_next_172 : decode cX11_next 172 = .ok (.ldc2_w 152, 3) := by decide +kernel
theorem dX11_next_175 : decode cX11_next 175 = .ok (.invokestatic 76, 3) := by decide +kernel
theorem dX11_next_178 : decode cX11_next 178 = .ok (.ifCond .eq 57, 3) := by decide +kernel
theorem dX11_next_181 : decode cX11_next 181 = .ok (.aload_n 0, 1) := by decide +kernel
theorem dX11_next_182 : decode cX11_next 182 = .ok (.iload_n 2, 1) := by decide +kernel
theorem dX11_next_183 : decode cX11_next 183 = .ok (.iconst 4, 1) := by decide +kernel
theorem dX11_next_184 : decode cX11_next 184 = .ok (.if_icmp .ge 28, 3) := by decide +kernel
theorem dX11_next_187 : decode cX11_next 187 = .ok (.ldc2_w 115, 3) := by decide +kernel
theorem dX11_next_190 : decode cX11_next 190 = .ok (.aload_n 0, 1) := by decide +kernel
theorem dX11_next_191 : decode cX11_next 191 = .ok (.getfield 154, 3) := by decide +kernel
theorem dX11_next_194 : decode cX11_next 194 = .ok (.lmul, 1) := by decide +kernel
theorem dX11_next_195 : decode cX11_next 195 = .ok (.aload_n 0, 1) := by decide +kernel
theorem dX11_next_196 : decode cX11_next 196 = .ok (.aload_n 0, 1) := by decide +kernel
theorem dX11_next_197 : decode cX11_next 197 = .ok (.getfield 134, 3) := by decide +kernel
theorem dX11_next_200 : decode cX11_next 200 = .ok (.invokevirtual 137, 3) := by decide +kernel
theorem dX11_next_203 : decode cX11_next 203 = .ok (.i2l, 1) := by decide +kernel
theorem dX11_next_204 : decode cX11_next 204 = .ok (.ladd, 1) := by decide +kernel
theorem dX11_next_205 : decode cX11_next 205 = .ok (.ldc2_w 150, 3) := by decide +kernel
theorem dX11_next_208 : decode cX11_next 208 = .ok (.lsub, 1) := by decide +kernel
theorem dX11_next_209 : decode cX11_next 209 = .ok (.goto 7, 3) := by decide +kernel
theorem dX11_next_212 : decode cX11_next 212 = .ok (.aload_n 0, 1) := by decide +kernel
theorem dX11_next_213 : decode cX11_next 213 = .ok (.getfield 154, 3) := by decide +kernel
theorem dX11_next_216 : decode cX11_next 216 = .ok (.putfield 154, 3) := by decide +kernel
theorem dX11_next_219 : decode cX11_next 219 = .ok (.iinc 2 1, 3) := by decide +kernel
theorem dX11_next_222 : decode cX11_next 222 = .ok (.aload_n 0, 1) := by decide +kernel
theorem dX11_next_223 : decode cX11_next 223 = .ok (.dup, 1) := by decide +kernel
theorem dX11_next_224 : decode cX11_next 224 = .ok (.getfield 134, 3) := by decide +kernel
theorem dX11_next_227 : decode cX11_next 227 = .ok (.iconst 1, 1) := by decide +kernel
theorem dX11_next_228 : decode cX11_next 228 = .ok (.iadd, 1) := by decide +kernel
theorem dX11_next_229 : decode cX11_next 229 = .ok (.putfield 134, 3) := by decide +kernel
theorem dX11_next_232 : decode cX11_next 232 = .ok (.goto (-72), 3) := by decide +kernel
theorem dX11_next_235 : decode cX11_next 235 = .ok (.aload_n 0, 1) := by decide +kernel
theorem dX11_next_236 : decode cX11_next 236 = .ok (.iload_n 2, 1) := by decide +kernel
theorem dX11_next_237 : decode cX11_next 237 = .ok (.iconst 4, 1) := by decide +kernel
theorem dX11_next_238 : decode cX11_next 238 = .ok (.if_icmp .le 7, 3) := by decide +kernel
theorem dX11_next_241 : decode cX11_next 241 = .ok (.iconst 4, 1) := by decide +kernel
theorem dX11_next_242 : decode cX11_next 242 = .ok (.goto 4, 3) := by decide +kernel
theorem dX11_next_245 : decode cX11_next 245 = .ok (.iconst 2, 1) := by decide +kernel
theorem dX11_next_246 : decode cX11_next 246 = .ok (.putfield 143, 3) := by decide +kernel
theorem dX11_next_249 : decode cX11_next 249 = .ok (.goto 72, 3) := by decide +kernel
theorem dX11_next_252 : decode cX11_next 252 = .ok (.iload_n 1, 1) := by decide +kernel
theorem dX11_next_253 : decode cX11_next 253 = .ok (.bipush 40, 2) := by decide +kernel
theorem dX11_next_255 : decode cX11_next 255 = .ok (.if_icmp .eq 45, 3) := by decide +kernel
theorem dX11_next_258 : decode cX11_next 258 = .ok (.iload_n 1, 1) := by decide +kernel
theorem dX11_next_259 : decode cX11_next 259 = .ok (.bipush 41, 2) := by decide +kernel
theorem dX11_next_261 : decode cX11_next 261 = .ok (.if_icmp .eq 39, 3) := by decide +kernel
theorem dX11_next_264 : decode cX11_next 264 = .ok (.iload_n 1, 1) := by decide +kernel
theorem dX11_next_265 : decode cX11_next 265 = .ok (.bipush 59, 2) := by decide +kernel
theorem dX11_next_267 : decode cX11_next 267 = .ok (.if_icmp .eq 33, 3) := by decide +kernel
theorem dX11_next_270 : decode cX11_next 270 = .ok (.iload_n 1, 1) := by decide +kernel
theorem dX11_next_271 : decode cX11_next 271 = .ok (.bipush 43, 2) := by decide +kernel
theorem dX11_next_273 : decode cX11_next 273 = .ok (.if_icmp .eq 27, 3) := by decide +kernel
theorem dX11_next_276 : decode cX11_next 276 = .ok (.iload_n 1, 1) := by decide +kernel
theorem dX11_next_277 : decode cX11_next 277 = .ok (.bipush 45, 2) := by decide +kernel
theorem dX11_next_279 : decode cX11_next 279 = .ok (.if_icmp .eq 21, 3) := by decide +kernel
theorem dX11_next_282 : decode cX11_next 282 = .ok (.iload_n 1, 1) := by decide +kernel
theorem dX11_next_283 : decode cX11_next 283 = .ok (.bipush 42, 2) := by decide +kernel
theorem dX11_next_285 : decode cX11_next 285 = .ok (.if_icmp .eq 15, 3) := by decide +kernel
theorem dX11_next_288 : decode cX11_next 288 = .ok (.iload_n 1, 1) := by decide +kernel
theorem dX11_next_289 : decode cX11_next 289 = .ok (.bipush 60, 2) := by decide +kernel
theorem dX11_next_291 : decode cX11_next 291 = .ok (.if_icmp .eq 9, 3) := by decide +kernel
theorem dX11_next_294 : decode cX11_next 294 = .ok (.iload_n 1, 1) := by decide +kernel
theorem dX11_next_295 : decode cX11_next 295 = .ok (.bipush 61, 2) := by decide +kernel
theorem dX11_next_297 : decode cX11_next 297 = .ok (.if_icmp .ne 24, 3) := by decide +kernel
theorem dX11_next_300 : decode cX11_next 300 = .ok (.aload_n 0, 1) := by decide +kernel
theorem dX11_next_301 : decode cX11_next 301 = .ok (.iconst 3, 1) := by decide +kernel
theorem dX11_next_302 : decode cX11_next 302 = .ok (.putfield 143, 3) := by decide +kernel
theorem dX11_next_305 : decode cX11_next 305 = .ok (.aload_n 0, 1) := by decide +kernel
theorem dX11_next_306 : decode cX11_next 306 = .ok (.iload_n 1, 1) := by decide +kernel
theorem dX11_next_307 : decode cX11_next 307 = .ok (.i2l, 1) := by decide +kernel
theorem dX11_next_308 : decode cX11_next 308 = .ok (.putfield 154, 3) := by decide +kernel
theorem dX11_next_311 : decode cX11_next 311 = .ok (.aload_n 0, 1) := by decide +kernel
theorem dX11_next_312 : decode cX11_next 312 = .ok (.dup, 1) := by decide +kernel
theorem dX11_next_313 : decode cX11_next 313 = .ok (.getfield 134, 3) := by decide +kernel
theorem dX11_next_316 : decode cX11_next 316 = .ok (.iconst 1, 1) := by decide +kernel
theorem dX11_next_317 : decode cX11_next 317 = .ok (.iadd, 1) := by decide +kernel
theorem dX11_next_318 : decode cX11_next 318 = .ok (.putfield 134, 3) := by decide +kernel
theorem dX11_next_321 : decode cX11_next 321 = .ok (.return_, 1) := by decide +kernel
theorem dX11_fail_0 : decode cX11_fail 0 = .ok (.aload_n 0, 1) := by decide +kernel
theorem dX11_fail_1 : decode cX11_fail 1 = .ok (.getfield 158, 3) := by decide +kernel
theorem dX11_fail_4 : decode cX11_fail 4 = .ok (.ifCond .ne 16, 3) := by decide +kernel
theorem dX11_fail_7 : decode cX11_fail 7 = .ok (.aload_n 0, 1) := by decide +kernel
theorem dX11_fail_8 : decode cX11_fail 8 = .ok (.iconst 1, 1) := by decide +kernel
theorem dX11_fail_9 : decode cX11_fail 9 = .ok (.putfield 158, 3) := by decide +kernel
theorem dX11_fail_12 : decode cX11_fail 12 = .ok (.aload_n 0, 1) := by decide +kernel
theorem dX11_fail_13 : decode cX11_fail 13 = .ok (.aload_n 0, 1) := by decide +kernel
theorem dX11_fail_14 : decode cX11_fail 14 = .ok (.getfield 140, 3) := by decide +kernel
theorem dX11_fail_17 : decode cX11_fail 17 = .ok (.putfield 162, 3) := by decide +kernel
theorem dX11_fail_20 : decode cX11_fail 20 = .ok (.return_, 1) := by decide +kernel
theorem dX11_isLetter_0 : decode cX11_isLetter 0 = .ok (.aload_n 0, 1) := by decide +kernel
theorem dX11_isLetter_1 : decode cX11_isLetter 1 = .ok (.getfield 140, 3) := by decide +kernel
theorem dX11_isLetter_4 : decode cX11_isLetter 4 = .ok (.iload_n 1, 1) := by decide +kernel
theorem dX11_isLetter_5 : decode cX11_isLetter 5 = .ok (.iadd, 1) := by decide +kernel
theorem dX11_isLetter_6 : decode cX11_isLetter 6 = .ok (.aload_n 0, 1) := by decide +kernel
theorem dX11_isLetter_7 : decode cX11_isLetter 7 = .ok (.getfield 134, 3) := by decide +kernel
theorem dX11_isLetter_10 : decode cX11_isLetter 10 = .ok (.if_icmp .ge 25, 3) := by decide +kernel
theorem dX11_isLetter_13 : decode cX11_isLetter 13 = .ok (.aload_n 0, 1) := by decide +kernel
theorem dX11_isLetter_14 : decode cX11_isLetter 14 = .ok (.aload_n 0, 1) := by decide +kernel
theorem dX11_isLetter_15 : decode cX11_isLetter 15 = .ok (.getfield 140, 3) := by decide +kernel
theorem dX11_isLetter_18 : decode cX11_isLetter 18 = .ok (.iload_n 1, 1) := by decide +kernel
theorem dX11_isLetter_19 : decode cX11_isLetter 19 = .ok (.iadd, 1) := by decide +kernel
theorem dX11_isLetter_20 : decode cX11_isLetter 20 = .ok (.invokevirtual 137, 3) := by decide +kernel
theorem dX11_isLetter_23 : decode cX11_isLetter 23 = .ok (.iload_n 2, 1) := by decide +kernel
theorem dX11_isLetter_24 : decode cX11_isLetter 24 = .ok (.if_icmp .ne 7, 3) := by decide +kernel
theorem dX11_isLetter_27 : decode cX11_isLetter 27 = .ok (.iconst 1, 1) := by decide +kernel
theorem dX11_isLetter_28 : decode cX11_isLetter 28 = .ok (.goto 16, 3) := by decide +kernel
theorem dX11_isLetter_31 : decode cX11_isLetter 31 = .ok (.iconst 0, 1) := by decide +kernel
theorem dX11_isLetter_32 : decode cX11_isLetter 32 = .ok (.goto 12, 3) := by decide +kernel
theorem dX11_isLetter_35 : decode cX11_isLetter 35 = .ok (.iload_n 2, 1) := by decide +kernel
theorem dX11_isLetter_36 : decode cX11_isLetter 36 = .ok (.ifCond .ne 7, 3) := by decide +kernel
theorem dX11_isLetter_39 : decode cX11_isLetter 39 = .ok (.iconst 1, 1) := by decide +kernel
theorem dX11_isLetter_40 : decode cX11_isLetter 40 = .ok (.goto 4, 3) := by decide +kernel
theorem dX11_isLetter_43 : decode cX11_isLetter 43 = .ok (.iconst 0, 1) := by decide +kernel
theorem dX11_isLetter_44 : decode cX11_isLetter 44 = .ok (.ireturn, 1) := by decide +kernel
theorem dX11_isWord_0 : decode cX11_isWord 0 = .ok (.aload_n 0, 1) := by decide +kernel
theorem dX11_isWord_1 : decode cX11_isWord 1 = .ok (.getfield 158, 3) := by decide +kernel
theorem dX11_isWord_4 : decode cX11_isWord 4 = .ok (.ifCond .ne 108, 3) := by decide +kernel
theorem dX11_isWord_7 : decode cX11_isWord 7 = .ok (.aload_n 0, 1) := by decide +kernel
theorem dX11_isWord_8 : decode cX11_isWord 8 = .ok (.getfield 143, 3) := by decide +kernel
theorem dX11_isWord_11 : decode cX11_isWord 11 = .ok (.iconst 1, 1) := by decide +kernel
theorem dX11_isWord_12 : decode cX11_isWord 12 = .ok (.if_icmp .ne 100, 3) := by decide +kernel
theorem dX11_isWord_15 : decode cX11_isWord 15 = .ok (.aload_n 0, 1) := by decide +kernel
theorem dX11_isWord_16 : decode cX11_isWord 16 = .ok (.getfield 134, 3) := by decide +kernel
theorem dX11_isWord_19 : decode cX11_isWord 19 = .ok (.aload_n 0, 1) := by decide +kernel
theorem dX11_isWord_20 : decode cX11_isWord 20 = .ok (.getfield 140, 3) := by decide +kernel
theorem dX11_isWord_23 : decode cX11_isWord 23 = .ok (.bipush 8, 2) := by decide +kernel
theorem dX11_isWord_25 : decode cX11_isWord 25 = .ok (.iadd, 1) := by decide +kernel
theorem dX11_isWord_26 : decode cX11_isWord 26 = .ok (.if_icmp .gt 86, 3) := by decide +kernel
theorem dX11_isWord_29 : decode cX11_isWord 29 = .ok (.aload_n 0, 1) := by decide +kernel
theorem dX11_isWord_30 : decode cX11_isWord 30 = .ok (.iconst 0, 1) := by decide +kernel
theorem dX11_isWord_31 : decode cX11_isWord 31 = .ok (.iload_n 1, 1) := by decide +kernel
theorem dX11_isWord_32 : decode cX11_isWord 32 = .ok (.invokevirtual 165, 3) := by decide +kernel
theorem dX11_isWord_35 : decode cX11_isWord 35 = .ok (.ifCond .eq 77, 3) := by decide +kernel
theorem dX11_isWord_38 : decode cX11_isWord 38 = .ok (.aload_n 0, 1) := by decide +kernel
theorem dX11_isWord_39 : decode cX11_isWord 39 = .ok (.iconst 1, 1) := by decide +kernel
theorem dX11_isWord_40 : decode cX11_isWord 40 = .ok (.iload_n 2, 1) := by decide +kernel
theorem dX11_isWord_41 : decode cX11_isWord 41 = .ok (.invokevirtual 165, 3) := by decide +kernel
theorem dX11_isWord_44 : decode cX11_isWord 44 = .ok (.ifCond .eq 68, 3) := by decide +kernel
theorem dX11_isWord_47 : decode cX11_isWord 47 = .ok (.aload_n 0, 1) := by decide +kernel
theorem dX11_isWord_48 : decode cX11_isWord 48 = .ok (.iconst 2, 1) := by decide +kernel
theorem dX11_isWord_49 : decode cX11_isWord 49 = .ok (.iload_n 3, 1) := by decide +kernel
theorem dX11_isWord_50 : decode cX11_isWord 50 = .ok (.invokevirtual 165, 3) := by decide +kernel
theorem dX11_isWord_53 : decode cX11_isWord 53 = .ok (.ifCond .eq 59, 3) := by decide +kernel
theorem dX11_isWord_56 : decode cX11_isWord 56 = .ok (.aload_n 0, 1) := by decide +kernel
theorem dX11_isWord_57 : decode cX11_isWord 57 = .ok (.iconst 3, 1) := by decide +kernel
theorem dX11_isWord_58 : decode cX11_isWord 58 = .ok (.iload 4, 2) := by decide +kernel
theorem dX11_isWord_60 : decode cX11_isWord 60 = .ok (.invokevirtual 165, 3) := by decide +kernel
theorem dX11_isWord_63 : decode cX11_isWord 63 = .ok (.ifCond .eq 49, 3) := by decide +kernel
theorem dX11_isWord_66 : decode cX11_isWord 66 = .ok (.aload_n 0, 1) := by decide +kernel
theorem dX11_isWord_67 : decode cX11_isWord 67 = .ok (.iconst 4, 1) := by decide +kernel
theorem dX11_isWord_68 : decode cX11_isWord 68 = .ok (.iload 5, 2) := by decide +kernel
theorem dX11_isWord_70 : decode cX11_isWord 70 = .ok (.invokevirtual 165, 3) := by decide +kernel
theorem dX11_isWord_73 : decode cX11_isWord 73 = .ok (.ifCond .eq 39, 3) := by decide +kernel
theorem dX11_isWord_76 : decode cX11_isWord 76 = .ok (.aload_n 0, 1) := by decide +kernel
theorem dX11_isWord_77 : decode cX11_isWord 77 = .ok (.iconst 5, 1) := by decide +kernel
theorem dX11_isWord_78 : decode cX11_isWord 78 = .ok (.iload 6, 2) := by decide +kernel
theorem dX11_isWord_80 : decode cX11_isWord 80 = .ok (.invokevirtual 165, 3) := by decide +kernel
theorem dX11_isWord_83 : decode cX11_isWord 83 = .ok (.ifCond .eq 29, 3) := by decide +kernel
theorem dX11_isWord_86 : decode cX11_isWord 86 = .ok (.aload_n 0, 1) := by decide +kernel
theorem dX11_isWord_87 : decode cX11_isWord 87 = .ok (.bipush 6, 2) := by decide +kernel
theorem dX11_isWord_89 : decode cX11_isWord 89 = .ok (.iload 7, 2) := by decide +kernel
theorem dX11_isWord_91 : decode cX11_isWord 91 = .ok (.invokevirtual 165, 3) := by decide +kernel
theorem dX11_isWord_94 : decode cX11_isWord 94 = .ok (.ifCond .eq 18, 3) := by decide +kernel
theorem dX11_isWord_97 : decode cX11_isWord 97 = .ok (.aload_n 0, 1) := by decide +kernel
theorem dX11_isWord_98 : decode cX11_isWord 98 = .ok (.bipush 7, 2) := by decide +kernel
theorem dX11_isWord_100 : decode cX11_isWord 100 = .ok (.iload 8, 2) := by decide +kernel
theorem dX11_isWord_102 : decode cX11_isWord 102 = .ok (.invokevirtual 165, 3) := by decide +kernel
theorem dX11_isWord_105 : decode cX11_isWord 105 = .ok (.ifCond .eq 7, 3) := by decide +kernel
theorem dX11_isWord_108 : decode cX11_isWord 108 = .ok (.iconst 1, 1) := by decide +kernel
theorem dX11_isWord_109 : decode cX11_isWord 109 = .ok (.goto 4, 3) := by decide +kernel
theorem dX11_isWord_112 : decode cX11_isWord 112 = .ok (.iconst 0, 1) := by decide +kernel
theorem dX11_isWord_113 : decode cX11_isWord 113 = .ok (.ireturn, 1) := by decide +kernel
theorem dX11_isSign_0 : decode cX11_isSign 0 = .ok (.aload_n 0, 1) := by decide +kernel
theorem dX11_isSign_1 : decode cX11_isSign 1 = .ok (.getfield 158, 3) := by decide +kernel
theorem dX11_isSign_4 : decode cX11_isSign 4 = .ok (.ifCond .ne 25, 3) := by decide +kernel
theorem dX11_isSign_7 : decode cX11_isSign 7 = .ok (.aload_n 0, 1) := by decide +kernel
theorem dX11_isSign_8 : decode cX11_isSign 8 = .ok (.getfield 143, 3) := by decide +kernel
theorem dX11_isSign_11 : decode cX11_isSign 11 = .ok (.iconst 3, 1) := by decide +kernel
theorem dX11_isSign_12 : decode cX11_isSign 12 = .ok (.if_icmp .ne 17, 3) := by decide +kernel
theorem dX11_isSign_15 : decode cX11_isSign 15 = .ok (.aload_n 0, 1) := by decide +kernel
theorem dX11_isSign_16 : decode cX11_isSign 16 = .ok (.getfield 154, 3) := by decide +kernel
theorem dX11_isSign_19 : decode cX11_isSign 19 = .ok (.iload_n 1, 1) := by decide +kernel
theorem dX11_isSign_20 : decode cX11_isSign 20 = .ok (.i2l, 1) := by decide +kernel
theorem dX11_isSign_21 : decode cX11_isSign 21 = .ok (.lcmp, 1) := by decide +kernel
theorem dX11_isSign_22 : decode cX11_isSign 22 = .ok (.ifCond .ne 7, 3) := by decide +kernel
theorem dX11_isSign_25 : decode cX11_isSign 25 = .ok (.iconst 1, 1) := by decide +kernel
theorem dX11_isSign_26 : decode cX11_isSign 26 = .ok (.goto 4, 3) := by decide +kernel
theorem dX11_isSign_29 : decode cX11_isSign 29 = .ok (.iconst 0, 1) := by decide +kernel
theorem dX11_isSign_30 : decode cX11_isSign 30 = .ok (.ireturn, 1) := by decide +kernel
theorem dX11_opens_0 : decode cX11_opens 0 = .ok (.aload_n 0, 1) := by decide +kernel
theorem dX11_opens_1 : decode cX11_opens 1 = .ok (.getfield 168, 3) := by decide +kernel
theorem dX11_opens_4 : decode cX11_opens 4 = .ok (.iconst 5, 1) := by decide +kernel
theorem dX11_opens_5 : decode cX11_opens 5 = .ok (.if_icmp .ne 9, 3) := by decide +kernel
theorem dX11_opens_8 : decode cX11_opens 8 = .ok (.aload_n 0, 1) := by decide +kernel
theorem dX11_opens_9 : decode cX11_opens 9 = .ok (.invokevirtual 171, 3) := by decide +kernel
theorem dX11_opens_12 : decode cX11_opens 12 = .ok (.iconst 0, 1) := by decide +kernel
theorem dX11_opens_13 : decode cX11_opens 13 = .ok (.ireturn, 1) := by decide +kernel
theorem dX11_opens_14 : decode cX11_opens 14 = .ok (.aload_n 0, 1) := by decide +kernel
theorem dX11_opens_15 : decode cX11_opens 15 = .ok (.dup, 1) := by decide +kernel
theorem dX11_opens_16 : decode cX11_opens 16 = .ok (.getfield 168, 3) := by decide +kernel
theorem dX11_opens_19 : decode cX11_opens 19 = .ok (.iconst 1, 1) := by decide +kernel
theorem dX11_opens_20 : decode cX11_opens 20 = .ok (.iadd, 1) := by decide +kernel
theorem dX11_opens_21 : decode cX11_opens 21 = .ok (.putfield 168, 3) := by decide +kernel
theorem dX11_opens_24 : decode cX11_opens 24 = .ok (.aload_n 0, 1) := by decide +kernel
theorem dX11_opens_25 : decode cX11_opens 25 = .ok (.invokevirtual 174, 3) := by decide +kernel
theorem dX11_opens_28 : decode cX11_opens 28 = .ok (.iconst 1, 1) := by decide +kernel
theorem dX11_opens_29 : decode cX11_opens 29 = .ok (.ireturn, 1) := by decide +kernel
theorem dX11_name_0 : decode cX11_name 0 = .ok (.aload_n 0, 1) := by decide +kernel
theorem dX11_name_1 : decode cX11_name 1 = .ok (.bipush 112, 2) := by decide +kernel
theorem dX11_name_3 : decode cX11_name 3 = .ok (.bipush 108, 2) := by decide +kernel
theorem dX11_name_5 : decode cX11_name 5 = .ok (.bipush 97, 2) := by decide +kernel
theorem dX11_name_7 : decode cX11_name 7 = .ok (.bipush 99, 2) := by decide +kernel
theorem dX11_name_9 : decode cX11_name 9 = .ok (.bipush 101, 2) := by decide +kernel
theorem dX11_name_11 : decode cX11_name 11 = .ok (.iconst 0, 1) := by decide +kernel
theorem dX11_name_12 : decode cX11_name 12 = .ok (.iconst 0, 1) := by decide +kernel
theorem dX11_name_13 : decode cX11_name 13 = .ok (.iconst 0, 1) := by decide +kernel
theorem dX11_name_14 : decode cX11_name 14 = .ok (.invokevirtual 177, 3) := by decide +kernel
theorem dX11_name_17 : decode cX11_name 17 = .ok (.ifCond .eq 8, 3) := by decide +kernel
theorem dX11_name_20 : decode cX11_name 20 = .ok (.aload_n 0, 1) := by decide +kernel
theorem dX11_name_21 : decode cX11_name 21 = .ok (.getfield 181, 3) := by decide +kernel
theorem dX11_name_24 : decode cX11_name 24 = .ok (.ireturn, 1) := by decide +kernel
theorem dX11_name_25 : decode cX11_name 25 = .ok (.aload_n 0, 1) := by decide +kernel
theorem dX11_name_26 : decode cX11_name 26 = .ok (.bipush 116, 2) := by decide +kernel
theorem dX11_name_28 : decode cX11_name 28 = .ok (.bipush 111, 2) := by decide +kernel
theorem dX11_name_30 : decode cX11_name 30 = .ok (.iconst 0, 1) := by decide +kernel
theorem dX11_name_31 : decode cX11_name 31 = .ok (.iconst 0, 1) := by decide +kernel
theorem dX11_name_32 : decode cX11_name 32 = .ok (.iconst 0, 1) := by decide +kernel
theorem dX11_name_33 : decode cX11_name 33 = .ok (.iconst 0, 1) := by decide +kernel
theorem dX11_name_34 : decode cX11_name 34 = .ok (.iconst 0, 1) := by decide +kernel
theorem dX11_name_35 : decode cX11_name 35 = .ok (.iconst 0, 1) := by decide +kernel
theorem dX11_name_36 : decode cX11_name 36 = .ok (.invokevirtual 177, 3) := by decide +kernel
theorem dX11_name_39 : decode cX11_name 39 = .ok (.ifCond .eq 8, 3) := by decide +kernel
theorem dX11_name_42 : decode cX11_name 42 = .ok (.aload_n 0, 1) := by decide +kernel
theorem dX11_name_43 : decode cX11_name 43 = .ok (.getfield 184, 3) := by decide +kernel
theorem dX11_name_46 : decode cX11_name 46 = .ok (.ireturn, 1) := by decide +kernel
theorem dX11_name_47 : decode cX11_name 47 = .ok (.aload_n 0, 1) := by decide +kernel
theorem dX11_name_48 : decode cX11_name 48 = .ok (.bipush 119, 2) := by decide +kernel
theorem dX11_name_50 : decode cX11_name 50 = .ok (.bipush 101, 2) := by decide +kernel
theorem dX11_name_52 : decode cX11_name 52 = .ok (.bipush 101, 2) := by decide +kernel
theorem dX11_name_54 : decode cX11_name 54 = .ok (.bipush 107, 2) := by decide +kernel
theorem dX11_name_56 : decode cX11_name 56 = .ok (.iconst 0, 1) := by decide +kernel
theorem dX11_name_57 : decode cX11_name 57 = .ok (.iconst 0, 1) := by decide +kernel
theorem dX11_name_58 : decode cX11_name 58 = .ok (.iconst 0, 1) := by decide +kernel
theorem dX11_name_59 : decode cX11_name 59 = .ok (.iconst 0, 1) := by decide +kernel
theorem dX11_name_60 : decode cX11_name 60 = .ok (.invokevirtual 177, 3) := by decide +kernel
theorem dX11_name_63 : decode cX11_name 63 = .ok (.ifCond .eq 8, 3) := by decide +kernel
theorem dX11_name_66 : decode cX11_name 66 = .ok (.aload_n 0, 1) := by decide +kernel
theorem dX11_name_67 : decode cX11_name 67 = .ok (.getfield 187, 3) := by decide +kernel
theorem dX11_name_70 : decode cX11_name 70 = .ok (.ireturn, 1) := by decide +kernel
theorem dX11_name_71 : decode cX11_name 71 = .ok (.aload_n 0, 1) := by decide +kernel
theorem dX11_name_72 : decode cX11_name 72 = .ok (.bipush 110, 2) := by decide +kernel
theorem dX11_name_74 : decode cX11_name 74 = .ok (.bipush 117, 2) := by decide +kernel
theorem dX11_name_76 : decode cX11_name 76 = .ok (.bipush 109, 2) := by decide +kernel
theorem dX11_name_78 : decode cX11_name 78 = .ok (.bipush 98, 2) := by decide +kernel
theorem dX11_name_80 : decode cX11_name 80 = .ok (.bipush 101, 2) := by decide +kernel
theorem dX11_name_82 : decode cX11_name 82 = .ok (.bipush 114, 2) := by decide +kernel
theorem dX11_name_84 : decode cX11_name 84 = .ok (.iconst 0, 1) := by decide +kernel
theorem dX11_name_85 : decode cX11_name 85 = .ok (.iconst 0, 1) := by decide +kernel
theorem dX11_name_86 : decode cX11_name 86 = .ok (.invokevirtual 177, 3) := by decide +kernel
theorem dX11_name_89 : decode cX11_name 89 = .ok (.ifCond .eq 8, 3) := by decide +kernel
theorem dX11_name_92 : decode cX11_name 92 = .ok (.aload_n 0, 1) := by decide +kernel
theorem dX11_name_93 : decode cX11_name 93 = .ok (.getfield 190, 3) := by decide +kernel
theorem dX11_name_96 : decode cX11_name 96 = .ok (.ireturn, 1) := by decide +kernel
theorem dX11_name_97 : decode cX11_name 97 = .ok (.aload_n 0, 1) := by decide +kernel
theorem dX11_name_98 : decode cX11_name 98 = .ok (.bipush 119, 2) := by decide +kernel
theorem dX11_name_100 : decode cX11_name 100 = .ok (.bipush 97, 2) := by decide +kernel
theorem dX11_name_102 : decode cX11_name 102 = .ok (.bipush 121, 2) := by decide +kernel
theorem dX11_name_104 : decode cX11_name 104 = .ok (.bipush 115, 2) := by decide +kernel
theorem dX11_name_106 : decode cX11_name 106 = .ok (.iconst 0, 1) := by decide +kernel
theorem dX11_name_107 : decode cX11_name 107 = .ok (.iconst 0, 1) := by decide +kernel
theorem dX11_name_108 : decode cX11_name 108 = .ok (.iconst 0, 1) := by decide +kernel
theorem dX11_name_109 : decode cX11_name 109 = .ok (.iconst 0, 1) := by decide +kernel
theorem dX11_name_110 : decode cX11_name 110 = .ok (.invokevirtual 177, 3) := by decide +kernel
theorem dX11_name_113 : decode cX11_name 113 = .ok (.ifCond .eq 8, 3) := by decide +kernel
theorem dX11_name_116 : decode cX11_name 116 = .ok (.aload_n 0, 1) := by decide +kernel
theorem dX11_name_117 : decode cX11_name 117 = .ok (.getfield 193, 3) := by decide +kernel
theorem dX11_name_120 : decode cX11_name 120 = .ok (.ireturn, 1) := by decide +kernel
theorem dX11_name_121 : decode cX11_name 121 = .ok (.aload_n 0, 1) := by decide +kernel
theorem dX11_name_122 : decode cX11_name 122 = .ok (.bipush 112, 2) := by decide +kernel
theorem dX11_name_124 : decode cX11_name 124 = .ok (.bipush 111, 2) := by decide +kernel
theorem dX11_name_126 : decode cX11_name 126 = .ok (.bipush 115, 2) := by decide +kernel
theorem dX11_name_128 : decode cX11_name 128 = .ok (.bipush 101, 2) := by decide +kernel
theorem dX11_name_130 : decode cX11_name 130 = .ok (.iconst 0, 1) := by decide +kernel
theorem dX11_name_131 : decode cX11_name 131 = .ok (.iconst 0, 1) := by decide +kernel
theorem dX11_name_132 : decode cX11_name 132 = .ok (.iconst 0, 1) := by decide +kernel
theorem dX11_name_133 : decode cX11_name 133 = .ok (.iconst 0, 1) := by decide +kernel
theorem dX11_name_134 : decode cX11_name 134 = .ok (.invokevirtual 177, 3) := by decide +kernel
theorem dX11_name_137 : decode cX11_name 137 = .ok (.ifCond .eq 8, 3) := by decide +kernel
theorem dX11_name_140 : decode cX11_name 140 = .ok (.aload_n 0, 1) := by decide +kernel
theorem dX11_name_141 : decode cX11_name 141 = .ok (.getfield 196, 3) := by decide +kernel
theorem dX11_name_144 : decode cX11_name 144 = .ok (.ireturn, 1) := by decide +kernel
theorem dX11_name_145 : decode cX11_name 145 = .ok (.aload_n 0, 1) := by decide +kernel
theorem dX11_name_146 : decode cX11_name 146 = .ok (.invokevirtual 171, 3) := by decide +kernel
theorem dX11_name_149 : decode cX11_name 149 = .ok (.iconst 0, 1) := by decide +kernel
theorem dX11_name_150 : decode cX11_name 150 = .ok (.ireturn, 1) := by decide +kernel
theorem dX11_atom5_0 : decode cX11_atom5 0 = .ok (.iconst 0, 1) := by decide +kernel
theorem dX11_atom5_1 : decode cX11_atom5 1 = .ok (.istore_n 1, 1) := by decide +kernel
theorem dX11_atom5_2 : decode cX11_atom5 2 = .ok (.aload_n 0, 1) := by decide +kernel
theorem dX11_atom5_3 : decode cX11_atom5 3 = .ok (.bipush 45, 2) := by decide +kernel
theorem dX11_atom5_5 : decode cX11_atom5 5 = .ok (.invokevirtual 199, 3) := by decide +kernel
theorem dX11_atom5_8 : decode cX11_atom5 8 = .ok (.ifCond .eq 11, 3) := by decide +kernel
theorem dX11_atom5_11 : decode cX11_atom5 11 = .ok (.aload_n 0, 1) := by decide +kernel
theorem dX11_atom5_12 : decode cX11_atom5 12 = .ok (.invokevirtual 202, 3) := by decide +kernel
theorem dX11_atom5_15 : decode cX11_atom5 15 = .ok (.pop, 1) := by decide +kernel
theorem dX11_atom5_16 : decode cX11_atom5 16 = .ok (.goto 86, 3) := by decide +kernel
theorem dX11_atom5_19 : decode cX11_atom5 19 = .ok (.aload_n 0, 1) := by decide +kernel
theorem dX11_atom5_20 : decode cX11_atom5 20 = .ok (.bipush 40, 2) := by decide +kernel
theorem dX11_atom5_22 : decode cX11_atom5 22 = .ok (.invokevirtual 199, 3) := by decide +kernel
theorem dX11_atom5_25 : decode cX11_atom5 25 = .ok (.ifCond .eq 11, 3) := by decide +kernel
theorem dX11_atom5_28 : decode cX11_atom5 28 = .ok (.aload_n 0, 1) := by decide +kernel
theorem dX11_atom5_29 : decode cX11_atom5 29 = .ok (.invokevirtual 202, 3) := by decide +kernel
theorem dX11_atom5_32 : decode cX11_atom5 32 = .ok (.pop, 1) := by decide +kernel
theorem dX11_atom5_33 : decode cX11_atom5 33 = .ok (.goto 69, 3) := by decide +kernel
theorem dX11_atom5_36 : decode cX11_atom5 36 = .ok (.aload_n 0, 1) := by decide +kernel
theorem dX11_atom5_37 : decode cX11_atom5 37 = .ok (.getfield 158, 3) := by decide +kernel
theorem dX11_atom5_40 : decode cX11_atom5 40 = .ok (.ifCond .ne 24, 3) := by decide +kernel
theorem dX11_atom5_43 : decode cX11_atom5 43 = .ok (.aload_n 0, 1) := by decide +kernel
theorem dX11_atom5_44 : decode cX11_atom5 44 = .ok (.getfield 143, 3) := by decide +kernel
theorem dX11_atom5_47 : decode cX11_atom5 47 = .ok (.iconst 2, 1) := by decide +kernel
theorem dX11_atom5_48 : decode cX11_atom5 48 = .ok (.if_icmp .ne 16, 3) := by decide +kernel
theorem dX11_atom5_51 : decode cX11_atom5 51 = .ok (.aload_n 0, 1) := by decide +kernel
theorem dX11_atom5_52 : decode cX11_atom5 52 = .ok (.getfield 154, 3) := by decide +kernel
theorem dX11_atom5_55 : decode cX11_atom5 55 = .ok (.l2i, 1) := by decide +kernel
theorem dX11_atom5_56 : decode cX11_atom5 56 = .ok (.istore_n 1, 1) := by decide +kernel
theorem dX11_atom5_57 : decode cX11_atom5 57 = .ok (.aload_n 0, 1) := by decide +kernel
theorem dX11_atom5_58 : decode cX11_atom5 58 = .ok (.invokevirtual 174, 3) := by decide +kernel
theorem dX11_atom5_61 : decode cX11_atom5 61 = .ok (.goto 41, 3) := by decide +kernel
theorem dX11_atom5_64 : decode cX11_atom5 64 = .ok (.aload_n 0, 1) := by decide +kernel
theorem dX11_atom5_65 : decode cX11_atom5 65 = .ok (.getfield 158, 3) := by decide +kernel
theorem dX11_atom5_68 : decode cX11_atom5 68 = .ok (.ifCond .ne 30, 3) := by decide +kernel
theorem dX11_atom5_71 : decode cX11_atom5 71 = .ok (.aload_n 0, 1) := by decide +kernel
theorem dX11_atom5_72 : decode cX11_atom5 72 = .ok (.getfield 143, 3) := by decide +kernel
theorem dX11_atom5_75 : decode cX11_atom5 75 = .ok (.iconst 1, 1) := by decide +kernel
theorem dX11_atom5_76 : decode cX11_atom5 76 = .ok (.if_icmp .ne 22, 3) := by decide +kernel
theorem dX11_atom5_79 : decode cX11_atom5 79 = .ok (.aload_n 0, 1) := by decide +kernel
theorem dX11_atom5_80 : decode cX11_atom5 80 = .ok (.invokevirtual 206, 3) := by decide +kernel
theorem dX11_atom5_83 : decode cX11_atom5 83 = .ok (.istore_n 1, 1) := by decide +kernel
theorem dX11_atom5_84 : decode cX11_atom5 84 = .ok (.aload_n 0, 1) := by decide +kernel
theorem dX11_atom5_85 : decode cX11_atom5 85 = .ok (.getfield 158, 3) := by decide +kernel
theorem dX11_atom5_88 : decode cX11_atom5 88 = .ok (.ifCond .ne 14, 3) := by decide +kernel
theorem dX11_atom5_91 : decode cX11_atom5 91 = .ok (.aload_n 0, 1) := by decide +kernel
theorem dX11_atom5_92 : decode cX11_atom5 92 = .ok (.invokevirtual 174, 3) := by decide +kernel
theorem dX11_atom5_95 : decode cX11_atom5 95 = .ok (.goto 7, 3) := by decide +kernel
theorem dX11_atom5_98 : decode cX11_atom5 98 = .ok (.aload_n 0, 1) := by decide +kernel
theorem dX11_atom5_99 : decode cX11_atom5 99 = .ok (.invokevirtual 171, 3) := by decide +kernel
theorem dX11_atom5_102 : decode cX11_atom5 102 = .ok (.iload_n 1, 1) := by decide +kernel
theorem dX11_atom5_103 : decode cX11_atom5 103 = .ok (.ireturn, 1) := by decide +kernel
theorem dX11_term5_0 : decode cX11_term5 0 = .ok (.aload_n 0, 1) := by decide +kernel
theorem dX11_term5_1 : decode cX11_term5 1 = .ok (.invokevirtual 210, 3) := by decide +kernel
theorem dX11_term5_4 : decode cX11_term5 4 = .ok (.istore_n 1, 1) := by decide +kernel
theorem dX11_term5_5 : decode cX11_term5 5 = .ok (.aload_n 0, 1) := by decide +kernel
theorem dX11_term5_6 : decode cX11_term5 6 = .ok (.bipush 42, 2) := by decide +kernel
theorem dX11_term5_8 : decode cX11_term5 8 = .ok (.invokevirtual 199, 3) := by decide +kernel
theorem dX11_term5_11 : decode cX11_term5 11 = .ok (.ifCond .eq 17, 3) := by decide +kernel
theorem dX11_term5_14 : decode cX11_term5 14 = .ok (.aload_n 0, 1) := by decide +kernel
theorem dX11_term5_15 : decode cX11_term5 15 = .ok (.invokevirtual 174, 3) := by decide +kernel
theorem dX11_term5_18 : decode cX11_term5 18 = .ok (.iload_n 1, 1) := by decide +kernel
theorem dX11_term5_19 : decode cX11_term5 19 = .ok (.aload_n 0, 1) := by decide +kernel
theorem dX11_term5_20 : decode cX11_term5 20 = .ok (.invokevirtual 210, 3) := by decide +kernel
theorem dX11_term5_23 : decode cX11_term5 23 = .ok (.imul, 1) := by decide +kernel
theorem dX11_term5_24 : decode cX11_term5 24 = .ok (.istore_n 1, 1) := by decide +kernel
theorem dX11_term5_25 : decode cX11_term5 25 = .ok (.goto (-20), 3) := by decide +kernel
theorem dX11_term5_28 : decode cX11_term5 28 = .ok (.iload_n 1, 1) := by decide +kernel
theorem dX11_term5_29 : decode cX11_term5 29 = .ok (.ireturn, 1) := by decide +kernel
theorem dX11_added5_0 : decode cX11_added5 0 = .ok (.aload_n 0, 1) := by decide +kernel
theorem dX11_added5_1 : decode cX11_added5 1 = .ok (.invokevirtual 213, 3) := by decide +kernel
theorem dX11_added5_4 : decode cX11_added5 4 = .ok (.istore_n 1, 1) := by decide +kernel
theorem dX11_added5_5 : decode cX11_added5 5 = .ok (.aload_n 0, 1) := by decide +kernel
theorem dX11_added5_6 : decode cX11_added5 6 = .ok (.bipush 43, 2) := by decide +kernel
theorem dX11_added5_8 : decode cX11_added5 8 = .ok (.invokevirtual 199, 3) := by decide +kernel
theorem dX11_added5_11 : decode cX11_added5 11 = .ok (.ifCond .ne 12, 3) := by decide +kernel
theorem dX11_added5_14 : decode cX11_added5 14 = .ok (.aload_n 0, 1) := by decide +kernel
theorem dX11_added5_15 : decode cX11_added5 15 = .ok (.bipush 45, 2) := by decide +kernel
theorem dX11_added5_17 : decode cX11_added5 17 = .ok (.invokevirtual 199, 3) := by decide +kernel
theorem dX11_added5_20 : decode cX11_added5 20 = .ok (.ifCond .eq 46, 3) := by decide +kernel
theorem dX11_added5_23 : decode cX11_added5 23 = .ok (.aload_n 0, 1) := by decide +kernel
theorem dX11_added5_24 : decode cX11_added5 24 = .ok (.getfield 154, 3) := by decide +kernel
theorem dX11_added5_27 : decode cX11_added5 27 = .ok (.ldc2_w 216, 3) := by decide +kernel
theorem dX11_added5_30 : decode cX11_added5 30 = .ok (.lcmp, 1) := by decide +kernel
theorem dX11_added5_31 : decode cX11_added5 31 = .ok (.ifCond .ne 7, 3) := by decide +kernel
theorem dX11_added5_34 : decode cX11_added5 34 = .ok (.iconst 1, 1) := by decide +kernel
theorem dX11_added5_35 : decode cX11_added5 35 = .ok (.goto 4, 3) := by decide +kernel
theorem dX11_added5_38 : decode cX11_added5 38 = .ok (.iconst 0, 1) := by decide +kernel
theorem dX11_added5_39 : decode cX11_added5 39 = .ok (.istore_n 2, 1) := by decide +kernel
theorem dX11_added5_40 : decode cX11_added5 40 = .ok (.aload_n 0, 1) := by decide +kernel
theorem dX11_added5_41 : decode cX11_added5 41 = .ok (.invokevirtual 174, 3) := by decide +kernel
theorem dX11_added5_44 : decode cX11_added5 44 = .ok (.aload_n 0, 1) := by decide +kernel
theorem dX11_added5_45 : decode cX11_added5 45 = .ok (.invokevirtual 213, 3) := by decide +kernel
theorem dX11_added5_48 : decode cX11_added5 48 = .ok (.istore_n 3, 1) := by decide +kernel
theorem dX11_added5_49 : decode cX11_added5 49 = .ok (.iload_n 2, 1) := by decide +kernel
theorem dX11_added5_50 : decode cX11_added5 50 = .ok (.ifCond .eq 9, 3) := by decide +kernel
theorem dX11_added5_53 : decode cX11_added5 53 = .ok (.iload_n 1, 1) := by decide +kernel
theorem dX11_added5_54 : decode cX11_added5 54 = .ok (.iload_n 3, 1) := by decide +kernel
theorem dX11_added5_55 : decode cX11_added5 55 = .ok (.iadd, 1) := by decide +kernel
theorem dX11_added5_56 : decode cX11_added5 56 = .ok (.goto 6, 3) := by decide +kernel
theorem dX11_added5_59 : decode cX11_added5 59 = .ok (.iload_n 1, 1) := by decide +kernel
theorem dX11_added5_60 : decode cX11_added5 60 = .ok (.iload_n 3, 1) := by decide +kernel
theorem dX11_added5_61 : decode cX11_added5 61 = .ok (.isub, 1) := by decide +kernel
theorem dX11_added5_62 : decode cX11_added5 62 = .ok (.istore_n 1, 1) := by decide +kernel
theorem dX11_added5_63 : decode cX11_added5 63 = .ok (.goto (-58), 3) := by decide +kernel
theorem dX11_added5_66 : decode cX11_added5 66 = .ok (.iload_n 1, 1) := by decide +kernel
theorem dX11_added5_67 : decode cX11_added5 67 = .ok (.ireturn, 1) := by decide +kernel
theorem dX11_not5_0 : decode cX11_not5 0 = .ok (.aload_n 0, 1) := by decide +kernel
theorem dX11_not5_1 : decode cX11_not5 1 = .ok (.bipush 110, 2) := by decide +kernel
theorem dX11_not5_3 : decode cX11_not5 3 = .ok (.bipush 111, 2) := by decide +kernel
theorem dX11_not5_5 : decode cX11_not5 5 = .ok (.bipush 116, 2) := by decide +kernel
theorem dX11_not5_7 : decode cX11_not5 7 = .ok (.iconst 0, 1) := by decide +kernel
theorem dX11_not5_8 : decode cX11_not5 8 = .ok (.iconst 0, 1) := by decide +kernel
theorem dX11_not5_9 : decode cX11_not5 9 = .ok (.iconst 0, 1) := by decide +kernel
theorem dX11_not5_10 : decode cX11_not5 10 = .ok (.iconst 0, 1) := by decide +kernel
theorem dX11_not5_11 : decode cX11_not5 11 = .ok (.iconst 0, 1) := by decide +kernel
theorem dX11_not5_12 : decode cX11_not5 12 = .ok (.invokevirtual 177, 3) := by decide +kernel
theorem dX11_not5_15 : decode cX11_not5 15 = .ok (.ifCond .eq 10, 3) := by decide +kernel
theorem dX11_not5_18 : decode cX11_not5 18 = .ok (.aload_n 0, 1) := by decide +kernel
theorem dX11_not5_19 : decode cX11_not5 19 = .ok (.invokevirtual 202, 3) := by decide +kernel
theorem dX11_not5_22 : decode cX11_not5 22 = .ok (.pop, 1) := by decide +kernel
theorem dX11_not5_23 : decode cX11_not5 23 = .ok (.iconst 0, 1) := by decide +kernel
theorem dX11_not5_24 : decode cX11_not5 24 = .ok (.ireturn, 1) := by decide +kernel
theorem dX11_not5_25 : decode cX11_not5 25 = .ok (.aload_n 0, 1) := by decide +kernel
theorem dX11_not5_26 : decode cX11_not5 26 = .ok (.invokevirtual 218, 3) := by decide +kernel
theorem dX11_not5_29 : decode cX11_not5 29 = .ok (.istore_n 1, 1) := by decide +kernel
theorem dX11_not5_30 : decode cX11_not5 30 = .ok (.aload_n 0, 1) := by decide +kernel
theorem dX11_not5_31 : decode cX11_not5 31 = .ok (.bipush 60, 2) := by decide +kernel
theorem dX11_not5_33 : decode cX11_not5 33 = .ok (.invokevirtual 199, 3) := by decide +kernel
theorem dX11_not5_36 : decode cX11_not5 36 = .ok (.ifCond .ne 14, 3) := by decide +kernel
theorem dX11_not5_39 : decode cX11_not5 39 = .ok (.aload_n 0, 1) := by decide +kernel
theorem dX11_not5_40 : decode cX11_not5 40 = .ok (.bipush 61, 2) := by decide +kernel
theorem dX11_not5_42 : decode cX11_not5 42 = .ok (.invokevirtual 199, 3) := by decide +kernel
theorem dX11_not5_45 : decode cX11_not5 45 = .ok (.ifCond .ne 5, 3) := by decide +kernel
theorem dX11_not5_48 : decode cX11_not5 48 = .ok (.iload_n 1, 1) := by decide +kernel
theorem dX11_not5_49 : decode cX11_not5 49 = .ok (.ireturn, 1) := by decide +kernel
theorem dX11_not5_50 : decode cX11_not5 50 = .ok (.aload_n 0, 1) := by decide +kernel
theorem dX11_not5_51 : decode cX11_not5 51 = .ok (.getfield 154, 3) := by decide +kernel
theorem dX11_not5_54 : decode cX11_not5 54 = .ok (.ldc2_w 221, 3) := by decide +kernel
theorem dX11_not5_57 : decode cX11_not5 57 = .ok (.lcmp, 1) := by decide +kernel
theorem dX11_not5_58 : decode cX11_not5 58 = .ok (.ifCond .ne 7, 3) := by decide +kernel
theorem dX11_not5_61 : decode cX11_not5 61 = .ok (.iconst 1, 1) := by decide +kernel
theorem dX11_not5_62 : decode cX11_not5 62 = .ok (.goto 4, 3) := by decide +kernel
theorem dX11_not5_65 : decode cX11_not5 65 = .ok (.iconst 0, 1) := by decide +kernel
theorem dX11_not5_66 : decode cX11_not5 66 = .ok (.istore_n 2, 1) := by decide +kernel
theorem dX11_not5_67 : decode cX11_not5 67 = .ok (.aload_n 0, 1) := by decide +kernel
theorem dX11_not5_68 : decode cX11_not5 68 = .ok (.invokevirtual 174, 3) := by decide +kernel
theorem dX11_not5_71 : decode cX11_not5 71 = .ok (.aload_n 0, 1) := by decide +kernel
theorem dX11_not5_72 : decode cX11_not5 72 = .ok (.invokevirtual 218, 3) := by decide +kernel
theorem dX11_not5_75 : decode cX11_not5 75 = .ok (.istore_n 3, 1) := by decide +kernel
theorem dX11_not5_76 : decode cX11_not5 76 = .ok (.iload_n 2, 1) := by decide +kernel
theorem dX11_not5_77 : decode cX11_not5 77 = .ok (.ifCond .eq 11, 3) := by decide +kernel
theorem dX11_not5_80 : decode cX11_not5 80 = .ok (.iload_n 1, 1) := by decide +kernel
theorem dX11_not5_81 : decode cX11_not5 81 = .ok (.iload_n 3, 1) := by decide +kernel
theorem dX11_not5_82 : decode cX11_not5 82 = .ok (.if_icmp .ge 15, 3) := by decide +kernel
theorem dX11_not5_85 : decode cX11_not5 85 = .ok (.goto 8, 3) := by decide +kernel
theorem dX11_not5_88 : decode cX11_not5 88 = .ok (.iload_n 1, 1) := by decide +kernel
theorem dX11_not5_89 : decode cX11_not5 89 = .ok (.iload_n 3, 1) := by decide +kernel
theorem dX11_not5_90 : decode cX11_not5 90 = .ok (.if_icmp .ne 7, 3) := by decide +kernel
theorem dX11_not5_93 : decode cX11_not5 93 = .ok (.iconst 1, 1) := by decide +kernel
theorem dX11_not5_94 : decode cX11_not5 94 = .ok (.goto 4, 3) := by decide +kernel
theorem dX11_not5_97 : decode cX11_not5 97 = .ok (.iconst 0, 1) := by decide +kernel
theorem dX11_not5_98 : decode cX11_not5 98 = .ok (.ireturn, 1) := by decide +kernel
theorem dX11_both5_0 : decode cX11_both5 0 = .ok (.aload_n 0, 1) := by decide +kernel
theorem dX11_both5_1 : decode cX11_both5 1 = .ok (.invokevirtual 223, 3) := by decide +kernel
theorem dX11_both5_4 : decode cX11_both5 4 = .ok (.istore_n 1, 1) := by decide +kernel
theorem dX11_both5_5 : decode cX11_both5 5 = .ok (.aload_n 0, 1) := by decide +kernel
theorem dX11_both5_6 : decode cX11_both5 6 = .ok (.bipush 97, 2) := by decide +kernel
theorem dX11_both5_8 : decode cX11_both5 8 = .ok (.bipush 110, 2) := by decide +kernel
theorem dX11_both5_10 : decode cX11_both5 10 = .ok (.bipush 100, 2) := by decide +kernel
theorem dX11_both5_12 : decode cX11_both5 12 = .ok (.iconst 0, 1) := by decide +kernel
theorem dX11_both5_13 : decode cX11_both5 13 = .ok (.iconst 0, 1) := by decide +kernel
theorem dX11_both5_14 : decode cX11_both5 14 = .ok (.iconst 0, 1) := by decide +kernel
theorem dX11_both5_15 : decode cX11_both5 15 = .ok (.iconst 0, 1) := by decide +kernel
theorem dX11_both5_16 : decode cX11_both5 16 = .ok (.iconst 0, 1) := by decide +kernel
theorem dX11_both5_17 : decode cX11_both5 17 = .ok (.invokevirtual 177, 3) := by decide +kernel
theorem dX11_both5_20 : decode cX11_both5 20 = .ok (.ifCond .eq 29, 3) := by decide +kernel
theorem dX11_both5_23 : decode cX11_both5 23 = .ok (.aload_n 0, 1) := by decide +kernel
theorem dX11_both5_24 : decode cX11_both5 24 = .ok (.invokevirtual 174, 3) := by decide +kernel
theorem dX11_both5_27 : decode cX11_both5 27 = .ok (.aload_n 0, 1) := by decide +kernel
theorem dX11_both5_28 : decode cX11_both5 28 = .ok (.invokevirtual 223, 3) := by decide +kernel
theorem dX11_both5_31 : decode cX11_both5 31 = .ok (.istore_n 2, 1) := by decide +kernel
theorem dX11_both5_32 : decode cX11_both5 32 = .ok (.iload_n 1, 1) := by decide +kernel
theorem dX11_both5_33 : decode cX11_both5 33 = .ok (.ifCond .eq 11, 3) := by decide +kernel
theorem dX11_both5_36 : decode cX11_both5 36 = .ok (.iload_n 2, 1) := by decide +kernel
theorem dX11_both5_37 : decode cX11_both5 37 = .ok (.ifCond .eq 7, 3) := by decide +kernel
theorem dX11_both5_40 : decode cX11_both5 40 = .ok (.iconst 1, 1) := by decide +kernel
theorem dX11_both5_41 : decode cX11_both5 41 = .ok (.goto 4, 3) := by decide +kernel
theorem dX11_both5_44 : decode cX11_both5 44 = .ok (.iconst 0, 1) := by decide +kernel
theorem dX11_both5_45 : decode cX11_both5 45 = .ok (.istore_n 1, 1) := by decide +kernel
theorem dX11_both5_46 : decode cX11_both5 46 = .ok (.goto (-41), 3) := by decide +kernel
theorem dX11_both5_49 : decode cX11_both5 49 = .ok (.iload_n 1, 1) := by decide +kernel
theorem dX11_both5_50 : decode cX11_both5 50 = .ok (.ireturn, 1) := by decide +kernel
theorem dX11_either5_0 : decode cX11_either5 0 = .ok (.aload_n 0, 1) := by decide +kernel
theorem dX11_either5_1 : decode cX11_either5 1 = .ok (.invokevirtual 226, 3) := by decide +kernel
theorem dX11_either5_4 : decode cX11_either5 4 = .ok (.istore_n 1, 1) := by decide +kernel
theorem dX11_either5_5 : decode cX11_either5 5 = .ok (.aload_n 0, 1) := by decide +kernel
theorem dX11_either5_6 : decode cX11_either5 6 = .ok (.bipush 111, 2) := by decide +kernel
theorem dX11_either5_8 : decode cX11_either5 8 = .ok (.bipush 114, 2) := by decide +kernel
theorem dX11_either5_10 : decode cX11_either5 10 = .ok (.iconst 0, 1) := by decide +kernel
theorem dX11_either5_11 : decode cX11_either5 11 = .ok (.iconst 0, 1) := by decide +kernel
theorem dX11_either5_12 : decode cX11_either5 12 = .ok (.iconst 0, 1) := by decide +kernel
theorem dX11_either5_13 : decode cX11_either5 13 = .ok (.iconst 0, 1) := by decide +kernel
theorem dX11_either5_14 : decode cX11_either5 14 = .ok (.iconst 0, 1) := by decide +kernel
theorem dX11_either5_15 : decode cX11_either5 15 = .ok (.iconst 0, 1) := by decide +kernel
theorem dX11_either5_16 : decode cX11_either5 16 = .ok (.invokevirtual 177, 3) := by decide +kernel
theorem dX11_either5_19 : decode cX11_either5 19 = .ok (.ifCond .eq 29, 3) := by decide +kernel
theorem dX11_either5_22 : decode cX11_either5 22 = .ok (.aload_n 0, 1) := by decide +kernel
theorem dX11_either5_23 : decode cX11_either5 23 = .ok (.invokevirtual 174, 3) := by decide +kernel
theorem dX11_either5_26 : decode cX11_either5 26 = .ok (.aload_n 0, 1) := by decide +kernel
theorem dX11_either5_27 : decode cX11_either5 27 = .ok (.invokevirtual 226, 3) := by decide +kernel
theorem dX11_either5_30 : decode cX11_either5 30 = .ok (.istore_n 2, 1) := by decide +kernel
theorem dX11_either5_31 : decode cX11_either5 31 = .ok (.iload_n 1, 1) := by decide +kernel
theorem dX11_either5_32 : decode cX11_either5 32 = .ok (.ifCond .ne 7, 3) := by decide +kernel
theorem dX11_either5_35 : decode cX11_either5 35 = .ok (.iload_n 2, 1) := by decide +kernel
theorem dX11_either5_36 : decode cX11_either5 36 = .ok (.ifCond .eq 7, 3) := by decide +kernel
theorem dX11_either5_39 : decode cX11_either5 39 = .ok (.iconst 1, 1) := by decide +kernel
theorem dX11_either5_40 : decode cX11_either5 40 = .ok (.goto 4, 3) := by decide +kernel
theorem dX11_either5_43 : decode cX11_either5 43 = .ok (.iconst 0, 1) := by decide +kernel
theorem dX11_either5_44 : decode cX11_either5 44 = .ok (.istore_n 1, 1) := by decide +kernel
theorem dX11_either5_45 : decode cX11_either5 45 = .ok (.goto (-40), 3) := by decide +kernel
theorem dX11_either5_48 : decode cX11_either5 48 = .ok (.iload_n 1, 1) := by decide +kernel
theorem dX11_either5_49 : decode cX11_either5 49 = .ok (.ireturn, 1) := by decide +kernel
theorem dX11_atom4_0 : decode cX11_atom4 0 = .ok (.iconst 0, 1) := by decide +kernel
theorem dX11_atom4_1 : decode cX11_atom4 1 = .ok (.istore_n 1, 1) := by decide +kernel
theorem dX11_atom4_2 : decode cX11_atom4 2 = .ok (.aload_n 0, 1) := by decide +kernel
theorem dX11_atom4_3 : decode cX11_atom4 3 = .ok (.bipush 45, 2) := by decide +kernel
theorem dX11_atom4_5 : decode cX11_atom4 5 = .ok (.invokevirtual 199, 3) := by decide +kernel
theorem dX11_atom4_8 : decode cX11_atom4 8 = .ok (.ifCond .eq 29, 3) := by decide +kernel
theorem dX11_atom4_11 : decode cX11_atom4 11 = .ok (.aload_n 0, 1) := by decide +kernel
theorem dX11_atom4_12 : decode cX11_atom4 12 = .ok (.invokevirtual 202, 3) := by decide +kernel
theorem dX11_atom4_15 : decode cX11_atom4 15 = .ok (.ifCond .eq 146, 3) := by decide +kernel
theorem dX11_atom4_18 : decode cX11_atom4 18 = .ok (.aload_n 0, 1) := by decide +kernel
theorem dX11_atom4_19 : decode cX11_atom4 19 = .ok (.invokevirtual 210, 3) := by decide +kernel
theorem dX11_atom4_22 : decode cX11_atom4 22 = .ok (.ineg, 1) := by decide +kernel
theorem dX11_atom4_23 : decode cX11_atom4 23 = .ok (.istore_n 1, 1) := by decide +kernel
theorem dX11_atom4_24 : decode cX11_atom4 24 = .ok (.aload_n 0, 1) := by decide +kernel
theorem dX11_atom4_25 : decode cX11_atom4 25 = .ok (.dup, 1) := by decide +kernel
theorem dX11_atom4_26 : decode cX11_atom4 26 = .ok (.getfield 168, 3) := by decide +kernel
theorem dX11_atom4_29 : decode cX11_atom4 29 = .ok (.iconst 1, 1) := by decide +kernel
theorem dX11_atom4_30 : decode cX11_atom4 30 = .ok (.isub, 1) := by decide +kernel
theorem dX11_atom4_31 : decode cX11_atom4 31 = .ok (.putfield 168, 3) := by decide +kernel
theorem dX11_atom4_34 : decode cX11_atom4 34 = .ok (.goto 127, 3) := by decide +kernel
theorem dX11_atom4_37 : decode cX11_atom4 37 = .ok (.aload_n 0, 1) := by decide +kernel
theorem dX11_atom4_38 : decode cX11_atom4 38 = .ok (.bipush 40, 2) := by decide +kernel
theorem dX11_atom4_40 : decode cX11_atom4 40 = .ok (.invokevirtual 199, 3) := by decide +kernel
theorem dX11_atom4_43 : decode cX11_atom4 43 = .ok (.ifCond .eq 52, 3) := by decide +kernel
theorem dX11_atom4_46 : decode cX11_atom4 46 = .ok (.aload_n 0, 1) := by decide +kernel
theorem dX11_atom4_47 : decode cX11_atom4 47 = .ok (.invokevirtual 202, 3) := by decide +kernel
theorem dX11_atom4_50 : decode cX11_atom4 50 = .ok (.ifCond .eq 111, 3) := by decide +kernel
theorem dX11_atom4_53 : decode cX11_atom4 53 = .ok (.aload_n 0, 1) := by decide +kernel
theorem dX11_atom4_54 : decode cX11_atom4 54 = .ok (.invokevirtual 229, 3) := by decide +kernel
theorem dX11_atom4_57 : decode cX11_atom4 57 = .ok (.istore_n 1, 1) := by decide +kernel
theorem dX11_atom4_58 : decode cX11_atom4 58 = .ok (.aload_n 0, 1) := by decide +kernel
theorem dX11_atom4_59 : decode cX11_atom4 59 = .ok (.bipush 41, 2) := by decide +kernel
theorem dX11_atom4_61 : decode cX11_atom4 61 = .ok (.invokevirtual 199, 3) := by decide +kernel
theorem dX11_atom4_64 : decode cX11_atom4 64 = .ok (.ifCond .ne 7, 3) := by decide +kernel
theorem dX11_atom4_67 : decode cX11_atom4 67 = .ok (.aload_n 0, 1) := by decide +kernel
theorem dX11_atom4_68 : decode cX11_atom4 68 = .ok (.invokevirtual 171, 3) := by decide +kernel
theorem dX11_atom4_71 : decode cX11_atom4 71 = .ok (.aload_n 0, 1) := by decide +kernel
theorem dX11_atom4_72 : decode cX11_atom4 72 = .ok (.dup, 1) := by decide +kernel
theorem dX11_atom4_73 : decode cX11_atom4 73 = .ok (.getfield 168, 3) := by decide +kernel
theorem dX11_atom4_76 : decode cX11_atom4 76 = .ok (.iconst 1, 1) := by decide +kernel
theorem dX11_atom4_77 : decode cX11_atom4 77 = .ok (.isub, 1) := by decide +kernel
theorem dX11_atom4_78 : decode cX11_atom4 78 = .ok (.putfield 168, 3) := by decide +kernel
theorem dX11_atom4_81 : decode cX11_atom4 81 = .ok (.aload_n 0, 1) := by decide +kernel
theorem dX11_atom4_82 : decode cX11_atom4 82 = .ok (.getfield 158, 3) := by decide +kernel
theorem dX11_atom4_85 : decode cX11_atom4 85 = .ok (.ifCond .ne 76, 3) := by decide +kernel
theorem dX11_atom4_88 : decode cX11_atom4 88 = .ok (.aload_n 0, 1) := by decide +kernel
theorem dX11_atom4_89 : decode cX11_atom4 89 = .ok (.invokevirtual 174, 3) := by decide +kernel
theorem dX11_atom4_92 : decode cX11_atom4 92 = .ok (.goto 69, 3) := by decide +kernel
theorem dX11_atom4_95 : decode cX11_atom4 95 = .ok (.aload_n 0, 1) := by decide +kernel
theorem dX11_atom4_96 : decode cX11_atom4 96 = .ok (.getfield 158, 3) := by decide +kernel
theorem dX11_atom4_99 : decode cX11_atom4 99 = .ok (.ifCond .ne 24, 3) := by decide +kernel
theorem dX11_atom4_102 : decode cX11_atom4 102 = .ok (.aload_n 0, 1) := by decide +kernel
theorem dX11_atom4_103 : decode cX11_atom4 103 = .ok (.getfield 143, 3) := by decide +kernel
theorem dX11_atom4_106 : decode cX11_atom4 106 = .ok (.iconst 2, 1) := by decide +kernel
theorem dX11_atom4_107 : decode cX11_atom4 107 = .ok (.if_icmp .ne 16, 3) := by decide +kernel
theorem dX11_atom4_110 : decode cX11_atom4 110 = .ok (.aload_n 0, 1) := by decide +kernel
theorem dX11_atom4_111 : decode cX11_atom4 111 = .ok (.getfield 154, 3) := by decide +kernel
theorem dX11_atom4_114 : decode cX11_atom4 114 = .ok (.l2i, 1) := by decide +kernel
theorem dX11_atom4_115 : decode cX11_atom4 115 = .ok (.istore_n 1, 1) := by decide +kernel
theorem dX11_atom4_116 : decode cX11_atom4 116 = .ok (.aload_n 0, 1) := by decide +kernel
theorem dX11_atom4_117 : decode cX11_atom4 117 = .ok (.invokevirtual 174, 3) := by decide +kernel
theorem dX11_atom4_120 : decode cX11_atom4 120 = .ok (.goto 41, 3) := by decide +kernel
theorem dX11_atom4_123 : decode cX11_atom4 123 = .ok (.aload_n 0, 1) := by decide +kernel
theorem dX11_atom4_124 : decode cX11_atom4 124 = .ok (.getfield 158, 3) := by decide +kernel
theorem dX11_atom4_127 : decode cX11_atom4 127 = .ok (.ifCond .ne 30, 3) := by decide +kernel
theorem dX11_atom4_130 : decode cX11_atom4 130 = .ok (.aload_n 0, 1) := by decide +kernel
theorem dX11_atom4_131 : decode cX11_atom4 131 = .ok (.getfield 143, 3) := by decide +kernel
theorem dX11_atom4_134 : decode cX11_atom4 134 = .ok (.iconst 1, 1) := by decide +kernel
theorem dX11_atom4_135 : decode cX11_atom4 135 = .ok (.if_icmp .ne 22, 3) := by decide +kernel
theorem dX11_atom4_138 : decode cX11_atom4 138 = .ok (.aload_n 0, 1) := by decide +kernel
theorem dX11_atom4_139 : decode cX11_atom4 139 = .ok (.invokevirtual 206, 3) := by decide +kernel
theorem dX11_atom4_142 : decode cX11_atom4 142 = .ok (.istore_n 1, 1) := by decide +kernel
theorem dX11_atom4_143 : decode cX11_atom4 143 = .ok (.aload_n 0, 1) := by decide +kernel
theorem dX11_atom4_144 : decode cX11_atom4 144 = .ok (.getfield 158, 3) := by decide +kernel
theorem dX11_atom4_147 : decode cX11_atom4 147 = .ok (.ifCond .ne 14, 3) := by decide +kernel
theorem dX11_atom4_150 : decode cX11_atom4 150 = .ok (.aload_n 0, 1) := by decide +kernel
theorem dX11_atom4_151 : decode cX11_atom4 151 = .ok (.invokevirtual 174, 3) := by decide +kernel
theorem dX11_atom4_154 : decode cX11_atom4 154 = .ok (.goto 7, 3) := by decide +kernel
theorem dX11_atom4_157 : decode cX11_atom4 157 = .ok (.aload_n 0, 1) := by decide +kernel
theorem dX11_atom4_158 : decode cX11_atom4 158 = .ok (.invokevirtual 171, 3) := by decide +kernel
theorem dX11_atom4_161 : decode cX11_atom4 161 = .ok (.iload_n 1, 1) := by decide +kernel
theorem dX11_atom4_162 : decode cX11_atom4 162 = .ok (.ireturn, 1) := by decide +kernel
theorem dX11_term4_0 : decode cX11_term4 0 = .ok (.aload_n 0, 1) := by decide +kernel
theorem dX11_term4_1 : decode cX11_term4 1 = .ok (.invokevirtual 232, 3) := by decide +kernel
theorem dX11_term4_4 : decode cX11_term4 4 = .ok (.istore_n 1, 1) := by decide +kernel
theorem dX11_term4_5 : decode cX11_term4 5 = .ok (.aload_n 0, 1) := by decide +kernel
theorem dX11_term4_6 : decode cX11_term4 6 = .ok (.bipush 42, 2) := by decide +kernel
theorem dX11_term4_8 : decode cX11_term4 8 = .ok (.invokevirtual 199, 3) := by decide +kernel
theorem dX11_term4_11 : decode cX11_term4 11 = .ok (.ifCond .eq 17, 3) := by decide +kernel
theorem dX11_term4_14 : decode cX11_term4 14 = .ok (.aload_n 0, 1) := by decide +kernel
theorem dX11_term4_15 : decode cX11_term4 15 = .ok (.invokevirtual 174, 3) := by decide +kernel
theorem dX11_term4_18 : decode cX11_term4 18 = .ok (.iload_n 1, 1) := by decide +kernel
theorem dX11_term4_19 : decode cX11_term4 19 = .ok (.aload_n 0, 1) := by decide +kernel
theorem dX11_term4_20 : decode cX11_term4 20 = .ok (.invokevirtual 232, 3) := by decide +kernel
theorem dX11_term4_23 : decode cX11_term4 23 = .ok (.imul, 1) := by decide +kernel
theorem dX11_term4_24 : decode cX11_term4 24 = .ok (.istore_n 1, 1) := by decide +kernel
theorem dX11_term4_25 : decode cX11_term4 25 = .ok (.goto (-20), 3) := by decide +kernel
theorem dX11_term4_28 : decode cX11_term4 28 = .ok (.iload_n 1, 1) := by decide +kernel
theorem dX11_term4_29 : decode cX11_term4 29 = .ok (.ireturn, 1) := by decide +kernel
theorem dX11_added4_0 : decode cX11_added4 0 = .ok (.aload_n 0, 1) := by decide +kernel
theorem dX11_added4_1 : decode cX11_added4 1 = .ok (.invokevirtual 235, 3) := by decide +kernel
theorem dX11_added4_4 : decode cX11_added4 4 = .ok (.istore_n 1, 1) := by decide +kernel
theorem dX11_added4_5 : decode cX11_added4 5 = .ok (.aload_n 0, 1) := by decide +kernel
theorem dX11_added4_6 : decode cX11_added4 6 = .ok (.bipush 43, 2) := by decide +kernel
theorem dX11_added4_8 : decode cX11_added4 8 = .ok (.invokevirtual 199, 3) := by decide +kernel
theorem dX11_added4_11 : decode cX11_added4 11 = .ok (.ifCond .ne 12, 3) := by decide +kernel
theorem dX11_added4_14 : decode cX11_added4 14 = .ok (.aload_n 0, 1) := by decide +kernel
theorem dX11_added4_15 : decode cX11_added4 15 = .ok (.bipush 45, 2) := by decide +kernel
theorem dX11_added4_17 : decode cX11_added4 17 = .ok (.invokevirtual 199, 3) := by decide +kernel
theorem dX11_added4_20 : decode cX11_added4 20 = .ok (.ifCond .eq 46, 3) := by decide +kernel
theorem dX11_added4_23 : decode cX11_added4 23 = .ok (.aload_n 0, 1) := by decide +kernel
theorem dX11_added4_24 : decode cX11_added4 24 = .ok (.getfield 154, 3) := by decide +kernel
theorem dX11_added4_27 : decode cX11_added4 27 = .ok (.ldc2_w 216, 3) := by decide +kernel
theorem dX11_added4_30 : decode cX11_added4 30 = .ok (.lcmp, 1) := by decide +kernel
theorem dX11_added4_31 : decode cX11_added4 31 = .ok (.ifCond .ne 7, 3) := by decide +kernel
theorem dX11_added4_34 : decode cX11_added4 34 = .ok (.iconst 1, 1) := by decide +kernel
theorem dX11_added4_35 : decode cX11_added4 35 = .ok (.goto 4, 3) := by decide +kernel
theorem dX11_added4_38 : decode cX11_added4 38 = .ok (.iconst 0, 1) := by decide +kernel
theorem dX11_added4_39 : decode cX11_added4 39 = .ok (.istore_n 2, 1) := by decide +kernel
theorem dX11_added4_40 : decode cX11_added4 40 = .ok (.aload_n 0, 1) := by decide +kernel
theorem dX11_added4_41 : decode cX11_added4 41 = .ok (.invokevirtual 174, 3) := by decide +kernel
theorem dX11_added4_44 : decode cX11_added4 44 = .ok (.aload_n 0, 1) := by decide +kernel
theorem dX11_added4_45 : decode cX11_added4 45 = .ok (.invokevirtual 235, 3) := by decide +kernel
theorem dX11_added4_48 : decode cX11_added4 48 = .ok (.istore_n 3, 1) := by decide +kernel
theorem dX11_added4_49 : decode cX11_added4 49 = .ok (.iload_n 2, 1) := by decide +kernel
theorem dX11_added4_50 : decode cX11_added4 50 = .ok (.ifCond .eq 9, 3) := by decide +kernel
theorem dX11_added4_53 : decode cX11_added4 53 = .ok (.iload_n 1, 1) := by decide +kernel
theorem dX11_added4_54 : decode cX11_added4 54 = .ok (.iload_n 3, 1) := by decide +kernel
theorem dX11_added4_55 : decode cX11_added4 55 = .ok (.iadd, 1) := by decide +kernel
theorem dX11_added4_56 : decode cX11_added4 56 = .ok (.goto 6, 3) := by decide +kernel
theorem dX11_added4_59 : decode cX11_added4 59 = .ok (.iload_n 1, 1) := by decide +kernel
theorem dX11_added4_60 : decode cX11_added4 60 = .ok (.iload_n 3, 1) := by decide +kernel
theorem dX11_added4_61 : decode cX11_added4 61 = .ok (.isub, 1) := by decide +kernel
theorem dX11_added4_62 : decode cX11_added4 62 = .ok (.istore_n 1, 1) := by decide +kernel
theorem dX11_added4_63 : decode cX11_added4 63 = .ok (.goto (-58), 3) := by decide +kernel
theorem dX11_added4_66 : decode cX11_added4 66 = .ok (.iload_n 1, 1) := by decide +kernel
theorem dX11_added4_67 : decode cX11_added4 67 = .ok (.ireturn, 1) := by decide +kernel
theorem dX11_not4_0 : decode cX11_not4 0 = .ok (.aload_n 0, 1) := by decide +kernel
theorem dX11_not4_1 : decode cX11_not4 1 = .ok (.bipush 110, 2) := by decide +kernel
theorem dX11_not4_3 : decode cX11_not4 3 = .ok (.bipush 111, 2) := by decide +kernel
theorem dX11_not4_5 : decode cX11_not4 5 = .ok (.bipush 116, 2) := by decide +kernel
theorem dX11_not4_7 : decode cX11_not4 7 = .ok (.iconst 0, 1) := by decide +kernel
theorem dX11_not4_8 : decode cX11_not4 8 = .ok (.iconst 0, 1) := by decide +kernel
theorem dX11_not4_9 : decode cX11_not4 9 = .ok (.iconst 0, 1) := by decide +kernel
theorem dX11_not4_10 : decode cX11_not4 10 = .ok (.iconst 0, 1) := by decide +kernel
theorem dX11_not4_11 : decode cX11_not4 11 = .ok (.iconst 0, 1) := by decide +kernel
theorem dX11_not4_12 : decode cX11_not4 12 = .ok (.invokevirtual 177, 3) := by decide +kernel
theorem dX11_not4_15 : decode cX11_not4 15 = .ok (.ifCond .eq 37, 3) := by decide +kernel
theorem dX11_not4_18 : decode cX11_not4 18 = .ok (.aload_n 0, 1) := by decide +kernel
theorem dX11_not4_19 : decode cX11_not4 19 = .ok (.invokevirtual 202, 3) := by decide +kernel
theorem dX11_not4_22 : decode cX11_not4 22 = .ok (.ifCond .ne 5, 3) := by decide +kernel
theorem dX11_not4_25 : decode cX11_not4 25 = .ok (.iconst 0, 1) := by decide +kernel
theorem dX11_not4_26 : decode cX11_not4 26 = .ok (.ireturn, 1) := by decide +kernel
theorem dX11_not4_27 : decode cX11_not4 27 = .ok (.aload_n 0, 1) := by decide +kernel
theorem dX11_not4_28 : decode cX11_not4 28 = .ok (.invokevirtual 223, 3) := by decide +kernel
theorem dX11_not4_31 : decode cX11_not4 31 = .ok (.istore_n 1, 1) := by decide +kernel
theorem dX11_not4_32 : decode cX11_not4 32 = .ok (.aload_n 0, 1) := by decide +kernel
theorem dX11_not4_33 : decode cX11_not4 33 = .ok (.dup, 1) := by decide +kernel
theorem dX11_not4_34 : decode cX11_not4 34 = .ok (.getfield 168, 3) := by decide +kernel
theorem dX11_not4_37 : decode cX11_not4 37 = .ok (.iconst 1, 1) := by decide +kernel
theorem dX11_not4_38 : decode cX11_not4 38 = .ok (.isub, 1) := by decide +kernel
theorem dX11_not4_39 : decode cX11_not4 39 = .ok (.putfield 168, 3) := by decide +kernel
theorem dX11_not4_42 : decode cX11_not4 42 = .ok (.iload_n 1, 1) := by decide +kernel
theorem dX11_not4_43 : decode cX11_not4 43 = .ok (.ifCond .ne 7, 3) := by decide +kernel
theorem dX11_not4_46 : decode cX11_not4 46 = .ok (.iconst 1, 1) := by decide +kernel
theorem dX11_not4_47 : decode cX11_not4 47 = .ok (.goto 4, 3) := by decide +kernel
theorem dX11_not4_50 : decode cX11_not4 50 = .ok (.iconst 0, 1) := by decide +kernel
theorem dX11_not4_51 : decode cX11_not4 51 = .ok (.ireturn, 1) := by decide +kernel
theorem dX11_not4_52 : decode cX11_not4 52 = .ok (.aload_n 0, 1) := by decide +kernel
theorem dX11_not4_53 : decode cX11_not4 53 = .ok (.invokevirtual 238, 3) := by decide +kernel
theorem dX11_not4_56 : decode cX11_not4 56 = .ok (.istore_n 1, 1) := by decide +kernel
theorem dX11_not4_57 : decode cX11_not4 57 = .ok (.aload_n 0, 1) := by decide +kernel
theorem dX11_not4_58 : decode cX11_not4 58 = .ok (.bipush 60, 2) := by decide +kernel
theorem dX11_not4_60 : decode cX11_not4 60 = .ok (.invokevirtual 199, 3) := by decide +kernel
theorem dX11_not4_63 : decode cX11_not4 63 = .ok (.ifCond .ne 14, 3) := by decide +kernel
theorem dX11_not4_66 : decode cX11_not4 66 = .ok (.aload_n 0, 1) := by decide +kernel
theorem dX11_not4_67 : decode cX11_not4 67 = .ok (.bipush 61, 2) := by decide +kernel
theorem dX11_not4_69 : decode cX11_not4 69 = .ok (.invokevirtual 199, 3) := by decide +kernel
theorem dX11_not4_72 : decode cX11_not4 72 = .ok (.ifCond .ne 5, 3) := by decide +kernel
theorem dX11_not4_75 : decode cX11_not4 75 = .ok (.iload_n 1, 1) := by decide +kernel
theorem dX11_not4_76 : decode cX11_not4 76 = .ok (.ireturn, 1) := by decide +kernel
theorem dX11_not4_77 : decode cX11_not4 77 = .ok (.aload_n 0, 1) := by decide +kernel
theorem dX11_not4_78 : decode cX11_not4 78 = .ok (.getfield 154, 3) := by decide +kernel
theorem dX11_not4_81 : decode cX11_not4 81 = .ok (.ldc2_w 221, 3) := by decide +kernel
theorem dX11_not4_84 : decode cX11_not4 84 = .ok (.lcmp, 1) := by decide +kernel
theorem dX11_not4_85 : decode cX11_not4 85 = .ok (.ifCond .ne 7, 3) := by decide +kernel
theorem dX11_not4_88 : decode cX11_not4 88 = .ok (.iconst 1, 1) := by decide +kernel
theorem dX11_not4_89 : decode cX11_not4 89 = .ok (.goto 4, 3) := by decide +kernel
theorem dX11_not4_92 : decode cX11_not4 92 = .ok (.iconst 0, 1) := by decide +kernel
theorem dX11_not4_93 : decode cX11_not4 93 = .ok (.istore_n 2, 1) := by decide +kernel
theorem dX11_not4_94 : decode cX11_not4 94 = .ok (.aload_n 0, 1) := by decide +kernel
theorem dX11_not4_95 : decode cX11_not4 95 = .ok (.invokevirtual 174, 3) := by decide +kernel
theorem dX11_not4_98 : decode cX11_not4 98 = .ok (.aload_n 0, 1) := by decide +kernel
theorem dX11_not4_99 : decode cX11_not4 99 = .ok (.invokevirtual 238, 3) := by decide +kernel
theorem dX11_not4_102 : decode cX11_not4 102 = .ok (.istore_n 3, 1) := by decide +kernel
theorem dX11_not4_103 : decode cX11_not4 103 = .ok (.iload_n 2, 1) := by decide +kernel
theorem dX11_not4_104 : decode cX11_not4 104 = .ok (.ifCond .eq 11, 3) := by decide +kernel
theorem dX11_not4_107 : decode cX11_not4 107 = .ok (.iload_n 1, 1) := by decide +kernel
theorem dX11_not4_108 : decode cX11_not4 108 = .ok (.iload_n 3, 1) := by decide +kernel
theorem dX11_not4_109 : decode cX11_not4 109 = .ok (.if_icmp .ge 15, 3) := by decide +kernel
theorem dX11_not4_112 : decode cX11_not4 112 = .ok (.goto 8, 3) := by decide +kernel
theorem dX11_not4_115 : decode cX11_not4 115 = .ok (.iload_n 1, 1) := by decide +kernel
theorem dX11_not4_116 : decode cX11_not4 116 = .ok (.iload_n 3, 1) := by decide +kernel
theorem dX11_not4_117 : decode cX11_not4 117 = .ok (.if_icmp .ne 7, 3) := by decide +kernel
theorem dX11_not4_120 : decode cX11_not4 120 = .ok (.iconst 1, 1) := by decide +kernel
theorem dX11_not4_121 : decode cX11_not4 121 = .ok (.goto 4, 3) := by decide +kernel
theorem dX11_not4_124 : decode cX11_not4 124 = .ok (.iconst 0, 1) := by decide +kernel
theorem dX11_not4_125 : decode cX11_not4 125 = .ok (.ireturn, 1) := by decide +kernel
theorem dX11_both4_0 : decode cX11_both4 0 = .ok (.aload_n 0, 1) := by decide +kernel
theorem dX11_both4_1 : decode cX11_both4 1 = .ok (.invokevirtual 241, 3) := by decide +kernel
theorem dX11_both4_4 : decode cX11_both4 4 = .ok (.istore_n 1, 1) := by decide +kernel
theorem dX11_both4_5 : decode cX11_both4 5 = .ok (.aload_n 0, 1) := by decide +kernel
theorem dX11_both4_6 : decode cX11_both4 6 = .ok (.bipush 97, 2) := by decide +kernel
theorem dX11_both4_8 : decode cX11_both4 8 = .ok (.bipush 110, 2) := by decide +kernel
theorem dX11_both4_10 : decode cX11_both4 10 = .ok (.bipush 100, 2) := by decide +kernel
theorem dX11_both4_12 : decode cX11_both4 12 = .ok (.iconst 0, 1) := by decide +kernel
theorem dX11_both4_13 : decode cX11_both4 13 = .ok (.iconst 0, 1) := by decide +kernel
theorem dX11_both4_14 : decode cX11_both4 14 = .ok (.iconst 0, 1) := by decide +kernel
theorem dX11_both4_15 : decode cX11_both4 15 = .ok (.iconst 0, 1) := by decide +kernel
theorem dX11_both4_16 : decode cX11_both4 16 = .ok (.iconst 0, 1) := by decide +kernel
theorem dX11_both4_17 : decode cX11_both4 17 = .ok (.invokevirtual 177, 3) := by decide +kernel
theorem dX11_both4_20 : decode cX11_both4 20 = .ok (.ifCond .eq 29, 3) := by decide +kernel
theorem dX11_both4_23 : decode cX11_both4 23 = .ok (.aload_n 0, 1) := by decide +kernel
theorem dX11_both4_24 : decode cX11_both4 24 = .ok (.invokevirtual 174, 3) := by decide +kernel
theorem dX11_both4_27 : decode cX11_both4 27 = .ok (.aload_n 0, 1) := by decide +kernel
theorem dX11_both4_28 : decode cX11_both4 28 = .ok (.invokevirtual 241, 3) := by decide +kernel
theorem dX11_both4_31 : decode cX11_both4 31 = .ok (.istore_n 2, 1) := by decide +kernel
theorem dX11_both4_32 : decode cX11_both4 32 = .ok (.iload_n 1, 1) := by decide +kernel
theorem dX11_both4_33 : decode cX11_both4 33 = .ok (.ifCond .eq 11, 3) := by decide +kernel
theorem dX11_both4_36 : decode cX11_both4 36 = .ok (.iload_n 2, 1) := by decide +kernel
theorem dX11_both4_37 : decode cX11_both4 37 = .ok (.ifCond .eq 7, 3) := by decide +kernel
theorem dX11_both4_40 : decode cX11_both4 40 = .ok (.iconst 1, 1) := by decide +kernel
theorem dX11_both4_41 : decode cX11_both4 41 = .ok (.goto 4, 3) := by decide +kernel
theorem dX11_both4_44 : decode cX11_both4 44 = .ok (.iconst 0, 1) := by decide +kernel
theorem dX11_both4_45 : decode cX11_both4 45 = .ok (.istore_n 1, 1) := by decide +kernel
theorem dX11_both4_46 : decode cX11_both4 46 = .ok (.goto (-41), 3) := by decide +kernel
theorem dX11_both4_49 : decode cX11_both4 49 = .ok (.iload_n 1, 1) := by decide +kernel
theorem dX11_both4_50 : decode cX11_both4 50 = .ok (.ireturn, 1) := by decide +kernel
theorem dX11_either4_0 : decode cX11_either4 0 = .ok (.aload_n 0, 1) := by decide +kernel
theorem dX11_either4_1 : decode cX11_either4 1 = .ok (.invokevirtual 244, 3) := by decide +kernel
theorem dX11_either4_4 : decode cX11_either4 4 = .ok (.istore_n 1, 1) := by decide +kernel
theorem dX11_either4_5 : decode cX11_either4 5 = .ok (.aload_n 0, 1) := by decide +kernel
theorem dX11_either4_6 : decode cX11_either4 6 = .ok (.bipush 111, 2) := by decide +kernel
theorem dX11_either4_8 : decode cX11_either4 8 = .ok (.bipush 114, 2) := by decide +kernel
theorem dX11_either4_10 : decode cX11_either4 10 = .ok (.iconst 0, 1) := by decide +kernel
theorem dX11_either4_11 : decode cX11_either4 11 = .ok (.iconst 0, 1) := by decide +kernel
theorem dX11_either4_12 : decode cX11_either4 12 = .ok (.iconst 0, 1) := by decide +kernel
theorem dX11_either4_13 : decode cX11_either4 13 = .ok (.iconst 0, 1) := by decide +kernel
theorem dX11_either4_14 : decode cX11_either4 14 = .ok (.iconst 0, 1) := by decide +kernel
theorem dX11_either4_15 : decode cX11_either4 15 = .ok (.iconst 0, 1) := by decide +kernel
theorem dX11_either4_16 : decode cX11_either4 16 = .ok (.invokevirtual 177, 3) := by decide +kernel
theorem dX11_either4_19 : decode cX11_either4 19 = .ok (.ifCond .eq 29, 3) := by decide +kernel
theorem dX11_either4_22 : decode cX11_either4 22 = .ok (.aload_n 0, 1) := by decide +kernel
theorem dX11_either4_23 : decode cX11_either4 23 = .ok (.invokevirtual 174, 3) := by decide +kernel
theorem dX11_either4_26 : decode cX11_either4 26 = .ok (.aload_n 0, 1) := by decide +kernel
theorem dX11_either4_27 : decode cX11_either4 27 = .ok (.invokevirtual 244, 3) := by decide +kernel
theorem dX11_either4_30 : decode cX11_either4 30 = .ok (.istore_n 2, 1) := by decide +kernel
theorem dX11_either4_31 : decode cX11_either4 31 = .ok (.iload_n 1, 1) := by decide +kernel
theorem dX11_either4_32 : decode cX11_either4 32 = .ok (.ifCond .ne 7, 3) := by decide +kernel
theorem dX11_either4_35 : decode cX11_either4 35 = .ok (.iload_n 2, 1) := by decide +kernel
theorem dX11_either4_36 : decode cX11_either4 36 = .ok (.ifCond .eq 7, 3) := by decide +kernel
theorem dX11_either4_39 : decode cX11_either4 39 = .ok (.iconst 1, 1) := by decide +kernel
theorem dX11_either4_40 : decode cX11_either4 40 = .ok (.goto 4, 3) := by decide +kernel
theorem dX11_either4_43 : decode cX11_either4 43 = .ok (.iconst 0, 1) := by decide +kernel
theorem dX11_either4_44 : decode cX11_either4 44 = .ok (.istore_n 1, 1) := by decide +kernel
theorem dX11_either4_45 : decode cX11_either4 45 = .ok (.goto (-40), 3) := by decide +kernel
theorem dX11_either4_48 : decode cX11_either4 48 = .ok (.iload_n 1, 1) := by decide +kernel
theorem dX11_either4_49 : decode cX11_either4 49 = .ok (.ireturn, 1) := by decide +kernel
theorem dX11_atom3_0 : decode cX11_atom3 0 = .ok (.iconst 0, 1) := by decide +kernel
theorem dX11_atom3_1 : decode cX11_atom3 1 = .ok (.istore_n 1, 1) := by decide +kernel
theorem dX11_atom3_2 : decode cX11_atom3 2 = .ok (.aload_n 0, 1) := by decide +kernel
theorem dX11_atom3_3 : decode cX11_atom3 3 = .ok (.bipush 45, 2) := by decide +kernel
theorem dX11_atom3_5 : decode cX11_atom3 5 = .ok (.invokevirtual 199, 3) := by decide +kernel
theorem dX11_atom3_8 : decode cX11_atom3 8 = .ok (.ifCond .eq 29, 3) := by decide +kernel
theorem dX11_atom3_11 : decode cX11_atom3 11 = .ok (.aload_n 0, 1) := by decide +kernel
theorem dX11_atom3_12 : decode cX11_atom3 12 = .ok (.invokevirtual 202, 3) := by decide +kernel
theorem dX11_atom3_15 : decode cX11_atom3 15 = .ok (.ifCond .eq 146, 3) := by decide +kernel
theorem dX11_atom3_18 : decode cX11_atom3 18 = .ok (.aload_n 0, 1) := by decide +kernel
theorem dX11_atom3_19 : decode cX11_atom3 19 = .ok (.invokevirtual 232, 3) := by decide +kernel
theorem dX11_atom3_22 : decode cX11_atom3 22 = .ok (.ineg, 1) := by decide +kernel
theorem dX11_atom3_23 : decode cX11_atom3 23 = .ok (.istore_n 1, 1) := by decide +kernel
theorem dX11_atom3_24 : decode cX11_atom3 24 = .ok (.aload_n 0, 1) := by decide +kernel
theorem dX11_atom3_25 : decode cX11_atom3 25 = .ok (.dup, 1) := by decide +kernel
theorem dX11_atom3_26 : decode cX11_atom3 26 = .ok (.getfield 168, 3) := by decide +kernel
theorem dX11_atom3_29 : decode cX11_atom3 29 = .ok (.iconst 1, 1) := by decide +kernel
theorem dX11_atom3_30 : decode cX11_atom3 30 = .ok (.isub, 1) := by decide +kernel
theorem dX11_atom3_31 : decode cX11_atom3 31 = .ok (.putfield 168, 3) := by decide +kernel
theorem dX11_atom3_34 : decode cX11_atom3 34 = .ok (.goto 127, 3) := by decide +kernel
theorem dX11_atom3_37 : decode cX11_atom3 37 = .ok (.aload_n 0, 1) := by decide +kernel
theorem dX11_atom3_38 : decode cX11_atom3 38 = .ok (.bipush 40, 2) := by decide +kernel
theorem dX11_atom3_40 : decode cX11_atom3 40 = .ok (.invokevirtual 199, 3) := by decide +kernel
theorem dX11_atom3_43 : decode cX11_atom3 43 = .ok (.ifCond .eq 52, 3) := by decide +kernel
theorem dX11_atom3_46 : decode cX11_atom3 46 = .ok (.aload_n 0, 1) := by decide +kernel
theorem dX11_atom3_47 : decode cX11_atom3 47 = .ok (.invokevirtual 202, 3) := by decide +kernel
theorem dX11_atom3_50 : decode cX11_atom3 50 = .ok (.ifCond .eq 111, 3) := by decide +kernel
theorem dX11_atom3_53 : decode cX11_atom3 53 = .ok (.aload_n 0, 1) := by decide +kernel
theorem dX11_atom3_54 : decode cX11_atom3 54 = .ok (.invokevirtual 247, 3) := by decide +kernel
theorem dX11_atom3_57 : decode cX11_atom3 57 = .ok (.istore_n 1, 1) := by decide +kernel
theorem dX11_atom3_58 : decode cX11_atom3 58 = .ok (.aload_n 0, 1) := by decide +kernel
theorem dX11_atom3_59 : decode cX11_atom3 59 = .ok (.bipush 41, 2) := by decide +kernel
theorem dX11_atom3_61 : decode cX11_atom3 61 = .ok (.invokevirtual 199, 3) := by decide +kernel
theorem dX11_atom3_64 : decode cX11_atom3 64 = .ok (.ifCond .ne 7, 3) := by decide +kernel
theorem dX11_atom3_67 : decode cX11_atom3 67 = .ok (.aload_n 0, 1) := by decide +kernel
theorem dX11_atom3_68 : decode cX11_atom3 68 = .ok (.invokevirtual 171, 3) := by decide +kernel
theorem dX11_atom3_71 : decode cX11_atom3 71 = .ok (.aload_n 0, 1) := by decide +kernel
theorem dX11_atom3_72 : decode cX11_atom3 72 = .ok (.dup, 1) := by decide +kernel
theorem dX11_atom3_73 : decode cX11_atom3 73 = .ok (.getfield 168, 3) := by decide +kernel
theorem dX11_atom3_76 : decode cX11_atom3 76 = .ok (.iconst 1, 1) := by decide +kernel
theorem dX11_atom3_77 : decode cX11_atom3 77 = .ok (.isub, 1) := by decide +kernel
theorem dX11_atom3_78 : decode cX11_atom3 78 = .ok (.putfield 168, 3) := by decide +kernel
theorem dX11_atom3_81 : decode cX11_atom3 81 = .ok (.aload_n 0, 1) := by decide +kernel
theorem dX11_atom3_82 : decode cX11_atom3 82 = .ok (.getfield 158, 3) := by decide +kernel
theorem dX11_atom3_85 : decode cX11_atom3 85 = .ok (.ifCond .ne 76, 3) := by decide +kernel
theorem dX11_atom3_88 : decode cX11_atom3 88 = .ok (.aload_n 0, 1) := by decide +kernel
theorem dX11_atom3_89 : decode cX11_atom3 89 = .ok (.invokevirtual 174, 3) := by decide +kernel
theorem dX11_atom3_92 : decode cX11_atom3 92 = .ok (.goto 69, 3) := by decide +kernel
theorem dX11_atom3_95 : decode cX11_atom3 95 = .ok (.aload_n 0, 1) := by decide +kernel
theorem dX11_atom3_96 : decode cX11_atom3 96 = .ok (.getfield 158, 3) := by decide +kernel
theorem dX11_atom3_99 : decode cX11_atom3 99 = .ok (.ifCond .ne 24, 3) := by decide +kernel
theorem dX11_atom3_102 : decode cX11_atom3 102 = .ok (.aload_n 0, 1) := by decide +kernel
theorem dX11_atom3_103 : decode cX11_atom3 103 = .ok (.getfield 143, 3) := by decide +kernel
theorem dX11_atom3_106 : decode cX11_atom3 106 = .ok (.iconst 2, 1) := by decide +kernel
theorem dX11_atom3_107 : decode cX11_atom3 107 = .ok (.if_icmp .ne 16, 3) := by decide +kernel
theorem dX11_atom3_110 : decode cX11_atom3 110 = .ok (.aload_n 0, 1) := by decide +kernel
theorem dX11_atom3_111 : decode cX11_atom3 111 = .ok (.getfield 154, 3) := by decide +kernel
theorem dX11_atom3_114 : decode cX11_atom3 114 = .ok (.l2i, 1) := by decide +kernel
theorem dX11_atom3_115 : decode cX11_atom3 115 = .ok (.istore_n 1, 1) := by decide +kernel
theorem dX11_atom3_116 : decode cX11_atom3 116 = .ok (.aload_n 0, 1) := by decide +kernel
theorem dX11_atom3_117 : decode cX11_atom3 117 = .ok (.invokevirtual 174, 3) := by decide +kernel
theorem dX11_atom3_120 : decode cX11_atom3 120 = .ok (.goto 41, 3) := by decide +kernel
theorem dX11_atom3_123 : decode cX11_atom3 123 = .ok (.aload_n 0, 1) := by decide +kernel
theorem dX11_atom3_124 : decode cX11_atom3 124 = .ok (.getfield 158, 3) := by decide +kernel
theorem dX11_atom3_127 : decode cX11_atom3 127 = .ok (.ifCond .ne 30, 3) := by decide +kernel
theorem dX11_atom3_130 : decode cX11_atom3 130 = .ok (.aload_n 0, 1) := by decide +kernel
theorem dX11_atom3_131 : decode cX11_atom3 131 = .ok (.getfield 143, 3) := by decide +kernel
theorem dX11_atom3_134 : decode cX11_atom3 134 = .ok (.iconst 1, 1) := by decide +kernel
theorem dX11_atom3_135 : decode cX11_atom3 135 = .ok (.if_icmp .ne 22, 3) := by decide +kernel
theorem dX11_atom3_138 : decode cX11_atom3 138 = .ok (.aload_n 0, 1) := by decide +kernel
theorem dX11_atom3_139 : decode cX11_atom3 139 = .ok (.invokevirtual 206, 3) := by decide +kernel
theorem dX11_atom3_142 : decode cX11_atom3 142 = .ok (.istore_n 1, 1) := by decide +kernel
theorem dX11_atom3_143 : decode cX11_atom3 143 = .ok (.aload_n 0, 1) := by decide +kernel
theorem dX11_atom3_144 : decode cX11_atom3 144 = .ok (.getfield 158, 3) := by decide +kernel
theorem dX11_atom3_147 : decode cX11_atom3 147 = .ok (.ifCond .ne 14, 3) := by decide +kernel
theorem dX11_atom3_150 : decode cX11_atom3 150 = .ok (.aload_n 0, 1) := by decide +kernel
theorem dX11_atom3_151 : decode cX11_atom3 151 = .ok (.invokevirtual 174, 3) := by decide +kernel
theorem dX11_atom3_154 : decode cX11_atom3 154 = .ok (.goto 7, 3) := by decide +kernel
theorem dX11_atom3_157 : decode cX11_atom3 157 = .ok (.aload_n 0, 1) := by decide +kernel
theorem dX11_atom3_158 : decode cX11_atom3 158 = .ok (.invokevirtual 171, 3) := by decide +kernel
theorem dX11_atom3_161 : decode cX11_atom3 161 = .ok (.iload_n 1, 1) := by decide +kernel
theorem dX11_atom3_162 : decode cX11_atom3 162 = .ok (.ireturn, 1) := by decide +kernel
theorem dX11_term3_0 : decode cX11_term3 0 = .ok (.aload_n 0, 1) := by decide +kernel
theorem dX11_term3_1 : decode cX11_term3 1 = .ok (.invokevirtual 250, 3) := by decide +kernel
theorem dX11_term3_4 : decode cX11_term3 4 = .ok (.istore_n 1, 1) := by decide +kernel
theorem dX11_term3_5 : decode cX11_term3 5 = .ok (.aload_n 0, 1) := by decide +kernel
theorem dX11_term3_6 : decode cX11_term3 6 = .ok (.bipush 42, 2) := by decide +kernel
theorem dX11_term3_8 : decode cX11_term3 8 = .ok (.invokevirtual 199, 3) := by decide +kernel
theorem dX11_term3_11 : decode cX11_term3 11 = .ok (.ifCond .eq 17, 3) := by decide +kernel
theorem dX11_term3_14 : decode cX11_term3 14 = .ok (.aload_n 0, 1) := by decide +kernel
theorem dX11_term3_15 : decode cX11_term3 15 = .ok (.invokevirtual 174, 3) := by decide +kernel
theorem dX11_term3_18 : decode cX11_term3 18 = .ok (.iload_n 1, 1) := by decide +kernel
theorem dX11_term3_19 : decode cX11_term3 19 = .ok (.aload_n 0, 1) := by decide +kernel
theorem dX11_term3_20 : decode cX11_term3 20 = .ok (.invokevirtual 250, 3) := by decide +kernel
theorem dX11_term3_23 : decode cX11_term3 23 = .ok (.imul, 1) := by decide +kernel
theorem dX11_term3_24 : decode cX11_term3 24 = .ok (.istore_n 1, 1) := by decide +kernel
theorem dX11_term3_25 : decode cX11_term3 25 = .ok (.goto (-20), 3) := by decide +kernel
theorem dX11_term3_28 : decode cX11_term3 28 = .ok (.iload_n 1, 1) := by decide +kernel
theorem dX11_term3_29 : decode cX11_term3 29 = .ok (.ireturn, 1) := by decide +kernel
theorem dX11_added3_0 : decode cX11_added3 0 = .ok (.aload_n 0, 1) := by decide +kernel
theorem dX11_added3_1 : decode cX11_added3 1 = .ok (.invokevirtual 253, 3) := by decide +kernel
theorem dX11_added3_4 : decode cX11_added3 4 = .ok (.istore_n 1, 1) := by decide +kernel
theorem dX11_added3_5 : decode cX11_added3 5 = .ok (.aload_n 0, 1) := by decide +kernel
theorem dX11_added3_6 : decode cX11_added3 6 = .ok (.bipush 43, 2) := by decide +kernel
theorem dX11_added3_8 : decode cX11_added3 8 = .ok (.invokevirtual 199, 3) := by decide +kernel
theorem dX11_added3_11 : decode cX11_added3 11 = .ok (.ifCond .ne 12, 3) := by decide +kernel
theorem dX11_added3_14 : decode cX11_added3 14 = .ok (.aload_n 0, 1) := by decide +kernel
theorem dX11_added3_15 : decode cX11_added3 15 = .ok (.bipush 45, 2) := by decide +kernel
theorem dX11_added3_17 : decode cX11_added3 17 = .ok (.invokevirtual 199, 3) := by decide +kernel
theorem dX11_added3_20 : decode cX11_added3 20 = .ok (.ifCond .eq 46, 3) := by decide +kernel
theorem dX11_added3_23 : decode cX11_added3 23 = .ok (.aload_n 0, 1) := by decide +kernel
theorem dX11_added3_24 : decode cX11_added3 24 = .ok (.getfield 154, 3) := by decide +kernel
theorem dX11_added3_27 : decode cX11_added3 27 = .ok (.ldc2_w 216, 3) := by decide +kernel
theorem dX11_added3_30 : decode cX11_added3 30 = .ok (.lcmp, 1) := by decide +kernel
theorem dX11_added3_31 : decode cX11_added3 31 = .ok (.ifCond .ne 7, 3) := by decide +kernel
theorem dX11_added3_34 : decode cX11_added3 34 = .ok (.iconst 1, 1) := by decide +kernel
theorem dX11_added3_35 : decode cX11_added3 35 = .ok (.goto 4, 3) := by decide +kernel
theorem dX11_added3_38 : decode cX11_added3 38 = .ok (.iconst 0, 1) := by decide +kernel
theorem dX11_added3_39 : decode cX11_added3 39 = .ok (.istore_n 2, 1) := by decide +kernel
theorem dX11_added3_40 : decode cX11_added3 40 = .ok (.aload_n 0, 1) := by decide +kernel
theorem dX11_added3_41 : decode cX11_added3 41 = .ok (.invokevirtual 174, 3) := by decide +kernel
theorem dX11_added3_44 : decode cX11_added3 44 = .ok (.aload_n 0, 1) := by decide +kernel
theorem dX11_added3_45 : decode cX11_added3 45 = .ok (.invokevirtual 253, 3) := by decide +kernel
theorem dX11_added3_48 : decode cX11_added3 48 = .ok (.istore_n 3, 1) := by decide +kernel
theorem dX11_added3_49 : decode cX11_added3 49 = .ok (.iload_n 2, 1) := by decide +kernel
theorem dX11_added3_50 : decode cX11_added3 50 = .ok (.ifCond .eq 9, 3) := by decide +kernel
theorem dX11_added3_53 : decode cX11_added3 53 = .ok (.iload_n 1, 1) := by decide +kernel
theorem dX11_added3_54 : decode cX11_added3 54 = .ok (.iload_n 3, 1) := by decide +kernel
theorem dX11_added3_55 : decode cX11_added3 55 = .ok (.iadd, 1) := by decide +kernel
theorem dX11_added3_56 : decode cX11_added3 56 = .ok (.goto 6, 3) := by decide +kernel
theorem dX11_added3_59 : decode cX11_added3 59 = .ok (.iload_n 1, 1) := by decide +kernel
theorem dX11_added3_60 : decode cX11_added3 60 = .ok (.iload_n 3, 1) := by decide +kernel
theorem dX11_added3_61 : decode cX11_added3 61 = .ok (.isub, 1) := by decide +kernel
theorem dX11_added3_62 : decode cX11_added3 62 = .ok (.istore_n 1, 1) := by decide +kernel
theorem dX11_added3_63 : decode cX11_added3 63 = .ok (.goto (-58), 3) := by decide +kernel
theorem dX11_added3_66 : decode cX11_added3 66 = .ok (.iload_n 1, 1) := by decide +kernel
theorem dX11_added3_67 : decode cX11_added3 67 = .ok (.ireturn, 1) := by decide +kernel
theorem dX11_not3_0 : decode cX11_not3 0 = .ok (.aload_n 0, 1) := by decide +kernel
theorem dX11_not3_1 : decode cX11_not3 1 = .ok (.bipush 110, 2) := by decide +kernel
theorem dX11_not3_3 : decode cX11_not3 3 = .ok (.bipush 111, 2) := by decide +kernel
theorem dX11_not3_5 : decode cX11_not3 5 = .ok (.bipush 116, 2) := by decide +kernel
theorem dX11_not3_7 : decode cX11_not3 7 = .ok (.iconst 0, 1) := by decide +kernel
theorem dX11_not3_8 : decode cX11_not3 8 = .ok (.iconst 0, 1) := by decide +kernel
theorem dX11_not3_9 : decode cX11_not3 9 = .ok (.iconst 0, 1) := by decide +kernel
theorem dX11_not3_10 : decode cX11_not3 10 = .ok (.iconst 0, 1) := by decide +kernel
theorem dX11_not3_11 : decode cX11_not3 11 = .ok (.iconst 0, 1) := by decide +kernel
theorem dX11_not3_12 : decode cX11_not3 12 = .ok (.invokevirtual 177, 3) := by decide +kernel
theorem dX11_not3_15 : decode cX11_not3 15 = .ok (.ifCond .eq 37, 3) := by decide +kernel
theorem dX11_not3_18 : decode cX11_not3 18 = .ok (.aload_n 0, 1) := by decide +kernel
theorem dX11_not3_19 : decode cX11_not3 19 = .ok (.invokevirtual 202, 3) := by decide +kernel
theorem dX11_not3_22 : decode cX11_not3 22 = .ok (.ifCond .ne 5, 3) := by decide +kernel
theorem dX11_not3_25 : decode cX11_not3 25 = .ok (.iconst 0, 1) := by decide +kernel
theorem dX11_not3_26 : decode cX11_not3 26 = .ok (.ireturn, 1) := by decide +kernel
theorem dX11_not3_27 : decode cX11_not3 27 = .ok (.aload_n 0, 1) := by decide +kernel
theorem dX11_not3_28 : decode cX11_not3 28 = .ok (.invokevirtual 241, 3) := by decide +kernel
theorem dX11_not3_31 : decode cX11_not3 31 = .ok (.istore_n 1, 1) := by decide +kernel
theorem dX11_not3_32 : decode cX11_not3 32 = .ok (.aload_n 0, 1) := by decide +kernel
theorem dX11_not3_33 : decode cX11_not3 33 = .ok (.dup, 1) := by decide +kernel
theorem dX11_not3_34 : decode cX11_not3 34 = .ok (.getfield 168, 3) := by decide +kernel
theorem dX11_not3_37 : decode cX11_not3 37 = .ok (.iconst 1, 1) := by decide +kernel
theorem dX11_not3_38 : decode cX11_not3 38 = .ok (.isub, 1) := by decide +kernel
theorem dX11_not3_39 : decode cX11_not3 39 = .ok (.putfield 168, 3) := by decide +kernel
theorem dX11_not3_42 : decode cX11_not3 42 = .ok (.iload_n 1, 1) := by decide +kernel
theorem dX11_not3_43 : decode cX11_not3 43 = .ok (.ifCond .ne 7, 3) := by decide +kernel
theorem dX11_not3_46 : decode cX11_not3 46 = .ok (.iconst 1, 1) := by decide +kernel
theorem dX11_not3_47 : decode cX11_not3 47 = .ok (.goto 4, 3) := by decide +kernel
theorem dX11_not3_50 : decode cX11_not3 50 = .ok (.iconst 0, 1) := by decide +kernel
theorem dX11_not3_51 : decode cX11_not3 51 = .ok (.ireturn, 1) := by decide +kernel
theorem dX11_not3_52 : decode cX11_not3 52 = .ok (.aload_n 0, 1) := by decide +kernel
theorem dX11_not3_53 : decode cX11_not3 53 = .ok (.invokevirtual 256, 3) := by decide +kernel
theorem dX11_not3_56 : decode cX11_not3 56 = .ok (.istore_n 1, 1) := by decide +kernel
theorem dX11_not3_57 : decode cX11_not3 57 = .ok (.aload_n 0, 1) := by decide +kernel
theorem dX11_not3_58 : decode cX11_not3 58 = .ok (.bipush 60, 2) := by decide +kernel
theorem dX11_not3_60 : decode cX11_not3 60 = .ok (.invokevirtual 199, 3) := by decide +kernel
theorem dX11_not3_63 : decode cX11_not3 63 = .ok (.ifCond .ne 14, 3) := by decide +kernel
theorem dX11_not3_66 : decode cX11_not3 66 = .ok (.aload_n 0, 1) := by decide +kernel
theorem dX11_not3_67 : decode cX11_not3 67 = .ok (.bipush 61, 2) := by decide +kernel
theorem dX11_not3_69 : decode cX11_not3 69 = .ok (.invokevirtual 199, 3) := by decide +kernel
theorem dX11_not3_72 : decode cX11_not3 72 = .ok (.ifCond .ne 5, 3) := by decide +kernel
theorem dX11_not3_75 : decode cX11_not3 75 = .ok (.iload_n 1, 1) := by decide +kernel
theorem dX11_not3_76 : decode cX11_not3 76 = .ok (.ireturn, 1) := by decide +kernel
theorem dX11_not3_77 : decode cX11_not3 77 = .ok (.aload_n 0, 1) := by decide +kernel
theorem dX11_not3_78 : decode cX11_not3 78 = .ok (.getfield 154, 3) := by decide +kernel
theorem dX11_not3_81 : decode cX11_not3 81 = .ok (.ldc2_w 221, 3) := by decide +kernel
theorem dX11_not3_84 : decode cX11_not3 84 = .ok (.lcmp, 1) := by decide +kernel
theorem dX11_not3_85 : decode cX11_not3 85 = .ok (.ifCond .ne 7, 3) := by decide +kernel
theorem dX11_not3_88 : decode cX11_not3 88 = .ok (.iconst 1, 1) := by decide +kernel
theorem dX11_not3_89 : decode cX11_not3 89 = .ok (.goto 4, 3) := by decide +kernel
theorem dX11_not3_92 : decode cX11_not3 92 = .ok (.iconst 0, 1) := by decide +kernel
theorem dX11_not3_93 : decode cX11_not3 93 = .ok (.istore_n 2, 1) := by decide +kernel
theorem dX11_not3_94 : decode cX11_not3 94 = .ok (.aload_n 0, 1) := by decide +kernel
theorem dX11_not3_95 : decode cX11_not3 95 = .ok (.invokevirtual 174, 3) := by decide +kernel
theorem dX11_not3_98 : decode cX11_not3 98 = .ok (.aload_n 0, 1) := by decide +kernel
theorem dX11_not3_99 : decode cX11_not3 99 = .ok (.invokevirtual 256, 3) := by decide +kernel
theorem dX11_not3_102 : decode cX11_not3 102 = .ok (.istore_n 3, 1) := by decide +kernel
theorem dX11_not3_103 : decode cX11_not3 103 = .ok (.iload_n 2, 1) := by decide +kernel
theorem dX11_not3_104 : decode cX11_not3 104 = .ok (.ifCond .eq 11, 3) := by decide +kernel
theorem dX11_not3_107 : decode cX11_not3 107 = .ok (.iload_n 1, 1) := by decide +kernel
theorem dX11_not3_108 : decode cX11_not3 108 = .ok (.iload_n 3, 1) := by decide +kernel
theorem dX11_not3_109 : decode cX11_not3 109 = .ok (.if_icmp .ge 15, 3) := by decide +kernel
theorem dX11_not3_112 : decode cX11_not3 112 = .ok (.goto 8, 3) := by decide +kernel
theorem dX11_not3_115 : decode cX11_not3 115 = .ok (.iload_n 1, 1) := by decide +kernel
theorem dX11_not3_116 : decode cX11_not3 116 = .ok (.iload_n 3, 1) := by decide +kernel
theorem dX11_not3_117 : decode cX11_not3 117 = .ok (.if_icmp .ne 7, 3) := by decide +kernel
theorem dX11_not3_120 : decode cX11_not3 120 = .ok (.iconst 1, 1) := by decide +kernel
theorem dX11_not3_121 : decode cX11_not3 121 = .ok (.goto 4, 3) := by decide +kernel
theorem dX11_not3_124 : decode cX11_not3 124 = .ok (.iconst 0, 1) := by decide +kernel
theorem dX11_not3_125 : decode cX11_not3 125 = .ok (.ireturn, 1) := by decide +kernel
theorem dX11_both3_0 : decode cX11_both3 0 = .ok (.aload_n 0, 1) := by decide +kernel
theorem dX11_both3_1 : decode cX11_both3 1 = .ok (.invokevirtual 259, 3) := by decide +kernel
theorem dX11_both3_4 : decode cX11_both3 4 = .ok (.istore_n 1, 1) := by decide +kernel
theorem dX11_both3_5 : decode cX11_both3 5 = .ok (.aload_n 0, 1) := by decide +kernel
theorem dX11_both3_6 : decode cX11_both3 6 = .ok (.bipush 97, 2) := by decide +kernel
theorem dX11_both3_8 : decode cX11_both3 8 = .ok (.bipush 110, 2) := by decide +kernel
theorem dX11_both3_10 : decode cX11_both3 10 = .ok (.bipush 100, 2) := by decide +kernel
theorem dX11_both3_12 : decode cX11_both3 12 = .ok (.iconst 0, 1) := by decide +kernel
theorem dX11_both3_13 : decode cX11_both3 13 = .ok (.iconst 0, 1) := by decide +kernel
theorem dX11_both3_14 : decode cX11_both3 14 = .ok (.iconst 0, 1) := by decide +kernel
theorem dX11_both3_15 : decode cX11_both3 15 = .ok (.iconst 0, 1) := by decide +kernel
theorem dX11_both3_16 : decode cX11_both3 16 = .ok (.iconst 0, 1) := by decide +kernel
theorem dX11_both3_17 : decode cX11_both3 17 = .ok (.invokevirtual 177, 3) := by decide +kernel
theorem dX11_both3_20 : decode cX11_both3 20 = .ok (.ifCond .eq 29, 3) := by decide +kernel
theorem dX11_both3_23 : decode cX11_both3 23 = .ok (.aload_n 0, 1) := by decide +kernel
theorem dX11_both3_24 : decode cX11_both3 24 = .ok (.invokevirtual 174, 3) := by decide +kernel
theorem dX11_both3_27 : decode cX11_both3 27 = .ok (.aload_n 0, 1) := by decide +kernel
theorem dX11_both3_28 : decode cX11_both3 28 = .ok (.invokevirtual 259, 3) := by decide +kernel
theorem dX11_both3_31 : decode cX11_both3 31 = .ok (.istore_n 2, 1) := by decide +kernel
theorem dX11_both3_32 : decode cX11_both3 32 = .ok (.iload_n 1, 1) := by decide +kernel
theorem dX11_both3_33 : decode cX11_both3 33 = .ok (.ifCond .eq 11, 3) := by decide +kernel
theorem dX11_both3_36 : decode cX11_both3 36 = .ok (.iload_n 2, 1) := by decide +kernel
theorem dX11_both3_37 : decode cX11_both3 37 = .ok (.ifCond .eq 7, 3) := by decide +kernel
theorem dX11_both3_40 : decode cX11_both3 40 = .ok (.iconst 1, 1) := by decide +kernel
theorem dX11_both3_41 : decode cX11_both3 41 = .ok (.goto 4, 3) := by decide +kernel
theorem dX11_both3_44 : decode cX11_both3 44 = .ok (.iconst 0, 1) := by decide +kernel
theorem dX11_both3_45 : decode cX11_both3 45 = .ok (.istore_n 1, 1) := by decide +kernel
theorem dX11_both3_46 : decode cX11_both3 46 = .ok (.goto (-41), 3) := by decide +kernel
theorem dX11_both3_49 : decode cX11_both3 49 = .ok (.iload_n 1, 1) := by decide +kernel
theorem dX11_both3_50 : decode cX11_both3 50 = .ok (.ireturn, 1) := by decide +kernel
theorem dX11_either3_0 : decode cX11_either3 0 = .ok (.aload_n 0, 1) := by decide +kernel
theorem dX11_either3_1 : decode cX11_either3 1 = .ok (.invokevirtual 262, 3) := by decide +kernel
theorem dX11_either3_4 : decode cX11_either3 4 = .ok (.istore_n 1, 1) := by decide +kernel
theorem dX11_either3_5 : decode cX11_either3 5 = .ok (.aload_n 0, 1) := by decide +kernel
theorem dX11_either3_6 : decode cX11_either3 6 = .ok (.bipush 111, 2) := by decide +kernel
theorem dX11_either3_8 : decode cX11_either3 8 = .ok (.bipush 114, 2) := by decide +kernel
theorem dX11_either3_10 : decode cX11_either3 10 = .ok (.iconst 0, 1) := by decide +kernel
theorem dX11_either3_11 : decode cX11_either3 11 = .ok (.iconst 0, 1) := by decide +kernel
theorem dX11_either3_12 : decode cX11_either3 12 = .ok (.iconst 0, 1) := by decide +kernel
theorem dX11_either3_13 : decode cX11_either3 13 = .ok (.iconst 0, 1) := by decide +kernel
theorem dX11_either3_14 : decode cX11_either3 14 = .ok (.iconst 0, 1) := by decide +kernel
theorem dX11_either3_15 : decode cX11_either3 15 = .ok (.iconst 0, 1) := by decide +kernel
theorem dX11_either3_16 : decode cX11_either3 16 = .ok (.invokevirtual 177, 3) := by decide +kernel
theorem dX11_either3_19 : decode cX11_either3 19 = .ok (.ifCond .eq 29, 3) := by decide +kernel
theorem dX11_either3_22 : decode cX11_either3 22 = .ok (.aload_n 0, 1) := by decide +kernel
theorem dX11_either3_23 : decode cX11_either3 23 = .ok (.invokevirtual 174, 3) := by decide +kernel
theorem dX11_either3_26 : decode cX11_either3 26 = .ok (.aload_n 0, 1) := by decide +kernel
theorem dX11_either3_27 : decode cX11_either3 27 = .ok (.invokevirtual 262, 3) := by decide +kernel
theorem dX11_either3_30 : decode cX11_either3 30 = .ok (.istore_n 2, 1) := by decide +kernel
theorem dX11_either3_31 : decode cX11_either3 31 = .ok (.iload_n 1, 1) := by decide +kernel
theorem dX11_either3_32 : decode cX11_either3 32 = .ok (.ifCond .ne 7, 3) := by decide +kernel
theorem dX11_either3_35 : decode cX11_either3 35 = .ok (.iload_n 2, 1) := by decide +kernel
theorem dX11_either3_36 : decode cX11_either3 36 = .ok (.ifCond .eq 7, 3) := by decide +kernel
theorem dX11_either3_39 : decode cX11_either3 39 = .ok (.iconst 1, 1) := by decide +kernel
theorem dX11_either3_40 : decode cX11_either3 40 = .ok (.goto 4, 3) := by decide +kernel
theorem dX11_either3_43 : decode cX11_either3 43 = .ok (.iconst 0, 1) := by decide +kernel
theorem dX11_either3_44 : decode cX11_either3 44 = .ok (.istore_n 1, 1) := by decide +kernel
theorem dX11_either3_45 : decode cX11_either3 45 = .ok (.goto (-40), 3) := by decide +kernel
theorem dX11_either3_48 : decode cX11_either3 48 = .ok (.iload_n 1, 1) := by decide +kernel
theorem dX11_either3_49 : decode cX11_either3 49 = .ok (.ireturn, 1) := by decide +kernel
theorem dX11_atom2_0 : decode cX11_atom2 0 = .ok (.iconst 0, 1) := by decide +kernel
theorem dX11_atom2_1 : decode cX11_atom2 1 = .ok (.istore_n 1, 1) := by decide +kernel
theorem dX11_atom2_2 : decode cX11_atom2 2 = .ok (.aload_n 0, 1) := by decide +kernel
theorem dX11_atom2_3 : decode cX11_atom2 3 = .ok (.bipush 45, 2) := by decide +kernel
theorem dX11_atom2_5 : decode cX11_atom2 5 = .ok (.invokevirtual 199, 3) := by decide +kernel
theorem dX11_atom2_8 : decode cX11_atom2 8 = .ok (.ifCond .eq 29, 3) := by decide +kernel
theorem dX11_atom2_11 : decode cX11_atom2 11 = .ok (.aload_n 0, 1) := by decide +kernel
theorem dX11_atom2_12 : decode cX11_atom2 12 = .ok (.invokevirtual 202, 3) := by decide +kernel
theorem dX11_atom2_15 : decode cX11_atom2 15 = .ok (.ifCond .eq 146, 3) := by decide +kernel
theorem dX11_atom2_18 : decode cX11_atom2 18 = .ok (.aload_n 0, 1) := by decide +kernel
theorem dX11_atom2_19 : decode cX11_atom2 19 = .ok (.invokevirtual 250, 3) := by decide +kernel
theorem dX11_atom2_22 : decode cX11_atom2 22 = .ok (.ineg, 1) := by decide +kernel
theorem dX11_atom2_23 : decode cX11_atom2 23 = .ok (.istore_n 1, 1) := by decide +kernel
theorem dX11_atom2_24 : decode cX11_atom2 24 = .ok (.aload_n 0, 1) := by decide +kernel
theorem dX11_atom2_25 : decode cX11_atom2 25 = .ok (.dup, 1) := by decide +kernel
theorem dX11_atom2_26 : decode cX11_atom2 26 = .ok (.getfield 168, 3) := by decide +kernel
theorem dX11_atom2_29 : decode cX11_atom2 29 = .ok (.iconst 1, 1) := by decide +kernel
theorem dX11_atom2_30 : decode cX11_atom2 30 = .ok (.isub, 1) := by decide +kernel
theorem dX11_atom2_31 : decode cX11_atom2 31 = .ok (.putfield 168, 3) := by decide +kernel
theorem dX11_atom2_34 : decode cX11_atom2 34 = .ok (.goto 127, 3) := by decide +kernel
theorem dX11_atom2_37 : decode cX11_atom2 37 = .ok (.aload_n 0, 1) := by decide +kernel
theorem dX11_atom2_38 : decode cX11_atom2 38 = .ok (.bipush 40, 2) := by decide +kernel
theorem dX11_atom2_40 : decode cX11_atom2 40 = .ok (.invokevirtual 199, 3) := by decide +kernel
theorem dX11_atom2_43 : decode cX11_atom2 43 = .ok (.ifCond .eq 52, 3) := by decide +kernel
theorem dX11_atom2_46 : decode cX11_atom2 46 = .ok (.aload_n 0, 1) := by decide +kernel
theorem dX11_atom2_47 : decode cX11_atom2 47 = .ok (.invokevirtual 202, 3) := by decide +kernel
theorem dX11_atom2_50 : decode cX11_atom2 50 = .ok (.ifCond .eq 111, 3) := by decide +kernel
theorem dX11_atom2_53 : decode cX11_atom2 53 = .ok (.aload_n 0, 1) := by decide +kernel
theorem dX11_atom2_54 : decode cX11_atom2 54 = .ok (.invokevirtual 265, 3) := by decide +kernel
theorem dX11_atom2_57 : decode cX11_atom2 57 = .ok (.istore_n 1, 1) := by decide +kernel
theorem dX11_atom2_58 : decode cX11_atom2 58 = .ok (.aload_n 0, 1) := by decide +kernel
theorem dX11_atom2_59 : decode cX11_atom2 59 = .ok (.bipush 41, 2) := by decide +kernel
theorem dX11_atom2_61 : decode cX11_atom2 61 = .ok (.invokevirtual 199, 3) := by decide +kernel
theorem dX11_atom2_64 : decode cX11_atom2 64 = .ok (.ifCond .ne 7, 3) := by decide +kernel
theorem dX11_atom2_67 : decode cX11_atom2 67 = .ok (.aload_n 0, 1) := by decide +kernel
theorem dX11_atom2_68 : decode cX11_atom2 68 = .ok (.invokevirtual 171, 3) := by decide +kernel
theorem dX11_atom2_71 : decode cX11_atom2 71 = .ok (.aload_n 0, 1) := by decide +kernel
theorem dX11_atom2_72 : decode cX11_atom2 72 = .ok (.dup, 1) := by decide +kernel
theorem dX11_atom2_73 : decode cX11_atom2 73 = .ok (.getfield 168, 3) := by decide +kernel
theorem dX11_atom2_76 : decode cX11_atom2 76 = .ok (.iconst 1, 1) := by decide +kernel
theorem dX11_atom2_77 : decode cX11_atom2 77 = .ok (.isub, 1) := by decide +kernel
theorem dX11_atom2_78 : decode cX11_atom2 78 = .ok (.putfield 168, 3) := by decide +kernel
theorem dX11_atom2_81 : decode cX11_atom2 81 = .ok (.aload_n 0, 1) := by decide +kernel
theorem dX11_atom2_82 : decode cX11_atom2 82 = .ok (.getfield 158, 3) := by decide +kernel
theorem dX11_atom2_85 : decode cX11_atom2 85 = .ok (.ifCond .ne 76, 3) := by decide +kernel
theorem dX11_atom2_88 : decode cX11_atom2 88 = .ok (.aload_n 0, 1) := by decide +kernel
theorem dX11_atom2_89 : decode cX11_atom2 89 = .ok (.invokevirtual 174, 3) := by decide +kernel
theorem dX11_atom2_92 : decode cX11_atom2 92 = .ok (.goto 69, 3) := by decide +kernel
theorem dX11_atom2_95 : decode cX11_atom2 95 = .ok (.aload_n 0, 1) := by decide +kernel
theorem dX11_atom2_96 : decode cX11_atom2 96 = .ok (.getfield 158, 3) := by decide +kernel
theorem dX11_atom2_99 : decode cX11_atom2 99 = .ok (.ifCond .ne 24, 3) := by decide +kernel
theorem dX11_atom2_102 : decode cX11_atom2 102 = .ok (.aload_n 0, 1) := by decide +kernel
theorem dX11_atom2_103 : decode cX11_atom2 103 = .ok (.getfield 143, 3) := by decide +kernel
theorem dX11_atom2_106 : decode cX11_atom2 106 = .ok (.iconst 2, 1) := by decide +kernel
theorem dX11_atom2_107 : decode cX11_atom2 107 = .ok (.if_icmp .ne 16, 3) := by decide +kernel
theorem dX11_atom2_110 : decode cX11_atom2 110 = .ok (.aload_n 0, 1) := by decide +kernel
theorem dX11_atom2_111 : decode cX11_atom2 111 = .ok (.getfield 154, 3) := by decide +kernel
theorem dX11_atom2_114 : decode cX11_atom2 114 = .ok (.l2i, 1) := by decide +kernel
theorem dX11_atom2_115 : decode cX11_atom2 115 = .ok (.istore_n 1, 1) := by decide +kernel
theorem dX11_atom2_116 : decode cX11_atom2 116 = .ok (.aload_n 0, 1) := by decide +kernel
theorem dX11_atom2_117 : decode cX11_atom2 117 = .ok (.invokevirtual 174, 3) := by decide +kernel
theorem dX11_atom2_120 : decode cX11_atom2 120 = .ok (.goto 41, 3) := by decide +kernel
theorem dX11_atom2_123 : decode cX11_atom2 123 = .ok (.aload_n 0, 1) := by decide +kernel
theorem dX11_atom2_124 : decode cX11_atom2 124 = .ok (.getfield 158, 3) := by decide +kernel
theorem dX11_atom2_127 : decode cX11_atom2 127 = .ok (.ifCond .ne 30, 3) := by decide +kernel
theorem dX11_atom2_130 : decode cX11_atom2 130 = .ok (.aload_n 0, 1) := by decide +kernel
theorem dX11_atom2_131 : decode cX11_atom2 131 = .ok (.getfield 143, 3) := by decide +kernel
theorem dX11_atom2_134 : decode cX11_atom2 134 = .ok (.iconst 1, 1) := by decide +kernel
theorem dX11_atom2_135 : decode cX11_atom2 135 = .ok (.if_icmp .ne 22, 3) := by decide +kernel
theorem dX11_atom2_138 : decode cX11_atom2 138 = .ok (.aload_n 0, 1) := by decide +kernel
theorem dX11_atom2_139 : decode cX11_atom2 139 = .ok (.invokevirtual 206, 3) := by decide +kernel
theorem dX11_atom2_142 : decode cX11_atom2 142 = .ok (.istore_n 1, 1) := by decide +kernel
theorem dX11_atom2_143 : decode cX11_atom2 143 = .ok (.aload_n 0, 1) := by decide +kernel
theorem dX11_atom2_144 : decode cX11_atom2 144 = .ok (.getfield 158, 3) := by decide +kernel
theorem dX11_atom2_147 : decode cX11_atom2 147 = .ok (.ifCond .ne 14, 3) := by decide +kernel
theorem dX11_atom2_150 : decode cX11_atom2 150 = .ok (.aload_n 0, 1) := by decide +kernel
theorem dX11_atom2_151 : decode cX11_atom2 151 = .ok (.invokevirtual 174, 3) := by decide +kernel
theorem dX11_atom2_154 : decode cX11_atom2 154 = .ok (.goto 7, 3) := by decide +kernel
theorem dX11_atom2_157 : decode cX11_atom2 157 = .ok (.aload_n 0, 1) := by decide +kernel
theorem dX11_atom2_158 : decode cX11_atom2 158 = .ok (.invokevirtual 171, 3) := by decide +kernel
theorem dX11_atom2_161 : decode cX11_atom2 161 = .ok (.iload_n 1, 1) := by decide +kernel
theorem dX11_atom2_162 : decode cX11_atom2 162 = .ok (.ireturn, 1) := by decide +kernel
theorem dX11_term2_0 : decode cX11_term2 0 = .ok (.aload_n 0, 1) := by decide +kernel
theorem dX11_term2_1 : decode cX11_term2 1 = .ok (.invokevirtual 268, 3) := by decide +kernel
theorem dX11_term2_4 : decode cX11_term2 4 = .ok (.istore_n 1, 1) := by decide +kernel
theorem dX11_term2_5 : decode cX11_term2 5 = .ok (.aload_n 0, 1) := by decide +kernel
theorem dX11_term2_6 : decode cX11_term2 6 = .ok (.bipush 42, 2) := by decide +kernel
theorem dX11_term2_8 : decode cX11_term2 8 = .ok (.invokevirtual 199, 3) := by decide +kernel
theorem dX11_term2_11 : decode cX11_term2 11 = .ok (.ifCond .eq 17, 3) := by decide +kernel
theorem dX11_term2_14 : decode cX11_term2 14 = .ok (.aload_n 0, 1) := by decide +kernel
theorem dX11_term2_15 : decode cX11_term2 15 = .ok (.invokevirtual 174, 3) := by decide +kernel
theorem dX11_term2_18 : decode cX11_term2 18 = .ok (.iload_n 1, 1) := by decide +kernel
theorem dX11_term2_19 : decode cX11_term2 19 = .ok (.aload_n 0, 1) := by decide +kernel
theorem dX11_term2_20 : decode cX11_term2 20 = .ok (.invokevirtual 268, 3) := by decide +kernel
theorem dX11_term2_23 : decode cX11_term2 23 = .ok (.imul, 1) := by decide +kernel
theorem dX11_term2_24 : decode cX11_term2 24 = .ok (.istore_n 1, 1) := by decide +kernel
theorem dX11_term2_25 : decode cX11_term2 25 = .ok (.goto (-20), 3) := by decide +kernel
theorem dX11_term2_28 : decode cX11_term2 28 = .ok (.iload_n 1, 1) := by decide +kernel
theorem dX11_term2_29 : decode cX11_term2 29 = .ok (.ireturn, 1) := by decide +kernel
theorem dX11_added2_0 : decode cX11_added2 0 = .ok (.aload_n 0, 1) := by decide +kernel
theorem dX11_added2_1 : decode cX11_added2 1 = .ok (.invokevirtual 271, 3) := by decide +kernel
theorem dX11_added2_4 : decode cX11_added2 4 = .ok (.istore_n 1, 1) := by decide +kernel
theorem dX11_added2_5 : decode cX11_added2 5 = .ok (.aload_n 0, 1) := by decide +kernel
theorem dX11_added2_6 : decode cX11_added2 6 = .ok (.bipush 43, 2) := by decide +kernel
theorem dX11_added2_8 : decode cX11_added2 8 = .ok (.invokevirtual 199, 3) := by decide +kernel
theorem dX11_added2_11 : decode cX11_added2 11 = .ok (.ifCond .ne 12, 3) := by decide +kernel
theorem dX11_added2_14 : decode cX11_added2 14 = .ok (.aload_n 0, 1) := by decide +kernel
theorem dX11_added2_15 : decode cX11_added2 15 = .ok (.bipush 45, 2) := by decide +kernel
theorem dX11_added2_17 : decode cX11_added2 17 = .ok (.invokevirtual 199, 3) := by decide +kernel
theorem dX11_added2_20 : decode cX11_added2 20 = .ok (.ifCond .eq 46, 3) := by decide +kernel
theorem dX11_added2_23 : decode cX11_added2 23 = .ok (.aload_n 0, 1) := by decide +kernel
theorem dX11_added2_24 : decode cX11_added2 24 = .ok (.getfield 154, 3) := by decide +kernel
theorem dX11_added2_27 : decode cX11_added2 27 = .ok (.ldc2_w 216, 3) := by decide +kernel
theorem dX11_added2_30 : decode cX11_added2 30 = .ok (.lcmp, 1) := by decide +kernel
theorem dX11_added2_31 : decode cX11_added2 31 = .ok (.ifCond .ne 7, 3) := by decide +kernel
theorem dX11_added2_34 : decode cX11_added2 34 = .ok (.iconst 1, 1) := by decide +kernel
theorem dX11_added2_35 : decode cX11_added2 35 = .ok (.goto 4, 3) := by decide +kernel
theorem dX11_added2_38 : decode cX11_added2 38 = .ok (.iconst 0, 1) := by decide +kernel
theorem dX11_added2_39 : decode cX11_added2 39 = .ok (.istore_n 2, 1) := by decide +kernel
theorem dX11_added2_40 : decode cX11_added2 40 = .ok (.aload_n 0, 1) := by decide +kernel
theorem dX11_added2_41 : decode cX11_added2 41 = .ok (.invokevirtual 174, 3) := by decide +kernel
theorem dX11_added2_44 : decode cX11_added2 44 = .ok (.aload_n 0, 1) := by decide +kernel
theorem dX11_added2_45 : decode cX11_added2 45 = .ok (.invokevirtual 271, 3) := by decide +kernel
theorem dX11_added2_48 : decode cX11_added2 48 = .ok (.istore_n 3, 1) := by decide +kernel
theorem dX11_added2_49 : decode cX11_added2 49 = .ok (.iload_n 2, 1) := by decide +kernel
theorem dX11_added2_50 : decode cX11_added2 50 = .ok (.ifCond .eq 9, 3) := by decide +kernel
theorem dX11_added2_53 : decode cX11_added2 53 = .ok (.iload_n 1, 1) := by decide +kernel
theorem dX11_added2_54 : decode cX11_added2 54 = .ok (.iload_n 3, 1) := by decide +kernel
theorem dX11_added2_55 : decode cX11_added2 55 = .ok (.iadd, 1) := by decide +kernel
theorem dX11_added2_56 : decode cX11_added2 56 = .ok (.goto 6, 3) := by decide +kernel
theorem dX11_added2_59 : decode cX11_added2 59 = .ok (.iload_n 1, 1) := by decide +kernel
theorem dX11_added2_60 : decode cX11_added2 60 = .ok (.iload_n 3, 1) := by decide +kernel
theorem dX11_added2_61 : decode cX11_added2 61 = .ok (.isub, 1) := by decide +kernel
theorem dX11_added2_62 : decode cX11_added2 62 = .ok (.istore_n 1, 1) := by decide +kernel
theorem dX11_added2_63 : decode cX11_added2 63 = .ok (.goto (-58), 3) := by decide +kernel
theorem dX11_added2_66 : decode cX11_added2 66 = .ok (.iload_n 1, 1) := by decide +kernel
theorem dX11_added2_67 : decode cX11_added2 67 = .ok (.ireturn, 1) := by decide +kernel
theorem dX11_not2_0 : decode cX11_not2 0 = .ok (.aload_n 0, 1) := by decide +kernel
theorem dX11_not2_1 : decode cX11_not2 1 = .ok (.bipush 110, 2) := by decide +kernel
theorem dX11_not2_3 : decode cX11_not2 3 = .ok (.bipush 111, 2) := by decide +kernel
theorem dX11_not2_5 : decode cX11_not2 5 = .ok (.bipush 116, 2) := by decide +kernel
theorem dX11_not2_7 : decode cX11_not2 7 = .ok (.iconst 0, 1) := by decide +kernel
theorem dX11_not2_8 : decode cX11_not2 8 = .ok (.iconst 0, 1) := by decide +kernel
theorem dX11_not2_9 : decode cX11_not2 9 = .ok (.iconst 0, 1) := by decide +kernel
theorem dX11_not2_10 : decode cX11_not2 10 = .ok (.iconst 0, 1) := by decide +kernel
theorem dX11_not2_11 : decode cX11_not2 11 = .ok (.iconst 0, 1) := by decide +kernel
theorem dX11_not2_12 : decode cX11_not2 12 = .ok (.invokevirtual 177, 3) := by decide +kernel
theorem dX11_not2_15 : decode cX11_not2 15 = .ok (.ifCond .eq 37, 3) := by decide +kernel
theorem dX11_not2_18 : decode cX11_not2 18 = .ok (.aload_n 0, 1) := by decide +kernel
theorem dX11_not2_19 : decode cX11_not2 19 = .ok (.invokevirtual 202, 3) := by decide +kernel
theorem dX11_not2_22 : decode cX11_not2 22 = .ok (.ifCond .ne 5, 3) := by decide +kernel
theorem dX11_not2_25 : decode cX11_not2 25 = .ok (.iconst 0, 1) := by decide +kernel
theorem dX11_not2_26 : decode cX11_not2 26 = .ok (.ireturn, 1) := by decide +kernel
theorem dX11_not2_27 : decode cX11_not2 27 = .ok (.aload_n 0, 1) := by decide +kernel
theorem dX11_not2_28 : decode cX11_not2 28 = .ok (.invokevirtual 259, 3) := by decide +kernel
theorem dX11_not2_31 : decode cX11_not2 31 = .ok (.istore_n 1, 1) := by decide +kernel
theorem dX11_not2_32 : decode cX11_not2 32 = .ok (.aload_n 0, 1) := by decide +kernel
theorem dX11_not2_33 : decode cX11_not2 33 = .ok (.dup, 1) := by decide +kernel
theorem dX11_not2_34 : decode cX11_not2 34 = .ok (.getfield 168, 3) := by decide +kernel
theorem dX11_not2_37 : decode cX11_not2 37 = .ok (.iconst 1, 1) := by decide +kernel
theorem dX11_not2_38 : decode cX11_not2 38 = .ok (.isub, 1) := by decide +kernel
theorem dX11_not2_39 : decode cX11_not2 39 = .ok (.putfield 168, 3) := by decide +kernel
theorem dX11_not2_42 : decode cX11_not2 42 = .ok (.iload_n 1, 1) := by decide +kernel
theorem dX11_not2_43 : decode cX11_not2 43 = .ok (.ifCond .ne 7, 3) := by decide +kernel
theorem dX11_not2_46 : decode cX11_not2 46 = .ok (.iconst 1, 1) := by decide +kernel
theorem dX11_not2_47 : decode cX11_not2 47 = .ok (.goto 4, 3) := by decide +kernel
theorem dX11_not2_50 : decode cX11_not2 50 = .ok (.iconst 0, 1) := by decide +kernel
theorem dX11_not2_51 : decode cX11_not2 51 = .ok (.ireturn, 1) := by decide +kernel
theorem dX11_not2_52 : decode cX11_not2 52 = .ok (.aload_n 0, 1) := by decide +kernel
theorem dX11_not2_53 : decode cX11_not2 53 = .ok (.invokevirtual 274, 3) := by decide +kernel
theorem dX11_not2_56 : decode cX11_not2 56 = .ok (.istore_n 1, 1) := by decide +kernel
theorem dX11_not2_57 : decode cX11_not2 57 = .ok (.aload_n 0, 1) := by decide +kernel
theorem dX11_not2_58 : decode cX11_not2 58 = .ok (.bipush 60, 2) := by decide +kernel
theorem dX11_not2_60 : decode cX11_not2 60 = .ok (.invokevirtual 199, 3) := by decide +kernel
theorem dX11_not2_63 : decode cX11_not2 63 = .ok (.ifCond .ne 14, 3) := by decide +kernel
theorem dX11_not2_66 : decode cX11_not2 66 = .ok (.aload_n 0, 1) := by decide +kernel
theorem dX11_not2_67 : decode cX11_not2 67 = .ok (.bipush 61, 2) := by decide +kernel
theorem dX11_not2_69 : decode cX11_not2 69 = .ok (.invokevirtual 199, 3) := by decide +kernel
theorem dX11_not2_72 : decode cX11_not2 72 = .ok (.ifCond .ne 5, 3) := by decide +kernel
theorem dX11_not2_75 : decode cX11_not2 75 = .ok (.iload_n 1, 1) := by decide +kernel
theorem dX11_not2_76 : decode cX11_not2 76 = .ok (.ireturn, 1) := by decide +kernel
theorem dX11_not2_77 : decode cX11_not2 77 = .ok (.aload_n 0, 1) := by decide +kernel
theorem dX11_not2_78 : decode cX11_not2 78 = .ok (.getfield 154, 3) := by decide +kernel
theorem dX11_not2_81 : decode cX11_not2 81 = .ok (.ldc2_w 221, 3) := by decide +kernel
theorem dX11_not2_84 : decode cX11_not2 84 = .ok (.lcmp, 1) := by decide +kernel
theorem dX11_not2_85 : decode cX11_not2 85 = .ok (.ifCond .ne 7, 3) := by decide +kernel
theorem dX11_not2_88 : decode cX11_not2 88 = .ok (.iconst 1, 1) := by decide +kernel
theorem dX11_not2_89 : decode cX11_not2 89 = .ok (.goto 4, 3) := by decide +kernel
theorem dX11_not2_92 : decode cX11_not2 92 = .ok (.iconst 0, 1) := by decide +kernel
theorem dX11_not2_93 : decode cX11_not2 93 = .ok (.istore_n 2, 1) := by decide +kernel
theorem dX11_not2_94 : decode cX11_not2 94 = .ok (.aload_n 0, 1) := by decide +kernel
theorem dX11_not2_95 : decode cX11_not2 95 = .ok (.invokevirtual 174, 3) := by decide +kernel
theorem dX11_not2_98 : decode cX11_not2 98 = .ok (.aload_n 0, 1) := by decide +kernel
theorem dX11_not2_99 : decode cX11_not2 99 = .ok (.invokevirtual 274, 3) := by decide +kernel
theorem dX11_not2_102 : decode cX11_not2 102 = .ok (.istore_n 3, 1) := by decide +kernel
theorem dX11_not2_103 : decode cX11_not2 103 = .ok (.iload_n 2, 1) := by decide +kernel
theorem dX11_not2_104 : decode cX11_not2 104 = .ok (.ifCond .eq 11, 3) := by decide +kernel
theorem dX11_not2_107 : decode cX11_not2 107 = .ok (.iload_n 1, 1) := by decide +kernel
theorem dX11_not2_108 : decode cX11_not2 108 = .ok (.iload_n 3, 1) := by decide +kernel
theorem dX11_not2_109 : decode cX11_not2 109 = .ok (.if_icmp .ge 15, 3) := by decide +kernel
theorem dX11_not2_112 : decode cX11_not2 112 = .ok (.goto 8, 3) := by decide +kernel
theorem dX11_not2_115 : decode cX11_not2 115 = .ok (.iload_n 1, 1) := by decide +kernel
theorem dX11_not2_116 : decode cX11_not2 116 = .ok (.iload_n 3, 1) := by decide +kernel
theorem dX11_not2_117 : decode cX11_not2 117 = .ok (.if_icmp .ne 7, 3) := by decide +kernel
theorem dX11_not2_120 : decode cX11_not2 120 = .ok (.iconst 1, 1) := by decide +kernel
theorem dX11_not2_121 : decode cX11_not2 121 = .ok (.goto 4, 3) := by decide +kernel
theorem dX11_not2_124 : decode cX11_not2 124 = .ok (.iconst 0, 1) := by decide +kernel
theorem dX11_not2_125 : decode cX11_not2 125 = .ok (.ireturn, 1) := by decide +kernel
theorem dX11_both2_0 : decode cX11_both2 0 = .ok (.aload_n 0, 1) := by decide +kernel
theorem dX11_both2_1 : decode cX11_both2 1 = .ok (.invokevirtual 277, 3) := by decide +kernel
theorem dX11_both2_4 : decode cX11_both2 4 = .ok (.istore_n 1, 1) := by decide +kernel
theorem dX11_both2_5 : decode cX11_both2 5 = .ok (.aload_n 0, 1) := by decide +kernel
theorem dX11_both2_6 : decode cX11_both2 6 = .ok (.bipush 97, 2) := by decide +kernel
theorem dX11_both2_8 : decode cX11_both2 8 = .ok (.bipush 110, 2) := by decide +kernel
theorem dX11_both2_10 : decode cX11_both2 10 = .ok (.bipush 100, 2) := by decide +kernel
theorem dX11_both2_12 : decode cX11_both2 12 = .ok (.iconst 0, 1) := by decide +kernel
theorem dX11_both2_13 : decode cX11_both2 13 = .ok (.iconst 0, 1) := by decide +kernel
theorem dX11_both2_14 : decode cX11_both2 14 = .ok (.iconst 0, 1) := by decide +kernel
theorem dX11_both2_15 : decode cX11_both2 15 = .ok (.iconst 0, 1) := by decide +kernel
theorem dX11_both2_16 : decode cX11_both2 16 = .ok (.iconst 0, 1) := by decide +kernel
theorem dX11_both2_17 : decode cX11_both2 17 = .ok (.invokevirtual 177, 3) := by decide +kernel
theorem dX11_both2_20 : decode cX11_both2 20 = .ok (.ifCond .eq 29, 3) := by decide +kernel
theorem dX11_both2_23 : decode cX11_both2 23 = .ok (.aload_n 0, 1) := by decide +kernel
theorem dX11_both2_24 : decode cX11_both2 24 = .ok (.invokevirtual 174, 3) := by decide +kernel
theorem dX11_both2_27 : decode cX11_both2 27 = .ok (.aload_n 0, 1) := by decide +kernel
theorem dX11_both2_28 : decode cX11_both2 28 = .ok (.invokevirtual 277, 3) := by decide +kernel
theorem dX11_both2_31 : decode cX11_both2 31 = .ok (.istore_n 2, 1) := by decide +kernel
theorem dX11_both2_32 : decode cX11_both2 32 = .ok (.iload_n 1, 1) := by decide +kernel
theorem dX11_both2_33 : decode cX11_both2 33 = .ok (.ifCond .eq 11, 3) := by decide +kernel
theorem dX11_both2_36 : decode cX11_both2 36 = .ok (.iload_n 2, 1) := by decide +kernel
theorem dX11_both2_37 : decode cX11_both2 37 = .ok (.ifCond .eq 7, 3) := by decide +kernel
theorem dX11_both2_40 : decode cX11_both2 40 = .ok (.iconst 1, 1) := by decide +kernel
theorem dX11_both2_41 : decode cX11_both2 41 = .ok (.goto 4, 3) := by decide +kernel
theorem dX11_both2_44 : decode cX11_both2 44 = .ok (.iconst 0, 1) := by decide +kernel
theorem dX11_both2_45 : decode cX11_both2 45 = .ok (.istore_n 1, 1) := by decide +kernel
theorem dX11_both2_46 : decode cX11_both2 46 = .ok (.goto (-41), 3) := by decide +kernel
theorem dX11_both2_49 : decode cX11_both2 49 = .ok (.iload_n 1, 1) := by decide +kernel
theorem dX11_both2_50 : decode cX11_both2 50 = .ok (.ireturn, 1) := by decide +kernel
theorem dX11_either2_0 : decode cX11_either2 0 = .ok (.aload_n 0, 1) := by decide +kernel
theorem dX11_either2_1 : decode cX11_either2 1 = .ok (.invokevirtual 280, 3) := by decide +kernel
theorem dX11_either2_4 : decode cX11_either2 4 = .ok (.istore_n 1, 1) := by decide +kernel
theorem dX11_either2_5 : decode cX11_either2 5 = .ok (.aload_n 0, 1) := by decide +kernel
theorem dX11_either2_6 : decode cX11_either2 6 = .ok (.bipush 111, 2) := by decide +kernel
theorem dX11_either2_8 : decode cX11_either2 8 = .ok (.bipush 114, 2) := by decide +kernel
theorem dX11_either2_10 : decode cX11_either2 10 = .ok (.iconst 0, 1) := by decide +kernel
theorem dX11_either2_11 : decode cX11_either2 11 = .ok (.iconst 0, 1) := by decide +kernel
theorem dX11_either2_12 : decode cX11_either2 12 = .ok (.iconst 0, 1) := by decide +kernel
theorem dX11_either2_13 : decode cX11_either2 13 = .ok (.iconst 0, 1) := by decide +kernel
theorem dX11_either2_14 : decode cX11_either2 14 = .ok (.iconst 0, 1) := by decide +kernel
theorem dX11_either2_15 : decode cX11_either2 15 = .ok (.iconst 0, 1) := by decide +kernel
theorem dX11_either2_16 : decode cX11_either2 16 = .ok (.invokevirtual 177, 3) := by decide +kernel
theorem dX11_either2_19 : decode cX11_either2 19 = .ok (.ifCond .eq 29, 3) := by decide +kernel
theorem dX11_either2_22 : decode cX11_either2 22 = .ok (.aload_n 0, 1) := by decide +kernel
theorem dX11_either2_23 : decode cX11_either2 23 = .ok (.invokevirtual 174, 3) := by decide +kernel
theorem dX11_either2_26 : decode cX11_either2 26 = .ok (.aload_n 0, 1) := by decide +kernel
theorem dX11_either2_27 : decode cX11_either2 27 = .ok (.invokevirtual 280, 3) := by decide +kernel
theorem dX11_either2_30 : decode cX11_either2 30 = .ok (.istore_n 2, 1) := by decide +kernel
theorem dX11_either2_31 : decode cX11_either2 31 = .ok (.iload_n 1, 1) := by decide +kernel
theorem dX11_either2_32 : decode cX11_either2 32 = .ok (.ifCond .ne 7, 3) := by decide +kernel
theorem dX11_either2_35 : decode cX11_either2 35 = .ok (.iload_n 2, 1) := by decide +kernel
theorem dX11_either2_36 : decode cX11_either2 36 = .ok (.ifCond .eq 7, 3) := by decide +kernel
theorem dX11_either2_39 : decode cX11_either2 39 = .ok (.iconst 1, 1) := by decide +kernel
theorem dX11_either2_40 : decode cX11_either2 40 = .ok (.goto 4, 3) := by decide +kernel
theorem dX11_either2_43 : decode cX11_either2 43 = .ok (.iconst 0, 1) := by decide +kernel
theorem dX11_either2_44 : decode cX11_either2 44 = .ok (.istore_n 1, 1) := by decide +kernel
theorem dX11_either2_45 : decode cX11_either2 45 = .ok (.goto (-40), 3) := by decide +kernel
theorem dX11_either2_48 : decode cX11_either2 48 = .ok (.iload_n 1, 1) := by decide +kernel
theorem dX11_either2_49 : decode cX11_either2 49 = .ok (.ireturn, 1) := by decide +kernel
theorem dX11_atom1_0 : decode cX11_atom1 0 = .ok (.iconst 0, 1) := by decide +kernel
theorem dX11_atom1_1 : decode cX11_atom1 1 = .ok (.istore_n 1, 1) := by decide +kernel
theorem dX11_atom1_2 : decode cX11_atom1 2 = .ok (.aload_n 0, 1) := by decide +kernel
theorem dX11_atom1_3 : decode cX11_atom1 3 = .ok (.bipush 45, 2) := by decide +kernel
theorem dX11_atom1_5 : decode cX11_atom1 5 = .ok (.invokevirtual 199, 3) := by decide +kernel
theorem dX11_atom1_8 : decode cX11_atom1 8 = .ok (.ifCond .eq 29, 3) := by decide +kernel
theorem dX11_atom1_11 : decode cX11_atom1 11 = .ok (.aload_n 0, 1) := by decide +kernel
theorem dX11_atom1_12 : decode cX11_atom1 12 = .ok (.invokevirtual 202, 3) := by decide +kernel
theorem dX11_atom1_15 : decode cX11_atom1 15 = .ok (.ifCond .eq 146, 3) := by decide +kernel
theorem dX11_atom1_18 : decode cX11_atom1 18 = .ok (.aload_n 0, 1) := by decide +kernel
theorem dX11_atom1_19 : decode cX11_atom1 19 = .ok (.invokevirtual 268, 3) := by decide +kernel
theorem dX11_atom1_22 : decode cX11_atom1 22 = .ok (.ineg, 1) := by decide +kernel
theorem dX11_atom1_23 : decode cX11_atom1 23 = .ok (.istore_n 1, 1) := by decide +kernel
theorem dX11_atom1_24 : decode cX11_atom1 24 = .ok (.aload_n 0, 1) := by decide +kernel
theorem dX11_atom1_25 : decode cX11_atom1 25 = .ok (.dup, 1) := by decide +kernel
theorem dX11_atom1_26 : decode cX11_atom1 26 = .ok (.getfield 168, 3) := by decide +kernel
theorem dX11_atom1_29 : decode cX11_atom1 29 = .ok (.iconst 1, 1) := by decide +kernel
theorem dX11_atom1_30 : decode cX11_atom1 30 = .ok (.isub, 1) := by decide +kernel
theorem dX11_atom1_31 : decode cX11_atom1 31 = .ok (.putfield 168, 3) := by decide +kernel
theorem dX11_atom1_34 : decode cX11_atom1 34 = .ok (.goto 127, 3) := by decide +kernel
theorem dX11_atom1_37 : decode cX11_atom1 37 = .ok (.aload_n 0, 1) := by decide +kernel
theorem dX11_atom1_38 : decode cX11_atom1 38 = .ok (.bipush 40, 2) := by decide +kernel
theorem dX11_atom1_40 : decode cX11_atom1 40 = .ok (.invokevirtual 199, 3) := by decide +kernel
theorem dX11_atom1_43 : decode cX11_atom1 43 = .ok (.ifCond .eq 52, 3) := by decide +kernel
theorem dX11_atom1_46 : decode cX11_atom1 46 = .ok (.aload_n 0, 1) := by decide +kernel
theorem dX11_atom1_47 : decode cX11_atom1 47 = .ok (.invokevirtual 202, 3) := by decide +kernel
theorem dX11_atom1_50 : decode cX11_atom1 50 = .ok (.ifCond .eq 111, 3) := by decide +kernel
theorem dX11_atom1_53 : decode cX11_atom1 53 = .ok (.aload_n 0, 1) := by decide +kernel
theorem dX11_atom1_54 : decode cX11_atom1 54 = .ok (.invokevirtual 283, 3) := by decide +kernel
theorem dX11_atom1_57 : decode cX11_atom1 57 = .ok (.istore_n 1, 1) := by decide +kernel
theorem dX11_atom1_58 : decode cX11_atom1 58 = .ok (.aload_n 0, 1) := by decide +kernel
theorem dX11_atom1_59 : decode cX11_atom1 59 = .ok (.bipush 41, 2) := by decide +kernel
theorem dX11_atom1_61 : decode cX11_atom1 61 = .ok (.invokevirtual 199, 3) := by decide +kernel
theorem dX11_atom1_64 : decode cX11_atom1 64 = .ok (.ifCond .ne 7, 3) := by decide +kernel
theorem dX11_atom1_67 : decode cX11_atom1 67 = .ok (.aload_n 0, 1) := by decide +kernel
theorem dX11_atom1_68 : decode cX11_atom1 68 = .ok (.invokevirtual 171, 3) := by decide +kernel
theorem dX11_atom1_71 : decode cX11_atom1 71 = .ok (.aload_n 0, 1) := by decide +kernel
theorem dX11_atom1_72 : decode cX11_atom1 72 = .ok (.dup, 1) := by decide +kernel
theorem dX11_atom1_73 : decode cX11_atom1 73 = .ok (.getfield 168, 3) := by decide +kernel
theorem dX11_atom1_76 : decode cX11_atom1 76 = .ok (.iconst 1, 1) := by decide +kernel
theorem dX11_atom1_77 : decode cX11_atom1 77 = .ok (.isub, 1) := by decide +kernel
theorem dX11_atom1_78 : decode cX11_atom1 78 = .ok (.putfield 168, 3) := by decide +kernel
theorem dX11_atom1_81 : decode cX11_atom1 81 = .ok (.aload_n 0, 1) := by decide +kernel
theorem dX11_atom1_82 : decode cX11_atom1 82 = .ok (.getfield 158, 3) := by decide +kernel
theorem dX11_atom1_85 : decode cX11_atom1 85 = .ok (.ifCond .ne 76, 3) := by decide +kernel
theorem dX11_atom1_88 : decode cX11_atom1 88 = .ok (.aload_n 0, 1) := by decide +kernel
theorem dX11_atom1_89 : decode cX11_atom1 89 = .ok (.invokevirtual 174, 3) := by decide +kernel
theorem dX11_atom1_92 : decode cX11_atom1 92 = .ok (.goto 69, 3) := by decide +kernel
theorem dX11_atom1_95 : decode cX11_atom1 95 = .ok (.aload_n 0, 1) := by decide +kernel
theorem dX11_atom1_96 : decode cX11_atom1 96 = .ok (.getfield 158, 3) := by decide +kernel
theorem dX11_atom1_99 : decode cX11_atom1 99 = .ok (.ifCond .ne 24, 3) := by decide +kernel
theorem dX11_atom1_102 : decode cX11_atom1 102 = .ok (.aload_n 0, 1) := by decide +kernel
theorem dX11_atom1_103 : decode cX11_atom1 103 = .ok (.getfield 143, 3) := by decide +kernel
theorem dX11_atom1_106 : decode cX11_atom1 106 = .ok (.iconst 2, 1) := by decide +kernel
theorem dX11_atom1_107 : decode cX11_atom1 107 = .ok (.if_icmp .ne 16, 3) := by decide +kernel
theorem dX11_atom1_110 : decode cX11_atom1 110 = .ok (.aload_n 0, 1) := by decide +kernel
theorem dX11_atom1_111 : decode cX11_atom1 111 = .ok (.getfield 154, 3) := by decide +kernel
theorem dX11_atom1_114 : decode cX11_atom1 114 = .ok (.l2i, 1) := by decide +kernel
theorem dX11_atom1_115 : decode cX11_atom1 115 = .ok (.istore_n 1, 1) := by decide +kernel
theorem dX11_atom1_116 : decode cX11_atom1 116 = .ok (.aload_n 0, 1) := by decide +kernel
theorem dX11_atom1_117 : decode cX11_atom1 117 = .ok (.invokevirtual 174, 3) := by decide +kernel
theorem dX11_atom1_120 : decode cX11_atom1 120 = .ok (.goto 41, 3) := by decide +kernel
theorem dX11_atom1_123 : decode cX11_atom1 123 = .ok (.aload_n 0, 1) := by decide +kernel
theorem dX11_atom1_124 : decode cX11_atom1 124 = .ok (.getfield 158, 3) := by decide +kernel
theorem dX11_atom1_127 : decode cX11_atom1 127 = .ok (.ifCond .ne 30, 3) := by decide +kernel
theorem dX11_atom1_130 : decode cX11_atom1 130 = .ok (.aload_n 0, 1) := by decide +kernel
theorem dX11_atom1_131 : decode cX11_atom1 131 = .ok (.getfield 143, 3) := by decide +kernel
theorem dX11_atom1_134 : decode cX11_atom1 134 = .ok (.iconst 1, 1) := by decide +kernel
theorem dX11_atom1_135 : decode cX11_atom1 135 = .ok (.if_icmp .ne 22, 3) := by decide +kernel
theorem dX11_atom1_138 : decode cX11_atom1 138 = .ok (.aload_n 0, 1) := by decide +kernel
theorem dX11_atom1_139 : decode cX11_atom1 139 = .ok (.invokevirtual 206, 3) := by decide +kernel
theorem dX11_atom1_142 : decode cX11_atom1 142 = .ok (.istore_n 1, 1) := by decide +kernel
theorem dX11_atom1_143 : decode cX11_atom1 143 = .ok (.aload_n 0, 1) := by decide +kernel
theorem dX11_atom1_144 : decode cX11_atom1 144 = .ok (.getfield 158, 3) := by decide +kernel
theorem dX11_atom1_147 : decode cX11_atom1 147 = .ok (.ifCond .ne 14, 3) := by decide +kernel
theorem dX11_atom1_150 : decode cX11_atom1 150 = .ok (.aload_n 0, 1) := by decide +kernel
theorem dX11_atom1_151 : decode cX11_atom1 151 = .ok (.invokevirtual 174, 3) := by decide +kernel
theorem dX11_atom1_154 : decode cX11_atom1 154 = .ok (.goto 7, 3) := by decide +kernel
theorem dX11_atom1_157 : decode cX11_atom1 157 = .ok (.aload_n 0, 1) := by decide +kernel
theorem dX11_atom1_158 : decode cX11_atom1 158 = .ok (.invokevirtual 171, 3) := by decide +kernel
theorem dX11_atom1_161 : decode cX11_atom1 161 = .ok (.iload_n 1, 1) := by decide +kernel
theorem dX11_atom1_162 : decode cX11_atom1 162 = .ok (.ireturn, 1) := by decide +kernel
theorem dX11_term1_0 : decode cX11_term1 0 = .ok (.aload_n 0, 1) := by decide +kernel
theorem dX11_term1_1 : decode cX11_term1 1 = .ok (.invokevirtual 286, 3) := by decide +kernel
theorem dX11_term1_4 : decode cX11_term1 4 = .ok (.istore_n 1, 1) := by decide +kernel
theorem dX11_term1_5 : decode cX11_term1 5 = .ok (.aload_n 0, 1) := by decide +kernel
theorem dX11_term1_6 : decode cX11_term1 6 = .ok (.bipush 42, 2) := by decide +kernel
theorem dX11_term1_8 : decode cX11_term1 8 = .ok (.invokevirtual 199, 3) := by decide +kernel
theorem dX11_term1_11 : decode cX11_term1 11 = .ok (.ifCond .eq 17, 3) := by decide +kernel
theorem dX11_term1_14 : decode cX11_term1 14 = .ok (.aload_n 0, 1) := by decide +kernel
theorem dX11_term1_15 : decode cX11_term1 15 = .ok (.invokevirtual 174, 3) := by decide +kernel
theorem dX11_term1_18 : decode cX11_term1 18 = .ok (.iload_n 1, 1) := by decide +kernel
theorem dX11_term1_19 : decode cX11_term1 19 = .ok (.aload_n 0, 1) := by decide +kernel
theorem dX11_term1_20 : decode cX11_term1 20 = .ok (.invokevirtual 286, 3) := by decide +kernel
theorem dX11_term1_23 : decode cX11_term1 23 = .ok (.imul, 1) := by decide +kernel
theorem dX11_term1_24 : decode cX11_term1 24 = .ok (.istore_n 1, 1) := by decide +kernel
theorem dX11_term1_25 : decode cX11_term1 25 = .ok (.goto (-20), 3) := by decide +kernel
theorem dX11_term1_28 : decode cX11_term1 28 = .ok (.iload_n 1, 1) := by decide +kernel
theorem dX11_term1_29 : decode cX11_term1 29 = .ok (.ireturn, 1) := by decide +kernel
theorem dX11_added1_0 : decode cX11_added1 0 = .ok (.aload_n 0, 1) := by decide +kernel
theorem dX11_added1_1 : decode cX11_added1 1 = .ok (.invokevirtual 289, 3) := by decide +kernel
theorem dX11_added1_4 : decode cX11_added1 4 = .ok (.istore_n 1, 1) := by decide +kernel
theorem dX11_added1_5 : decode cX11_added1 5 = .ok (.aload_n 0, 1) := by decide +kernel
theorem dX11_added1_6 : decode cX11_added1 6 = .ok (.bipush 43, 2) := by decide +kernel
theorem dX11_added1_8 : decode cX11_added1 8 = .ok (.invokevirtual 199, 3) := by decide +kernel
theorem dX11_added1_11 : decode cX11_added1 11 = .ok (.ifCond .ne 12, 3) := by decide +kernel
theorem dX11_added1_14 : decode cX11_added1 14 = .ok (.aload_n 0, 1) := by decide +kernel
theorem dX11_added1_15 : decode cX11_added1 15 = .ok (.bipush 45, 2) := by decide +kernel
theorem dX11_added1_17 : decode cX11_added1 17 = .ok (.invokevirtual 199, 3) := by decide +kernel
theorem dX11_added1_20 : decode cX11_added1 20 = .ok (.ifCond .eq 46, 3) := by decide +kernel
theorem dX11_added1_23 : decode cX11_added1 23 = .ok (.aload_n 0, 1) := by decide +kernel
theorem dX11_added1_24 : decode cX11_added1 24 = .ok (.getfield 154, 3) := by decide +kernel
theorem dX11_added1_27 : decode cX11_added1 27 = .ok (.ldc2_w 216, 3) := by decide +kernel
theorem dX11_added1_30 : decode cX11_added1 30 = .ok (.lcmp, 1) := by decide +kernel
theorem dX11_added1_31 : decode cX11_added1 31 = .ok (.ifCond .ne 7, 3) := by decide +kernel
theorem dX11_added1_34 : decode cX11_added1 34 = .ok (.iconst 1, 1) := by decide +kernel
theorem dX11_added1_35 : decode cX11_added1 35 = .ok (.goto 4, 3) := by decide +kernel
theorem dX11_added1_38 : decode cX11_added1 38 = .ok (.iconst 0, 1) := by decide +kernel
theorem dX11_added1_39 : decode cX11_added1 39 = .ok (.istore_n 2, 1) := by decide +kernel
theorem dX11_added1_40 : decode cX11_added1 40 = .ok (.aload_n 0, 1) := by decide +kernel
theorem dX11_added1_41 : decode cX11_added1 41 = .ok (.invokevirtual 174, 3) := by decide +kernel
theorem dX11_added1_44 : decode cX11_added1 44 = .ok (.aload_n 0, 1) := by decide +kernel
theorem dX11_added1_45 : decode cX11_added1 45 = .ok (.invokevirtual 289, 3) := by decide +kernel
theorem dX11_added1_48 : decode cX11_added1 48 = .ok (.istore_n 3, 1) := by decide +kernel
theorem dX11_added1_49 : decode cX11_added1 49 = .ok (.iload_n 2, 1) := by decide +kernel
theorem dX11_added1_50 : decode cX11_added1 50 = .ok (.ifCond .eq 9, 3) := by decide +kernel
theorem dX11_added1_53 : decode cX11_added1 53 = .ok (.iload_n 1, 1) := by decide +kernel
theorem dX11_added1_54 : decode cX11_added1 54 = .ok (.iload_n 3, 1) := by decide +kernel
theorem dX11_added1_55 : decode cX11_added1 55 = .ok (.iadd, 1) := by decide +kernel
theorem dX11_added1_56 : decode cX11_added1 56 = .ok (.goto 6, 3) := by decide +kernel
theorem dX11_added1_59 : decode cX11_added1 59 = .ok (.iload_n 1, 1) := by decide +kernel
theorem dX11_added1_60 : decode cX11_added1 60 = .ok (.iload_n 3, 1) := by decide +kernel
theorem dX11_added1_61 : decode cX11_added1 61 = .ok (.isub, 1) := by decide +kernel
theorem dX11_added1_62 : decode cX11_added1 62 = .ok (.istore_n 1, 1) := by decide +kernel
theorem dX11_added1_63 : decode cX11_added1 63 = .ok (.goto (-58), 3) := by decide +kernel
theorem dX11_added1_66 : decode cX11_added1 66 = .ok (.iload_n 1, 1) := by decide +kernel
theorem dX11_added1_67 : decode cX11_added1 67 = .ok (.ireturn, 1) := by decide +kernel
theorem dX11_not1_0 : decode cX11_not1 0 = .ok (.aload_n 0, 1) := by decide +kernel
theorem dX11_not1_1 : decode cX11_not1 1 = .ok (.bipush 110, 2) := by decide +kernel
theorem dX11_not1_3 : decode cX11_not1 3 = .ok (.bipush 111, 2) := by decide +kernel
theorem dX11_not1_5 : decode cX11_not1 5 = .ok (.bipush 116, 2) := by decide +kernel
theorem dX11_not1_7 : decode cX11_not1 7 = .ok (.iconst 0, 1) := by decide +kernel
theorem dX11_not1_8 : decode cX11_not1 8 = .ok (.iconst 0, 1) := by decide +kernel
theorem dX11_not1_9 : decode cX11_not1 9 = .ok (.iconst 0, 1) := by decide +kernel
theorem dX11_not1_10 : decode cX11_not1 10 = .ok (.iconst 0, 1) := by decide +kernel
theorem dX11_not1_11 : decode cX11_not1 11 = .ok (.iconst 0, 1) := by decide +kernel
theorem dX11_not1_12 : decode cX11_not1 12 = .ok (.invokevirtual 177, 3) := by decide +kernel
theorem dX11_not1_15 : decode cX11_not1 15 = .ok (.ifCond .eq 37, 3) := by decide +kernel
theorem dX11_not1_18 : decode cX11_not1 18 = .ok (.aload_n 0, 1) := by decide +kernel
theorem dX11_not1_19 : decode cX11_not1 19 = .ok (.invokevirtual 202, 3) := by decide +kernel
theorem dX11_not1_22 : decode cX11_not1 22 = .ok (.ifCond .ne 5, 3) := by decide +kernel
theorem dX11_not1_25 : decode cX11_not1 25 = .ok (.iconst 0, 1) := by decide +kernel
theorem dX11_not1_26 : decode cX11_not1 26 = .ok (.ireturn, 1) := by decide +kernel
theorem dX11_not1_27 : decode cX11_not1 27 = .ok (.aload_n 0, 1) := by decide +kernel
theorem dX11_not1_28 : decode cX11_not1 28 = .ok (.invokevirtual 277, 3) := by decide +kernel
theorem dX11_not1_31 : decode cX11_not1 31 = .ok (.istore_n 1, 1) := by decide +kernel
theorem dX11_not1_32 : decode cX11_not1 32 = .ok (.aload_n 0, 1) := by decide +kernel
theorem dX11_not1_33 : decode cX11_not1 33 = .ok (.dup, 1) := by decide +kernel
theorem dX11_not1_34 : decode cX11_not1 34 = .ok (.getfield 168, 3) := by decide +kernel
theorem dX11_not1_37 : decode cX11_not1 37 = .ok (.iconst 1, 1) := by decide +kernel
theorem dX11_not1_38 : decode cX11_not1 38 = .ok (.isub, 1) := by decide +kernel
theorem dX11_not1_39 : decode cX11_not1 39 = .ok (.putfield 168, 3) := by decide +kernel
theorem dX11_not1_42 : decode cX11_not1 42 = .ok (.iload_n 1, 1) := by decide +kernel
theorem dX11_not1_43 : decode cX11_not1 43 = .ok (.ifCond .ne 7, 3) := by decide +kernel
theorem dX11_not1_46 : decode cX11_not1 46 = .ok (.iconst 1, 1) := by decide +kernel
theorem dX11_not1_47 : decode cX11_not1 47 = .ok (.goto 4, 3) := by decide +kernel
theorem dX11_not1_50 : decode cX11_not1 50 = .ok (.iconst 0, 1) := by decide +kernel
theorem dX11_not1_51 : decode cX11_not1 51 = .ok (.ireturn, 1) := by decide +kernel
theorem dX11_not1_52 : decode cX11_not1 52 = .ok (.aload_n 0, 1) := by decide +kernel
theorem dX11_not1_53 : decode cX11_not1 53 = .ok (.invokevirtual 292, 3) := by decide +kernel
theorem dX11_not1_56 : decode cX11_not1 56 = .ok (.istore_n 1, 1) := by decide +kernel
theorem dX11_not1_57 : decode cX11_not1 57 = .ok (.aload_n 0, 1) := by decide +kernel
theorem dX11_not1_58 : decode cX11_not1 58 = .ok (.bipush 60, 2) := by decide +kernel
theorem dX11_not1_60 : decode cX11_not1 60 = .ok (.invokevirtual 199, 3) := by decide +kernel
theorem dX11_not1_63 : decode cX11_not1 63 = .ok (.ifCond .ne 14, 3) := by decide +kernel
theorem dX11_not1_66 : decode cX11_not1 66 = .ok (.aload_n 0, 1) := by decide +kernel
theorem dX11_not1_67 : decode cX11_not1 67 = .ok (.bipush 61, 2) := by decide +kernel
theorem dX11_not1_69 : decode cX11_not1 69 = .ok (.invokevirtual 199, 3) := by decide +kernel
theorem dX11_not1_72 : decode cX11_not1 72 = .ok (.ifCond .ne 5, 3) := by decide +kernel
theorem dX11_not1_75 : decode cX11_not1 75 = .ok (.iload_n 1, 1) := by decide +kernel
theorem dX11_not1_76 : decode cX11_not1 76 = .ok (.ireturn, 1) := by decide +kernel
theorem dX11_not1_77 : decode cX11_not1 77 = .ok (.aload_n 0, 1) := by decide +kernel
theorem dX11_not1_78 : decode cX11_not1 78 = .ok (.getfield 154, 3) := by decide +kernel
theorem dX11_not1_81 : decode cX11_not1 81 = .ok (.ldc2_w 221, 3) := by decide +kernel
theorem dX11_not1_84 : decode cX11_not1 84 = .ok (.lcmp, 1) := by decide +kernel
theorem dX11_not1_85 : decode cX11_not1 85 = .ok (.ifCond .ne 7, 3) := by decide +kernel
theorem dX11_not1_88 : decode cX11_not1 88 = .ok (.iconst 1, 1) := by decide +kernel
theorem dX11_not1_89 : decode cX11_not1 89 = .ok (.goto 4, 3) := by decide +kernel
theorem dX11_not1_92 : decode cX11_not1 92 = .ok (.iconst 0, 1) := by decide +kernel
theorem dX11_not1_93 : decode cX11_not1 93 = .ok (.istore_n 2, 1) := by decide +kernel
theorem dX11_not1_94 : decode cX11_not1 94 = .ok (.aload_n 0, 1) := by decide +kernel
theorem dX11_not1_95 : decode cX11_not1 95 = .ok (.invokevirtual 174, 3) := by decide +kernel
theorem dX11_not1_98 : decode cX11_not1 98 = .ok (.aload_n 0, 1) := by decide +kernel
theorem dX11_not1_99 : decode cX11_not1 99 = .ok (.invokevirtual 292, 3) := by decide +kernel
theorem dX11_not1_102 : decode cX11_not1 102 = .ok (.istore_n 3, 1) := by decide +kernel
theorem dX11_not1_103 : decode cX11_not1 103 = .ok (.iload_n 2, 1) := by decide +kernel
theorem dX11_not1_104 : decode cX11_not1 104 = .ok (.ifCond .eq 11, 3) := by decide +kernel
theorem dX11_not1_107 : decode cX11_not1 107 = .ok (.iload_n 1, 1) := by decide +kernel
theorem dX11_not1_108 : decode cX11_not1 108 = .ok (.iload_n 3, 1) := by decide +kernel
theorem dX11_not1_109 : decode cX11_not1 109 = .ok (.if_icmp .ge 15, 3) := by decide +kernel
theorem dX11_not1_112 : decode cX11_not1 112 = .ok (.goto 8, 3) := by decide +kernel
theorem dX11_not1_115 : decode cX11_not1 115 = .ok (.iload_n 1, 1) := by decide +kernel
theorem dX11_not1_116 : decode cX11_not1 116 = .ok (.iload_n 3, 1) := by decide +kernel
theorem dX11_not1_117 : decode cX11_not1 117 = .ok (.if_icmp .ne 7, 3) := by decide +kernel
theorem dX11_not1_120 : decode cX11_not1 120 = .ok (.iconst 1, 1) := by decide +kernel
theorem dX11_not1_121 : decode cX11_not1 121 = .ok (.goto 4, 3) := by decide +kernel
theorem dX11_not1_124 : decode cX11_not1 124 = .ok (.iconst 0, 1) := by decide +kernel
theorem dX11_not1_125 : decode cX11_not1 125 = .ok (.ireturn, 1) := by decide +kernel
theorem dX11_both1_0 : decode cX11_both1 0 = .ok (.aload_n 0, 1) := by decide +kernel
theorem dX11_both1_1 : decode cX11_both1 1 = .ok (.invokevirtual 295, 3) := by decide +kernel
theorem dX11_both1_4 : decode cX11_both1 4 = .ok (.istore_n 1, 1) := by decide +kernel
theorem dX11_both1_5 : decode cX11_both1 5 = .ok (.aload_n 0, 1) := by decide +kernel
theorem dX11_both1_6 : decode cX11_both1 6 = .ok (.bipush 97, 2) := by decide +kernel
theorem dX11_both1_8 : decode cX11_both1 8 = .ok (.bipush 110, 2) := by decide +kernel
theorem dX11_both1_10 : decode cX11_both1 10 = .ok (.bipush 100, 2) := by decide +kernel
theorem dX11_both1_12 : decode cX11_both1 12 = .ok (.iconst 0, 1) := by decide +kernel
theorem dX11_both1_13 : decode cX11_both1 13 = .ok (.iconst 0, 1) := by decide +kernel
theorem dX11_both1_14 : decode cX11_both1 14 = .ok (.iconst 0, 1) := by decide +kernel
theorem dX11_both1_15 : decode cX11_both1 15 = .ok (.iconst 0, 1) := by decide +kernel
theorem dX11_both1_16 : decode cX11_both1 16 = .ok (.iconst 0, 1) := by decide +kernel
theorem dX11_both1_17 : decode cX11_both1 17 = .ok (.invokevirtual 177, 3) := by decide +kernel
theorem dX11_both1_20 : decode cX11_both1 20 = .ok (.ifCond .eq 29, 3) := by decide +kernel
theorem dX11_both1_23 : decode cX11_both1 23 = .ok (.aload_n 0, 1) := by decide +kernel
theorem dX11_both1_24 : decode cX11_both1 24 = .ok (.invokevirtual 174, 3) := by decide +kernel
theorem dX11_both1_27 : decode cX11_both1 27 = .ok (.aload_n 0, 1) := by decide +kernel
theorem dX11_both1_28 : decode cX11_both1 28 = .ok (.invokevirtual 295, 3) := by decide +kernel
theorem dX11_both1_31 : decode cX11_both1 31 = .ok (.istore_n 2, 1) := by decide +kernel
theorem dX11_both1_32 : decode cX11_both1 32 = .ok (.iload_n 1, 1) := by decide +kernel
theorem dX11_both1_33 : decode cX11_both1 33 = .ok (.ifCond .eq 11, 3) := by decide +kernel
theorem dX11_both1_36 : decode cX11_both1 36 = .ok (.iload_n 2, 1) := by decide +kernel
theorem dX11_both1_37 : decode cX11_both1 37 = .ok (.ifCond .eq 7, 3) := by decide +kernel
theorem dX11_both1_40 : decode cX11_both1 40 = .ok (.iconst 1, 1) := by decide +kernel
theorem dX11_both1_41 : decode cX11_both1 41 = .ok (.goto 4, 3) := by decide +kernel
theorem dX11_both1_44 : decode cX11_both1 44 = .ok (.iconst 0, 1) := by decide +kernel
theorem dX11_both1_45 : decode cX11_both1 45 = .ok (.istore_n 1, 1) := by decide +kernel
theorem dX11_both1_46 : decode cX11_both1 46 = .ok (.goto (-41), 3) := by decide +kernel
theorem dX11_both1_49 : decode cX11_both1 49 = .ok (.iload_n 1, 1) := by decide +kernel
theorem dX11_both1_50 : decode cX11_both1 50 = .ok (.ireturn, 1) := by decide +kernel
theorem dX11_either1_0 : decode cX11_either1 0 = .ok (.aload_n 0, 1) := by decide +kernel
theorem dX11_either1_1 : decode cX11_either1 1 = .ok (.invokevirtual 298, 3) := by decide +kernel
theorem dX11_either1_4 : decode cX11_either1 4 = .ok (.istore_n 1, 1) := by decide +kernel
theorem dX11_either1_5 : decode cX11_either1 5 = .ok (.aload_n 0, 1) := by decide +kernel
theorem dX11_either1_6 : decode cX11_either1 6 = .ok (.bipush 111, 2) := by decide +kernel
theorem dX11_either1_8 : decode cX11_either1 8 = .ok (.bipush 114, 2) := by decide +kernel
theorem dX11_either1_10 : decode cX11_either1 10 = .ok (.iconst 0, 1) := by decide +kernel
theorem dX11_either1_11 : decode cX11_either1 11 = .ok (.iconst 0, 1) := by decide +kernel
theorem dX11_either1_12 : decode cX11_either1 12 = .ok (.iconst 0, 1) := by decide +kernel
theorem dX11_either1_13 : decode cX11_either1 13 = .ok (.iconst 0, 1) := by decide +kernel
theorem dX11_either1_14 : decode cX11_either1 14 = .ok (.iconst 0, 1) := by decide +kernel
theorem dX11_either1_15 : decode cX11_either1 15 = .ok (.iconst 0, 1) := by decide +kernel
theorem dX11_either1_16 : decode cX11_either1 16 = .ok (.invokevirtual 177, 3) := by decide +kernel
theorem dX11_either1_19 : decode cX11_either1 19 = .ok (.ifCond .eq 29, 3) := by decide +kernel
theorem dX11_either1_22 : decode cX11_either1 22 = .ok (.aload_n 0, 1) := by decide +kernel
theorem dX11_either1_23 : decode cX11_either1 23 = .ok (.invokevirtual 174, 3) := by decide +kernel
theorem dX11_either1_26 : decode cX11_either1 26 = .ok (.aload_n 0, 1) := by decide +kernel
theorem dX11_either1_27 : decode cX11_either1 27 = .ok (.invokevirtual 298, 3) := by decide +kernel
theorem dX11_either1_30 : decode cX11_either1 30 = .ok (.istore_n 2, 1) := by decide +kernel
theorem dX11_either1_31 : decode cX11_either1 31 = .ok (.iload_n 1, 1) := by decide +kernel
theorem dX11_either1_32 : decode cX11_either1 32 = .ok (.ifCond .ne 7, 3) := by decide +kernel
theorem dX11_either1_35 : decode cX11_either1 35 = .ok (.iload_n 2, 1) := by decide +kernel
theorem dX11_either1_36 : decode cX11_either1 36 = .ok (.ifCond .eq 7, 3) := by decide +kernel
theorem dX11_either1_39 : decode cX11_either1 39 = .ok (.iconst 1, 1) := by decide +kernel
theorem dX11_either1_40 : decode cX11_either1 40 = .ok (.goto 4, 3) := by decide +kernel
theorem dX11_either1_43 : decode cX11_either1 43 = .ok (.iconst 0, 1) := by decide +kernel
theorem dX11_either1_44 : decode cX11_either1 44 = .ok (.istore_n 1, 1) := by decide +kernel
theorem dX11_either1_45 : decode cX11_either1 45 = .ok (.goto (-40), 3) := by decide +kernel
theorem dX11_either1_48 : decode cX11_either1 48 = .ok (.iload_n 1, 1) := by decide +kernel
theorem dX11_either1_49 : decode cX11_either1 49 = .ok (.ireturn, 1) := by decide +kernel
theorem dX11_atom0_0 : decode cX11_atom0 0 = .ok (.iconst 0, 1) := by decide +kernel
theorem dX11_atom0_1 : decode cX11_atom0 1 = .ok (.istore_n 1, 1) := by decide +kernel
theorem dX11_atom0_2 : decode cX11_atom0 2 = .ok (.aload_n 0, 1) := by decide +kernel
theorem dX11_atom0_3 : decode cX11_atom0 3 = .ok (.bipush 45, 2) := by decide +kernel
theorem dX11_atom0_5 : decode cX11_atom0 5 = .ok (.invokevirtual 199, 3) := by decide +kernel
theorem dX11_atom0_8 : decode cX11_atom0 8 = .ok (.ifCond .eq 29, 3) := by decide +kernel
theorem dX11_atom0_11 : decode cX11_atom0 11 = .ok (.aload_n 0, 1) := by decide +kernel
theorem dX11_atom0_12 : decode cX11_atom0 12 = .ok (.invokevirtual 202, 3) := by decide +kernel
theorem dX11_atom0_15 : decode cX11_atom0 15 = .ok (.ifCond .eq 146, 3) := by decide +kernel
theorem dX11_atom0_18 : decode cX11_atom0 18 = .ok (.aload_n 0, 1) := by decide +kernel
theorem dX11_atom0_19 : decode cX11_atom0 19 = .ok (.invokevirtual 286, 3) := by decide +kernel
theorem dX11_atom0_22 : decode cX11_atom0 22 = .ok (.ineg, 1) := by decide +kernel
theorem dX11_atom0_23 : decode cX11_atom0 23 = .ok (.istore_n 1, 1) := by decide +kernel
theorem dX11_atom0_24 : decode cX11_atom0 24 = .ok (.aload_n 0, 1) := by decide +kernel
theorem dX11_atom0_25 : decode cX11_atom0 25 = .ok (.dup, 1) := by decide +kernel
theorem dX11_atom0_26 : decode cX11_atom0 26 = .ok (.getfield 168, 3) := by decide +kernel
theorem dX11_atom0_29 : decode cX11_atom0 29 = .ok (.iconst 1, 1) := by decide +kernel
theorem dX11_atom0_30 : decode cX11_atom0 30 = .ok (.isub, 1) := by decide +kernel
theorem dX11_atom0_31 : decode cX11_atom0 31 = .ok (.putfield 168, 3) := by decide +kernel
theorem dX11_atom0_34 : decode cX11_atom0 34 = .ok (.goto 127, 3) := by decide +kernel
theorem dX11_atom0_37 : decode cX11_atom0 37 = .ok (.aload_n 0, 1) := by decide +kernel
theorem dX11_atom0_38 : decode cX11_atom0 38 = .ok (.bipush 40, 2) := by decide +kernel
theorem dX11_atom0_40 : decode cX11_atom0 40 = .ok (.invokevirtual 199, 3) := by decide +kernel
theorem dX11_atom0_43 : decode cX11_atom0 43 = .ok (.ifCond .eq 52, 3) := by decide +kernel
theorem dX11_atom0_46 : decode cX11_atom0 46 = .ok (.aload_n 0, 1) := by decide +kernel
theorem dX11_atom0_47 : decode cX11_atom0 47 = .ok (.invokevirtual 202, 3) := by decide +kernel
theorem dX11_atom0_50 : decode cX11_atom0 50 = .ok (.ifCond .eq 111, 3) := by decide +kernel
theorem dX11_atom0_53 : decode cX11_atom0 53 = .ok (.aload_n 0, 1) := by decide +kernel
theorem dX11_atom0_54 : decode cX11_atom0 54 = .ok (.invokevirtual 301, 3) := by decide +kernel
theorem dX11_atom0_57 : decode cX11_atom0 57 = .ok (.istore_n 1, 1) := by decide +kernel
theorem dX11_atom0_58 : decode cX11_atom0 58 = .ok (.aload_n 0, 1) := by decide +kernel
theorem dX11_atom0_59 : decode cX11_atom0 59 = .ok (.bipush 41, 2) := by decide +kernel
theorem dX11_atom0_61 : decode cX11_atom0 61 = .ok (.invokevirtual 199, 3) := by decide +kernel
theorem dX11_atom0_64 : decode cX11_atom0 64 = .ok (.ifCond .ne 7, 3) := by decide +kernel
theorem dX11_atom0_67 : decode cX11_atom0 67 = .ok (.aload_n 0, 1) := by decide +kernel
theorem dX11_atom0_68 : decode cX11_atom0 68 = .ok (.invokevirtual 171, 3) := by decide +kernel
theorem dX11_atom0_71 : decode cX11_atom0 71 = .ok (.aload_n 0, 1) := by decide +kernel
theorem dX11_atom0_72 : decode cX11_atom0 72 = .ok (.dup, 1) := by decide +kernel
theorem dX11_atom0_73 : decode cX11_atom0 73 = .ok (.getfield 168, 3) := by decide +kernel
theorem dX11_atom0_76 : decode cX11_atom0 76 = .ok (.iconst 1, 1) := by decide +kernel
theorem dX11_atom0_77 : decode cX11_atom0 77 = .ok (.isub, 1) := by decide +kernel
theorem dX11_atom0_78 : decode cX11_atom0 78 = .ok (.putfield 168, 3) := by decide +kernel
theorem dX11_atom0_81 : decode cX11_atom0 81 = .ok (.aload_n 0, 1) := by decide +kernel
theorem dX11_atom0_82 : decode cX11_atom0 82 = .ok (.getfield 158, 3) := by decide +kernel
theorem dX11_atom0_85 : decode cX11_atom0 85 = .ok (.ifCond .ne 76, 3) := by decide +kernel
theorem dX11_atom0_88 : decode cX11_atom0 88 = .ok (.aload_n 0, 1) := by decide +kernel
theorem dX11_atom0_89 : decode cX11_atom0 89 = .ok (.invokevirtual 174, 3) := by decide +kernel
theorem dX11_atom0_92 : decode cX11_atom0 92 = .ok (.goto 69, 3) := by decide +kernel
theorem dX11_atom0_95 : decode cX11_atom0 95 = .ok (.aload_n 0, 1) := by decide +kernel
theorem dX11_atom0_96 : decode cX11_atom0 96 = .ok (.getfield 158, 3) := by decide +kernel
theorem dX11_atom0_99 : decode cX11_atom0 99 = .ok (.ifCond .ne 24, 3) := by decide +kernel
theorem dX11_atom0_102 : decode cX11_atom0 102 = .ok (.aload_n 0, 1) := by decide +kernel
theorem dX11_atom0_103 : decode cX11_atom0 103 = .ok (.getfield 143, 3) := by decide +kernel
theorem dX11_atom0_106 : decode cX11_atom0 106 = .ok (.iconst 2, 1) := by decide +kernel
theorem dX11_atom0_107 : decode cX11_atom0 107 = .ok (.if_icmp .ne 16, 3) := by decide +kernel
theorem dX11_atom0_110 : decode cX11_atom0 110 = .ok (.aload_n 0, 1) := by decide +kernel
theorem dX11_atom0_111 : decode cX11_atom0 111 = .ok (.getfield 154, 3) := by decide +kernel
theorem dX11_atom0_114 : decode cX11_atom0 114 = .ok (.l2i, 1) := by decide +kernel
theorem dX11_atom0_115 : decode cX11_atom0 115 = .ok (.istore_n 1, 1) := by decide +kernel
theorem dX11_atom0_116 : decode cX11_atom0 116 = .ok (.aload_n 0, 1) := by decide +kernel
theorem dX11_atom0_117 : decode cX11_atom0 117 = .ok (.invokevirtual 174, 3) := by decide +kernel
theorem dX11_atom0_120 : decode cX11_atom0 120 = .ok (.goto 41, 3) := by decide +kernel
theorem dX11_atom0_123 : decode cX11_atom0 123 = .ok (.aload_n 0, 1) := by decide +kernel
theorem dX11_atom0_124 : decode cX11_atom0 124 = .ok (.getfield 158, 3) := by decide +kernel
theorem dX11_atom0_127 : decode cX11_atom0 127 = .ok (.ifCond .ne 30, 3) := by decide +kernel
theorem dX11_atom0_130 : decode cX11_atom0 130 = .ok (.aload_n 0, 1) := by decide +kernel
theorem dX11_atom0_131 : decode cX11_atom0 131 = .ok (.getfield 143, 3) := by decide +kernel
theorem dX11_atom0_134 : decode cX11_atom0 134 = .ok (.iconst 1, 1) := by decide +kernel
theorem dX11_atom0_135 : decode cX11_atom0 135 = .ok (.if_icmp .ne 22, 3) := by decide +kernel
theorem dX11_atom0_138 : decode cX11_atom0 138 = .ok (.aload_n 0, 1) := by decide +kernel
theorem dX11_atom0_139 : decode cX11_atom0 139 = .ok (.invokevirtual 206, 3) := by decide +kernel
theorem dX11_atom0_142 : decode cX11_atom0 142 = .ok (.istore_n 1, 1) := by decide +kernel
theorem dX11_atom0_143 : decode cX11_atom0 143 = .ok (.aload_n 0, 1) := by decide +kernel
theorem dX11_atom0_144 : decode cX11_atom0 144 = .ok (.getfield 158, 3) := by decide +kernel
theorem dX11_atom0_147 : decode cX11_atom0 147 = .ok (.ifCond .ne 14, 3) := by decide +kernel
theorem dX11_atom0_150 : decode cX11_atom0 150 = .ok (.aload_n 0, 1) := by decide +kernel
theorem dX11_atom0_151 : decode cX11_atom0 151 = .ok (.invokevirtual 174, 3) := by decide +kernel
theorem dX11_atom0_154 : decode cX11_atom0 154 = .ok (.goto 7, 3) := by decide +kernel
theorem dX11_atom0_157 : decode cX11_atom0 157 = .ok (.aload_n 0, 1) := by decide +kernel
theorem dX11_atom0_158 : decode cX11_atom0 158 = .ok (.invokevirtual 171, 3) := by decide +kernel
theorem dX11_atom0_161 : decode cX11_atom0 161 = .ok (.iload_n 1, 1) := by decide +kernel
theorem dX11_atom0_162 : decode cX11_atom0 162 = .ok (.ireturn, 1) := by decide +kernel
theorem dX11_term0_0 : decode cX11_term0 0 = .ok (.aload_n 0, 1) := by decide +kernel
theorem dX11_term0_1 : decode cX11_term0 1 = .ok (.invokevirtual 304, 3) := by decide +kernel
theorem dX11_term0_4 : decode cX11_term0 4 = .ok (.istore_n 1, 1) := by decide +kernel
theorem dX11_term0_5 : decode cX11_term0 5 = .ok (.aload_n 0, 1) := by decide +kernel
theorem dX11_term0_6 : decode cX11_term0 6 = .ok (.bipush 42, 2) := by decide +kernel
theorem dX11_term0_8 : decode cX11_term0 8 = .ok (.invokevirtual 199, 3) := by decide +kernel
theorem dX11_term0_11 : decode cX11_term0 11 = .ok (.ifCond .eq 17, 3) := by decide +kernel
theorem dX11_term0_14 : decode cX11_term0 14 = .ok (.aload_n 0, 1) := by decide +kernel
theorem dX11_term0_15 : decode cX11_term0 15 = .ok (.invokevirtual 174, 3) := by decide +kernel
theorem dX11_term0_18 : decode cX11_term0 18 = .ok (.iload_n 1, 1) := by decide +kernel
theorem dX11_term0_19 : decode cX11_term0 19 = .ok (.aload_n 0, 1) := by decide +kernel
theorem dX11_term0_20 : decode cX11_term0 20 = .ok (.invokevirtual 304, 3) := by decide +kernel
theorem dX11_term0_23 : decode cX11_term0 23 = .ok (.imul, 1) := by decide +kernel
theorem dX11_term0_24 : decode cX11_term0 24 = .ok (.istore_n 1, 1) := by decide +kernel
theorem dX11_term0_25 : decode cX11_term0 25 = .ok (.goto (-20), 3) := by decide +kernel
theorem dX11_term0_28 : decode cX11_term0 28 = .ok (.iload_n 1, 1) := by decide +kernel
theorem dX11_term0_29 : decode cX11_term0 29 = .ok (.ireturn, 1) := by decide +kernel
theorem dX11_added0_0 : decode cX11_added0 0 = .ok (.aload_n 0, 1) := by decide +kernel
theorem dX11_added0_1 : decode cX11_added0 1 = .ok (.invokevirtual 307, 3) := by decide +kernel
theorem dX11_added0_4 : decode cX11_added0 4 = .ok (.istore_n 1, 1) := by decide +kernel
theorem dX11_added0_5 : decode cX11_added0 5 = .ok (.aload_n 0, 1) := by decide +kernel
theorem dX11_added0_6 : decode cX11_added0 6 = .ok (.bipush 43, 2) := by decide +kernel
theorem dX11_added0_8 : decode cX11_added0 8 = .ok (.invokevirtual 199, 3) := by decide +kernel
theorem dX11_added0_11 : decode cX11_added0 11 = .ok (.ifCond .ne 12, 3) := by decide +kernel
theorem dX11_added0_14 : decode cX11_added0 14 = .ok (.aload_n 0, 1) := by decide +kernel
theorem dX11_added0_15 : decode cX11_added0 15 = .ok (.bipush 45, 2) := by decide +kernel
theorem dX11_added0_17 : decode cX11_added0 17 = .ok (.invokevirtual 199, 3) := by decide +kernel
theorem dX11_added0_20 : decode cX11_added0 20 = .ok (.ifCond .eq 46, 3) := by decide +kernel
theorem dX11_added0_23 : decode cX11_added0 23 = .ok (.aload_n 0, 1) := by decide +kernel
theorem dX11_added0_24 : decode cX11_added0 24 = .ok (.getfield 154, 3) := by decide +kernel
theorem dX11_added0_27 : decode cX11_added0 27 = .ok (.ldc2_w 216, 3) := by decide +kernel
theorem dX11_added0_30 : decode cX11_added0 30 = .ok (.lcmp, 1) := by decide +kernel
theorem dX11_added0_31 : decode cX11_added0 31 = .ok (.ifCond .ne 7, 3) := by decide +kernel
theorem dX11_added0_34 : decode cX11_added0 34 = .ok (.iconst 1, 1) := by decide +kernel
theorem dX11_added0_35 : decode cX11_added0 35 = .ok (.goto 4, 3) := by decide +kernel
theorem dX11_added0_38 : decode cX11_added0 38 = .ok (.iconst 0, 1) := by decide +kernel
theorem dX11_added0_39 : decode cX11_added0 39 = .ok (.istore_n 2, 1) := by decide +kernel
theorem dX11_added0_40 : decode cX11_added0 40 = .ok (.aload_n 0, 1) := by decide +kernel
theorem dX11_added0_41 : decode cX11_added0 41 = .ok (.invokevirtual 174, 3) := by decide +kernel
theorem dX11_added0_44 : decode cX11_added0 44 = .ok (.aload_n 0, 1) := by decide +kernel
theorem dX11_added0_45 : decode cX11_added0 45 = .ok (.invokevirtual 307, 3) := by decide +kernel
theorem dX11_added0_48 : decode cX11_added0 48 = .ok (.istore_n 3, 1) := by decide +kernel
theorem dX11_added0_49 : decode cX11_added0 49 = .ok (.iload_n 2, 1) := by decide +kernel
theorem dX11_added0_50 : decode cX11_added0 50 = .ok (.ifCond .eq 9, 3) := by decide +kernel
theorem dX11_added0_53 : decode cX11_added0 53 = .ok (.iload_n 1, 1) := by decide +kernel
theorem dX11_added0_54 : decode cX11_added0 54 = .ok (.iload_n 3, 1) := by decide +kernel
theorem dX11_added0_55 : decode cX11_added0 55 = .ok (.iadd, 1) := by decide +kernel
theorem dX11_added0_56 : decode cX11_added0 56 = .ok (.goto 6, 3) := by decide +kernel
theorem dX11_added0_59 : decode cX11_added0 59 = .ok (.iload_n 1, 1) := by decide +kernel
theorem dX11_added0_60 : decode cX11_added0 60 = .ok (.iload_n 3, 1) := by decide +kernel
theorem dX11_added0_61 : decode cX11_added0 61 = .ok (.isub, 1) := by decide +kernel
theorem dX11_added0_62 : decode cX11_added0 62 = .ok (.istore_n 1, 1) := by decide +kernel
theorem dX11_added0_63 : decode cX11_added0 63 = .ok (.goto (-58), 3) := by decide +kernel
theorem dX11_added0_66 : decode cX11_added0 66 = .ok (.iload_n 1, 1) := by decide +kernel
theorem dX11_added0_67 : decode cX11_added0 67 = .ok (.ireturn, 1) := by decide +kernel
theorem dX11_not0_0 : decode cX11_not0 0 = .ok (.aload_n 0, 1) := by decide +kernel
theorem dX11_not0_1 : decode cX11_not0 1 = .ok (.bipush 110, 2) := by decide +kernel
theorem dX11_not0_3 : decode cX11_not0 3 = .ok (.bipush 111, 2) := by decide +kernel
theorem dX11_not0_5 : decode cX11_not0 5 = .ok (.bipush 116, 2) := by decide +kernel
theorem dX11_not0_7 : decode cX11_not0 7 = .ok (.iconst 0, 1) := by decide +kernel
theorem dX11_not0_8 : decode cX11_not0 8 = .ok (.iconst 0, 1) := by decide +kernel
theorem dX11_not0_9 : decode cX11_not0 9 = .ok (.iconst 0, 1) := by decide +kernel
theorem dX11_not0_10 : decode cX11_not0 10 = .ok (.iconst 0, 1) := by decide +kernel
theorem dX11_not0_11 : decode cX11_not0 11 = .ok (.iconst 0, 1) := by decide +kernel
theorem dX11_not0_12 : decode cX11_not0 12 = .ok (.invokevirtual 177, 3) := by decide +kernel
theorem dX11_not0_15 : decode cX11_not0 15 = .ok (.ifCond .eq 37, 3) := by decide +kernel
theorem dX11_not0_18 : decode cX11_not0 18 = .ok (.aload_n 0, 1) := by decide +kernel
theorem dX11_not0_19 : decode cX11_not0 19 = .ok (.invokevirtual 202, 3) := by decide +kernel
theorem dX11_not0_22 : decode cX11_not0 22 = .ok (.ifCond .ne 5, 3) := by decide +kernel
theorem dX11_not0_25 : decode cX11_not0 25 = .ok (.iconst 0, 1) := by decide +kernel
theorem dX11_not0_26 : decode cX11_not0 26 = .ok (.ireturn, 1) := by decide +kernel
theorem dX11_not0_27 : decode cX11_not0 27 = .ok (.aload_n 0, 1) := by decide +kernel
theorem dX11_not0_28 : decode cX11_not0 28 = .ok (.invokevirtual 295, 3) := by decide +kernel
theorem dX11_not0_31 : decode cX11_not0 31 = .ok (.istore_n 1, 1) := by decide +kernel
theorem dX11_not0_32 : decode cX11_not0 32 = .ok (.aload_n 0, 1) := by decide +kernel
theorem dX11_not0_33 : decode cX11_not0 33 = .ok (.dup, 1) := by decide +kernel
theorem dX11_not0_34 : decode cX11_not0 34 = .ok (.getfield 168, 3) := by decide +kernel
theorem dX11_not0_37 : decode cX11_not0 37 = .ok (.iconst 1, 1) := by decide +kernel
theorem dX11_not0_38 : decode cX11_not0 38 = .ok (.isub, 1) := by decide +kernel
theorem dX11_not0_39 : decode cX11_not0 39 = .ok (.putfield 168, 3) := by decide +kernel
theorem dX11_not0_42 : decode cX11_not0 42 = .ok (.iload_n 1, 1) := by decide +kernel
theorem dX11_not0_43 : decode cX11_not0 43 = .ok (.ifCond .ne 7, 3) := by decide +kernel
theorem dX11_not0_46 : decode cX11_not0 46 = .ok (.iconst 1, 1) := by decide +kernel
theorem dX11_not0_47 : decode cX11_not0 47 = .ok (.goto 4, 3) := by decide +kernel
theorem dX11_not0_50 : decode cX11_not0 50 = .ok (.iconst 0, 1) := by decide +kernel
theorem dX11_not0_51 : decode cX11_not0 51 = .ok (.ireturn, 1) := by decide +kernel
theorem dX11_not0_52 : decode cX11_not0 52 = .ok (.aload_n 0, 1) := by decide +kernel
theorem dX11_not0_53 : decode cX11_not0 53 = .ok (.invokevirtual 310, 3) := by decide +kernel
theorem dX11_not0_56 : decode cX11_not0 56 = .ok (.istore_n 1, 1) := by decide +kernel
theorem dX11_not0_57 : decode cX11_not0 57 = .ok (.aload_n 0, 1) := by decide +kernel
theorem dX11_not0_58 : decode cX11_not0 58 = .ok (.bipush 60, 2) := by decide +kernel
theorem dX11_not0_60 : decode cX11_not0 60 = .ok (.invokevirtual 199, 3) := by decide +kernel
theorem dX11_not0_63 : decode cX11_not0 63 = .ok (.ifCond .ne 14, 3) := by decide +kernel
theorem dX11_not0_66 : decode cX11_not0 66 = .ok (.aload_n 0, 1) := by decide +kernel
theorem dX11_not0_67 : decode cX11_not0 67 = .ok (.bipush 61, 2) := by decide +kernel
theorem dX11_not0_69 : decode cX11_not0 69 = .ok (.invokevirtual 199, 3) := by decide +kernel
theorem dX11_not0_72 : decode cX11_not0 72 = .ok (.ifCond .ne 5, 3) := by decide +kernel
theorem dX11_not0_75 : decode cX11_not0 75 = .ok (.iload_n 1, 1) := by decide +kernel
theorem dX11_not0_76 : decode cX11_not0 76 = .ok (.ireturn, 1) := by decide +kernel
theorem dX11_not0_77 : decode cX11_not0 77 = .ok (.aload_n 0, 1) := by decide +kernel
theorem dX11_not0_78 : decode cX11_not0 78 = .ok (.getfield 154, 3) := by decide +kernel
theorem dX11_not0_81 : decode cX11_not0 81 = .ok (.ldc2_w 221, 3) := by decide +kernel
theorem dX11_not0_84 : decode cX11_not0 84 = .ok (.lcmp, 1) := by decide +kernel
theorem dX11_not0_85 : decode cX11_not0 85 = .ok (.ifCond .ne 7, 3) := by decide +kernel
theorem dX11_not0_88 : decode cX11_not0 88 = .ok (.iconst 1, 1) := by decide +kernel
theorem dX11_not0_89 : decode cX11_not0 89 = .ok (.goto 4, 3) := by decide +kernel
theorem dX11_not0_92 : decode cX11_not0 92 = .ok (.iconst 0, 1) := by decide +kernel
theorem dX11_not0_93 : decode cX11_not0 93 = .ok (.istore_n 2, 1) := by decide +kernel
theorem dX11_not0_94 : decode cX11_not0 94 = .ok (.aload_n 0, 1) := by decide +kernel
theorem dX11_not0_95 : decode cX11_not0 95 = .ok (.invokevirtual 174, 3) := by decide +kernel
theorem dX11_not0_98 : decode cX11_not0 98 = .ok (.aload_n 0, 1) := by decide +kernel
theorem dX11_not0_99 : decode cX11_not0 99 = .ok (.invokevirtual 310, 3) := by decide +kernel
theorem dX11_not0_102 : decode cX11_not0 102 = .ok (.istore_n 3, 1) := by decide +kernel
theorem dX11_not0_103 : decode cX11_not0 103 = .ok (.iload_n 2, 1) := by decide +kernel
theorem dX11_not0_104 : decode cX11_not0 104 = .ok (.ifCond .eq 11, 3) := by decide +kernel
theorem dX11_not0_107 : decode cX11_not0 107 = .ok (.iload_n 1, 1) := by decide +kernel
theorem dX11_not0_108 : decode cX11_not0 108 = .ok (.iload_n 3, 1) := by decide +kernel
theorem dX11_not0_109 : decode cX11_not0 109 = .ok (.if_icmp .ge 15, 3) := by decide +kernel
theorem dX11_not0_112 : decode cX11_not0 112 = .ok (.goto 8, 3) := by decide +kernel
theorem dX11_not0_115 : decode cX11_not0 115 = .ok (.iload_n 1, 1) := by decide +kernel
theorem dX11_not0_116 : decode cX11_not0 116 = .ok (.iload_n 3, 1) := by decide +kernel
theorem dX11_not0_117 : decode cX11_not0 117 = .ok (.if_icmp .ne 7, 3) := by decide +kernel
theorem dX11_not0_120 : decode cX11_not0 120 = .ok (.iconst 1, 1) := by decide +kernel
theorem dX11_not0_121 : decode cX11_not0 121 = .ok (.goto 4, 3) := by decide +kernel
theorem dX11_not0_124 : decode cX11_not0 124 = .ok (.iconst 0, 1) := by decide +kernel
theorem dX11_not0_125 : decode cX11_not0 125 = .ok (.ireturn, 1) := by decide +kernel
theorem dX11_both0_0 : decode cX11_both0 0 = .ok (.aload_n 0, 1) := by decide +kernel
theorem dX11_both0_1 : decode cX11_both0 1 = .ok (.invokevirtual 313, 3) := by decide +kernel
theorem dX11_both0_4 : decode cX11_both0 4 = .ok (.istore_n 1, 1) := by decide +kernel
theorem dX11_both0_5 : decode cX11_both0 5 = .ok (.aload_n 0, 1) := by decide +kernel
theorem dX11_both0_6 : decode cX11_both0 6 = .ok (.bipush 97, 2) := by decide +kernel
theorem dX11_both0_8 : decode cX11_both0 8 = .ok (.bipush 110, 2) := by decide +kernel
theorem dX11_both0_10 : decode cX11_both0 10 = .ok (.bipush 100, 2) := by decide +kernel
theorem dX11_both0_12 : decode cX11_both0 12 = .ok (.iconst 0, 1) := by decide +kernel
theorem dX11_both0_13 : decode cX11_both0 13 = .ok (.iconst 0, 1) := by decide +kernel
theorem dX11_both0_14 : decode cX11_both0 14 = .ok (.iconst 0, 1) := by decide +kernel
theorem dX11_both0_15 : decode cX11_both0 15 = .ok (.iconst 0, 1) := by decide +kernel
theorem dX11_both0_16 : decode cX11_both0 16 = .ok (.iconst 0, 1) := by decide +kernel
theorem dX11_both0_17 : decode cX11_both0 17 = .ok (.invokevirtual 177, 3) := by decide +kernel
theorem dX11_both0_20 : decode cX11_both0 20 = .ok (.ifCond .eq 29, 3) := by decide +kernel
theorem dX11_both0_23 : decode cX11_both0 23 = .ok (.aload_n 0, 1) := by decide +kernel
theorem dX11_both0_24 : decode cX11_both0 24 = .ok (.invokevirtual 174, 3) := by decide +kernel
theorem dX11_both0_27 : decode cX11_both0 27 = .ok (.aload_n 0, 1) := by decide +kernel
theorem dX11_both0_28 : decode cX11_both0 28 = .ok (.invokevirtual 313, 3) := by decide +kernel
theorem dX11_both0_31 : decode cX11_both0 31 = .ok (.istore_n 2, 1) := by decide +kernel
theorem dX11_both0_32 : decode cX11_both0 32 = .ok (.iload_n 1, 1) := by decide +kernel
theorem dX11_both0_33 : decode cX11_both0 33 = .ok (.ifCond .eq 11, 3) := by decide +kernel
theorem dX11_both0_36 : decode cX11_both0 36 = .ok (.iload_n 2, 1) := by decide +kernel
theorem dX11_both0_37 : decode cX11_both0 37 = .ok (.ifCond .eq 7, 3) := by decide +kernel
theorem dX11_both0_40 : decode cX11_both0 40 = .ok (.iconst 1, 1) := by decide +kernel
theorem dX11_both0_41 : decode cX11_both0 41 = .ok (.goto 4, 3) := by decide +kernel
theorem dX11_both0_44 : decode cX11_both0 44 = .ok (.iconst 0, 1) := by decide +kernel
theorem dX11_both0_45 : decode cX11_both0 45 = .ok (.istore_n 1, 1) := by decide +kernel
theorem dX11_both0_46 : decode cX11_both0 46 = .ok (.goto (-41), 3) := by decide +kernel
theorem dX11_both0_49 : decode cX11_both0 49 = .ok (.iload_n 1, 1) := by decide +kernel
theorem dX11_both0_50 : decode cX11_both0 50 = .ok (.ireturn, 1) := by decide +kernel
theorem dX11_either0_0 : decode cX11_either0 0 = .ok (.aload_n 0, 1) := by decide +kernel
theorem dX11_either0_1 : decode cX11_either0 1 = .ok (.invokevirtual 316, 3) := by decide +kernel
theorem dX11_either0_4 : decode cX11_either0 4 = .ok (.istore_n 1, 1) := by decide +kernel
theorem dX11_either0_5 : decode cX11_either0 5 = .ok (.aload_n 0, 1) := by decide +kernel
theorem dX11_either0_6 : decode cX11_either0 6 = .ok (.bipush 111, 2) := by decide +kernel
theorem dX11_either0_8 : decode cX11_either0 8 = .ok (.bipush 114, 2) := by decide +kernel
theorem dX11_either0_10 : decode cX11_either0 10 = .ok (.iconst 0, 1) := by decide +kernel
theorem dX11_either0_11 : decode cX11_either0 11 = .ok (.iconst 0, 1) := by decide +kernel
theorem dX11_either0_12 : decode cX11_either0 12 = .ok (.iconst 0, 1) := by decide +kernel
theorem dX11_either0_13 : decode cX11_either0 13 = .ok (.iconst 0, 1) := by decide +kernel
theorem dX11_either0_14 : decode cX11_either0 14 = .ok (.iconst 0, 1) := by decide +kernel
theorem dX11_either0_15 : decode cX11_either0 15 = .ok (.iconst 0, 1) := by decide +kernel
theorem dX11_either0_16 : decode cX11_either0 16 = .ok (.invokevirtual 177, 3) := by decide +kernel
theorem dX11_either0_19 : decode cX11_either0 19 = .ok (.ifCond .eq 29, 3) := by decide +kernel
theorem dX11_either0_22 : decode cX11_either0 22 = .ok (.aload_n 0, 1) := by decide +kernel
theorem dX11_either0_23 : decode cX11_either0 23 = .ok (.invokevirtual 174, 3) := by decide +kernel
theorem dX11_either0_26 : decode cX11_either0 26 = .ok (.aload_n 0, 1) := by decide +kernel
theorem dX11_either0_27 : decode cX11_either0 27 = .ok (.invokevirtual 316, 3) := by decide +kernel
theorem dX11_either0_30 : decode cX11_either0 30 = .ok (.istore_n 2, 1) := by decide +kernel
theorem dX11_either0_31 : decode cX11_either0 31 = .ok (.iload_n 1, 1) := by decide +kernel
theorem dX11_either0_32 : decode cX11_either0 32 = .ok (.ifCond .ne 7, 3) := by decide +kernel
theorem dX11_either0_35 : decode cX11_either0 35 = .ok (.iload_n 2, 1) := by decide +kernel
theorem dX11_either0_36 : decode cX11_either0 36 = .ok (.ifCond .eq 7, 3) := by decide +kernel
theorem dX11_either0_39 : decode cX11_either0 39 = .ok (.iconst 1, 1) := by decide +kernel
theorem dX11_either0_40 : decode cX11_either0 40 = .ok (.goto 4, 3) := by decide +kernel
theorem dX11_either0_43 : decode cX11_either0 43 = .ok (.iconst 0, 1) := by decide +kernel
theorem dX11_either0_44 : decode cX11_either0 44 = .ok (.istore_n 1, 1) := by decide +kernel
theorem dX11_either0_45 : decode cX11_either0 45 = .ok (.goto (-40), 3) := by decide +kernel
theorem dX11_either0_48 : decode cX11_either0 48 = .ok (.iload_n 1, 1) := by decide +kernel
theorem dX11_either0_49 : decode cX11_either0 49 = .ok (.ireturn, 1) := by decide +kernel
theorem dX11_part_0 : decode cX11_part 0 = .ok (.iload_n 1, 1) := by decide +kernel
theorem dX11_part_1 : decode cX11_part 1 = .ok (.ifCond .ne 7, 3) := by decide +kernel
theorem dX11_part_4 : decode cX11_part 4 = .ok (.aload_n 0, 1) := by decide +kernel
theorem dX11_part_5 : decode cX11_part 5 = .ok (.invokevirtual 171, 3) := by decide +kernel
theorem dX11_part_8 : decode cX11_part 8 = .ok (.aload_n 0, 1) := by decide +kernel
theorem dX11_part_9 : decode cX11_part 9 = .ok (.getfield 158, 3) := by decide +kernel
theorem dX11_part_12 : decode cX11_part 12 = .ok (.ifCond .ne 7, 3) := by decide +kernel
theorem dX11_part_15 : decode cX11_part 15 = .ok (.aload_n 0, 1) := by decide +kernel
theorem dX11_part_16 : decode cX11_part 16 = .ok (.invokevirtual 174, 3) := by decide +kernel
theorem dX11_part_19 : decode cX11_part 19 = .ok (.aload_n 0, 1) := by decide +kernel
theorem dX11_part_20 : decode cX11_part 20 = .ok (.getfield 158, 3) := by decide +kernel
theorem dX11_part_23 : decode cX11_part 23 = .ok (.ifCond .eq 7, 3) := by decide +kernel
theorem dX11_part_26 : decode cX11_part 26 = .ok (.iconst 0, 1) := by decide +kernel
theorem dX11_part_27 : decode cX11_part 27 = .ok (.goto 7, 3) := by decide +kernel
theorem dX11_part_30 : decode cX11_part 30 = .ok (.aload_n 0, 1) := by decide +kernel
theorem dX11_part_31 : decode cX11_part 31 = .ok (.invokevirtual 319, 3) := by decide +kernel
theorem dX11_part_34 : decode cX11_part 34 = .ok (.istore_n 2, 1) := by decide +kernel
theorem dX11_part_35 : decode cX11_part 35 = .ok (.aload_n 0, 1) := by decide +kernel
theorem dX11_part_36 : decode cX11_part 36 = .ok (.bipush 59, 2) := by decide +kernel
theorem dX11_part_38 : decode cX11_part 38 = .ok (.invokevirtual 199, 3) := by decide +kernel
theorem dX11_part_41 : decode cX11_part 41 = .ok (.ifCond .ne 7, 3) := by decide +kernel
theorem dX11_part_44 : decode cX11_part 44 = .ok (.aload_n 0, 1) := by decide +kernel
theorem dX11_part_45 : decode cX11_part 45 = .ok (.invokevirtual 171, 3) := by decide +kernel
theorem dX11_part_48 : decode cX11_part 48 = .ok (.aload_n 0, 1) := by decide +kernel
theorem dX11_part_49 : decode cX11_part 49 = .ok (.getfield 158, 3) := by decide +kernel
theorem dX11_part_52 : decode cX11_part 52 = .ok (.ifCond .ne 7, 3) := by decide +kernel
theorem dX11_part_55 : decode cX11_part 55 = .ok (.aload_n 0, 1) := by decide +kernel
theorem dX11_part_56 : decode cX11_part 56 = .ok (.invokevirtual 174, 3) := by decide +kernel
theorem dX11_part_59 : decode cX11_part 59 = .ok (.iload_n 2, 1) := by decide +kernel
theorem dX11_part_60 : decode cX11_part 60 = .ok (.ireturn, 1) := by decide +kernel
theorem dX11_read_0 : decode cX11_read 0 = .ok (.aload_n 0, 1) := by decide +kernel
theorem dX11_read_1 : decode cX11_read 1 = .ok (.sipush 160, 3) := by decide +kernel
theorem dX11_read_4 : decode cX11_read 4 = .ok (.iload_n 1, 1) := by decide +kernel
theorem dX11_read_5 : decode cX11_read 5 = .ok (.imul, 1) := by decide +kernel
theorem dX11_read_6 : decode cX11_read 6 = .ok (.putfield 131, 3) := by decide +kernel
theorem dX11_read_9 : decode cX11_read 9 = .ok (.aload_n 0, 1) := by decide +kernel
theorem dX11_read_10 : decode cX11_read 10 = .ok (.aload_n 0, 1) := by decide +kernel
theorem dX11_read_11 : decode cX11_read 11 = .ok (.getfield 17, 3) := by decide +kernel
theorem dX11_read_14 : decode cX11_read 14 = .ok (.iload_n 1, 1) := by decide +kernel
theorem dX11_read_15 : decode cX11_read 15 = .ok (.iaload, 1) := by decide +kernel
theorem dX11_read_16 : decode cX11_read 16 = .ok (.putfield 128, 3) := by decide +kernel
theorem dX11_read_19 : decode cX11_read 19 = .ok (.aload_n 0, 1) := by decide +kernel
theorem dX11_read_20 : decode cX11_read 20 = .ok (.iconst 0, 1) := by decide +kernel
theorem dX11_read_21 : decode cX11_read 21 = .ok (.putfield 134, 3) := by decide +kernel
theorem dX11_read_24 : decode cX11_read 24 = .ok (.aload_n 0, 1) := by decide +kernel
theorem dX11_read_25 : decode cX11_read 25 = .ok (.iconst 0, 1) := by decide +kernel
theorem dX11_read_26 : decode cX11_read 26 = .ok (.putfield 168, 3) := by decide +kernel
theorem dX11_read_29 : decode cX11_read 29 = .ok (.aload_n 0, 1) := by decide +kernel
theorem dX11_read_30 : decode cX11_read 30 = .ok (.iconst 0, 1) := by decide +kernel
theorem dX11_read_31 : decode cX11_read 31 = .ok (.putfield 158, 3) := by decide +kernel
theorem dX11_read_34 : decode cX11_read 34 = .ok (.aload_n 0, 1) := by decide +kernel
theorem dX11_read_35 : decode cX11_read 35 = .ok (.invokevirtual 174, 3) := by decide +kernel
theorem dX11_read_38 : decode cX11_read 38 = .ok (.aload_n 0, 1) := by decide +kernel
theorem dX11_read_39 : decode cX11_read 39 = .ok (.aload_n 0, 1) := by decide +kernel
theorem dX11_read_40 : decode cX11_read 40 = .ok (.bipush 103, 2) := by decide +kernel
theorem dX11_read_42 : decode cX11_read 42 = .ok (.bipush 111, 2) := by decide +kernel
theorem dX11_read_44 : decode cX11_read 44 = .ok (.bipush 101, 2) := by decide +kernel
theorem dX11_read_46 : decode cX11_read 46 = .ok (.bipush 115, 2) := by decide +kernel
theorem dX11_read_48 : decode cX11_read 48 = .ok (.iconst 0, 1) := by decide +kernel
theorem dX11_read_49 : decode cX11_read 49 = .ok (.iconst 0, 1) := by decide +kernel
theorem dX11_read_50 : decode cX11_read 50 = .ok (.iconst 0, 1) := by decide +kernel
theorem dX11_read_51 : decode cX11_read 51 = .ok (.iconst 0, 1) := by decide +kernel
theorem dX11_read_52 : decode cX11_read 52 = .ok (.invokevirtual 177, 3) := by decide +kernel
theorem dX11_read_55 : decode cX11_read 55 = .ok (.invokevirtual 322, 3) := by decide +kernel
theorem dX11_read_58 : decode cX11_read 58 = .ok (.istore_n 3, 1) := by decide +kernel
theorem dX11_read_59 : decode cX11_read 59 = .ok (.aload_n 0, 1) := by decide +kernel
theorem dX11_read_60 : decode cX11_read 60 = .ok (.getfield 158, 3) := by decide +kernel
theorem dX11_read_63 : decode cX11_read 63 = .ok (.ifCond .eq 7, 3) := by decide +kernel
theorem dX11_read_66 : decode cX11_read 66 = .ok (.iconst 0, 1) := by decide +kernel
theorem dX11_read_67 : decode cX11_read 67 = .ok (.goto 24, 3) := by decide +kernel
theorem dX11_read_70 : decode cX11_read 70 = .ok (.aload_n 0, 1) := by decide +kernel
theorem dX11_read_71 : decode cX11_read 71 = .ok (.aload_n 0, 1) := by decide +kernel
theorem dX11_read_72 : decode cX11_read 72 = .ok (.bipush 115, 2) := by decide +kernel
theorem dX11_read_74 : decode cX11_read 74 = .ok (.bipush 116, 2) := by decide +kernel
theorem dX11_read_76 : decode cX11_read 76 = .ok (.bipush 97, 2) := by decide +kernel
theorem dX11_read_78 : decode cX11_read 78 = .ok (.bipush 121, 2) := by decide +kernel
theorem dX11_read_80 : decode cX11_read 80 = .ok (.bipush 115, 2) := by decide +kernel
theorem dX11_read_82 : decode cX11_read 82 = .ok (.iconst 0, 1) := by decide +kernel
theorem dX11_read_83 : decode cX11_read 83 = .ok (.iconst 0, 1) := by decide +kernel
theorem dX11_read_84 : decode cX11_read 84 = .ok (.iconst 0, 1) := by decide +kernel
theorem dX11_read_85 : decode cX11_read 85 = .ok (.invokevirtual 177, 3) := by decide +kernel
theorem dX11_read_88 : decode cX11_read 88 = .ok (.invokevirtual 322, 3) := by decide +kernel
theorem dX11_read_91 : decode cX11_read 91 = .ok (.istore 4, 2) := by decide +kernel
theorem dX11_read_93 : decode cX11_read 93 = .ok (.aload_n 0, 1) := by decide +kernel
theorem dX11_read_94 : decode cX11_read 94 = .ok (.getfield 158, 3) := by decide +kernel
theorem dX11_read_97 : decode cX11_read 97 = .ok (.ifCond .eq 7, 3) := by decide +kernel
theorem dX11_read_100 : decode cX11_read 100 = .ok (.iconst 0, 1) := by decide +kernel
theorem dX11_read_101 : decode cX11_read 101 = .ok (.goto 23, 3) := by decide +kernel
theorem dX11_read_104 : decode cX11_read 104 = .ok (.aload_n 0, 1) := by decide +kernel
theorem dX11_read_105 : decode cX11_read 105 = .ok (.aload_n 0, 1) := by decide +kernel
theorem dX11_read_106 : decode cX11_read 106 = .ok (.bipush 115, 2) := by decide +kernel
theorem dX11_read_108 : decode cX11_read 108 = .ok (.bipush 101, 2) := by decide +kernel
theorem dX11_read_110 : decode cX11_read 110 = .ok (.bipush 101, 2) := by decide +kernel
theorem dX11_read_112 : decode cX11_read 112 = .ok (.bipush 115, 2) := by decide +kernel
theorem dX11_read_114 : decode cX11_read 114 = .ok (.iconst 0, 1) := by decide +kernel
theorem dX11_read_115 : decode cX11_read 115 = .ok (.iconst 0, 1) := by decide +kernel
theorem dX11_read_116 : decode cX11_read 116 = .ok (.iconst 0, 1) := by decide +kernel
theorem dX11_read_117 : decode cX11_read 117 = .ok (.iconst 0, 1) := by decide +kernel
theorem dX11_read_118 : decode cX11_read 118 = .ok (.invokevirtual 177, 3) := by decide +kernel
theorem dX11_read_121 : decode cX11_read 121 = .ok (.invokevirtual 322, 3) := by decide +kernel
theorem dX11_read_124 : decode cX11_read 124 = .ok (.istore 5, 2) := by decide +kernel
theorem dX11_read_126 : decode cX11_read 126 = .ok (.aload_n 0, 1) := by decide +kernel
theorem dX11_read_127 : decode cX11_read 127 = .ok (.getfield 158, 3) := by decide +kernel
theorem dX11_read_130 : decode cX11_read 130 = .ok (.ifCond .ne 14, 3) := by decide +kernel
theorem dX11_read_133 : decode cX11_read 133 = .ok (.aload_n 0, 1) := by decide +kernel
theorem dX11_read_134 : decode cX11_read 134 = .ok (.getfield 143, 3) := by decide +kernel
theorem dX11_read_137 : decode cX11_read 137 = .ok (.ifCond .eq 7, 3) := by decide +kernel
theorem dX11_read_140 : decode cX11_read 140 = .ok (.aload_n 0, 1) := by decide +kernel
theorem dX11_read_141 : decode cX11_read 141 = .ok (.invokevirtual 171, 3) := by decide +kernel
theorem dX11_read_144 : decode cX11_read 144 = .ok (.iload_n 2, 1) := by decide +kernel
theorem dX11_read_145 : decode cX11_read 145 = .ok (.ifCond .ne 7, 3) := by decide +kernel
theorem dX11_read_148 : decode cX11_read 148 = .ok (.iload_n 3, 1) := by decide +kernel
theorem dX11_read_149 : decode cX11_read 149 = .ok (.goto 15, 3) := by decide +kernel
theorem dX11_read_152 : decode cX11_read 152 = .ok (.iload_n 2, 1) := by decide +kernel
theorem dX11_read_153 : decode cX11_read 153 = .ok (.iconst 1, 1) := by decide +kernel
theorem dX11_read_154 : decode cX11_read 154 = .ok (.if_icmp .ne 8, 3) := by decide +kernel
theorem dX11_read_157 : decode cX11_read 157 = .ok (.iload 4, 2) := by decide +kernel
theorem dX11_read_159 : decode cX11_read 159 = .ok (.goto 5, 3) := by decide +kernel
theorem dX11_read_162 : decode cX11_read 162 = .ok (.iload 5, 2) := by decide +kernel
theorem dX11_read_164 : decode cX11_read 164 = .ok (.ireturn, 1) := by decide +kernel
theorem dX11_text_0 : decode cX11_text 0 = .ok (.aload_n 0, 1) := by decide +kernel
theorem dX11_text_1 : decode cX11_text 1 = .ok (.getfield 70, 3) := by decide +kernel
theorem dX11_text_4 : decode cX11_text 4 = .ok (.bipush 6, 2) := by decide +kernel
theorem dX11_text_6 : decode cX11_text 6 = .ok (.if_icmp .ne 6, 3) := by decide +kernel
theorem dX11_text_9 : decode cX11_text 9 = .ok (.bipush (-4), 2) := by decide +kernel
theorem dX11_text_11 : decode cX11_text 11 = .ok (.ireturn, 1) := by decide +kernel
theorem dX11_text_12 : decode cX11_text 12 = .ok (.iconst 0, 1) := by decide +kernel
theorem dX11_text_13 : decode cX11_text 13 = .ok (.istore_n 1, 1) := by decide +kernel
theorem dX11_text_14 : decode cX11_text 14 = .ok (.iload_n 1, 1) := by decide +kernel
theorem dX11_text_15 : decode cX11_text 15 = .ok (.aload_n 0, 1) := by decide +kernel
theorem dX11_text_16 : decode cX11_text 16 = .ok (.getfield 125, 3) := by decide +kernel
theorem dX11_text_19 : decode cX11_text 19 = .ok (.if_icmp .ge 30, 3) := by decide +kernel
theorem dX11_text_22 : decode cX11_text 22 = .ok (.aload_n 0, 1) := by decide +kernel
theorem dX11_text_23 : decode cX11_text 23 = .ok (.getfield 13, 3) := by decide +kernel
theorem dX11_text_26 : decode cX11_text 26 = .ok (.sipush 160, 3) := by decide +kernel
theorem dX11_text_29 : decode cX11_text 29 = .ok (.aload_n 0, 1) := by decide +kernel
theorem dX11_text_30 : decode cX11_text 30 = .ok (.getfield 70, 3) := by decide +kernel
theorem dX11_text_33 : decode cX11_text 33 = .ok (.imul, 1) := by decide +kernel
theorem dX11_text_34 : decode cX11_text 34 = .ok (.iload_n 1, 1) := by decide +kernel
theorem dX11_text_35 : decode cX11_text 35 = .ok (.iadd, 1) := by decide +kernel
theorem dX11_text_36 : decode cX11_text 36 = .ok (.aload_n 0, 1) := by decide +kernel
theorem dX11_text_37 : decode cX11_text 37 = .ok (.getfield 20, 3) := by decide +kernel
theorem dX11_text_40 : decode cX11_text 40 = .ok (.iload_n 1, 1) := by decide +kernel
theorem dX11_text_41 : decode cX11_text 41 = .ok (.iaload, 1) := by decide +kernel
theorem dX11_text_42 : decode cX11_text 42 = .ok (.iastore, 1) := by decide +kernel
theorem dX11_text_43 : decode cX11_text 43 = .ok (.iinc 1 1, 3) := by decide +kernel
theorem dX11_text_46 : decode cX11_text 46 = .ok (.goto (-32), 3) := by decide +kernel
theorem dX11_text_49 : decode cX11_text 49 = .ok (.aload_n 0, 1) := by decide +kernel
theorem dX11_text_50 : decode cX11_text 50 = .ok (.getfield 17, 3) := by decide +kernel
theorem dX11_text_53 : decode cX11_text 53 = .ok (.aload_n 0, 1) := by decide +kernel
theorem dX11_text_54 : decode cX11_text 54 = .ok (.getfield 70, 3) := by decide +kernel
theorem dX11_text_57 : decode cX11_text 57 = .ok (.aload_n 0, 1) := by decide +kernel
theorem dX11_text_58 : decode cX11_text 58 = .ok (.getfield 125, 3) := by decide +kernel
theorem dX11_text_61 : decode cX11_text 61 = .ok (.iastore, 1) := by decide +kernel
theorem dX11_text_62 : decode cX11_text 62 = .ok (.aload_n 0, 1) := by decide +kernel
theorem dX11_text_63 : decode cX11_text 63 = .ok (.iconst 0, 1) := by decide +kernel
theorem dX11_text_64 : decode cX11_text 64 = .ok (.putfield 125, 3) := by decide +kernel
theorem dX11_text_67 : decode cX11_text 67 = .ok (.aload_n 0, 1) := by decide +kernel
theorem dX11_text_68 : decode cX11_text 68 = .ok (.aload_n 0, 1) := by decide +kernel
theorem dX11_text_69 : decode cX11_text 69 = .ok (.getfield 70, 3) := by decide +kernel
theorem dX11_text_72 : decode cX11_text 72 = .ok (.iconst 0, 1) := by decide +kernel
theorem dX11_text_73 : decode cX11_text 73 = .ok (.invokevirtual 326, 3) := by decide +kernel
theorem dX11_text_76 : decode cX11_text 76 = .ok (.istore_n 1, 1) := by decide +kernel
theorem dX11_text_77 : decode cX11_text 77 = .ok (.aload_n 0, 1) := by decide +kernel
theorem dX11_text_78 : decode cX11_text 78 = .ok (.getfield 158, 3) := by decide +kernel
theorem dX11_text_81 : decode cX11_text 81 = .ok (.ifCond .eq 11, 3) := by decide +kernel
theorem dX11_text_84 : decode cX11_text 84 = .ok (.bipush (-100), 2) := by decide +kernel
theorem dX11_text_86 : decode cX11_text 86 = .ok (.aload_n 0, 1) := by decide +kernel
theorem dX11_text_87 : decode cX11_text 87 = .ok (.getfield 162, 3) := by decide +kernel
theorem dX11_text_90 : decode cX11_text 90 = .ok (.isub, 1) := by decide +kernel
theorem dX11_text_91 : decode cX11_text 91 = .ok (.ireturn, 1) := by decide +kernel
theorem dX11_text_92 : decode cX11_text 92 = .ok (.aload_n 0, 1) := by decide +kernel
theorem dX11_text_93 : decode cX11_text 93 = .ok (.dup, 1) := by decide +kernel
theorem dX11_text_94 : decode cX11_text 94 = .ok (.getfield 70, 3) := by decide +kernel
theorem dX11_text_97 : decode cX11_text 97 = .ok (.iconst 1, 1) := by decide +kernel
theorem dX11_text_98 : decode cX11_text 98 = .ok (.iadd, 1) := by decide +kernel
theorem dX11_text_99 : decode cX11_text 99 = .ok (.putfield 70, 3) := by decide +kernel
theorem dX11_text_102 : decode cX11_text 102 = .ok (.aload_n 0, 1) := by decide +kernel
theorem dX11_text_103 : decode cX11_text 103 = .ok (.getfield 70, 3) := by decide +kernel
theorem dX11_text_106 : decode cX11_text 106 = .ok (.iconst 1, 1) := by decide +kernel
theorem dX11_text_107 : decode cX11_text 107 = .ok (.isub, 1) := by decide +kernel
theorem dX11_text_108 : decode cX11_text 108 = .ok (.ireturn, 1) := by decide +kernel
theorem dX11_force_0 : decode cX11_force 0 = .ok (.iload_n 1, 1) := by decide +kernel
theorem dX11_force_1 : decode cX11_force 1 = .ok (.i2l, 1) := by decide +kernel
theorem dX11_force_2 : decode cX11_force 2 = .ok (.lconst 0, 1) := by decide +kernel
theorem dX11_force_3 : decode cX11_force 3 = .ok (.aload_n 0, 1) := by decide +kernel
theorem dX11_force_4 : decode cX11_force 4 = .ok (.getfield 70, 3) := by decide +kernel
theorem dX11_force_7 : decode cX11_force 7 = .ok (.iconst 1, 1) := by decide +kernel
theorem dX11_force_8 : decode cX11_force 8 = .ok (.isub, 1) := by decide +kernel
theorem dX11_force_9 : decode cX11_force 9 = .ok (.i2l, 1) := by decide +kernel
theorem dX11_force_10 : decode cX11_force 10 = .ok (.invokestatic 76, 3) := by decide +kernel
theorem dX11_force_13 : decode cX11_force 13 = .ok (.ifCond .ne 6, 3) := by decide +kernel
theorem dX11_force_16 : decode cX11_force 16 = .ok (.bipush (-2), 2) := by decide +kernel
theorem dX11_force_18 : decode cX11_force 18 = .ok (.ireturn, 1) := by decide +kernel
theorem dX11_force_19 : decode cX11_force 19 = .ok (.aload_n 0, 1) := by decide +kernel
theorem dX11_force_20 : decode cX11_force 20 = .ok (.getfield 107, 3) := by decide +kernel
theorem dX11_force_23 : decode cX11_force 23 = .ok (.istore_n 2, 1) := by decide +kernel
theorem dX11_force_24 : decode cX11_force 24 = .ok (.aload_n 0, 1) := by decide +kernel
theorem dX11_force_25 : decode cX11_force 25 = .ok (.iload_n 1, 1) := by decide +kernel
theorem dX11_force_26 : decode cX11_force 26 = .ok (.putfield 107, 3) := by decide +kernel
theorem dX11_force_29 : decode cX11_force 29 = .ok (.iload_n 2, 1) := by decide +kernel
theorem dX11_force_30 : decode cX11_force 30 = .ok (.ireturn, 1) := by decide +kernel
theorem dX11_bitsOf_0 : decode cX11_bitsOf 0 = .ok (.iconst 0, 1) := by decide +kernel
theorem dX11_bitsOf_1 : decode cX11_bitsOf 1 = .ok (.istore_n 1, 1) := by decide +kernel
theorem dX11_bitsOf_2 : decode cX11_bitsOf 2 = .ok (.iload_n 0, 1) := by decide +kernel
theorem dX11_bitsOf_3 : decode cX11_bitsOf 3 = .ok (.istore_n 2, 1) := by decide +kernel
theorem dX11_bitsOf_4 : decode cX11_bitsOf 4 = .ok (.iload_n 2, 1) := by decide +kernel
theorem dX11_bitsOf_5 : decode cX11_bitsOf 5 = .ok (.ifCond .eq 15, 3) := by decide +kernel
theorem dX11_bitsOf_8 : decode cX11_bitsOf 8 = .ok (.iinc 1 1, 3) := by decide +kernel
theorem dX11_bitsOf_11 : decode cX11_bitsOf 11 = .ok (.iload_n 2, 1) := by decide +kernel
theorem dX11_bitsOf_12 : decode cX11_bitsOf 12 = .ok (.iload_n 2, 1) := by decide +kernel
theorem dX11_bitsOf_13 : decode cX11_bitsOf 13 = .ok (.iconst 1, 1) := by decide +kernel
theorem dX11_bitsOf_14 : decode cX11_bitsOf 14 = .ok (.isub, 1) := by decide +kernel
theorem dX11_bitsOf_15 : decode cX11_bitsOf 15 = .ok (.iand, 1) := by decide +kernel
theorem dX11_bitsOf_16 : decode cX11_bitsOf 16 = .ok (.istore_n 2, 1) := by decide +kernel
theorem dX11_bitsOf_17 : decode cX11_bitsOf 17 = .ok (.goto (-13), 3) := by decide +kernel
theorem dX11_bitsOf_20 : decode cX11_bitsOf 20 = .ok (.iload_n 1, 1) := by decide +kernel
theorem dX11_bitsOf_21 : decode cX11_bitsOf 21 = .ok (.ireturn, 1) := by decide +kernel
theorem dX11_says_0 : decode cX11_says 0 = .ok (.aload_n 0, 1) := by decide +kernel
theorem dX11_says_1 : decode cX11_says 1 = .ok (.iload_n 2, 1) := by decide +kernel
theorem dX11_says_2 : decode cX11_says 2 = .ok (.putfield 181, 3) := by decide +kernel
theorem dX11_says_5 : decode cX11_says 5 = .ok (.aload_n 0, 1) := by decide +kernel
theorem dX11_says_6 : decode cX11_says 6 = .ok (.iload_n 3, 1) := by decide +kernel
theorem dX11_says_7 : decode cX11_says 7 = .ok (.putfield 184, 3) := by decide +kernel
theorem dX11_says_10 : decode cX11_says 10 = .ok (.aload_n 0, 1) := by decide +kernel
theorem dX11_says_11 : decode cX11_says 11 = .ok (.aload_n 0, 1) := by decide +kernel
theorem dX11_says_12 : decode cX11_says 12 = .ok (.getfield 23, 3) := by decide +kernel
theorem dX11_says_15 : decode cX11_says 15 = .ok (.iconst 0, 1) := by decide +kernel
theorem dX11_says_16 : decode cX11_says 16 = .ok (.iaload, 1) := by decide +kernel
theorem dX11_says_17 : decode cX11_says 17 = .ok (.putfield 187, 3) := by decide +kernel
theorem dX11_says_20 : decode cX11_says 20 = .ok (.aload_n 0, 1) := by decide +kernel
theorem dX11_says_21 : decode cX11_says 21 = .ok (.iload 4, 2) := by decide +kernel
theorem dX11_says_23 : decode cX11_says 23 = .ok (.putfield 190, 3) := by decide +kernel
theorem dX11_says_26 : decode cX11_says 26 = .ok (.aload_n 0, 1) := by decide +kernel
theorem dX11_says_27 : decode cX11_says 27 = .ok (.aload_n 0, 1) := by decide +kernel
theorem dX11_says_28 : decode cX11_says 28 = .ok (.getfield 26, 3) := by decide +kernel
theorem dX11_says_31 : decode cX11_says 31 = .ok (.iload_n 2, 1) := by decide +kernel
theorem dX11_says_32 : decode cX11_says 32 = .ok (.iaload, 1) := by decide +kernel
theorem dX11_says_33 : decode cX11_says 33 = .ok (.invokestatic 329, 3) := by decide +kernel
theorem dX11_says_36 : decode cX11_says 36 = .ok (.putfield 193, 3) := by decide +kernel
theorem dX11_says_39 : decode cX11_says 39 = .ok (.aload_n 0, 1) := by decide +kernel
theorem dX11_says_40 : decode cX11_says 40 = .ok (.aload_n 0, 1) := by decide +kernel
theorem dX11_says_41 : decode cX11_says 41 = .ok (.getfield 23, 3) := by decide +kernel
theorem dX11_says_44 : decode cX11_says 44 = .ok (.iconst 1, 1) := by decide +kernel
theorem dX11_says_45 : decode cX11_says 45 = .ok (.iaload, 1) := by decide +kernel
theorem dX11_says_46 : decode cX11_says 46 = .ok (.putfield 196, 3) := by decide +kernel
theorem dX11_says_49 : decode cX11_says 49 = .ok (.aload_n 0, 1) := by decide +kernel
theorem dX11_says_50 : decode cX11_says 50 = .ok (.aload_n 0, 1) := by decide +kernel
theorem dX11_says_51 : decode cX11_says 51 = .ok (.getfield 107, 3) := by decide +kernel
theorem dX11_says_54 : decode cX11_says 54 = .ok (.iload_n 1, 1) := by decide +kernel
theorem dX11_says_55 : decode cX11_says 55 = .ok (.invokevirtual 326, 3) := by decide +kernel
theorem dX11_says_58 : decode cX11_says 58 = .ok (.ifCond .eq 7, 3) := by decide +kernel
theorem dX11_says_61 : decode cX11_says 61 = .ok (.iconst 1, 1) := by decide +kernel
theorem dX11_says_62 : decode cX11_says 62 = .ok (.goto 4, 3) := by decide +kernel
theorem dX11_says_65 : decode cX11_says 65 = .ok (.iconst 0, 1) := by decide +kernel
theorem dX11_says_66 : decode cX11_says 66 = .ok (.ireturn, 1) := by decide +kernel
theorem dX11_couldBe_0 : decode cX11_couldBe 0 = .ok (.aload_n 0, 1) := by decide +kernel
theorem dX11_couldBe_1 : decode cX11_couldBe 1 = .ok (.iconst 1, 1) := by decide +kernel
theorem dX11_couldBe_2 : decode cX11_couldBe 2 = .ok (.iload_n 1, 1) := by decide +kernel
theorem dX11_couldBe_3 : decode cX11_couldBe 3 = .ok (.iconst 0, 1) := by decide +kernel
theorem dX11_couldBe_4 : decode cX11_couldBe 4 = .ok (.iconst 0, 1) := by decide +kernel
theorem dX11_couldBe_5 : decode cX11_couldBe 5 = .ok (.invokevirtual 332, 3) := by decide +kernel
theorem dX11_couldBe_8 : decode cX11_couldBe 8 = .ok (.ifCond .eq 9, 3) := by decide +kernel
theorem dX11_couldBe_11 : decode cX11_couldBe 11 = .ok (.iconst 1, 1) := by decide +kernel
theorem dX11_couldBe_12 : decode cX11_couldBe 12 = .ok (.iload_n 1, 1) := by decide +kernel
theorem dX11_couldBe_13 : decode cX11_couldBe 13 = .ok (.ishl, 1) := by decide +kernel
theorem dX11_couldBe_14 : decode cX11_couldBe 14 = .ok (.goto 4, 3) := by decide +kernel
theorem dX11_couldBe_17 : decode cX11_couldBe 17 = .ok (.iconst 0, 1) := by decide +kernel
theorem dX11_couldBe_18 : decode cX11_couldBe 18 = .ok (.istore_n 2, 1) := by decide +kernel
theorem dX11_couldBe_19 : decode cX11_couldBe 19 = .ok (.iconst 0, 1) := by decide +kernel
theorem dX11_couldBe_20 : decode cX11_couldBe 20 = .ok (.istore_n 3, 1) := by decide +kernel
theorem dX11_couldBe_21 : decode cX11_couldBe 21 = .ok (.iload_n 3, 1) := by decide +kernel
theorem dX11_couldBe_22 : decode cX11_couldBe 22 = .ok (.bipush 8, 2) := by decide +kernel
theorem dX11_couldBe_24 : decode cX11_couldBe 24 = .ok (.if_icmp .ge 44, 3) := by decide +kernel
theorem dX11_couldBe_27 : decode cX11_couldBe 27 = .ok (.aload_n 0, 1) := by decide +kernel
theorem dX11_couldBe_28 : decode cX11_couldBe 28 = .ok (.getfield 26, 3) := by decide +kernel
theorem dX11_couldBe_31 : decode cX11_couldBe 31 = .ok (.iload_n 1, 1) := by decide +kernel
theorem dX11_couldBe_32 : decode cX11_couldBe 32 = .ok (.iaload, 1) := by decide +kernel
theorem dX11_couldBe_33 : decode cX11_couldBe 33 = .ok (.iload_n 3, 1) := by decide +kernel
theorem dX11_couldBe_34 : decode cX11_couldBe 34 = .ok (.ishr, 1) := by decide +kernel
theorem dX11_couldBe_35 : decode cX11_couldBe 35 = .ok (.iconst 1, 1) := by decide +kernel
theorem dX11_couldBe_36 : decode cX11_couldBe 36 = .ok (.iand, 1) := by decide +kernel
theorem dX11_couldBe_37 : decode cX11_couldBe 37 = .ok (.iconst 1, 1) := by decide +kernel
theorem dX11_couldBe_38 : decode cX11_couldBe 38 = .ok (.if_icmp .ne 24, 3) := by decide +kernel
theorem dX11_couldBe_41 : decode cX11_couldBe 41 = .ok (.iload_n 2, 1) := by decide +kernel
theorem dX11_couldBe_42 : decode cX11_couldBe 42 = .ok (.aload_n 0, 1) := by decide +kernel
theorem dX11_couldBe_43 : decode cX11_couldBe 43 = .ok (.iconst 0, 1) := by decide +kernel
theorem dX11_couldBe_44 : decode cX11_couldBe 44 = .ok (.iload_n 1, 1) := by decide +kernel
theorem dX11_couldBe_45 : decode cX11_couldBe 45 = .ok (.iload_n 3, 1) := by decide +kernel
theorem dX11_couldBe_46 : decode cX11_couldBe 46 = .ok (.iconst 0, 1) := by decide +kernel
theorem dX11_couldBe_47 : decode cX11_couldBe 47 = .ok (.invokevirtual 332, 3) := by decide +kernel
theorem dX11_couldBe_50 : decode cX11_couldBe 50 = .ok (.ifCond .eq 9, 3) := by decide +kernel
theorem dX11_couldBe_53 : decode cX11_couldBe 53 = .ok (.iconst 1, 1) := by decide +kernel
theorem dX11_couldBe_54 : decode cX11_couldBe 54 = .ok (.iload_n 3, 1) := by decide +kernel
theorem dX11_couldBe_55 : decode cX11_couldBe 55 = .ok (.ishl, 1) := by decide +kernel
theorem dX11_couldBe_56 : decode cX11_couldBe 56 = .ok (.goto 4, 3) := by decide +kernel
theorem dX11_couldBe_59 : decode cX11_couldBe 59 = .ok (.iconst 0, 1) := by decide +kernel
theorem dX11_couldBe_60 : decode cX11_couldBe 60 = .ok (.ior, 1) := by decide +kernel
theorem dX11_couldBe_61 : decode cX11_couldBe 61 = .ok (.istore_n 2, 1) := by decide +kernel
theorem dX11_couldBe_62 : decode cX11_couldBe 62 = .ok (.iinc 3 1, 3) := by decide +kernel
theorem dX11_couldBe_65 : decode cX11_couldBe 65 = .ok (.goto (-44), 3) := by decide +kernel
theorem dX11_couldBe_68 : decode cX11_couldBe 68 = .ok (.iload_n 2, 1) := by decide +kernel
theorem dX11_couldBe_69 : decode cX11_couldBe 69 = .ok (.ifCond .ne 9, 3) := by decide +kernel
theorem dX11_couldBe_72 : decode cX11_couldBe 72 = .ok (.iconst 1, 1) := by decide +kernel
theorem dX11_couldBe_73 : decode cX11_couldBe 73 = .ok (.iload_n 1, 1) := by decide +kernel
theorem dX11_couldBe_74 : decode cX11_couldBe 74 = .ok (.ishl, 1) := by decide +kernel
theorem dX11_couldBe_75 : decode cX11_couldBe 75 = .ok (.goto 4, 3) := by decide +kernel
theorem dX11_couldBe_78 : decode cX11_couldBe 78 = .ok (.iload_n 2, 1) := by decide +kernel
theorem dX11_couldBe_79 : decode cX11_couldBe 79 = .ok (.ireturn, 1) := by decide +kernel
theorem dX11_seesAt_0 : decode cX11_seesAt 0 = .ok (.aload_n 0, 1) := by decide +kernel
theorem dX11_seesAt_1 : decode cX11_seesAt 1 = .ok (.getfield 29, 3) := by decide +kernel
theorem dX11_seesAt_4 : decode cX11_seesAt 4 = .ok (.iload_n 1, 1) := by decide +kernel
theorem dX11_seesAt_5 : decode cX11_seesAt 5 = .ok (.iaload, 1) := by decide +kernel
theorem dX11_seesAt_6 : decode cX11_seesAt 6 = .ok (.istore_n 3, 1) := by decide +kernel
theorem dX11_seesAt_7 : decode cX11_seesAt 7 = .ok (.aload_n 0, 1) := by decide +kernel
theorem dX11_seesAt_8 : decode cX11_seesAt 8 = .ok (.getfield 32, 3) := by decide +kernel
theorem dX11_seesAt_11 : decode cX11_seesAt 11 = .ok (.iconst 3, 1) := by decide +kernel
theorem dX11_seesAt_12 : decode cX11_seesAt 12 = .ok (.iload_n 1, 1) := by decide +kernel
theorem dX11_seesAt_13 : decode cX11_seesAt 13 = .ok (.imul, 1) := by decide +kernel
theorem dX11_seesAt_14 : decode cX11_seesAt 14 = .ok (.iaload, 1) := by decide +kernel
theorem dX11_seesAt_15 : decode cX11_seesAt 15 = .ok (.istore 4, 2) := by decide +kernel
theorem dX11_seesAt_17 : decode cX11_seesAt 17 = .ok (.iload_n 3, 1) := by decide +kernel
theorem dX11_seesAt_18 : decode cX11_seesAt 18 = .ok (.iconst 3, 1) := by decide +kernel
theorem dX11_seesAt_19 : decode cX11_seesAt 19 = .ok (.if_icmp .eq 8, 3) := by decide +kernel
theorem dX11_seesAt_22 : decode cX11_seesAt 22 = .ok (.iload_n 3, 1) := by decide +kernel
theorem dX11_seesAt_23 : decode cX11_seesAt 23 = .ok (.iconst 5, 1) := by decide +kernel
theorem dX11_seesAt_24 : decode cX11_seesAt 24 = .ok (.if_icmp .ne 25, 3) := by decide +kernel
theorem dX11_seesAt_27 : decode cX11_seesAt 27 = .ok (.iload_n 3, 1) := by decide +kernel
theorem dX11_seesAt_28 : decode cX11_seesAt 28 = .ok (.iconst 3, 1) := by decide +kernel
theorem dX11_seesAt_29 : decode cX11_seesAt 29 = .ok (.if_icmp .ne 18, 3) := by decide +kernel
theorem dX11_seesAt_32 : decode cX11_seesAt 32 = .ok (.aload_n 0, 1) := by decide +kernel
theorem dX11_seesAt_33 : decode cX11_seesAt 33 = .ok (.getfield 23, 3) := by decide +kernel
theorem dX11_seesAt_36 : decode cX11_seesAt 36 = .ok (.iconst 1, 1) := by decide +kernel
theorem dX11_seesAt_37 : decode cX11_seesAt 37 = .ok (.iaload, 1) := by decide +kernel
theorem dX11_seesAt_38 : decode cX11_seesAt 38 = .ok (.iload 4, 2) := by decide +kernel
theorem dX11_seesAt_40 : decode cX11_seesAt 40 = .ok (.if_icmp .eq 7, 3) := by decide +kernel
theorem dX11_seesAt_43 : decode cX11_seesAt 43 = .ok (.iconst 1, 1) := by decide +kernel
theorem dX11_seesAt_44 : decode cX11_seesAt 44 = .ok (.goto 4, 3) := by decide +kernel
theorem dX11_seesAt_47 : decode cX11_seesAt 47 = .ok (.iconst 0, 1) := by decide +kernel
theorem dX11_seesAt_48 : decode cX11_seesAt 48 = .ok (.ireturn, 1) := by decide +kernel
theorem dX11_seesAt_49 : decode cX11_seesAt 49 = .ok (.aload_n 0, 1) := by decide +kernel
theorem dX11_seesAt_50 : decode cX11_seesAt 50 = .ok (.iconst 2, 1) := by decide +kernel
theorem dX11_seesAt_51 : decode cX11_seesAt 51 = .ok (.iload_n 2, 1) := by decide +kernel
theorem dX11_seesAt_52 : decode cX11_seesAt 52 = .ok (.iconst 0, 1) := by decide +kernel
theorem dX11_seesAt_53 : decode cX11_seesAt 53 = .ok (.iload 4, 2) := by decide +kernel
theorem dX11_seesAt_55 : decode cX11_seesAt 55 = .ok (.invokevirtual 332, 3) := by decide +kernel
theorem dX11_seesAt_58 : decode cX11_seesAt 58 = .ok (.istore 5, 2) := by decide +kernel
theorem dX11_seesAt_60 : decode cX11_seesAt 60 = .ok (.iload 5, 2) := by decide +kernel
theorem dX11_seesAt_62 : decode cX11_seesAt 62 = .ok (.ifCond .eq 13, 3) := by decide +kernel
theorem dX11_seesAt_65 : decode cX11_seesAt 65 = .ok (.iload_n 2, 1) := by decide +kernel
theorem dX11_seesAt_66 : decode cX11_seesAt 66 = .ok (.iconst 2, 1) := by decide +kernel
theorem dX11_seesAt_67 : decode cX11_seesAt 67 = .ok (.irem, 1) := by decide +kernel
theorem dX11_seesAt_68 : decode cX11_seesAt 68 = .ok (.ifCond .ne 7, 3) := by decide +kernel
theorem dX11_seesAt_71 : decode cX11_seesAt 71 = .ok (.iconst 1, 1) := by decide +kernel
theorem dX11_seesAt_72 : decode cX11_seesAt 72 = .ok (.goto 4, 3) := by decide +kernel
theorem dX11_seesAt_75 : decode cX11_seesAt 75 = .ok (.iconst 0, 1) := by decide +kernel
theorem dX11_seesAt_76 : decode cX11_seesAt 76 = .ok (.istore 6, 2) := by decide +kernel
theorem dX11_seesAt_78 : decode cX11_seesAt 78 = .ok (.iload_n 3, 1) := by decide +kernel
theorem dX11_seesAt_79 : decode cX11_seesAt 79 = .ok (.iconst 1, 1) := by decide +kernel
theorem dX11_seesAt_80 : decode cX11_seesAt 80 = .ok (.if_icmp .ne 25, 3) := by decide +kernel
theorem dX11_seesAt_83 : decode cX11_seesAt 83 = .ok (.iload 5, 2) := by decide +kernel
theorem dX11_seesAt_85 : decode cX11_seesAt 85 = .ok (.ifCond .ne 12, 3) := by decide +kernel
theorem dX11_seesAt_88 : decode cX11_seesAt 88 = .ok (.iload_n 2, 1) := by decide +kernel
theorem dX11_seesAt_89 : decode cX11_seesAt 89 = .ok (.iload 4, 2) := by decide +kernel
theorem dX11_seesAt_91 : decode cX11_seesAt 91 = .ok (.bipush 8, 2) := by decide +kernel
theorem dX11_seesAt_93 : decode cX11_seesAt 93 = .ok (.irem, 1) := by decide +kernel
theorem dX11_seesAt_94 : decode cX11_seesAt 94 = .ok (.if_icmp .ne 7, 3) := by decide +kernel
theorem dX11_seesAt_97 : decode cX11_seesAt 97 = .ok (.iconst 1, 1) := by decide +kernel
theorem dX11_seesAt_98 : decode cX11_seesAt 98 = .ok (.goto 48, 3) := by decide +kernel
theorem dX11_seesAt_101 : decode cX11_seesAt 101 = .ok (.iconst 0, 1) := by decide +kernel
theorem dX11_seesAt_102 : decode cX11_seesAt 102 = .ok (.goto 44, 3) := by decide +kernel
theorem dX11_seesAt_105 : decode cX11_seesAt 105 = .ok (.iload_n 3, 1) := by decide +kernel
theorem dX11_seesAt_106 : decode cX11_seesAt 106 = .ok (.iconst 2, 1) := by decide +kernel
theorem dX11_seesAt_107 : decode cX11_seesAt 107 = .ok (.if_icmp .ne 8, 3) := by decide +kernel
theorem dX11_seesAt_110 : decode cX11_seesAt 110 = .ok (.iload 6, 2) := by decide +kernel
theorem dX11_seesAt_112 : decode cX11_seesAt 112 = .ok (.goto 34, 3) := by decide +kernel
theorem dX11_seesAt_115 : decode cX11_seesAt 115 = .ok (.iload_n 3, 1) := by decide +kernel
theorem dX11_seesAt_116 : decode cX11_seesAt 116 = .ok (.iconst 4, 1) := by decide +kernel
theorem dX11_seesAt_117 : decode cX11_seesAt 117 = .ok (.if_icmp .ne 27, 3) := by decide +kernel
theorem dX11_seesAt_120 : decode cX11_seesAt 120 = .ok (.iload 6, 2) := by decide +kernel
theorem dX11_seesAt_122 : decode cX11_seesAt 122 = .ok (.ifCond .ne 14, 3) := by decide +kernel
theorem dX11_seesAt_125 : decode cX11_seesAt 125 = .ok (.aload_n 0, 1) := by decide +kernel
theorem dX11_seesAt_126 : decode cX11_seesAt 126 = .ok (.getfield 23, 3) := by decide +kernel
theorem dX11_seesAt_129 : decode cX11_seesAt 129 = .ok (.iconst 0, 1) := by decide +kernel
theorem dX11_seesAt_130 : decode cX11_seesAt 130 = .ok (.iaload, 1) := by decide +kernel
theorem dX11_seesAt_131 : decode cX11_seesAt 131 = .ok (.iconst 4, 1) := by decide +kernel
theorem dX11_seesAt_132 : decode cX11_seesAt 132 = .ok (.irem, 1) := by decide +kernel
theorem dX11_seesAt_133 : decode cX11_seesAt 133 = .ok (.ifCond .ne 7, 3) := by decide +kernel
theorem dX11_seesAt_136 : decode cX11_seesAt 136 = .ok (.iconst 1, 1) := by decide +kernel
theorem dX11_seesAt_137 : decode cX11_seesAt 137 = .ok (.goto 9, 3) := by decide +kernel
theorem dX11_seesAt_140 : decode cX11_seesAt 140 = .ok (.iconst 0, 1) := by decide +kernel
theorem dX11_seesAt_141 : decode cX11_seesAt 141 = .ok (.goto 5, 3) := by decide +kernel
theorem dX11_seesAt_144 : decode cX11_seesAt 144 = .ok (.iload 5, 2) := by decide +kernel
theorem dX11_seesAt_146 : decode cX11_seesAt 146 = .ok (.ireturn, 1) := by decide +kernel
theorem dX11_eyesOf_0 : decode cX11_eyesOf 0 = .ok (.iconst 0, 1) := by decide +kernel
theorem dX11_eyesOf_1 : decode cX11_eyesOf 1 = .ok (.istore_n 2, 1) := by decide +kernel
theorem dX11_eyesOf_2 : decode cX11_eyesOf 2 = .ok (.iconst 0, 1) := by decide +kernel
theorem dX11_eyesOf_3 : decode cX11_eyesOf 3 = .ok (.istore_n 3, 1) := by decide +kernel
theorem dX11_eyesOf_4 : decode cX11_eyesOf 4 = .ok (.iload_n 3, 1) := by decide +kernel
theorem dX11_eyesOf_5 : decode cX11_eyesOf 5 = .ok (.bipush 8, 2) := by decide +kernel
theorem dX11_eyesOf_7 : decode cX11_eyesOf 7 = .ok (.if_icmp .ge 28, 3) := by decide +kernel
theorem dX11_eyesOf_10 : decode cX11_eyesOf 10 = .ok (.iload_n 2, 1) := by decide +kernel
theorem dX11_eyesOf_11 : decode cX11_eyesOf 11 = .ok (.aload_n 0, 1) := by decide +kernel
theorem dX11_eyesOf_12 : decode cX11_eyesOf 12 = .ok (.iload_n 1, 1) := by decide +kernel
theorem dX11_eyesOf_13 : decode cX11_eyesOf 13 = .ok (.iload_n 3, 1) := by decide +kernel
theorem dX11_eyesOf_14 : decode cX11_eyesOf 14 = .ok (.invokevirtual 336, 3) := by decide +kernel
theorem dX11_eyesOf_17 : decode cX11_eyesOf 17 = .ok (.ifCond .eq 7, 3) := by decide +kernel
theorem dX11_eyesOf_20 : decode cX11_eyesOf 20 = .ok (.iconst 1, 1) := by decide +kernel
theorem dX11_eyesOf_21 : decode cX11_eyesOf 21 = .ok (.goto 4, 3) := by decide +kernel
theorem dX11_eyesOf_24 : decode cX11_eyesOf 24 = .ok (.iconst 0, 1) := by decide +kernel
theorem dX11_eyesOf_25 : decode cX11_eyesOf 25 = .ok (.iload_n 3, 1) := by decide +kernel
theorem dX11_eyesOf_26 : decode cX11_eyesOf 26 = .ok (.ishl, 1) := by decide +kernel
theorem dX11_eyesOf_27 : decode cX11_eyesOf 27 = .ok (.ior, 1) := by decide +kernel
theorem dX11_eyesOf_28 : decode cX11_eyesOf 28 = .ok (.istore_n 2, 1) := by decide +kernel
theorem dX11_eyesOf_29 : decode cX11_eyesOf 29 = .ok (.iinc 3 1, 3) := by decide +kernel
theorem dX11_eyesOf_32 : decode cX11_eyesOf 32 = .ok (.goto (-28), 3) := by decide +kernel
theorem dX11_eyesOf_35 : decode cX11_eyesOf 35 = .ok (.iload_n 2, 1) := by decide +kernel
theorem dX11_eyesOf_36 : decode cX11_eyesOf 36 = .ok (.ireturn, 1) := by decide +kernel
theorem dX11_spreadOf_0 : decode cX11_spreadOf 0 = .ok (.iconst 0, 1) := by decide +kernel
theorem dX11_spreadOf_1 : decode cX11_spreadOf 1 = .ok (.istore_n 2, 1) := by decide +kernel
theorem dX11_spreadOf_2 : decode cX11_spreadOf 2 = .ok (.iconst 0, 1) := by decide +kernel
theorem dX11_spreadOf_3 : decode cX11_spreadOf 3 = .ok (.istore_n 3, 1) := by decide +kernel
theorem dX11_spreadOf_4 : decode cX11_spreadOf 4 = .ok (.iload_n 3, 1) := by decide +kernel
theorem dX11_spreadOf_5 : decode cX11_spreadOf 5 = .ok (.bipush 8, 2) := by decide +kernel
theorem dX11_spreadOf_7 : decode cX11_spreadOf 7 = .ok (.if_icmp .ge 30, 3) := by decide +kernel
theorem dX11_spreadOf_10 : decode cX11_spreadOf 10 = .ok (.iload_n 2, 1) := by decide +kernel
theorem dX11_spreadOf_11 : decode cX11_spreadOf 11 = .ok (.iload_n 1, 1) := by decide +kernel
theorem dX11_spreadOf_12 : decode cX11_spreadOf 12 = .ok (.iload_n 3, 1) := by decide +kernel
theorem dX11_spreadOf_13 : decode cX11_spreadOf 13 = .ok (.ishr, 1) := by decide +kernel
theorem dX11_spreadOf_14 : decode cX11_spreadOf 14 = .ok (.iconst 1, 1) := by decide +kernel
theorem dX11_spreadOf_15 : decode cX11_spreadOf 15 = .ok (.iand, 1) := by decide +kernel
theorem dX11_spreadOf_16 : decode cX11_spreadOf 16 = .ok (.iconst 1, 1) := by decide +kernel
theorem dX11_spreadOf_17 : decode cX11_spreadOf 17 = .ok (.if_icmp .ne 11, 3) := by decide +kernel
theorem dX11_spreadOf_20 : decode cX11_spreadOf 20 = .ok (.aload_n 0, 1) := by decide +kernel
theorem dX11_spreadOf_21 : decode cX11_spreadOf 21 = .ok (.iload_n 3, 1) := by decide +kernel
theorem dX11_spreadOf_22 : decode cX11_spreadOf 22 = .ok (.invokevirtual 120, 3) := by decide +kernel
theorem dX11_spreadOf_25 : decode cX11_spreadOf 25 = .ok (.goto 4, 3) := by decide +kernel
theorem dX11_spreadOf_28 : decode cX11_spreadOf 28 = .ok (.iconst 0, 1) := by decide +kernel
theorem dX11_spreadOf_29 : decode cX11_spreadOf 29 = .ok (.ior, 1) := by decide +kernel
theorem dX11_spreadOf_30 : decode cX11_spreadOf 30 = .ok (.istore_n 2, 1) := by decide +kernel
theorem dX11_spreadOf_31 : decode cX11_spreadOf 31 = .ok (.iinc 3 1, 3) := by decide +kernel
theorem dX11_spreadOf_34 : decode cX11_spreadOf 34 = .ok (.goto (-30), 3) := by decide +kernel
theorem dX11_spreadOf_37 : decode cX11_spreadOf 37 = .ok (.iload_n 2, 1) := by decide +kernel
theorem dX11_spreadOf_38 : decode cX11_spreadOf 38 = .ok (.ireturn, 1) := by decide +kernel
theorem dX11_seenSet_0 : decode cX11_seenSet 0 = .ok (.iconst 0, 1) := by decide +kernel
theorem dX11_seenSet_1 : decode cX11_seenSet 1 = .ok (.istore_n 1, 1) := by decide +kernel
theorem dX11_seenSet_2 : decode cX11_seenSet 2 = .ok (.iconst 0, 1) := by decide +kernel
theorem dX11_seenSet_3 : decode cX11_seenSet 3 = .ok (.istore_n 2, 1) := by decide +kernel
theorem dX11_seenSet_4 : decode cX11_seenSet 4 = .ok (.iload_n 2, 1) := by decide +kernel
theorem dX11_seenSet_5 : decode cX11_seenSet 5 = .ok (.aload_n 0, 1) := by decide +kernel
theorem dX11_seenSet_6 : decode cX11_seenSet 6 = .ok (.getfield 73, 3) := by decide +kernel
theorem dX11_seenSet_9 : decode cX11_seenSet 9 = .ok (.if_icmp .ge 39, 3) := by decide +kernel
theorem dX11_seenSet_12 : decode cX11_seenSet 12 = .ok (.aload_n 0, 1) := by decide +kernel
theorem dX11_seenSet_13 : decode cX11_seenSet 13 = .ok (.getfield 32, 3) := by decide +kernel
theorem dX11_seenSet_16 : decode cX11_seenSet 16 = .ok (.iconst 3, 1) := by decide +kernel
theorem dX11_seenSet_17 : decode cX11_seenSet 17 = .ok (.iload_n 2, 1) := by decide +kernel
theorem dX11_seenSet_18 : decode cX11_seenSet 18 = .ok (.imul, 1) := by decide +kernel
theorem dX11_seenSet_19 : decode cX11_seenSet 19 = .ok (.iconst 1, 1) := by decide +kernel
theorem dX11_seenSet_20 : decode cX11_seenSet 20 = .ok (.iadd, 1) := by decide +kernel
theorem dX11_seenSet_21 : decode cX11_seenSet 21 = .ok (.iaload, 1) := by decide +kernel
theorem dX11_seenSet_22 : decode cX11_seenSet 22 = .ok (.istore_n 3, 1) := by decide +kernel
theorem dX11_seenSet_23 : decode cX11_seenSet 23 = .ok (.iload_n 1, 1) := by decide +kernel
theorem dX11_seenSet_24 : decode cX11_seenSet 24 = .ok (.aload_n 0, 1) := by decide +kernel
theorem dX11_seenSet_25 : decode cX11_seenSet 25 = .ok (.iload_n 2, 1) := by decide +kernel
theorem dX11_seenSet_26 : decode cX11_seenSet 26 = .ok (.iload_n 3, 1) := by decide +kernel
theorem dX11_seenSet_27 : decode cX11_seenSet 27 = .ok (.invokevirtual 336, 3) := by decide +kernel
theorem dX11_seenSet_30 : decode cX11_seenSet 30 = .ok (.ifCond .eq 9, 3) := by decide +kernel
theorem dX11_seenSet_33 : decode cX11_seenSet 33 = .ok (.iconst 1, 1) := by decide +kernel
theorem dX11_seenSet_34 : decode cX11_seenSet 34 = .ok (.iload_n 3, 1) := by decide +kernel
theorem dX11_seenSet_35 : decode cX11_seenSet 35 = .ok (.ishl, 1) := by decide +kernel
theorem dX11_seenSet_36 : decode cX11_seenSet 36 = .ok (.goto 4, 3) := by decide +kernel
theorem dX11_seenSet_39 : decode cX11_seenSet 39 = .ok (.iconst 0, 1) := by decide +kernel
theorem dX11_seenSet_40 : decode cX11_seenSet 40 = .ok (.ior, 1) := by decide +kernel
theorem dX11_seenSet_41 : decode cX11_seenSet 41 = .ok (.istore_n 1, 1) := by decide +kernel
theorem dX11_seenSet_42 : decode cX11_seenSet 42 = .ok (.iinc 2 1, 3) := by decide +kernel
theorem dX11_seenSet_45 : decode cX11_seenSet 45 = .ok (.goto (-41), 3) := by decide +kernel
theorem dX11_seenSet_48 : decode cX11_seenSet 48 = .ok (.iload_n 1, 1) := by decide +kernel
theorem dX11_seenSet_49 : decode cX11_seenSet 49 = .ok (.ireturn, 1) := by decide +kernel
theorem dX11_spread_0 : decode cX11_spread 0 = .ok (.iload_n 1, 1) := by decide +kernel
theorem dX11_spread_1 : decode cX11_spread 1 = .ok (.i2l, 1) := by decide +kernel
theorem dX11_spread_2 : decode cX11_spread 2 = .ok (.lconst 0, 1) := by decide +kernel
theorem dX11_spread_3 : decode cX11_spread 3 = .ok (.ldc2_w 123, 3) := by decide +kernel
theorem dX11_spread_6 : decode cX11_spread 6 = .ok (.invokestatic 76, 3) := by decide +kernel
theorem dX11_spread_9 : decode cX11_spread 9 = .ok (.ifCond .eq 15, 3) := by decide +kernel
theorem dX11_spread_12 : decode cX11_spread 12 = .ok (.iload_n 2, 1) := by decide +kernel
theorem dX11_spread_13 : decode cX11_spread 13 = .ok (.i2l, 1) := by decide +kernel
theorem dX11_spread_14 : decode cX11_spread 14 = .ok (.lconst 0, 1) := by decide +kernel
theorem dX11_spread_15 : decode cX11_spread 15 = .ok (.ldc2_w 339, 3) := by decide +kernel
theorem dX11_spread_18 : decode cX11_spread 18 = .ok (.invokestatic 76, 3) := by decide +kernel
theorem dX11_spread_21 : decode cX11_spread 21 = .ok (.ifCond .ne 6, 3) := by decide +kernel
theorem dX11_spread_24 : decode cX11_spread 24 = .ok (.bipush (-2), 2) := by decide +kernel
theorem dX11_spread_26 : decode cX11_spread 26 = .ok (.ireturn, 1) := by decide +kernel
theorem dX11_spread_27 : decode cX11_spread 27 = .ok (.iload_n 2, 1) := by decide +kernel
theorem dX11_spread_28 : decode cX11_spread 28 = .ok (.ifCond .ne 11, 3) := by decide +kernel
theorem dX11_spread_31 : decode cX11_spread 31 = .ok (.aload_n 0, 1) := by decide +kernel
theorem dX11_spread_32 : decode cX11_spread 32 = .ok (.iload_n 1, 1) := by decide +kernel
theorem dX11_spread_33 : decode cX11_spread 33 = .ok (.invokevirtual 341, 3) := by decide +kernel
theorem dX11_spread_36 : decode cX11_spread 36 = .ok (.goto 31, 3) := by decide +kernel
theorem dX11_spread_39 : decode cX11_spread 39 = .ok (.iload_n 2, 1) := by decide +kernel
theorem dX11_spread_40 : decode cX11_spread 40 = .ok (.iconst 1, 1) := by decide +kernel
theorem dX11_spread_41 : decode cX11_spread 41 = .ok (.if_icmp .ne 14, 3) := by decide +kernel
theorem dX11_spread_44 : decode cX11_spread 44 = .ok (.iload_n 1, 1) := by decide +kernel
theorem dX11_spread_45 : decode cX11_spread 45 = .ok (.aload_n 0, 1) := by decide +kernel
theorem dX11_spread_46 : decode cX11_spread 46 = .ok (.invokevirtual 344, 3) := by decide +kernel
theorem dX11_spread_49 : decode cX11_spread 49 = .ok (.iconst (-1), 1) := by decide +kernel
theorem dX11_spread_50 : decode cX11_spread 50 = .ok (.ixor, 1) := by decide +kernel
theorem dX11_spread_51 : decode cX11_spread 51 = .ok (.iand, 1) := by decide +kernel
theorem dX11_spread_52 : decode cX11_spread 52 = .ok (.goto 15, 3) := by decide +kernel
theorem dX11_spread_55 : decode cX11_spread 55 = .ok (.aload_n 0, 1) := by decide +kernel
theorem dX11_spread_56 : decode cX11_spread 56 = .ok (.iload_n 1, 1) := by decide +kernel
theorem dX11_spread_57 : decode cX11_spread 57 = .ok (.invokevirtual 341, 3) := by decide +kernel
theorem dX11_spread_60 : decode cX11_spread 60 = .ok (.aload_n 0, 1) := by decide +kernel
theorem dX11_spread_61 : decode cX11_spread 61 = .ok (.invokevirtual 344, 3) := by decide +kernel
theorem dX11_spread_64 : decode cX11_spread 64 = .ok (.iconst (-1), 1) := by decide +kernel
theorem dX11_spread_65 : decode cX11_spread 65 = .ok (.ixor, 1) := by decide +kernel
theorem dX11_spread_66 : decode cX11_spread 66 = .ok (.iand, 1) := by decide +kernel
theorem dX11_spread_67 : decode cX11_spread 67 = .ok (.ireturn, 1) := by decide +kernel
theorem dX11_stepsBy_0 : decode cX11_stepsBy 0 = .ok (.aload_n 0, 1) := by decide +kernel
theorem dX11_stepsBy_1 : decode cX11_stepsBy 1 = .ok (.iload_n 1, 1) := by decide +kernel
theorem dX11_stepsBy_2 : decode cX11_stepsBy 2 = .ok (.invokevirtual 120, 3) := by decide +kernel
theorem dX11_stepsBy_5 : decode cX11_stepsBy 5 = .ok (.istore_n 3, 1) := by decide +kernel
theorem dX11_stepsBy_6 : decode cX11_stepsBy 6 = .ok (.iload_n 2, 1) := by decide +kernel
theorem dX11_stepsBy_7 : decode cX11_stepsBy 7 = .ok (.bipush 9, 2) := by decide +kernel
theorem dX11_stepsBy_9 : decode cX11_stepsBy 9 = .ok (.iushr, 1) := by decide +kernel
theorem dX11_stepsBy_10 : decode cX11_stepsBy 10 = .ok (.iload_n 3, 1) := by decide +kernel
theorem dX11_stepsBy_11 : decode cX11_stepsBy 11 = .ok (.invokestatic 329, 3) := by decide +kernel
theorem dX11_stepsBy_14 : decode cX11_stepsBy 14 = .ok (.irem, 1) := by decide +kernel
theorem dX11_stepsBy_15 : decode cX11_stepsBy 15 = .ok (.istore 4, 2) := by decide +kernel
theorem dX11_stepsBy_17 : decode cX11_stepsBy 17 = .ok (.iconst 0, 1) := by decide +kernel
theorem dX11_stepsBy_18 : decode cX11_stepsBy 18 = .ok (.istore 5, 2) := by decide +kernel
theorem dX11_stepsBy_20 : decode cX11_stepsBy 20 = .ok (.iload_n 3, 1) := by decide +kernel
theorem dX11_stepsBy_21 : decode cX11_stepsBy 21 = .ok (.iload 5, 2) := by decide +kernel
theorem dX11_stepsBy_23 : decode cX11_stepsBy 23 = .ok (.ishr, 1) := by decide +kernel
theorem dX11_stepsBy_24 : decode cX11_stepsBy 24 = .ok (.iconst 1, 1) := by decide +kernel
theorem dX11_stepsBy_25 : decode cX11_stepsBy 25 = .ok (.iand, 1) := by decide +kernel
theorem dX11_stepsBy_26 : decode cX11_stepsBy 26 = .ok (.ifCond .eq 8, 3) := by decide +kernel
theorem dX11_stepsBy_29 : decode cX11_stepsBy 29 = .ok (.iload 4, 2) := by decide +kernel
theorem dX11_stepsBy_31 : decode cX11_stepsBy 31 = .ok (.ifCond .le 20, 3) := by decide +kernel
theorem dX11_stepsBy_34 : decode cX11_stepsBy 34 = .ok (.iload 4, 2) := by decide +kernel
theorem dX11_stepsBy_36 : decode cX11_stepsBy 36 = .ok (.iload_n 3, 1) := by decide +kernel
theorem dX11_stepsBy_37 : decode cX11_stepsBy 37 = .ok (.iload 5, 2) := by decide +kernel
theorem dX11_stepsBy_39 : decode cX11_stepsBy 39 = .ok (.ishr, 1) := by decide +kernel
theorem dX11_stepsBy_40 : decode cX11_stepsBy 40 = .ok (.iconst 1, 1) := by decide +kernel
theorem dX11_stepsBy_41 : decode cX11_stepsBy 41 = .ok (.iand, 1) := by decide +kernel
theorem dX11_stepsBy_42 : decode cX11_stepsBy 42 = .ok (.isub, 1) := by decide +kernel
theorem dX11_stepsBy_43 : decode cX11_stepsBy 43 = .ok (.istore 4, 2) := by decide +kernel
theorem dX11_stepsBy_45 : decode cX11_stepsBy 45 = .ok (.iinc 5 1, 3) := by decide +kernel
theorem dX11_stepsBy_48 : decode cX11_stepsBy 48 = .ok (.goto (-28), 3) := by decide +kernel
theorem dX11_stepsBy_51 : decode cX11_stepsBy 51 = .ok (.iload 5, 2) := by decide +kernel
theorem dX11_stepsBy_53 : decode cX11_stepsBy 53 = .ok (.ireturn, 1) := by decide +kernel
theorem dX11_week_0 : decode cX11_week 0 = .ok (.aload_n 0, 1) := by decide +kernel
theorem dX11_week_1 : decode cX11_week 1 = .ok (.getfield 23, 3) := by decide +kernel
theorem dX11_week_4 : decode cX11_week 4 = .ok (.iconst 0, 1) := by decide +kernel
theorem dX11_week_5 : decode cX11_week 5 = .ok (.iaload, 1) := by decide +kernel
theorem dX11_week_6 : decode cX11_week 6 = .ok (.sipush 999, 3) := by decide +kernel
theorem dX11_week_9 : decode cX11_week 9 = .ok (.if_icmp .ne 6, 3) := by decide +kernel
theorem dX11_week_12 : decode cX11_week 12 = .ok (.bipush (-3), 2) := by decide +kernel
theorem dX11_week_14 : decode cX11_week 14 = .ok (.ireturn, 1) := by decide +kernel
theorem dX11_week_15 : decode cX11_week 15 = .ok (.aload_n 0, 1) := by decide +kernel
theorem dX11_week_16 : decode cX11_week 16 = .ok (.aload_n 0, 1) := by decide +kernel
theorem dX11_week_17 : decode cX11_week 17 = .ok (.getfield 23, 3) := by decide +kernel
theorem dX11_week_20 : decode cX11_week 20 = .ok (.iconst 2, 1) := by decide +kernel
theorem dX11_week_21 : decode cX11_week 21 = .ok (.iaload, 1) := by decide +kernel
theorem dX11_week_22 : decode cX11_week 22 = .ok (.iload_n 1, 1) := by decide +kernel
theorem dX11_week_23 : decode cX11_week 23 = .ok (.ldc_w 347, 3) := by decide +kernel
theorem dX11_week_26 : decode cX11_week 26 = .ok (.imul, 1) := by decide +kernel
theorem dX11_week_27 : decode cX11_week 27 = .ok (.sipush 12345, 3) := by decide +kernel
theorem dX11_week_30 : decode cX11_week 30 = .ok (.iadd, 1) := by decide +kernel
theorem dX11_week_31 : decode cX11_week 31 = .ok (.invokevirtual 348, 3) := by decide +kernel
theorem dX11_week_34 : decode cX11_week 34 = .ok (.istore_n 2, 1) := by decide +kernel
theorem dX11_week_35 : decode cX11_week 35 = .ok (.aload_n 0, 1) := by decide +kernel
theorem dX11_week_36 : decode cX11_week 36 = .ok (.getfield 23, 3) := by decide +kernel
theorem dX11_week_39 : decode cX11_week 39 = .ok (.iconst 3, 1) := by decide +kernel
theorem dX11_week_40 : decode cX11_week 40 = .ok (.aload_n 0, 1) := by decide +kernel
theorem dX11_week_41 : decode cX11_week 41 = .ok (.aload_n 0, 1) := by decide +kernel
theorem dX11_week_42 : decode cX11_week 42 = .ok (.getfield 23, 3) := by decide +kernel
theorem dX11_week_45 : decode cX11_week 45 = .ok (.iconst 3, 1) := by decide +kernel
theorem dX11_week_46 : decode cX11_week 46 = .ok (.iaload, 1) := by decide +kernel
theorem dX11_week_47 : decode cX11_week 47 = .ok (.invokevirtual 341, 3) := by decide +kernel
theorem dX11_week_50 : decode cX11_week 50 = .ok (.iastore, 1) := by decide +kernel
theorem dX11_week_51 : decode cX11_week 51 = .ok (.aload_n 0, 1) := by decide +kernel
theorem dX11_week_52 : decode cX11_week 52 = .ok (.getfield 23, 3) := by decide +kernel
theorem dX11_week_55 : decode cX11_week 55 = .ok (.iconst 2, 1) := by decide +kernel
theorem dX11_week_56 : decode cX11_week 56 = .ok (.iload_n 2, 1) := by decide +kernel
theorem dX11_week_57 : decode cX11_week 57 = .ok (.iastore, 1) := by decide +kernel
theorem dX11_week_58 : decode cX11_week 58 = .ok (.aload_n 0, 1) := by decide +kernel
theorem dX11_week_59 : decode cX11_week 59 = .ok (.getfield 23, 3) := by decide +kernel
theorem dX11_week_62 : decode cX11_week 62 = .ok (.iconst 0, 1) := by decide +kernel
theorem dX11_week_63 : decode cX11_week 63 = .ok (.dup2, 1) := by decide +kernel
theorem dX11_week_64 : decode cX11_week 64 = .ok (.iaload, 1) := by decide +kernel
theorem dX11_week_65 : decode cX11_week 65 = .ok (.iconst 1, 1) := by decide +kernel
theorem dX11_week_66 : decode cX11_week 66 = .ok (.iadd, 1) := by decide +kernel
theorem dX11_week_67 : decode cX11_week 67 = .ok (.iastore, 1) := by decide +kernel
theorem dX11_week_68 : decode cX11_week 68 = .ok (.iconst (-1), 1) := by decide +kernel
theorem dX11_week_69 : decode cX11_week 69 = .ok (.istore_n 3, 1) := by decide +kernel
theorem dX11_week_70 : decode cX11_week 70 = .ok (.aload_n 0, 1) := by decide +kernel
theorem dX11_week_71 : decode cX11_week 71 = .ok (.getfield 73, 3) := by decide +kernel
theorem dX11_week_74 : decode cX11_week 74 = .ok (.iconst 1, 1) := by decide +kernel
theorem dX11_week_75 : decode cX11_week 75 = .ok (.isub, 1) := by decide +kernel
theorem dX11_week_76 : decode cX11_week 76 = .ok (.istore 4, 2) := by decide +kernel
theorem dX11_week_78 : decode cX11_week 78 = .ok (.iload 4, 2) := by decide +kernel
theorem dX11_week_80 : decode cX11_week 80 = .ok (.ifCond .lt 41, 3) := by decide +kernel
theorem dX11_week_83 : decode cX11_week 83 = .ok (.aload_n 0, 1) := by decide +kernel
theorem dX11_week_84 : decode cX11_week 84 = .ok (.getfield 32, 3) := by decide +kernel
theorem dX11_week_87 : decode cX11_week 87 = .ok (.iconst 3, 1) := by decide +kernel
theorem dX11_week_88 : decode cX11_week 88 = .ok (.iload 4, 2) := by decide +kernel
theorem dX11_week_90 : decode cX11_week 90 = .ok (.imul, 1) := by decide +kernel
theorem dX11_week_91 : decode cX11_week 91 = .ok (.iconst 1, 1) := by decide +kernel
theorem dX11_week_92 : decode cX11_week 92 = .ok (.iadd, 1) := by decide +kernel
theorem dX11_week_93 : decode cX11_week 93 = .ok (.iaload, 1) := by decide +kernel
theorem dX11_week_94 : decode cX11_week 94 = .ok (.iload_n 2, 1) := by decide +kernel
theorem dX11_week_95 : decode cX11_week 95 = .ok (.if_icmp .ne 18, 3) := by decide +kernel
theorem dX11_week_98 : decode cX11_week 98 = .ok (.aload_n 0, 1) := by decide +kernel
theorem dX11_week_99 : decode cX11_week 99 = .ok (.iload 4, 2) := by decide +kernel
theorem dX11_week_101 : decode cX11_week 101 = .ok (.iload_n 2, 1) := by decide +kernel
theorem dX11_week_102 : decode cX11_week 102 = .ok (.invokevirtual 336, 3) := by decide +kernel
theorem dX11_week_105 : decode cX11_week 105 = .ok (.ifCond .eq 8, 3) := by decide +kernel
theorem dX11_week_108 : decode cX11_week 108 = .ok (.iload 4, 2) := by decide +kernel
theorem dX11_week_110 : decode cX11_week 110 = .ok (.goto 4, 3) := by decide +kernel
theorem dX11_week_113 : decode cX11_week 113 = .ok (.iload_n 3, 1) := by decide +kernel
theorem dX11_week_114 : decode cX11_week 114 = .ok (.istore_n 3, 1) := by decide +kernel
theorem dX11_week_115 : decode cX11_week 115 = .ok (.iinc 4 (-1), 3) := by decide +kernel
theorem dX11_week_118 : decode cX11_week 118 = .ok (.goto (-40), 3) := by decide +kernel
theorem dX11_week_121 : decode cX11_week 121 = .ok (.iload_n 3, 1) := by decide +kernel
theorem dX11_week_122 : decode cX11_week 122 = .ok (.iconst (-1), 1) := by decide +kernel
theorem dX11_week_123 : decode cX11_week 123 = .ok (.if_icmp .ne 20, 3) := by decide +kernel
theorem dX11_week_126 : decode cX11_week 126 = .ok (.aload_n 0, 1) := by decide +kernel
theorem dX11_week_127 : decode cX11_week 127 = .ok (.getfield 23, 3) := by decide +kernel
theorem dX11_week_130 : decode cX11_week 130 = .ok (.iconst 3, 1) := by decide +kernel
theorem dX11_week_131 : decode cX11_week 131 = .ok (.dup2, 1) := by decide +kernel
theorem dX11_week_132 : decode cX11_week 132 = .ok (.iaload, 1) := by decide +kernel
theorem dX11_week_133 : decode cX11_week 133 = .ok (.aload_n 0, 1) := by decide +kernel
theorem dX11_week_134 : decode cX11_week 134 = .ok (.invokevirtual 344, 3) := by decide +kernel
theorem dX11_week_137 : decode cX11_week 137 = .ok (.iconst (-1), 1) := by decide +kernel
theorem dX11_week_138 : decode cX11_week 138 = .ok (.ixor, 1) := by decide +kernel
theorem dX11_week_139 : decode cX11_week 139 = .ok (.iand, 1) := by decide +kernel
theorem dX11_week_140 : decode cX11_week 140 = .ok (.iastore, 1) := by decide +kernel
theorem dX11_week_141 : decode cX11_week 141 = .ok (.iconst (-1), 1) := by decide +kernel
theorem dX11_week_142 : decode cX11_week 142 = .ok (.ireturn, 1) := by decide +kernel
theorem dX11_week_143 : decode cX11_week 143 = .ok (.aload_n 0, 1) := by decide +kernel
theorem dX11_week_144 : decode cX11_week 144 = .ok (.getfield 32, 3) := by decide +kernel
theorem dX11_week_147 : decode cX11_week 147 = .ok (.iconst 3, 1) := by decide +kernel
theorem dX11_week_148 : decode cX11_week 148 = .ok (.iload_n 3, 1) := by decide +kernel
theorem dX11_week_149 : decode cX11_week 149 = .ok (.imul, 1) := by decide +kernel
theorem dX11_week_150 : decode cX11_week 150 = .ok (.iconst 2, 1) := by decide +kernel
theorem dX11_week_151 : decode cX11_week 151 = .ok (.iadd, 1) := by decide +kernel
theorem dX11_week_152 : decode cX11_week 152 = .ok (.aload_n 0, 1) := by decide +kernel
theorem dX11_week_153 : decode cX11_week 153 = .ok (.getfield 32, 3) := by decide +kernel
theorem dX11_week_156 : decode cX11_week 156 = .ok (.iconst 3, 1) := by decide +kernel
theorem dX11_week_157 : decode cX11_week 157 = .ok (.iload_n 3, 1) := by decide +kernel
theorem dX11_week_158 : decode cX11_week 158 = .ok (.imul, 1) := by decide +kernel
theorem dX11_week_159 : decode cX11_week 159 = .ok (.iconst 2, 1) := by decide +kernel
theorem dX11_week_160 : decode cX11_week 160 = .ok (.iadd, 1) := by decide +kernel
theorem dX11_week_161 : decode cX11_week 161 = .ok (.iaload, 1) := by decide +kernel
theorem dX11_week_162 : decode cX11_week 162 = .ok (.sipush 999, 3) := by decide +kernel
theorem dX11_week_165 : decode cX11_week 165 = .ok (.if_icmp .ne 9, 3) := by decide +kernel
theorem dX11_week_168 : decode cX11_week 168 = .ok (.sipush 999, 3) := by decide +kernel
theorem dX11_week_171 : decode cX11_week 171 = .ok (.goto 15, 3) := by decide +kernel
theorem dX11_week_174 : decode cX11_week 174 = .ok (.aload_n 0, 1) := by decide +kernel
theorem dX11_week_175 : decode cX11_week 175 = .ok (.getfield 32, 3) := by decide +kernel
theorem dX11_week_178 : decode cX11_week 178 = .ok (.iconst 3, 1) := by decide +kernel
theorem dX11_week_179 : decode cX11_week 179 = .ok (.iload_n 3, 1) := by decide +kernel
theorem dX11_week_180 : decode cX11_week 180 = .ok (.imul, 1) := by decide +kernel
theorem dX11_week_181 : decode cX11_week 181 = .ok (.iconst 2, 1) := by decide +kernel
theorem dX11_week_182 : decode cX11_week 182 = .ok (.iadd, 1) := by decide +kernel
theorem dX11_week_183 : decode cX11_week 183 = .ok (.iaload, 1) := by decide +kernel
theorem dX11_week_184 : decode cX11_week 184 = .ok (.iconst 1, 1) := by decide +kernel
theorem dX11_week_185 : decode cX11_week 185 = .ok (.iadd, 1) := by decide +kernel
theorem dX11_week_186 : decode cX11_week 186 = .ok (.iastore, 1) := by decide +kernel
theorem dX11_week_187 : decode cX11_week 187 = .ok (.aload_n 0, 1) := by decide +kernel
theorem dX11_week_188 : decode cX11_week 188 = .ok (.getfield 23, 3) := by decide +kernel
theorem dX11_week_191 : decode cX11_week 191 = .ok (.iconst 3, 1) := by decide +kernel
theorem dX11_week_192 : decode cX11_week 192 = .ok (.iconst 1, 1) := by decide +kernel
theorem dX11_week_193 : decode cX11_week 193 = .ok (.iload_n 2, 1) := by decide +kernel
theorem dX11_week_194 : decode cX11_week 194 = .ok (.ishl, 1) := by decide +kernel
theorem dX11_week_195 : decode cX11_week 195 = .ok (.iastore, 1) := by decide +kernel
theorem dX11_week_196 : decode cX11_week 196 = .ok (.iload_n 3, 1) := by decide +kernel
theorem dX11_week_197 : decode cX11_week 197 = .ok (.ireturn, 1) := by decide +kernel
theorem dX11_go_0 : decode cX11_go 0 = .ok (.aload_n 0, 1) := by decide +kernel
theorem dX11_go_1 : decode cX11_go 1 = .ok (.iload_n 1, 1) := by decide +kernel
theorem dX11_go_2 : decode cX11_go 2 = .ok (.invokevirtual 86, 3) := by decide +kernel
theorem dX11_go_5 : decode cX11_go 5 = .ok (.ifCond .eq 10, 3) := by decide +kernel
theorem dX11_go_8 : decode cX11_go 8 = .ok (.iload_n 2, 1) := by decide +kernel
theorem dX11_go_9 : decode cX11_go 9 = .ok (.invokestatic 82, 3) := by decide +kernel
theorem dX11_go_12 : decode cX11_go 12 = .ok (.ifCond .ne 6, 3) := by decide +kernel
theorem dX11_go_15 : decode cX11_go 15 = .ok (.bipush (-2), 2) := by decide +kernel
theorem dX11_go_17 : decode cX11_go 17 = .ok (.ireturn, 1) := by decide +kernel
theorem dX11_go_18 : decode cX11_go 18 = .ok (.aload_n 0, 1) := by decide +kernel
theorem dX11_go_19 : decode cX11_go 19 = .ok (.getfield 32, 3) := by decide +kernel
theorem dX11_go_22 : decode cX11_go 22 = .ok (.iconst 3, 1) := by decide +kernel
theorem dX11_go_23 : decode cX11_go 23 = .ok (.iload_n 1, 1) := by decide +kernel
theorem dX11_go_24 : decode cX11_go 24 = .ok (.imul, 1) := by decide +kernel
theorem dX11_go_25 : decode cX11_go 25 = .ok (.iconst 1, 1) := by decide +kernel
theorem dX11_go_26 : decode cX11_go 26 = .ok (.iadd, 1) := by decide +kernel
theorem dX11_go_27 : decode cX11_go 27 = .ok (.iaload, 1) := by decide +kernel
theorem dX11_go_28 : decode cX11_go 28 = .ok (.istore_n 3, 1) := by decide +kernel
theorem dX11_go_29 : decode cX11_go 29 = .ok (.aload_n 0, 1) := by decide +kernel
theorem dX11_go_30 : decode cX11_go 30 = .ok (.getfield 26, 3) := by decide +kernel
theorem dX11_go_33 : decode cX11_go 33 = .ok (.iload_n 3, 1) := by decide +kernel
theorem dX11_go_34 : decode cX11_go 34 = .ok (.iaload, 1) := by decide +kernel
theorem dX11_go_35 : decode cX11_go 35 = .ok (.iload_n 2, 1) := by decide +kernel
theorem dX11_go_36 : decode cX11_go 36 = .ok (.ishr, 1) := by decide +kernel
theorem dX11_go_37 : decode cX11_go 37 = .ok (.iconst 1, 1) := by decide +kernel
theorem dX11_go_38 : decode cX11_go 38 = .ok (.iand, 1) := by decide +kernel
theorem dX11_go_39 : decode cX11_go 39 = .ok (.ifCond .ne 6, 3) := by decide +kernel
theorem dX11_go_42 : decode cX11_go 42 = .ok (.bipush (-3), 2) := by decide +kernel
theorem dX11_go_44 : decode cX11_go 44 = .ok (.ireturn, 1) := by decide +kernel
theorem dX11_go_45 : decode cX11_go 45 = .ok (.aload_n 0, 1) := by decide +kernel
theorem dX11_go_46 : decode cX11_go 46 = .ok (.getfield 32, 3) := by decide +kernel
theorem dX11_go_49 : decode cX11_go 49 = .ok (.iconst 3, 1) := by decide +kernel
theorem dX11_go_50 : decode cX11_go 50 = .ok (.iload_n 1, 1) := by decide +kernel
theorem dX11_go_51 : decode cX11_go 51 = .ok (.imul, 1) := by decide +kernel
theorem dX11_go_52 : decode cX11_go 52 = .ok (.iconst 1, 1) := by decide +kernel
theorem dX11_go_53 : decode cX11_go 53 = .ok (.iadd, 1) := by decide +kernel
theorem dX11_go_54 : decode cX11_go 54 = .ok (.iload_n 2, 1) := by decide +kernel
theorem dX11_go_55 : decode cX11_go 55 = .ok (.iastore, 1) := by decide +kernel
theorem dX11_go_56 : decode cX11_go 56 = .ok (.iload_n 3, 1) := by decide +kernel
theorem dX11_go_57 : decode cX11_go 57 = .ok (.ireturn, 1) := by decide +kernel
theorem dX11_run_0 : decode cX11_run 0 = .ok (.iload_n 1, 1) := by decide +kernel
theorem dX11_run_1 : decode cX11_run 1 = .ok (.i2l, 1) := by decide +kernel
theorem dX11_run_2 : decode cX11_run 2 = .ok (.lconst 0, 1) := by decide +kernel
theorem dX11_run_3 : decode cX11_run 3 = .ok (.ldc2_w 351, 3) := by decide +kernel
theorem dX11_run_6 : decode cX11_run 6 = .ok (.invokestatic 76, 3) := by decide +kernel
theorem dX11_run_9 : decode cX11_run 9 = .ok (.ifCond .eq 15, 3) := by decide +kernel
theorem dX11_run_12 : decode cX11_run 12 = .ok (.iload_n 2, 1) := by decide +kernel
theorem dX11_run_13 : decode cX11_run 13 = .ok (.i2l, 1) := by decide +kernel
theorem dX11_run_14 : decode cX11_run 14 = .ok (.lconst 0, 1) := by decide +kernel
theorem dX11_run_15 : decode cX11_run 15 = .ok (.ldc2_w 339, 3) := by decide +kernel
theorem dX11_run_18 : decode cX11_run 18 = .ok (.invokestatic 76, 3) := by decide +kernel
theorem dX11_run_21 : decode cX11_run 21 = .ok (.ifCond .ne 6, 3) := by decide +kernel
theorem dX11_run_24 : decode cX11_run 24 = .ok (.bipush (-2), 2) := by decide +kernel
theorem dX11_run_26 : decode cX11_run 26 = .ok (.ireturn, 1) := by decide +kernel
theorem dX11_run_27 : decode cX11_run 27 = .ok (.aload_n 0, 1) := by decide +kernel
theorem dX11_run_28 : decode cX11_run 28 = .ok (.getfield 23, 3) := by decide +kernel
theorem dX11_run_31 : decode cX11_run 31 = .ok (.iconst 0, 1) := by decide +kernel
theorem dX11_run_32 : decode cX11_run 32 = .ok (.iaload, 1) := by decide +kernel
theorem dX11_run_33 : decode cX11_run 33 = .ok (.istore_n 3, 1) := by decide +kernel
theorem dX11_run_34 : decode cX11_run 34 = .ok (.aload_n 0, 1) := by decide +kernel
theorem dX11_run_35 : decode cX11_run 35 = .ok (.getfield 23, 3) := by decide +kernel
theorem dX11_run_38 : decode cX11_run 38 = .ok (.iconst 3, 1) := by decide +kernel
theorem dX11_run_39 : decode cX11_run 39 = .ok (.iaload, 1) := by decide +kernel
theorem dX11_run_40 : decode cX11_run 40 = .ok (.istore 4, 2) := by decide +kernel
theorem dX11_run_42 : decode cX11_run 42 = .ok (.iconst (-1), 1) := by decide +kernel
theorem dX11_run_43 : decode cX11_run 43 = .ok (.istore 5, 2) := by decide +kernel
theorem dX11_run_45 : decode cX11_run 45 = .ok (.iconst 0, 1) := by decide +kernel
theorem dX11_run_46 : decode cX11_run 46 = .ok (.istore 6, 2) := by decide +kernel
theorem dX11_run_48 : decode cX11_run 48 = .ok (.iconst 0, 1) := by decide +kernel
theorem dX11_run_49 : decode cX11_run 49 = .ok (.istore 7, 2) := by decide +kernel
theorem dX11_run_51 : decode cX11_run 51 = .ok (.iload 7, 2) := by decide +kernel
theorem dX11_run_53 : decode cX11_run 53 = .ok (.iload_n 1, 1) := by decide +kernel
theorem dX11_run_54 : decode cX11_run 54 = .ok (.if_icmp .ge 68, 3) := by decide +kernel
theorem dX11_run_57 : decode cX11_run 57 = .ok (.aload_n 0, 1) := by decide +kernel
theorem dX11_run_58 : decode cX11_run 58 = .ok (.iload 4, 2) := by decide +kernel
theorem dX11_run_60 : decode cX11_run 60 = .ok (.invokevirtual 341, 3) := by decide +kernel
theorem dX11_run_63 : decode cX11_run 63 = .ok (.istore 4, 2) := by decide +kernel
theorem dX11_run_65 : decode cX11_run 65 = .ok (.aload_n 0, 1) := by decide +kernel
theorem dX11_run_66 : decode cX11_run 66 = .ok (.getfield 23, 3) := by decide +kernel
theorem dX11_run_69 : decode cX11_run 69 = .ok (.iconst 0, 1) := by decide +kernel
theorem dX11_run_70 : decode cX11_run 70 = .ok (.dup2, 1) := by decide +kernel
theorem dX11_run_71 : decode cX11_run 71 = .ok (.iaload, 1) := by decide +kernel
theorem dX11_run_72 : decode cX11_run 72 = .ok (.iconst 1, 1) := by decide +kernel
theorem dX11_run_73 : decode cX11_run 73 = .ok (.iadd, 1) := by decide +kernel
theorem dX11_run_74 : decode cX11_run 74 = .ok (.iastore, 1) := by decide +kernel
theorem dX11_run_75 : decode cX11_run 75 = .ok (.iload 4, 2) := by decide +kernel
theorem dX11_run_77 : decode cX11_run 77 = .ok (.aload_n 0, 1) := by decide +kernel
theorem dX11_run_78 : decode cX11_run 78 = .ok (.invokevirtual 344, 3) := by decide +kernel
theorem dX11_run_81 : decode cX11_run 81 = .ok (.iconst (-1), 1) := by decide +kernel
theorem dX11_run_82 : decode cX11_run 82 = .ok (.ixor, 1) := by decide +kernel
theorem dX11_run_83 : decode cX11_run 83 = .ok (.iand, 1) := by decide +kernel
theorem dX11_run_84 : decode cX11_run 84 = .ok (.istore 4, 2) := by decide +kernel
theorem dX11_run_86 : decode cX11_run 86 = .ok (.iload 5, 2) := by decide +kernel
theorem dX11_run_88 : decode cX11_run 88 = .ok (.iconst (-1), 1) := by decide +kernel
theorem dX11_run_89 : decode cX11_run 89 = .ok (.if_icmp .ne 13, 3) := by decide +kernel
theorem dX11_run_92 : decode cX11_run 92 = .ok (.iload 4, 2) := by decide +kernel
theorem dX11_run_94 : decode cX11_run 94 = .ok (.ifCond .ne 8, 3) := by decide +kernel
theorem dX11_run_97 : decode cX11_run 97 = .ok (.iload 7, 2) := by decide +kernel
theorem dX11_run_99 : decode cX11_run 99 = .ok (.goto 5, 3) := by decide +kernel
theorem dX11_run_102 : decode cX11_run 102 = .ok (.iload 5, 2) := by decide +kernel
theorem dX11_run_104 : decode cX11_run 104 = .ok (.istore 5, 2) := by decide +kernel
theorem dX11_run_106 : decode cX11_run 106 = .ok (.iload 6, 2) := by decide +kernel
theorem dX11_run_108 : decode cX11_run 108 = .ok (.iload 4, 2) := by decide +kernel
theorem dX11_run_110 : decode cX11_run 110 = .ok (.invokestatic 329, 3) := by decide +kernel
theorem dX11_run_113 : decode cX11_run 113 = .ok (.iadd, 1) := by decide +kernel
theorem dX11_run_114 : decode cX11_run 114 = .ok (.istore 6, 2) := by decide +kernel
theorem dX11_run_116 : decode cX11_run 116 = .ok (.iinc 7 1, 3) := by decide +kernel
theorem dX11_run_119 : decode cX11_run 119 = .ok (.goto (-68), 3) := by decide +kernel
theorem dX11_run_122 : decode cX11_run 122 = .ok (.aload_n 0, 1) := by decide +kernel
theorem dX11_run_123 : decode cX11_run 123 = .ok (.getfield 23, 3) := by decide +kernel
theorem dX11_run_126 : decode cX11_run 126 = .ok (.iconst 0, 1) := by decide +kernel
theorem dX11_run_127 : decode cX11_run 127 = .ok (.iload_n 3, 1) := by decide +kernel
theorem dX11_run_128 : decode cX11_run 128 = .ok (.iastore, 1) := by decide +kernel
theorem dX11_run_129 : decode cX11_run 129 = .ok (.iload_n 2, 1) := by decide +kernel
theorem dX11_run_130 : decode cX11_run 130 = .ok (.ifCond .ne 8, 3) := by decide +kernel
theorem dX11_run_133 : decode cX11_run 133 = .ok (.iload 4, 2) := by decide +kernel
theorem dX11_run_135 : decode cX11_run 135 = .ok (.goto 15, 3) := by decide +kernel
theorem dX11_run_138 : decode cX11_run 138 = .ok (.iload_n 2, 1) := by decide +kernel
theorem dX11_run_139 : decode cX11_run 139 = .ok (.iconst 1, 1) := by decide +kernel
theorem dX11_run_140 : decode cX11_run 140 = .ok (.if_icmp .ne 8, 3) := by decide +kernel
theorem dX11_run_143 : decode cX11_run 143 = .ok (.iload 5, 2) := by decide +kernel
theorem dX11_run_145 : decode cX11_run 145 = .ok (.goto 5, 3) := by decide +kernel
theorem dX11_run_148 : decode cX11_run 148 = .ok (.iload 6, 2) := by decide +kernel
theorem dX11_run_150 : decode cX11_run 150 = .ok (.ireturn, 1) := by decide +kernel
theorem dX11_nextOf_0 : decode cX11_nextOf 0 = .ok (.aload_n 0, 1) := by decide +kernel
theorem dX11_nextOf_1 : decode cX11_nextOf 1 = .ok (.getfield 35, 3) := by decide +kernel
theorem dX11_nextOf_4 : decode cX11_nextOf 4 = .ok (.iload_n 1, 1) := by decide +kernel
theorem dX11_nextOf_5 : decode cX11_nextOf 5 = .ok (.bipush 8, 2) := by decide +kernel
theorem dX11_nextOf_7 : decode cX11_nextOf 7 = .ok (.idiv, 1) := by decide +kernel
theorem dX11_nextOf_8 : decode cX11_nextOf 8 = .ok (.iaload, 1) := by decide +kernel
theorem dX11_nextOf_9 : decode cX11_nextOf 9 = .ok (.istore 4, 2) := by decide +kernel
theorem dX11_nextOf_11 : decode cX11_nextOf 11 = .ok (.bipush 8, 2) := by decide +kernel
theorem dX11_nextOf_13 : decode cX11_nextOf 13 = .ok (.iload 4, 2) := by decide +kernel
theorem dX11_nextOf_15 : decode cX11_nextOf 15 = .ok (.iload_n 3, 1) := by decide +kernel
theorem dX11_nextOf_16 : decode cX11_nextOf 16 = .ok (.iload_n 2, 1) := by decide +kernel
theorem dX11_nextOf_17 : decode cX11_nextOf 17 = .ok (.ishr, 1) := by decide +kernel
theorem dX11_nextOf_18 : decode cX11_nextOf 18 = .ok (.iconst 1, 1) := by decide +kernel
theorem dX11_nextOf_19 : decode cX11_nextOf 19 = .ok (.iand, 1) := by decide +kernel
theorem dX11_nextOf_20 : decode cX11_nextOf 20 = .ok (.iload_n 2, 1) := by decide +kernel
theorem dX11_nextOf_21 : decode cX11_nextOf 21 = .ok (.ishl, 1) := by decide +kernel
theorem dX11_nextOf_22 : decode cX11_nextOf 22 = .ok (.iconst (-1), 1) := by decide +kernel
theorem dX11_nextOf_23 : decode cX11_nextOf 23 = .ok (.ixor, 1) := by decide +kernel
theorem dX11_nextOf_24 : decode cX11_nextOf 24 = .ok (.iand, 1) := by decide +kernel
theorem dX11_nextOf_25 : decode cX11_nextOf 25 = .ok (.imul, 1) := by decide +kernel
theorem dX11_nextOf_26 : decode cX11_nextOf 26 = .ok (.iload_n 2, 1) := by decide +kernel
theorem dX11_nextOf_27 : decode cX11_nextOf 27 = .ok (.iadd, 1) := by decide +kernel
theorem dX11_nextOf_28 : decode cX11_nextOf 28 = .ok (.ireturn, 1) := by decide +kernel
theorem dX11_counts_0 : decode cX11_counts 0 = .ok (.aload_n 0, 1) := by decide +kernel
theorem dX11_counts_1 : decode cX11_counts 1 = .ok (.iload_n 1, 1) := by decide +kernel
theorem dX11_counts_2 : decode cX11_counts 2 = .ok (.invokevirtual 117, 3) := by decide +kernel
theorem dX11_counts_5 : decode cX11_counts 5 = .ok (.istore_n 2, 1) := by decide +kernel
theorem dX11_counts_6 : decode cX11_counts 6 = .ok (.iconst 0, 1) := by decide +kernel
theorem dX11_counts_7 : decode cX11_counts 7 = .ok (.istore_n 3, 1) := by decide +kernel
theorem dX11_counts_8 : decode cX11_counts 8 = .ok (.iload_n 3, 1) := by decide +kernel
theorem dX11_counts_9 : decode cX11_counts 9 = .ok (.bipush 8, 2) := by decide +kernel
theorem dX11_counts_11 : decode cX11_counts 11 = .ok (.if_icmp .ge 22, 3) := by decide +kernel
theorem dX11_counts_14 : decode cX11_counts 14 = .ok (.aload_n 0, 1) := by decide +kernel
theorem dX11_counts_15 : decode cX11_counts 15 = .ok (.getfield 35, 3) := by decide +kernel
theorem dX11_counts_18 : decode cX11_counts 18 = .ok (.iconst 1, 1) := by decide +kernel
theorem dX11_counts_19 : decode cX11_counts 19 = .ok (.iload_n 3, 1) := by decide +kernel
theorem dX11_counts_20 : decode cX11_counts 20 = .ok (.ishl, 1) := by decide +kernel
theorem dX11_counts_21 : decode cX11_counts 21 = .ok (.aload_n 0, 1) := by decide +kernel
theorem dX11_counts_22 : decode cX11_counts 22 = .ok (.iload_n 3, 1) := by decide +kernel
theorem dX11_counts_23 : decode cX11_counts 23 = .ok (.invokevirtual 120, 3) := by decide +kernel
theorem dX11_counts_26 : decode cX11_counts 26 = .ok (.iastore, 1) := by decide +kernel
theorem dX11_counts_27 : decode cX11_counts 27 = .ok (.iinc 3 1, 3) := by decide +kernel
theorem dX11_counts_30 : decode cX11_counts 30 = .ok (.goto (-22), 3) := by decide +kernel
theorem dX11_counts_33 : decode cX11_counts 33 = .ok (.aload_n 0, 1) := by decide +kernel
theorem dX11_counts_34 : decode cX11_counts 34 = .ok (.getfield 35, 3) := by decide +kernel
theorem dX11_counts_37 : decode cX11_counts 37 = .ok (.iconst 0, 1) := by decide +kernel
theorem dX11_counts_38 : decode cX11_counts 38 = .ok (.iconst 0, 1) := by decide +kernel
theorem dX11_counts_39 : decode cX11_counts 39 = .ok (.iastore, 1) := by decide +kernel
theorem dX11_counts_40 : decode cX11_counts 40 = .ok (.iconst 1, 1) := by decide +kernel
theorem dX11_counts_41 : decode cX11_counts 41 = .ok (.istore_n 3, 1) := by decide +kernel
theorem dX11_counts_42 : decode cX11_counts 42 = .ok (.iload_n 3, 1) := by decide +kernel
theorem dX11_counts_43 : decode cX11_counts 43 = .ok (.sipush 256, 3) := by decide +kernel
theorem dX11_counts_46 : decode cX11_counts 46 = .ok (.if_icmp .ge 40, 3) := by decide +kernel
theorem dX11_counts_49 : decode cX11_counts 49 = .ok (.iload_n 3, 1) := by decide +kernel
theorem dX11_counts_50 : decode cX11_counts 50 = .ok (.iload_n 3, 1) := by decide +kernel
theorem dX11_counts_51 : decode cX11_counts 51 = .ok (.ineg, 1) := by decide +kernel
theorem dX11_counts_52 : decode cX11_counts 52 = .ok (.iand, 1) := by decide +kernel
theorem dX11_counts_53 : decode cX11_counts 53 = .ok (.istore 4, 2) := by decide +kernel
theorem dX11_counts_55 : decode cX11_counts 55 = .ok (.aload_n 0, 1) := by decide +kernel
theorem dX11_counts_56 : decode cX11_counts 56 = .ok (.getfield 35, 3) := by decide +kernel
theorem dX11_counts_59 : decode cX11_counts 59 = .ok (.iload_n 3, 1) := by decide +kernel
theorem dX11_counts_60 : decode cX11_counts 60 = .ok (.aload_n 0, 1) := by decide +kernel
theorem dX11_counts_61 : decode cX11_counts 61 = .ok (.getfield 35, 3) := by decide +kernel
theorem dX11_counts_64 : decode cX11_counts 64 = .ok (.iload 4, 2) := by decide +kernel
theorem dX11_counts_66 : decode cX11_counts 66 = .ok (.iaload, 1) := by decide +kernel
theorem dX11_counts_67 : decode cX11_counts 67 = .ok (.aload_n 0, 1) := by decide +kernel
theorem dX11_counts_68 : decode cX11_counts 68 = .ok (.getfield 35, 3) := by decide +kernel
theorem dX11_counts_71 : decode cX11_counts 71 = .ok (.iload_n 3, 1) := by decide +kernel
theorem dX11_counts_72 : decode cX11_counts 72 = .ok (.iload 4, 2) := by decide +kernel
theorem dX11_counts_74 : decode cX11_counts 74 = .ok (.iconst (-1), 1) := by decide +kernel
theorem dX11_counts_75 : decode cX11_counts 75 = .ok (.ixor, 1) := by decide +kernel
theorem dX11_counts_76 : decode cX11_counts 76 = .ok (.iand, 1) := by decide +kernel
theorem dX11_counts_77 : decode cX11_counts 77 = .ok (.iaload, 1) := by decide +kernel
theorem dX11_counts_78 : decode cX11_counts 78 = .ok (.ior, 1) := by decide +kernel
theorem dX11_counts_79 : decode cX11_counts 79 = .ok (.iastore, 1) := by decide +kernel
theorem dX11_counts_80 : decode cX11_counts 80 = .ok (.iinc 3 1, 3) := by decide +kernel
theorem dX11_counts_83 : decode cX11_counts 83 = .ok (.goto (-41), 3) := by decide +kernel
theorem dX11_counts_86 : decode cX11_counts 86 = .ok (.iconst 0, 1) := by decide +kernel
theorem dX11_counts_87 : decode cX11_counts 87 = .ok (.istore_n 3, 1) := by decide +kernel
theorem dX11_counts_88 : decode cX11_counts 88 = .ok (.iload_n 3, 1) := by decide +kernel
theorem dX11_counts_89 : decode cX11_counts 89 = .ok (.sipush 2048, 3) := by decide +kernel
theorem dX11_counts_92 : decode cX11_counts 92 = .ok (.if_icmp .ge 28, 3) := by decide +kernel
theorem dX11_counts_95 : decode cX11_counts 95 = .ok (.aload_n 0, 1) := by decide +kernel
theorem dX11_counts_96 : decode cX11_counts 96 = .ok (.getfield 38, 3) := by decide +kernel
theorem dX11_counts_99 : decode cX11_counts 99 = .ok (.iload_n 3, 1) := by decide +kernel
theorem dX11_counts_100 : decode cX11_counts 100 = .ok (.iload_n 3, 1) := by decide +kernel
theorem dX11_counts_101 : decode cX11_counts 101 = .ok (.bipush 8, 2) := by decide +kernel
theorem dX11_counts_103 : decode cX11_counts 103 = .ok (.if_icmp .ge 7, 3) := by decide +kernel
theorem dX11_counts_106 : decode cX11_counts 106 = .ok (.iconst 0, 1) := by decide +kernel
theorem dX11_counts_107 : decode cX11_counts 107 = .ok (.goto 6, 3) := by decide +kernel
theorem dX11_counts_110 : decode cX11_counts 110 = .ok (.ldc_w 353, 3) := by decide +kernel
theorem dX11_counts_113 : decode cX11_counts 113 = .ok (.iastore, 1) := by decide +kernel
theorem dX11_counts_114 : decode cX11_counts 114 = .ok (.iinc 3 1, 3) := by decide +kernel
theorem dX11_counts_117 : decode cX11_counts 117 = .ok (.goto (-29), 3) := by decide +kernel
theorem dX11_counts_120 : decode cX11_counts 120 = .ok (.iconst 1, 1) := by decide +kernel
theorem dX11_counts_121 : decode cX11_counts 121 = .ok (.istore_n 3, 1) := by decide +kernel
theorem dX11_counts_122 : decode cX11_counts 122 = .ok (.iconst 1, 1) := by decide +kernel
theorem dX11_counts_123 : decode cX11_counts 123 = .ok (.istore 4, 2) := by decide +kernel
theorem dX11_counts_125 : decode cX11_counts 125 = .ok (.iload 4, 2) := by decide +kernel
theorem dX11_counts_127 : decode cX11_counts 127 = .ok (.bipush 40, 2) := by decide +kernel
theorem dX11_counts_129 : decode cX11_counts 129 = .ok (.if_icmp .gt 69, 3) := by decide +kernel
theorem dX11_counts_132 : decode cX11_counts 132 = .ok (.iload_n 3, 1) := by decide +kernel
theorem dX11_counts_133 : decode cX11_counts 133 = .ok (.ifCond .eq 65, 3) := by decide +kernel
theorem dX11_counts_136 : decode cX11_counts 136 = .ok (.iconst 0, 1) := by decide +kernel
theorem dX11_counts_137 : decode cX11_counts 137 = .ok (.istore_n 3, 1) := by decide +kernel
theorem dX11_counts_138 : decode cX11_counts 138 = .ok (.bipush 8, 2) := by decide +kernel
theorem dX11_counts_140 : decode cX11_counts 140 = .ok (.istore 5, 2) := by decide +kernel
theorem dX11_counts_142 : decode cX11_counts 142 = .ok (.iload 5, 2) := by decide +kernel
theorem dX11_counts_144 : decode cX11_counts 144 = .ok (.sipush 2048, 3) := by decide +kernel
theorem dX11_counts_147 : decode cX11_counts 147 = .ok (.if_icmp .ge 45, 3) := by decide +kernel
theorem dX11_counts_150 : decode cX11_counts 150 = .ok (.aload_n 0, 1) := by decide +kernel
theorem dX11_counts_151 : decode cX11_counts 151 = .ok (.getfield 38, 3) := by decide +kernel
theorem dX11_counts_154 : decode cX11_counts 154 = .ok (.iload 5, 2) := by decide +kernel
theorem dX11_counts_156 : decode cX11_counts 156 = .ok (.iaload, 1) := by decide +kernel
theorem dX11_counts_157 : decode cX11_counts 157 = .ok (.ldc_w 353, 3) := by decide +kernel
theorem dX11_counts_160 : decode cX11_counts 160 = .ok (.if_icmp .ne 26, 3) := by decide +kernel
theorem dX11_counts_163 : decode cX11_counts 163 = .ok (.aload_n 0, 1) := by decide +kernel
theorem dX11_counts_164 : decode cX11_counts 164 = .ok (.iload 5, 2) := by decide +kernel
theorem dX11_counts_166 : decode cX11_counts 166 = .ok (.iload 4, 2) := by decide +kernel
theorem dX11_counts_168 : decode cX11_counts 168 = .ok (.iload_n 2, 1) := by decide +kernel
theorem dX11_counts_169 : decode cX11_counts 169 = .ok (.invokevirtual 354, 3) := by decide +kernel
theorem dX11_counts_172 : decode cX11_counts 172 = .ok (.ifCond .eq 14, 3) := by decide +kernel
theorem dX11_counts_175 : decode cX11_counts 175 = .ok (.aload_n 0, 1) := by decide +kernel
theorem dX11_counts_176 : decode cX11_counts 176 = .ok (.getfield 38, 3) := by decide +kernel
theorem dX11_counts_179 : decode cX11_counts 179 = .ok (.iload 5, 2) := by decide +kernel
theorem dX11_counts_181 : decode cX11_counts 181 = .ok (.iload 4, 2) := by decide +kernel
theorem dX11_counts_183 : decode cX11_counts 183 = .ok (.iastore, 1) := by decide +kernel
theorem dX11_counts_184 : decode cX11_counts 184 = .ok (.iconst 1, 1) := by decide +kernel
theorem dX11_counts_185 : decode cX11_counts 185 = .ok (.istore_n 3, 1) := by decide +kernel
theorem dX11_counts_186 : decode cX11_counts 186 = .ok (.iinc 5 1, 3) := by decide +kernel
theorem dX11_counts_189 : decode cX11_counts 189 = .ok (.goto (-47), 3) := by decide +kernel
theorem dX11_counts_192 : decode cX11_counts 192 = .ok (.iinc 4 1, 3) := by decide +kernel
theorem dX11_counts_195 : decode cX11_counts 195 = .ok (.goto (-70), 3) := by decide +kernel
theorem dX11_counts_198 : decode cX11_counts 198 = .ok (.return_, 1) := by decide +kernel
theorem dX11_comesBy_0 : decode cX11_comesBy 0 = .ok (.aload_n 0, 1) := by decide +kernel
theorem dX11_comesBy_1 : decode cX11_comesBy 1 = .ok (.getfield 26, 3) := by decide +kernel
theorem dX11_comesBy_4 : decode cX11_comesBy 4 = .ok (.iload_n 1, 1) := by decide +kernel
theorem dX11_comesBy_5 : decode cX11_comesBy 5 = .ok (.bipush 8, 2) := by decide +kernel
theorem dX11_comesBy_7 : decode cX11_comesBy 7 = .ok (.irem, 1) := by decide +kernel
theorem dX11_comesBy_8 : decode cX11_comesBy 8 = .ok (.iaload, 1) := by decide +kernel
theorem dX11_comesBy_9 : decode cX11_comesBy 9 = .ok (.iconst 1, 1) := by decide +kernel
theorem dX11_comesBy_10 : decode cX11_comesBy 10 = .ok (.iload_n 1, 1) := by decide +kernel
theorem dX11_comesBy_11 : decode cX11_comesBy 11 = .ok (.bipush 8, 2) := by decide +kernel
theorem dX11_comesBy_13 : decode cX11_comesBy 13 = .ok (.irem, 1) := by decide +kernel
theorem dX11_comesBy_14 : decode cX11_comesBy 14 = .ok (.ishl, 1) := by decide +kernel
theorem dX11_comesBy_15 : decode cX11_comesBy 15 = .ok (.ior, 1) := by decide +kernel
theorem dX11_comesBy_16 : decode cX11_comesBy 16 = .ok (.istore 4, 2) := by decide +kernel
theorem dX11_comesBy_18 : decode cX11_comesBy 18 = .ok (.iconst 0, 1) := by decide +kernel
theorem dX11_comesBy_19 : decode cX11_comesBy 19 = .ok (.istore 5, 2) := by decide +kernel
theorem dX11_comesBy_21 : decode cX11_comesBy 21 = .ok (.iload 5, 2) := by decide +kernel
theorem dX11_comesBy_23 : decode cX11_comesBy 23 = .ok (.bipush 8, 2) := by decide +kernel
theorem dX11_comesBy_25 : decode cX11_comesBy 25 = .ok (.if_icmp .ge 41, 3) := by decide +kernel
theorem dX11_comesBy_28 : decode cX11_comesBy 28 = .ok (.iload 4, 2) := by decide +kernel
theorem dX11_comesBy_30 : decode cX11_comesBy 30 = .ok (.iload 5, 2) := by decide +kernel
theorem dX11_comesBy_32 : decode cX11_comesBy 32 = .ok (.ishr, 1) := by decide +kernel
theorem dX11_comesBy_33 : decode cX11_comesBy 33 = .ok (.iconst 1, 1) := by decide +kernel
theorem dX11_comesBy_34 : decode cX11_comesBy 34 = .ok (.iand, 1) := by decide +kernel
theorem dX11_comesBy_35 : decode cX11_comesBy 35 = .ok (.iconst 1, 1) := by decide +kernel
theorem dX11_comesBy_36 : decode cX11_comesBy 36 = .ok (.if_icmp .ne 24, 3) := by decide +kernel
theorem dX11_comesBy_39 : decode cX11_comesBy 39 = .ok (.aload_n 0, 1) := by decide +kernel
theorem dX11_comesBy_40 : decode cX11_comesBy 40 = .ok (.getfield 38, 3) := by decide +kernel
theorem dX11_comesBy_43 : decode cX11_comesBy 43 = .ok (.aload_n 0, 1) := by decide +kernel
theorem dX11_comesBy_44 : decode cX11_comesBy 44 = .ok (.iload_n 1, 1) := by decide +kernel
theorem dX11_comesBy_45 : decode cX11_comesBy 45 = .ok (.iload 5, 2) := by decide +kernel
theorem dX11_comesBy_47 : decode cX11_comesBy 47 = .ok (.iload_n 3, 1) := by decide +kernel
theorem dX11_comesBy_48 : decode cX11_comesBy 48 = .ok (.invokevirtual 358, 3) := by decide +kernel
theorem dX11_comesBy_51 : decode cX11_comesBy 51 = .ok (.iaload, 1) := by decide +kernel
theorem dX11_comesBy_52 : decode cX11_comesBy 52 = .ok (.iload_n 2, 1) := by decide +kernel
theorem dX11_comesBy_53 : decode cX11_comesBy 53 = .ok (.iconst 1, 1) := by decide +kernel
theorem dX11_comesBy_54 : decode cX11_comesBy 54 = .ok (.isub, 1) := by decide +kernel
theorem dX11_comesBy_55 : decode cX11_comesBy 55 = .ok (.if_icmp .ne 5, 3) := by decide +kernel
theorem dX11_comesBy_58 : decode cX11_comesBy 58 = .ok (.iconst 1, 1) := by decide +kernel
theorem dX11_comesBy_59 : decode cX11_comesBy 59 = .ok (.ireturn, 1) := by decide +kernel
theorem dX11_comesBy_60 : decode cX11_comesBy 60 = .ok (.iinc 5 1, 3) := by decide +kernel
theorem dX11_comesBy_63 : decode cX11_comesBy 63 = .ok (.goto (-42), 3) := by decide +kernel
theorem dX11_comesBy_66 : decode cX11_comesBy 66 = .ok (.iconst 0, 1) := by decide +kernel
theorem dX11_comesBy_67 : decode cX11_comesBy 67 = .ok (.ireturn, 1) := by decide +kernel
theorem dX11_sureFrom_0 : decode cX11_sureFrom 0 = .ok (.aload_n 0, 1) := by decide +kernel
theorem dX11_sureFrom_1 : decode cX11_sureFrom 1 = .ok (.getfield 38, 3) := by decide +kernel
theorem dX11_sureFrom_4 : decode cX11_sureFrom 4 = .ok (.bipush 8, 2) := by decide +kernel
theorem dX11_sureFrom_6 : decode cX11_sureFrom 6 = .ok (.aload_n 0, 1) := by decide +kernel
theorem dX11_sureFrom_7 : decode cX11_sureFrom 7 = .ok (.getfield 23, 3) := by decide +kernel
theorem dX11_sureFrom_10 : decode cX11_sureFrom 10 = .ok (.iconst 3, 1) := by decide +kernel
theorem dX11_sureFrom_11 : decode cX11_sureFrom 11 = .ok (.iaload, 1) := by decide +kernel
theorem dX11_sureFrom_12 : decode cX11_sureFrom 12 = .ok (.imul, 1) := by decide +kernel
theorem dX11_sureFrom_13 : decode cX11_sureFrom 13 = .ok (.iload_n 1, 1) := by decide +kernel
theorem dX11_sureFrom_14 : decode cX11_sureFrom 14 = .ok (.iadd, 1) := by decide +kernel
theorem dX11_sureFrom_15 : decode cX11_sureFrom 15 = .ok (.iaload, 1) := by decide +kernel
theorem dX11_sureFrom_16 : decode cX11_sureFrom 16 = .ok (.istore_n 2, 1) := by decide +kernel
theorem dX11_sureFrom_17 : decode cX11_sureFrom 17 = .ok (.iload_n 2, 1) := by decide +kernel
theorem dX11_sureFrom_18 : decode cX11_sureFrom 18 = .ok (.ldc_w 353, 3) := by decide +kernel
theorem dX11_sureFrom_21 : decode cX11_sureFrom 21 = .ok (.if_icmp .ne 7, 3) := by decide +kernel
theorem dX11_sureFrom_24 : decode cX11_sureFrom 24 = .ok (.iconst (-1), 1) := by decide +kernel
theorem dX11_sureFrom_25 : decode cX11_sureFrom 25 = .ok (.goto 4, 3) := by decide +kernel
theorem dX11_sureFrom_28 : decode cX11_sureFrom 28 = .ok (.iload_n 2, 1) := by decide +kernel
theorem dX11_sureFrom_29 : decode cX11_sureFrom 29 = .ok (.ireturn, 1) := by decide +kernel
theorem dX11_wayOf_0 : decode cX11_wayOf 0 = .ok (.aload_n 0, 1) := by decide +kernel
theorem dX11_wayOf_1 : decode cX11_wayOf 1 = .ok (.iload_n 1, 1) := by decide +kernel
theorem dX11_wayOf_2 : decode cX11_wayOf 2 = .ok (.invokevirtual 117, 3) := by decide +kernel
theorem dX11_wayOf_5 : decode cX11_wayOf 5 = .ok (.istore_n 2, 1) := by decide +kernel
theorem dX11_wayOf_6 : decode cX11_wayOf 6 = .ok (.bipush 8, 2) := by decide +kernel
theorem dX11_wayOf_8 : decode cX11_wayOf 8 = .ok (.aload_n 0, 1) := by decide +kernel
theorem dX11_wayOf_9 : decode cX11_wayOf 9 = .ok (.getfield 23, 3) := by decide +kernel
theorem dX11_wayOf_12 : decode cX11_wayOf 12 = .ok (.iconst 3, 1) := by decide +kernel
theorem dX11_wayOf_13 : decode cX11_wayOf 13 = .ok (.iaload, 1) := by decide +kernel
theorem dX11_wayOf_14 : decode cX11_wayOf 14 = .ok (.imul, 1) := by decide +kernel
theorem dX11_wayOf_15 : decode cX11_wayOf 15 = .ok (.aload_n 0, 1) := by decide +kernel
theorem dX11_wayOf_16 : decode cX11_wayOf 16 = .ok (.getfield 32, 3) := by decide +kernel
theorem dX11_wayOf_19 : decode cX11_wayOf 19 = .ok (.iconst 3, 1) := by decide +kernel
theorem dX11_wayOf_20 : decode cX11_wayOf 20 = .ok (.iload_n 1, 1) := by decide +kernel
theorem dX11_wayOf_21 : decode cX11_wayOf 21 = .ok (.imul, 1) := by decide +kernel
theorem dX11_wayOf_22 : decode cX11_wayOf 22 = .ok (.iconst 1, 1) := by decide +kernel
theorem dX11_wayOf_23 : decode cX11_wayOf 23 = .ok (.iadd, 1) := by decide +kernel
theorem dX11_wayOf_24 : decode cX11_wayOf 24 = .ok (.iaload, 1) := by decide +kernel
theorem dX11_wayOf_25 : decode cX11_wayOf 25 = .ok (.iadd, 1) := by decide +kernel
theorem dX11_wayOf_26 : decode cX11_wayOf 26 = .ok (.istore_n 3, 1) := by decide +kernel
theorem dX11_wayOf_27 : decode cX11_wayOf 27 = .ok (.iconst 0, 1) := by decide +kernel
theorem dX11_wayOf_28 : decode cX11_wayOf 28 = .ok (.istore 4, 2) := by decide +kernel
theorem dX11_wayOf_30 : decode cX11_wayOf 30 = .ok (.aload_n 0, 1) := by decide +kernel
theorem dX11_wayOf_31 : decode cX11_wayOf 31 = .ok (.getfield 38, 3) := by decide +kernel
theorem dX11_wayOf_34 : decode cX11_wayOf 34 = .ok (.iload_n 3, 1) := by decide +kernel
theorem dX11_wayOf_35 : decode cX11_wayOf 35 = .ok (.iaload, 1) := by decide +kernel
theorem dX11_wayOf_36 : decode cX11_wayOf 36 = .ok (.ifCond .le 88, 3) := by decide +kernel
theorem dX11_wayOf_39 : decode cX11_wayOf 39 = .ok (.aload_n 0, 1) := by decide +kernel
theorem dX11_wayOf_40 : decode cX11_wayOf 40 = .ok (.getfield 26, 3) := by decide +kernel
theorem dX11_wayOf_43 : decode cX11_wayOf 43 = .ok (.iload_n 3, 1) := by decide +kernel
theorem dX11_wayOf_44 : decode cX11_wayOf 44 = .ok (.bipush 8, 2) := by decide +kernel
theorem dX11_wayOf_46 : decode cX11_wayOf 46 = .ok (.irem, 1) := by decide +kernel
theorem dX11_wayOf_47 : decode cX11_wayOf 47 = .ok (.iaload, 1) := by decide +kernel
theorem dX11_wayOf_48 : decode cX11_wayOf 48 = .ok (.iconst 1, 1) := by decide +kernel
theorem dX11_wayOf_49 : decode cX11_wayOf 49 = .ok (.iload_n 3, 1) := by decide +kernel
theorem dX11_wayOf_50 : decode cX11_wayOf 50 = .ok (.bipush 8, 2) := by decide +kernel
theorem dX11_wayOf_52 : decode cX11_wayOf 52 = .ok (.irem, 1) := by decide +kernel
theorem dX11_wayOf_53 : decode cX11_wayOf 53 = .ok (.ishl, 1) := by decide +kernel
theorem dX11_wayOf_54 : decode cX11_wayOf 54 = .ok (.ior, 1) := by decide +kernel
theorem dX11_wayOf_55 : decode cX11_wayOf 55 = .ok (.istore 5, 2) := by decide +kernel
theorem dX11_wayOf_57 : decode cX11_wayOf 57 = .ok (.iconst 0, 1) := by decide +kernel
theorem dX11_wayOf_58 : decode cX11_wayOf 58 = .ok (.istore 6, 2) := by decide +kernel
theorem dX11_wayOf_60 : decode cX11_wayOf 60 = .ok (.iload 5, 2) := by decide +kernel
theorem dX11_wayOf_62 : decode cX11_wayOf 62 = .ok (.iload 6, 2) := by decide +kernel
theorem dX11_wayOf_64 : decode cX11_wayOf 64 = .ok (.ishr, 1) := by decide +kernel
theorem dX11_wayOf_65 : decode cX11_wayOf 65 = .ok (.iconst 1, 1) := by decide +kernel
theorem dX11_wayOf_66 : decode cX11_wayOf 66 = .ok (.iand, 1) := by decide +kernel
theorem dX11_wayOf_67 : decode cX11_wayOf 67 = .ok (.ifCond .eq 27, 3) := by decide +kernel
theorem dX11_wayOf_70 : decode cX11_wayOf 70 = .ok (.aload_n 0, 1) := by decide +kernel
theorem dX11_wayOf_71 : decode cX11_wayOf 71 = .ok (.getfield 38, 3) := by decide +kernel
theorem dX11_wayOf_74 : decode cX11_wayOf 74 = .ok (.aload_n 0, 1) := by decide +kernel
theorem dX11_wayOf_75 : decode cX11_wayOf 75 = .ok (.iload_n 3, 1) := by decide +kernel
theorem dX11_wayOf_76 : decode cX11_wayOf 76 = .ok (.iload 6, 2) := by decide +kernel
theorem dX11_wayOf_78 : decode cX11_wayOf 78 = .ok (.iload_n 2, 1) := by decide +kernel
theorem dX11_wayOf_79 : decode cX11_wayOf 79 = .ok (.invokevirtual 358, 3) := by decide +kernel
theorem dX11_wayOf_82 : decode cX11_wayOf 82 = .ok (.iaload, 1) := by decide +kernel
theorem dX11_wayOf_83 : decode cX11_wayOf 83 = .ok (.aload_n 0, 1) := by decide +kernel
theorem dX11_wayOf_84 : decode cX11_wayOf 84 = .ok (.getfield 38, 3) := by decide +kernel
theorem dX11_wayOf_87 : decode cX11_wayOf 87 = .ok (.iload_n 3, 1) := by decide +kernel
theorem dX11_wayOf_88 : decode cX11_wayOf 88 = .ok (.iaload, 1) := by decide +kernel
theorem dX11_wayOf_89 : decode cX11_wayOf 89 = .ok (.iconst 1, 1) := by decide +kernel
theorem dX11_wayOf_90 : decode cX11_wayOf 90 = .ok (.isub, 1) := by decide +kernel
theorem dX11_wayOf_91 : decode cX11_wayOf 91 = .ok (.if_icmp .eq 9, 3) := by decide +kernel
theorem dX11_wayOf_94 : decode cX11_wayOf 94 = .ok (.iinc 6 1, 3) := by decide +kernel
theorem dX11_wayOf_97 : decode cX11_wayOf 97 = .ok (.goto (-37), 3) := by decide +kernel
theorem dX11_wayOf_100 : decode cX11_wayOf 100 = .ok (.bipush 10, 2) := by decide +kernel
theorem dX11_wayOf_102 : decode cX11_wayOf 102 = .ok (.iload 4, 2) := by decide +kernel
theorem dX11_wayOf_104 : decode cX11_wayOf 104 = .ok (.imul, 1) := by decide +kernel
theorem dX11_wayOf_105 : decode cX11_wayOf 105 = .ok (.iload 6, 2) := by decide +kernel
theorem dX11_wayOf_107 : decode cX11_wayOf 107 = .ok (.iadd, 1) := by decide +kernel
theorem dX11_wayOf_108 : decode cX11_wayOf 108 = .ok (.iconst 1, 1) := by decide +kernel
theorem dX11_wayOf_109 : decode cX11_wayOf 109 = .ok (.iadd, 1) := by decide +kernel
theorem dX11_wayOf_110 : decode cX11_wayOf 110 = .ok (.istore 4, 2) := by decide +kernel
theorem dX11_wayOf_112 : decode cX11_wayOf 112 = .ok (.aload_n 0, 1) := by decide +kernel
theorem dX11_wayOf_113 : decode cX11_wayOf 113 = .ok (.iload_n 3, 1) := by decide +kernel
theorem dX11_wayOf_114 : decode cX11_wayOf 114 = .ok (.iload 6, 2) := by decide +kernel
theorem dX11_wayOf_116 : decode cX11_wayOf 116 = .ok (.iload_n 2, 1) := by decide +kernel
theorem dX11_wayOf_117 : decode cX11_wayOf 117 = .ok (.invokevirtual 358, 3) := by decide +kernel
theorem dX11_wayOf_120 : decode cX11_wayOf 120 = .ok (.istore_n 3, 1) := by decide +kernel
theorem dX11_wayOf_121 : decode cX11_wayOf 121 = .ok (.goto (-91), 3) := by decide +kernel
theorem dX11_wayOf_124 : decode cX11_wayOf 124 = .ok (.iload 4, 2) := by decide +kernel
theorem dX11_wayOf_126 : decode cX11_wayOf 126 = .ok (.ireturn, 1) := by decide +kernel
theorem dX11_sure_0 : decode cX11_sure 0 = .ok (.aload_n 0, 1) := by decide +kernel
theorem dX11_sure_1 : decode cX11_sure 1 = .ok (.iload_n 1, 1) := by decide +kernel
theorem dX11_sure_2 : decode cX11_sure 2 = .ok (.invokevirtual 86, 3) := by decide +kernel
theorem dX11_sure_5 : decode cX11_sure 5 = .ok (.ifCond .eq 25, 3) := by decide +kernel
theorem dX11_sure_8 : decode cX11_sure 8 = .ok (.iload_n 2, 1) := by decide +kernel
theorem dX11_sure_9 : decode cX11_sure 9 = .ok (.i2l, 1) := by decide +kernel
theorem dX11_sure_10 : decode cX11_sure 10 = .ok (.lconst 0, 1) := by decide +kernel
theorem dX11_sure_11 : decode cX11_sure 11 = .ok (.ldc2_w 351, 3) := by decide +kernel
theorem dX11_sure_14 : decode cX11_sure 14 = .ok (.invokestatic 76, 3) := by decide +kernel
theorem dX11_sure_17 : decode cX11_sure 17 = .ok (.ifCond .eq 13, 3) := by decide +kernel
theorem dX11_sure_20 : decode cX11_sure 20 = .ok (.iload_n 3, 1) := by decide +kernel
theorem dX11_sure_21 : decode cX11_sure 21 = .ok (.i2l, 1) := by decide +kernel
theorem dX11_sure_22 : decode cX11_sure 22 = .ok (.lconst 0, 1) := by decide +kernel
theorem dX11_sure_23 : decode cX11_sure 23 = .ok (.lconst 1, 1) := by decide +kernel
theorem dX11_sure_24 : decode cX11_sure 24 = .ok (.invokestatic 76, 3) := by decide +kernel
theorem dX11_sure_27 : decode cX11_sure 27 = .ok (.ifCond .ne 6, 3) := by decide +kernel
theorem dX11_sure_30 : decode cX11_sure 30 = .ok (.bipush (-2), 2) := by decide +kernel
theorem dX11_sure_32 : decode cX11_sure 32 = .ok (.ireturn, 1) := by decide +kernel
theorem dX11_sure_33 : decode cX11_sure 33 = .ok (.aload_n 0, 1) := by decide +kernel
theorem dX11_sure_34 : decode cX11_sure 34 = .ok (.iload_n 1, 1) := by decide +kernel
theorem dX11_sure_35 : decode cX11_sure 35 = .ok (.invokevirtual 362, 3) := by decide +kernel
theorem dX11_sure_38 : decode cX11_sure 38 = .ok (.aload_n 0, 1) := by decide +kernel
theorem dX11_sure_39 : decode cX11_sure 39 = .ok (.aload_n 0, 1) := by decide +kernel
theorem dX11_sure_40 : decode cX11_sure 40 = .ok (.getfield 32, 3) := by decide +kernel
theorem dX11_sure_43 : decode cX11_sure 43 = .ok (.iconst 3, 1) := by decide +kernel
theorem dX11_sure_44 : decode cX11_sure 44 = .ok (.iload_n 1, 1) := by decide +kernel
theorem dX11_sure_45 : decode cX11_sure 45 = .ok (.imul, 1) := by decide +kernel
theorem dX11_sure_46 : decode cX11_sure 46 = .ok (.iconst 1, 1) := by decide +kernel
theorem dX11_sure_47 : decode cX11_sure 47 = .ok (.iadd, 1) := by decide +kernel
theorem dX11_sure_48 : decode cX11_sure 48 = .ok (.iaload, 1) := by decide +kernel
theorem dX11_sure_49 : decode cX11_sure 49 = .ok (.invokevirtual 366, 3) := by decide +kernel
theorem dX11_sure_52 : decode cX11_sure 52 = .ok (.istore 4, 2) := by decide +kernel
theorem dX11_sure_54 : decode cX11_sure 54 = .ok (.iload 4, 2) := by decide +kernel
theorem dX11_sure_56 : decode cX11_sure 56 = .ok (.iconst (-1), 1) := by decide +kernel
theorem dX11_sure_57 : decode cX11_sure 57 = .ok (.if_icmp .eq 21, 3) := by decide +kernel
theorem dX11_sure_60 : decode cX11_sure 60 = .ok (.iload 4, 2) := by decide +kernel
theorem dX11_sure_62 : decode cX11_sure 62 = .ok (.iload_n 2, 1) := by decide +kernel
theorem dX11_sure_63 : decode cX11_sure 63 = .ok (.if_icmp .gt 15, 3) := by decide +kernel
theorem dX11_sure_66 : decode cX11_sure 66 = .ok (.iload_n 3, 1) := by decide +kernel
theorem dX11_sure_67 : decode cX11_sure 67 = .ok (.iconst 1, 1) := by decide +kernel
theorem dX11_sure_68 : decode cX11_sure 68 = .ok (.if_icmp .ne 12, 3) := by decide +kernel
theorem dX11_sure_71 : decode cX11_sure 71 = .ok (.iload 4, 2) := by decide +kernel
theorem dX11_sure_73 : decode cX11_sure 73 = .ok (.bipush 9, 2) := by decide +kernel
theorem dX11_sure_75 : decode cX11_sure 75 = .ok (.if_icmp .le 5, 3) := by decide +kernel
theorem dX11_sure_78 : decode cX11_sure 78 = .ok (.iconst (-1), 1) := by decide +kernel
theorem dX11_sure_79 : decode cX11_sure 79 = .ok (.ireturn, 1) := by decide +kernel
theorem dX11_sure_80 : decode cX11_sure 80 = .ok (.iload_n 3, 1) := by decide +kernel
theorem dX11_sure_81 : decode cX11_sure 81 = .ok (.ifCond .ne 8, 3) := by decide +kernel
theorem dX11_sure_84 : decode cX11_sure 84 = .ok (.iload 4, 2) := by decide +kernel
theorem dX11_sure_86 : decode cX11_sure 86 = .ok (.goto 8, 3) := by decide +kernel
theorem dX11_sure_89 : decode cX11_sure 89 = .ok (.aload_n 0, 1) := by decide +kernel
theorem dX11_sure_90 : decode cX11_sure 90 = .ok (.iload_n 1, 1) := by decide +kernel
theorem dX11_sure_91 : decode cX11_sure 91 = .ok (.invokevirtual 369, 3) := by decide +kernel
theorem dX11_sure_94 : decode cX11_sure 94 = .ok (.ireturn, 1) := by decide +kernel
theorem dX11_stand_0 : decode cX11_stand 0 = .ok (.aload_n 0, 1) := by decide +kernel
theorem dX11_stand_1 : decode cX11_stand 1 = .ok (.iload_n 1, 1) := by decide +kernel
theorem dX11_stand_2 : decode cX11_stand 2 = .ok (.invokevirtual 86, 3) := by decide +kernel
theorem dX11_stand_5 : decode cX11_stand 5 = .ok (.ifCond .eq 15, 3) := by decide +kernel
theorem dX11_stand_8 : decode cX11_stand 8 = .ok (.iload_n 2, 1) := by decide +kernel
theorem dX11_stand_9 : decode cX11_stand 9 = .ok (.i2l, 1) := by decide +kernel
theorem dX11_stand_10 : decode cX11_stand 10 = .ok (.lconst 0, 1) := by decide +kernel
theorem dX11_stand_11 : decode cX11_stand 11 = .ok (.ldc2_w 339, 3) := by decide +kernel
theorem dX11_stand_14 : decode cX11_stand 14 = .ok (.invokestatic 76, 3) := by decide +kernel
theorem dX11_stand_17 : decode cX11_stand 17 = .ok (.ifCond .ne 6, 3) := by decide +kernel
theorem dX11_stand_20 : decode cX11_stand 20 = .ok (.bipush (-2), 2) := by decide +kernel
theorem dX11_stand_22 : decode cX11_stand 22 = .ok (.ireturn, 1) := by decide +kernel
theorem dX11_stand_23 : decode cX11_stand 23 = .ok (.aload_n 0, 1) := by decide +kernel
theorem dX11_stand_24 : decode cX11_stand 24 = .ok (.iload_n 1, 1) := by decide +kernel
theorem dX11_stand_25 : decode cX11_stand 25 = .ok (.invokevirtual 362, 3) := by decide +kernel
theorem dX11_stand_28 : decode cX11_stand 28 = .ok (.iconst (-1), 1) := by decide +kernel
theorem dX11_stand_29 : decode cX11_stand 29 = .ok (.istore_n 3, 1) := by decide +kernel
theorem dX11_stand_30 : decode cX11_stand 30 = .ok (.iconst 0, 1) := by decide +kernel
theorem dX11_stand_31 : decode cX11_stand 31 = .ok (.istore 4, 2) := by decide +kernel
theorem dX11_stand_33 : decode cX11_stand 33 = .ok (.iconst 0, 1) := by decide +kernel
theorem dX11_stand_34 : decode cX11_stand 34 = .ok (.istore 5, 2) := by decide +kernel
theorem dX11_stand_36 : decode cX11_stand 36 = .ok (.iload 5, 2) := by decide +kernel
theorem dX11_stand_38 : decode cX11_stand 38 = .ok (.bipush 8, 2) := by decide +kernel
theorem dX11_stand_40 : decode cX11_stand 40 = .ok (.if_icmp .ge 64, 3) := by decide +kernel
theorem dX11_stand_43 : decode cX11_stand 43 = .ok (.aload_n 0, 1) := by decide +kernel
theorem dX11_stand_44 : decode cX11_stand 44 = .ok (.iload 5, 2) := by decide +kernel
theorem dX11_stand_46 : decode cX11_stand 46 = .ok (.invokevirtual 366, 3) := by decide +kernel
theorem dX11_stand_49 : decode cX11_stand 49 = .ok (.istore 6, 2) := by decide +kernel
theorem dX11_stand_51 : decode cX11_stand 51 = .ok (.iload 4, 2) := by decide +kernel
theorem dX11_stand_53 : decode cX11_stand 53 = .ok (.iload 6, 2) := by decide +kernel
theorem dX11_stand_55 : decode cX11_stand 55 = .ok (.iconst (-1), 1) := by decide +kernel
theorem dX11_stand_56 : decode cX11_stand 56 = .ok (.if_icmp .ne 7, 3) := by decide +kernel
theorem dX11_stand_59 : decode cX11_stand 59 = .ok (.iconst 0, 1) := by decide +kernel
theorem dX11_stand_60 : decode cX11_stand 60 = .ok (.goto 4, 3) := by decide +kernel
theorem dX11_stand_63 : decode cX11_stand 63 = .ok (.iconst 1, 1) := by decide +kernel
theorem dX11_stand_64 : decode cX11_stand 64 = .ok (.iload 5, 2) := by decide +kernel
theorem dX11_stand_66 : decode cX11_stand 66 = .ok (.ishl, 1) := by decide +kernel
theorem dX11_stand_67 : decode cX11_stand 67 = .ok (.ior, 1) := by decide +kernel
theorem dX11_stand_68 : decode cX11_stand 68 = .ok (.istore 4, 2) := by decide +kernel
theorem dX11_stand_70 : decode cX11_stand 70 = .ok (.iload 6, 2) := by decide +kernel
theorem dX11_stand_72 : decode cX11_stand 72 = .ok (.iconst (-1), 1) := by decide +kernel
theorem dX11_stand_73 : decode cX11_stand 73 = .ok (.if_icmp .eq 23, 3) := by decide +kernel
theorem dX11_stand_76 : decode cX11_stand 76 = .ok (.iload_n 3, 1) := by decide +kernel
theorem dX11_stand_77 : decode cX11_stand 77 = .ok (.iconst (-1), 1) := by decide +kernel
theorem dX11_stand_78 : decode cX11_stand 78 = .ok (.if_icmp .eq 13, 3) := by decide +kernel
theorem dX11_stand_81 : decode cX11_stand 81 = .ok (.iload 6, 2) := by decide +kernel
theorem dX11_stand_83 : decode cX11_stand 83 = .ok (.aload_n 0, 1) := by decide +kernel
theorem dX11_stand_84 : decode cX11_stand 84 = .ok (.iload_n 3, 1) := by decide +kernel
theorem dX11_stand_85 : decode cX11_stand 85 = .ok (.invokevirtual 366, 3) := by decide +kernel
theorem dX11_stand_88 : decode cX11_stand 88 = .ok (.if_icmp .ge 8, 3) := by decide +kernel
theorem dX11_stand_91 : decode cX11_stand 91 = .ok (.iload 5, 2) := by decide +kernel
theorem dX11_stand_93 : decode cX11_stand 93 = .ok (.goto 4, 3) := by decide +kernel
theorem dX11_stand_96 : decode cX11_stand 96 = .ok (.iload_n 3, 1) := by decide +kernel
theorem dX11_stand_97 : decode cX11_stand 97 = .ok (.istore_n 3, 1) := by decide +kernel
theorem dX11_stand_98 : decode cX11_stand 98 = .ok (.iinc 5 1, 3) := by decide +kernel
theorem dX11_stand_101 : decode cX11_stand 101 = .ok (.goto (-65), 3) := by decide +kernel
theorem dX11_stand_104 : decode cX11_stand 104 = .ok (.iload_n 2, 1) := by decide +kernel
theorem dX11_stand_105 : decode cX11_stand 105 = .ok (.ifCond .ne 7, 3) := by decide +kernel
theorem dX11_stand_108 : decode cX11_stand 108 = .ok (.iload_n 3, 1) := by decide +kernel
theorem dX11_stand_109 : decode cX11_stand 109 = .ok (.goto 27, 3) := by decide +kernel
theorem dX11_stand_112 : decode cX11_stand 112 = .ok (.iload_n 2, 1) := by decide +kernel
theorem dX11_stand_113 : decode cX11_stand 113 = .ok (.iconst 2, 1) := by decide +kernel
theorem dX11_stand_114 : decode cX11_stand 114 = .ok (.if_icmp .ne 8, 3) := by decide +kernel
theorem dX11_stand_117 : decode cX11_stand 117 = .ok (.iload 4, 2) := by decide +kernel
theorem dX11_stand_119 : decode cX11_stand 119 = .ok (.goto 17, 3) := by decide +kernel
theorem dX11_stand_122 : decode cX11_stand 122 = .ok (.iload_n 3, 1) := by decide +kernel
theorem dX11_stand_123 : decode cX11_stand 123 = .ok (.iconst (-1), 1) := by decide +kernel
theorem dX11_stand_124 : decode cX11_stand 124 = .ok (.if_icmp .ne 7, 3) := by decide +kernel
theorem dX11_stand_127 : decode cX11_stand 127 = .ok (.iconst (-1), 1) := by decide +kernel
theorem dX11_stand_128 : decode cX11_stand 128 = .ok (.goto 8, 3) := by decide +kernel
theorem dX11_stand_131 : decode cX11_stand 131 = .ok (.aload_n 0, 1) := by decide +kernel
theorem dX11_stand_132 : decode cX11_stand 132 = .ok (.iload_n 3, 1) := by decide +kernel
theorem dX11_stand_133 : decode cX11_stand 133 = .ok (.invokevirtual 366, 3) := by decide +kernel
theorem dX11_stand_136 : decode cX11_stand 136 = .ok (.ireturn, 1) := by decide +kernel
theorem dX11_shut_0 : decode cX11_shut 0 = .ok (.aload_n 0, 1) := by decide +kernel
theorem dX11_shut_1 : decode cX11_shut 1 = .ok (.iload_n 1, 1) := by decide +kernel
theorem dX11_shut_2 : decode cX11_shut 2 = .ok (.invokevirtual 86, 3) := by decide +kernel
theorem dX11_shut_5 : decode cX11_shut 5 = .ok (.ifCond .eq 13, 3) := by decide +kernel
theorem dX11_shut_8 : decode cX11_shut 8 = .ok (.iload_n 2, 1) := by decide +kernel
theorem dX11_shut_9 : decode cX11_shut 9 = .ok (.i2l, 1) := by decide +kernel
theorem dX11_shut_10 : decode cX11_shut 10 = .ok (.lconst 0, 1) := by decide +kernel
theorem dX11_shut_11 : decode cX11_shut 11 = .ok (.lconst 1, 1) := by decide +kernel
theorem dX11_shut_12 : decode cX11_shut 12 = .ok (.invokestatic 76, 3) := by decide +kernel
theorem dX11_shut_15 : decode cX11_shut 15 = .ok (.ifCond .ne 6, 3) := by decide +kernel
theorem dX11_shut_18 : decode cX11_shut 18 = .ok (.bipush (-2), 2) := by decide +kernel
theorem dX11_shut_20 : decode cX11_shut 20 = .ok (.ireturn, 1) := by decide +kernel
theorem dX11_shut_21 : decode cX11_shut 21 = .ok (.aload_n 0, 1) := by decide +kernel
theorem dX11_shut_22 : decode cX11_shut 22 = .ok (.getfield 32, 3) := by decide +kernel
theorem dX11_shut_25 : decode cX11_shut 25 = .ok (.iconst 3, 1) := by decide +kernel
theorem dX11_shut_26 : decode cX11_shut 26 = .ok (.iload_n 1, 1) := by decide +kernel
theorem dX11_shut_27 : decode cX11_shut 27 = .ok (.imul, 1) := by decide +kernel
theorem dX11_shut_28 : decode cX11_shut 28 = .ok (.iconst 1, 1) := by decide +kernel
theorem dX11_shut_29 : decode cX11_shut 29 = .ok (.iadd, 1) := by decide +kernel
theorem dX11_shut_30 : decode cX11_shut 30 = .ok (.iaload, 1) := by decide +kernel
theorem dX11_shut_31 : decode cX11_shut 31 = .ok (.istore_n 3, 1) := by decide +kernel
theorem dX11_shut_32 : decode cX11_shut 32 = .ok (.aload_n 0, 1) := by decide +kernel
theorem dX11_shut_33 : decode cX11_shut 33 = .ok (.iload_n 1, 1) := by decide +kernel
theorem dX11_shut_34 : decode cX11_shut 34 = .ok (.invokevirtual 362, 3) := by decide +kernel
theorem dX11_shut_37 : decode cX11_shut 37 = .ok (.iconst (-1), 1) := by decide +kernel
theorem dX11_shut_38 : decode cX11_shut 38 = .ok (.istore 4, 2) := by decide +kernel
theorem dX11_shut_40 : decode cX11_shut 40 = .ok (.aload_n 0, 1) := by decide +kernel
theorem dX11_shut_41 : decode cX11_shut 41 = .ok (.iload_n 3, 1) := by decide +kernel
theorem dX11_shut_42 : decode cX11_shut 42 = .ok (.invokevirtual 366, 3) := by decide +kernel
theorem dX11_shut_45 : decode cX11_shut 45 = .ok (.istore 5, 2) := by decide +kernel
theorem dX11_shut_47 : decode cX11_shut 47 = .ok (.iconst 0, 1) := by decide +kernel
theorem dX11_shut_48 : decode cX11_shut 48 = .ok (.istore 6, 2) := by decide +kernel
theorem dX11_shut_50 : decode cX11_shut 50 = .ok (.iload 6, 2) := by decide +kernel
theorem dX11_shut_52 : decode cX11_shut 52 = .ok (.bipush 64, 2) := by decide +kernel
theorem dX11_shut_54 : decode cX11_shut 54 = .ok (.if_icmp .ge 109, 3) := by decide +kernel
theorem dX11_shut_57 : decode cX11_shut 57 = .ok (.iload 6, 2) := by decide +kernel
theorem dX11_shut_59 : decode cX11_shut 59 = .ok (.bipush 8, 2) := by decide +kernel
theorem dX11_shut_61 : decode cX11_shut 61 = .ok (.idiv, 1) := by decide +kernel
theorem dX11_shut_62 : decode cX11_shut 62 = .ok (.istore 7, 2) := by decide +kernel
theorem dX11_shut_64 : decode cX11_shut 64 = .ok (.iload 6, 2) := by decide +kernel
theorem dX11_shut_66 : decode cX11_shut 66 = .ok (.bipush 8, 2) := by decide +kernel
theorem dX11_shut_68 : decode cX11_shut 68 = .ok (.irem, 1) := by decide +kernel
theorem dX11_shut_69 : decode cX11_shut 69 = .ok (.istore 8, 2) := by decide +kernel
theorem dX11_shut_71 : decode cX11_shut 71 = .ok (.iload 7, 2) := by decide +kernel
theorem dX11_shut_73 : decode cX11_shut 73 = .ok (.iload 8, 2) := by decide +kernel
theorem dX11_shut_75 : decode cX11_shut 75 = .ok (.if_icmp .ge 82, 3) := by decide +kernel
theorem dX11_shut_78 : decode cX11_shut 78 = .ok (.aload_n 0, 1) := by decide +kernel
theorem dX11_shut_79 : decode cX11_shut 79 = .ok (.getfield 26, 3) := by decide +kernel
theorem dX11_shut_82 : decode cX11_shut 82 = .ok (.iload 7, 2) := by decide +kernel
theorem dX11_shut_84 : decode cX11_shut 84 = .ok (.iaload, 1) := by decide +kernel
theorem dX11_shut_85 : decode cX11_shut 85 = .ok (.iload 8, 2) := by decide +kernel
theorem dX11_shut_87 : decode cX11_shut 87 = .ok (.ishr, 1) := by decide +kernel
theorem dX11_shut_88 : decode cX11_shut 88 = .ok (.iconst 1, 1) := by decide +kernel
theorem dX11_shut_89 : decode cX11_shut 89 = .ok (.iand, 1) := by decide +kernel
theorem dX11_shut_90 : decode cX11_shut 90 = .ok (.iconst 1, 1) := by decide +kernel
theorem dX11_shut_91 : decode cX11_shut 91 = .ok (.if_icmp .ne 66, 3) := by decide +kernel
theorem dX11_shut_94 : decode cX11_shut 94 = .ok (.aload_n 0, 1) := by decide +kernel
theorem dX11_shut_95 : decode cX11_shut 95 = .ok (.iload 7, 2) := by decide +kernel
theorem dX11_shut_97 : decode cX11_shut 97 = .ok (.iload 8, 2) := by decide +kernel
theorem dX11_shut_99 : decode cX11_shut 99 = .ok (.iconst 0, 1) := by decide +kernel
theorem dX11_shut_100 : decode cX11_shut 100 = .ok (.invokevirtual 110, 3) := by decide +kernel
theorem dX11_shut_103 : decode cX11_shut 103 = .ok (.aload_n 0, 1) := by decide +kernel
theorem dX11_shut_104 : decode cX11_shut 104 = .ok (.iload_n 1, 1) := by decide +kernel
theorem dX11_shut_105 : decode cX11_shut 105 = .ok (.invokevirtual 362, 3) := by decide +kernel
theorem dX11_shut_108 : decode cX11_shut 108 = .ok (.aload_n 0, 1) := by decide +kernel
theorem dX11_shut_109 : decode cX11_shut 109 = .ok (.iload_n 3, 1) := by decide +kernel
theorem dX11_shut_110 : decode cX11_shut 110 = .ok (.invokevirtual 366, 3) := by decide +kernel
theorem dX11_shut_113 : decode cX11_shut 113 = .ok (.istore 9, 2) := by decide +kernel
theorem dX11_shut_115 : decode cX11_shut 115 = .ok (.aload_n 0, 1) := by decide +kernel
theorem dX11_shut_116 : decode cX11_shut 116 = .ok (.iload 7, 2) := by decide +kernel
theorem dX11_shut_118 : decode cX11_shut 118 = .ok (.iload 8, 2) := by decide +kernel
theorem dX11_shut_120 : decode cX11_shut 120 = .ok (.iconst 1, 1) := by decide +kernel
theorem dX11_shut_121 : decode cX11_shut 121 = .ok (.invokevirtual 110, 3) := by decide +kernel
theorem dX11_shut_124 : decode cX11_shut 124 = .ok (.iload 9, 2) := by decide +kernel
theorem dX11_shut_126 : decode cX11_shut 126 = .ok (.iconst (-1), 1) := by decide +kernel
theorem dX11_shut_127 : decode cX11_shut 127 = .ok (.if_icmp .eq 30, 3) := by decide +kernel
theorem dX11_shut_130 : decode cX11_shut 130 = .ok (.iload 5, 2) := by decide +kernel
theorem dX11_shut_132 : decode cX11_shut 132 = .ok (.iconst (-1), 1) := by decide +kernel
theorem dX11_shut_133 : decode cX11_shut 133 = .ok (.if_icmp .eq 10, 3) := by decide +kernel
theorem dX11_shut_136 : decode cX11_shut 136 = .ok (.iload 9, 2) := by decide +kernel
theorem dX11_shut_138 : decode cX11_shut 138 = .ok (.iload 5, 2) := by decide +kernel
theorem dX11_shut_140 : decode cX11_shut 140 = .ok (.if_icmp .ge 17, 3) := by decide +kernel
theorem dX11_shut_143 : decode cX11_shut 143 = .ok (.bipush 10, 2) := by decide +kernel
theorem dX11_shut_145 : decode cX11_shut 145 = .ok (.iload 7, 2) := by decide +kernel
theorem dX11_shut_147 : decode cX11_shut 147 = .ok (.imul, 1) := by decide +kernel
theorem dX11_shut_148 : decode cX11_shut 148 = .ok (.iload 8, 2) := by decide +kernel
theorem dX11_shut_150 : decode cX11_shut 150 = .ok (.iadd, 1) := by decide +kernel
theorem dX11_shut_151 : decode cX11_shut 151 = .ok (.istore 4, 2) := by decide +kernel
theorem dX11_shut_153 : decode cX11_shut 153 = .ok (.iload 9, 2) := by decide +kernel
theorem dX11_shut_155 : decode cX11_shut 155 = .ok (.istore 5, 2) := by decide +kernel
theorem dX11_shut_157 : decode cX11_shut 157 = .ok (.iinc 6 1, 3) := by decide +kernel
theorem dX11_shut_160 : decode cX11_shut 160 = .ok (.goto (-110), 3) := by decide +kernel
theorem dX11_shut_163 : decode cX11_shut 163 = .ok (.iload_n 2, 1) := by decide +kernel
theorem dX11_shut_164 : decode cX11_shut 164 = .ok (.ifCond .ne 8, 3) := by decide +kernel
theorem dX11_shut_167 : decode cX11_shut 167 = .ok (.iload 4, 2) := by decide +kernel
theorem dX11_shut_169 : decode cX11_shut 169 = .ok (.goto 5, 3) := by decide +kernel
theorem dX11_shut_172 : decode cX11_shut 172 = .ok (.iload 5, 2) := by decide +kernel
theorem dX11_shut_174 : decode cX11_shut 174 = .ok (.ireturn, 1) := by decide +kernel
theorem dX11_look_0 : decode cX11_look 0 = .ok (.iload_n 1, 1) := by decide +kernel
theorem dX11_look_1 : decode cX11_look 1 = .ok (.i2l, 1) := by decide +kernel
theorem dX11_look_2 : decode cX11_look 2 = .ok (.lconst 1, 1) := by decide +kernel
theorem dX11_look_3 : decode cX11_look 3 = .ok (.ldc2_w 372, 3) := by decide +kernel
theorem dX11_look_6 : decode cX11_look 6 = .ok (.invokestatic 76, 3) := by decide +kernel
theorem dX11_look_9 : decode cX11_look 9 = .ok (.ifCond .eq 13, 3) := by decide +kernel
theorem dX11_look_12 : decode cX11_look 12 = .ok (.iload_n 2, 1) := by decide +kernel
theorem dX11_look_13 : decode cX11_look 13 = .ok (.i2l, 1) := by decide +kernel
theorem dX11_look_14 : decode cX11_look 14 = .ok (.lconst 0, 1) := by decide +kernel
theorem dX11_look_15 : decode cX11_look 15 = .ok (.lconst 1, 1) := by decide +kernel
theorem dX11_look_16 : decode cX11_look 16 = .ok (.invokestatic 76, 3) := by decide +kernel
theorem dX11_look_19 : decode cX11_look 19 = .ok (.ifCond .ne 6, 3) := by decide +kernel
theorem dX11_look_22 : decode cX11_look 22 = .ok (.bipush (-2), 2) := by decide +kernel
theorem dX11_look_24 : decode cX11_look 24 = .ok (.ireturn, 1) := by decide +kernel
theorem dX11_look_25 : decode cX11_look 25 = .ok (.aload_n 0, 1) := by decide +kernel
theorem dX11_look_26 : decode cX11_look 26 = .ok (.aload_n 0, 1) := by decide +kernel
theorem dX11_look_27 : decode cX11_look 27 = .ok (.getfield 23, 3) := by decide +kernel
theorem dX11_look_30 : decode cX11_look 30 = .ok (.iconst 3, 1) := by decide +kernel
theorem dX11_look_31 : decode cX11_look 31 = .ok (.iaload, 1) := by decide +kernel
theorem dX11_look_32 : decode cX11_look 32 = .ok (.invokevirtual 341, 3) := by decide +kernel
theorem dX11_look_35 : decode cX11_look 35 = .ok (.istore_n 3, 1) := by decide +kernel
theorem dX11_look_36 : decode cX11_look 36 = .ok (.iconst (-1), 1) := by decide +kernel
theorem dX11_look_37 : decode cX11_look 37 = .ok (.istore 4, 2) := by decide +kernel
theorem dX11_look_39 : decode cX11_look 39 = .ok (.ldc_w 353, 3) := by decide +kernel
theorem dX11_look_42 : decode cX11_look 42 = .ok (.istore 5, 2) := by decide +kernel
theorem dX11_look_44 : decode cX11_look 44 = .ok (.iconst 0, 1) := by decide +kernel
theorem dX11_look_45 : decode cX11_look 45 = .ok (.istore 6, 2) := by decide +kernel
theorem dX11_look_47 : decode cX11_look 47 = .ok (.iload 6, 2) := by decide +kernel
theorem dX11_look_49 : decode cX11_look 49 = .ok (.sipush 255, 3) := by decide +kernel
theorem dX11_look_52 : decode cX11_look 52 = .ok (.if_icmp .gt 48, 3) := by decide +kernel
theorem dX11_look_55 : decode cX11_look 55 = .ok (.iload 6, 2) := by decide +kernel
theorem dX11_look_57 : decode cX11_look 57 = .ok (.invokestatic 329, 3) := by decide +kernel
theorem dX11_look_60 : decode cX11_look 60 = .ok (.iload_n 1, 1) := by decide +kernel
theorem dX11_look_61 : decode cX11_look 61 = .ok (.if_icmp .ne 33, 3) := by decide +kernel
theorem dX11_look_64 : decode cX11_look 64 = .ok (.aload_n 0, 1) := by decide +kernel
theorem dX11_look_65 : decode cX11_look 65 = .ok (.iload_n 3, 1) := by decide +kernel
theorem dX11_look_66 : decode cX11_look 66 = .ok (.iload 6, 2) := by decide +kernel
theorem dX11_look_68 : decode cX11_look 68 = .ok (.iconst (-1), 1) := by decide +kernel
theorem dX11_look_69 : decode cX11_look 69 = .ok (.ixor, 1) := by decide +kernel
theorem dX11_look_70 : decode cX11_look 70 = .ok (.iand, 1) := by decide +kernel
theorem dX11_look_71 : decode cX11_look 71 = .ok (.invokevirtual 341, 3) := by decide +kernel
theorem dX11_look_74 : decode cX11_look 74 = .ok (.invokestatic 329, 3) := by decide +kernel
theorem dX11_look_77 : decode cX11_look 77 = .ok (.istore 7, 2) := by decide +kernel
theorem dX11_look_79 : decode cX11_look 79 = .ok (.iload 7, 2) := by decide +kernel
theorem dX11_look_81 : decode cX11_look 81 = .ok (.iload 5, 2) := by decide +kernel
theorem dX11_look_83 : decode cX11_look 83 = .ok (.if_icmp .ge 11, 3) := by decide +kernel
theorem dX11_look_86 : decode cX11_look 86 = .ok (.iload 6, 2) := by decide +kernel
theorem dX11_look_88 : decode cX11_look 88 = .ok (.istore 4, 2) := by decide +kernel
theorem dX11_look_90 : decode cX11_look 90 = .ok (.iload 7, 2) := by decide +kernel
theorem dX11_look_92 : decode cX11_look 92 = .ok (.istore 5, 2) := by decide +kernel
theorem dX11_look_94 : decode cX11_look 94 = .ok (.iinc 6 1, 3) := by decide +kernel
theorem dX11_look_97 : decode cX11_look 97 = .ok (.goto (-50), 3) := by decide +kernel
theorem dX11_look_100 : decode cX11_look 100 = .ok (.iload_n 2, 1) := by decide +kernel
theorem dX11_look_101 : decode cX11_look 101 = .ok (.ifCond .ne 8, 3) := by decide +kernel
theorem dX11_look_104 : decode cX11_look 104 = .ok (.iload 4, 2) := by decide +kernel
theorem dX11_look_106 : decode cX11_look 106 = .ok (.goto 5, 3) := by decide +kernel
theorem dX11_look_109 : decode cX11_look 109 = .ok (.iload 5, 2) := by decide +kernel
theorem dX11_look_111 : decode cX11_look 111 = .ok (.ireturn, 1) := by decide +kernel
theorem dX11_filtered_0 : decode cX11_filtered 0 = .ok (.aload_n 0, 1) := by decide +kernel
theorem dX11_filtered_1 : decode cX11_filtered 1 = .ok (.invokevirtual 344, 3) := by decide +kernel
theorem dX11_filtered_4 : decode cX11_filtered 4 = .ok (.istore_n 3, 1) := by decide +kernel
theorem dX11_filtered_5 : decode cX11_filtered 5 = .ok (.iload_n 2, 1) := by decide +kernel
theorem dX11_filtered_6 : decode cX11_filtered 6 = .ok (.iconst (-1), 1) := by decide +kernel
theorem dX11_filtered_7 : decode cX11_filtered 7 = .ok (.if_icmp .ne 11, 3) := by decide +kernel
theorem dX11_filtered_10 : decode cX11_filtered 10 = .ok (.iload_n 1, 1) := by decide +kernel
theorem dX11_filtered_11 : decode cX11_filtered 11 = .ok (.iload_n 3, 1) := by decide +kernel
theorem dX11_filtered_12 : decode cX11_filtered 12 = .ok (.iconst (-1), 1) := by decide +kernel
theorem dX11_filtered_13 : decode cX11_filtered 13 = .ok (.ixor, 1) := by decide +kernel
theorem dX11_filtered_14 : decode cX11_filtered 14 = .ok (.iand, 1) := by decide +kernel
theorem dX11_filtered_15 : decode cX11_filtered 15 = .ok (.goto 21, 3) := by decide +kernel
theorem dX11_filtered_18 : decode cX11_filtered 18 = .ok (.iload_n 2, 1) := by decide +kernel
theorem dX11_filtered_19 : decode cX11_filtered 19 = .ok (.invokestatic 82, 3) := by decide +kernel
theorem dX11_filtered_22 : decode cX11_filtered 22 = .ok (.ifCond .eq 13, 3) := by decide +kernel
theorem dX11_filtered_25 : decode cX11_filtered 25 = .ok (.iload_n 1, 1) := by decide +kernel
theorem dX11_filtered_26 : decode cX11_filtered 26 = .ok (.iload_n 3, 1) := by decide +kernel
theorem dX11_filtered_27 : decode cX11_filtered 27 = .ok (.iand, 1) := by decide +kernel
theorem dX11_filtered_28 : decode cX11_filtered 28 = .ok (.iconst 1, 1) := by decide +kernel
theorem dX11_filtered_29 : decode cX11_filtered 29 = .ok (.iload_n 2, 1) := by decide +kernel
theorem dX11_filtered_30 : decode cX11_filtered 30 = .ok (.ishl, 1) := by decide +kernel
theorem dX11_filtered_31 : decode cX11_filtered 31 = .ok (.iand, 1) := by decide +kernel
theorem dX11_filtered_32 : decode cX11_filtered 32 = .ok (.goto 4, 3) := by decide +kernel
theorem dX11_filtered_35 : decode cX11_filtered 35 = .ok (.iconst 0, 1) := by decide +kernel
theorem dX11_filtered_36 : decode cX11_filtered 36 = .ok (.ireturn, 1) := by decide +kernel
theorem dX11_goneOn_0 : decode cX11_goneOn 0 = .ok (.aload_n 0, 1) := by decide +kernel
theorem dX11_goneOn_1 : decode cX11_goneOn 1 = .ok (.getfield 23, 3) := by decide +kernel
theorem dX11_goneOn_4 : decode cX11_goneOn 4 = .ok (.iconst 0, 1) := by decide +kernel
theorem dX11_goneOn_5 : decode cX11_goneOn 5 = .ok (.iaload, 1) := by decide +kernel
theorem dX11_goneOn_6 : decode cX11_goneOn 6 = .ok (.istore_n 3, 1) := by decide +kernel
theorem dX11_goneOn_7 : decode cX11_goneOn 7 = .ok (.iload_n 2, 1) := by decide +kernel
theorem dX11_goneOn_8 : decode cX11_goneOn 8 = .ok (.istore 4, 2) := by decide +kernel
theorem dX11_goneOn_10 : decode cX11_goneOn 10 = .ok (.aload_n 0, 1) := by decide +kernel
theorem dX11_goneOn_11 : decode cX11_goneOn 11 = .ok (.iconst (-1), 1) := by decide +kernel
theorem dX11_goneOn_12 : decode cX11_goneOn 12 = .ok (.putfield 374, 3) := by decide +kernel
theorem dX11_goneOn_15 : decode cX11_goneOn 15 = .ok (.iconst 0, 1) := by decide +kernel
theorem dX11_goneOn_16 : decode cX11_goneOn 16 = .ok (.istore 5, 2) := by decide +kernel
theorem dX11_goneOn_18 : decode cX11_goneOn 18 = .ok (.iload 5, 2) := by decide +kernel
theorem dX11_goneOn_20 : decode cX11_goneOn 20 = .ok (.aload_n 0, 1) := by decide +kernel
theorem dX11_goneOn_21 : decode cX11_goneOn 21 = .ok (.getfield 60, 3) := by decide +kernel
theorem dX11_goneOn_24 : decode cX11_goneOn 24 = .ok (.iload_n 1, 1) := by decide +kernel
theorem dX11_goneOn_25 : decode cX11_goneOn 25 = .ok (.iaload, 1) := by decide +kernel
theorem dX11_goneOn_26 : decode cX11_goneOn 26 = .ok (.if_icmp .ge 73, 3) := by decide +kernel
theorem dX11_goneOn_29 : decode cX11_goneOn 29 = .ok (.aload_n 0, 1) := by decide +kernel
theorem dX11_goneOn_30 : decode cX11_goneOn 30 = .ok (.iload 4, 2) := by decide +kernel
theorem dX11_goneOn_32 : decode cX11_goneOn 32 = .ok (.invokevirtual 341, 3) := by decide +kernel
theorem dX11_goneOn_35 : decode cX11_goneOn 35 = .ok (.istore 4, 2) := by decide +kernel
theorem dX11_goneOn_37 : decode cX11_goneOn 37 = .ok (.aload_n 0, 1) := by decide +kernel
theorem dX11_goneOn_38 : decode cX11_goneOn 38 = .ok (.getfield 23, 3) := by decide +kernel
theorem dX11_goneOn_41 : decode cX11_goneOn 41 = .ok (.iconst 0, 1) := by decide +kernel
theorem dX11_goneOn_42 : decode cX11_goneOn 42 = .ok (.dup2, 1) := by decide +kernel
theorem dX11_goneOn_43 : decode cX11_goneOn 43 = .ok (.iaload, 1) := by decide +kernel
theorem dX11_goneOn_44 : decode cX11_goneOn 44 = .ok (.iconst 1, 1) := by decide +kernel
theorem dX11_goneOn_45 : decode cX11_goneOn 45 = .ok (.iadd, 1) := by decide +kernel
theorem dX11_goneOn_46 : decode cX11_goneOn 46 = .ok (.iastore, 1) := by decide +kernel
theorem dX11_goneOn_47 : decode cX11_goneOn 47 = .ok (.aload_n 0, 1) := by decide +kernel
theorem dX11_goneOn_48 : decode cX11_goneOn 48 = .ok (.iload 4, 2) := by decide +kernel
theorem dX11_goneOn_50 : decode cX11_goneOn 50 = .ok (.aload_n 0, 1) := by decide +kernel
theorem dX11_goneOn_51 : decode cX11_goneOn 51 = .ok (.getfield 63, 3) := by decide +kernel
theorem dX11_goneOn_54 : decode cX11_goneOn 54 = .ok (.bipush 40, 2) := by decide +kernel
theorem dX11_goneOn_56 : decode cX11_goneOn 56 = .ok (.iload_n 1, 1) := by decide +kernel
theorem dX11_goneOn_57 : decode cX11_goneOn 57 = .ok (.imul, 1) := by decide +kernel
theorem dX11_goneOn_58 : decode cX11_goneOn 58 = .ok (.iload 5, 2) := by decide +kernel
theorem dX11_goneOn_60 : decode cX11_goneOn 60 = .ok (.iadd, 1) := by decide +kernel
theorem dX11_goneOn_61 : decode cX11_goneOn 61 = .ok (.iaload, 1) := by decide +kernel
theorem dX11_goneOn_62 : decode cX11_goneOn 62 = .ok (.invokevirtual 377, 3) := by decide +kernel
theorem dX11_goneOn_65 : decode cX11_goneOn 65 = .ok (.istore 4, 2) := by decide +kernel
theorem dX11_goneOn_67 : decode cX11_goneOn 67 = .ok (.aload_n 0, 1) := by decide +kernel
theorem dX11_goneOn_68 : decode cX11_goneOn 68 = .ok (.aload_n 0, 1) := by decide +kernel
theorem dX11_goneOn_69 : decode cX11_goneOn 69 = .ok (.getfield 374, 3) := by decide +kernel
theorem dX11_goneOn_72 : decode cX11_goneOn 72 = .ok (.iconst (-1), 1) := by decide +kernel
theorem dX11_goneOn_73 : decode cX11_goneOn 73 = .ok (.if_icmp .ne 13, 3) := by decide +kernel
theorem dX11_goneOn_76 : decode cX11_goneOn 76 = .ok (.iload 4, 2) := by decide +kernel
theorem dX11_goneOn_78 : decode cX11_goneOn 78 = .ok (.ifCond .ne 8, 3) := by decide +kernel
theorem dX11_goneOn_81 : decode cX11_goneOn 81 = .ok (.iload 5, 2) := by decide +kernel
theorem dX11_goneOn_83 : decode cX11_goneOn 83 = .ok (.goto 7, 3) := by decide +kernel
theorem dX11_goneOn_86 : decode cX11_goneOn 86 = .ok (.aload_n 0, 1) := by decide +kernel
theorem dX11_goneOn_87 : decode cX11_goneOn 87 = .ok (.getfield 374, 3) := by decide +kernel
theorem dX11_goneOn_90 : decode cX11_goneOn 90 = .ok (.putfield 374, 3) := by decide +kernel
theorem dX11_goneOn_93 : decode cX11_goneOn 93 = .ok (.iinc 5 1, 3) := by decide +kernel
theorem dX11_goneOn_96 : decode cX11_goneOn 96 = .ok (.goto (-78), 3) := by decide +kernel
theorem dX11_goneOn_99 : decode cX11_goneOn 99 = .ok (.aload_n 0, 1) := by decide +kernel
theorem dX11_goneOn_100 : decode cX11_goneOn 100 = .ok (.getfield 23, 3) := by decide +kernel
theorem dX11_goneOn_103 : decode cX11_goneOn 103 = .ok (.iconst 0, 1) := by decide +kernel
theorem dX11_goneOn_104 : decode cX11_goneOn 104 = .ok (.iload_n 3, 1) := by decide +kernel
theorem dX11_goneOn_105 : decode cX11_goneOn 105 = .ok (.iastore, 1) := by decide +kernel
theorem dX11_goneOn_106 : decode cX11_goneOn 106 = .ok (.iload 4, 2) := by decide +kernel
theorem dX11_goneOn_108 : decode cX11_goneOn 108 = .ok (.ireturn, 1) := by decide +kernel
theorem dX11_toldBad_0 : decode cX11_toldBad 0 = .ok (.aload_n 0, 1) := by decide +kernel
theorem dX11_toldBad_1 : decode cX11_toldBad 1 = .ok (.getfield 53, 3) := by decide +kernel
theorem dX11_toldBad_4 : decode cX11_toldBad 4 = .ok (.iload_n 1, 1) := by decide +kernel
theorem dX11_toldBad_5 : decode cX11_toldBad 5 = .ok (.baload, 1) := by decide +kernel
theorem dX11_toldBad_6 : decode cX11_toldBad 6 = .ok (.ifCond .ne 8, 3) := by decide +kernel
theorem dX11_toldBad_9 : decode cX11_toldBad 9 = .ok (.bipush (-11), 2) := by decide +kernel
theorem dX11_toldBad_11 : decode cX11_toldBad 11 = .ok (.goto 20, 3) := by decide +kernel
theorem dX11_toldBad_14 : decode cX11_toldBad 14 = .ok (.aload_n 0, 1) := by decide +kernel
theorem dX11_toldBad_15 : decode cX11_toldBad 15 = .ok (.getfield 60, 3) := by decide +kernel
theorem dX11_toldBad_18 : decode cX11_toldBad 18 = .ok (.iload_n 1, 1) := by decide +kernel
theorem dX11_toldBad_19 : decode cX11_toldBad 19 = .ok (.iaload, 1) := by decide +kernel
theorem dX11_toldBad_20 : decode cX11_toldBad 20 = .ok (.bipush 30, 2) := by decide +kernel
theorem dX11_toldBad_22 : decode cX11_toldBad 22 = .ok (.if_icmp .le 8, 3) := by decide +kernel
theorem dX11_toldBad_25 : decode cX11_toldBad 25 = .ok (.bipush (-2), 2) := by decide +kernel
theorem dX11_toldBad_27 : decode cX11_toldBad 27 = .ok (.goto 4, 3) := by decide +kernel
theorem dX11_toldBad_30 : decode cX11_toldBad 30 = .ok (.iconst 0, 1) := by decide +kernel
theorem dX11_toldBad_31 : decode cX11_toldBad 31 = .ok (.ireturn, 1) := by decide +kernel
theorem dX11_fits_0 : decode cX11_fits 0 = .ok (.iload_n 2, 1) := by decide +kernel
theorem dX11_fits_1 : decode cX11_fits 1 = .ok (.bipush 7, 2) := by decide +kernel
theorem dX11_fits_3 : decode cX11_fits 3 = .ok (.if_icmp .ne 10, 3) := by decide +kernel
theorem dX11_fits_6 : decode cX11_fits 6 = .ok (.aload_n 0, 1) := by decide +kernel
theorem dX11_fits_7 : decode cX11_fits 7 = .ok (.getfield 107, 3) := by decide +kernel
theorem dX11_fits_10 : decode cX11_fits 10 = .ok (.goto 9, 3) := by decide +kernel
theorem dX11_fits_13 : decode cX11_fits 13 = .ok (.aload_n 0, 1) := by decide +kernel
theorem dX11_fits_14 : decode cX11_fits 14 = .ok (.iload_n 3, 1) := by decide +kernel
theorem dX11_fits_15 : decode cX11_fits 15 = .ok (.iload_n 2, 1) := by decide +kernel
theorem dX11_fits_16 : decode cX11_fits 16 = .ok (.invokevirtual 99, 3) := by decide +kernel
theorem dX11_fits_19 : decode cX11_fits 19 = .ok (.istore 5, 2) := by decide +kernel
theorem dX11_fits_21 : decode cX11_fits 21 = .ok (.iconst 0, 1) := by decide +kernel
theorem dX11_fits_22 : decode cX11_fits 22 = .ok (.istore 6, 2) := by decide +kernel
theorem dX11_fits_24 : decode cX11_fits 24 = .ok (.iconst 0, 1) := by decide +kernel
theorem dX11_fits_25 : decode cX11_fits 25 = .ok (.istore 7, 2) := by decide +kernel
theorem dX11_fits_27 : decode cX11_fits 27 = .ok (.iload 7, 2) := by decide +kernel
theorem dX11_fits_29 : decode cX11_fits 29 = .ok (.iload 4, 2) := by decide +kernel
theorem dX11_fits_31 : decode cX11_fits 31 = .ok (.if_icmp .gt 41, 3) := by decide +kernel
theorem dX11_fits_34 : decode cX11_fits 34 = .ok (.aload_n 0, 1) := by decide +kernel
theorem dX11_fits_35 : decode cX11_fits 35 = .ok (.iload_n 2, 1) := by decide +kernel
theorem dX11_fits_36 : decode cX11_fits 36 = .ok (.iload_n 3, 1) := by decide +kernel
theorem dX11_fits_37 : decode cX11_fits 37 = .ok (.iload 7, 2) := by decide +kernel
theorem dX11_fits_39 : decode cX11_fits 39 = .ok (.invokevirtual 103, 3) := by decide +kernel
theorem dX11_fits_42 : decode cX11_fits 42 = .ok (.iload 6, 2) := by decide +kernel
theorem dX11_fits_44 : decode cX11_fits 44 = .ok (.aload_n 0, 1) := by decide +kernel
theorem dX11_fits_45 : decode cX11_fits 45 = .ok (.iload_n 1, 1) := by decide +kernel
theorem dX11_fits_46 : decode cX11_fits 46 = .ok (.sipush 255, 3) := by decide +kernel
theorem dX11_fits_49 : decode cX11_fits 49 = .ok (.invokevirtual 380, 3) := by decide +kernel
theorem dX11_fits_52 : decode cX11_fits 52 = .ok (.ifCond .ne 7, 3) := by decide +kernel
theorem dX11_fits_55 : decode cX11_fits 55 = .ok (.iconst 0, 1) := by decide +kernel
theorem dX11_fits_56 : decode cX11_fits 56 = .ok (.goto 4, 3) := by decide +kernel
theorem dX11_fits_59 : decode cX11_fits 59 = .ok (.iconst 1, 1) := by decide +kernel
theorem dX11_fits_60 : decode cX11_fits 60 = .ok (.iload 7, 2) := by decide +kernel
theorem dX11_fits_62 : decode cX11_fits 62 = .ok (.ishl, 1) := by decide +kernel
theorem dX11_fits_63 : decode cX11_fits 63 = .ok (.ior, 1) := by decide +kernel
theorem dX11_fits_64 : decode cX11_fits 64 = .ok (.istore 6, 2) := by decide +kernel
theorem dX11_fits_66 : decode cX11_fits 66 = .ok (.iinc 7 1, 3) := by decide +kernel
theorem dX11_fits_69 : decode cX11_fits 69 = .ok (.goto (-42), 3) := by decide +kernel
theorem dX11_fits_72 : decode cX11_fits 72 = .ok (.aload_n 0, 1) := by decide +kernel
theorem dX11_fits_73 : decode cX11_fits 73 = .ok (.iload_n 2, 1) := by decide +kernel
theorem dX11_fits_74 : decode cX11_fits 74 = .ok (.iload_n 3, 1) := by decide +kernel
theorem dX11_fits_75 : decode cX11_fits 75 = .ok (.iload 5, 2) := by decide +kernel
theorem dX11_fits_77 : decode cX11_fits 77 = .ok (.invokevirtual 103, 3) := by decide +kernel
theorem dX11_fits_80 : decode cX11_fits 80 = .ok (.iload 6, 2) := by decide +kernel
theorem dX11_fits_82 : decode cX11_fits 82 = .ok (.ireturn, 1) := by decide +kernel
theorem dX11_tells_0 : decode cX11_tells 0 = .ok (.iload_n 1, 1) := by decide +kernel
theorem dX11_tells_1 : decode cX11_tells 1 = .ok (.invokestatic 383, 3) := by decide +kernel
theorem dX11_tells_4 : decode cX11_tells 4 = .ok (.ifCond .eq 15, 3) := by decide +kernel
theorem dX11_tells_7 : decode cX11_tells 7 = .ok (.iload_n 2, 1) := by decide +kernel
theorem dX11_tells_8 : decode cX11_tells 8 = .ok (.i2l, 1) := by decide +kernel
theorem dX11_tells_9 : decode cX11_tells 9 = .ok (.lconst 0, 1) := by decide +kernel
theorem dX11_tells_10 : decode cX11_tells 10 = .ok (.ldc2_w 386, 3) := by decide +kernel
theorem dX11_tells_13 : decode cX11_tells 13 = .ok (.invokestatic 76, 3) := by decide +kernel
theorem dX11_tells_16 : decode cX11_tells 16 = .ok (.ifCond .ne 6, 3) := by decide +kernel
theorem dX11_tells_19 : decode cX11_tells 19 = .ok (.bipush (-2), 2) := by decide +kernel
theorem dX11_tells_21 : decode cX11_tells 21 = .ok (.ireturn, 1) := by decide +kernel
theorem dX11_tells_22 : decode cX11_tells 22 = .ok (.aload_n 0, 1) := by decide +kernel
theorem dX11_tells_23 : decode cX11_tells 23 = .ok (.iload_n 1, 1) := by decide +kernel
theorem dX11_tells_24 : decode cX11_tells 24 = .ok (.invokevirtual 388, 3) := by decide +kernel
theorem dX11_tells_27 : decode cX11_tells 27 = .ok (.istore_n 3, 1) := by decide +kernel
theorem dX11_tells_28 : decode cX11_tells 28 = .ok (.iload_n 3, 1) := by decide +kernel
theorem dX11_tells_29 : decode cX11_tells 29 = .ok (.ifCond .eq 5, 3) := by decide +kernel
theorem dX11_tells_32 : decode cX11_tells 32 = .ok (.iload_n 3, 1) := by decide +kernel
theorem dX11_tells_33 : decode cX11_tells 33 = .ok (.ireturn, 1) := by decide +kernel
theorem dX11_tells_34 : decode cX11_tells 34 = .ok (.iload_n 2, 1) := by decide +kernel
theorem dX11_tells_35 : decode cX11_tells 35 = .ok (.iconst 2, 1) := by decide +kernel
theorem dX11_tells_36 : decode cX11_tells 36 = .ok (.if_icmp .le 35, 3) := by decide +kernel
theorem dX11_tells_39 : decode cX11_tells 39 = .ok (.iload_n 2, 1) := by decide +kernel
theorem dX11_tells_40 : decode cX11_tells 40 = .ok (.iconst 3, 1) := by decide +kernel
theorem dX11_tells_41 : decode cX11_tells 41 = .ok (.if_icmp .ne 15, 3) := by decide +kernel
theorem dX11_tells_44 : decode cX11_tells 44 = .ok (.aload_n 0, 1) := by decide +kernel
theorem dX11_tells_45 : decode cX11_tells 45 = .ok (.iload_n 1, 1) := by decide +kernel
theorem dX11_tells_46 : decode cX11_tells 46 = .ok (.iconst 1, 1) := by decide +kernel
theorem dX11_tells_47 : decode cX11_tells 47 = .ok (.iconst 0, 1) := by decide +kernel
theorem dX11_tells_48 : decode cX11_tells 48 = .ok (.bipush 9, 2) := by decide +kernel
theorem dX11_tells_50 : decode cX11_tells 50 = .ok (.invokevirtual 391, 3) := by decide +kernel
theorem dX11_tells_53 : decode cX11_tells 53 = .ok (.goto 17, 3) := by decide +kernel
theorem dX11_tells_56 : decode cX11_tells 56 = .ok (.aload_n 0, 1) := by decide +kernel
theorem dX11_tells_57 : decode cX11_tells 57 = .ok (.iload_n 1, 1) := by decide +kernel
theorem dX11_tells_58 : decode cX11_tells 58 = .ok (.bipush 7, 2) := by decide +kernel
theorem dX11_tells_60 : decode cX11_tells 60 = .ok (.iconst 0, 1) := by decide +kernel
theorem dX11_tells_61 : decode cX11_tells 61 = .ok (.aload_n 0, 1) := by decide +kernel
theorem dX11_tells_62 : decode cX11_tells 62 = .ok (.getfield 70, 3) := by decide +kernel
theorem dX11_tells_65 : decode cX11_tells 65 = .ok (.iconst 1, 1) := by decide +kernel
theorem dX11_tells_66 : decode cX11_tells 66 = .ok (.isub, 1) := by decide +kernel
theorem dX11_tells_67 : decode cX11_tells 67 = .ok (.invokevirtual 391, 3) := by decide +kernel
theorem dX11_tells_70 : decode cX11_tells 70 = .ok (.ireturn, 1) := by decide +kernel
theorem dX11_tells_71 : decode cX11_tells 71 = .ok (.iload_n 2, 1) := by decide +kernel
theorem dX11_tells_72 : decode cX11_tells 72 = .ok (.iconst 1, 1) := by decide +kernel
theorem dX11_tells_73 : decode cX11_tells 73 = .ok (.if_icmp .ne 50, 3) := by decide +kernel
theorem dX11_tells_76 : decode cX11_tells 76 = .ok (.iconst 0, 1) := by decide +kernel
theorem dX11_tells_77 : decode cX11_tells 77 = .ok (.istore 4, 2) := by decide +kernel
theorem dX11_tells_79 : decode cX11_tells 79 = .ok (.iconst 0, 1) := by decide +kernel
theorem dX11_tells_80 : decode cX11_tells 80 = .ok (.istore 5, 2) := by decide +kernel
theorem dX11_tells_82 : decode cX11_tells 82 = .ok (.iload 5, 2) := by decide +kernel
theorem dX11_tells_84 : decode cX11_tells 84 = .ok (.bipush 8, 2) := by decide +kernel
theorem dX11_tells_86 : decode cX11_tells 86 = .ok (.if_icmp .ge 34, 3) := by decide +kernel
theorem dX11_tells_89 : decode cX11_tells 89 = .ok (.iload 4, 2) := by decide +kernel
theorem dX11_tells_91 : decode cX11_tells 91 = .ok (.aload_n 0, 1) := by decide +kernel
theorem dX11_tells_92 : decode cX11_tells 92 = .ok (.iload_n 1, 1) := by decide +kernel
theorem dX11_tells_93 : decode cX11_tells 93 = .ok (.iconst 1, 1) := by decide +kernel
theorem dX11_tells_94 : decode cX11_tells 94 = .ok (.iload 5, 2) := by decide +kernel
theorem dX11_tells_96 : decode cX11_tells 96 = .ok (.ishl, 1) := by decide +kernel
theorem dX11_tells_97 : decode cX11_tells 97 = .ok (.invokevirtual 380, 3) := by decide +kernel
theorem dX11_tells_100 : decode cX11_tells 100 = .ok (.ifCond .ne 7, 3) := by decide +kernel
theorem dX11_tells_103 : decode cX11_tells 103 = .ok (.iconst 0, 1) := by decide +kernel
theorem dX11_tells_104 : decode cX11_tells 104 = .ok (.goto 4, 3) := by decide +kernel
theorem dX11_tells_107 : decode cX11_tells 107 = .ok (.iconst 1, 1) := by decide +kernel
theorem dX11_tells_108 : decode cX11_tells 108 = .ok (.iload 5, 2) := by decide +kernel
theorem dX11_tells_110 : decode cX11_tells 110 = .ok (.ishl, 1) := by decide +kernel
theorem dX11_tells_111 : decode cX11_tells 111 = .ok (.ior, 1) := by decide +kernel
theorem dX11_tells_112 : decode cX11_tells 112 = .ok (.istore 4, 2) := by decide +kernel
theorem dX11_tells_114 : decode cX11_tells 114 = .ok (.iinc 5 1, 3) := by decide +kernel
theorem dX11_tells_117 : decode cX11_tells 117 = .ok (.goto (-35), 3) := by decide +kernel
theorem dX11_tells_120 : decode cX11_tells 120 = .ok (.iload 4, 2) := by decide +kernel
theorem dX11_tells_122 : decode cX11_tells 122 = .ok (.ireturn, 1) := by decide +kernel
theorem dX11_tells_123 : decode cX11_tells 123 = .ok (.aload_n 0, 1) := by decide +kernel
theorem dX11_tells_124 : decode cX11_tells 124 = .ok (.iload_n 1, 1) := by decide +kernel
theorem dX11_tells_125 : decode cX11_tells 125 = .ok (.sipush 255, 3) := by decide +kernel
theorem dX11_tells_128 : decode cX11_tells 128 = .ok (.invokevirtual 380, 3) := by decide +kernel
theorem dX11_tells_131 : decode cX11_tells 131 = .ok (.istore 4, 2) := by decide +kernel
theorem dX11_tells_133 : decode cX11_tells 133 = .ok (.iload_n 2, 1) := by decide +kernel
theorem dX11_tells_134 : decode cX11_tells 134 = .ok (.ifCond .ne 8, 3) := by decide +kernel
theorem dX11_tells_137 : decode cX11_tells 137 = .ok (.iload 4, 2) := by decide +kernel
theorem dX11_tells_139 : decode cX11_tells 139 = .ok (.goto 7, 3) := by decide +kernel
theorem dX11_tells_142 : decode cX11_tells 142 = .ok (.aload_n 0, 1) := by decide +kernel
theorem dX11_tells_143 : decode cX11_tells 143 = .ok (.getfield 374, 3) := by decide +kernel
theorem dX11_tells_146 : decode cX11_tells 146 = .ok (.ireturn, 1) := by decide +kernel
theorem dX11_eyes_0 : decode cX11_eyes 0 = .ok (.iload_n 1, 1) := by decide +kernel
theorem dX11_eyes_1 : decode cX11_eyes 1 = .ok (.invokestatic 383, 3) := by decide +kernel
theorem dX11_eyes_4 : decode cX11_eyes 4 = .ok (.ifCond .eq 21, 3) := by decide +kernel
theorem dX11_eyes_7 : decode cX11_eyes 7 = .ok (.aload_n 0, 1) := by decide +kernel
theorem dX11_eyes_8 : decode cX11_eyes 8 = .ok (.iload_n 2, 1) := by decide +kernel
theorem dX11_eyes_9 : decode cX11_eyes 9 = .ok (.invokevirtual 86, 3) := by decide +kernel
theorem dX11_eyes_12 : decode cX11_eyes 12 = .ok (.ifCond .eq 13, 3) := by decide +kernel
theorem dX11_eyes_15 : decode cX11_eyes 15 = .ok (.iload_n 3, 1) := by decide +kernel
theorem dX11_eyes_16 : decode cX11_eyes 16 = .ok (.i2l, 1) := by decide +kernel
theorem dX11_eyes_17 : decode cX11_eyes 17 = .ok (.lconst 0, 1) := by decide +kernel
theorem dX11_eyes_18 : decode cX11_eyes 18 = .ok (.lconst 1, 1) := by decide +kernel
theorem dX11_eyes_19 : decode cX11_eyes 19 = .ok (.invokestatic 76, 3) := by decide +kernel
theorem dX11_eyes_22 : decode cX11_eyes 22 = .ok (.ifCond .ne 6, 3) := by decide +kernel
theorem dX11_eyes_25 : decode cX11_eyes 25 = .ok (.bipush (-2), 2) := by decide +kernel
theorem dX11_eyes_27 : decode cX11_eyes 27 = .ok (.ireturn, 1) := by decide +kernel
theorem dX11_eyes_28 : decode cX11_eyes 28 = .ok (.aload_n 0, 1) := by decide +kernel
theorem dX11_eyes_29 : decode cX11_eyes 29 = .ok (.iload_n 1, 1) := by decide +kernel
theorem dX11_eyes_30 : decode cX11_eyes 30 = .ok (.invokevirtual 388, 3) := by decide +kernel
theorem dX11_eyes_33 : decode cX11_eyes 33 = .ok (.istore 4, 2) := by decide +kernel
theorem dX11_eyes_35 : decode cX11_eyes 35 = .ok (.iload 4, 2) := by decide +kernel
theorem dX11_eyes_37 : decode cX11_eyes 37 = .ok (.ifCond .eq 6, 3) := by decide +kernel
theorem dX11_eyes_40 : decode cX11_eyes 40 = .ok (.iload 4, 2) := by decide +kernel
theorem dX11_eyes_42 : decode cX11_eyes 42 = .ok (.ireturn, 1) := by decide +kernel
theorem dX11_eyes_43 : decode cX11_eyes 43 = .ok (.iload_n 3, 1) := by decide +kernel
theorem dX11_eyes_44 : decode cX11_eyes 44 = .ok (.ifCond .ne 15, 3) := by decide +kernel
theorem dX11_eyes_47 : decode cX11_eyes 47 = .ok (.aload_n 0, 1) := by decide +kernel
theorem dX11_eyes_48 : decode cX11_eyes 48 = .ok (.iload_n 1, 1) := by decide +kernel
theorem dX11_eyes_49 : decode cX11_eyes 49 = .ok (.bipush 6, 2) := by decide +kernel
theorem dX11_eyes_51 : decode cX11_eyes 51 = .ok (.iload_n 2, 1) := by decide +kernel
theorem dX11_eyes_52 : decode cX11_eyes 52 = .ok (.iconst 5, 1) := by decide +kernel
theorem dX11_eyes_53 : decode cX11_eyes 53 = .ok (.invokevirtual 391, 3) := by decide +kernel
theorem dX11_eyes_56 : decode cX11_eyes 56 = .ok (.goto 12, 3) := by decide +kernel
theorem dX11_eyes_59 : decode cX11_eyes 59 = .ok (.aload_n 0, 1) := by decide +kernel
theorem dX11_eyes_60 : decode cX11_eyes 60 = .ok (.iload_n 1, 1) := by decide +kernel
theorem dX11_eyes_61 : decode cX11_eyes 61 = .ok (.iconst 4, 1) := by decide +kernel
theorem dX11_eyes_62 : decode cX11_eyes 62 = .ok (.iload_n 2, 1) := by decide +kernel
theorem dX11_eyes_63 : decode cX11_eyes 63 = .ok (.bipush 9, 2) := by decide +kernel
theorem dX11_eyes_65 : decode cX11_eyes 65 = .ok (.invokevirtual 391, 3) := by decide +kernel
theorem dX11_eyes_68 : decode cX11_eyes 68 = .ok (.ireturn, 1) := by decide +kernel
theorem dX11_film_0 : decode cX11_film 0 = .ok (.iload_n 1, 1) := by decide +kernel
theorem dX11_film_1 : decode cX11_film 1 = .ok (.invokestatic 383, 3) := by decide +kernel
theorem dX11_film_4 : decode cX11_film 4 = .ok (.ifCond .eq 15, 3) := by decide +kernel
theorem dX11_film_7 : decode cX11_film 7 = .ok (.iload_n 3, 1) := by decide +kernel
theorem dX11_film_8 : decode cX11_film 8 = .ok (.i2l, 1) := by decide +kernel
theorem dX11_film_9 : decode cX11_film 9 = .ok (.lconst 0, 1) := by decide +kernel
theorem dX11_film_10 : decode cX11_film 10 = .ok (.ldc2_w 395, 3) := by decide +kernel
theorem dX11_film_13 : decode cX11_film 13 = .ok (.invokestatic 76, 3) := by decide +kernel
theorem dX11_film_16 : decode cX11_film 16 = .ok (.ifCond .ne 6, 3) := by decide +kernel
theorem dX11_film_19 : decode cX11_film 19 = .ok (.bipush (-2), 2) := by decide +kernel
theorem dX11_film_21 : decode cX11_film 21 = .ok (.ireturn, 1) := by decide +kernel
theorem dX11_film_22 : decode cX11_film 22 = .ok (.aload_n 0, 1) := by decide +kernel
theorem dX11_film_23 : decode cX11_film 23 = .ok (.iload_n 1, 1) := by decide +kernel
theorem dX11_film_24 : decode cX11_film 24 = .ok (.iconst 0, 1) := by decide +kernel
theorem dX11_film_25 : decode cX11_film 25 = .ok (.iload_n 3, 1) := by decide +kernel
theorem dX11_film_26 : decode cX11_film 26 = .ok (.invokevirtual 397, 3) := by decide +kernel
theorem dX11_film_29 : decode cX11_film 29 = .ok (.pop, 1) := by decide +kernel
theorem dX11_film_30 : decode cX11_film 30 = .ok (.aload_n 0, 1) := by decide +kernel
theorem dX11_film_31 : decode cX11_film 31 = .ok (.getfield 23, 3) := by decide +kernel
theorem dX11_film_34 : decode cX11_film 34 = .ok (.iconst 0, 1) := by decide +kernel
theorem dX11_film_35 : decode cX11_film 35 = .ok (.iaload, 1) := by decide +kernel
theorem dX11_film_36 : decode cX11_film 36 = .ok (.istore 4, 2) := by decide +kernel
theorem dX11_film_38 : decode cX11_film 38 = .ok (.aload_n 0, 1) := by decide +kernel
theorem dX11_film_39 : decode cX11_film 39 = .ok (.getfield 23, 3) := by decide +kernel
theorem dX11_film_42 : decode cX11_film 42 = .ok (.iconst 2, 1) := by decide +kernel
theorem dX11_film_43 : decode cX11_film 43 = .ok (.iaload, 1) := by decide +kernel
theorem dX11_film_44 : decode cX11_film 44 = .ok (.istore 5, 2) := by decide +kernel
theorem dX11_film_46 : decode cX11_film 46 = .ok (.iload_n 2, 1) := by decide +kernel
theorem dX11_film_47 : decode cX11_film 47 = .ok (.istore 6, 2) := by decide +kernel
theorem dX11_film_49 : decode cX11_film 49 = .ok (.iconst 0, 1) := by decide +kernel
theorem dX11_film_50 : decode cX11_film 50 = .ok (.istore 7, 2) := by decide +kernel
theorem dX11_film_52 : decode cX11_film 52 = .ok (.iload 7, 2) := by decide +kernel
theorem dX11_film_54 : decode cX11_film 54 = .ok (.iload_n 3, 1) := by decide +kernel
theorem dX11_film_55 : decode cX11_film 55 = .ok (.if_icmp .ge 72, 3) := by decide +kernel
theorem dX11_film_58 : decode cX11_film 58 = .ok (.iload 6, 2) := by decide +kernel
theorem dX11_film_60 : decode cX11_film 60 = .ok (.ldc_w 347, 3) := by decide +kernel
theorem dX11_film_63 : decode cX11_film 63 = .ok (.imul, 1) := by decide +kernel
theorem dX11_film_64 : decode cX11_film 64 = .ok (.sipush 12345, 3) := by decide +kernel
theorem dX11_film_67 : decode cX11_film 67 = .ok (.iadd, 1) := by decide +kernel
theorem dX11_film_68 : decode cX11_film 68 = .ok (.istore 6, 2) := by decide +kernel
theorem dX11_film_70 : decode cX11_film 70 = .ok (.aload_n 0, 1) := by decide +kernel
theorem dX11_film_71 : decode cX11_film 71 = .ok (.iload 5, 2) := by decide +kernel
theorem dX11_film_73 : decode cX11_film 73 = .ok (.iload 6, 2) := by decide +kernel
theorem dX11_film_75 : decode cX11_film 75 = .ok (.invokevirtual 348, 3) := by decide +kernel
theorem dX11_film_78 : decode cX11_film 78 = .ok (.istore 5, 2) := by decide +kernel
theorem dX11_film_80 : decode cX11_film 80 = .ok (.aload_n 0, 1) := by decide +kernel
theorem dX11_film_81 : decode cX11_film 81 = .ok (.getfield 23, 3) := by decide +kernel
theorem dX11_film_84 : decode cX11_film 84 = .ok (.iconst 0, 1) := by decide +kernel
theorem dX11_film_85 : decode cX11_film 85 = .ok (.dup2, 1) := by decide +kernel
theorem dX11_film_86 : decode cX11_film 86 = .ok (.iaload, 1) := by decide +kernel
theorem dX11_film_87 : decode cX11_film 87 = .ok (.iconst 1, 1) := by decide +kernel
theorem dX11_film_88 : decode cX11_film 88 = .ok (.iadd, 1) := by decide +kernel
theorem dX11_film_89 : decode cX11_film 89 = .ok (.iastore, 1) := by decide +kernel
theorem dX11_film_90 : decode cX11_film 90 = .ok (.aload_n 0, 1) := by decide +kernel
theorem dX11_film_91 : decode cX11_film 91 = .ok (.getfield 63, 3) := by decide +kernel
theorem dX11_film_94 : decode cX11_film 94 = .ok (.bipush 40, 2) := by decide +kernel
theorem dX11_film_96 : decode cX11_film 96 = .ok (.iload_n 1, 1) := by decide +kernel
theorem dX11_film_97 : decode cX11_film 97 = .ok (.imul, 1) := by decide +kernel
theorem dX11_film_98 : decode cX11_film 98 = .ok (.iload 7, 2) := by decide +kernel
theorem dX11_film_100 : decode cX11_film 100 = .ok (.iadd, 1) := by decide +kernel
theorem dX11_film_101 : decode cX11_film 101 = .ok (.aload_n 0, 1) := by decide +kernel
theorem dX11_film_102 : decode cX11_film 102 = .ok (.invokevirtual 344, 3) := by decide +kernel
theorem dX11_film_105 : decode cX11_film 105 = .ok (.iload 5, 2) := by decide +kernel
theorem dX11_film_107 : decode cX11_film 107 = .ok (.ishr, 1) := by decide +kernel
theorem dX11_film_108 : decode cX11_film 108 = .ok (.iconst 1, 1) := by decide +kernel
theorem dX11_film_109 : decode cX11_film 109 = .ok (.iand, 1) := by decide +kernel
theorem dX11_film_110 : decode cX11_film 110 = .ok (.iconst 1, 1) := by decide +kernel
theorem dX11_film_111 : decode cX11_film 111 = .ok (.if_icmp .ne 8, 3) := by decide +kernel
theorem dX11_film_114 : decode cX11_film 114 = .ok (.iload 5, 2) := by decide +kernel
theorem dX11_film_116 : decode cX11_film 116 = .ok (.goto 4, 3) := by decide +kernel
theorem dX11_film_119 : decode cX11_film 119 = .ok (.iconst (-1), 1) := by decide +kernel
theorem dX11_film_120 : decode cX11_film 120 = .ok (.iastore, 1) := by decide +kernel
theorem dX11_film_121 : decode cX11_film 121 = .ok (.iinc 7 1, 3) := by decide +kernel
theorem dX11_film_124 : decode cX11_film 124 = .ok (.goto (-72), 3) := by decide +kernel
theorem dX11_film_127 : decode cX11_film 127 = .ok (.aload_n 0, 1) := by decide +kernel
theorem dX11_film_128 : decode cX11_film 128 = .ok (.getfield 23, 3) := by decide +kernel
theorem dX11_film_131 : decode cX11_film 131 = .ok (.iconst 0, 1) := by decide +kernel
theorem dX11_film_132 : decode cX11_film 132 = .ok (.iload 4, 2) := by decide +kernel
theorem dX11_film_134 : decode cX11_film 134 = .ok (.iastore, 1) := by decide +kernel
theorem dX11_film_135 : decode cX11_film 135 = .ok (.iload_n 3, 1) := by decide +kernel
theorem dX11_film_136 : decode cX11_film 136 = .ok (.ireturn, 1) := by decide +kernel
theorem dX11_goesBy_0 : decode cX11_goesBy 0 = .ok (.aload_n 0, 1) := by decide +kernel
theorem dX11_goesBy_1 : decode cX11_goesBy 1 = .ok (.getfield 23, 3) := by decide +kernel
theorem dX11_goesBy_4 : decode cX11_goesBy 4 = .ok (.iconst 0, 1) := by decide +kernel
theorem dX11_goesBy_5 : decode cX11_goesBy 5 = .ok (.iaload, 1) := by decide +kernel
theorem dX11_goesBy_6 : decode cX11_goesBy 6 = .ok (.istore_n 3, 1) := by decide +kernel
theorem dX11_goesBy_7 : decode cX11_goesBy 7 = .ok (.aload_n 0, 1) := by decide +kernel
theorem dX11_goesBy_8 : decode cX11_goesBy 8 = .ok (.getfield 23, 3) := by decide +kernel
theorem dX11_goesBy_11 : decode cX11_goesBy 11 = .ok (.iconst 2, 1) := by decide +kernel
theorem dX11_goesBy_12 : decode cX11_goesBy 12 = .ok (.iaload, 1) := by decide +kernel
theorem dX11_goesBy_13 : decode cX11_goesBy 13 = .ok (.istore 4, 2) := by decide +kernel
theorem dX11_goesBy_15 : decode cX11_goesBy 15 = .ok (.iload_n 1, 1) := by decide +kernel
theorem dX11_goesBy_16 : decode cX11_goesBy 16 = .ok (.istore 5, 2) := by decide +kernel
theorem dX11_goesBy_18 : decode cX11_goesBy 18 = .ok (.aload_n 0, 1) := by decide +kernel
theorem dX11_goesBy_19 : decode cX11_goesBy 19 = .ok (.iconst 0, 1) := by decide +kernel
theorem dX11_goesBy_20 : decode cX11_goesBy 20 = .ok (.putfield 400, 3) := by decide +kernel
theorem dX11_goesBy_23 : decode cX11_goesBy 23 = .ok (.iconst 0, 1) := by decide +kernel
theorem dX11_goesBy_24 : decode cX11_goesBy 24 = .ok (.istore 6, 2) := by decide +kernel
theorem dX11_goesBy_26 : decode cX11_goesBy 26 = .ok (.iload 6, 2) := by decide +kernel
theorem dX11_goesBy_28 : decode cX11_goesBy 28 = .ok (.iload_n 2, 1) := by decide +kernel
theorem dX11_goesBy_29 : decode cX11_goesBy 29 = .ok (.if_icmp .ge 70, 3) := by decide +kernel
theorem dX11_goesBy_32 : decode cX11_goesBy 32 = .ok (.iload 5, 2) := by decide +kernel
theorem dX11_goesBy_34 : decode cX11_goesBy 34 = .ok (.ldc_w 347, 3) := by decide +kernel
theorem dX11_goesBy_37 : decode cX11_goesBy 37 = .ok (.imul, 1) := by decide +kernel
theorem dX11_goesBy_38 : decode cX11_goesBy 38 = .ok (.sipush 12345, 3) := by decide +kernel
theorem dX11_goesBy_41 : decode cX11_goesBy 41 = .ok (.iadd, 1) := by decide +kernel
theorem dX11_goesBy_42 : decode cX11_goesBy 42 = .ok (.istore 5, 2) := by decide +kernel
theorem dX11_goesBy_44 : decode cX11_goesBy 44 = .ok (.aload_n 0, 1) := by decide +kernel
theorem dX11_goesBy_45 : decode cX11_goesBy 45 = .ok (.iload 4, 2) := by decide +kernel
theorem dX11_goesBy_47 : decode cX11_goesBy 47 = .ok (.iload 5, 2) := by decide +kernel
theorem dX11_goesBy_49 : decode cX11_goesBy 49 = .ok (.invokevirtual 348, 3) := by decide +kernel
theorem dX11_goesBy_52 : decode cX11_goesBy 52 = .ok (.istore 4, 2) := by decide +kernel
theorem dX11_goesBy_54 : decode cX11_goesBy 54 = .ok (.aload_n 0, 1) := by decide +kernel
theorem dX11_goesBy_55 : decode cX11_goesBy 55 = .ok (.getfield 23, 3) := by decide +kernel
theorem dX11_goesBy_58 : decode cX11_goesBy 58 = .ok (.iconst 0, 1) := by decide +kernel
theorem dX11_goesBy_59 : decode cX11_goesBy 59 = .ok (.dup2, 1) := by decide +kernel
theorem dX11_goesBy_60 : decode cX11_goesBy 60 = .ok (.iaload, 1) := by decide +kernel
theorem dX11_goesBy_61 : decode cX11_goesBy 61 = .ok (.iconst 1, 1) := by decide +kernel
theorem dX11_goesBy_62 : decode cX11_goesBy 62 = .ok (.iadd, 1) := by decide +kernel
theorem dX11_goesBy_63 : decode cX11_goesBy 63 = .ok (.iastore, 1) := by decide +kernel
theorem dX11_goesBy_64 : decode cX11_goesBy 64 = .ok (.aload_n 0, 1) := by decide +kernel
theorem dX11_goesBy_65 : decode cX11_goesBy 65 = .ok (.aload_n 0, 1) := by decide +kernel
theorem dX11_goesBy_66 : decode cX11_goesBy 66 = .ok (.getfield 400, 3) := by decide +kernel
theorem dX11_goesBy_69 : decode cX11_goesBy 69 = .ok (.ifCond .ne 16, 3) := by decide +kernel
theorem dX11_goesBy_72 : decode cX11_goesBy 72 = .ok (.aload_n 0, 1) := by decide +kernel
theorem dX11_goesBy_73 : decode cX11_goesBy 73 = .ok (.invokevirtual 344, 3) := by decide +kernel
theorem dX11_goesBy_76 : decode cX11_goesBy 76 = .ok (.iload 4, 2) := by decide +kernel
theorem dX11_goesBy_78 : decode cX11_goesBy 78 = .ok (.ishr, 1) := by decide +kernel
theorem dX11_goesBy_79 : decode cX11_goesBy 79 = .ok (.iconst 1, 1) := by decide +kernel
theorem dX11_goesBy_80 : decode cX11_goesBy 80 = .ok (.iand, 1) := by decide +kernel
theorem dX11_goesBy_81 : decode cX11_goesBy 81 = .ok (.iconst 1, 1) := by decide +kernel
theorem dX11_goesBy_82 : decode cX11_goesBy 82 = .ok (.if_icmp .ne 7, 3) := by decide +kernel
theorem dX11_goesBy_85 : decode cX11_goesBy 85 = .ok (.iconst 1, 1) := by decide +kernel
theorem dX11_goesBy_86 : decode cX11_goesBy 86 = .ok (.goto 4, 3) := by decide +kernel
theorem dX11_goesBy_89 : decode cX11_goesBy 89 = .ok (.iconst 0, 1) := by decide +kernel
theorem dX11_goesBy_90 : decode cX11_goesBy 90 = .ok (.putfield 400, 3) := by decide +kernel
theorem dX11_goesBy_93 : decode cX11_goesBy 93 = .ok (.iinc 6 1, 3) := by decide +kernel
theorem dX11_goesBy_96 : decode cX11_goesBy 96 = .ok (.goto (-70), 3) := by decide +kernel
theorem dX11_goesBy_99 : decode cX11_goesBy 99 = .ok (.aload_n 0, 1) := by decide +kernel
theorem dX11_goesBy_100 : decode cX11_goesBy 100 = .ok (.getfield 23, 3) := by decide +kernel
theorem dX11_goesBy_103 : decode cX11_goesBy 103 = .ok (.iconst 0, 1) := by decide +kernel
theorem dX11_goesBy_104 : decode cX11_goesBy 104 = .ok (.iload_n 3, 1) := by decide +kernel
theorem dX11_goesBy_105 : decode cX11_goesBy 105 = .ok (.iastore, 1) := by decide +kernel
theorem dX11_goesBy_106 : decode cX11_goesBy 106 = .ok (.iload 4, 2) := by decide +kernel
theorem dX11_goesBy_108 : decode cX11_goesBy 108 = .ok (.ireturn, 1) := by decide +kernel
theorem dX11_drawn_0 : decode cX11_drawn 0 = .ok (.iload_n 2, 1) := by decide +kernel
theorem dX11_drawn_1 : decode cX11_drawn 1 = .ok (.i2l, 1) := by decide +kernel
theorem dX11_drawn_2 : decode cX11_drawn 2 = .ok (.lconst 0, 1) := by decide +kernel
theorem dX11_drawn_3 : decode cX11_drawn 3 = .ok (.ldc2_w 351, 3) := by decide +kernel
theorem dX11_drawn_6 : decode cX11_drawn 6 = .ok (.invokestatic 76, 3) := by decide +kernel
theorem dX11_drawn_9 : decode cX11_drawn 9 = .ok (.ifCond .eq 12, 3) := by decide +kernel
theorem dX11_drawn_12 : decode cX11_drawn 12 = .ok (.aload_n 0, 1) := by decide +kernel
theorem dX11_drawn_13 : decode cX11_drawn 13 = .ok (.iload_n 1, 1) := by decide +kernel
theorem dX11_drawn_14 : decode cX11_drawn 14 = .ok (.iload_n 2, 1) := by decide +kernel
theorem dX11_drawn_15 : decode cX11_drawn 15 = .ok (.invokevirtual 403, 3) := by decide +kernel
theorem dX11_drawn_18 : decode cX11_drawn 18 = .ok (.goto 5, 3) := by decide +kernel
theorem dX11_drawn_21 : decode cX11_drawn 21 = .ok (.bipush (-2), 2) := by decide +kernel
theorem dX11_drawn_23 : decode cX11_drawn 23 = .ok (.ireturn, 1) := by decide +kernel
theorem dX11_chance_0 : decode cX11_chance 0 = .ok (.iload_n 2, 1) := by decide +kernel
theorem dX11_chance_1 : decode cX11_chance 1 = .ok (.i2l, 1) := by decide +kernel
theorem dX11_chance_2 : decode cX11_chance 2 = .ok (.lconst 1, 1) := by decide +kernel
theorem dX11_chance_3 : decode cX11_chance 3 = .ok (.ldc2_w 406, 3) := by decide +kernel
theorem dX11_chance_6 : decode cX11_chance 6 = .ok (.invokestatic 76, 3) := by decide +kernel
theorem dX11_chance_9 : decode cX11_chance 9 = .ok (.ifCond .eq 13, 3) := by decide +kernel
theorem dX11_chance_12 : decode cX11_chance 12 = .ok (.iload_n 3, 1) := by decide +kernel
theorem dX11_chance_13 : decode cX11_chance 13 = .ok (.i2l, 1) := by decide +kernel
theorem dX11_chance_14 : decode cX11_chance 14 = .ok (.lconst 0, 1) := by decide +kernel
theorem dX11_chance_15 : decode cX11_chance 15 = .ok (.lconst 1, 1) := by decide +kernel
theorem dX11_chance_16 : decode cX11_chance 16 = .ok (.invokestatic 76, 3) := by decide +kernel
theorem dX11_chance_19 : decode cX11_chance 19 = .ok (.ifCond .ne 7, 3) := by decide +kernel
theorem dX11_chance_22 : decode cX11_chance 22 = .ok (.ldc2_w 408, 3) := by decide +kernel
theorem dX11_chance_25 : decode cX11_chance 25 = .ok (.lreturn, 1) := by decide +kernel
theorem dX11_chance_26 : decode cX11_chance 26 = .ok (.lconst 0, 1) := by decide +kernel
theorem dX11_chance_27 : decode cX11_chance 27 = .ok (.lstore 4, 2) := by decide +kernel
theorem dX11_chance_29 : decode cX11_chance 29 = .ok (.iconst 0, 1) := by decide +kernel
theorem dX11_chance_30 : decode cX11_chance 30 = .ok (.istore 6, 2) := by decide +kernel
theorem dX11_chance_32 : decode cX11_chance 32 = .ok (.iload 6, 2) := by decide +kernel
theorem dX11_chance_34 : decode cX11_chance 34 = .ok (.iload_n 2, 1) := by decide +kernel
theorem dX11_chance_35 : decode cX11_chance 35 = .ok (.if_icmp .ge 37, 3) := by decide +kernel
theorem dX11_chance_38 : decode cX11_chance 38 = .ok (.aload_n 0, 1) := by decide +kernel
theorem dX11_chance_39 : decode cX11_chance 39 = .ok (.iload_n 1, 1) := by decide +kernel
theorem dX11_chance_40 : decode cX11_chance 40 = .ok (.iload 6, 2) := by decide +kernel
theorem dX11_chance_42 : decode cX11_chance 42 = .ok (.iadd, 1) := by decide +kernel
theorem dX11_chance_43 : decode cX11_chance 43 = .ok (.bipush 8, 2) := by decide +kernel
theorem dX11_chance_45 : decode cX11_chance 45 = .ok (.invokevirtual 403, 3) := by decide +kernel
theorem dX11_chance_48 : decode cX11_chance 48 = .ok (.pop, 1) := by decide +kernel
theorem dX11_chance_49 : decode cX11_chance 49 = .ok (.lload 4, 2) := by decide +kernel
theorem dX11_chance_51 : decode cX11_chance 51 = .ok (.aload_n 0, 1) := by decide +kernel
theorem dX11_chance_52 : decode cX11_chance 52 = .ok (.getfield 400, 3) := by decide +kernel
theorem dX11_chance_55 : decode cX11_chance 55 = .ok (.ifCond .eq 7, 3) := by decide +kernel
theorem dX11_chance_58 : decode cX11_chance 58 = .ok (.lconst 1, 1) := by decide +kernel
theorem dX11_chance_59 : decode cX11_chance 59 = .ok (.goto 4, 3) := by decide +kernel
theorem dX11_chance_62 : decode cX11_chance 62 = .ok (.lconst 0, 1) := by decide +kernel
theorem dX11_chance_63 : decode cX11_chance 63 = .ok (.ladd, 1) := by decide +kernel
theorem dX11_chance_64 : decode cX11_chance 64 = .ok (.lstore 4, 2) := by decide +kernel
theorem dX11_chance_66 : decode cX11_chance 66 = .ok (.iinc 6 1, 3) := by decide +kernel
theorem dX11_chance_69 : decode cX11_chance 69 = .ok (.goto (-37), 3) := by decide +kernel
theorem dX11_chance_72 : decode cX11_chance 72 = .ok (.lload 4, 2) := by decide +kernel
theorem dX11_chance_74 : decode cX11_chance 74 = .ok (.lstore 6, 2) := by decide +kernel
theorem dX11_chance_76 : decode cX11_chance 76 = .ok (.iload_n 2, 1) := by decide +kernel
theorem dX11_chance_77 : decode cX11_chance 77 = .ok (.i2l, 1) := by decide +kernel
theorem dX11_chance_78 : decode cX11_chance 78 = .ok (.lstore 8, 2) := by decide +kernel
theorem dX11_chance_80 : decode cX11_chance 80 = .ok (.lload 8, 2) := by decide +kernel
theorem dX11_chance_82 : decode cX11_chance 82 = .ok (.lconst 0, 1) := by decide +kernel
theorem dX11_chance_83 : decode cX11_chance 83 = .ok (.lcmp, 1) := by decide +kernel
theorem dX11_chance_84 : decode cX11_chance 84 = .ok (.ifCond .eq 21, 3) := by decide +kernel
theorem dX11_chance_87 : decode cX11_chance 87 = .ok (.lload 6, 2) := by decide +kernel
theorem dX11_chance_89 : decode cX11_chance 89 = .ok (.lload 8, 2) := by decide +kernel
theorem dX11_chance_91 : decode cX11_chance 91 = .ok (.lrem, 1) := by decide +kernel
theorem dX11_chance_92 : decode cX11_chance 92 = .ok (.lstore 10, 2) := by decide +kernel
theorem dX11_chance_94 : decode cX11_chance 94 = .ok (.lload 8, 2) := by decide +kernel
theorem dX11_chance_96 : decode cX11_chance 96 = .ok (.lstore 6, 2) := by decide +kernel
theorem dX11_chance_98 : decode cX11_chance 98 = .ok (.lload 10, 2) := by decide +kernel
theorem dX11_chance_100 : decode cX11_chance 100 = .ok (.lstore 8, 2) := by decide +kernel
theorem dX11_chance_102 : decode cX11_chance 102 = .ok (.goto (-22), 3) := by decide +kernel
theorem dX11_chance_105 : decode cX11_chance 105 = .ok (.iload_n 3, 1) := by decide +kernel
theorem dX11_chance_106 : decode cX11_chance 106 = .ok (.ifCond .ne 11, 3) := by decide +kernel
theorem dX11_chance_109 : decode cX11_chance 109 = .ok (.lload 4, 2) := by decide +kernel
theorem dX11_chance_111 : decode cX11_chance 111 = .ok (.lload 6, 2) := by decide +kernel
theorem dX11_chance_113 : decode cX11_chance 113 = .ok (.ldiv, 1) := by decide +kernel
theorem dX11_chance_114 : decode cX11_chance 114 = .ok (.goto 8, 3) := by decide +kernel
theorem dX11_chance_117 : decode cX11_chance 117 = .ok (.iload_n 2, 1) := by decide +kernel
theorem dX11_chance_118 : decode cX11_chance 118 = .ok (.i2l, 1) := by decide +kernel
theorem dX11_chance_119 : decode cX11_chance 119 = .ok (.lload 6, 2) := by decide +kernel
theorem dX11_chance_121 : decode cX11_chance 121 = .ok (.ldiv, 1) := by decide +kernel
theorem dX11_chance_122 : decode cX11_chance 122 = .ok (.lreturn, 1) := by decide +kernel
theorem dX11_image_0 : decode cX11_image 0 = .ok (.iconst 0, 1) := by decide +kernel
theorem dX11_image_1 : decode cX11_image 1 = .ok (.istore_n 1, 1) := by decide +kernel
theorem dX11_image_2 : decode cX11_image 2 = .ok (.iload_n 1, 1) := by decide +kernel
theorem dX11_image_3 : decode cX11_image 3 = .ok (.iconst 4, 1) := by decide +kernel
theorem dX11_image_4 : decode cX11_image 4 = .ok (.if_icmp .ge 21, 3) := by decide +kernel
theorem dX11_image_7 : decode cX11_image 7 = .ok (.aload_n 0, 1) := by decide +kernel
theorem dX11_image_8 : decode cX11_image 8 = .ok (.getfield 41, 3) := by decide +kernel
theorem dX11_image_11 : decode cX11_image 11 = .ok (.iload_n 1, 1) := by decide +kernel
theorem dX11_image_12 : decode cX11_image 12 = .ok (.aload_n 0, 1) := by decide +kernel
theorem dX11_image_13 : decode cX11_image 13 = .ok (.getfield 23, 3) := by decide +kernel
theorem dX11_image_16 : decode cX11_image 16 = .ok (.iload_n 1, 1) := by decide +kernel
theorem dX11_image_17 : decode cX11_image 17 = .ok (.iaload, 1) := by decide +kernel
theorem dX11_image_18 : decode cX11_image 18 = .ok (.iastore, 1) := by decide +kernel
theorem dX11_image_19 : decode cX11_image 19 = .ok (.iinc 1 1, 3) := by decide +kernel
theorem dX11_image_22 : decode cX11_image 22 = .ok (.goto (-20), 3) := by decide +kernel
theorem dX11_image_25 : decode cX11_image 25 = .ok (.iconst 0, 1) := by decide +kernel
theorem dX11_image_26 : decode cX11_image 26 = .ok (.istore_n 1, 1) := by decide +kernel
theorem dX11_image_27 : decode cX11_image 27 = .ok (.iload_n 1, 1) := by decide +kernel
theorem dX11_image_28 : decode cX11_image 28 = .ok (.bipush 8, 2) := by decide +kernel
theorem dX11_image_30 : decode cX11_image 30 = .ok (.if_icmp .ge 21, 3) := by decide +kernel
theorem dX11_image_33 : decode cX11_image 33 = .ok (.aload_n 0, 1) := by decide +kernel
theorem dX11_image_34 : decode cX11_image 34 = .ok (.getfield 44, 3) := by decide +kernel
theorem dX11_image_37 : decode cX11_image 37 = .ok (.iload_n 1, 1) := by decide +kernel
theorem dX11_image_38 : decode cX11_image 38 = .ok (.aload_n 0, 1) := by decide +kernel
theorem dX11_image_39 : decode cX11_image 39 = .ok (.getfield 26, 3) := by decide +kernel
theorem dX11_image_42 : decode cX11_image 42 = .ok (.iload_n 1, 1) := by decide +kernel
theorem dX11_image_43 : decode cX11_image 43 = .ok (.iaload, 1) := by decide +kernel
theorem dX11_image_44 : decode cX11_image 44 = .ok (.iastore, 1) := by decide +kernel
theorem dX11_image_45 : decode cX11_image 45 = .ok (.iinc 1 1, 3) := by decide +kernel
theorem dX11_image_48 : decode cX11_image 48 = .ok (.goto (-21), 3) := by decide +kernel
theorem dX11_image_51 : decode cX11_image 51 = .ok (.iconst 0, 1) := by decide +kernel
theorem dX11_image_52 : decode cX11_image 52 = .ok (.istore_n 1, 1) := by decide +kernel
theorem dX11_image_53 : decode cX11_image 53 = .ok (.iload_n 1, 1) := by decide +kernel
theorem dX11_image_54 : decode cX11_image 54 = .ok (.bipush 15, 2) := by decide +kernel
theorem dX11_image_56 : decode cX11_image 56 = .ok (.if_icmp .ge 21, 3) := by decide +kernel
theorem dX11_image_59 : decode cX11_image 59 = .ok (.aload_n 0, 1) := by decide +kernel
theorem dX11_image_60 : decode cX11_image 60 = .ok (.getfield 47, 3) := by decide +kernel
theorem dX11_image_63 : decode cX11_image 63 = .ok (.iload_n 1, 1) := by decide +kernel
theorem dX11_image_64 : decode cX11_image 64 = .ok (.aload_n 0, 1) := by decide +kernel
theorem dX11_image_65 : decode cX11_image 65 = .ok (.getfield 32, 3) := by decide +kernel
theorem dX11_image_68 : decode cX11_image 68 = .ok (.iload_n 1, 1) := by decide +kernel
theorem dX11_image_69 : decode cX11_image 69 = .ok (.iaload, 1) := by decide +kernel
theorem dX11_image_70 : decode cX11_image 70 = .ok (.iastore, 1) := by decide +kernel
theorem dX11_image_71 : decode cX11_image 71 = .ok (.iinc 1 1, 3) := by decide +kernel
theorem dX11_image_74 : decode cX11_image 74 = .ok (.goto (-21), 3) := by decide +kernel
theorem dX11_image_77 : decode cX11_image 77 = .ok (.aload_n 0, 1) := by decide +kernel
theorem dX11_image_78 : decode cX11_image 78 = .ok (.aload_n 0, 1) := by decide +kernel
theorem dX11_image_79 : decode cX11_image 79 = .ok (.getfield 73, 3) := by decide +kernel
theorem dX11_image_82 : decode cX11_image 82 = .ok (.putfield 50, 3) := by decide +kernel
theorem dX11_image_85 : decode cX11_image 85 = .ok (.aload_n 0, 1) := by decide +kernel
theorem dX11_image_86 : decode cX11_image 86 = .ok (.aload_n 0, 1) := by decide +kernel
theorem dX11_image_87 : decode cX11_image 87 = .ok (.getfield 107, 3) := by decide +kernel
theorem dX11_image_90 : decode cX11_image 90 = .ok (.putfield 410, 3) := by decide +kernel
theorem dX11_image_93 : decode cX11_image 93 = .ok (.aload_n 0, 1) := by decide +kernel
theorem dX11_image_94 : decode cX11_image 94 = .ok (.getfield 73, 3) := by decide +kernel
theorem dX11_image_97 : decode cX11_image 97 = .ok (.ireturn, 1) := by decide +kernel
theorem dX11_back_0 : decode cX11_back 0 = .ok (.aload_n 0, 1) := by decide +kernel
theorem dX11_back_1 : decode cX11_back 1 = .ok (.getfield 50, 3) := by decide +kernel
theorem dX11_back_4 : decode cX11_back 4 = .ok (.iconst (-1), 1) := by decide +kernel
theorem dX11_back_5 : decode cX11_back 5 = .ok (.if_icmp .ne 6, 3) := by decide +kernel
theorem dX11_back_8 : decode cX11_back 8 = .ok (.bipush (-3), 2) := by decide +kernel
theorem dX11_back_10 : decode cX11_back 10 = .ok (.ireturn, 1) := by decide +kernel
theorem dX11_back_11 : decode cX11_back 11 = .ok (.iconst 0, 1) := by decide +kernel
theorem dX11_back_12 : decode cX11_back 12 = .ok (.istore_n 1, 1) := by decide +kernel
theorem dX11_back_13 : decode cX11_back 13 = .ok (.iload_n 1, 1) := by decide +kernel
theorem dX11_back_14 : decode cX11_back 14 = .ok (.iconst 4, 1) := by decide +kernel
theorem dX11_back_15 : decode cX11_back 15 = .ok (.if_icmp .ge 21, 3) := by decide +kernel
theorem dX11_back_18 : decode cX11_back 18 = .ok (.aload_n 0, 1) := by decide +kernel
theorem dX11_back_19 : decode cX11_back 19 = .ok (.getfield 23, 3) := by decide +kernel
theorem dX11_back_22 : decode cX11_back 22 = .ok (.iload_n 1, 1) := by decide +kernel
theorem dX11_back_23 : decode cX11_back 23 = .ok (.aload_n 0, 1) := by decide +kernel
theorem dX11_back_24 : decode cX11_back 24 = .ok (.getfield 41, 3) := by decide +kernel
theorem dX11_back_27 : decode cX11_back 27 = .ok (.iload_n 1, 1) := by decide +kernel
theorem dX11_back_28 : decode cX11_back 28 = .ok (.iaload, 1) := by decide +kernel
theorem dX11_back_29 : decode cX11_back 29 = .ok (.iastore, 1) := by decide +kernel
theorem dX11_back_30 : decode cX11_back 30 = .ok (.iinc 1 1, 3) := by decide +kernel
theorem dX11_back_33 : decode cX11_back 33 = .ok (.goto (-20), 3) := by decide +kernel
theorem dX11_back_36 : decode cX11_back 36 = .ok (.iconst 0, 1) := by decide +kernel
theorem dX11_back_37 : decode cX11_back 37 = .ok (.istore_n 1, 1) := by decide +kernel
theorem dX11_back_38 : decode cX11_back 38 = .ok (.iload_n 1, 1) := by decide +kernel
theorem dX11_back_39 : decode cX11_back 39 = .ok (.bipush 8, 2) := by decide +kernel
theorem dX11_back_41 : decode cX11_back 41 = .ok (.if_icmp .ge 21, 3) := by decide +kernel
theorem dX11_back_44 : decode cX11_back 44 = .ok (.aload_n 0, 1) := by decide +kernel
theorem dX11_back_45 : decode cX11_back 45 = .ok (.getfield 26, 3) := by decide +kernel
theorem dX11_back_48 : decode cX11_back 48 = .ok (.iload_n 1, 1) := by decide +kernel
theorem dX11_back_49 : decode cX11_back 49 = .ok (.aload_n 0, 1) := by decide +kernel
theorem dX11_back_50 : decode cX11_back 50 = .ok (.getfield 44, 3) := by decide +kernel
theorem dX11_back_53 : decode cX11_back 53 = .ok (.iload_n 1, 1) := by decide +kernel
theorem dX11_back_54 : decode cX11_back 54 = .ok (.iaload, 1) := by decide +kernel
theorem dX11_back_55 : decode cX11_back 55 = .ok (.iastore, 1) := by decide +kernel
theorem dX11_back_56 : decode cX11_back 56 = .ok (.iinc 1 1, 3) := by decide +kernel
theorem dX11_back_59 : decode cX11_back 59 = .ok (.goto (-21), 3) := by decide +kernel
theorem dX11_back_62 : decode cX11_back 62 = .ok (.iconst 0, 1) := by decide +kernel
theorem dX11_back_63 : decode cX11_back 63 = .ok (.istore_n 1, 1) := by decide +kernel
theorem dX11_back_64 : decode cX11_back 64 = .ok (.iload_n 1, 1) := by decide +kernel
theorem dX11_back_65 : decode cX11_back 65 = .ok (.bipush 15, 2) := by decide +kernel
theorem dX11_back_67 : decode cX11_back 67 = .ok (.if_icmp .ge 21, 3) := by decide +kernel
theorem dX11_back_70 : decode cX11_back 70 = .ok (.aload_n 0, 1) := by decide +kernel
theorem dX11_back_71 : decode cX11_back 71 = .ok (.getfield 32, 3) := by decide +kernel
theorem dX11_back_74 : decode cX11_back 74 = .ok (.iload_n 1, 1) := by decide +kernel
theorem dX11_back_75 : decode cX11_back 75 = .ok (.aload_n 0, 1) := by decide +kernel
theorem dX11_back_76 : decode cX11_back 76 = .ok (.getfield 47, 3) := by decide +kernel
theorem dX11_back_79 : decode cX11_back 79 = .ok (.iload_n 1, 1) := by decide +kernel
theorem dX11_back_80 : decode cX11_back 80 = .ok (.iaload, 1) := by decide +kernel
theorem dX11_back_81 : decode cX11_back 81 = .ok (.iastore, 1) := by decide +kernel
theorem dX11_back_82 : decode cX11_back 82 = .ok (.iinc 1 1, 3) := by decide +kernel
theorem dX11_back_85 : decode cX11_back 85 = .ok (.goto (-21), 3) := by decide +kernel
theorem dX11_back_88 : decode cX11_back 88 = .ok (.aload_n 0, 1) := by decide +kernel
theorem dX11_back_89 : decode cX11_back 89 = .ok (.aload_n 0, 1) := by decide +kernel
theorem dX11_back_90 : decode cX11_back 90 = .ok (.getfield 50, 3) := by decide +kernel
theorem dX11_back_93 : decode cX11_back 93 = .ok (.putfield 73, 3) := by decide +kernel
theorem dX11_back_96 : decode cX11_back 96 = .ok (.aload_n 0, 1) := by decide +kernel
theorem dX11_back_97 : decode cX11_back 97 = .ok (.aload_n 0, 1) := by decide +kernel
theorem dX11_back_98 : decode cX11_back 98 = .ok (.getfield 410, 3) := by decide +kernel
theorem dX11_back_101 : decode cX11_back 101 = .ok (.putfield 107, 3) := by decide +kernel
theorem dX11_back_104 : decode cX11_back 104 = .ok (.aload_n 0, 1) := by decide +kernel
theorem dX11_back_105 : decode cX11_back 105 = .ok (.getfield 73, 3) := by decide +kernel
theorem dX11_back_108 : decode cX11_back 108 = .ok (.ireturn, 1) := by decide +kernel
theorem dX11_count_0 : decode cX11_count 0 = .ok (.iload_n 1, 1) := by decide +kernel
theorem dX11_count_1 : decode cX11_count 1 = .ok (.i2l, 1) := by decide +kernel
theorem dX11_count_2 : decode cX11_count 2 = .ok (.lconst 0, 1) := by decide +kernel
theorem dX11_count_3 : decode cX11_count 3 = .ok (.ldc2_w 89, 3) := by decide +kernel
theorem dX11_count_6 : decode cX11_count 6 = .ok (.invokestatic 76, 3) := by decide +kernel
theorem dX11_count_9 : decode cX11_count 9 = .ok (.ifCond .ne 6, 3) := by decide +kernel
theorem dX11_count_12 : decode cX11_count 12 = .ok (.bipush (-2), 2) := by decide +kernel
theorem dX11_count_14 : decode cX11_count 14 = .ok (.ireturn, 1) := by decide +kernel
theorem dX11_count_15 : decode cX11_count 15 = .ok (.iload_n 1, 1) := by decide +kernel
theorem dX11_count_16 : decode cX11_count 16 = .ok (.iconst 2, 1) := by decide +kernel
theorem dX11_count_17 : decode cX11_count 17 = .ok (.if_icmp .le 32, 3) := by decide +kernel
theorem dX11_count_20 : decode cX11_count 20 = .ok (.iload_n 1, 1) := by decide +kernel
theorem dX11_count_21 : decode cX11_count 21 = .ok (.iconst 3, 1) := by decide +kernel
theorem dX11_count_22 : decode cX11_count 22 = .ok (.if_icmp .ne 10, 3) := by decide +kernel
theorem dX11_count_25 : decode cX11_count 25 = .ok (.aload_n 0, 1) := by decide +kernel
theorem dX11_count_26 : decode cX11_count 26 = .ok (.getfield 70, 3) := by decide +kernel
theorem dX11_count_29 : decode cX11_count 29 = .ok (.goto 19, 3) := by decide +kernel
theorem dX11_count_32 : decode cX11_count 32 = .ok (.iload_n 1, 1) := by decide +kernel
theorem dX11_count_33 : decode cX11_count 33 = .ok (.iconst 4, 1) := by decide +kernel
theorem dX11_count_34 : decode cX11_count 34 = .ok (.if_icmp .ne 10, 3) := by decide +kernel
theorem dX11_count_37 : decode cX11_count 37 = .ok (.aload_n 0, 1) := by decide +kernel
theorem dX11_count_38 : decode cX11_count 38 = .ok (.getfield 125, 3) := by decide +kernel
theorem dX11_count_41 : decode cX11_count 41 = .ok (.goto 7, 3) := by decide +kernel
theorem dX11_count_44 : decode cX11_count 44 = .ok (.aload_n 0, 1) := by decide +kernel
theorem dX11_count_45 : decode cX11_count 45 = .ok (.getfield 107, 3) := by decide +kernel
theorem dX11_count_48 : decode cX11_count 48 = .ok (.ireturn, 1) := by decide +kernel
theorem dX11_count_49 : decode cX11_count 49 = .ok (.iconst 0, 1) := by decide +kernel
theorem dX11_count_50 : decode cX11_count 50 = .ok (.istore_n 2, 1) := by decide +kernel
theorem dX11_count_51 : decode cX11_count 51 = .ok (.iconst 0, 1) := by decide +kernel
theorem dX11_count_52 : decode cX11_count 52 = .ok (.istore_n 3, 1) := by decide +kernel
theorem dX11_count_53 : decode cX11_count 53 = .ok (.iload_n 3, 1) := by decide +kernel
theorem dX11_count_54 : decode cX11_count 54 = .ok (.bipush 8, 2) := by decide +kernel
theorem dX11_count_56 : decode cX11_count 56 = .ok (.if_icmp .ge 21, 3) := by decide +kernel
theorem dX11_count_59 : decode cX11_count 59 = .ok (.iload_n 2, 1) := by decide +kernel
theorem dX11_count_60 : decode cX11_count 60 = .ok (.aload_n 0, 1) := by decide +kernel
theorem dX11_count_61 : decode cX11_count 61 = .ok (.getfield 26, 3) := by decide +kernel
theorem dX11_count_64 : decode cX11_count 64 = .ok (.iload_n 3, 1) := by decide +kernel
theorem dX11_count_65 : decode cX11_count 65 = .ok (.iaload, 1) := by decide +kernel
theorem dX11_count_66 : decode cX11_count 66 = .ok (.invokestatic 329, 3) := by decide +kernel
theorem dX11_count_69 : decode cX11_count 69 = .ok (.iadd, 1) := by decide +kernel
theorem dX11_count_70 : decode cX11_count 70 = .ok (.istore_n 2, 1) := by decide +kernel
theorem dX11_count_71 : decode cX11_count 71 = .ok (.iinc 3 1, 3) := by decide +kernel
theorem dX11_count_74 : decode cX11_count 74 = .ok (.goto (-21), 3) := by decide +kernel
theorem dX11_count_77 : decode cX11_count 77 = .ok (.iload_n 1, 1) := by decide +kernel
theorem dX11_count_78 : decode cX11_count 78 = .ok (.ifCond .ne 10, 3) := by decide +kernel
theorem dX11_count_81 : decode cX11_count 81 = .ok (.aload_n 0, 1) := by decide +kernel
theorem dX11_count_82 : decode cX11_count 82 = .ok (.getfield 73, 3) := by decide +kernel
theorem dX11_count_85 : decode cX11_count 85 = .ok (.goto 23, 3) := by decide +kernel
theorem dX11_count_88 : decode cX11_count 88 = .ok (.iload_n 1, 1) := by decide +kernel
theorem dX11_count_89 : decode cX11_count 89 = .ok (.iconst 1, 1) := by decide +kernel
theorem dX11_count_90 : decode cX11_count 90 = .ok (.if_icmp .ne 9, 3) := by decide +kernel
theorem dX11_count_93 : decode cX11_count 93 = .ok (.iload_n 2, 1) := by decide +kernel
theorem dX11_count_94 : decode cX11_count 94 = .ok (.iconst 2, 1) := by decide +kernel
theorem dX11_count_95 : decode cX11_count 95 = .ok (.idiv, 1) := by decide +kernel
theorem dX11_count_96 : decode cX11_count 96 = .ok (.goto 12, 3) := by decide +kernel
theorem dX11_count_99 : decode cX11_count 99 = .ok (.aload_n 0, 1) := by decide +kernel
theorem dX11_count_100 : decode cX11_count 100 = .ok (.getfield 23, 3) := by decide +kernel
theorem dX11_count_103 : decode cX11_count 103 = .ok (.iconst 3, 1) := by decide +kernel
theorem dX11_count_104 : decode cX11_count 104 = .ok (.iaload, 1) := by decide +kernel
theorem dX11_count_105 : decode cX11_count 105 = .ok (.invokestatic 329, 3) := by decide +kernel
theorem dX11_count_108 : decode cX11_count 108 = .ok (.ireturn, 1) := by decide +kernel
theorem dX11_isSheet_0 : decode cX11_isSheet 0 = .ok (.iload_n 0, 1) := by decide +kernel
theorem dX11_isSheet_1 : decode cX11_isSheet 1 = .ok (.i2l, 1) := by decide +kernel
theorem dX11_isSheet_2 : decode cX11_isSheet 2 = .ok (.lconst 0, 1) := by decide +kernel
theorem dX11_isSheet_3 : decode cX11_isSheet 3 = .ok (.ldc2_w 372, 3) := by decide +kernel
theorem dX11_isSheet_6 : decode cX11_isSheet 6 = .ok (.invokestatic 76, 3) := by decide +kernel
theorem dX11_isSheet_9 : decode cX11_isSheet 9 = .ok (.ireturn, 1) := by decide +kernel
theorem dX11_sheet_0 : decode cX11_sheet 0 = .ok (.iload_n 1, 1) := by decide +kernel
theorem dX11_sheet_1 : decode cX11_sheet 1 = .ok (.invokestatic 383, 3) := by decide +kernel
theorem dX11_sheet_4 : decode cX11_sheet 4 = .ok (.ifCond .eq 27, 3) := by decide +kernel
theorem dX11_sheet_7 : decode cX11_sheet 7 = .ok (.iload_n 2, 1) := by decide +kernel
theorem dX11_sheet_8 : decode cX11_sheet 8 = .ok (.i2l, 1) := by decide +kernel
theorem dX11_sheet_9 : decode cX11_sheet 9 = .ok (.ldc2_w 413, 3) := by decide +kernel
theorem dX11_sheet_12 : decode cX11_sheet 12 = .ok (.ldc2_w 339, 3) := by decide +kernel
theorem dX11_sheet_15 : decode cX11_sheet 15 = .ok (.invokestatic 76, 3) := by decide +kernel
theorem dX11_sheet_18 : decode cX11_sheet 18 = .ok (.ifCond .eq 13, 3) := by decide +kernel
theorem dX11_sheet_21 : decode cX11_sheet 21 = .ok (.iload_n 2, 1) := by decide +kernel
theorem dX11_sheet_22 : decode cX11_sheet 22 = .ok (.ifCond .lt 12, 3) := by decide +kernel
theorem dX11_sheet_25 : decode cX11_sheet 25 = .ok (.iload_n 3, 1) := by decide +kernel
theorem dX11_sheet_26 : decode cX11_sheet 26 = .ok (.bipush 40, 2) := by decide +kernel
theorem dX11_sheet_28 : decode cX11_sheet 28 = .ok (.if_icmp .le 6, 3) := by decide +kernel
theorem dX11_sheet_31 : decode cX11_sheet 31 = .ok (.bipush (-2), 2) := by decide +kernel
theorem dX11_sheet_33 : decode cX11_sheet 33 = .ok (.ireturn, 1) := by decide +kernel
theorem dX11_sheet_34 : decode cX11_sheet 34 = .ok (.iload_n 2, 1) := by decide +kernel
theorem dX11_sheet_35 : decode cX11_sheet 35 = .ok (.ifCond .lt 10, 3) := by decide +kernel
theorem dX11_sheet_38 : decode cX11_sheet 38 = .ok (.iload_n 3, 1) := by decide +kernel
theorem dX11_sheet_39 : decode cX11_sheet 39 = .ok (.ifCond .ge 6, 3) := by decide +kernel
theorem dX11_sheet_42 : decode cX11_sheet 42 = .ok (.bipush (-14), 2) := by decide +kernel
theorem dX11_sheet_44 : decode cX11_sheet 44 = .ok (.ireturn, 1) := by decide +kernel
theorem dX11_sheet_45 : decode cX11_sheet 45 = .ok (.aload_n 0, 1) := by decide +kernel
theorem dX11_sheet_46 : decode cX11_sheet 46 = .ok (.getfield 53, 3) := by decide +kernel
theorem dX11_sheet_49 : decode cX11_sheet 49 = .ok (.iload_n 1, 1) := by decide +kernel
theorem dX11_sheet_50 : decode cX11_sheet 50 = .ok (.iload_n 2, 1) := by decide +kernel
theorem dX11_sheet_51 : decode cX11_sheet 51 = .ok (.ifCond .lt 7, 3) := by decide +kernel
theorem dX11_sheet_54 : decode cX11_sheet 54 = .ok (.iconst 1, 1) := by decide +kernel
theorem dX11_sheet_55 : decode cX11_sheet 55 = .ok (.goto 4, 3) := by decide +kernel
theorem dX11_sheet_58 : decode cX11_sheet 58 = .ok (.iconst 0, 1) := by decide +kernel
theorem dX11_sheet_59 : decode cX11_sheet 59 = .ok (.bastore, 1) := by decide +kernel
theorem dX11_sheet_60 : decode cX11_sheet 60 = .ok (.aload_n 0, 1) := by decide +kernel
theorem dX11_sheet_61 : decode cX11_sheet 61 = .ok (.getfield 57, 3) := by decide +kernel
theorem dX11_sheet_64 : decode cX11_sheet 64 = .ok (.iload_n 1, 1) := by decide +kernel
theorem dX11_sheet_65 : decode cX11_sheet 65 = .ok (.iload_n 2, 1) := by decide +kernel
theorem dX11_sheet_66 : decode cX11_sheet 66 = .ok (.iastore, 1) := by decide +kernel
theorem dX11_sheet_67 : decode cX11_sheet 67 = .ok (.aload_n 0, 1) := by decide +kernel
theorem dX11_sheet_68 : decode cX11_sheet 68 = .ok (.getfield 60, 3) := by decide +kernel
theorem dX11_sheet_71 : decode cX11_sheet 71 = .ok (.iload_n 1, 1) := by decide +kernel
theorem dX11_sheet_72 : decode cX11_sheet 72 = .ok (.iload_n 3, 1) := by decide +kernel
theorem dX11_sheet_73 : decode cX11_sheet 73 = .ok (.iastore, 1) := by decide +kernel
theorem dX11_sheet_74 : decode cX11_sheet 74 = .ok (.iconst 0, 1) := by decide +kernel
theorem dX11_sheet_75 : decode cX11_sheet 75 = .ok (.istore 4, 2) := by decide +kernel
theorem dX11_sheet_77 : decode cX11_sheet 77 = .ok (.iload 4, 2) := by decide +kernel
theorem dX11_sheet_79 : decode cX11_sheet 79 = .ok (.iload_n 3, 1) := by decide +kernel
theorem dX11_sheet_80 : decode cX11_sheet 80 = .ok (.if_icmp .ge 26, 3) := by decide +kernel
theorem dX11_sheet_83 : decode cX11_sheet 83 = .ok (.iload_n 2, 1) := by decide +kernel
theorem dX11_sheet_84 : decode cX11_sheet 84 = .ok (.ifCond .lt 22, 3) := by decide +kernel
theorem dX11_sheet_87 : decode cX11_sheet 87 = .ok (.aload_n 0, 1) := by decide +kernel
theorem dX11_sheet_88 : decode cX11_sheet 88 = .ok (.getfield 63, 3) := by decide +kernel
theorem dX11_sheet_91 : decode cX11_sheet 91 = .ok (.bipush 40, 2) := by decide +kernel
theorem dX11_sheet_93 : decode cX11_sheet 93 = .ok (.iload_n 1, 1) := by decide +kernel
theorem dX11_sheet_94 : decode cX11_sheet 94 = .ok (.imul, 1) := by decide +kernel
theorem dX11_sheet_95 : decode cX11_sheet 95 = .ok (.iload 4, 2) := by decide +kernel
theorem dX11_sheet_97 : decode cX11_sheet 97 = .ok (.iadd, 1) := by decide +kernel
theorem dX11_sheet_98 : decode cX11_sheet 98 = .ok (.iconst 0, 1) := by decide +kernel
theorem dX11_sheet_99 : decode cX11_sheet 99 = .ok (.iastore, 1) := by decide +kernel
theorem dX11_sheet_100 : decode cX11_sheet 100 = .ok (.iinc 4 1, 3) := by decide +kernel
theorem dX11_sheet_103 : decode cX11_sheet 103 = .ok (.goto (-26), 3) := by decide +kernel
theorem dX11_sheet_106 : decode cX11_sheet 106 = .ok (.iconst 1, 1) := by decide +kernel
theorem dX11_sheet_107 : decode cX11_sheet 107 = .ok (.ireturn, 1) := by decide +kernel
theorem dX11_cell_0 : decode cX11_cell 0 = .ok (.iload_n 1, 1) := by decide +kernel
theorem dX11_cell_1 : decode cX11_cell 1 = .ok (.invokestatic 383, 3) := by decide +kernel
theorem dX11_cell_4 : decode cX11_cell 4 = .ok (.ifCond .ne 6, 3) := by decide +kernel
theorem dX11_cell_7 : decode cX11_cell 7 = .ok (.bipush (-2), 2) := by decide +kernel
theorem dX11_cell_9 : decode cX11_cell 9 = .ok (.ireturn, 1) := by decide +kernel
theorem dX11_cell_10 : decode cX11_cell 10 = .ok (.aload_n 0, 1) := by decide +kernel
theorem dX11_cell_11 : decode cX11_cell 11 = .ok (.getfield 53, 3) := by decide +kernel
theorem dX11_cell_14 : decode cX11_cell 14 = .ok (.iload_n 1, 1) := by decide +kernel
theorem dX11_cell_15 : decode cX11_cell 15 = .ok (.baload, 1) := by decide +kernel
theorem dX11_cell_16 : decode cX11_cell 16 = .ok (.ifCond .ne 6, 3) := by decide +kernel
theorem dX11_cell_19 : decode cX11_cell 19 = .ok (.bipush (-11), 2) := by decide +kernel
theorem dX11_cell_21 : decode cX11_cell 21 = .ok (.ireturn, 1) := by decide +kernel
theorem dX11_cell_22 : decode cX11_cell 22 = .ok (.iload_n 2, 1) := by decide +kernel
theorem dX11_cell_23 : decode cX11_cell 23 = .ok (.i2l, 1) := by decide +kernel
theorem dX11_cell_24 : decode cX11_cell 24 = .ok (.lconst 0, 1) := by decide +kernel
theorem dX11_cell_25 : decode cX11_cell 25 = .ok (.aload_n 0, 1) := by decide +kernel
theorem dX11_cell_26 : decode cX11_cell 26 = .ok (.getfield 60, 3) := by decide +kernel
theorem dX11_cell_29 : decode cX11_cell 29 = .ok (.iload_n 1, 1) := by decide +kernel
theorem dX11_cell_30 : decode cX11_cell 30 = .ok (.iaload, 1) := by decide +kernel
theorem dX11_cell_31 : decode cX11_cell 31 = .ok (.iconst 1, 1) := by decide +kernel
theorem dX11_cell_32 : decode cX11_cell 32 = .ok (.isub, 1) := by decide +kernel
theorem dX11_cell_33 : decode cX11_cell 33 = .ok (.i2l, 1) := by decide +kernel
theorem dX11_cell_34 : decode cX11_cell 34 = .ok (.invokestatic 76, 3) := by decide +kernel
theorem dX11_cell_37 : decode cX11_cell 37 = .ok (.ifCond .ne 6, 3) := by decide +kernel
theorem dX11_cell_40 : decode cX11_cell 40 = .ok (.bipush (-12), 2) := by decide +kernel
theorem dX11_cell_42 : decode cX11_cell 42 = .ok (.ireturn, 1) := by decide +kernel
theorem dX11_cell_43 : decode cX11_cell 43 = .ok (.aload_n 0, 1) := by decide +kernel
theorem dX11_cell_44 : decode cX11_cell 44 = .ok (.getfield 63, 3) := by decide +kernel
theorem dX11_cell_47 : decode cX11_cell 47 = .ok (.bipush 40, 2) := by decide +kernel
theorem dX11_cell_49 : decode cX11_cell 49 = .ok (.iload_n 1, 1) := by decide +kernel
theorem dX11_cell_50 : decode cX11_cell 50 = .ok (.imul, 1) := by decide +kernel
theorem dX11_cell_51 : decode cX11_cell 51 = .ok (.iload_n 2, 1) := by decide +kernel
theorem dX11_cell_52 : decode cX11_cell 52 = .ok (.iadd, 1) := by decide +kernel
theorem dX11_cell_53 : decode cX11_cell 53 = .ok (.aload_n 0, 1) := by decide +kernel
theorem dX11_cell_54 : decode cX11_cell 54 = .ok (.getfield 57, 3) := by decide +kernel
theorem dX11_cell_57 : decode cX11_cell 57 = .ok (.iload_n 1, 1) := by decide +kernel
theorem dX11_cell_58 : decode cX11_cell 58 = .ok (.iaload, 1) := by decide +kernel
theorem dX11_cell_59 : decode cX11_cell 59 = .ok (.ifCond .ne 8, 3) := by decide +kernel
theorem dX11_cell_62 : decode cX11_cell 62 = .ok (.iload_n 3, 1) := by decide +kernel
theorem dX11_cell_63 : decode cX11_cell 63 = .ok (.i2b, 1) := by decide +kernel
theorem dX11_cell_64 : decode cX11_cell 64 = .ok (.goto 19, 3) := by decide +kernel
theorem dX11_cell_67 : decode cX11_cell 67 = .ok (.aload_n 0, 1) := by decide +kernel
theorem dX11_cell_68 : decode cX11_cell 68 = .ok (.getfield 57, 3) := by decide +kernel
theorem dX11_cell_71 : decode cX11_cell 71 = .ok (.iload_n 1, 1) := by decide +kernel
theorem dX11_cell_72 : decode cX11_cell 72 = .ok (.iaload, 1) := by decide +kernel
theorem dX11_cell_73 : decode cX11_cell 73 = .ok (.iconst 1, 1) := by decide +kernel
theorem dX11_cell_74 : decode cX11_cell 74 = .ok (.if_icmp .ne 8, 3) := by decide +kernel
theorem dX11_cell_77 : decode cX11_cell 77 = .ok (.iload_n 3, 1) := by decide +kernel
theorem dX11_cell_78 : decode cX11_cell 78 = .ok (.i2s, 1) := by decide +kernel
theorem dX11_cell_79 : decode cX11_cell 79 = .ok (.goto 4, 3) := by decide +kernel
theorem dX11_cell_82 : decode cX11_cell 82 = .ok (.iload_n 3, 1) := by decide +kernel
theorem dX11_cell_83 : decode cX11_cell 83 = .ok (.iastore, 1) := by decide +kernel
theorem dX11_cell_84 : decode cX11_cell 84 = .ok (.iconst 1, 1) := by decide +kernel
theorem dX11_cell_85 : decode cX11_cell 85 = .ok (.ireturn, 1) := by decide +kernel
theorem dX11_copy_0 : decode cX11_copy 0 = .ok (.iload_n 1, 1) := by decide +kernel
theorem dX11_copy_1 : decode cX11_copy 1 = .ok (.invokestatic 383, 3) := by decide +kernel
theorem dX11_copy_4 : decode cX11_copy 4 = .ok (.ifCond .eq 10, 3) := by decide +kernel
theorem dX11_copy_7 : decode cX11_copy 7 = .ok (.iload_n 3, 1) := by decide +kernel
theorem dX11_copy_8 : decode cX11_copy 8 = .ok (.invokestatic 383, 3) := by decide +kernel
theorem dX11_copy_11 : decode cX11_copy 11 = .ok (.ifCond .ne 6, 3) := by decide +kernel
theorem dX11_copy_14 : decode cX11_copy 14 = .ok (.bipush (-2), 2) := by decide +kernel
theorem dX11_copy_16 : decode cX11_copy 16 = .ok (.ireturn, 1) := by decide +kernel
theorem dX11_copy_17 : decode cX11_copy 17 = .ok (.aload_n 0, 1) := by decide +kernel
theorem dX11_copy_18 : decode cX11_copy 18 = .ok (.getfield 53, 3) := by decide +kernel
theorem dX11_copy_21 : decode cX11_copy 21 = .ok (.iload_n 1, 1) := by decide +kernel
theorem dX11_copy_22 : decode cX11_copy 22 = .ok (.baload, 1) := by decide +kernel
theorem dX11_copy_23 : decode cX11_copy 23 = .ok (.ifCond .eq 12, 3) := by decide +kernel
theorem dX11_copy_26 : decode cX11_copy 26 = .ok (.aload_n 0, 1) := by decide +kernel
theorem dX11_copy_27 : decode cX11_copy 27 = .ok (.getfield 53, 3) := by decide +kernel
theorem dX11_copy_30 : decode cX11_copy 30 = .ok (.iload_n 3, 1) := by decide +kernel
theorem dX11_copy_31 : decode cX11_copy 31 = .ok (.baload, 1) := by decide +kernel
theorem dX11_copy_32 : decode cX11_copy 32 = .ok (.ifCond .ne 6, 3) := by decide +kernel
theorem dX11_copy_35 : decode cX11_copy 35 = .ok (.bipush (-11), 2) := by decide +kernel
theorem dX11_copy_37 : decode cX11_copy 37 = .ok (.ireturn, 1) := by decide +kernel
theorem dX11_copy_38 : decode cX11_copy 38 = .ok (.aload_n 0, 1) := by decide +kernel
theorem dX11_copy_39 : decode cX11_copy 39 = .ok (.getfield 57, 3) := by decide +kernel
theorem dX11_copy_42 : decode cX11_copy 42 = .ok (.iload_n 1, 1) := by decide +kernel
theorem dX11_copy_43 : decode cX11_copy 43 = .ok (.iaload, 1) := by decide +kernel
theorem dX11_copy_44 : decode cX11_copy 44 = .ok (.aload_n 0, 1) := by decide +kernel
theorem dX11_copy_45 : decode cX11_copy 45 = .ok (.getfield 57, 3) := by decide +kernel
theorem dX11_copy_48 : decode cX11_copy 48 = .ok (.iload_n 3, 1) := by decide +kernel
theorem dX11_copy_49 : decode cX11_copy 49 = .ok (.iaload, 1) := by decide +kernel
theorem dX11_copy_50 : decode cX11_copy 50 = .ok (.if_icmp .eq 6, 3) := by decide +kernel
theorem dX11_copy_53 : decode cX11_copy 53 = .ok (.bipush (-13), 2) := by decide +kernel
theorem dX11_copy_55 : decode cX11_copy 55 = .ok (.ireturn, 1) := by decide +kernel
theorem dX11_copy_56 : decode cX11_copy 56 = .ok (.iload 5, 2) := by decide +kernel
theorem dX11_copy_58 : decode cX11_copy 58 = .ok (.ifCond .lt 39, 3) := by decide +kernel
theorem dX11_copy_61 : decode cX11_copy 61 = .ok (.iload_n 2, 1) := by decide +kernel
theorem dX11_copy_62 : decode cX11_copy 62 = .ok (.ifCond .lt 35, 3) := by decide +kernel
theorem dX11_copy_65 : decode cX11_copy 65 = .ok (.iload 4, 2) := by decide +kernel
theorem dX11_copy_67 : decode cX11_copy 67 = .ok (.ifCond .lt 30, 3) := by decide +kernel
theorem dX11_copy_70 : decode cX11_copy 70 = .ok (.iload_n 2, 1) := by decide +kernel
theorem dX11_copy_71 : decode cX11_copy 71 = .ok (.aload_n 0, 1) := by decide +kernel
theorem dX11_copy_72 : decode cX11_copy 72 = .ok (.getfield 60, 3) := by decide +kernel
theorem dX11_copy_75 : decode cX11_copy 75 = .ok (.iload_n 1, 1) := by decide +kernel
theorem dX11_copy_76 : decode cX11_copy 76 = .ok (.iaload, 1) := by decide +kernel
theorem dX11_copy_77 : decode cX11_copy 77 = .ok (.iload 5, 2) := by decide +kernel
theorem dX11_copy_79 : decode cX11_copy 79 = .ok (.isub, 1) := by decide +kernel
theorem dX11_copy_80 : decode cX11_copy 80 = .ok (.if_icmp .gt 17, 3) := by decide +kernel
theorem dX11_copy_83 : decode cX11_copy 83 = .ok (.iload 4, 2) := by decide +kernel
theorem dX11_copy_85 : decode cX11_copy 85 = .ok (.aload_n 0, 1) := by decide +kernel
theorem dX11_copy_86 : decode cX11_copy 86 = .ok (.getfield 60, 3) := by decide +kernel
theorem dX11_copy_89 : decode cX11_copy 89 = .ok (.iload_n 3, 1) := by decide +kernel
theorem dX11_copy_90 : decode cX11_copy 90 = .ok (.iaload, 1) := by decide +kernel
theorem dX11_copy_91 : decode cX11_copy 91 = .ok (.iload 5, 2) := by decide +kernel
theorem dX11_copy_93 : decode cX11_copy 93 = .ok (.isub, 1) := by decide +kernel
theorem dX11_copy_94 : decode cX11_copy 94 = .ok (.if_icmp .le 6, 3) := by decide +kernel
theorem dX11_copy_97 : decode cX11_copy 97 = .ok (.bipush (-12), 2) := by decide +kernel
theorem dX11_copy_99 : decode cX11_copy 99 = .ok (.ireturn, 1) := by decide +kernel
theorem dX11_copy_100 : decode cX11_copy 100 = .ok (.iload_n 1, 1) := by decide +kernel
theorem dX11_copy_101 : decode cX11_copy 101 = .ok (.iload_n 3, 1) := by decide +kernel
theorem dX11_copy_102 : decode cX11_copy 102 = .ok (.if_icmp .ne 13, 3) := by decide +kernel
theorem dX11_copy_105 : decode cX11_copy 105 = .ok (.iload_n 2, 1) := by decide +kernel
theorem dX11_copy_106 : decode cX11_copy 106 = .ok (.iload 4, 2) := by decide +kernel
theorem dX11_copy_108 : decode cX11_copy 108 = .ok (.if_icmp .ge 7, 3) := by decide +kernel
theorem dX11_copy_111 : decode cX11_copy 111 = .ok (.iconst 1, 1) := by decide +kernel
theorem dX11_copy_112 : decode cX11_copy 112 = .ok (.goto 4, 3) := by decide +kernel
theorem dX11_copy_115 : decode cX11_copy 115 = .ok (.iconst 0, 1) := by decide +kernel
theorem dX11_copy_116 : decode cX11_copy 116 = .ok (.istore 6, 2) := by decide +kernel
theorem dX11_copy_118 : decode cX11_copy 118 = .ok (.iconst 0, 1) := by decide +kernel
theorem dX11_copy_119 : decode cX11_copy 119 = .ok (.istore 7, 2) := by decide +kernel
theorem dX11_copy_121 : decode cX11_copy 121 = .ok (.iload 7, 2) := by decide +kernel
theorem dX11_copy_123 : decode cX11_copy 123 = .ok (.iload 5, 2) := by decide +kernel
theorem dX11_copy_125 : decode cX11_copy 125 = .ok (.if_icmp .ge 57, 3) := by decide +kernel
theorem dX11_copy_128 : decode cX11_copy 128 = .ok (.iload 6, 2) := by decide +kernel
theorem dX11_copy_130 : decode cX11_copy 130 = .ok (.ifCond .eq 13, 3) := by decide +kernel
theorem dX11_copy_133 : decode cX11_copy 133 = .ok (.iload 5, 2) := by decide +kernel
theorem dX11_copy_135 : decode cX11_copy 135 = .ok (.iconst 1, 1) := by decide +kernel
theorem dX11_copy_136 : decode cX11_copy 136 = .ok (.isub, 1) := by decide +kernel
theorem dX11_copy_137 : decode cX11_copy 137 = .ok (.iload 7, 2) := by decide +kernel
theorem dX11_copy_139 : decode cX11_copy 139 = .ok (.isub, 1) := by decide +kernel
theorem dX11_copy_140 : decode cX11_copy 140 = .ok (.goto 5, 3) := by decide +kernel
theorem dX11_copy_143 : decode cX11_copy 143 = .ok (.iload 7, 2) := by decide +kernel
theorem dX11_copy_145 : decode cX11_copy 145 = .ok (.istore 8, 2) := by decide +kernel
theorem dX11_copy_147 : decode cX11_copy 147 = .ok (.aload_n 0, 1) := by decide +kernel
theorem dX11_copy_148 : decode cX11_copy 148 = .ok (.getfield 63, 3) := by decide +kernel
theorem dX11_copy_151 : decode cX11_copy 151 = .ok (.bipush 40, 2) := by decide +kernel
theorem dX11_copy_153 : decode cX11_copy 153 = .ok (.iload_n 3, 1) := by decide +kernel
theorem dX11_copy_154 : decode cX11_copy 154 = .ok (.imul, 1) := by decide +kernel
theorem dX11_copy_155 : decode cX11_copy 155 = .ok (.iload 4, 2) := by decide +kernel
theorem dX11_copy_157 : decode cX11_copy 157 = .ok (.iadd, 1) := by decide +kernel
theorem dX11_copy_158 : decode cX11_copy 158 = .ok (.iload 8, 2) := by decide +kernel
theorem dX11_copy_160 : decode cX11_copy 160 = .ok (.iadd, 1) := by decide +kernel
theorem dX11_copy_161 : decode cX11_copy 161 = .ok (.aload_n 0, 1) := by decide +kernel
theorem dX11_copy_162 : decode cX11_copy 162 = .ok (.getfield 63, 3) := by decide +kernel
theorem dX11_copy_165 : decode cX11_copy 165 = .ok (.bipush 40, 2) := by decide +kernel
theorem dX11_copy_167 : decode cX11_copy 167 = .ok (.iload_n 1, 1) := by decide +kernel
theorem dX11_copy_168 : decode cX11_copy 168 = .ok (.imul, 1) := by decide +kernel
theorem dX11_copy_169 : decode cX11_copy 169 = .ok (.iload_n 2, 1) := by decide +kernel
theorem dX11_copy_170 : decode cX11_copy 170 = .ok (.iadd, 1) := by decide +kernel
theorem dX11_copy_171 : decode cX11_copy 171 = .ok (.iload 8, 2) := by decide +kernel
theorem dX11_copy_173 : decode cX11_copy 173 = .ok (.iadd, 1) := by decide +kernel
theorem dX11_copy_174 : decode cX11_copy 174 = .ok (.iaload, 1) := by decide +kernel
theorem dX11_copy_175 : decode cX11_copy 175 = .ok (.iastore, 1) := by decide +kernel
theorem dX11_copy_176 : decode cX11_copy 176 = .ok (.iinc 7 1, 3) := by decide +kernel
theorem dX11_copy_179 : decode cX11_copy 179 = .ok (.goto (-58), 3) := by decide +kernel
theorem dX11_copy_182 : decode cX11_copy 182 = .ok (.iload 5, 2) := by decide +kernel
theorem dX11_copy_184 : decode cX11_copy 184 = .ok (.ireturn, 1) := by decide +kernel
theorem dX11_finders_0 : decode cX11_finders 0 = .ok (.iload_n 1, 1) := by decide +kernel
theorem dX11_finders_1 : decode cX11_finders 1 = .ok (.invokestatic 383, 3) := by decide +kernel
theorem dX11_finders_4 : decode cX11_finders 4 = .ok (.ifCond .eq 28, 3) := by decide +kernel
theorem dX11_finders_7 : decode cX11_finders 7 = .ok (.iload_n 2, 1) := by decide +kernel
theorem dX11_finders_8 : decode cX11_finders 8 = .ok (.i2l, 1) := by decide +kernel
theorem dX11_finders_9 : decode cX11_finders 9 = .ok (.lconst 0, 1) := by decide +kernel
theorem dX11_finders_10 : decode cX11_finders 10 = .ok (.ldc2_w 339, 3) := by decide +kernel
theorem dX11_finders_13 : decode cX11_finders 13 = .ok (.invokestatic 76, 3) := by decide +kernel
theorem dX11_finders_16 : decode cX11_finders 16 = .ok (.ifCond .eq 16, 3) := by decide +kernel
theorem dX11_finders_19 : decode cX11_finders 19 = .ok (.iload 4, 2) := by decide +kernel
theorem dX11_finders_21 : decode cX11_finders 21 = .ok (.i2l, 1) := by decide +kernel
theorem dX11_finders_22 : decode cX11_finders 22 = .ok (.lconst 0, 1) := by decide +kernel
theorem dX11_finders_23 : decode cX11_finders 23 = .ok (.ldc2_w 89, 3) := by decide +kernel
theorem dX11_finders_26 : decode cX11_finders 26 = .ok (.invokestatic 76, 3) := by decide +kernel
theorem dX11_finders_29 : decode cX11_finders 29 = .ok (.ifCond .ne 6, 3) := by decide +kernel
theorem dX11_finders_32 : decode cX11_finders 32 = .ok (.bipush (-2), 2) := by decide +kernel
theorem dX11_finders_34 : decode cX11_finders 34 = .ok (.ireturn, 1) := by decide +kernel
theorem dX11_finders_35 : decode cX11_finders 35 = .ok (.aload_n 0, 1) := by decide +kernel
theorem dX11_finders_36 : decode cX11_finders 36 = .ok (.getfield 53, 3) := by decide +kernel
theorem dX11_finders_39 : decode cX11_finders 39 = .ok (.iload_n 1, 1) := by decide +kernel
theorem dX11_finders_40 : decode cX11_finders 40 = .ok (.baload, 1) := by decide +kernel
theorem dX11_finders_41 : decode cX11_finders 41 = .ok (.ifCond .eq 16, 3) := by decide +kernel
theorem dX11_finders_44 : decode cX11_finders 44 = .ok (.aload_n 0, 1) := by decide +kernel
theorem dX11_finders_45 : decode cX11_finders 45 = .ok (.getfield 57, 3) := by decide +kernel
theorem dX11_finders_48 : decode cX11_finders 48 = .ok (.iload_n 1, 1) := by decide +kernel
theorem dX11_finders_49 : decode cX11_finders 49 = .ok (.iaload, 1) := by decide +kernel
theorem dX11_finders_50 : decode cX11_finders 50 = .ok (.iload_n 2, 1) := by decide +kernel
theorem dX11_finders_51 : decode cX11_finders 51 = .ok (.if_icmp .eq 6, 3) := by decide +kernel
theorem dX11_finders_54 : decode cX11_finders 54 = .ok (.bipush (-13), 2) := by decide +kernel
theorem dX11_finders_56 : decode cX11_finders 56 = .ok (.ireturn, 1) := by decide +kernel
theorem dX11_finders_57 : decode cX11_finders 57 = .ok (.aload_n 0, 1) := by decide +kernel
theorem dX11_finders_58 : decode cX11_finders 58 = .ok (.getfield 53, 3) := by decide +kernel
theorem dX11_finders_61 : decode cX11_finders 61 = .ok (.iload_n 1, 1) := by decide +kernel
theorem dX11_finders_62 : decode cX11_finders 62 = .ok (.baload, 1) := by decide +kernel
theorem dX11_finders_63 : decode cX11_finders 63 = .ok (.ifCond .ne 6, 3) := by decide +kernel
theorem dX11_finders_66 : decode cX11_finders 66 = .ok (.bipush (-11), 2) := by decide +kernel
theorem dX11_finders_68 : decode cX11_finders 68 = .ok (.ireturn, 1) := by decide +kernel
theorem dX11_finders_69 : decode cX11_finders 69 = .ok (.iconst 0, 1) := by decide +kernel
theorem dX11_finders_70 : decode cX11_finders 70 = .ok (.istore 5, 2) := by decide +kernel
theorem dX11_finders_72 : decode cX11_finders 72 = .ok (.iconst 0, 1) := by decide +kernel
theorem dX11_finders_73 : decode cX11_finders 73 = .ok (.istore 6, 2) := by decide +kernel
theorem dX11_finders_75 : decode cX11_finders 75 = .ok (.iload 6, 2) := by decide +kernel
theorem dX11_finders_77 : decode cX11_finders 77 = .ok (.iload 4, 2) := by decide +kernel
theorem dX11_finders_79 : decode cX11_finders 79 = .ok (.if_icmp .ge 88, 3) := by decide +kernel
theorem dX11_finders_82 : decode cX11_finders 82 = .ok (.iload_n 3, 1) := by decide +kernel
theorem dX11_finders_83 : decode cX11_finders 83 = .ok (.ifCond .lt 20, 3) := by decide +kernel
theorem dX11_finders_86 : decode cX11_finders 86 = .ok (.iload_n 3, 1) := by decide +kernel
theorem dX11_finders_87 : decode cX11_finders 87 = .ok (.aload_n 0, 1) := by decide +kernel
theorem dX11_finders_88 : decode cX11_finders 88 = .ok (.getfield 60, 3) := by decide +kernel
theorem dX11_finders_91 : decode cX11_finders 91 = .ok (.iload_n 1, 1) := by decide +kernel
theorem dX11_finders_92 : decode cX11_finders 92 = .ok (.iaload, 1) := by decide +kernel
theorem dX11_finders_93 : decode cX11_finders 93 = .ok (.iconst 3, 1) := by decide +kernel
theorem dX11_finders_94 : decode cX11_finders 94 = .ok (.iload 6, 2) := by decide +kernel
theorem dX11_finders_96 : decode cX11_finders 96 = .ok (.imul, 1) := by decide +kernel
theorem dX11_finders_97 : decode cX11_finders 97 = .ok (.isub, 1) := by decide +kernel
theorem dX11_finders_98 : decode cX11_finders 98 = .ok (.iconst 3, 1) := by decide +kernel
theorem dX11_finders_99 : decode cX11_finders 99 = .ok (.isub, 1) := by decide +kernel
theorem dX11_finders_100 : decode cX11_finders 100 = .ok (.if_icmp .le 6, 3) := by decide +kernel
theorem dX11_finders_103 : decode cX11_finders 103 = .ok (.bipush (-12), 2) := by decide +kernel
theorem dX11_finders_105 : decode cX11_finders 105 = .ok (.ireturn, 1) := by decide +kernel
theorem dX11_finders_106 : decode cX11_finders 106 = .ok (.bipush 40, 2) := by decide +kernel
theorem dX11_finders_108 : decode cX11_finders 108 = .ok (.iload_n 1, 1) := by decide +kernel
theorem dX11_finders_109 : decode cX11_finders 109 = .ok (.imul, 1) := by decide +kernel
theorem dX11_finders_110 : decode cX11_finders 110 = .ok (.iload_n 3, 1) := by decide +kernel
theorem dX11_finders_111 : decode cX11_finders 111 = .ok (.iadd, 1) := by decide +kernel
theorem dX11_finders_112 : decode cX11_finders 112 = .ok (.iconst 3, 1) := by decide +kernel
theorem dX11_finders_113 : decode cX11_finders 113 = .ok (.iload 6, 2) := by decide +kernel
theorem dX11_finders_115 : decode cX11_finders 115 = .ok (.imul, 1) := by decide +kernel
theorem dX11_finders_116 : decode cX11_finders 116 = .ok (.iadd, 1) := by decide +kernel
theorem dX11_finders_117 : decode cX11_finders 117 = .ok (.istore 7, 2) := by decide +kernel
theorem dX11_finders_119 : decode cX11_finders 119 = .ok (.iload 5, 2) := by decide +kernel
theorem dX11_finders_121 : decode cX11_finders 121 = .ok (.aload_n 0, 1) := by decide +kernel
theorem dX11_finders_122 : decode cX11_finders 122 = .ok (.aload_n 0, 1) := by decide +kernel
theorem dX11_finders_123 : decode cX11_finders 123 = .ok (.getfield 63, 3) := by decide +kernel
theorem dX11_finders_126 : decode cX11_finders 126 = .ok (.iload 7, 2) := by decide +kernel
theorem dX11_finders_128 : decode cX11_finders 128 = .ok (.iaload, 1) := by decide +kernel
theorem dX11_finders_129 : decode cX11_finders 129 = .ok (.aload_n 0, 1) := by decide +kernel
theorem dX11_finders_130 : decode cX11_finders 130 = .ok (.getfield 63, 3) := by decide +kernel
theorem dX11_finders_133 : decode cX11_finders 133 = .ok (.iload 7, 2) := by decide +kernel
theorem dX11_finders_135 : decode cX11_finders 135 = .ok (.iconst 1, 1) := by decide +kernel
theorem dX11_finders_136 : decode cX11_finders 136 = .ok (.iadd, 1) := by decide +kernel
theorem dX11_finders_137 : decode cX11_finders 137 = .ok (.iaload, 1) := by decide +kernel
theorem dX11_finders_138 : decode cX11_finders 138 = .ok (.aload_n 0, 1) := by decide +kernel
theorem dX11_finders_139 : decode cX11_finders 139 = .ok (.getfield 63, 3) := by decide +kernel
theorem dX11_finders_142 : decode cX11_finders 142 = .ok (.iload 7, 2) := by decide +kernel
theorem dX11_finders_144 : decode cX11_finders 144 = .ok (.iconst 2, 1) := by decide +kernel
theorem dX11_finders_145 : decode cX11_finders 145 = .ok (.iadd, 1) := by decide +kernel
theorem dX11_finders_146 : decode cX11_finders 146 = .ok (.iaload, 1) := by decide +kernel
theorem dX11_finders_147 : decode cX11_finders 147 = .ok (.invokevirtual 415, 3) := by decide +kernel
theorem dX11_finders_150 : decode cX11_finders 150 = .ok (.ifCond .lt 7, 3) := by decide +kernel
theorem dX11_finders_153 : decode cX11_finders 153 = .ok (.iconst 1, 1) := by decide +kernel
theorem dX11_finders_154 : decode cX11_finders 154 = .ok (.goto 4, 3) := by decide +kernel
theorem dX11_finders_157 : decode cX11_finders 157 = .ok (.iconst 0, 1) := by decide +kernel
theorem dX11_finders_158 : decode cX11_finders 158 = .ok (.iadd, 1) := by decide +kernel
theorem dX11_finders_159 : decode cX11_finders 159 = .ok (.istore 5, 2) := by decide +kernel
theorem dX11_finders_161 : decode cX11_finders 161 = .ok (.iinc 6 1, 3) := by decide +kernel
theorem dX11_finders_164 : decode cX11_finders 164 = .ok (.goto (-89), 3) := by decide +kernel
theorem dX11_finders_167 : decode cX11_finders 167 = .ok (.iload 5, 2) := by decide +kernel
theorem dX11_finders_169 : decode cX11_finders 169 = .ok (.ireturn, 1) := by decide +kernel
theorem dX11_over_0 : decode cX11_over 0 = .ok (.iload_n 0, 1) := by decide +kernel
theorem dX11_over_1 : decode cX11_over 1 = .ok (.ifCond .ne 7, 3) := by decide +kernel
theorem dX11_over_4 : decode cX11_over 4 = .ok (.iconst (-1), 1) := by decide +kernel
theorem dX11_over_5 : decode cX11_over 5 = .ok (.goto 22, 3) := by decide +kernel
theorem dX11_over_8 : decode cX11_over 8 = .ok (.iload_n 0, 1) := by decide +kernel
theorem dX11_over_9 : decode cX11_over 9 = .ok (.iconst 3, 1) := by decide +kernel
theorem dX11_over_10 : decode cX11_over 10 = .ok (.if_icmp .ne 7, 3) := by decide +kernel
theorem dX11_over_13 : decode cX11_over 13 = .ok (.iconst 1, 1) := by decide +kernel
theorem dX11_over_14 : decode cX11_over 14 = .ok (.goto 13, 3) := by decide +kernel
theorem dX11_over_17 : decode cX11_over 17 = .ok (.iload_n 0, 1) := by decide +kernel
theorem dX11_over_18 : decode cX11_over 18 = .ok (.iconst 4, 1) := by decide +kernel
theorem dX11_over_19 : decode cX11_over 19 = .ok (.if_icmp .ne 7, 3) := by decide +kernel
theorem dX11_over_22 : decode cX11_over 22 = .ok (.iconst 2, 1) := by decide +kernel
theorem dX11_over_23 : decode cX11_over 23 = .ok (.goto 4, 3) := by decide +kernel
theorem dX11_over_26 : decode cX11_over 26 = .ok (.iconst 0, 1) := by decide +kernel
theorem dX11_over_27 : decode cX11_over 27 = .ok (.ireturn, 1) := by decide +kernel
theorem dX11_taken_0 : decode cX11_taken 0 = .ok (.iload_n 2, 1) := by decide +kernel
theorem dX11_taken_1 : decode cX11_taken 1 = .ok (.i2l, 1) := by decide +kernel
theorem dX11_taken_2 : decode cX11_taken 2 = .ok (.lconst 0, 1) := by decide +kernel
theorem dX11_taken_3 : decode cX11_taken 3 = .ok (.ldc2_w 89, 3) := by decide +kernel
theorem dX11_taken_6 : decode cX11_taken 6 = .ok (.invokestatic 76, 3) := by decide +kernel
theorem dX11_taken_9 : decode cX11_taken 9 = .ok (.ifCond .ne 6, 3) := by decide +kernel
theorem dX11_taken_12 : decode cX11_taken 12 = .ok (.bipush (-2), 2) := by decide +kernel
theorem dX11_taken_14 : decode cX11_taken 14 = .ok (.ireturn, 1) := by decide +kernel
theorem dX11_taken_15 : decode cX11_taken 15 = .ok (.aload_n 0, 1) := by decide +kernel
theorem dX11_taken_16 : decode cX11_taken 16 = .ok (.iload_n 1, 1) := by decide +kernel
theorem dX11_taken_17 : decode cX11_taken 17 = .ok (.invokevirtual 86, 3) := by decide +kernel
theorem dX11_taken_20 : decode cX11_taken 20 = .ok (.ifCond .ne 6, 3) := by decide +kernel
theorem dX11_taken_23 : decode cX11_taken 23 = .ok (.bipush (-11), 2) := by decide +kernel
theorem dX11_taken_25 : decode cX11_taken 25 = .ok (.ireturn, 1) := by decide +kernel
theorem dX11_taken_26 : decode cX11_taken 26 = .ok (.aload_n 0, 1) := by decide +kernel
theorem dX11_taken_27 : decode cX11_taken 27 = .ok (.getfield 29, 3) := by decide +kernel
theorem dX11_taken_30 : decode cX11_taken 30 = .ok (.iload_n 1, 1) := by decide +kernel
theorem dX11_taken_31 : decode cX11_taken 31 = .ok (.iaload, 1) := by decide +kernel
theorem dX11_taken_32 : decode cX11_taken 32 = .ok (.istore_n 3, 1) := by decide +kernel
theorem dX11_taken_33 : decode cX11_taken 33 = .ok (.iload_n 3, 1) := by decide +kernel
theorem dX11_taken_34 : decode cX11_taken 34 = .ok (.iconst (-1), 1) := by decide +kernel
theorem dX11_taken_35 : decode cX11_taken 35 = .ok (.if_icmp .eq 16, 3) := by decide +kernel
theorem dX11_taken_38 : decode cX11_taken 38 = .ok (.iload_n 3, 1) := by decide +kernel
theorem dX11_taken_39 : decode cX11_taken 39 = .ok (.iload_n 2, 1) := by decide +kernel
theorem dX11_taken_40 : decode cX11_taken 40 = .ok (.if_icmp .eq 11, 3) := by decide +kernel
theorem dX11_taken_43 : decode cX11_taken 43 = .ok (.iload_n 3, 1) := by decide +kernel
theorem dX11_taken_44 : decode cX11_taken 44 = .ok (.invokestatic 418, 3) := by decide +kernel
theorem dX11_taken_47 : decode cX11_taken 47 = .ok (.istore_n 3, 1) := by decide +kernel
theorem dX11_taken_48 : decode cX11_taken 48 = .ok (.goto (-15), 3) := by decide +kernel
theorem dX11_taken_51 : decode cX11_taken 51 = .ok (.iload_n 3, 1) := by decide +kernel
theorem dX11_taken_52 : decode cX11_taken 52 = .ok (.iload_n 2, 1) := by decide +kernel
theorem dX11_taken_53 : decode cX11_taken 53 = .ok (.if_icmp .ne 14, 3) := by decide +kernel
theorem dX11_taken_56 : decode cX11_taken 56 = .ok (.aload_n 0, 1) := by decide +kernel
theorem dX11_taken_57 : decode cX11_taken 57 = .ok (.getfield 32, 3) := by decide +kernel
theorem dX11_taken_60 : decode cX11_taken 60 = .ok (.iconst 3, 1) := by decide +kernel
theorem dX11_taken_61 : decode cX11_taken 61 = .ok (.iload_n 1, 1) := by decide +kernel
theorem dX11_taken_62 : decode cX11_taken 62 = .ok (.imul, 1) := by decide +kernel
theorem dX11_taken_63 : decode cX11_taken 63 = .ok (.iaload, 1) := by decide +kernel
theorem dX11_taken_64 : decode cX11_taken 64 = .ok (.goto 5, 3) := by decide +kernel
theorem dX11_taken_67 : decode cX11_taken 67 = .ok (.bipush (-13), 2) := by decide +kernel
theorem dX11_taken_69 : decode cX11_taken 69 = .ok (.ireturn, 1) := by decide +kernel
