theorem dX9_in_0 : decode cX9_in 0 = .ok (.lload_n 0, 1) := by decide +kernel
theorem dX9_in_1 : decode cX9_in 1 = .ok (.lload_n 2, 1) := by decide +kernel
theorem dX9_in_2 : decode cX9_in 2 = .ok (.lcmp, 1) := by decide +kernel
theorem dX9_in_3 : decode cX9_in 3 = .ok (.ifCond .lt 14, 3) := by decide +kernel
theorem dX9_in_6 : decode cX9_in 6 = .ok (.lload_n 0, 1) := by decide +kernel
theorem dX9_in_7 : decode cX9_in 7 = .ok (.lload 4, 2) := by decide +kernel
theorem dX9_in_9 : decode cX9_in 9 = .ok (.lcmp, 1) := by decide +kernel
theorem dX9_in_10 : decode cX9_in 10 = .ok (.ifCond .gt 7, 3) := by decide +kernel
theorem dX9_in_13 : decode cX9_in 13 = .ok (.iconst 1, 1) := by decide +kernel
theorem dX9_in_14 : decode cX9_in 14 = .ok (.goto 4, 3) := by decide +kernel
theorem dX9_in_17 : decode cX9_in 17 = .ok (.iconst 0, 1) := by decide +kernel
theorem dX9_in_18 : decode cX9_in 18 = .ok (.ireturn, 1) := by decide +kernel
theorem dX9_init_0 : decode cX9_init 0 = .ok (.aload_n 0, 1) := by decide +kernel
theorem dX9_init_1 : decode cX9_init 1 = .ok (.invokespecial 1, 3) := by decide +kernel
theorem dX9_init_4 : decode cX9_init 4 = .ok (.aload_n 0, 1) := by decide +kernel
theorem dX9_init_5 : decode cX9_init 5 = .ok (.bipush 16, 2) := by decide +kernel
theorem dX9_init_7 : decode cX9_init 7 = .ok (.newarray .int, 2) := by decide +kernel
theorem dX9_init_9 : decode cX9_init 9 = .ok (.putfield 7, 3) := by decide +kernel
theorem dX9_init_12 : decode cX9_init 12 = .ok (.aload_n 0, 1) := by decide +kernel
theorem dX9_init_13 : decode cX9_init 13 = .ok (.bipush 16, 2) := by decide +kernel
theorem dX9_init_15 : decode cX9_init 15 = .ok (.newarray .int, 2) := by decide +kernel
theorem dX9_init_17 : decode cX9_init 17 = .ok (.putfield 13, 3) := by decide +kernel
theorem dX9_init_20 : decode cX9_init 20 = .ok (.aload_n 0, 1) := by decide +kernel
theorem dX9_init_21 : decode cX9_init 21 = .ok (.bipush 16, 2) := by decide +kernel
theorem dX9_init_23 : decode cX9_init 23 = .ok (.newarray .int, 2) := by decide +kernel
theorem dX9_init_25 : decode cX9_init 25 = .ok (.putfield 16, 3) := by decide +kernel
theorem dX9_init_28 : decode cX9_init 28 = .ok (.aload_n 0, 1) := by decide +kernel
theorem dX9_init_29 : decode cX9_init 29 = .ok (.bipush 16, 2) := by decide +kernel
theorem dX9_init_31 : decode cX9_init 31 = .ok (.newarray .int, 2) := by decide +kernel
theorem dX9_init_33 : decode cX9_init 33 = .ok (.putfield 19, 3) := by decide +kernel
theorem dX9_init_36 : decode cX9_init 36 = .ok (.aload_n 0, 1) := by decide +kernel
theorem dX9_init_37 : decode cX9_init 37 = .ok (.bipush 16, 2) := by decide +kernel
theorem dX9_init_39 : decode cX9_init 39 = .ok (.newarray .int, 2) := by decide +kernel
theorem dX9_init_41 : decode cX9_init 41 = .ok (.putfield 22, 3) := by decide +kernel
theorem dX9_init_44 : decode cX9_init 44 = .ok (.aload_n 0, 1) := by decide +kernel
theorem dX9_init_45 : decode cX9_init 45 = .ok (.iconst 5, 1) := by decide +kernel
theorem dX9_init_46 : decode cX9_init 46 = .ok (.newarray .int, 2) := by decide +kernel
theorem dX9_init_48 : decode cX9_init 48 = .ok (.putfield 25, 3) := by decide +kernel
theorem dX9_init_51 : decode cX9_init 51 = .ok (.aload_n 0, 1) := by decide +kernel
theorem dX9_init_52 : decode cX9_init 52 = .ok (.bipush 24, 2) := by decide +kernel
theorem dX9_init_54 : decode cX9_init 54 = .ok (.newarray .int, 2) := by decide +kernel
theorem dX9_init_56 : decode cX9_init 56 = .ok (.putfield 28, 3) := by decide +kernel
theorem dX9_init_59 : decode cX9_init 59 = .ok (.aload_n 0, 1) := by decide +kernel
theorem dX9_init_60 : decode cX9_init 60 = .ok (.bipush 100, 2) := by decide +kernel
theorem dX9_init_62 : decode cX9_init 62 = .ok (.newarray .int, 2) := by decide +kernel
theorem dX9_init_64 : decode cX9_init 64 = .ok (.putfield 31, 3) := by decide +kernel
theorem dX9_init_67 : decode cX9_init 67 = .ok (.aload_n 0, 1) := by decide +kernel
theorem dX9_init_68 : decode cX9_init 68 = .ok (.bipush 48, 2) := by decide +kernel
theorem dX9_init_70 : decode cX9_init 70 = .ok (.newarray .int, 2) := by decide +kernel
theorem dX9_init_72 : decode cX9_init 72 = .ok (.putfield 34, 3) := by decide +kernel
theorem dX9_init_75 : decode cX9_init 75 = .ok (.aload_n 0, 1) := by decide +kernel
theorem dX9_init_76 : decode cX9_init 76 = .ok (.bipush 32, 2) := by decide +kernel
theorem dX9_init_78 : decode cX9_init 78 = .ok (.newarray .int, 2) := by decide +kernel
theorem dX9_init_80 : decode cX9_init 80 = .ok (.putfield 37, 3) := by decide +kernel
theorem dX9_init_83 : decode cX9_init 83 = .ok (.aload_n 0, 1) := by decide +kernel
theorem dX9_init_84 : decode cX9_init 84 = .ok (.bipush 64, 2) := by decide +kernel
theorem dX9_init_86 : decode cX9_init 86 = .ok (.newarray .int, 2) := by decide +kernel
theorem dX9_init_88 : decode cX9_init 88 = .ok (.putfield 40, 3) := by decide +kernel
theorem dX9_init_91 : decode cX9_init 91 = .ok (.aload_n 0, 1) := by decide +kernel
theorem dX9_init_92 : decode cX9_init 92 = .ok (.bipush 24, 2) := by decide +kernel
theorem dX9_init_94 : decode cX9_init 94 = .ok (.newarray .int, 2) := by decide +kernel
theorem dX9_init_96 : decode cX9_init 96 = .ok (.putfield 43, 3) := by decide +kernel
theorem dX9_init_99 : decode cX9_init 99 = .ok (.aload_n 0, 1) := by decide +kernel
theorem dX9_init_100 : decode cX9_init 100 = .ok (.bipush 24, 2) := by decide +kernel
theorem dX9_init_102 : decode cX9_init 102 = .ok (.newarray .int, 2) := by decide +kernel
theorem dX9_init_104 : decode cX9_init 104 = .ok (.putfield 46, 3) := by decide +kernel
theorem dX9_init_107 : decode cX9_init 107 = .ok (.aload_n 0, 1) := by decide +kernel
theorem dX9_init_108 : decode cX9_init 108 = .ok (.sipush 200, 3) := by decide +kernel
theorem dX9_init_111 : decode cX9_init 111 = .ok (.newarray .int, 2) := by decide +kernel
theorem dX9_init_113 : decode cX9_init 113 = .ok (.putfield 49, 3) := by decide +kernel
theorem dX9_init_116 : decode cX9_init 116 = .ok (.aload_n 0, 1) := by decide +kernel
theorem dX9_init_117 : decode cX9_init 117 = .ok (.iconst 4, 1) := by decide +kernel
theorem dX9_init_118 : decode cX9_init 118 = .ok (.newarray .int, 2) := by decide +kernel
theorem dX9_init_120 : decode cX9_init 120 = .ok (.putfield 52, 3) := by decide +kernel
theorem dX9_init_123 : decode cX9_init 123 = .ok (.aload_n 0, 1) := by decide +kernel
theorem dX9_init_124 : decode cX9_init 124 = .ok (.iconst 4, 1) := by decide +kernel
theorem dX9_init_125 : decode cX9_init 125 = .ok (.newarray .int, 2) := by decide +kernel
theorem dX9_init_127 : decode cX9_init 127 = .ok (.putfield 55, 3) := by decide +kernel
theorem dX9_init_130 : decode cX9_init 130 = .ok (.aload_n 0, 1) := by decide +kernel
theorem dX9_init_131 : decode cX9_init 131 = .ok (.bipush 64, 2) := by decide +kernel
theorem dX9_init_133 : decode cX9_init 133 = .ok (.newarray .int, 2) := by decide +kernel
theorem dX9_init_135 : decode cX9_init 135 = .ok (.putfield 58, 3) := by decide +kernel
theorem dX9_init_138 : decode cX9_init 138 = .ok (.aload_n 0, 1) := by decide +kernel
theorem dX9_init_139 : decode cX9_init 139 = .ok (.bipush 16, 2) := by decide +kernel
theorem dX9_init_141 : decode cX9_init 141 = .ok (.newarray .int, 2) := by decide +kernel
theorem dX9_init_143 : decode cX9_init 143 = .ok (.putfield 61, 3) := by decide +kernel
theorem dX9_init_146 : decode cX9_init 146 = .ok (.iconst 0, 1) := by decide +kernel
theorem dX9_init_147 : decode cX9_init 147 = .ok (.istore_n 1, 1) := by decide +kernel
theorem dX9_init_148 : decode cX9_init 148 = .ok (.iload_n 1, 1) := by decide +kernel
theorem dX9_init_149 : decode cX9_init 149 = .ok (.iconst 4, 1) := by decide +kernel
theorem dX9_init_150 : decode cX9_init 150 = .ok (.if_icmp .ge 16, 3) := by decide +kernel
theorem dX9_init_153 : decode cX9_init 153 = .ok (.aload_n 0, 1) := by decide +kernel
theorem dX9_init_154 : decode cX9_init 154 = .ok (.getfield 52, 3) := by decide +kernel
theorem dX9_init_157 : decode cX9_init 157 = .ok (.iload_n 1, 1) := by decide +kernel
theorem dX9_init_158 : decode cX9_init 158 = .ok (.iconst (-1), 1) := by decide +kernel
theorem dX9_init_159 : decode cX9_init 159 = .ok (.iastore, 1) := by decide +kernel
theorem dX9_init_160 : decode cX9_init 160 = .ok (.iinc 1 1, 3) := by decide +kernel
theorem dX9_init_163 : decode cX9_init 163 = .ok (.goto (-15), 3) := by decide +kernel
theorem dX9_init_166 : decode cX9_init 166 = .ok (.iconst 0, 1) := by decide +kernel
theorem dX9_init_167 : decode cX9_init 167 = .ok (.istore_n 1, 1) := by decide +kernel
theorem dX9_init_168 : decode cX9_init 168 = .ok (.iload_n 1, 1) := by decide +kernel
theorem dX9_init_169 : decode cX9_init 169 = .ok (.bipush 16, 2) := by decide +kernel
theorem dX9_init_171 : decode cX9_init 171 = .ok (.if_icmp .ge 23, 3) := by decide +kernel
theorem dX9_init_174 : decode cX9_init 174 = .ok (.aload_n 0, 1) := by decide +kernel
theorem dX9_init_175 : decode cX9_init 175 = .ok (.getfield 16, 3) := by decide +kernel
theorem dX9_init_178 : decode cX9_init 178 = .ok (.iload_n 1, 1) := by decide +kernel
theorem dX9_init_179 : decode cX9_init 179 = .ok (.iconst (-1), 1) := by decide +kernel
theorem dX9_init_180 : decode cX9_init 180 = .ok (.iastore, 1) := by decide +kernel
theorem dX9_init_181 : decode cX9_init 181 = .ok (.aload_n 0, 1) := by decide +kernel
theorem dX9_init_182 : decode cX9_init 182 = .ok (.getfield 19, 3) := by decide +kernel
theorem dX9_init_185 : decode cX9_init 185 = .ok (.iload_n 1, 1) := by decide +kernel
theorem dX9_init_186 : decode cX9_init 186 = .ok (.iconst (-1), 1) := by decide +kernel
theorem dX9_init_187 : decode cX9_init 187 = .ok (.iastore, 1) := by decide +kernel
theorem dX9_init_188 : decode cX9_init 188 = .ok (.iinc 1 1, 3) := by decide +kernel
theorem dX9_init_191 : decode cX9_init 191 = .ok (.goto (-23), 3) := by decide +kernel
theorem dX9_init_194 : decode cX9_init 194 = .ok (.aload_n 0, 1) := by decide +kernel
theorem dX9_init_195 : decode cX9_init 195 = .ok (.iconst 1, 1) := by decide +kernel
theorem dX9_init_196 : decode cX9_init 196 = .ok (.putfield 64, 3) := by decide +kernel
theorem dX9_init_199 : decode cX9_init 199 = .ok (.aload_n 0, 1) := by decide +kernel
theorem dX9_init_200 : decode cX9_init 200 = .ok (.getfield 25, 3) := by decide +kernel
theorem dX9_init_203 : decode cX9_init 203 = .ok (.iconst 0, 1) := by decide +kernel
theorem dX9_init_204 : decode cX9_init 204 = .ok (.iconst 4, 1) := by decide +kernel
theorem dX9_init_205 : decode cX9_init 205 = .ok (.iastore, 1) := by decide +kernel
theorem dX9_init_206 : decode cX9_init 206 = .ok (.aload_n 0, 1) := by decide +kernel
theorem dX9_init_207 : decode cX9_init 207 = .ok (.getfield 25, 3) := by decide +kernel
theorem dX9_init_210 : decode cX9_init 210 = .ok (.iconst 1, 1) := by decide +kernel
theorem dX9_init_211 : decode cX9_init 211 = .ok (.iconst 3, 1) := by decide +kernel
theorem dX9_init_212 : decode cX9_init 212 = .ok (.iastore, 1) := by decide +kernel
theorem dX9_init_213 : decode cX9_init 213 = .ok (.aload_n 0, 1) := by decide +kernel
theorem dX9_init_214 : decode cX9_init 214 = .ok (.getfield 25, 3) := by decide +kernel
theorem dX9_init_217 : decode cX9_init 217 = .ok (.iconst 2, 1) := by decide +kernel
theorem dX9_init_218 : decode cX9_init 218 = .ok (.iconst 3, 1) := by decide +kernel
theorem dX9_init_219 : decode cX9_init 219 = .ok (.iastore, 1) := by decide +kernel
theorem dX9_init_220 : decode cX9_init 220 = .ok (.aload_n 0, 1) := by decide +kernel
theorem dX9_init_221 : decode cX9_init 221 = .ok (.getfield 25, 3) := by decide +kernel
theorem dX9_init_224 : decode cX9_init 224 = .ok (.iconst 3, 1) := by decide +kernel
theorem dX9_init_225 : decode cX9_init 225 = .ok (.iconst 2, 1) := by decide +kernel
theorem dX9_init_226 : decode cX9_init 226 = .ok (.iastore, 1) := by decide +kernel
theorem dX9_init_227 : decode cX9_init 227 = .ok (.aload_n 0, 1) := by decide +kernel
theorem dX9_init_228 : decode cX9_init 228 = .ok (.getfield 25, 3) := by decide +kernel
theorem dX9_init_231 : decode cX9_init 231 = .ok (.iconst 4, 1) := by decide +kernel
theorem dX9_init_232 : decode cX9_init 232 = .ok (.iconst 2, 1) := by decide +kernel
theorem dX9_init_233 : decode cX9_init 233 = .ok (.iastore, 1) := by decide +kernel
theorem dX9_init_234 : decode cX9_init 234 = .ok (.return_, 1) := by decide +kernel
theorem dX9_isBeat_0 : decode cX9_isBeat 0 = .ok (.iload_n 0, 1) := by decide +kernel
theorem dX9_isBeat_1 : decode cX9_isBeat 1 = .ok (.i2l, 1) := by decide +kernel
theorem dX9_isBeat_2 : decode cX9_isBeat 2 = .ok (.lconst 0, 1) := by decide +kernel
theorem dX9_isBeat_3 : decode cX9_isBeat 3 = .ok (.ldc2_w 68, 3) := by decide +kernel
theorem dX9_isBeat_6 : decode cX9_isBeat 6 = .ok (.invokestatic 70, 3) := by decide +kernel
theorem dX9_isBeat_9 : decode cX9_isBeat 9 = .ok (.ireturn, 1) := by decide +kernel
theorem dX9_isPlace_0 : decode cX9_isPlace 0 = .ok (.iload_n 0, 1) := by decide +kernel
theorem dX9_isPlace_1 : decode cX9_isPlace 1 = .ok (.i2l, 1) := by decide +kernel
theorem dX9_isPlace_2 : decode cX9_isPlace 2 = .ok (.lconst 0, 1) := by decide +kernel
theorem dX9_isPlace_3 : decode cX9_isPlace 3 = .ok (.ldc2_w 74, 3) := by decide +kernel
theorem dX9_isPlace_6 : decode cX9_isPlace 6 = .ok (.invokestatic 70, 3) := by decide +kernel
theorem dX9_isPlace_9 : decode cX9_isPlace 9 = .ok (.ireturn, 1) := by decide +kernel
theorem dX9_isOne_0 : decode cX9_isOne 0 = .ok (.iload_n 1, 1) := by decide +kernel
theorem dX9_isOne_1 : decode cX9_isOne 1 = .ok (.i2l, 1) := by decide +kernel
theorem dX9_isOne_2 : decode cX9_isOne 2 = .ok (.lconst 0, 1) := by decide +kernel
theorem dX9_isOne_3 : decode cX9_isOne 3 = .ok (.aload_n 0, 1) := by decide +kernel
theorem dX9_isOne_4 : decode cX9_isOne 4 = .ok (.getfield 76, 3) := by decide +kernel
theorem dX9_isOne_7 : decode cX9_isOne 7 = .ok (.iconst 1, 1) := by decide +kernel
theorem dX9_isOne_8 : decode cX9_isOne 8 = .ok (.isub, 1) := by decide +kernel
theorem dX9_isOne_9 : decode cX9_isOne 9 = .ok (.i2l, 1) := by decide +kernel
theorem dX9_isOne_10 : decode cX9_isOne 10 = .ok (.invokestatic 70, 3) := by decide +kernel
theorem dX9_isOne_13 : decode cX9_isOne 13 = .ok (.ireturn, 1) := by decide +kernel
theorem dX9_act_0 : decode cX9_act 0 = .ok (.iload_n 1, 1) := by decide +kernel
theorem dX9_act_1 : decode cX9_act 1 = .ok (.invokestatic 79, 3) := by decide +kernel
theorem dX9_act_4 : decode cX9_act 4 = .ok (.ifCond .eq 33, 3) := by decide +kernel
theorem dX9_act_7 : decode cX9_act 7 = .ok (.iload_n 2, 1) := by decide +kernel
theorem dX9_act_8 : decode cX9_act 8 = .ok (.i2l, 1) := by decide +kernel
theorem dX9_act_9 : decode cX9_act 9 = .ok (.lconst 0, 1) := by decide +kernel
theorem dX9_act_10 : decode cX9_act 10 = .ok (.lconst 1, 1) := by decide +kernel
theorem dX9_act_11 : decode cX9_act 11 = .ok (.invokestatic 70, 3) := by decide +kernel
theorem dX9_act_14 : decode cX9_act 14 = .ok (.ifCond .eq 23, 3) := by decide +kernel
theorem dX9_act_17 : decode cX9_act 17 = .ok (.iload_n 3, 1) := by decide +kernel
theorem dX9_act_18 : decode cX9_act 18 = .ok (.invokestatic 83, 3) := by decide +kernel
theorem dX9_act_21 : decode cX9_act 21 = .ok (.ifCond .eq 16, 3) := by decide +kernel
theorem dX9_act_24 : decode cX9_act 24 = .ok (.iload 4, 2) := by decide +kernel
theorem dX9_act_26 : decode cX9_act 26 = .ok (.i2l, 1) := by decide +kernel
theorem dX9_act_27 : decode cX9_act 27 = .ok (.lconst 0, 1) := by decide +kernel
theorem dX9_act_28 : decode cX9_act 28 = .ok (.ldc2_w 86, 3) := by decide +kernel
theorem dX9_act_31 : decode cX9_act 31 = .ok (.invokestatic 70, 3) := by decide +kernel
theorem dX9_act_34 : decode cX9_act 34 = .ok (.ifCond .ne 5, 3) := by decide +kernel
theorem dX9_act_37 : decode cX9_act 37 = .ok (.iconst (-1), 1) := by decide +kernel
theorem dX9_act_38 : decode cX9_act 38 = .ok (.ireturn, 1) := by decide +kernel
theorem dX9_act_39 : decode cX9_act 39 = .ok (.iload 4, 2) := by decide +kernel
theorem dX9_act_41 : decode cX9_act 41 = .ok (.ifCond .ne 7, 3) := by decide +kernel
theorem dX9_act_44 : decode cX9_act 44 = .ok (.iconst 0, 1) := by decide +kernel
theorem dX9_act_45 : decode cX9_act 45 = .ok (.goto 10, 3) := by decide +kernel
theorem dX9_act_48 : decode cX9_act 48 = .ok (.bipush 10, 2) := by decide +kernel
theorem dX9_act_50 : decode cX9_act 50 = .ok (.iload_n 3, 1) := by decide +kernel
theorem dX9_act_51 : decode cX9_act 51 = .ok (.imul, 1) := by decide +kernel
theorem dX9_act_52 : decode cX9_act 52 = .ok (.iload 4, 2) := by decide +kernel
theorem dX9_act_54 : decode cX9_act 54 = .ok (.iadd, 1) := by decide +kernel
theorem dX9_act_55 : decode cX9_act 55 = .ok (.istore 5, 2) := by decide +kernel
theorem dX9_act_57 : decode cX9_act 57 = .ok (.iload_n 2, 1) := by decide +kernel
theorem dX9_act_58 : decode cX9_act 58 = .ok (.ifCond .ne 12, 3) := by decide +kernel
theorem dX9_act_61 : decode cX9_act 61 = .ok (.aload_n 0, 1) := by decide +kernel
theorem dX9_act_62 : decode cX9_act 62 = .ok (.getfield 7, 3) := by decide +kernel
theorem dX9_act_65 : decode cX9_act 65 = .ok (.iload_n 1, 1) := by decide +kernel
theorem dX9_act_66 : decode cX9_act 66 = .ok (.iaload, 1) := by decide +kernel
theorem dX9_act_67 : decode cX9_act 67 = .ok (.goto 9, 3) := by decide +kernel
theorem dX9_act_70 : decode cX9_act 70 = .ok (.aload_n 0, 1) := by decide +kernel
theorem dX9_act_71 : decode cX9_act 71 = .ok (.getfield 13, 3) := by decide +kernel
theorem dX9_act_74 : decode cX9_act 74 = .ok (.iload_n 1, 1) := by decide +kernel
theorem dX9_act_75 : decode cX9_act 75 = .ok (.iaload, 1) := by decide +kernel
theorem dX9_act_76 : decode cX9_act 76 = .ok (.istore 6, 2) := by decide +kernel
theorem dX9_act_78 : decode cX9_act 78 = .ok (.iload_n 2, 1) := by decide +kernel
theorem dX9_act_79 : decode cX9_act 79 = .ok (.ifCond .ne 14, 3) := by decide +kernel
theorem dX9_act_82 : decode cX9_act 82 = .ok (.aload_n 0, 1) := by decide +kernel
theorem dX9_act_83 : decode cX9_act 83 = .ok (.getfield 7, 3) := by decide +kernel
theorem dX9_act_86 : decode cX9_act 86 = .ok (.iload_n 1, 1) := by decide +kernel
theorem dX9_act_87 : decode cX9_act 87 = .ok (.iload 5, 2) := by decide +kernel
theorem dX9_act_89 : decode cX9_act 89 = .ok (.iastore, 1) := by decide +kernel
theorem dX9_act_90 : decode cX9_act 90 = .ok (.goto 11, 3) := by decide +kernel
theorem dX9_act_93 : decode cX9_act 93 = .ok (.aload_n 0, 1) := by decide +kernel
theorem dX9_act_94 : decode cX9_act 94 = .ok (.getfield 13, 3) := by decide +kernel
theorem dX9_act_97 : decode cX9_act 97 = .ok (.iload_n 1, 1) := by decide +kernel
theorem dX9_act_98 : decode cX9_act 98 = .ok (.iload 5, 2) := by decide +kernel
theorem dX9_act_100 : decode cX9_act 100 = .ok (.iastore, 1) := by decide +kernel
theorem dX9_act_101 : decode cX9_act 101 = .ok (.iload 6, 2) := by decide +kernel
theorem dX9_act_103 : decode cX9_act 103 = .ok (.ireturn, 1) := by decide +kernel
theorem dX9_cue_0 : decode cX9_cue 0 = .ok (.iload_n 1, 1) := by decide +kernel
theorem dX9_cue_1 : decode cX9_cue 1 = .ok (.invokestatic 79, 3) := by decide +kernel
theorem dX9_cue_4 : decode cX9_cue 4 = .ok (.ifCond .eq 47, 3) := by decide +kernel
theorem dX9_cue_7 : decode cX9_cue 7 = .ok (.iload_n 2, 1) := by decide +kernel
theorem dX9_cue_8 : decode cX9_cue 8 = .ok (.i2l, 1) := by decide +kernel
theorem dX9_cue_9 : decode cX9_cue 9 = .ok (.lconst 0, 1) := by decide +kernel
theorem dX9_cue_10 : decode cX9_cue 10 = .ok (.ldc2_w 88, 3) := by decide +kernel
theorem dX9_cue_13 : decode cX9_cue 13 = .ok (.invokestatic 70, 3) := by decide +kernel
theorem dX9_cue_16 : decode cX9_cue 16 = .ok (.ifCond .eq 35, 3) := by decide +kernel
theorem dX9_cue_19 : decode cX9_cue 19 = .ok (.iload_n 3, 1) := by decide +kernel
theorem dX9_cue_20 : decode cX9_cue 20 = .ok (.i2l, 1) := by decide +kernel
theorem dX9_cue_21 : decode cX9_cue 21 = .ok (.iload_n 2, 1) := by decide +kernel
theorem dX9_cue_22 : decode cX9_cue 22 = .ok (.iconst 2, 1) := by decide +kernel
theorem dX9_cue_23 : decode cX9_cue 23 = .ok (.if_icmp .ne 7, 3) := by decide +kernel
theorem dX9_cue_26 : decode cX9_cue 26 = .ok (.lconst 0, 1) := by decide +kernel
theorem dX9_cue_27 : decode cX9_cue 27 = .ok (.goto 6, 3) := by decide +kernel
theorem dX9_cue_30 : decode cX9_cue 30 = .ok (.ldc2_w 90, 3) := by decide +kernel
theorem dX9_cue_33 : decode cX9_cue 33 = .ok (.iload_n 2, 1) := by decide +kernel
theorem dX9_cue_34 : decode cX9_cue 34 = .ok (.iconst 2, 1) := by decide +kernel
theorem dX9_cue_35 : decode cX9_cue 35 = .ok (.if_icmp .ne 7, 3) := by decide +kernel
theorem dX9_cue_38 : decode cX9_cue 38 = .ok (.lconst 1, 1) := by decide +kernel
theorem dX9_cue_39 : decode cX9_cue 39 = .ok (.goto 6, 3) := by decide +kernel
theorem dX9_cue_42 : decode cX9_cue 42 = .ok (.ldc2_w 74, 3) := by decide +kernel
theorem dX9_cue_45 : decode cX9_cue 45 = .ok (.invokestatic 70, 3) := by decide +kernel
theorem dX9_cue_48 : decode cX9_cue 48 = .ok (.ifCond .ne 5, 3) := by decide +kernel
theorem dX9_cue_51 : decode cX9_cue 51 = .ok (.iconst (-1), 1) := by decide +kernel
theorem dX9_cue_52 : decode cX9_cue 52 = .ok (.ireturn, 1) := by decide +kernel
theorem dX9_cue_53 : decode cX9_cue 53 = .ok (.iload_n 2, 1) := by decide +kernel
theorem dX9_cue_54 : decode cX9_cue 54 = .ok (.ifCond .ne 12, 3) := by decide +kernel
theorem dX9_cue_57 : decode cX9_cue 57 = .ok (.aload_n 0, 1) := by decide +kernel
theorem dX9_cue_58 : decode cX9_cue 58 = .ok (.getfield 16, 3) := by decide +kernel
theorem dX9_cue_61 : decode cX9_cue 61 = .ok (.iload_n 1, 1) := by decide +kernel
theorem dX9_cue_62 : decode cX9_cue 62 = .ok (.iaload, 1) := by decide +kernel
theorem dX9_cue_63 : decode cX9_cue 63 = .ok (.goto 23, 3) := by decide +kernel
theorem dX9_cue_66 : decode cX9_cue 66 = .ok (.iload_n 2, 1) := by decide +kernel
theorem dX9_cue_67 : decode cX9_cue 67 = .ok (.iconst 1, 1) := by decide +kernel
theorem dX9_cue_68 : decode cX9_cue 68 = .ok (.if_icmp .ne 12, 3) := by decide +kernel
theorem dX9_cue_71 : decode cX9_cue 71 = .ok (.aload_n 0, 1) := by decide +kernel
theorem dX9_cue_72 : decode cX9_cue 72 = .ok (.getfield 19, 3) := by decide +kernel
theorem dX9_cue_75 : decode cX9_cue 75 = .ok (.iload_n 1, 1) := by decide +kernel
theorem dX9_cue_76 : decode cX9_cue 76 = .ok (.iaload, 1) := by decide +kernel
theorem dX9_cue_77 : decode cX9_cue 77 = .ok (.goto 9, 3) := by decide +kernel
theorem dX9_cue_80 : decode cX9_cue 80 = .ok (.aload_n 0, 1) := by decide +kernel
theorem dX9_cue_81 : decode cX9_cue 81 = .ok (.getfield 22, 3) := by decide +kernel
theorem dX9_cue_84 : decode cX9_cue 84 = .ok (.iload_n 1, 1) := by decide +kernel
theorem dX9_cue_85 : decode cX9_cue 85 = .ok (.iaload, 1) := by decide +kernel
theorem dX9_cue_86 : decode cX9_cue 86 = .ok (.istore 4, 2) := by decide +kernel
theorem dX9_cue_88 : decode cX9_cue 88 = .ok (.iload_n 2, 1) := by decide +kernel
theorem dX9_cue_89 : decode cX9_cue 89 = .ok (.ifCond .ne 13, 3) := by decide +kernel
theorem dX9_cue_92 : decode cX9_cue 92 = .ok (.aload_n 0, 1) := by decide +kernel
theorem dX9_cue_93 : decode cX9_cue 93 = .ok (.getfield 16, 3) := by decide +kernel
theorem dX9_cue_96 : decode cX9_cue 96 = .ok (.iload_n 1, 1) := by decide +kernel
theorem dX9_cue_97 : decode cX9_cue 97 = .ok (.iload_n 3, 1) := by decide +kernel
theorem dX9_cue_98 : decode cX9_cue 98 = .ok (.iastore, 1) := by decide +kernel
theorem dX9_cue_99 : decode cX9_cue 99 = .ok (.goto 25, 3) := by decide +kernel
theorem dX9_cue_102 : decode cX9_cue 102 = .ok (.iload_n 2, 1) := by decide +kernel
theorem dX9_cue_103 : decode cX9_cue 103 = .ok (.iconst 1, 1) := by decide +kernel
theorem dX9_cue_104 : decode cX9_cue 104 = .ok (.if_icmp .ne 13, 3) := by decide +kernel
theorem dX9_cue_107 : decode cX9_cue 107 = .ok (.aload_n 0, 1) := by decide +kernel
theorem dX9_cue_108 : decode cX9_cue 108 = .ok (.getfield 19, 3) := by decide +kernel
theorem dX9_cue_111 : decode cX9_cue 111 = .ok (.iload_n 1, 1) := by decide +kernel
theorem dX9_cue_112 : decode cX9_cue 112 = .ok (.iload_n 3, 1) := by decide +kernel
theorem dX9_cue_113 : decode cX9_cue 113 = .ok (.iastore, 1) := by decide +kernel
theorem dX9_cue_114 : decode cX9_cue 114 = .ok (.goto 10, 3) := by decide +kernel
theorem dX9_cue_117 : decode cX9_cue 117 = .ok (.aload_n 0, 1) := by decide +kernel
theorem dX9_cue_118 : decode cX9_cue 118 = .ok (.getfield 22, 3) := by decide +kernel
theorem dX9_cue_121 : decode cX9_cue 121 = .ok (.iload_n 1, 1) := by decide +kernel
theorem dX9_cue_122 : decode cX9_cue 122 = .ok (.iload_n 3, 1) := by decide +kernel
theorem dX9_cue_123 : decode cX9_cue 123 = .ok (.iastore, 1) := by decide +kernel
theorem dX9_cue_124 : decode cX9_cue 124 = .ok (.iconst 1, 1) := by decide +kernel
theorem dX9_cue_125 : decode cX9_cue 125 = .ok (.iload 4, 2) := by decide +kernel
theorem dX9_cue_127 : decode cX9_cue 127 = .ok (.iadd, 1) := by decide +kernel
theorem dX9_cue_128 : decode cX9_cue 128 = .ok (.ireturn, 1) := by decide +kernel
theorem dX9_stand_0 : decode cX9_stand 0 = .ok (.iload_n 1, 1) := by decide +kernel
theorem dX9_stand_1 : decode cX9_stand 1 = .ok (.i2l, 1) := by decide +kernel
theorem dX9_stand_2 : decode cX9_stand 2 = .ok (.lconst 0, 1) := by decide +kernel
theorem dX9_stand_3 : decode cX9_stand 3 = .ok (.ldc2_w 74, 3) := by decide +kernel
theorem dX9_stand_6 : decode cX9_stand 6 = .ok (.invokestatic 70, 3) := by decide +kernel
theorem dX9_stand_9 : decode cX9_stand 9 = .ok (.ifCond .ne 5, 3) := by decide +kernel
theorem dX9_stand_12 : decode cX9_stand 12 = .ok (.iconst (-1), 1) := by decide +kernel
theorem dX9_stand_13 : decode cX9_stand 13 = .ok (.ireturn, 1) := by decide +kernel
theorem dX9_stand_14 : decode cX9_stand 14 = .ok (.aload_n 0, 1) := by decide +kernel
theorem dX9_stand_15 : decode cX9_stand 15 = .ok (.getfield 64, 3) := by decide +kernel
theorem dX9_stand_18 : decode cX9_stand 18 = .ok (.istore_n 2, 1) := by decide +kernel
theorem dX9_stand_19 : decode cX9_stand 19 = .ok (.aload_n 0, 1) := by decide +kernel
theorem dX9_stand_20 : decode cX9_stand 20 = .ok (.iload_n 1, 1) := by decide +kernel
theorem dX9_stand_21 : decode cX9_stand 21 = .ok (.putfield 64, 3) := by decide +kernel
theorem dX9_stand_24 : decode cX9_stand 24 = .ok (.iload_n 2, 1) := by decide +kernel
theorem dX9_stand_25 : decode cX9_stand 25 = .ok (.ireturn, 1) := by decide +kernel
theorem dX9_habit_0 : decode cX9_habit 0 = .ok (.iload_n 1, 1) := by decide +kernel
theorem dX9_habit_1 : decode cX9_habit 1 = .ok (.i2l, 1) := by decide +kernel
theorem dX9_habit_2 : decode cX9_habit 2 = .ok (.lconst 0, 1) := by decide +kernel
theorem dX9_habit_3 : decode cX9_habit 3 = .ok (.ldc2_w 92, 3) := by decide +kernel
theorem dX9_habit_6 : decode cX9_habit 6 = .ok (.invokestatic 70, 3) := by decide +kernel
theorem dX9_habit_9 : decode cX9_habit 9 = .ok (.ifCond .eq 26, 3) := by decide +kernel
theorem dX9_habit_12 : decode cX9_habit 12 = .ok (.iload_n 2, 1) := by decide +kernel
theorem dX9_habit_13 : decode cX9_habit 13 = .ok (.i2l, 1) := by decide +kernel
theorem dX9_habit_14 : decode cX9_habit 14 = .ok (.lconst 0, 1) := by decide +kernel
theorem dX9_habit_15 : decode cX9_habit 15 = .ok (.iload_n 1, 1) := by decide +kernel
theorem dX9_habit_16 : decode cX9_habit 16 = .ok (.iconst 4, 1) := by decide +kernel
theorem dX9_habit_17 : decode cX9_habit 17 = .ok (.if_icmp .ne 9, 3) := by decide +kernel
theorem dX9_habit_20 : decode cX9_habit 20 = .ok (.ldc2_w 94, 3) := by decide +kernel
theorem dX9_habit_23 : decode cX9_habit 23 = .ok (.goto 6, 3) := by decide +kernel
theorem dX9_habit_26 : decode cX9_habit 26 = .ok (.ldc2_w 86, 3) := by decide +kernel
theorem dX9_habit_29 : decode cX9_habit 29 = .ok (.invokestatic 70, 3) := by decide +kernel
theorem dX9_habit_32 : decode cX9_habit 32 = .ok (.ifCond .ne 5, 3) := by decide +kernel
theorem dX9_habit_35 : decode cX9_habit 35 = .ok (.iconst (-1), 1) := by decide +kernel
theorem dX9_habit_36 : decode cX9_habit 36 = .ok (.ireturn, 1) := by decide +kernel
theorem dX9_habit_37 : decode cX9_habit 37 = .ok (.aload_n 0, 1) := by decide +kernel
theorem dX9_habit_38 : decode cX9_habit 38 = .ok (.getfield 25, 3) := by decide +kernel
theorem dX9_habit_41 : decode cX9_habit 41 = .ok (.iload_n 1, 1) := by decide +kernel
theorem dX9_habit_42 : decode cX9_habit 42 = .ok (.iaload, 1) := by decide +kernel
theorem dX9_habit_43 : decode cX9_habit 43 = .ok (.istore_n 3, 1) := by decide +kernel
theorem dX9_habit_44 : decode cX9_habit 44 = .ok (.aload_n 0, 1) := by decide +kernel
theorem dX9_habit_45 : decode cX9_habit 45 = .ok (.getfield 25, 3) := by decide +kernel
theorem dX9_habit_48 : decode cX9_habit 48 = .ok (.iload_n 1, 1) := by decide +kernel
theorem dX9_habit_49 : decode cX9_habit 49 = .ok (.iload_n 2, 1) := by decide +kernel
theorem dX9_habit_50 : decode cX9_habit 50 = .ok (.iastore, 1) := by decide +kernel
theorem dX9_habit_51 : decode cX9_habit 51 = .ok (.iload_n 3, 1) := by decide +kernel
theorem dX9_habit_52 : decode cX9_habit 52 = .ok (.ireturn, 1) := by decide +kernel
theorem dX9_isTaken_0 : decode cX9_isTaken 0 = .ok (.iconst 0, 1) := by decide +kernel
theorem dX9_isTaken_1 : decode cX9_isTaken 1 = .ok (.istore_n 2, 1) := by decide +kernel
theorem dX9_isTaken_2 : decode cX9_isTaken 2 = .ok (.iconst 0, 1) := by decide +kernel
theorem dX9_isTaken_3 : decode cX9_isTaken 3 = .ok (.istore_n 3, 1) := by decide +kernel
theorem dX9_isTaken_4 : decode cX9_isTaken 4 = .ok (.iload_n 3, 1) := by decide +kernel
theorem dX9_isTaken_5 : decode cX9_isTaken 5 = .ok (.aload_n 0, 1) := by decide +kernel
theorem dX9_isTaken_6 : decode cX9_isTaken 6 = .ok (.getfield 76, 3) := by decide +kernel
theorem dX9_isTaken_9 : decode cX9_isTaken 9 = .ok (.if_icmp .ge 31, 3) := by decide +kernel
theorem dX9_isTaken_12 : decode cX9_isTaken 12 = .ok (.iload_n 2, 1) := by decide +kernel
theorem dX9_isTaken_13 : decode cX9_isTaken 13 = .ok (.ifCond .ne 15, 3) := by decide +kernel
theorem dX9_isTaken_16 : decode cX9_isTaken 16 = .ok (.aload_n 0, 1) := by decide +kernel
theorem dX9_isTaken_17 : decode cX9_isTaken 17 = .ok (.getfield 28, 3) := by decide +kernel
theorem dX9_isTaken_20 : decode cX9_isTaken 20 = .ok (.iconst 3, 1) := by decide +kernel
theorem dX9_isTaken_21 : decode cX9_isTaken 21 = .ok (.iload_n 3, 1) := by decide +kernel
theorem dX9_isTaken_22 : decode cX9_isTaken 22 = .ok (.imul, 1) := by decide +kernel
theorem dX9_isTaken_23 : decode cX9_isTaken 23 = .ok (.iaload, 1) := by decide +kernel
theorem dX9_isTaken_24 : decode cX9_isTaken 24 = .ok (.iload_n 1, 1) := by decide +kernel
theorem dX9_isTaken_25 : decode cX9_isTaken 25 = .ok (.if_icmp .ne 7, 3) := by decide +kernel
theorem dX9_isTaken_28 : decode cX9_isTaken 28 = .ok (.iconst 1, 1) := by decide +kernel
theorem dX9_isTaken_29 : decode cX9_isTaken 29 = .ok (.goto 4, 3) := by decide +kernel
theorem dX9_isTaken_32 : decode cX9_isTaken 32 = .ok (.iconst 0, 1) := by decide +kernel
theorem dX9_isTaken_33 : decode cX9_isTaken 33 = .ok (.istore_n 2, 1) := by decide +kernel
theorem dX9_isTaken_34 : decode cX9_isTaken 34 = .ok (.iinc 3 1, 3) := by decide +kernel
theorem dX9_isTaken_37 : decode cX9_isTaken 37 = .ok (.goto (-33), 3) := by decide +kernel
theorem dX9_isTaken_40 : decode cX9_isTaken 40 = .ok (.iload_n 2, 1) := by decide +kernel
theorem dX9_isTaken_41 : decode cX9_isTaken 41 = .ok (.ireturn, 1) := by decide +kernel
theorem dX9_comes_0 : decode cX9_comes 0 = .ok (.aload_n 0, 1) := by decide +kernel
theorem dX9_comes_1 : decode cX9_comes 1 = .ok (.getfield 28, 3) := by decide +kernel
theorem dX9_comes_4 : decode cX9_comes 4 = .ok (.iconst 3, 1) := by decide +kernel
theorem dX9_comes_5 : decode cX9_comes 5 = .ok (.aload_n 0, 1) := by decide +kernel
theorem dX9_comes_6 : decode cX9_comes 6 = .ok (.getfield 76, 3) := by decide +kernel
theorem dX9_comes_9 : decode cX9_comes 9 = .ok (.imul, 1) := by decide +kernel
theorem dX9_comes_10 : decode cX9_comes 10 = .ok (.iload_n 1, 1) := by decide +kernel
theorem dX9_comes_11 : decode cX9_comes 11 = .ok (.iastore, 1) := by decide +kernel
theorem dX9_comes_12 : decode cX9_comes 12 = .ok (.aload_n 0, 1) := by decide +kernel
theorem dX9_comes_13 : decode cX9_comes 13 = .ok (.getfield 28, 3) := by decide +kernel
theorem dX9_comes_16 : decode cX9_comes 16 = .ok (.iconst 3, 1) := by decide +kernel
theorem dX9_comes_17 : decode cX9_comes 17 = .ok (.aload_n 0, 1) := by decide +kernel
theorem dX9_comes_18 : decode cX9_comes 18 = .ok (.getfield 76, 3) := by decide +kernel
theorem dX9_comes_21 : decode cX9_comes 21 = .ok (.imul, 1) := by decide +kernel
theorem dX9_comes_22 : decode cX9_comes 22 = .ok (.iconst 1, 1) := by decide +kernel
theorem dX9_comes_23 : decode cX9_comes 23 = .ok (.iadd, 1) := by decide +kernel
theorem dX9_comes_24 : decode cX9_comes 24 = .ok (.iload_n 2, 1) := by decide +kernel
theorem dX9_comes_25 : decode cX9_comes 25 = .ok (.iastore, 1) := by decide +kernel
theorem dX9_comes_26 : decode cX9_comes 26 = .ok (.aload_n 0, 1) := by decide +kernel
theorem dX9_comes_27 : decode cX9_comes 27 = .ok (.getfield 28, 3) := by decide +kernel
theorem dX9_comes_30 : decode cX9_comes 30 = .ok (.iconst 3, 1) := by decide +kernel
theorem dX9_comes_31 : decode cX9_comes 31 = .ok (.aload_n 0, 1) := by decide +kernel
theorem dX9_comes_32 : decode cX9_comes 32 = .ok (.getfield 76, 3) := by decide +kernel
theorem dX9_comes_35 : decode cX9_comes 35 = .ok (.imul, 1) := by decide +kernel
theorem dX9_comes_36 : decode cX9_comes 36 = .ok (.iconst 2, 1) := by decide +kernel
theorem dX9_comes_37 : decode cX9_comes 37 = .ok (.iadd, 1) := by decide +kernel
theorem dX9_comes_38 : decode cX9_comes 38 = .ok (.iconst 3, 1) := by decide +kernel
theorem dX9_comes_39 : decode cX9_comes 39 = .ok (.iastore, 1) := by decide +kernel
theorem dX9_comes_40 : decode cX9_comes 40 = .ok (.aload_n 0, 1) := by decide +kernel
theorem dX9_comes_41 : decode cX9_comes 41 = .ok (.dup, 1) := by decide +kernel
theorem dX9_comes_42 : decode cX9_comes 42 = .ok (.getfield 76, 3) := by decide +kernel
theorem dX9_comes_45 : decode cX9_comes 45 = .ok (.iconst 1, 1) := by decide +kernel
theorem dX9_comes_46 : decode cX9_comes 46 = .ok (.iadd, 1) := by decide +kernel
theorem dX9_comes_47 : decode cX9_comes 47 = .ok (.putfield 76, 3) := by decide +kernel
theorem dX9_comes_50 : decode cX9_comes 50 = .ok (.aload_n 0, 1) := by decide +kernel
theorem dX9_comes_51 : decode cX9_comes 51 = .ok (.getfield 76, 3) := by decide +kernel
theorem dX9_comes_54 : decode cX9_comes 54 = .ok (.iconst 1, 1) := by decide +kernel
theorem dX9_comes_55 : decode cX9_comes 55 = .ok (.isub, 1) := by decide +kernel
theorem dX9_comes_56 : decode cX9_comes 56 = .ok (.ireturn, 1) := by decide +kernel
theorem dX9_watcher_0 : decode cX9_watcher 0 = .ok (.iload_n 1, 1) := by decide +kernel
theorem dX9_watcher_1 : decode cX9_watcher 1 = .ok (.i2l, 1) := by decide +kernel
theorem dX9_watcher_2 : decode cX9_watcher 2 = .ok (.lconst 0, 1) := by decide +kernel
theorem dX9_watcher_3 : decode cX9_watcher 3 = .ok (.ldc2_w 96, 3) := by decide +kernel
theorem dX9_watcher_6 : decode cX9_watcher 6 = .ok (.invokestatic 70, 3) := by decide +kernel
theorem dX9_watcher_9 : decode cX9_watcher 9 = .ok (.ifCond .eq 15, 3) := by decide +kernel
theorem dX9_watcher_12 : decode cX9_watcher 12 = .ok (.iload_n 2, 1) := by decide +kernel
theorem dX9_watcher_13 : decode cX9_watcher 13 = .ok (.i2l, 1) := by decide +kernel
theorem dX9_watcher_14 : decode cX9_watcher 14 = .ok (.lconst 0, 1) := by decide +kernel
theorem dX9_watcher_15 : decode cX9_watcher 15 = .ok (.ldc2_w 74, 3) := by decide +kernel
theorem dX9_watcher_18 : decode cX9_watcher 18 = .ok (.invokestatic 70, 3) := by decide +kernel
theorem dX9_watcher_21 : decode cX9_watcher 21 = .ok (.ifCond .ne 5, 3) := by decide +kernel
theorem dX9_watcher_24 : decode cX9_watcher 24 = .ok (.iconst (-1), 1) := by decide +kernel
theorem dX9_watcher_25 : decode cX9_watcher 25 = .ok (.ireturn, 1) := by decide +kernel
theorem dX9_watcher_26 : decode cX9_watcher 26 = .ok (.aload_n 0, 1) := by decide +kernel
theorem dX9_watcher_27 : decode cX9_watcher 27 = .ok (.iload_n 1, 1) := by decide +kernel
theorem dX9_watcher_28 : decode cX9_watcher 28 = .ok (.invokevirtual 98, 3) := by decide +kernel
theorem dX9_watcher_31 : decode cX9_watcher 31 = .ok (.ifCond .eq 6, 3) := by decide +kernel
theorem dX9_watcher_34 : decode cX9_watcher 34 = .ok (.bipush (-2), 2) := by decide +kernel
theorem dX9_watcher_36 : decode cX9_watcher 36 = .ok (.ireturn, 1) := by decide +kernel
theorem dX9_watcher_37 : decode cX9_watcher 37 = .ok (.aload_n 0, 1) := by decide +kernel
theorem dX9_watcher_38 : decode cX9_watcher 38 = .ok (.getfield 76, 3) := by decide +kernel
theorem dX9_watcher_41 : decode cX9_watcher 41 = .ok (.bipush 8, 2) := by decide +kernel
theorem dX9_watcher_43 : decode cX9_watcher 43 = .ok (.if_icmp .ne 8, 3) := by decide +kernel
theorem dX9_watcher_46 : decode cX9_watcher 46 = .ok (.bipush (-3), 2) := by decide +kernel
theorem dX9_watcher_48 : decode cX9_watcher 48 = .ok (.goto 9, 3) := by decide +kernel
theorem dX9_watcher_51 : decode cX9_watcher 51 = .ok (.aload_n 0, 1) := by decide +kernel
theorem dX9_watcher_52 : decode cX9_watcher 52 = .ok (.iload_n 1, 1) := by decide +kernel
theorem dX9_watcher_53 : decode cX9_watcher 53 = .ok (.iload_n 2, 1) := by decide +kernel
theorem dX9_watcher_54 : decode cX9_watcher 54 = .ok (.invokevirtual 101, 3) := by decide +kernel
theorem dX9_watcher_57 : decode cX9_watcher 57 = .ok (.ireturn, 1) := by decide +kernel
theorem dX9_doubt_0 : decode cX9_doubt 0 = .ok (.aload_n 0, 1) := by decide +kernel
theorem dX9_doubt_1 : decode cX9_doubt 1 = .ok (.iload_n 1, 1) := by decide +kernel
theorem dX9_doubt_2 : decode cX9_doubt 2 = .ok (.invokevirtual 105, 3) := by decide +kernel
theorem dX9_doubt_5 : decode cX9_doubt 5 = .ok (.ifCond .eq 15, 3) := by decide +kernel
theorem dX9_doubt_8 : decode cX9_doubt 8 = .ok (.iload_n 2, 1) := by decide +kernel
theorem dX9_doubt_9 : decode cX9_doubt 9 = .ok (.i2l, 1) := by decide +kernel
theorem dX9_doubt_10 : decode cX9_doubt 10 = .ok (.lconst 0, 1) := by decide +kernel
theorem dX9_doubt_11 : decode cX9_doubt 11 = .ok (.ldc2_w 86, 3) := by decide +kernel
theorem dX9_doubt_14 : decode cX9_doubt 14 = .ok (.invokestatic 70, 3) := by decide +kernel
theorem dX9_doubt_17 : decode cX9_doubt 17 = .ok (.ifCond .ne 5, 3) := by decide +kernel
theorem dX9_doubt_20 : decode cX9_doubt 20 = .ok (.iconst (-1), 1) := by decide +kernel
theorem dX9_doubt_21 : decode cX9_doubt 21 = .ok (.ireturn, 1) := by decide +kernel
theorem dX9_doubt_22 : decode cX9_doubt 22 = .ok (.aload_n 0, 1) := by decide +kernel
theorem dX9_doubt_23 : decode cX9_doubt 23 = .ok (.getfield 28, 3) := by decide +kernel
theorem dX9_doubt_26 : decode cX9_doubt 26 = .ok (.iconst 3, 1) := by decide +kernel
theorem dX9_doubt_27 : decode cX9_doubt 27 = .ok (.iload_n 1, 1) := by decide +kernel
theorem dX9_doubt_28 : decode cX9_doubt 28 = .ok (.imul, 1) := by decide +kernel
theorem dX9_doubt_29 : decode cX9_doubt 29 = .ok (.iconst 1, 1) := by decide +kernel
theorem dX9_doubt_30 : decode cX9_doubt 30 = .ok (.iadd, 1) := by decide +kernel
theorem dX9_doubt_31 : decode cX9_doubt 31 = .ok (.iaload, 1) := by decide +kernel
theorem dX9_doubt_32 : decode cX9_doubt 32 = .ok (.iconst 1, 1) := by decide +kernel
theorem dX9_doubt_33 : decode cX9_doubt 33 = .ok (.if_icmp .eq 6, 3) := by decide +kernel
theorem dX9_doubt_36 : decode cX9_doubt 36 = .ok (.bipush (-12), 2) := by decide +kernel
theorem dX9_doubt_38 : decode cX9_doubt 38 = .ok (.ireturn, 1) := by decide +kernel
theorem dX9_doubt_39 : decode cX9_doubt 39 = .ok (.aload_n 0, 1) := by decide +kernel
theorem dX9_doubt_40 : decode cX9_doubt 40 = .ok (.getfield 28, 3) := by decide +kernel
theorem dX9_doubt_43 : decode cX9_doubt 43 = .ok (.iconst 3, 1) := by decide +kernel
theorem dX9_doubt_44 : decode cX9_doubt 44 = .ok (.iload_n 1, 1) := by decide +kernel
theorem dX9_doubt_45 : decode cX9_doubt 45 = .ok (.imul, 1) := by decide +kernel
theorem dX9_doubt_46 : decode cX9_doubt 46 = .ok (.iconst 2, 1) := by decide +kernel
theorem dX9_doubt_47 : decode cX9_doubt 47 = .ok (.iadd, 1) := by decide +kernel
theorem dX9_doubt_48 : decode cX9_doubt 48 = .ok (.iaload, 1) := by decide +kernel
theorem dX9_doubt_49 : decode cX9_doubt 49 = .ok (.istore_n 3, 1) := by decide +kernel
theorem dX9_doubt_50 : decode cX9_doubt 50 = .ok (.aload_n 0, 1) := by decide +kernel
theorem dX9_doubt_51 : decode cX9_doubt 51 = .ok (.getfield 28, 3) := by decide +kernel
theorem dX9_doubt_54 : decode cX9_doubt 54 = .ok (.iconst 3, 1) := by decide +kernel
theorem dX9_doubt_55 : decode cX9_doubt 55 = .ok (.iload_n 1, 1) := by decide +kernel
theorem dX9_doubt_56 : decode cX9_doubt 56 = .ok (.imul, 1) := by decide +kernel
theorem dX9_doubt_57 : decode cX9_doubt 57 = .ok (.iconst 2, 1) := by decide +kernel
theorem dX9_doubt_58 : decode cX9_doubt 58 = .ok (.iadd, 1) := by decide +kernel
theorem dX9_doubt_59 : decode cX9_doubt 59 = .ok (.iload_n 2, 1) := by decide +kernel
theorem dX9_doubt_60 : decode cX9_doubt 60 = .ok (.iastore, 1) := by decide +kernel
theorem dX9_doubt_61 : decode cX9_doubt 61 = .ok (.iload_n 3, 1) := by decide +kernel
theorem dX9_doubt_62 : decode cX9_doubt 62 = .ok (.ireturn, 1) := by decide +kernel
theorem dX9_told_0 : decode cX9_told 0 = .ok (.aload_n 0, 1) := by decide +kernel
theorem dX9_told_1 : decode cX9_told 1 = .ok (.iload_n 1, 1) := by decide +kernel
theorem dX9_told_2 : decode cX9_told 2 = .ok (.invokevirtual 105, 3) := by decide +kernel
theorem dX9_told_5 : decode cX9_told 5 = .ok (.ifCond .eq 15, 3) := by decide +kernel
theorem dX9_told_8 : decode cX9_told 8 = .ok (.iload_n 2, 1) := by decide +kernel
theorem dX9_told_9 : decode cX9_told 9 = .ok (.i2l, 1) := by decide +kernel
theorem dX9_told_10 : decode cX9_told 10 = .ok (.lconst 0, 1) := by decide +kernel
theorem dX9_told_11 : decode cX9_told 11 = .ok (.ldc2_w 88, 3) := by decide +kernel
theorem dX9_told_14 : decode cX9_told 14 = .ok (.invokestatic 70, 3) := by decide +kernel
theorem dX9_told_17 : decode cX9_told 17 = .ok (.ifCond .ne 5, 3) := by decide +kernel
theorem dX9_told_20 : decode cX9_told 20 = .ok (.iconst (-1), 1) := by decide +kernel
theorem dX9_told_21 : decode cX9_told 21 = .ok (.ireturn, 1) := by decide +kernel
theorem dX9_told_22 : decode cX9_told 22 = .ok (.iload_n 2, 1) := by decide +kernel
theorem dX9_told_23 : decode cX9_told 23 = .ok (.iconst 2, 1) := by decide +kernel
theorem dX9_told_24 : decode cX9_told 24 = .ok (.if_icmp .ge 16, 3) := by decide +kernel
theorem dX9_told_27 : decode cX9_told 27 = .ok (.aload_n 0, 1) := by decide +kernel
theorem dX9_told_28 : decode cX9_told 28 = .ok (.getfield 28, 3) := by decide +kernel
theorem dX9_told_31 : decode cX9_told 31 = .ok (.iconst 3, 1) := by decide +kernel
theorem dX9_told_32 : decode cX9_told 32 = .ok (.iload_n 1, 1) := by decide +kernel
theorem dX9_told_33 : decode cX9_told 33 = .ok (.imul, 1) := by decide +kernel
theorem dX9_told_34 : decode cX9_told 34 = .ok (.iload_n 2, 1) := by decide +kernel
theorem dX9_told_35 : decode cX9_told 35 = .ok (.iadd, 1) := by decide +kernel
theorem dX9_told_36 : decode cX9_told 36 = .ok (.iaload, 1) := by decide +kernel
theorem dX9_told_37 : decode cX9_told 37 = .ok (.goto 10, 3) := by decide +kernel
theorem dX9_told_40 : decode cX9_told 40 = .ok (.aload_n 0, 1) := by decide +kernel
theorem dX9_told_41 : decode cX9_told 41 = .ok (.iload_n 1, 1) := by decide +kernel
theorem dX9_told_42 : decode cX9_told 42 = .ok (.bipush 15, 2) := by decide +kernel
theorem dX9_told_44 : decode cX9_told 44 = .ok (.invokevirtual 108, 3) := by decide +kernel
theorem dX9_told_47 : decode cX9_told 47 = .ok (.ireturn, 1) := by decide +kernel
theorem dX9_leave_0 : decode cX9_leave 0 = .ok (.aload_n 0, 1) := by decide +kernel
theorem dX9_leave_1 : decode cX9_leave 1 = .ok (.iload_n 1, 1) := by decide +kernel
theorem dX9_leave_2 : decode cX9_leave 2 = .ok (.invokevirtual 105, 3) := by decide +kernel
theorem dX9_leave_5 : decode cX9_leave 5 = .ok (.ifCond .ne 5, 3) := by decide +kernel
theorem dX9_leave_8 : decode cX9_leave 8 = .ok (.iconst (-1), 1) := by decide +kernel
theorem dX9_leave_9 : decode cX9_leave 9 = .ok (.ireturn, 1) := by decide +kernel
theorem dX9_leave_10 : decode cX9_leave 10 = .ok (.aload_n 0, 1) := by decide +kernel
theorem dX9_leave_11 : decode cX9_leave 11 = .ok (.dup, 1) := by decide +kernel
theorem dX9_leave_12 : decode cX9_leave 12 = .ok (.getfield 76, 3) := by decide +kernel
theorem dX9_leave_15 : decode cX9_leave 15 = .ok (.iconst 1, 1) := by decide +kernel
theorem dX9_leave_16 : decode cX9_leave 16 = .ok (.isub, 1) := by decide +kernel
theorem dX9_leave_17 : decode cX9_leave 17 = .ok (.putfield 76, 3) := by decide +kernel
theorem dX9_leave_20 : decode cX9_leave 20 = .ok (.iconst 3, 1) := by decide +kernel
theorem dX9_leave_21 : decode cX9_leave 21 = .ok (.iload_n 1, 1) := by decide +kernel
theorem dX9_leave_22 : decode cX9_leave 22 = .ok (.imul, 1) := by decide +kernel
theorem dX9_leave_23 : decode cX9_leave 23 = .ok (.istore_n 2, 1) := by decide +kernel
theorem dX9_leave_24 : decode cX9_leave 24 = .ok (.iload_n 2, 1) := by decide +kernel
theorem dX9_leave_25 : decode cX9_leave 25 = .ok (.iconst 3, 1) := by decide +kernel
theorem dX9_leave_26 : decode cX9_leave 26 = .ok (.aload_n 0, 1) := by decide +kernel
theorem dX9_leave_27 : decode cX9_leave 27 = .ok (.getfield 76, 3) := by decide +kernel
theorem dX9_leave_30 : decode cX9_leave 30 = .ok (.imul, 1) := by decide +kernel
theorem dX9_leave_31 : decode cX9_leave 31 = .ok (.if_icmp .ge 23, 3) := by decide +kernel
theorem dX9_leave_34 : decode cX9_leave 34 = .ok (.aload_n 0, 1) := by decide +kernel
theorem dX9_leave_35 : decode cX9_leave 35 = .ok (.getfield 28, 3) := by decide +kernel
theorem dX9_leave_38 : decode cX9_leave 38 = .ok (.iload_n 2, 1) := by decide +kernel
theorem dX9_leave_39 : decode cX9_leave 39 = .ok (.aload_n 0, 1) := by decide +kernel
theorem dX9_leave_40 : decode cX9_leave 40 = .ok (.getfield 28, 3) := by decide +kernel
theorem dX9_leave_43 : decode cX9_leave 43 = .ok (.iload_n 2, 1) := by decide +kernel
theorem dX9_leave_44 : decode cX9_leave 44 = .ok (.iconst 3, 1) := by decide +kernel
theorem dX9_leave_45 : decode cX9_leave 45 = .ok (.iadd, 1) := by decide +kernel
theorem dX9_leave_46 : decode cX9_leave 46 = .ok (.iaload, 1) := by decide +kernel
theorem dX9_leave_47 : decode cX9_leave 47 = .ok (.iastore, 1) := by decide +kernel
theorem dX9_leave_48 : decode cX9_leave 48 = .ok (.iinc 2 1, 3) := by decide +kernel
theorem dX9_leave_51 : decode cX9_leave 51 = .ok (.goto (-27), 3) := by decide +kernel
theorem dX9_leave_54 : decode cX9_leave 54 = .ok (.aload_n 0, 1) := by decide +kernel
theorem dX9_leave_55 : decode cX9_leave 55 = .ok (.getfield 76, 3) := by decide +kernel
theorem dX9_leave_58 : decode cX9_leave 58 = .ok (.ireturn, 1) := by decide +kernel
theorem dX9_type_0 : decode cX9_type 0 = .ok (.iload_n 3, 1) := by decide +kernel
theorem dX9_type_1 : decode cX9_type 1 = .ok (.i2l, 1) := by decide +kernel
theorem dX9_type_2 : decode cX9_type 2 = .ok (.lconst 1, 1) := by decide +kernel
theorem dX9_type_3 : decode cX9_type 3 = .ok (.ldc2_w 111, 3) := by decide +kernel
theorem dX9_type_6 : decode cX9_type 6 = .ok (.invokestatic 70, 3) := by decide +kernel
theorem dX9_type_9 : decode cX9_type 9 = .ok (.ifCond .ne 5, 3) := by decide +kernel
theorem dX9_type_12 : decode cX9_type 12 = .ok (.iconst (-1), 1) := by decide +kernel
theorem dX9_type_13 : decode cX9_type 13 = .ok (.ireturn, 1) := by decide +kernel
theorem dX9_type_14 : decode cX9_type 14 = .ok (.iconst 0, 1) := by decide +kernel
theorem dX9_type_15 : decode cX9_type 15 = .ok (.istore 4, 2) := by decide +kernel
theorem dX9_type_17 : decode cX9_type 17 = .ok (.iload 4, 2) := by decide +kernel
theorem dX9_type_19 : decode cX9_type 19 = .ok (.iload_n 3, 1) := by decide +kernel
theorem dX9_type_20 : decode cX9_type 20 = .ok (.if_icmp .ge 34, 3) := by decide +kernel
theorem dX9_type_23 : decode cX9_type 23 = .ok (.lload_n 1, 1) := by decide +kernel
theorem dX9_type_24 : decode cX9_type 24 = .ok (.bipush 8, 2) := by decide +kernel
theorem dX9_type_26 : decode cX9_type 26 = .ok (.iload 4, 2) := by decide +kernel
theorem dX9_type_28 : decode cX9_type 28 = .ok (.imul, 1) := by decide +kernel
theorem dX9_type_29 : decode cX9_type 29 = .ok (.lshr, 1) := by decide +kernel
theorem dX9_type_30 : decode cX9_type 30 = .ok (.ldc2_w 113, 3) := by decide +kernel
theorem dX9_type_33 : decode cX9_type 33 = .ok (.land, 1) := by decide +kernel
theorem dX9_type_34 : decode cX9_type 34 = .ok (.ldc2_w 115, 3) := by decide +kernel
theorem dX9_type_37 : decode cX9_type 37 = .ok (.ldc2_w 117, 3) := by decide +kernel
theorem dX9_type_40 : decode cX9_type 40 = .ok (.invokestatic 70, 3) := by decide +kernel
theorem dX9_type_43 : decode cX9_type 43 = .ok (.ifCond .ne 5, 3) := by decide +kernel
theorem dX9_type_46 : decode cX9_type 46 = .ok (.iconst (-1), 1) := by decide +kernel
theorem dX9_type_47 : decode cX9_type 47 = .ok (.ireturn, 1) := by decide +kernel
theorem dX9_type_48 : decode cX9_type 48 = .ok (.iinc 4 1, 3) := by decide +kernel
theorem dX9_type_51 : decode cX9_type 51 = .ok (.goto (-34), 3) := by decide +kernel
theorem dX9_type_54 : decode cX9_type 54 = .ok (.aload_n 0, 1) := by decide +kernel
theorem dX9_type_55 : decode cX9_type 55 = .ok (.getfield 119, 3) := by decide +kernel
theorem dX9_type_58 : decode cX9_type 58 = .ok (.iload_n 3, 1) := by decide +kernel
theorem dX9_type_59 : decode cX9_type 59 = .ok (.iadd, 1) := by decide +kernel
theorem dX9_type_60 : decode cX9_type 60 = .ok (.bipush 100, 2) := by decide +kernel
theorem dX9_type_62 : decode cX9_type 62 = .ok (.if_icmp .le 6, 3) := by decide +kernel
theorem dX9_type_65 : decode cX9_type 65 = .ok (.bipush (-3), 2) := by decide +kernel
theorem dX9_type_67 : decode cX9_type 67 = .ok (.ireturn, 1) := by decide +kernel
theorem dX9_type_68 : decode cX9_type 68 = .ok (.iload_n 3, 1) := by decide +kernel
theorem dX9_type_69 : decode cX9_type 69 = .ok (.iconst 1, 1) := by decide +kernel
theorem dX9_type_70 : decode cX9_type 70 = .ok (.isub, 1) := by decide +kernel
theorem dX9_type_71 : decode cX9_type 71 = .ok (.istore 4, 2) := by decide +kernel
theorem dX9_type_73 : decode cX9_type 73 = .ok (.iload 4, 2) := by decide +kernel
theorem dX9_type_75 : decode cX9_type 75 = .ok (.ifCond .lt 40, 3) := by decide +kernel
theorem dX9_type_78 : decode cX9_type 78 = .ok (.aload_n 0, 1) := by decide +kernel
theorem dX9_type_79 : decode cX9_type 79 = .ok (.getfield 31, 3) := by decide +kernel
theorem dX9_type_82 : decode cX9_type 82 = .ok (.aload_n 0, 1) := by decide +kernel
theorem dX9_type_83 : decode cX9_type 83 = .ok (.getfield 119, 3) := by decide +kernel
theorem dX9_type_86 : decode cX9_type 86 = .ok (.lload_n 1, 1) := by decide +kernel
theorem dX9_type_87 : decode cX9_type 87 = .ok (.bipush 8, 2) := by decide +kernel
theorem dX9_type_89 : decode cX9_type 89 = .ok (.iload 4, 2) := by decide +kernel
theorem dX9_type_91 : decode cX9_type 91 = .ok (.imul, 1) := by decide +kernel
theorem dX9_type_92 : decode cX9_type 92 = .ok (.lshr, 1) := by decide +kernel
theorem dX9_type_93 : decode cX9_type 93 = .ok (.ldc2_w 113, 3) := by decide +kernel
theorem dX9_type_96 : decode cX9_type 96 = .ok (.land, 1) := by decide +kernel
theorem dX9_type_97 : decode cX9_type 97 = .ok (.l2i, 1) := by decide +kernel
theorem dX9_type_98 : decode cX9_type 98 = .ok (.iastore, 1) := by decide +kernel
theorem dX9_type_99 : decode cX9_type 99 = .ok (.aload_n 0, 1) := by decide +kernel
theorem dX9_type_100 : decode cX9_type 100 = .ok (.dup, 1) := by decide +kernel
theorem dX9_type_101 : decode cX9_type 101 = .ok (.getfield 119, 3) := by decide +kernel
theorem dX9_type_104 : decode cX9_type 104 = .ok (.iconst 1, 1) := by decide +kernel
theorem dX9_type_105 : decode cX9_type 105 = .ok (.iadd, 1) := by decide +kernel
theorem dX9_type_106 : decode cX9_type 106 = .ok (.putfield 119, 3) := by decide +kernel
theorem dX9_type_109 : decode cX9_type 109 = .ok (.iinc 4 (-1), 3) := by decide +kernel
theorem dX9_type_112 : decode cX9_type 112 = .ok (.goto (-39), 3) := by decide +kernel
theorem dX9_type_115 : decode cX9_type 115 = .ok (.aload_n 0, 1) := by decide +kernel
theorem dX9_type_116 : decode cX9_type 116 = .ok (.getfield 119, 3) := by decide +kernel
theorem dX9_type_119 : decode cX9_type 119 = .ok (.ireturn, 1) := by decide +kernel
theorem dX9_here_0 : decode cX9_here 0 = .ok (.aload_n 0, 1) := by decide +kernel
theorem dX9_here_1 : decode cX9_here 1 = .ok (.getfield 122, 3) := by decide +kernel
theorem dX9_here_4 : decode cX9_here 4 = .ok (.aload_n 0, 1) := by decide +kernel
theorem dX9_here_5 : decode cX9_here 5 = .ok (.getfield 119, 3) := by decide +kernel
theorem dX9_here_8 : decode cX9_here 8 = .ok (.if_icmp .ge 30, 3) := by decide +kernel
theorem dX9_here_11 : decode cX9_here 11 = .ok (.aload_n 0, 1) := by decide +kernel
theorem dX9_here_12 : decode cX9_here 12 = .ok (.getfield 31, 3) := by decide +kernel
theorem dX9_here_15 : decode cX9_here 15 = .ok (.aload_n 0, 1) := by decide +kernel
theorem dX9_here_16 : decode cX9_here 16 = .ok (.getfield 122, 3) := by decide +kernel
theorem dX9_here_19 : decode cX9_here 19 = .ok (.iaload, 1) := by decide +kernel
theorem dX9_here_20 : decode cX9_here 20 = .ok (.bipush 32, 2) := by decide +kernel
theorem dX9_here_22 : decode cX9_here 22 = .ok (.if_icmp .ne 16, 3) := by decide +kernel
theorem dX9_here_25 : decode cX9_here 25 = .ok (.aload_n 0, 1) := by decide +kernel
theorem dX9_here_26 : decode cX9_here 26 = .ok (.dup, 1) := by decide +kernel
theorem dX9_here_27 : decode cX9_here 27 = .ok (.getfield 122, 3) := by decide +kernel
theorem dX9_here_30 : decode cX9_here 30 = .ok (.iconst 1, 1) := by decide +kernel
theorem dX9_here_31 : decode cX9_here 31 = .ok (.iadd, 1) := by decide +kernel
theorem dX9_here_32 : decode cX9_here 32 = .ok (.putfield 122, 3) := by decide +kernel
theorem dX9_here_35 : decode cX9_here 35 = .ok (.goto (-35), 3) := by decide +kernel
theorem dX9_here_38 : decode cX9_here 38 = .ok (.aload_n 0, 1) := by decide +kernel
theorem dX9_here_39 : decode cX9_here 39 = .ok (.getfield 122, 3) := by decide +kernel
theorem dX9_here_42 : decode cX9_here 42 = .ok (.aload_n 0, 1) := by decide +kernel
theorem dX9_here_43 : decode cX9_here 43 = .ok (.getfield 119, 3) := by decide +kernel
theorem dX9_here_46 : decode cX9_here 46 = .ok (.if_icmp .ge 15, 3) := by decide +kernel
theorem dX9_here_49 : decode cX9_here 49 = .ok (.aload_n 0, 1) := by decide +kernel
theorem dX9_here_50 : decode cX9_here 50 = .ok (.getfield 31, 3) := by decide +kernel
theorem dX9_here_53 : decode cX9_here 53 = .ok (.aload_n 0, 1) := by decide +kernel
theorem dX9_here_54 : decode cX9_here 54 = .ok (.getfield 122, 3) := by decide +kernel
theorem dX9_here_57 : decode cX9_here 57 = .ok (.iaload, 1) := by decide +kernel
theorem dX9_here_58 : decode cX9_here 58 = .ok (.goto 4, 3) := by decide +kernel
theorem dX9_here_61 : decode cX9_here 61 = .ok (.iconst 0, 1) := by decide +kernel
theorem dX9_here_62 : decode cX9_here 62 = .ok (.ireturn, 1) := by decide +kernel
theorem dX9_has_0 : decode cX9_has 0 = .ok (.aload_n 0, 1) := by decide +kernel
theorem dX9_has_1 : decode cX9_has 1 = .ok (.getfield 125, 3) := by decide +kernel
theorem dX9_has_4 : decode cX9_has 4 = .ok (.ifCond .ne 15, 3) := by decide +kernel
theorem dX9_has_7 : decode cX9_has 7 = .ok (.aload_n 0, 1) := by decide +kernel
theorem dX9_has_8 : decode cX9_has 8 = .ok (.invokevirtual 129, 3) := by decide +kernel
theorem dX9_has_11 : decode cX9_has 11 = .ok (.iload_n 1, 1) := by decide +kernel
theorem dX9_has_12 : decode cX9_has 12 = .ok (.if_icmp .ne 7, 3) := by decide +kernel
theorem dX9_has_15 : decode cX9_has 15 = .ok (.iconst 1, 1) := by decide +kernel
theorem dX9_has_16 : decode cX9_has 16 = .ok (.goto 4, 3) := by decide +kernel
theorem dX9_has_19 : decode cX9_has 19 = .ok (.iconst 0, 1) := by decide +kernel
theorem dX9_has_20 : decode cX9_has 20 = .ok (.istore_n 2, 1) := by decide +kernel
theorem dX9_has_21 : decode cX9_has 21 = .ok (.aload_n 0, 1) := by decide +kernel
theorem dX9_has_22 : decode cX9_has 22 = .ok (.dup, 1) := by decide +kernel
theorem dX9_has_23 : decode cX9_has 23 = .ok (.getfield 122, 3) := by decide +kernel
theorem dX9_has_26 : decode cX9_has 26 = .ok (.iload_n 2, 1) := by decide +kernel
theorem dX9_has_27 : decode cX9_has 27 = .ok (.ifCond .eq 7, 3) := by decide +kernel
theorem dX9_has_30 : decode cX9_has 30 = .ok (.iconst 1, 1) := by decide +kernel
theorem dX9_has_31 : decode cX9_has 31 = .ok (.goto 4, 3) := by decide +kernel
theorem dX9_has_34 : decode cX9_has 34 = .ok (.iconst 0, 1) := by decide +kernel
theorem dX9_has_35 : decode cX9_has 35 = .ok (.iadd, 1) := by decide +kernel
theorem dX9_has_36 : decode cX9_has 36 = .ok (.putfield 122, 3) := by decide +kernel
theorem dX9_has_39 : decode cX9_has 39 = .ok (.iload_n 2, 1) := by decide +kernel
theorem dX9_has_40 : decode cX9_has 40 = .ok (.ireturn, 1) := by decide +kernel
theorem dX9_number_0 : decode cX9_number 0 = .ok (.aload_n 0, 1) := by decide +kernel
theorem dX9_number_1 : decode cX9_number 1 = .ok (.getfield 125, 3) := by decide +kernel
theorem dX9_number_4 : decode cX9_number 4 = .ok (.ifCond .ne 20, 3) := by decide +kernel
theorem dX9_number_7 : decode cX9_number 7 = .ok (.aload_n 0, 1) := by decide +kernel
theorem dX9_number_8 : decode cX9_number 8 = .ok (.invokevirtual 129, 3) := by decide +kernel
theorem dX9_number_11 : decode cX9_number 11 = .ok (.i2l, 1) := by decide +kernel
theorem dX9_number_12 : decode cX9_number 12 = .ok (.ldc2_w 133, 3) := by decide +kernel
theorem dX9_number_15 : decode cX9_number 15 = .ok (.ldc2_w 135, 3) := by decide +kernel
theorem dX9_number_18 : decode cX9_number 18 = .ok (.invokestatic 70, 3) := by decide +kernel
theorem dX9_number_21 : decode cX9_number 21 = .ok (.ifCond .ne 10, 3) := by decide +kernel
theorem dX9_number_24 : decode cX9_number 24 = .ok (.aload_n 0, 1) := by decide +kernel
theorem dX9_number_25 : decode cX9_number 25 = .ok (.iconst 1, 1) := by decide +kernel
theorem dX9_number_26 : decode cX9_number 26 = .ok (.putfield 125, 3) := by decide +kernel
theorem dX9_number_29 : decode cX9_number 29 = .ok (.iconst 0, 1) := by decide +kernel
theorem dX9_number_30 : decode cX9_number 30 = .ok (.ireturn, 1) := by decide +kernel
theorem dX9_number_31 : decode cX9_number 31 = .ok (.aload_n 0, 1) := by decide +kernel
theorem dX9_number_32 : decode cX9_number 32 = .ok (.getfield 122, 3) := by decide +kernel
theorem dX9_number_35 : decode cX9_number 35 = .ok (.istore_n 2, 1) := by decide +kernel
theorem dX9_number_36 : decode cX9_number 36 = .ok (.iconst 0, 1) := by decide +kernel
theorem dX9_number_37 : decode cX9_number 37 = .ok (.istore_n 3, 1) := by decide +kernel
theorem dX9_number_38 : decode cX9_number 38 = .ok (.aload_n 0, 1) := by decide +kernel
theorem dX9_number_39 : decode cX9_number 39 = .ok (.getfield 122, 3) := by decide +kernel
theorem dX9_number_42 : decode cX9_number 42 = .ok (.aload_n 0, 1) := by decide +kernel
theorem dX9_number_43 : decode cX9_number 43 = .ok (.getfield 119, 3) := by decide +kernel
theorem dX9_number_46 : decode cX9_number 46 = .ok (.if_icmp .ge 67, 3) := by decide +kernel
theorem dX9_number_49 : decode cX9_number 49 = .ok (.aload_n 0, 1) := by decide +kernel
theorem dX9_number_50 : decode cX9_number 50 = .ok (.getfield 31, 3) := by decide +kernel
theorem dX9_number_53 : decode cX9_number 53 = .ok (.aload_n 0, 1) := by decide +kernel
theorem dX9_number_54 : decode cX9_number 54 = .ok (.getfield 122, 3) := by decide +kernel
theorem dX9_number_57 : decode cX9_number 57 = .ok (.iaload, 1) := by decide +kernel
theorem dX9_number_58 : decode cX9_number 58 = .ok (.i2l, 1) := by decide +kernel
theorem dX9_number_59 : decode cX9_number 59 = .ok (.ldc2_w 133, 3) := by decide +kernel
theorem dX9_number_62 : decode cX9_number 62 = .ok (.ldc2_w 135, 3) := by decide +kernel
theorem dX9_number_65 : decode cX9_number 65 = .ok (.invokestatic 70, 3) := by decide +kernel
theorem dX9_number_68 : decode cX9_number 68 = .ok (.ifCond .eq 45, 3) := by decide +kernel
theorem dX9_number_71 : decode cX9_number 71 = .ok (.iload_n 3, 1) := by decide +kernel
theorem dX9_number_72 : decode cX9_number 72 = .ok (.sipush 999, 3) := by decide +kernel
theorem dX9_number_75 : decode cX9_number 75 = .ok (.if_icmp .le 7, 3) := by decide +kernel
theorem dX9_number_78 : decode cX9_number 78 = .ok (.iload_n 3, 1) := by decide +kernel
theorem dX9_number_79 : decode cX9_number 79 = .ok (.goto 20, 3) := by decide +kernel
theorem dX9_number_82 : decode cX9_number 82 = .ok (.bipush 10, 2) := by decide +kernel
theorem dX9_number_84 : decode cX9_number 84 = .ok (.iload_n 3, 1) := by decide +kernel
theorem dX9_number_85 : decode cX9_number 85 = .ok (.imul, 1) := by decide +kernel
theorem dX9_number_86 : decode cX9_number 86 = .ok (.aload_n 0, 1) := by decide +kernel
theorem dX9_number_87 : decode cX9_number 87 = .ok (.getfield 31, 3) := by decide +kernel
theorem dX9_number_90 : decode cX9_number 90 = .ok (.aload_n 0, 1) := by decide +kernel
theorem dX9_number_91 : decode cX9_number 91 = .ok (.getfield 122, 3) := by decide +kernel
theorem dX9_number_94 : decode cX9_number 94 = .ok (.iaload, 1) := by decide +kernel
theorem dX9_number_95 : decode cX9_number 95 = .ok (.iadd, 1) := by decide +kernel
theorem dX9_number_96 : decode cX9_number 96 = .ok (.bipush 48, 2) := by decide +kernel
theorem dX9_number_98 : decode cX9_number 98 = .ok (.isub, 1) := by decide +kernel
theorem dX9_number_99 : decode cX9_number 99 = .ok (.istore_n 3, 1) := by decide +kernel
theorem dX9_number_100 : decode cX9_number 100 = .ok (.aload_n 0, 1) := by decide +kernel
theorem dX9_number_101 : decode cX9_number 101 = .ok (.dup, 1) := by decide +kernel
theorem dX9_number_102 : decode cX9_number 102 = .ok (.getfield 122, 3) := by decide +kernel
theorem dX9_number_105 : decode cX9_number 105 = .ok (.iconst 1, 1) := by decide +kernel
theorem dX9_number_106 : decode cX9_number 106 = .ok (.iadd, 1) := by decide +kernel
theorem dX9_number_107 : decode cX9_number 107 = .ok (.putfield 122, 3) := by decide +kernel
theorem dX9_number_110 : decode cX9_number 110 = .ok (.goto (-72), 3) := by decide +kernel
theorem dX9_number_113 : decode cX9_number 113 = .ok (.aload_n 0, 1) := by decide +kernel
theorem dX9_number_114 : decode cX9_number 114 = .ok (.iload_n 3, 1) := by decide +kernel
theorem dX9_number_115 : decode cX9_number 115 = .ok (.iload_n 1, 1) := by decide +kernel
theorem dX9_number_116 : decode cX9_number 116 = .ok (.if_icmp .le 7, 3) := by decide +kernel
theorem dX9_number_119 : decode cX9_number 119 = .ok (.iconst 1, 1) := by decide +kernel
theorem dX9_number_120 : decode cX9_number 120 = .ok (.goto 4, 3) := by decide +kernel
theorem dX9_number_123 : decode cX9_number 123 = .ok (.iconst 0, 1) := by decide +kernel
theorem dX9_number_124 : decode cX9_number 124 = .ok (.putfield 125, 3) := by decide +kernel
theorem dX9_number_127 : decode cX9_number 127 = .ok (.aload_n 0, 1) := by decide +kernel
theorem dX9_number_128 : decode cX9_number 128 = .ok (.aload_n 0, 1) := by decide +kernel
theorem dX9_number_129 : decode cX9_number 129 = .ok (.getfield 125, 3) := by decide +kernel
theorem dX9_number_132 : decode cX9_number 132 = .ok (.ifCond .eq 7, 3) := by decide +kernel
theorem dX9_number_135 : decode cX9_number 135 = .ok (.iload_n 2, 1) := by decide +kernel
theorem dX9_number_136 : decode cX9_number 136 = .ok (.goto 7, 3) := by decide +kernel
theorem dX9_number_139 : decode cX9_number 139 = .ok (.aload_n 0, 1) := by decide +kernel
theorem dX9_number_140 : decode cX9_number 140 = .ok (.getfield 122, 3) := by decide +kernel
theorem dX9_number_143 : decode cX9_number 143 = .ok (.putfield 122, 3) := by decide +kernel
theorem dX9_number_146 : decode cX9_number 146 = .ok (.iload_n 3, 1) := by decide +kernel
theorem dX9_number_147 : decode cX9_number 147 = .ok (.ireturn, 1) := by decide +kernel
theorem dX9_digit_0 : decode cX9_digit 0 = .ok (.aload_n 0, 1) := by decide +kernel
theorem dX9_digit_1 : decode cX9_digit 1 = .ok (.aload_n 0, 1) := by decide +kernel
theorem dX9_digit_2 : decode cX9_digit 2 = .ok (.getfield 125, 3) := by decide +kernel
theorem dX9_digit_5 : decode cX9_digit 5 = .ok (.ifCond .ne 24, 3) := by decide +kernel
theorem dX9_digit_8 : decode cX9_digit 8 = .ok (.aload_n 0, 1) := by decide +kernel
theorem dX9_digit_9 : decode cX9_digit 9 = .ok (.invokevirtual 129, 3) := by decide +kernel
theorem dX9_digit_12 : decode cX9_digit 12 = .ok (.i2l, 1) := by decide +kernel
theorem dX9_digit_13 : decode cX9_digit 13 = .ok (.bipush 48, 2) := by decide +kernel
theorem dX9_digit_15 : decode cX9_digit 15 = .ok (.iload_n 1, 1) := by decide +kernel
theorem dX9_digit_16 : decode cX9_digit 16 = .ok (.iadd, 1) := by decide +kernel
theorem dX9_digit_17 : decode cX9_digit 17 = .ok (.i2l, 1) := by decide +kernel
theorem dX9_digit_18 : decode cX9_digit 18 = .ok (.bipush 48, 2) := by decide +kernel
theorem dX9_digit_20 : decode cX9_digit 20 = .ok (.iload_n 2, 1) := by decide +kernel
theorem dX9_digit_21 : decode cX9_digit 21 = .ok (.iadd, 1) := by decide +kernel
theorem dX9_digit_22 : decode cX9_digit 22 = .ok (.i2l, 1) := by decide +kernel
theorem dX9_digit_23 : decode cX9_digit 23 = .ok (.invokestatic 70, 3) := by decide +kernel
theorem dX9_digit_26 : decode cX9_digit 26 = .ok (.ifCond .ne 7, 3) := by decide +kernel
theorem dX9_digit_29 : decode cX9_digit 29 = .ok (.iconst 1, 1) := by decide +kernel
theorem dX9_digit_30 : decode cX9_digit 30 = .ok (.goto 4, 3) := by decide +kernel
theorem dX9_digit_33 : decode cX9_digit 33 = .ok (.iconst 0, 1) := by decide +kernel
theorem dX9_digit_34 : decode cX9_digit 34 = .ok (.putfield 125, 3) := by decide +kernel
theorem dX9_digit_37 : decode cX9_digit 37 = .ok (.aload_n 0, 1) := by decide +kernel
theorem dX9_digit_38 : decode cX9_digit 38 = .ok (.getfield 125, 3) := by decide +kernel
theorem dX9_digit_41 : decode cX9_digit 41 = .ok (.ifCond .eq 7, 3) := by decide +kernel
theorem dX9_digit_44 : decode cX9_digit 44 = .ok (.iconst 0, 1) := by decide +kernel
theorem dX9_digit_45 : decode cX9_digit 45 = .ok (.goto 10, 3) := by decide +kernel
theorem dX9_digit_48 : decode cX9_digit 48 = .ok (.aload_n 0, 1) := by decide +kernel
theorem dX9_digit_49 : decode cX9_digit 49 = .ok (.invokevirtual 129, 3) := by decide +kernel
theorem dX9_digit_52 : decode cX9_digit 52 = .ok (.bipush 48, 2) := by decide +kernel
theorem dX9_digit_54 : decode cX9_digit 54 = .ok (.isub, 1) := by decide +kernel
theorem dX9_digit_55 : decode cX9_digit 55 = .ok (.istore_n 3, 1) := by decide +kernel
theorem dX9_digit_56 : decode cX9_digit 56 = .ok (.aload_n 0, 1) := by decide +kernel
theorem dX9_digit_57 : decode cX9_digit 57 = .ok (.dup, 1) := by decide +kernel
theorem dX9_digit_58 : decode cX9_digit 58 = .ok (.getfield 122, 3) := by decide +kernel
theorem dX9_digit_61 : decode cX9_digit 61 = .ok (.aload_n 0, 1) := by decide +kernel
theorem dX9_digit_62 : decode cX9_digit 62 = .ok (.getfield 125, 3) := by decide +kernel
theorem dX9_digit_65 : decode cX9_digit 65 = .ok (.ifCond .eq 7, 3) := by decide +kernel
theorem dX9_digit_68 : decode cX9_digit 68 = .ok (.iconst 0, 1) := by decide +kernel
theorem dX9_digit_69 : decode cX9_digit 69 = .ok (.goto 4, 3) := by decide +kernel
theorem dX9_digit_72 : decode cX9_digit 72 = .ok (.iconst 1, 1) := by decide +kernel
theorem dX9_digit_73 : decode cX9_digit 73 = .ok (.iadd, 1) := by decide +kernel
theorem dX9_digit_74 : decode cX9_digit 74 = .ok (.putfield 122, 3) := by decide +kernel
theorem dX9_digit_77 : decode cX9_digit 77 = .ok (.iload_n 3, 1) := by decide +kernel
theorem dX9_digit_78 : decode cX9_digit 78 = .ok (.ireturn, 1) := by decide +kernel
theorem dX9_both_0 : decode cX9_both 0 = .ok (.aload_n 0, 1) := by decide +kernel
theorem dX9_both_1 : decode cX9_both 1 = .ok (.iconst 0, 1) := by decide +kernel
theorem dX9_both_2 : decode cX9_both 2 = .ok (.iconst 3, 1) := by decide +kernel
theorem dX9_both_3 : decode cX9_both 3 = .ok (.invokevirtual 137, 3) := by decide +kernel
theorem dX9_both_6 : decode cX9_both 6 = .ok (.istore_n 1, 1) := by decide +kernel
theorem dX9_both_7 : decode cX9_both 7 = .ok (.bipush 10, 2) := by decide +kernel
theorem dX9_both_9 : decode cX9_both 9 = .ok (.iload_n 1, 1) := by decide +kernel
theorem dX9_both_10 : decode cX9_both 10 = .ok (.imul, 1) := by decide +kernel
theorem dX9_both_11 : decode cX9_both 11 = .ok (.aload_n 0, 1) := by decide +kernel
theorem dX9_both_12 : decode cX9_both 12 = .ok (.iconst 1, 1) := by decide +kernel
theorem dX9_both_13 : decode cX9_both 13 = .ok (.bipush 9, 2) := by decide +kernel
theorem dX9_both_15 : decode cX9_both 15 = .ok (.invokevirtual 137, 3) := by decide +kernel
theorem dX9_both_18 : decode cX9_both 18 = .ok (.iadd, 1) := by decide +kernel
theorem dX9_both_19 : decode cX9_both 19 = .ok (.ireturn, 1) := by decide +kernel
theorem dX9_beatClause_0 : decode cX9_beatClause 0 = .ok (.aload_n 0, 1) := by decide +kernel
theorem dX9_beatClause_1 : decode cX9_beatClause 1 = .ok (.getfield 34, 3) := by decide +kernel
theorem dX9_beatClause_4 : decode cX9_beatClause 4 = .ok (.iload_n 1, 1) := by decide +kernel
theorem dX9_beatClause_5 : decode cX9_beatClause 5 = .ok (.aload_n 0, 1) := by decide +kernel
theorem dX9_beatClause_6 : decode cX9_beatClause 6 = .ok (.bipush 15, 2) := by decide +kernel
theorem dX9_beatClause_8 : decode cX9_beatClause 8 = .ok (.invokevirtual 140, 3) := by decide +kernel
theorem dX9_beatClause_11 : decode cX9_beatClause 11 = .ok (.iastore, 1) := by decide +kernel
theorem dX9_beatClause_12 : decode cX9_beatClause 12 = .ok (.aload_n 0, 1) := by decide +kernel
theorem dX9_beatClause_13 : decode cX9_beatClause 13 = .ok (.aload_n 0, 1) := by decide +kernel
theorem dX9_beatClause_14 : decode cX9_beatClause 14 = .ok (.bipush 58, 2) := by decide +kernel
theorem dX9_beatClause_16 : decode cX9_beatClause 16 = .ok (.invokevirtual 144, 3) := by decide +kernel
theorem dX9_beatClause_19 : decode cX9_beatClause 19 = .ok (.ifCond .ne 7, 3) := by decide +kernel
theorem dX9_beatClause_22 : decode cX9_beatClause 22 = .ok (.iconst 1, 1) := by decide +kernel
theorem dX9_beatClause_23 : decode cX9_beatClause 23 = .ok (.goto 4, 3) := by decide +kernel
theorem dX9_beatClause_26 : decode cX9_beatClause 26 = .ok (.iconst 0, 1) := by decide +kernel
theorem dX9_beatClause_27 : decode cX9_beatClause 27 = .ok (.putfield 125, 3) := by decide +kernel
theorem dX9_beatClause_30 : decode cX9_beatClause 30 = .ok (.aload_n 0, 1) := by decide +kernel
theorem dX9_beatClause_31 : decode cX9_beatClause 31 = .ok (.getfield 34, 3) := by decide +kernel
theorem dX9_beatClause_34 : decode cX9_beatClause 34 = .ok (.iload_n 1, 1) := by decide +kernel
theorem dX9_beatClause_35 : decode cX9_beatClause 35 = .ok (.iconst 1, 1) := by decide +kernel
theorem dX9_beatClause_36 : decode cX9_beatClause 36 = .ok (.iadd, 1) := by decide +kernel
theorem dX9_beatClause_37 : decode cX9_beatClause 37 = .ok (.aload_n 0, 1) := by decide +kernel
theorem dX9_beatClause_38 : decode cX9_beatClause 38 = .ok (.bipush 109, 2) := by decide +kernel
theorem dX9_beatClause_40 : decode cX9_beatClause 40 = .ok (.invokevirtual 144, 3) := by decide +kernel
theorem dX9_beatClause_43 : decode cX9_beatClause 43 = .ok (.ifCond .eq 10, 3) := by decide +kernel
theorem dX9_beatClause_46 : decode cX9_beatClause 46 = .ok (.aload_n 0, 1) := by decide +kernel
theorem dX9_beatClause_47 : decode cX9_beatClause 47 = .ok (.invokevirtual 147, 3) := by decide +kernel
theorem dX9_beatClause_50 : decode cX9_beatClause 50 = .ok (.goto 4, 3) := by decide +kernel
theorem dX9_beatClause_53 : decode cX9_beatClause 53 = .ok (.iconst 0, 1) := by decide +kernel
theorem dX9_beatClause_54 : decode cX9_beatClause 54 = .ok (.iastore, 1) := by decide +kernel
theorem dX9_beatClause_55 : decode cX9_beatClause 55 = .ok (.aload_n 0, 1) := by decide +kernel
theorem dX9_beatClause_56 : decode cX9_beatClause 56 = .ok (.getfield 34, 3) := by decide +kernel
theorem dX9_beatClause_59 : decode cX9_beatClause 59 = .ok (.iload_n 1, 1) := by decide +kernel
theorem dX9_beatClause_60 : decode cX9_beatClause 60 = .ok (.iconst 2, 1) := by decide +kernel
theorem dX9_beatClause_61 : decode cX9_beatClause 61 = .ok (.iadd, 1) := by decide +kernel
theorem dX9_beatClause_62 : decode cX9_beatClause 62 = .ok (.aload_n 0, 1) := by decide +kernel
theorem dX9_beatClause_63 : decode cX9_beatClause 63 = .ok (.bipush 108, 2) := by decide +kernel
theorem dX9_beatClause_65 : decode cX9_beatClause 65 = .ok (.invokevirtual 144, 3) := by decide +kernel
theorem dX9_beatClause_68 : decode cX9_beatClause 68 = .ok (.ifCond .eq 12, 3) := by decide +kernel
theorem dX9_beatClause_71 : decode cX9_beatClause 71 = .ok (.aload_n 0, 1) := by decide +kernel
theorem dX9_beatClause_72 : decode cX9_beatClause 72 = .ok (.iconst 0, 1) := by decide +kernel
theorem dX9_beatClause_73 : decode cX9_beatClause 73 = .ok (.iconst 3, 1) := by decide +kernel
theorem dX9_beatClause_74 : decode cX9_beatClause 74 = .ok (.invokevirtual 137, 3) := by decide +kernel
theorem dX9_beatClause_77 : decode cX9_beatClause 77 = .ok (.goto 4, 3) := by decide +kernel
theorem dX9_beatClause_80 : decode cX9_beatClause 80 = .ok (.iconst (-1), 1) := by decide +kernel
theorem dX9_beatClause_81 : decode cX9_beatClause 81 = .ok (.iastore, 1) := by decide +kernel
theorem dX9_beatClause_82 : decode cX9_beatClause 82 = .ok (.aload_n 0, 1) := by decide +kernel
theorem dX9_beatClause_83 : decode cX9_beatClause 83 = .ok (.getfield 34, 3) := by decide +kernel
theorem dX9_beatClause_86 : decode cX9_beatClause 86 = .ok (.iload_n 1, 1) := by decide +kernel
theorem dX9_beatClause_87 : decode cX9_beatClause 87 = .ok (.iconst 3, 1) := by decide +kernel
theorem dX9_beatClause_88 : decode cX9_beatClause 88 = .ok (.iadd, 1) := by decide +kernel
theorem dX9_beatClause_89 : decode cX9_beatClause 89 = .ok (.aload_n 0, 1) := by decide +kernel
theorem dX9_beatClause_90 : decode cX9_beatClause 90 = .ok (.bipush 110, 2) := by decide +kernel
theorem dX9_beatClause_92 : decode cX9_beatClause 92 = .ok (.invokevirtual 144, 3) := by decide +kernel
theorem dX9_beatClause_95 : decode cX9_beatClause 95 = .ok (.ifCond .eq 12, 3) := by decide +kernel
theorem dX9_beatClause_98 : decode cX9_beatClause 98 = .ok (.aload_n 0, 1) := by decide +kernel
theorem dX9_beatClause_99 : decode cX9_beatClause 99 = .ok (.iconst 0, 1) := by decide +kernel
theorem dX9_beatClause_100 : decode cX9_beatClause 100 = .ok (.iconst 3, 1) := by decide +kernel
theorem dX9_beatClause_101 : decode cX9_beatClause 101 = .ok (.invokevirtual 137, 3) := by decide +kernel
theorem dX9_beatClause_104 : decode cX9_beatClause 104 = .ok (.goto 4, 3) := by decide +kernel
theorem dX9_beatClause_107 : decode cX9_beatClause 107 = .ok (.iconst (-1), 1) := by decide +kernel
theorem dX9_beatClause_108 : decode cX9_beatClause 108 = .ok (.iastore, 1) := by decide +kernel
theorem dX9_beatClause_109 : decode cX9_beatClause 109 = .ok (.aload_n 0, 1) := by decide +kernel
theorem dX9_beatClause_110 : decode cX9_beatClause 110 = .ok (.getfield 34, 3) := by decide +kernel
theorem dX9_beatClause_113 : decode cX9_beatClause 113 = .ok (.iload_n 1, 1) := by decide +kernel
theorem dX9_beatClause_114 : decode cX9_beatClause 114 = .ok (.iconst 4, 1) := by decide +kernel
theorem dX9_beatClause_115 : decode cX9_beatClause 115 = .ok (.iadd, 1) := by decide +kernel
theorem dX9_beatClause_116 : decode cX9_beatClause 116 = .ok (.aload_n 0, 1) := by decide +kernel
theorem dX9_beatClause_117 : decode cX9_beatClause 117 = .ok (.bipush 106, 2) := by decide +kernel
theorem dX9_beatClause_119 : decode cX9_beatClause 119 = .ok (.invokevirtual 144, 3) := by decide +kernel
theorem dX9_beatClause_122 : decode cX9_beatClause 122 = .ok (.ifCond .eq 7, 3) := by decide +kernel
theorem dX9_beatClause_125 : decode cX9_beatClause 125 = .ok (.iconst 1, 1) := by decide +kernel
theorem dX9_beatClause_126 : decode cX9_beatClause 126 = .ok (.goto 4, 3) := by decide +kernel
theorem dX9_beatClause_129 : decode cX9_beatClause 129 = .ok (.iconst 0, 1) := by decide +kernel
theorem dX9_beatClause_130 : decode cX9_beatClause 130 = .ok (.iastore, 1) := by decide +kernel
theorem dX9_beatClause_131 : decode cX9_beatClause 131 = .ok (.aload_n 0, 1) := by decide +kernel
theorem dX9_beatClause_132 : decode cX9_beatClause 132 = .ok (.getfield 34, 3) := by decide +kernel
theorem dX9_beatClause_135 : decode cX9_beatClause 135 = .ok (.iload_n 1, 1) := by decide +kernel
theorem dX9_beatClause_136 : decode cX9_beatClause 136 = .ok (.iconst 5, 1) := by decide +kernel
theorem dX9_beatClause_137 : decode cX9_beatClause 137 = .ok (.iadd, 1) := by decide +kernel
theorem dX9_beatClause_138 : decode cX9_beatClause 138 = .ok (.aload_n 0, 1) := by decide +kernel
theorem dX9_beatClause_139 : decode cX9_beatClause 139 = .ok (.bipush 120, 2) := by decide +kernel
theorem dX9_beatClause_141 : decode cX9_beatClause 141 = .ok (.invokevirtual 144, 3) := by decide +kernel
theorem dX9_beatClause_144 : decode cX9_beatClause 144 = .ok (.ifCond .eq 10, 3) := by decide +kernel
theorem dX9_beatClause_147 : decode cX9_beatClause 147 = .ok (.aload_n 0, 1) := by decide +kernel
theorem dX9_beatClause_148 : decode cX9_beatClause 148 = .ok (.invokevirtual 147, 3) := by decide +kernel
theorem dX9_beatClause_151 : decode cX9_beatClause 151 = .ok (.goto 4, 3) := by decide +kernel
theorem dX9_beatClause_154 : decode cX9_beatClause 154 = .ok (.iconst 0, 1) := by decide +kernel
theorem dX9_beatClause_155 : decode cX9_beatClause 155 = .ok (.iastore, 1) := by decide +kernel
theorem dX9_beatClause_156 : decode cX9_beatClause 156 = .ok (.return_, 1) := by decide +kernel
theorem dX9_seatClause_0 : decode cX9_seatClause 0 = .ok (.aload_n 0, 1) := by decide +kernel
theorem dX9_seatClause_1 : decode cX9_seatClause 1 = .ok (.invokevirtual 129, 3) := by decide +kernel
theorem dX9_seatClause_4 : decode cX9_seatClause 4 = .ok (.pop, 1) := by decide +kernel
theorem dX9_seatClause_5 : decode cX9_seatClause 5 = .ok (.aload_n 0, 1) := by decide +kernel
theorem dX9_seatClause_6 : decode cX9_seatClause 6 = .ok (.getfield 122, 3) := by decide +kernel
theorem dX9_seatClause_9 : decode cX9_seatClause 9 = .ok (.istore_n 2, 1) := by decide +kernel
theorem dX9_seatClause_10 : decode cX9_seatClause 10 = .ok (.aload_n 0, 1) := by decide +kernel
theorem dX9_seatClause_11 : decode cX9_seatClause 11 = .ok (.getfield 34, 3) := by decide +kernel
theorem dX9_seatClause_14 : decode cX9_seatClause 14 = .ok (.iload_n 1, 1) := by decide +kernel
theorem dX9_seatClause_15 : decode cX9_seatClause 15 = .ok (.aload_n 0, 1) := by decide +kernel
theorem dX9_seatClause_16 : decode cX9_seatClause 16 = .ok (.bipush 11, 2) := by decide +kernel
theorem dX9_seatClause_18 : decode cX9_seatClause 18 = .ok (.invokevirtual 140, 3) := by decide +kernel
theorem dX9_seatClause_21 : decode cX9_seatClause 21 = .ok (.iastore, 1) := by decide +kernel
theorem dX9_seatClause_22 : decode cX9_seatClause 22 = .ok (.aload_n 0, 1) := by decide +kernel
theorem dX9_seatClause_23 : decode cX9_seatClause 23 = .ok (.aload_n 0, 1) := by decide +kernel
theorem dX9_seatClause_24 : decode cX9_seatClause 24 = .ok (.getfield 34, 3) := by decide +kernel
theorem dX9_seatClause_27 : decode cX9_seatClause 27 = .ok (.iload_n 1, 1) := by decide +kernel
theorem dX9_seatClause_28 : decode cX9_seatClause 28 = .ok (.iaload, 1) := by decide +kernel
theorem dX9_seatClause_29 : decode cX9_seatClause 29 = .ok (.invokevirtual 98, 3) := by decide +kernel
theorem dX9_seatClause_32 : decode cX9_seatClause 32 = .ok (.istore_n 3, 1) := by decide +kernel
theorem dX9_seatClause_33 : decode cX9_seatClause 33 = .ok (.iconst 0, 1) := by decide +kernel
theorem dX9_seatClause_34 : decode cX9_seatClause 34 = .ok (.istore 4, 2) := by decide +kernel
theorem dX9_seatClause_36 : decode cX9_seatClause 36 = .ok (.iload 4, 2) := by decide +kernel
theorem dX9_seatClause_38 : decode cX9_seatClause 38 = .ok (.iload_n 1, 1) := by decide +kernel
theorem dX9_seatClause_39 : decode cX9_seatClause 39 = .ok (.if_icmp .ge 35, 3) := by decide +kernel
theorem dX9_seatClause_42 : decode cX9_seatClause 42 = .ok (.iload_n 3, 1) := by decide +kernel
theorem dX9_seatClause_43 : decode cX9_seatClause 43 = .ok (.ifCond .ne 19, 3) := by decide +kernel
theorem dX9_seatClause_46 : decode cX9_seatClause 46 = .ok (.aload_n 0, 1) := by decide +kernel
theorem dX9_seatClause_47 : decode cX9_seatClause 47 = .ok (.getfield 34, 3) := by decide +kernel
theorem dX9_seatClause_50 : decode cX9_seatClause 50 = .ok (.iload 4, 2) := by decide +kernel
theorem dX9_seatClause_52 : decode cX9_seatClause 52 = .ok (.iaload, 1) := by decide +kernel
theorem dX9_seatClause_53 : decode cX9_seatClause 53 = .ok (.aload_n 0, 1) := by decide +kernel
theorem dX9_seatClause_54 : decode cX9_seatClause 54 = .ok (.getfield 34, 3) := by decide +kernel
theorem dX9_seatClause_57 : decode cX9_seatClause 57 = .ok (.iload_n 1, 1) := by decide +kernel
theorem dX9_seatClause_58 : decode cX9_seatClause 58 = .ok (.iaload, 1) := by decide +kernel
theorem dX9_seatClause_59 : decode cX9_seatClause 59 = .ok (.if_icmp .ne 7, 3) := by decide +kernel
theorem dX9_seatClause_62 : decode cX9_seatClause 62 = .ok (.iconst 1, 1) := by decide +kernel
theorem dX9_seatClause_63 : decode cX9_seatClause 63 = .ok (.goto 4, 3) := by decide +kernel
theorem dX9_seatClause_66 : decode cX9_seatClause 66 = .ok (.iconst 0, 1) := by decide +kernel
theorem dX9_seatClause_67 : decode cX9_seatClause 67 = .ok (.istore_n 3, 1) := by decide +kernel
theorem dX9_seatClause_68 : decode cX9_seatClause 68 = .ok (.iinc 4 6, 3) := by decide +kernel
theorem dX9_seatClause_71 : decode cX9_seatClause 71 = .ok (.goto (-35), 3) := by decide +kernel
theorem dX9_seatClause_74 : decode cX9_seatClause 74 = .ok (.aload_n 0, 1) := by decide +kernel
theorem dX9_seatClause_75 : decode cX9_seatClause 75 = .ok (.getfield 125, 3) := by decide +kernel
theorem dX9_seatClause_78 : decode cX9_seatClause 78 = .ok (.ifCond .ne 17, 3) := by decide +kernel
theorem dX9_seatClause_81 : decode cX9_seatClause 81 = .ok (.iload_n 3, 1) := by decide +kernel
theorem dX9_seatClause_82 : decode cX9_seatClause 82 = .ok (.ifCond .eq 13, 3) := by decide +kernel
theorem dX9_seatClause_85 : decode cX9_seatClause 85 = .ok (.aload_n 0, 1) := by decide +kernel
theorem dX9_seatClause_86 : decode cX9_seatClause 86 = .ok (.iconst 1, 1) := by decide +kernel
theorem dX9_seatClause_87 : decode cX9_seatClause 87 = .ok (.putfield 125, 3) := by decide +kernel
theorem dX9_seatClause_90 : decode cX9_seatClause 90 = .ok (.aload_n 0, 1) := by decide +kernel
theorem dX9_seatClause_91 : decode cX9_seatClause 91 = .ok (.iload_n 2, 1) := by decide +kernel
theorem dX9_seatClause_92 : decode cX9_seatClause 92 = .ok (.putfield 122, 3) := by decide +kernel
theorem dX9_seatClause_95 : decode cX9_seatClause 95 = .ok (.aload_n 0, 1) := by decide +kernel
theorem dX9_seatClause_96 : decode cX9_seatClause 96 = .ok (.getfield 125, 3) := by decide +kernel
theorem dX9_seatClause_99 : decode cX9_seatClause 99 = .ok (.ifCond .eq 7, 3) := by decide +kernel
theorem dX9_seatClause_102 : decode cX9_seatClause 102 = .ok (.iconst 0, 1) := by decide +kernel
theorem dX9_seatClause_103 : decode cX9_seatClause 103 = .ok (.goto 7, 3) := by decide +kernel
theorem dX9_seatClause_106 : decode cX9_seatClause 106 = .ok (.aload_n 0, 1) := by decide +kernel
theorem dX9_seatClause_107 : decode cX9_seatClause 107 = .ok (.invokevirtual 129, 3) := by decide +kernel
theorem dX9_seatClause_110 : decode cX9_seatClause 110 = .ok (.istore 4, 2) := by decide +kernel
theorem dX9_seatClause_112 : decode cX9_seatClause 112 = .ok (.aload_n 0, 1) := by decide +kernel
theorem dX9_seatClause_113 : decode cX9_seatClause 113 = .ok (.getfield 34, 3) := by decide +kernel
theorem dX9_seatClause_116 : decode cX9_seatClause 116 = .ok (.iload_n 1, 1) := by decide +kernel
theorem dX9_seatClause_117 : decode cX9_seatClause 117 = .ok (.iconst 1, 1) := by decide +kernel
theorem dX9_seatClause_118 : decode cX9_seatClause 118 = .ok (.iadd, 1) := by decide +kernel
theorem dX9_seatClause_119 : decode cX9_seatClause 119 = .ok (.iload 4, 2) := by decide +kernel
theorem dX9_seatClause_121 : decode cX9_seatClause 121 = .ok (.bipush 112, 2) := by decide +kernel
theorem dX9_seatClause_123 : decode cX9_seatClause 123 = .ok (.if_icmp .ne 7, 3) := by decide +kernel
theorem dX9_seatClause_126 : decode cX9_seatClause 126 = .ok (.iconst 0, 1) := by decide +kernel
theorem dX9_seatClause_127 : decode cX9_seatClause 127 = .ok (.goto 38, 3) := by decide +kernel
theorem dX9_seatClause_130 : decode cX9_seatClause 130 = .ok (.iload 4, 2) := by decide +kernel
theorem dX9_seatClause_132 : decode cX9_seatClause 132 = .ok (.bipush 119, 2) := by decide +kernel
theorem dX9_seatClause_134 : decode cX9_seatClause 134 = .ok (.if_icmp .ne 7, 3) := by decide +kernel
theorem dX9_seatClause_137 : decode cX9_seatClause 137 = .ok (.iconst 1, 1) := by decide +kernel
theorem dX9_seatClause_138 : decode cX9_seatClause 138 = .ok (.goto 27, 3) := by decide +kernel
theorem dX9_seatClause_141 : decode cX9_seatClause 141 = .ok (.iload 4, 2) := by decide +kernel
theorem dX9_seatClause_143 : decode cX9_seatClause 143 = .ok (.bipush 99, 2) := by decide +kernel
theorem dX9_seatClause_145 : decode cX9_seatClause 145 = .ok (.if_icmp .ne 7, 3) := by decide +kernel
theorem dX9_seatClause_148 : decode cX9_seatClause 148 = .ok (.iconst 2, 1) := by decide +kernel
theorem dX9_seatClause_149 : decode cX9_seatClause 149 = .ok (.goto 16, 3) := by decide +kernel
theorem dX9_seatClause_152 : decode cX9_seatClause 152 = .ok (.iload 4, 2) := by decide +kernel
theorem dX9_seatClause_154 : decode cX9_seatClause 154 = .ok (.bipush 120, 2) := by decide +kernel
theorem dX9_seatClause_156 : decode cX9_seatClause 156 = .ok (.if_icmp .ne 7, 3) := by decide +kernel
theorem dX9_seatClause_159 : decode cX9_seatClause 159 = .ok (.iconst 3, 1) := by decide +kernel
theorem dX9_seatClause_160 : decode cX9_seatClause 160 = .ok (.goto 5, 3) := by decide +kernel
theorem dX9_seatClause_163 : decode cX9_seatClause 163 = .ok (.bipush (-4), 2) := by decide +kernel
theorem dX9_seatClause_165 : decode cX9_seatClause 165 = .ok (.iastore, 1) := by decide +kernel
theorem dX9_seatClause_166 : decode cX9_seatClause 166 = .ok (.aload_n 0, 1) := by decide +kernel
theorem dX9_seatClause_167 : decode cX9_seatClause 167 = .ok (.aload_n 0, 1) := by decide +kernel
theorem dX9_seatClause_168 : decode cX9_seatClause 168 = .ok (.getfield 125, 3) := by decide +kernel
theorem dX9_seatClause_171 : decode cX9_seatClause 171 = .ok (.ifCond .ne 14, 3) := by decide +kernel
theorem dX9_seatClause_174 : decode cX9_seatClause 174 = .ok (.aload_n 0, 1) := by decide +kernel
theorem dX9_seatClause_175 : decode cX9_seatClause 175 = .ok (.getfield 34, 3) := by decide +kernel
theorem dX9_seatClause_178 : decode cX9_seatClause 178 = .ok (.iload_n 1, 1) := by decide +kernel
theorem dX9_seatClause_179 : decode cX9_seatClause 179 = .ok (.iconst 1, 1) := by decide +kernel
theorem dX9_seatClause_180 : decode cX9_seatClause 180 = .ok (.iadd, 1) := by decide +kernel
theorem dX9_seatClause_181 : decode cX9_seatClause 181 = .ok (.iaload, 1) := by decide +kernel
theorem dX9_seatClause_182 : decode cX9_seatClause 182 = .ok (.ifCond .ge 7, 3) := by decide +kernel
theorem dX9_seatClause_185 : decode cX9_seatClause 185 = .ok (.iconst 1, 1) := by decide +kernel
theorem dX9_seatClause_186 : decode cX9_seatClause 186 = .ok (.goto 4, 3) := by decide +kernel
theorem dX9_seatClause_189 : decode cX9_seatClause 189 = .ok (.iconst 0, 1) := by decide +kernel
theorem dX9_seatClause_190 : decode cX9_seatClause 190 = .ok (.putfield 125, 3) := by decide +kernel
theorem dX9_seatClause_193 : decode cX9_seatClause 193 = .ok (.aload_n 0, 1) := by decide +kernel
theorem dX9_seatClause_194 : decode cX9_seatClause 194 = .ok (.dup, 1) := by decide +kernel
theorem dX9_seatClause_195 : decode cX9_seatClause 195 = .ok (.getfield 122, 3) := by decide +kernel
theorem dX9_seatClause_198 : decode cX9_seatClause 198 = .ok (.aload_n 0, 1) := by decide +kernel
theorem dX9_seatClause_199 : decode cX9_seatClause 199 = .ok (.getfield 125, 3) := by decide +kernel
theorem dX9_seatClause_202 : decode cX9_seatClause 202 = .ok (.ifCond .eq 7, 3) := by decide +kernel
theorem dX9_seatClause_205 : decode cX9_seatClause 205 = .ok (.iconst 0, 1) := by decide +kernel
theorem dX9_seatClause_206 : decode cX9_seatClause 206 = .ok (.goto 4, 3) := by decide +kernel
theorem dX9_seatClause_209 : decode cX9_seatClause 209 = .ok (.iconst 1, 1) := by decide +kernel
theorem dX9_seatClause_210 : decode cX9_seatClause 210 = .ok (.iadd, 1) := by decide +kernel
theorem dX9_seatClause_211 : decode cX9_seatClause 211 = .ok (.putfield 122, 3) := by decide +kernel
theorem dX9_seatClause_214 : decode cX9_seatClause 214 = .ok (.return_, 1) := by decide +kernel
theorem dX9_readAll_0 : decode cX9_readAll 0 = .ok (.aload_n 0, 1) := by decide +kernel
theorem dX9_readAll_1 : decode cX9_readAll 1 = .ok (.iconst 0, 1) := by decide +kernel
theorem dX9_readAll_2 : decode cX9_readAll 2 = .ok (.putfield 122, 3) := by decide +kernel
theorem dX9_readAll_5 : decode cX9_readAll 5 = .ok (.aload_n 0, 1) := by decide +kernel
theorem dX9_readAll_6 : decode cX9_readAll 6 = .ok (.iconst 0, 1) := by decide +kernel
theorem dX9_readAll_7 : decode cX9_readAll 7 = .ok (.putfield 125, 3) := by decide +kernel
theorem dX9_readAll_10 : decode cX9_readAll 10 = .ok (.iconst 0, 1) := by decide +kernel
theorem dX9_readAll_11 : decode cX9_readAll 11 = .ok (.istore_n 2, 1) := by decide +kernel
theorem dX9_readAll_12 : decode cX9_readAll 12 = .ok (.iconst 1, 1) := by decide +kernel
theorem dX9_readAll_13 : decode cX9_readAll 13 = .ok (.istore_n 3, 1) := by decide +kernel
theorem dX9_readAll_14 : decode cX9_readAll 14 = .ok (.iload_n 3, 1) := by decide +kernel
theorem dX9_readAll_15 : decode cX9_readAll 15 = .ok (.ifCond .eq 53, 3) := by decide +kernel
theorem dX9_readAll_18 : decode cX9_readAll 18 = .ok (.iload_n 1, 1) := by decide +kernel
theorem dX9_readAll_19 : decode cX9_readAll 19 = .ok (.ifCond .eq 14, 3) := by decide +kernel
theorem dX9_readAll_22 : decode cX9_readAll 22 = .ok (.aload_n 0, 1) := by decide +kernel
theorem dX9_readAll_23 : decode cX9_readAll 23 = .ok (.bipush 6, 2) := by decide +kernel
theorem dX9_readAll_25 : decode cX9_readAll 25 = .ok (.iload_n 2, 1) := by decide +kernel
theorem dX9_readAll_26 : decode cX9_readAll 26 = .ok (.imul, 1) := by decide +kernel
theorem dX9_readAll_27 : decode cX9_readAll 27 = .ok (.invokevirtual 150, 3) := by decide +kernel
theorem dX9_readAll_30 : decode cX9_readAll 30 = .ok (.goto 11, 3) := by decide +kernel
theorem dX9_readAll_33 : decode cX9_readAll 33 = .ok (.aload_n 0, 1) := by decide +kernel
theorem dX9_readAll_34 : decode cX9_readAll 34 = .ok (.bipush 6, 2) := by decide +kernel
theorem dX9_readAll_36 : decode cX9_readAll 36 = .ok (.iload_n 2, 1) := by decide +kernel
theorem dX9_readAll_37 : decode cX9_readAll 37 = .ok (.imul, 1) := by decide +kernel
theorem dX9_readAll_38 : decode cX9_readAll 38 = .ok (.invokevirtual 154, 3) := by decide +kernel
theorem dX9_readAll_41 : decode cX9_readAll 41 = .ok (.iinc 2 1, 3) := by decide +kernel
theorem dX9_readAll_44 : decode cX9_readAll 44 = .ok (.iload_n 2, 1) := by decide +kernel
theorem dX9_readAll_45 : decode cX9_readAll 45 = .ok (.bipush 8, 2) := by decide +kernel
theorem dX9_readAll_47 : decode cX9_readAll 47 = .ok (.if_icmp .ge 16, 3) := by decide +kernel
theorem dX9_readAll_50 : decode cX9_readAll 50 = .ok (.aload_n 0, 1) := by decide +kernel
theorem dX9_readAll_51 : decode cX9_readAll 51 = .ok (.bipush 59, 2) := by decide +kernel
theorem dX9_readAll_53 : decode cX9_readAll 53 = .ok (.invokevirtual 144, 3) := by decide +kernel
theorem dX9_readAll_56 : decode cX9_readAll 56 = .ok (.ifCond .eq 7, 3) := by decide +kernel
theorem dX9_readAll_59 : decode cX9_readAll 59 = .ok (.iconst 1, 1) := by decide +kernel
theorem dX9_readAll_60 : decode cX9_readAll 60 = .ok (.goto 4, 3) := by decide +kernel
theorem dX9_readAll_63 : decode cX9_readAll 63 = .ok (.iconst 0, 1) := by decide +kernel
theorem dX9_readAll_64 : decode cX9_readAll 64 = .ok (.istore_n 3, 1) := by decide +kernel
theorem dX9_readAll_65 : decode cX9_readAll 65 = .ok (.goto (-51), 3) := by decide +kernel
theorem dX9_readAll_68 : decode cX9_readAll 68 = .ok (.aload_n 0, 1) := by decide +kernel
theorem dX9_readAll_69 : decode cX9_readAll 69 = .ok (.aload_n 0, 1) := by decide +kernel
theorem dX9_readAll_70 : decode cX9_readAll 70 = .ok (.getfield 125, 3) := by decide +kernel
theorem dX9_readAll_73 : decode cX9_readAll 73 = .ok (.ifCond .ne 10, 3) := by decide +kernel
theorem dX9_readAll_76 : decode cX9_readAll 76 = .ok (.aload_n 0, 1) := by decide +kernel
theorem dX9_readAll_77 : decode cX9_readAll 77 = .ok (.invokevirtual 129, 3) := by decide +kernel
theorem dX9_readAll_80 : decode cX9_readAll 80 = .ok (.ifCond .eq 7, 3) := by decide +kernel
theorem dX9_readAll_83 : decode cX9_readAll 83 = .ok (.iconst 1, 1) := by decide +kernel
theorem dX9_readAll_84 : decode cX9_readAll 84 = .ok (.goto 4, 3) := by decide +kernel
theorem dX9_readAll_87 : decode cX9_readAll 87 = .ok (.iconst 0, 1) := by decide +kernel
theorem dX9_readAll_88 : decode cX9_readAll 88 = .ok (.putfield 125, 3) := by decide +kernel
theorem dX9_readAll_91 : decode cX9_readAll 91 = .ok (.aload_n 0, 1) := by decide +kernel
theorem dX9_readAll_92 : decode cX9_readAll 92 = .ok (.iconst 0, 1) := by decide +kernel
theorem dX9_readAll_93 : decode cX9_readAll 93 = .ok (.putfield 119, 3) := by decide +kernel
theorem dX9_readAll_96 : decode cX9_readAll 96 = .ok (.aload_n 0, 1) := by decide +kernel
theorem dX9_readAll_97 : decode cX9_readAll 97 = .ok (.getfield 125, 3) := by decide +kernel
theorem dX9_readAll_100 : decode cX9_readAll 100 = .ok (.ifCond .eq 13, 3) := by decide +kernel
theorem dX9_readAll_103 : decode cX9_readAll 103 = .ok (.bipush (-20), 2) := by decide +kernel
theorem dX9_readAll_105 : decode cX9_readAll 105 = .ok (.aload_n 0, 1) := by decide +kernel
theorem dX9_readAll_106 : decode cX9_readAll 106 = .ok (.getfield 122, 3) := by decide +kernel
theorem dX9_readAll_109 : decode cX9_readAll 109 = .ok (.isub, 1) := by decide +kernel
theorem dX9_readAll_110 : decode cX9_readAll 110 = .ok (.goto 4, 3) := by decide +kernel
theorem dX9_readAll_113 : decode cX9_readAll 113 = .ok (.iload_n 2, 1) := by decide +kernel
theorem dX9_readAll_114 : decode cX9_readAll 114 = .ok (.ireturn, 1) := by decide +kernel
theorem dX9_routine_0 : decode cX9_routine 0 = .ok (.aload_n 0, 1) := by decide +kernel
theorem dX9_routine_1 : decode cX9_routine 1 = .ok (.iconst 1, 1) := by decide +kernel
theorem dX9_routine_2 : decode cX9_routine 2 = .ok (.invokevirtual 157, 3) := by decide +kernel
theorem dX9_routine_5 : decode cX9_routine 5 = .ok (.istore_n 1, 1) := by decide +kernel
theorem dX9_routine_6 : decode cX9_routine 6 = .ok (.iconst 0, 1) := by decide +kernel
theorem dX9_routine_7 : decode cX9_routine 7 = .ok (.istore_n 2, 1) := by decide +kernel
theorem dX9_routine_8 : decode cX9_routine 8 = .ok (.iload_n 2, 1) := by decide +kernel
theorem dX9_routine_9 : decode cX9_routine 9 = .ok (.bipush 6, 2) := by decide +kernel
theorem dX9_routine_11 : decode cX9_routine 11 = .ok (.iload_n 1, 1) := by decide +kernel
theorem dX9_routine_12 : decode cX9_routine 12 = .ok (.imul, 1) := by decide +kernel
theorem dX9_routine_13 : decode cX9_routine 13 = .ok (.if_icmp .ge 104, 3) := by decide +kernel
theorem dX9_routine_16 : decode cX9_routine 16 = .ok (.aload_n 0, 1) := by decide +kernel
theorem dX9_routine_17 : decode cX9_routine 17 = .ok (.getfield 7, 3) := by decide +kernel
theorem dX9_routine_20 : decode cX9_routine 20 = .ok (.aload_n 0, 1) := by decide +kernel
theorem dX9_routine_21 : decode cX9_routine 21 = .ok (.getfield 34, 3) := by decide +kernel
theorem dX9_routine_24 : decode cX9_routine 24 = .ok (.iload_n 2, 1) := by decide +kernel
theorem dX9_routine_25 : decode cX9_routine 25 = .ok (.iaload, 1) := by decide +kernel
theorem dX9_routine_26 : decode cX9_routine 26 = .ok (.aload_n 0, 1) := by decide +kernel
theorem dX9_routine_27 : decode cX9_routine 27 = .ok (.getfield 34, 3) := by decide +kernel
theorem dX9_routine_30 : decode cX9_routine 30 = .ok (.iload_n 2, 1) := by decide +kernel
theorem dX9_routine_31 : decode cX9_routine 31 = .ok (.iconst 1, 1) := by decide +kernel
theorem dX9_routine_32 : decode cX9_routine 32 = .ok (.iadd, 1) := by decide +kernel
theorem dX9_routine_33 : decode cX9_routine 33 = .ok (.iaload, 1) := by decide +kernel
theorem dX9_routine_34 : decode cX9_routine 34 = .ok (.iastore, 1) := by decide +kernel
theorem dX9_routine_35 : decode cX9_routine 35 = .ok (.aload_n 0, 1) := by decide +kernel
theorem dX9_routine_36 : decode cX9_routine 36 = .ok (.getfield 16, 3) := by decide +kernel
theorem dX9_routine_39 : decode cX9_routine 39 = .ok (.aload_n 0, 1) := by decide +kernel
theorem dX9_routine_40 : decode cX9_routine 40 = .ok (.getfield 34, 3) := by decide +kernel
theorem dX9_routine_43 : decode cX9_routine 43 = .ok (.iload_n 2, 1) := by decide +kernel
theorem dX9_routine_44 : decode cX9_routine 44 = .ok (.iaload, 1) := by decide +kernel
theorem dX9_routine_45 : decode cX9_routine 45 = .ok (.aload_n 0, 1) := by decide +kernel
theorem dX9_routine_46 : decode cX9_routine 46 = .ok (.getfield 34, 3) := by decide +kernel
theorem dX9_routine_49 : decode cX9_routine 49 = .ok (.iload_n 2, 1) := by decide +kernel
theorem dX9_routine_50 : decode cX9_routine 50 = .ok (.iconst 2, 1) := by decide +kernel
theorem dX9_routine_51 : decode cX9_routine 51 = .ok (.iadd, 1) := by decide +kernel
theorem dX9_routine_52 : decode cX9_routine 52 = .ok (.iaload, 1) := by decide +kernel
theorem dX9_routine_53 : decode cX9_routine 53 = .ok (.iastore, 1) := by decide +kernel
theorem dX9_routine_54 : decode cX9_routine 54 = .ok (.aload_n 0, 1) := by decide +kernel
theorem dX9_routine_55 : decode cX9_routine 55 = .ok (.getfield 19, 3) := by decide +kernel
theorem dX9_routine_58 : decode cX9_routine 58 = .ok (.aload_n 0, 1) := by decide +kernel
theorem dX9_routine_59 : decode cX9_routine 59 = .ok (.getfield 34, 3) := by decide +kernel
theorem dX9_routine_62 : decode cX9_routine 62 = .ok (.iload_n 2, 1) := by decide +kernel
theorem dX9_routine_63 : decode cX9_routine 63 = .ok (.iaload, 1) := by decide +kernel
theorem dX9_routine_64 : decode cX9_routine 64 = .ok (.aload_n 0, 1) := by decide +kernel
theorem dX9_routine_65 : decode cX9_routine 65 = .ok (.getfield 34, 3) := by decide +kernel
theorem dX9_routine_68 : decode cX9_routine 68 = .ok (.iload_n 2, 1) := by decide +kernel
theorem dX9_routine_69 : decode cX9_routine 69 = .ok (.iconst 3, 1) := by decide +kernel
theorem dX9_routine_70 : decode cX9_routine 70 = .ok (.iadd, 1) := by decide +kernel
theorem dX9_routine_71 : decode cX9_routine 71 = .ok (.iaload, 1) := by decide +kernel
theorem dX9_routine_72 : decode cX9_routine 72 = .ok (.iastore, 1) := by decide +kernel
theorem dX9_routine_73 : decode cX9_routine 73 = .ok (.aload_n 0, 1) := by decide +kernel
theorem dX9_routine_74 : decode cX9_routine 74 = .ok (.getfield 22, 3) := by decide +kernel
theorem dX9_routine_77 : decode cX9_routine 77 = .ok (.aload_n 0, 1) := by decide +kernel
theorem dX9_routine_78 : decode cX9_routine 78 = .ok (.getfield 34, 3) := by decide +kernel
theorem dX9_routine_81 : decode cX9_routine 81 = .ok (.iload_n 2, 1) := by decide +kernel
theorem dX9_routine_82 : decode cX9_routine 82 = .ok (.iaload, 1) := by decide +kernel
theorem dX9_routine_83 : decode cX9_routine 83 = .ok (.aload_n 0, 1) := by decide +kernel
theorem dX9_routine_84 : decode cX9_routine 84 = .ok (.getfield 34, 3) := by decide +kernel
theorem dX9_routine_87 : decode cX9_routine 87 = .ok (.iload_n 2, 1) := by decide +kernel
theorem dX9_routine_88 : decode cX9_routine 88 = .ok (.iconst 4, 1) := by decide +kernel
theorem dX9_routine_89 : decode cX9_routine 89 = .ok (.iadd, 1) := by decide +kernel
theorem dX9_routine_90 : decode cX9_routine 90 = .ok (.iaload, 1) := by decide +kernel
theorem dX9_routine_91 : decode cX9_routine 91 = .ok (.iastore, 1) := by decide +kernel
theorem dX9_routine_92 : decode cX9_routine 92 = .ok (.aload_n 0, 1) := by decide +kernel
theorem dX9_routine_93 : decode cX9_routine 93 = .ok (.getfield 13, 3) := by decide +kernel
theorem dX9_routine_96 : decode cX9_routine 96 = .ok (.aload_n 0, 1) := by decide +kernel
theorem dX9_routine_97 : decode cX9_routine 97 = .ok (.getfield 34, 3) := by decide +kernel
theorem dX9_routine_100 : decode cX9_routine 100 = .ok (.iload_n 2, 1) := by decide +kernel
theorem dX9_routine_101 : decode cX9_routine 101 = .ok (.iaload, 1) := by decide +kernel
theorem dX9_routine_102 : decode cX9_routine 102 = .ok (.aload_n 0, 1) := by decide +kernel
theorem dX9_routine_103 : decode cX9_routine 103 = .ok (.getfield 34, 3) := by decide +kernel
theorem dX9_routine_106 : decode cX9_routine 106 = .ok (.iload_n 2, 1) := by decide +kernel
theorem dX9_routine_107 : decode cX9_routine 107 = .ok (.iconst 5, 1) := by decide +kernel
theorem dX9_routine_108 : decode cX9_routine 108 = .ok (.iadd, 1) := by decide +kernel
theorem dX9_routine_109 : decode cX9_routine 109 = .ok (.iaload, 1) := by decide +kernel
theorem dX9_routine_110 : decode cX9_routine 110 = .ok (.iastore, 1) := by decide +kernel
theorem dX9_routine_111 : decode cX9_routine 111 = .ok (.iinc 2 6, 3) := by decide +kernel
theorem dX9_routine_114 : decode cX9_routine 114 = .ok (.goto (-106), 3) := by decide +kernel
theorem dX9_routine_117 : decode cX9_routine 117 = .ok (.iload_n 1, 1) := by decide +kernel
theorem dX9_routine_118 : decode cX9_routine 118 = .ok (.ireturn, 1) := by decide +kernel
theorem dX9_house_0 : decode cX9_house 0 = .ok (.aload_n 0, 1) := by decide +kernel
theorem dX9_house_1 : decode cX9_house 1 = .ok (.iconst 0, 1) := by decide +kernel
theorem dX9_house_2 : decode cX9_house 2 = .ok (.invokevirtual 157, 3) := by decide +kernel
theorem dX9_house_5 : decode cX9_house 5 = .ok (.istore_n 1, 1) := by decide +kernel
theorem dX9_house_6 : decode cX9_house 6 = .ok (.iload_n 1, 1) := by decide +kernel
theorem dX9_house_7 : decode cX9_house 7 = .ok (.ifCond .le 17, 3) := by decide +kernel
theorem dX9_house_10 : decode cX9_house 10 = .ok (.aload_n 0, 1) := by decide +kernel
theorem dX9_house_11 : decode cX9_house 11 = .ok (.getfield 76, 3) := by decide +kernel
theorem dX9_house_14 : decode cX9_house 14 = .ok (.iload_n 1, 1) := by decide +kernel
theorem dX9_house_15 : decode cX9_house 15 = .ok (.iadd, 1) := by decide +kernel
theorem dX9_house_16 : decode cX9_house 16 = .ok (.bipush 8, 2) := by decide +kernel
theorem dX9_house_18 : decode cX9_house 18 = .ok (.if_icmp .le 6, 3) := by decide +kernel
theorem dX9_house_21 : decode cX9_house 21 = .ok (.bipush (-3), 2) := by decide +kernel
theorem dX9_house_23 : decode cX9_house 23 = .ok (.ireturn, 1) := by decide +kernel
theorem dX9_house_24 : decode cX9_house 24 = .ok (.iconst 0, 1) := by decide +kernel
theorem dX9_house_25 : decode cX9_house 25 = .ok (.istore_n 2, 1) := by decide +kernel
theorem dX9_house_26 : decode cX9_house 26 = .ok (.iload_n 2, 1) := by decide +kernel
theorem dX9_house_27 : decode cX9_house 27 = .ok (.bipush 6, 2) := by decide +kernel
theorem dX9_house_29 : decode cX9_house 29 = .ok (.iload_n 1, 1) := by decide +kernel
theorem dX9_house_30 : decode cX9_house 30 = .ok (.imul, 1) := by decide +kernel
theorem dX9_house_31 : decode cX9_house 31 = .ok (.if_icmp .ge 28, 3) := by decide +kernel
theorem dX9_house_34 : decode cX9_house 34 = .ok (.aload_n 0, 1) := by decide +kernel
theorem dX9_house_35 : decode cX9_house 35 = .ok (.aload_n 0, 1) := by decide +kernel
theorem dX9_house_36 : decode cX9_house 36 = .ok (.getfield 34, 3) := by decide +kernel
theorem dX9_house_39 : decode cX9_house 39 = .ok (.iload_n 2, 1) := by decide +kernel
theorem dX9_house_40 : decode cX9_house 40 = .ok (.iaload, 1) := by decide +kernel
theorem dX9_house_41 : decode cX9_house 41 = .ok (.aload_n 0, 1) := by decide +kernel
theorem dX9_house_42 : decode cX9_house 42 = .ok (.getfield 34, 3) := by decide +kernel
theorem dX9_house_45 : decode cX9_house 45 = .ok (.iload_n 2, 1) := by decide +kernel
theorem dX9_house_46 : decode cX9_house 46 = .ok (.iconst 1, 1) := by decide +kernel
theorem dX9_house_47 : decode cX9_house 47 = .ok (.iadd, 1) := by decide +kernel
theorem dX9_house_48 : decode cX9_house 48 = .ok (.iaload, 1) := by decide +kernel
theorem dX9_house_49 : decode cX9_house 49 = .ok (.invokevirtual 101, 3) := by decide +kernel
theorem dX9_house_52 : decode cX9_house 52 = .ok (.pop, 1) := by decide +kernel
theorem dX9_house_53 : decode cX9_house 53 = .ok (.iinc 2 6, 3) := by decide +kernel
theorem dX9_house_56 : decode cX9_house 56 = .ok (.goto (-30), 3) := by decide +kernel
theorem dX9_house_59 : decode cX9_house 59 = .ok (.iload_n 1, 1) := by decide +kernel
theorem dX9_house_60 : decode cX9_house 60 = .ok (.ireturn, 1) := by decide +kernel
theorem dX9_count_0 : decode cX9_count 0 = .ok (.iconst 0, 1) := by decide +kernel
theorem dX9_count_1 : decode cX9_count 1 = .ok (.istore_n 2, 1) := by decide +kernel
theorem dX9_count_2 : decode cX9_count 2 = .ok (.iconst 0, 1) := by decide +kernel
theorem dX9_count_3 : decode cX9_count 3 = .ok (.istore_n 3, 1) := by decide +kernel
theorem dX9_count_4 : decode cX9_count 4 = .ok (.iload_n 3, 1) := by decide +kernel
theorem dX9_count_5 : decode cX9_count 5 = .ok (.bipush 16, 2) := by decide +kernel
theorem dX9_count_7 : decode cX9_count 7 = .ok (.if_icmp .ge 59, 3) := by decide +kernel
theorem dX9_count_10 : decode cX9_count 10 = .ok (.iload_n 2, 1) := by decide +kernel
theorem dX9_count_11 : decode cX9_count 11 = .ok (.iload_n 1, 1) := by decide +kernel
theorem dX9_count_12 : decode cX9_count 12 = .ok (.iconst 1, 1) := by decide +kernel
theorem dX9_count_13 : decode cX9_count 13 = .ok (.if_icmp .ne 12, 3) := by decide +kernel
theorem dX9_count_16 : decode cX9_count 16 = .ok (.aload_n 0, 1) := by decide +kernel
theorem dX9_count_17 : decode cX9_count 17 = .ok (.getfield 13, 3) := by decide +kernel
theorem dX9_count_20 : decode cX9_count 20 = .ok (.iload_n 3, 1) := by decide +kernel
theorem dX9_count_21 : decode cX9_count 21 = .ok (.iaload, 1) := by decide +kernel
theorem dX9_count_22 : decode cX9_count 22 = .ok (.ifCond .gt 31, 3) := by decide +kernel
theorem dX9_count_25 : decode cX9_count 25 = .ok (.iload_n 1, 1) := by decide +kernel
theorem dX9_count_26 : decode cX9_count 26 = .ok (.iconst 2, 1) := by decide +kernel
theorem dX9_count_27 : decode cX9_count 27 = .ok (.if_icmp .ne 12, 3) := by decide +kernel
theorem dX9_count_30 : decode cX9_count 30 = .ok (.aload_n 0, 1) := by decide +kernel
theorem dX9_count_31 : decode cX9_count 31 = .ok (.getfield 7, 3) := by decide +kernel
theorem dX9_count_34 : decode cX9_count 34 = .ok (.iload_n 3, 1) := by decide +kernel
theorem dX9_count_35 : decode cX9_count 35 = .ok (.iaload, 1) := by decide +kernel
theorem dX9_count_36 : decode cX9_count 36 = .ok (.ifCond .gt 17, 3) := by decide +kernel
theorem dX9_count_39 : decode cX9_count 39 = .ok (.iload_n 1, 1) := by decide +kernel
theorem dX9_count_40 : decode cX9_count 40 = .ok (.iconst 3, 1) := by decide +kernel
theorem dX9_count_41 : decode cX9_count 41 = .ok (.if_icmp .ne 16, 3) := by decide +kernel
theorem dX9_count_44 : decode cX9_count 44 = .ok (.aload_n 0, 1) := by decide +kernel
theorem dX9_count_45 : decode cX9_count 45 = .ok (.getfield 22, 3) := by decide +kernel
theorem dX9_count_48 : decode cX9_count 48 = .ok (.iload_n 3, 1) := by decide +kernel
theorem dX9_count_49 : decode cX9_count 49 = .ok (.iaload, 1) := by decide +kernel
theorem dX9_count_50 : decode cX9_count 50 = .ok (.ifCond .le 7, 3) := by decide +kernel
theorem dX9_count_53 : decode cX9_count 53 = .ok (.iconst 1, 1) := by decide +kernel
theorem dX9_count_54 : decode cX9_count 54 = .ok (.goto 4, 3) := by decide +kernel
theorem dX9_count_57 : decode cX9_count 57 = .ok (.iconst 0, 1) := by decide +kernel
theorem dX9_count_58 : decode cX9_count 58 = .ok (.iadd, 1) := by decide +kernel
theorem dX9_count_59 : decode cX9_count 59 = .ok (.istore_n 2, 1) := by decide +kernel
theorem dX9_count_60 : decode cX9_count 60 = .ok (.iinc 3 1, 3) := by decide +kernel
theorem dX9_count_63 : decode cX9_count 63 = .ok (.goto (-59), 3) := by decide +kernel
theorem dX9_count_66 : decode cX9_count 66 = .ok (.iload_n 1, 1) := by decide +kernel
theorem dX9_count_67 : decode cX9_count 67 = .ok (.i2l, 1) := by decide +kernel
theorem dX9_count_68 : decode cX9_count 68 = .ok (.lconst 0, 1) := by decide +kernel
theorem dX9_count_69 : decode cX9_count 69 = .ok (.ldc2_w 161, 3) := by decide +kernel
theorem dX9_count_72 : decode cX9_count 72 = .ok (.invokestatic 70, 3) := by decide +kernel
theorem dX9_count_75 : decode cX9_count 75 = .ok (.ifCond .ne 7, 3) := by decide +kernel
theorem dX9_count_78 : decode cX9_count 78 = .ok (.iconst (-1), 1) := by decide +kernel
theorem dX9_count_79 : decode cX9_count 79 = .ok (.goto 39, 3) := by decide +kernel
theorem dX9_count_82 : decode cX9_count 82 = .ok (.iload_n 1, 1) := by decide +kernel
theorem dX9_count_83 : decode cX9_count 83 = .ok (.ifCond .ne 10, 3) := by decide +kernel
theorem dX9_count_86 : decode cX9_count 86 = .ok (.aload_n 0, 1) := by decide +kernel
theorem dX9_count_87 : decode cX9_count 87 = .ok (.getfield 76, 3) := by decide +kernel
theorem dX9_count_90 : decode cX9_count 90 = .ok (.goto 28, 3) := by decide +kernel
theorem dX9_count_93 : decode cX9_count 93 = .ok (.iload_n 1, 1) := by decide +kernel
theorem dX9_count_94 : decode cX9_count 94 = .ok (.iconst 4, 1) := by decide +kernel
theorem dX9_count_95 : decode cX9_count 95 = .ok (.if_icmp .ne 10, 3) := by decide +kernel
theorem dX9_count_98 : decode cX9_count 98 = .ok (.aload_n 0, 1) := by decide +kernel
theorem dX9_count_99 : decode cX9_count 99 = .ok (.getfield 163, 3) := by decide +kernel
theorem dX9_count_102 : decode cX9_count 102 = .ok (.goto 16, 3) := by decide +kernel
theorem dX9_count_105 : decode cX9_count 105 = .ok (.iload_n 1, 1) := by decide +kernel
theorem dX9_count_106 : decode cX9_count 106 = .ok (.iconst 5, 1) := by decide +kernel
theorem dX9_count_107 : decode cX9_count 107 = .ok (.if_icmp .ne 10, 3) := by decide +kernel
theorem dX9_count_110 : decode cX9_count 110 = .ok (.aload_n 0, 1) := by decide +kernel
theorem dX9_count_111 : decode cX9_count 111 = .ok (.getfield 166, 3) := by decide +kernel
theorem dX9_count_114 : decode cX9_count 114 = .ok (.goto 4, 3) := by decide +kernel
theorem dX9_count_117 : decode cX9_count 117 = .ok (.iload_n 2, 1) := by decide +kernel
theorem dX9_count_118 : decode cX9_count 118 = .ok (.ireturn, 1) := by decide +kernel
theorem dX9_pullOn_0 : decode cX9_pullOn 0 = .ok (.iload_n 1, 1) := by decide +kernel
theorem dX9_pullOn_1 : decode cX9_pullOn 1 = .ok (.iconst 3, 1) := by decide +kernel
theorem dX9_pullOn_2 : decode cX9_pullOn 2 = .ok (.if_icmp .ne 16, 3) := by decide +kernel
theorem dX9_pullOn_5 : decode cX9_pullOn 5 = .ok (.iload 4, 2) := by decide +kernel
theorem dX9_pullOn_7 : decode cX9_pullOn 7 = .ok (.iconst 2, 1) := by decide +kernel
theorem dX9_pullOn_8 : decode cX9_pullOn 8 = .ok (.if_icmp .ge 10, 3) := by decide +kernel
theorem dX9_pullOn_11 : decode cX9_pullOn 11 = .ok (.iconst 1, 1) := by decide +kernel
theorem dX9_pullOn_12 : decode cX9_pullOn 12 = .ok (.iload 4, 2) := by decide +kernel
theorem dX9_pullOn_14 : decode cX9_pullOn 14 = .ok (.isub, 1) := by decide +kernel
theorem dX9_pullOn_15 : decode cX9_pullOn 15 = .ok (.goto 5, 3) := by decide +kernel
theorem dX9_pullOn_18 : decode cX9_pullOn 18 = .ok (.iload 4, 2) := by decide +kernel
theorem dX9_pullOn_20 : decode cX9_pullOn 20 = .ok (.istore 6, 2) := by decide +kernel
theorem dX9_pullOn_22 : decode cX9_pullOn 22 = .ok (.iconst 1, 1) := by decide +kernel
theorem dX9_pullOn_23 : decode cX9_pullOn 23 = .ok (.istore 7, 2) := by decide +kernel
theorem dX9_pullOn_25 : decode cX9_pullOn 25 = .ok (.iload 7, 2) := by decide +kernel
theorem dX9_pullOn_27 : decode cX9_pullOn 27 = .ok (.aload_n 0, 1) := by decide +kernel
theorem dX9_pullOn_28 : decode cX9_pullOn 28 = .ok (.getfield 7, 3) := by decide +kernel
theorem dX9_pullOn_31 : decode cX9_pullOn 31 = .ok (.iload_n 3, 1) := by decide +kernel
theorem dX9_pullOn_32 : decode cX9_pullOn 32 = .ok (.iaload, 1) := by decide +kernel
theorem dX9_pullOn_33 : decode cX9_pullOn 33 = .ok (.ifCond .le 29, 3) := by decide +kernel
theorem dX9_pullOn_36 : decode cX9_pullOn 36 = .ok (.aload_n 0, 1) := by decide +kernel
theorem dX9_pullOn_37 : decode cX9_pullOn 37 = .ok (.getfield 7, 3) := by decide +kernel
theorem dX9_pullOn_40 : decode cX9_pullOn 40 = .ok (.iload_n 3, 1) := by decide +kernel
theorem dX9_pullOn_41 : decode cX9_pullOn 41 = .ok (.iaload, 1) := by decide +kernel
theorem dX9_pullOn_42 : decode cX9_pullOn 42 = .ok (.bipush 10, 2) := by decide +kernel
theorem dX9_pullOn_44 : decode cX9_pullOn 44 = .ok (.idiv, 1) := by decide +kernel
theorem dX9_pullOn_45 : decode cX9_pullOn 45 = .ok (.iload 6, 2) := by decide +kernel
theorem dX9_pullOn_47 : decode cX9_pullOn 47 = .ok (.if_icmp .ne 15, 3) := by decide +kernel
theorem dX9_pullOn_50 : decode cX9_pullOn 50 = .ok (.aload_n 0, 1) := by decide +kernel
theorem dX9_pullOn_51 : decode cX9_pullOn 51 = .ok (.getfield 7, 3) := by decide +kernel
theorem dX9_pullOn_54 : decode cX9_pullOn 54 = .ok (.iload_n 3, 1) := by decide +kernel
theorem dX9_pullOn_55 : decode cX9_pullOn 55 = .ok (.iaload, 1) := by decide +kernel
theorem dX9_pullOn_56 : decode cX9_pullOn 56 = .ok (.bipush 10, 2) := by decide +kernel
theorem dX9_pullOn_58 : decode cX9_pullOn 58 = .ok (.irem, 1) := by decide +kernel
theorem dX9_pullOn_59 : decode cX9_pullOn 59 = .ok (.goto 4, 3) := by decide +kernel
theorem dX9_pullOn_62 : decode cX9_pullOn 62 = .ok (.iconst 0, 1) := by decide +kernel
theorem dX9_pullOn_63 : decode cX9_pullOn 63 = .ok (.iadd, 1) := by decide +kernel
theorem dX9_pullOn_64 : decode cX9_pullOn 64 = .ok (.istore 7, 2) := by decide +kernel
theorem dX9_pullOn_66 : decode cX9_pullOn 66 = .ok (.iload 7, 2) := by decide +kernel
theorem dX9_pullOn_68 : decode cX9_pullOn 68 = .ok (.aload_n 0, 1) := by decide +kernel
theorem dX9_pullOn_69 : decode cX9_pullOn 69 = .ok (.getfield 16, 3) := by decide +kernel
theorem dX9_pullOn_72 : decode cX9_pullOn 72 = .ok (.iload_n 3, 1) := by decide +kernel
theorem dX9_pullOn_73 : decode cX9_pullOn 73 = .ok (.iaload, 1) := by decide +kernel
theorem dX9_pullOn_74 : decode cX9_pullOn 74 = .ok (.iload 6, 2) := by decide +kernel
theorem dX9_pullOn_76 : decode cX9_pullOn 76 = .ok (.if_icmp .ne 12, 3) := by decide +kernel
theorem dX9_pullOn_79 : decode cX9_pullOn 79 = .ok (.aload_n 0, 1) := by decide +kernel
theorem dX9_pullOn_80 : decode cX9_pullOn 80 = .ok (.getfield 25, 3) := by decide +kernel
theorem dX9_pullOn_83 : decode cX9_pullOn 83 = .ok (.iconst 0, 1) := by decide +kernel
theorem dX9_pullOn_84 : decode cX9_pullOn 84 = .ok (.iaload, 1) := by decide +kernel
theorem dX9_pullOn_85 : decode cX9_pullOn 85 = .ok (.goto 4, 3) := by decide +kernel
theorem dX9_pullOn_88 : decode cX9_pullOn 88 = .ok (.iconst 0, 1) := by decide +kernel
theorem dX9_pullOn_89 : decode cX9_pullOn 89 = .ok (.iadd, 1) := by decide +kernel
theorem dX9_pullOn_90 : decode cX9_pullOn 90 = .ok (.istore 7, 2) := by decide +kernel
theorem dX9_pullOn_92 : decode cX9_pullOn 92 = .ok (.iload 7, 2) := by decide +kernel
theorem dX9_pullOn_94 : decode cX9_pullOn 94 = .ok (.aload_n 0, 1) := by decide +kernel
theorem dX9_pullOn_95 : decode cX9_pullOn 95 = .ok (.getfield 19, 3) := by decide +kernel
theorem dX9_pullOn_98 : decode cX9_pullOn 98 = .ok (.iload_n 3, 1) := by decide +kernel
theorem dX9_pullOn_99 : decode cX9_pullOn 99 = .ok (.iaload, 1) := by decide +kernel
theorem dX9_pullOn_100 : decode cX9_pullOn 100 = .ok (.iload 6, 2) := by decide +kernel
theorem dX9_pullOn_102 : decode cX9_pullOn 102 = .ok (.if_icmp .ne 17, 3) := by decide +kernel
theorem dX9_pullOn_105 : decode cX9_pullOn 105 = .ok (.iload_n 1, 1) := by decide +kernel
theorem dX9_pullOn_106 : decode cX9_pullOn 106 = .ok (.iconst 2, 1) := by decide +kernel
theorem dX9_pullOn_107 : decode cX9_pullOn 107 = .ok (.if_icmp .eq 12, 3) := by decide +kernel
theorem dX9_pullOn_110 : decode cX9_pullOn 110 = .ok (.aload_n 0, 1) := by decide +kernel
theorem dX9_pullOn_111 : decode cX9_pullOn 111 = .ok (.getfield 25, 3) := by decide +kernel
theorem dX9_pullOn_114 : decode cX9_pullOn 114 = .ok (.iconst 1, 1) := by decide +kernel
theorem dX9_pullOn_115 : decode cX9_pullOn 115 = .ok (.iaload, 1) := by decide +kernel
theorem dX9_pullOn_116 : decode cX9_pullOn 116 = .ok (.goto 4, 3) := by decide +kernel
theorem dX9_pullOn_119 : decode cX9_pullOn 119 = .ok (.iconst 0, 1) := by decide +kernel
theorem dX9_pullOn_120 : decode cX9_pullOn 120 = .ok (.iadd, 1) := by decide +kernel
theorem dX9_pullOn_121 : decode cX9_pullOn 121 = .ok (.istore 7, 2) := by decide +kernel
theorem dX9_pullOn_123 : decode cX9_pullOn 123 = .ok (.iload 7, 2) := by decide +kernel
theorem dX9_pullOn_125 : decode cX9_pullOn 125 = .ok (.iload_n 1, 1) := by decide +kernel
theorem dX9_pullOn_126 : decode cX9_pullOn 126 = .ok (.iconst 1, 1) := by decide +kernel
theorem dX9_pullOn_127 : decode cX9_pullOn 127 = .ok (.if_icmp .ne 24, 3) := by decide +kernel
theorem dX9_pullOn_130 : decode cX9_pullOn 130 = .ok (.iload 6, 2) := by decide +kernel
theorem dX9_pullOn_132 : decode cX9_pullOn 132 = .ok (.iconst 2, 1) := by decide +kernel
theorem dX9_pullOn_133 : decode cX9_pullOn 133 = .ok (.if_icmp .ge 18, 3) := by decide +kernel
theorem dX9_pullOn_136 : decode cX9_pullOn 136 = .ok (.aload_n 0, 1) := by decide +kernel
theorem dX9_pullOn_137 : decode cX9_pullOn 137 = .ok (.getfield 16, 3) := by decide +kernel
theorem dX9_pullOn_140 : decode cX9_pullOn 140 = .ok (.iload_n 3, 1) := by decide +kernel
theorem dX9_pullOn_141 : decode cX9_pullOn 141 = .ok (.iaload, 1) := by decide +kernel
theorem dX9_pullOn_142 : decode cX9_pullOn 142 = .ok (.iload 6, 2) := by decide +kernel
theorem dX9_pullOn_144 : decode cX9_pullOn 144 = .ok (.if_icmp .eq 7, 3) := by decide +kernel
theorem dX9_pullOn_147 : decode cX9_pullOn 147 = .ok (.iload_n 2, 1) := by decide +kernel
theorem dX9_pullOn_148 : decode cX9_pullOn 148 = .ok (.goto 4, 3) := by decide +kernel
theorem dX9_pullOn_151 : decode cX9_pullOn 151 = .ok (.iconst 0, 1) := by decide +kernel
theorem dX9_pullOn_152 : decode cX9_pullOn 152 = .ok (.iadd, 1) := by decide +kernel
theorem dX9_pullOn_153 : decode cX9_pullOn 153 = .ok (.istore 7, 2) := by decide +kernel
theorem dX9_pullOn_155 : decode cX9_pullOn 155 = .ok (.iload 7, 2) := by decide +kernel
theorem dX9_pullOn_157 : decode cX9_pullOn 157 = .ok (.aload_n 0, 1) := by decide +kernel
theorem dX9_pullOn_158 : decode cX9_pullOn 158 = .ok (.getfield 13, 3) := by decide +kernel
theorem dX9_pullOn_161 : decode cX9_pullOn 161 = .ok (.iload_n 3, 1) := by decide +kernel
theorem dX9_pullOn_162 : decode cX9_pullOn 162 = .ok (.iaload, 1) := by decide +kernel
theorem dX9_pullOn_163 : decode cX9_pullOn 163 = .ok (.ifCond .le 31, 3) := by decide +kernel
theorem dX9_pullOn_166 : decode cX9_pullOn 166 = .ok (.aload_n 0, 1) := by decide +kernel
theorem dX9_pullOn_167 : decode cX9_pullOn 167 = .ok (.getfield 13, 3) := by decide +kernel
theorem dX9_pullOn_170 : decode cX9_pullOn 170 = .ok (.iload_n 3, 1) := by decide +kernel
theorem dX9_pullOn_171 : decode cX9_pullOn 171 = .ok (.iaload, 1) := by decide +kernel
theorem dX9_pullOn_172 : decode cX9_pullOn 172 = .ok (.bipush 10, 2) := by decide +kernel
theorem dX9_pullOn_174 : decode cX9_pullOn 174 = .ok (.idiv, 1) := by decide +kernel
theorem dX9_pullOn_175 : decode cX9_pullOn 175 = .ok (.iload 4, 2) := by decide +kernel
theorem dX9_pullOn_177 : decode cX9_pullOn 177 = .ok (.if_icmp .ne 17, 3) := by decide +kernel
theorem dX9_pullOn_180 : decode cX9_pullOn 180 = .ok (.aload_n 0, 1) := by decide +kernel
theorem dX9_pullOn_181 : decode cX9_pullOn 181 = .ok (.getfield 25, 3) := by decide +kernel
theorem dX9_pullOn_184 : decode cX9_pullOn 184 = .ok (.iconst 3, 1) := by decide +kernel
theorem dX9_pullOn_185 : decode cX9_pullOn 185 = .ok (.iaload, 1) := by decide +kernel
theorem dX9_pullOn_186 : decode cX9_pullOn 186 = .ok (.iload 5, 2) := by decide +kernel
theorem dX9_pullOn_188 : decode cX9_pullOn 188 = .ok (.iconst 1, 1) := by decide +kernel
theorem dX9_pullOn_189 : decode cX9_pullOn 189 = .ok (.isub, 1) := by decide +kernel
theorem dX9_pullOn_190 : decode cX9_pullOn 190 = .ok (.imul, 1) := by decide +kernel
theorem dX9_pullOn_191 : decode cX9_pullOn 191 = .ok (.goto 4, 3) := by decide +kernel
theorem dX9_pullOn_194 : decode cX9_pullOn 194 = .ok (.iconst 0, 1) := by decide +kernel
theorem dX9_pullOn_195 : decode cX9_pullOn 195 = .ok (.iadd, 1) := by decide +kernel
theorem dX9_pullOn_196 : decode cX9_pullOn 196 = .ok (.istore 7, 2) := by decide +kernel
theorem dX9_pullOn_198 : decode cX9_pullOn 198 = .ok (.iload 7, 2) := by decide +kernel
theorem dX9_pullOn_200 : decode cX9_pullOn 200 = .ok (.ireturn, 1) := by decide +kernel
theorem dX9_pull_0 : decode cX9_pull 0 = .ok (.aload_n 0, 1) := by decide +kernel
theorem dX9_pull_1 : decode cX9_pull 1 = .ok (.iload_n 1, 1) := by decide +kernel
theorem dX9_pull_2 : decode cX9_pull 2 = .ok (.invokevirtual 105, 3) := by decide +kernel
theorem dX9_pull_5 : decode cX9_pull 5 = .ok (.ifCond .eq 30, 3) := by decide +kernel
theorem dX9_pull_8 : decode cX9_pull 8 = .ok (.iload_n 2, 1) := by decide +kernel
theorem dX9_pull_9 : decode cX9_pull 9 = .ok (.invokestatic 79, 3) := by decide +kernel
theorem dX9_pull_12 : decode cX9_pull 12 = .ok (.ifCond .eq 23, 3) := by decide +kernel
theorem dX9_pull_15 : decode cX9_pull 15 = .ok (.iload_n 3, 1) := by decide +kernel
theorem dX9_pull_16 : decode cX9_pull 16 = .ok (.invokestatic 83, 3) := by decide +kernel
theorem dX9_pull_19 : decode cX9_pull 19 = .ok (.ifCond .eq 16, 3) := by decide +kernel
theorem dX9_pull_22 : decode cX9_pull 22 = .ok (.iload 4, 2) := by decide +kernel
theorem dX9_pull_24 : decode cX9_pull 24 = .ok (.i2l, 1) := by decide +kernel
theorem dX9_pull_25 : decode cX9_pull 25 = .ok (.lconst 1, 1) := by decide +kernel
theorem dX9_pull_26 : decode cX9_pull 26 = .ok (.ldc2_w 86, 3) := by decide +kernel
theorem dX9_pull_29 : decode cX9_pull 29 = .ok (.invokestatic 70, 3) := by decide +kernel
theorem dX9_pull_32 : decode cX9_pull 32 = .ok (.ifCond .ne 5, 3) := by decide +kernel
theorem dX9_pull_35 : decode cX9_pull 35 = .ok (.iconst (-1), 1) := by decide +kernel
theorem dX9_pull_36 : decode cX9_pull 36 = .ok (.ireturn, 1) := by decide +kernel
theorem dX9_pull_37 : decode cX9_pull 37 = .ok (.aload_n 0, 1) := by decide +kernel
theorem dX9_pull_38 : decode cX9_pull 38 = .ok (.aload_n 0, 1) := by decide +kernel
theorem dX9_pull_39 : decode cX9_pull 39 = .ok (.getfield 28, 3) := by decide +kernel
theorem dX9_pull_42 : decode cX9_pull 42 = .ok (.iconst 3, 1) := by decide +kernel
theorem dX9_pull_43 : decode cX9_pull 43 = .ok (.iload_n 1, 1) := by decide +kernel
theorem dX9_pull_44 : decode cX9_pull 44 = .ok (.imul, 1) := by decide +kernel
theorem dX9_pull_45 : decode cX9_pull 45 = .ok (.iconst 1, 1) := by decide +kernel
theorem dX9_pull_46 : decode cX9_pull 46 = .ok (.iadd, 1) := by decide +kernel
theorem dX9_pull_47 : decode cX9_pull 47 = .ok (.iaload, 1) := by decide +kernel
theorem dX9_pull_48 : decode cX9_pull 48 = .ok (.aload_n 0, 1) := by decide +kernel
theorem dX9_pull_49 : decode cX9_pull 49 = .ok (.getfield 28, 3) := by decide +kernel
theorem dX9_pull_52 : decode cX9_pull 52 = .ok (.iconst 3, 1) := by decide +kernel
theorem dX9_pull_53 : decode cX9_pull 53 = .ok (.iload_n 1, 1) := by decide +kernel
theorem dX9_pull_54 : decode cX9_pull 54 = .ok (.imul, 1) := by decide +kernel
theorem dX9_pull_55 : decode cX9_pull 55 = .ok (.iconst 2, 1) := by decide +kernel
theorem dX9_pull_56 : decode cX9_pull 56 = .ok (.iadd, 1) := by decide +kernel
theorem dX9_pull_57 : decode cX9_pull 57 = .ok (.iaload, 1) := by decide +kernel
theorem dX9_pull_58 : decode cX9_pull 58 = .ok (.iload_n 2, 1) := by decide +kernel
theorem dX9_pull_59 : decode cX9_pull 59 = .ok (.iload_n 3, 1) := by decide +kernel
theorem dX9_pull_60 : decode cX9_pull 60 = .ok (.iload 4, 2) := by decide +kernel
theorem dX9_pull_62 : decode cX9_pull 62 = .ok (.invokevirtual 169, 3) := by decide +kernel
theorem dX9_pull_65 : decode cX9_pull 65 = .ok (.ireturn, 1) := by decide +kernel
theorem dX9_heedOf_0 : decode cX9_heedOf 0 = .ok (.bipush 9, 2) := by decide +kernel
theorem dX9_heedOf_2 : decode cX9_heedOf 2 = .ok (.istore_n 3, 1) := by decide +kernel
theorem dX9_heedOf_3 : decode cX9_heedOf 3 = .ok (.iconst 0, 1) := by decide +kernel
theorem dX9_heedOf_4 : decode cX9_heedOf 4 = .ok (.istore 4, 2) := by decide +kernel
theorem dX9_heedOf_6 : decode cX9_heedOf 6 = .ok (.iload 4, 2) := by decide +kernel
theorem dX9_heedOf_8 : decode cX9_heedOf 8 = .ok (.iload_n 2, 1) := by decide +kernel
theorem dX9_heedOf_9 : decode cX9_heedOf 9 = .ok (.if_icmp .gt 88, 3) := by decide +kernel
theorem dX9_heedOf_12 : decode cX9_heedOf 12 = .ok (.iload_n 3, 1) := by decide +kernel
theorem dX9_heedOf_13 : decode cX9_heedOf 13 = .ok (.aload_n 0, 1) := by decide +kernel
theorem dX9_heedOf_14 : decode cX9_heedOf 14 = .ok (.getfield 25, 3) := by decide +kernel
theorem dX9_heedOf_17 : decode cX9_heedOf 17 = .ok (.iconst 2, 1) := by decide +kernel
theorem dX9_heedOf_18 : decode cX9_heedOf 18 = .ok (.iaload, 1) := by decide +kernel
theorem dX9_heedOf_19 : decode cX9_heedOf 19 = .ok (.iadd, 1) := by decide +kernel
theorem dX9_heedOf_20 : decode cX9_heedOf 20 = .ok (.bipush 9, 2) := by decide +kernel
theorem dX9_heedOf_22 : decode cX9_heedOf 22 = .ok (.if_icmp .le 8, 3) := by decide +kernel
theorem dX9_heedOf_25 : decode cX9_heedOf 25 = .ok (.bipush 9, 2) := by decide +kernel
theorem dX9_heedOf_27 : decode cX9_heedOf 27 = .ok (.goto 11, 3) := by decide +kernel
theorem dX9_heedOf_30 : decode cX9_heedOf 30 = .ok (.iload_n 3, 1) := by decide +kernel
theorem dX9_heedOf_31 : decode cX9_heedOf 31 = .ok (.aload_n 0, 1) := by decide +kernel
theorem dX9_heedOf_32 : decode cX9_heedOf 32 = .ok (.getfield 25, 3) := by decide +kernel
theorem dX9_heedOf_35 : decode cX9_heedOf 35 = .ok (.iconst 2, 1) := by decide +kernel
theorem dX9_heedOf_36 : decode cX9_heedOf 36 = .ok (.iaload, 1) := by decide +kernel
theorem dX9_heedOf_37 : decode cX9_heedOf 37 = .ok (.iadd, 1) := by decide +kernel
theorem dX9_heedOf_38 : decode cX9_heedOf 38 = .ok (.istore_n 3, 1) := by decide +kernel
theorem dX9_heedOf_39 : decode cX9_heedOf 39 = .ok (.iload_n 3, 1) := by decide +kernel
theorem dX9_heedOf_40 : decode cX9_heedOf 40 = .ok (.aload_n 0, 1) := by decide +kernel
theorem dX9_heedOf_41 : decode cX9_heedOf 41 = .ok (.getfield 19, 3) := by decide +kernel
theorem dX9_heedOf_44 : decode cX9_heedOf 44 = .ok (.iload 4, 2) := by decide +kernel
theorem dX9_heedOf_46 : decode cX9_heedOf 46 = .ok (.iaload, 1) := by decide +kernel
theorem dX9_heedOf_47 : decode cX9_heedOf 47 = .ok (.ifCond .lt 21, 3) := by decide +kernel
theorem dX9_heedOf_50 : decode cX9_heedOf 50 = .ok (.aload_n 0, 1) := by decide +kernel
theorem dX9_heedOf_51 : decode cX9_heedOf 51 = .ok (.getfield 28, 3) := by decide +kernel
theorem dX9_heedOf_54 : decode cX9_heedOf 54 = .ok (.iconst 3, 1) := by decide +kernel
theorem dX9_heedOf_55 : decode cX9_heedOf 55 = .ok (.iload_n 1, 1) := by decide +kernel
theorem dX9_heedOf_56 : decode cX9_heedOf 56 = .ok (.imul, 1) := by decide +kernel
theorem dX9_heedOf_57 : decode cX9_heedOf 57 = .ok (.iconst 1, 1) := by decide +kernel
theorem dX9_heedOf_58 : decode cX9_heedOf 58 = .ok (.iadd, 1) := by decide +kernel
theorem dX9_heedOf_59 : decode cX9_heedOf 59 = .ok (.iaload, 1) := by decide +kernel
theorem dX9_heedOf_60 : decode cX9_heedOf 60 = .ok (.iconst 2, 1) := by decide +kernel
theorem dX9_heedOf_61 : decode cX9_heedOf 61 = .ok (.if_icmp .eq 7, 3) := by decide +kernel
theorem dX9_heedOf_64 : decode cX9_heedOf 64 = .ok (.iconst 2, 1) := by decide +kernel
theorem dX9_heedOf_65 : decode cX9_heedOf 65 = .ok (.goto 4, 3) := by decide +kernel
theorem dX9_heedOf_68 : decode cX9_heedOf 68 = .ok (.iconst 0, 1) := by decide +kernel
theorem dX9_heedOf_69 : decode cX9_heedOf 69 = .ok (.isub, 1) := by decide +kernel
theorem dX9_heedOf_70 : decode cX9_heedOf 70 = .ok (.istore_n 3, 1) := by decide +kernel
theorem dX9_heedOf_71 : decode cX9_heedOf 71 = .ok (.iload_n 3, 1) := by decide +kernel
theorem dX9_heedOf_72 : decode cX9_heedOf 72 = .ok (.ifCond .lt 13, 3) := by decide +kernel
theorem dX9_heedOf_75 : decode cX9_heedOf 75 = .ok (.aload_n 0, 1) := by decide +kernel
theorem dX9_heedOf_76 : decode cX9_heedOf 76 = .ok (.getfield 22, 3) := by decide +kernel
theorem dX9_heedOf_79 : decode cX9_heedOf 79 = .ok (.iload 4, 2) := by decide +kernel
theorem dX9_heedOf_81 : decode cX9_heedOf 81 = .ok (.iaload, 1) := by decide +kernel
theorem dX9_heedOf_82 : decode cX9_heedOf 82 = .ok (.ifCond .le 7, 3) := by decide +kernel
theorem dX9_heedOf_85 : decode cX9_heedOf 85 = .ok (.iconst 0, 1) := by decide +kernel
theorem dX9_heedOf_86 : decode cX9_heedOf 86 = .ok (.goto 4, 3) := by decide +kernel
theorem dX9_heedOf_89 : decode cX9_heedOf 89 = .ok (.iload_n 3, 1) := by decide +kernel
theorem dX9_heedOf_90 : decode cX9_heedOf 90 = .ok (.istore_n 3, 1) := by decide +kernel
theorem dX9_heedOf_91 : decode cX9_heedOf 91 = .ok (.iinc 4 1, 3) := by decide +kernel
theorem dX9_heedOf_94 : decode cX9_heedOf 94 = .ok (.goto (-88), 3) := by decide +kernel
theorem dX9_heedOf_97 : decode cX9_heedOf 97 = .ok (.iload_n 3, 1) := by decide +kernel
theorem dX9_heedOf_98 : decode cX9_heedOf 98 = .ok (.ireturn, 1) := by decide +kernel
theorem dX9_heed_0 : decode cX9_heed 0 = .ok (.aload_n 0, 1) := by decide +kernel
theorem dX9_heed_1 : decode cX9_heed 1 = .ok (.iload_n 1, 1) := by decide +kernel
theorem dX9_heed_2 : decode cX9_heed 2 = .ok (.invokevirtual 105, 3) := by decide +kernel
theorem dX9_heed_5 : decode cX9_heed 5 = .ok (.ifCond .eq 19, 3) := by decide +kernel
theorem dX9_heed_8 : decode cX9_heed 8 = .ok (.iload_n 2, 1) := by decide +kernel
theorem dX9_heed_9 : decode cX9_heed 9 = .ok (.invokestatic 79, 3) := by decide +kernel
theorem dX9_heed_12 : decode cX9_heed 12 = .ok (.ifCond .eq 12, 3) := by decide +kernel
theorem dX9_heed_15 : decode cX9_heed 15 = .ok (.aload_n 0, 1) := by decide +kernel
theorem dX9_heed_16 : decode cX9_heed 16 = .ok (.iload_n 1, 1) := by decide +kernel
theorem dX9_heed_17 : decode cX9_heed 17 = .ok (.iload_n 2, 1) := by decide +kernel
theorem dX9_heed_18 : decode cX9_heed 18 = .ok (.invokevirtual 108, 3) := by decide +kernel
theorem dX9_heed_21 : decode cX9_heed 21 = .ok (.goto 4, 3) := by decide +kernel
theorem dX9_heed_24 : decode cX9_heed 24 = .ok (.iconst (-1), 1) := by decide +kernel
theorem dX9_heed_25 : decode cX9_heed 25 = .ok (.ireturn, 1) := by decide +kernel
theorem dX9_sight_0 : decode cX9_sight 0 = .ok (.iload_n 1, 1) := by decide +kernel
theorem dX9_sight_1 : decode cX9_sight 1 = .ok (.iconst 4, 1) := by decide +kernel
theorem dX9_sight_2 : decode cX9_sight 2 = .ok (.irem, 1) := by decide +kernel
theorem dX9_sight_3 : decode cX9_sight 3 = .ok (.iload_n 3, 1) := by decide +kernel
theorem dX9_sight_4 : decode cX9_sight 4 = .ok (.isub, 1) := by decide +kernel
theorem dX9_sight_5 : decode cX9_sight 5 = .ok (.istore 4, 2) := by decide +kernel
theorem dX9_sight_7 : decode cX9_sight 7 = .ok (.iload_n 2, 1) := by decide +kernel
theorem dX9_sight_8 : decode cX9_sight 8 = .ok (.iconst 1, 1) := by decide +kernel
theorem dX9_sight_9 : decode cX9_sight 9 = .ok (.if_icmp .ne 9, 3) := by decide +kernel
theorem dX9_sight_12 : decode cX9_sight 12 = .ok (.iload 4, 2) := by decide +kernel
theorem dX9_sight_14 : decode cX9_sight 14 = .ok (.iconst (-1), 1) := by decide +kernel
theorem dX9_sight_15 : decode cX9_sight 15 = .ok (.if_icmp .lt 17, 3) := by decide +kernel
theorem dX9_sight_18 : decode cX9_sight 18 = .ok (.iload_n 2, 1) := by decide +kernel
theorem dX9_sight_19 : decode cX9_sight 19 = .ok (.ifCond .ne 9, 3) := by decide +kernel
theorem dX9_sight_22 : decode cX9_sight 22 = .ok (.iload 4, 2) := by decide +kernel
theorem dX9_sight_24 : decode cX9_sight 24 = .ok (.iconst 1, 1) := by decide +kernel
theorem dX9_sight_25 : decode cX9_sight 25 = .ok (.if_icmp .gt 7, 3) := by decide +kernel
theorem dX9_sight_28 : decode cX9_sight 28 = .ok (.iconst 1, 1) := by decide +kernel
theorem dX9_sight_29 : decode cX9_sight 29 = .ok (.goto 4, 3) := by decide +kernel
theorem dX9_sight_32 : decode cX9_sight 32 = .ok (.iconst 0, 1) := by decide +kernel
theorem dX9_sight_33 : decode cX9_sight 33 = .ok (.ireturn, 1) := by decide +kernel
theorem dX9_can_0 : decode cX9_can 0 = .ok (.iload_n 1, 1) := by decide +kernel
theorem dX9_can_1 : decode cX9_can 1 = .ok (.i2l, 1) := by decide +kernel
theorem dX9_can_2 : decode cX9_can 2 = .ok (.lconst 0, 1) := by decide +kernel
theorem dX9_can_3 : decode cX9_can 3 = .ok (.ldc2_w 96, 3) := by decide +kernel
theorem dX9_can_6 : decode cX9_can 6 = .ok (.invokestatic 70, 3) := by decide +kernel
theorem dX9_can_9 : decode cX9_can 9 = .ok (.ifCond .eq 10, 3) := by decide +kernel
theorem dX9_can_12 : decode cX9_can 12 = .ok (.iload_n 2, 1) := by decide +kernel
theorem dX9_can_13 : decode cX9_can 13 = .ok (.invokestatic 83, 3) := by decide +kernel
theorem dX9_can_16 : decode cX9_can 16 = .ok (.ifCond .ne 5, 3) := by decide +kernel
theorem dX9_can_19 : decode cX9_can 19 = .ok (.iconst (-1), 1) := by decide +kernel
theorem dX9_can_20 : decode cX9_can 20 = .ok (.ireturn, 1) := by decide +kernel
theorem dX9_can_21 : decode cX9_can 21 = .ok (.aload_n 0, 1) := by decide +kernel
theorem dX9_can_22 : decode cX9_can 22 = .ok (.iload_n 1, 1) := by decide +kernel
theorem dX9_can_23 : decode cX9_can 23 = .ok (.iload_n 2, 1) := by decide +kernel
theorem dX9_can_24 : decode cX9_can 24 = .ok (.aload_n 0, 1) := by decide +kernel
theorem dX9_can_25 : decode cX9_can 25 = .ok (.getfield 64, 3) := by decide +kernel
theorem dX9_can_28 : decode cX9_can 28 = .ok (.invokevirtual 173, 3) := by decide +kernel
theorem dX9_can_31 : decode cX9_can 31 = .ok (.ifCond .eq 7, 3) := by decide +kernel
theorem dX9_can_34 : decode cX9_can 34 = .ok (.iconst 1, 1) := by decide +kernel
theorem dX9_can_35 : decode cX9_can 35 = .ok (.goto 4, 3) := by decide +kernel
theorem dX9_can_38 : decode cX9_can 38 = .ok (.iconst 0, 1) := by decide +kernel
theorem dX9_can_39 : decode cX9_can 39 = .ok (.ireturn, 1) := by decide +kernel
theorem dX9_oddsOf_0 : decode cX9_oddsOf 0 = .ok (.aload_n 0, 1) := by decide +kernel
theorem dX9_oddsOf_1 : decode cX9_oddsOf 1 = .ok (.getfield 28, 3) := by decide +kernel
theorem dX9_oddsOf_4 : decode cX9_oddsOf 4 = .ok (.iconst 3, 1) := by decide +kernel
theorem dX9_oddsOf_5 : decode cX9_oddsOf 5 = .ok (.iload_n 1, 1) := by decide +kernel
theorem dX9_oddsOf_6 : decode cX9_oddsOf 6 = .ok (.imul, 1) := by decide +kernel
theorem dX9_oddsOf_7 : decode cX9_oddsOf 7 = .ok (.iaload, 1) := by decide +kernel
theorem dX9_oddsOf_8 : decode cX9_oddsOf 8 = .ok (.istore 4, 2) := by decide +kernel
theorem dX9_oddsOf_10 : decode cX9_oddsOf 10 = .ok (.aload_n 0, 1) := by decide +kernel
theorem dX9_oddsOf_11 : decode cX9_oddsOf 11 = .ok (.getfield 13, 3) := by decide +kernel
theorem dX9_oddsOf_14 : decode cX9_oddsOf 14 = .ok (.iload_n 2, 1) := by decide +kernel
theorem dX9_oddsOf_15 : decode cX9_oddsOf 15 = .ok (.iaload, 1) := by decide +kernel
theorem dX9_oddsOf_16 : decode cX9_oddsOf 16 = .ok (.bipush 10, 2) := by decide +kernel
theorem dX9_oddsOf_18 : decode cX9_oddsOf 18 = .ok (.idiv, 1) := by decide +kernel
theorem dX9_oddsOf_19 : decode cX9_oddsOf 19 = .ok (.istore 5, 2) := by decide +kernel
theorem dX9_oddsOf_21 : decode cX9_oddsOf 21 = .ok (.aload_n 0, 1) := by decide +kernel
theorem dX9_oddsOf_22 : decode cX9_oddsOf 22 = .ok (.getfield 13, 3) := by decide +kernel
theorem dX9_oddsOf_25 : decode cX9_oddsOf 25 = .ok (.iload_n 2, 1) := by decide +kernel
theorem dX9_oddsOf_26 : decode cX9_oddsOf 26 = .ok (.iaload, 1) := by decide +kernel
theorem dX9_oddsOf_27 : decode cX9_oddsOf 27 = .ok (.bipush 10, 2) := by decide +kernel
theorem dX9_oddsOf_29 : decode cX9_oddsOf 29 = .ok (.irem, 1) := by decide +kernel
theorem dX9_oddsOf_30 : decode cX9_oddsOf 30 = .ok (.iload 4, 2) := by decide +kernel
theorem dX9_oddsOf_32 : decode cX9_oddsOf 32 = .ok (.iconst 4, 1) := by decide +kernel
theorem dX9_oddsOf_33 : decode cX9_oddsOf 33 = .ok (.idiv, 1) := by decide +kernel
theorem dX9_oddsOf_34 : decode cX9_oddsOf 34 = .ok (.isub, 1) := by decide +kernel
theorem dX9_oddsOf_35 : decode cX9_oddsOf 35 = .ok (.istore 6, 2) := by decide +kernel
theorem dX9_oddsOf_37 : decode cX9_oddsOf 37 = .ok (.iload 6, 2) := by decide +kernel
theorem dX9_oddsOf_39 : decode cX9_oddsOf 39 = .ok (.iconst 1, 1) := by decide +kernel
theorem dX9_oddsOf_40 : decode cX9_oddsOf 40 = .ok (.if_icmp .ge 7, 3) := by decide +kernel
theorem dX9_oddsOf_43 : decode cX9_oddsOf 43 = .ok (.iconst 1, 1) := by decide +kernel
theorem dX9_oddsOf_44 : decode cX9_oddsOf 44 = .ok (.goto 5, 3) := by decide +kernel
theorem dX9_oddsOf_47 : decode cX9_oddsOf 47 = .ok (.iload 6, 2) := by decide +kernel
theorem dX9_oddsOf_49 : decode cX9_oddsOf 49 = .ok (.istore 6, 2) := by decide +kernel
theorem dX9_oddsOf_51 : decode cX9_oddsOf 51 = .ok (.aload_n 0, 1) := by decide +kernel
theorem dX9_oddsOf_52 : decode cX9_oddsOf 52 = .ok (.iload_n 1, 1) := by decide +kernel
theorem dX9_oddsOf_53 : decode cX9_oddsOf 53 = .ok (.iload_n 2, 1) := by decide +kernel
theorem dX9_oddsOf_54 : decode cX9_oddsOf 54 = .ok (.invokevirtual 108, 3) := by decide +kernel
theorem dX9_oddsOf_57 : decode cX9_oddsOf 57 = .ok (.istore 7, 2) := by decide +kernel
theorem dX9_oddsOf_59 : decode cX9_oddsOf 59 = .ok (.lconst 0, 1) := by decide +kernel
theorem dX9_oddsOf_60 : decode cX9_oddsOf 60 = .ok (.lstore 8, 2) := by decide +kernel
theorem dX9_oddsOf_62 : decode cX9_oddsOf 62 = .ok (.iconst 0, 1) := by decide +kernel
theorem dX9_oddsOf_63 : decode cX9_oddsOf 63 = .ok (.istore 10, 2) := by decide +kernel
theorem dX9_oddsOf_65 : decode cX9_oddsOf 65 = .ok (.iload 10, 2) := by decide +kernel
theorem dX9_oddsOf_67 : decode cX9_oddsOf 67 = .ok (.iconst 4, 1) := by decide +kernel
theorem dX9_oddsOf_68 : decode cX9_oddsOf 68 = .ok (.if_icmp .ge 43, 3) := by decide +kernel
theorem dX9_oddsOf_71 : decode cX9_oddsOf 71 = .ok (.lload 8, 2) := by decide +kernel
theorem dX9_oddsOf_73 : decode cX9_oddsOf 73 = .ok (.aload_n 0, 1) := by decide +kernel
theorem dX9_oddsOf_74 : decode cX9_oddsOf 74 = .ok (.aload_n 0, 1) := by decide +kernel
theorem dX9_oddsOf_75 : decode cX9_oddsOf 75 = .ok (.getfield 28, 3) := by decide +kernel
theorem dX9_oddsOf_78 : decode cX9_oddsOf 78 = .ok (.iconst 3, 1) := by decide +kernel
theorem dX9_oddsOf_79 : decode cX9_oddsOf 79 = .ok (.iload_n 1, 1) := by decide +kernel
theorem dX9_oddsOf_80 : decode cX9_oddsOf 80 = .ok (.imul, 1) := by decide +kernel
theorem dX9_oddsOf_81 : decode cX9_oddsOf 81 = .ok (.iconst 1, 1) := by decide +kernel
theorem dX9_oddsOf_82 : decode cX9_oddsOf 82 = .ok (.iadd, 1) := by decide +kernel
theorem dX9_oddsOf_83 : decode cX9_oddsOf 83 = .ok (.iaload, 1) := by decide +kernel
theorem dX9_oddsOf_84 : decode cX9_oddsOf 84 = .ok (.aload_n 0, 1) := by decide +kernel
theorem dX9_oddsOf_85 : decode cX9_oddsOf 85 = .ok (.getfield 28, 3) := by decide +kernel
theorem dX9_oddsOf_88 : decode cX9_oddsOf 88 = .ok (.iconst 3, 1) := by decide +kernel
theorem dX9_oddsOf_89 : decode cX9_oddsOf 89 = .ok (.iload_n 1, 1) := by decide +kernel
theorem dX9_oddsOf_90 : decode cX9_oddsOf 90 = .ok (.imul, 1) := by decide +kernel
theorem dX9_oddsOf_91 : decode cX9_oddsOf 91 = .ok (.iconst 2, 1) := by decide +kernel
theorem dX9_oddsOf_92 : decode cX9_oddsOf 92 = .ok (.iadd, 1) := by decide +kernel
theorem dX9_oddsOf_93 : decode cX9_oddsOf 93 = .ok (.iaload, 1) := by decide +kernel
theorem dX9_oddsOf_94 : decode cX9_oddsOf 94 = .ok (.iload_n 2, 1) := by decide +kernel
theorem dX9_oddsOf_95 : decode cX9_oddsOf 95 = .ok (.iload 10, 2) := by decide +kernel
theorem dX9_oddsOf_97 : decode cX9_oddsOf 97 = .ok (.iload_n 3, 1) := by decide +kernel
theorem dX9_oddsOf_98 : decode cX9_oddsOf 98 = .ok (.invokevirtual 169, 3) := by decide +kernel
theorem dX9_oddsOf_101 : decode cX9_oddsOf 101 = .ok (.i2l, 1) := by decide +kernel
theorem dX9_oddsOf_102 : decode cX9_oddsOf 102 = .ok (.ladd, 1) := by decide +kernel
theorem dX9_oddsOf_103 : decode cX9_oddsOf 103 = .ok (.lstore 8, 2) := by decide +kernel
theorem dX9_oddsOf_105 : decode cX9_oddsOf 105 = .ok (.iinc 10 1, 3) := by decide +kernel
theorem dX9_oddsOf_108 : decode cX9_oddsOf 108 = .ok (.goto (-43), 3) := by decide +kernel
theorem dX9_oddsOf_111 : decode cX9_oddsOf 111 = .ok (.aload_n 0, 1) := by decide +kernel
theorem dX9_oddsOf_112 : decode cX9_oddsOf 112 = .ok (.aload_n 0, 1) := by decide +kernel
theorem dX9_oddsOf_113 : decode cX9_oddsOf 113 = .ok (.getfield 28, 3) := by decide +kernel
theorem dX9_oddsOf_116 : decode cX9_oddsOf 116 = .ok (.iconst 3, 1) := by decide +kernel
theorem dX9_oddsOf_117 : decode cX9_oddsOf 117 = .ok (.iload_n 1, 1) := by decide +kernel
theorem dX9_oddsOf_118 : decode cX9_oddsOf 118 = .ok (.imul, 1) := by decide +kernel
theorem dX9_oddsOf_119 : decode cX9_oddsOf 119 = .ok (.iconst 1, 1) := by decide +kernel
theorem dX9_oddsOf_120 : decode cX9_oddsOf 120 = .ok (.iadd, 1) := by decide +kernel
theorem dX9_oddsOf_121 : decode cX9_oddsOf 121 = .ok (.iaload, 1) := by decide +kernel
theorem dX9_oddsOf_122 : decode cX9_oddsOf 122 = .ok (.aload_n 0, 1) := by decide +kernel
theorem dX9_oddsOf_123 : decode cX9_oddsOf 123 = .ok (.getfield 28, 3) := by decide +kernel
theorem dX9_oddsOf_126 : decode cX9_oddsOf 126 = .ok (.iconst 3, 1) := by decide +kernel
theorem dX9_oddsOf_127 : decode cX9_oddsOf 127 = .ok (.iload_n 1, 1) := by decide +kernel
theorem dX9_oddsOf_128 : decode cX9_oddsOf 128 = .ok (.imul, 1) := by decide +kernel
theorem dX9_oddsOf_129 : decode cX9_oddsOf 129 = .ok (.iconst 2, 1) := by decide +kernel
theorem dX9_oddsOf_130 : decode cX9_oddsOf 130 = .ok (.iadd, 1) := by decide +kernel
theorem dX9_oddsOf_131 : decode cX9_oddsOf 131 = .ok (.iaload, 1) := by decide +kernel
theorem dX9_oddsOf_132 : decode cX9_oddsOf 132 = .ok (.iload_n 2, 1) := by decide +kernel
theorem dX9_oddsOf_133 : decode cX9_oddsOf 133 = .ok (.iload 5, 2) := by decide +kernel
theorem dX9_oddsOf_135 : decode cX9_oddsOf 135 = .ok (.iload_n 3, 1) := by decide +kernel
theorem dX9_oddsOf_136 : decode cX9_oddsOf 136 = .ok (.invokevirtual 169, 3) := by decide +kernel
theorem dX9_oddsOf_139 : decode cX9_oddsOf 139 = .ok (.i2l, 1) := by decide +kernel
theorem dX9_oddsOf_140 : decode cX9_oddsOf 140 = .ok (.lstore 10, 2) := by decide +kernel
theorem dX9_oddsOf_142 : decode cX9_oddsOf 142 = .ok (.aload_n 0, 1) := by decide +kernel
theorem dX9_oddsOf_143 : decode cX9_oddsOf 143 = .ok (.lload 10, 2) := by decide +kernel
theorem dX9_oddsOf_145 : decode cX9_oddsOf 145 = .ok (.iload 7, 2) := by decide +kernel
theorem dX9_oddsOf_147 : decode cX9_oddsOf 147 = .ok (.i2l, 1) := by decide +kernel
theorem dX9_oddsOf_148 : decode cX9_oddsOf 148 = .ok (.lmul, 1) := by decide +kernel
theorem dX9_oddsOf_149 : decode cX9_oddsOf 149 = .ok (.iload 6, 2) := by decide +kernel
theorem dX9_oddsOf_151 : decode cX9_oddsOf 151 = .ok (.i2l, 1) := by decide +kernel
theorem dX9_oddsOf_152 : decode cX9_oddsOf 152 = .ok (.lmul, 1) := by decide +kernel
theorem dX9_oddsOf_153 : decode cX9_oddsOf 153 = .ok (.iload 6, 2) := by decide +kernel
theorem dX9_oddsOf_155 : decode cX9_oddsOf 155 = .ok (.bipush 6, 2) := by decide +kernel
theorem dX9_oddsOf_157 : decode cX9_oddsOf 157 = .ok (.if_icmp .le 22, 3) := by decide +kernel
theorem dX9_oddsOf_160 : decode cX9_oddsOf 160 = .ok (.lload 8, 2) := by decide +kernel
theorem dX9_oddsOf_162 : decode cX9_oddsOf 162 = .ok (.lload 10, 2) := by decide +kernel
theorem dX9_oddsOf_164 : decode cX9_oddsOf 164 = .ok (.lsub, 1) := by decide +kernel
theorem dX9_oddsOf_165 : decode cX9_oddsOf 165 = .ok (.iload 7, 2) := by decide +kernel
theorem dX9_oddsOf_167 : decode cX9_oddsOf 167 = .ok (.i2l, 1) := by decide +kernel
theorem dX9_oddsOf_168 : decode cX9_oddsOf 168 = .ok (.lmul, 1) := by decide +kernel
theorem dX9_oddsOf_169 : decode cX9_oddsOf 169 = .ok (.iload 6, 2) := by decide +kernel
theorem dX9_oddsOf_171 : decode cX9_oddsOf 171 = .ok (.bipush 6, 2) := by decide +kernel
theorem dX9_oddsOf_173 : decode cX9_oddsOf 173 = .ok (.isub, 1) := by decide +kernel
theorem dX9_oddsOf_174 : decode cX9_oddsOf 174 = .ok (.i2l, 1) := by decide +kernel
theorem dX9_oddsOf_175 : decode cX9_oddsOf 175 = .ok (.lmul, 1) := by decide +kernel
theorem dX9_oddsOf_176 : decode cX9_oddsOf 176 = .ok (.goto 4, 3) := by decide +kernel
theorem dX9_oddsOf_179 : decode cX9_oddsOf 179 = .ok (.lconst 0, 1) := by decide +kernel
theorem dX9_oddsOf_180 : decode cX9_oddsOf 180 = .ok (.ladd, 1) := by decide +kernel
theorem dX9_oddsOf_181 : decode cX9_oddsOf 181 = .ok (.putfield 177, 3) := by decide +kernel
theorem dX9_oddsOf_184 : decode cX9_oddsOf 184 = .ok (.aload_n 0, 1) := by decide +kernel
theorem dX9_oddsOf_185 : decode cX9_oddsOf 185 = .ok (.aload_n 0, 1) := by decide +kernel
theorem dX9_oddsOf_186 : decode cX9_oddsOf 186 = .ok (.iload 4, 2) := by decide +kernel
theorem dX9_oddsOf_188 : decode cX9_oddsOf 188 = .ok (.iload 5, 2) := by decide +kernel
theorem dX9_oddsOf_190 : decode cX9_oddsOf 190 = .ok (.aload_n 0, 1) := by decide +kernel
theorem dX9_oddsOf_191 : decode cX9_oddsOf 191 = .ok (.getfield 64, 3) := by decide +kernel
theorem dX9_oddsOf_194 : decode cX9_oddsOf 194 = .ok (.invokevirtual 173, 3) := by decide +kernel
theorem dX9_oddsOf_197 : decode cX9_oddsOf 197 = .ok (.ifCond .eq 10, 3) := by decide +kernel
theorem dX9_oddsOf_200 : decode cX9_oddsOf 200 = .ok (.aload_n 0, 1) := by decide +kernel
theorem dX9_oddsOf_201 : decode cX9_oddsOf 201 = .ok (.getfield 177, 3) := by decide +kernel
theorem dX9_oddsOf_204 : decode cX9_oddsOf 204 = .ok (.goto 4, 3) := by decide +kernel
theorem dX9_oddsOf_207 : decode cX9_oddsOf 207 = .ok (.lconst 0, 1) := by decide +kernel
theorem dX9_oddsOf_208 : decode cX9_oddsOf 208 = .ok (.putfield 177, 3) := by decide +kernel
theorem dX9_oddsOf_211 : decode cX9_oddsOf 211 = .ok (.aload_n 0, 1) := by decide +kernel
theorem dX9_oddsOf_212 : decode cX9_oddsOf 212 = .ok (.ldc2_w 181, 3) := by decide +kernel
theorem dX9_oddsOf_215 : decode cX9_oddsOf 215 = .ok (.lload 8, 2) := by decide +kernel
theorem dX9_oddsOf_217 : decode cX9_oddsOf 217 = .ok (.lmul, 1) := by decide +kernel
theorem dX9_oddsOf_218 : decode cX9_oddsOf 218 = .ok (.putfield 183, 3) := by decide +kernel
theorem dX9_oddsOf_221 : decode cX9_oddsOf 221 = .ok (.return_, 1) := by decide +kernel
theorem dX9_odds_0 : decode cX9_odds 0 = .ok (.aload_n 0, 1) := by decide +kernel
theorem dX9_odds_1 : decode cX9_odds 1 = .ok (.iload_n 1, 1) := by decide +kernel
theorem dX9_odds_2 : decode cX9_odds 2 = .ok (.invokevirtual 105, 3) := by decide +kernel
theorem dX9_odds_5 : decode cX9_odds 5 = .ok (.ifCond .eq 33, 3) := by decide +kernel
theorem dX9_odds_8 : decode cX9_odds 8 = .ok (.iload_n 2, 1) := by decide +kernel
theorem dX9_odds_9 : decode cX9_odds 9 = .ok (.invokestatic 79, 3) := by decide +kernel
theorem dX9_odds_12 : decode cX9_odds 12 = .ok (.ifCond .eq 26, 3) := by decide +kernel
theorem dX9_odds_15 : decode cX9_odds 15 = .ok (.iload_n 3, 1) := by decide +kernel
theorem dX9_odds_16 : decode cX9_odds 16 = .ok (.i2l, 1) := by decide +kernel
theorem dX9_odds_17 : decode cX9_odds 17 = .ok (.lconst 1, 1) := by decide +kernel
theorem dX9_odds_18 : decode cX9_odds 18 = .ok (.ldc2_w 86, 3) := by decide +kernel
theorem dX9_odds_21 : decode cX9_odds 21 = .ok (.invokestatic 70, 3) := by decide +kernel
theorem dX9_odds_24 : decode cX9_odds 24 = .ok (.ifCond .eq 14, 3) := by decide +kernel
theorem dX9_odds_27 : decode cX9_odds 27 = .ok (.iload 4, 2) := by decide +kernel
theorem dX9_odds_29 : decode cX9_odds 29 = .ok (.i2l, 1) := by decide +kernel
theorem dX9_odds_30 : decode cX9_odds 30 = .ok (.lconst 0, 1) := by decide +kernel
theorem dX9_odds_31 : decode cX9_odds 31 = .ok (.lconst 1, 1) := by decide +kernel
theorem dX9_odds_32 : decode cX9_odds 32 = .ok (.invokestatic 70, 3) := by decide +kernel
theorem dX9_odds_35 : decode cX9_odds 35 = .ok (.ifCond .ne 5, 3) := by decide +kernel
theorem dX9_odds_38 : decode cX9_odds 38 = .ok (.iconst (-1), 1) := by decide +kernel
theorem dX9_odds_39 : decode cX9_odds 39 = .ok (.ireturn, 1) := by decide +kernel
theorem dX9_odds_40 : decode cX9_odds 40 = .ok (.aload_n 0, 1) := by decide +kernel
theorem dX9_odds_41 : decode cX9_odds 41 = .ok (.getfield 13, 3) := by decide +kernel
theorem dX9_odds_44 : decode cX9_odds 44 = .ok (.iload_n 2, 1) := by decide +kernel
theorem dX9_odds_45 : decode cX9_odds 45 = .ok (.iaload, 1) := by decide +kernel
theorem dX9_odds_46 : decode cX9_odds 46 = .ok (.ifCond .ne 6, 3) := by decide +kernel
theorem dX9_odds_49 : decode cX9_odds 49 = .ok (.bipush (-2), 2) := by decide +kernel
theorem dX9_odds_51 : decode cX9_odds 51 = .ok (.ireturn, 1) := by decide +kernel
theorem dX9_odds_52 : decode cX9_odds 52 = .ok (.aload_n 0, 1) := by decide +kernel
theorem dX9_odds_53 : decode cX9_odds 53 = .ok (.iload_n 1, 1) := by decide +kernel
theorem dX9_odds_54 : decode cX9_odds 54 = .ok (.iload_n 2, 1) := by decide +kernel
theorem dX9_odds_55 : decode cX9_odds 55 = .ok (.iload_n 3, 1) := by decide +kernel
theorem dX9_odds_56 : decode cX9_odds 56 = .ok (.invokevirtual 186, 3) := by decide +kernel
theorem dX9_odds_59 : decode cX9_odds 59 = .ok (.aload_n 0, 1) := by decide +kernel
theorem dX9_odds_60 : decode cX9_odds 60 = .ok (.getfield 177, 3) := by decide +kernel
theorem dX9_odds_63 : decode cX9_odds 63 = .ok (.lstore 5, 2) := by decide +kernel
theorem dX9_odds_65 : decode cX9_odds 65 = .ok (.aload_n 0, 1) := by decide +kernel
theorem dX9_odds_66 : decode cX9_odds 66 = .ok (.getfield 183, 3) := by decide +kernel
theorem dX9_odds_69 : decode cX9_odds 69 = .ok (.lstore 7, 2) := by decide +kernel
theorem dX9_odds_71 : decode cX9_odds 71 = .ok (.lload 7, 2) := by decide +kernel
theorem dX9_odds_73 : decode cX9_odds 73 = .ok (.lconst 0, 1) := by decide +kernel
theorem dX9_odds_74 : decode cX9_odds 74 = .ok (.lcmp, 1) := by decide +kernel
theorem dX9_odds_75 : decode cX9_odds 75 = .ok (.ifCond .eq 21, 3) := by decide +kernel
theorem dX9_odds_78 : decode cX9_odds 78 = .ok (.lload 5, 2) := by decide +kernel
theorem dX9_odds_80 : decode cX9_odds 80 = .ok (.lload 7, 2) := by decide +kernel
theorem dX9_odds_82 : decode cX9_odds 82 = .ok (.lrem, 1) := by decide +kernel
theorem dX9_odds_83 : decode cX9_odds 83 = .ok (.lstore 9, 2) := by decide +kernel
theorem dX9_odds_85 : decode cX9_odds 85 = .ok (.lload 7, 2) := by decide +kernel
theorem dX9_odds_87 : decode cX9_odds 87 = .ok (.lstore 5, 2) := by decide +kernel
theorem dX9_odds_89 : decode cX9_odds 89 = .ok (.lload 9, 2) := by decide +kernel
theorem dX9_odds_91 : decode cX9_odds 91 = .ok (.lstore 7, 2) := by decide +kernel
theorem dX9_odds_93 : decode cX9_odds 93 = .ok (.goto (-22), 3) := by decide +kernel
theorem dX9_odds_96 : decode cX9_odds 96 = .ok (.iload 4, 2) := by decide +kernel
theorem dX9_odds_98 : decode cX9_odds 98 = .ok (.ifCond .ne 10, 3) := by decide +kernel
theorem dX9_odds_101 : decode cX9_odds 101 = .ok (.aload_n 0, 1) := by decide +kernel
theorem dX9_odds_102 : decode cX9_odds 102 = .ok (.getfield 177, 3) := by decide +kernel
theorem dX9_odds_105 : decode cX9_odds 105 = .ok (.goto 7, 3) := by decide +kernel
theorem dX9_odds_108 : decode cX9_odds 108 = .ok (.aload_n 0, 1) := by decide +kernel
theorem dX9_odds_109 : decode cX9_odds 109 = .ok (.getfield 183, 3) := by decide +kernel
theorem dX9_odds_112 : decode cX9_odds 112 = .ok (.lload 5, 2) := by decide +kernel
theorem dX9_odds_114 : decode cX9_odds 114 = .ok (.ldiv, 1) := by decide +kernel
theorem dX9_odds_115 : decode cX9_odds 115 = .ok (.l2i, 1) := by decide +kernel
theorem dX9_odds_116 : decode cX9_odds 116 = .ok (.ireturn, 1) := by decide +kernel
theorem dX9_seesAt_0 : decode cX9_seesAt 0 = .ok (.iconst 0, 1) := by decide +kernel
theorem dX9_seesAt_1 : decode cX9_seesAt 1 = .ok (.istore_n 3, 1) := by decide +kernel
theorem dX9_seesAt_2 : decode cX9_seesAt 2 = .ok (.iconst 0, 1) := by decide +kernel
theorem dX9_seesAt_3 : decode cX9_seesAt 3 = .ok (.istore 4, 2) := by decide +kernel
theorem dX9_seesAt_5 : decode cX9_seesAt 5 = .ok (.iload 4, 2) := by decide +kernel
theorem dX9_seesAt_7 : decode cX9_seesAt 7 = .ok (.aload_n 0, 1) := by decide +kernel
theorem dX9_seesAt_8 : decode cX9_seesAt 8 = .ok (.getfield 76, 3) := by decide +kernel
theorem dX9_seesAt_11 : decode cX9_seesAt 11 = .ok (.if_icmp .ge 43, 3) := by decide +kernel
theorem dX9_seesAt_14 : decode cX9_seesAt 14 = .ok (.aload_n 0, 1) := by decide +kernel
theorem dX9_seesAt_15 : decode cX9_seesAt 15 = .ok (.getfield 13, 3) := by decide +kernel
theorem dX9_seesAt_18 : decode cX9_seesAt 18 = .ok (.iload_n 1, 1) := by decide +kernel
theorem dX9_seesAt_19 : decode cX9_seesAt 19 = .ok (.iaload, 1) := by decide +kernel
theorem dX9_seesAt_20 : decode cX9_seesAt 20 = .ok (.ifCond .le 34, 3) := by decide +kernel
theorem dX9_seesAt_23 : decode cX9_seesAt 23 = .ok (.aload_n 0, 1) := by decide +kernel
theorem dX9_seesAt_24 : decode cX9_seesAt 24 = .ok (.iload 4, 2) := by decide +kernel
theorem dX9_seesAt_26 : decode cX9_seesAt 26 = .ok (.iload_n 1, 1) := by decide +kernel
theorem dX9_seesAt_27 : decode cX9_seesAt 27 = .ok (.iload_n 2, 1) := by decide +kernel
theorem dX9_seesAt_28 : decode cX9_seesAt 28 = .ok (.invokevirtual 186, 3) := by decide +kernel
theorem dX9_seesAt_31 : decode cX9_seesAt 31 = .ok (.iload_n 3, 1) := by decide +kernel
theorem dX9_seesAt_32 : decode cX9_seesAt 32 = .ok (.aload_n 0, 1) := by decide +kernel
theorem dX9_seesAt_33 : decode cX9_seesAt 33 = .ok (.getfield 177, 3) := by decide +kernel
theorem dX9_seesAt_36 : decode cX9_seesAt 36 = .ok (.ldc2_w 190, 3) := by decide +kernel
theorem dX9_seesAt_39 : decode cX9_seesAt 39 = .ok (.lmul, 1) := by decide +kernel
theorem dX9_seesAt_40 : decode cX9_seesAt 40 = .ok (.aload_n 0, 1) := by decide +kernel
theorem dX9_seesAt_41 : decode cX9_seesAt 41 = .ok (.getfield 183, 3) := by decide +kernel
theorem dX9_seesAt_44 : decode cX9_seesAt 44 = .ok (.ldiv, 1) := by decide +kernel
theorem dX9_seesAt_45 : decode cX9_seesAt 45 = .ok (.l2i, 1) := by decide +kernel
theorem dX9_seesAt_46 : decode cX9_seesAt 46 = .ok (.iadd, 1) := by decide +kernel
theorem dX9_seesAt_47 : decode cX9_seesAt 47 = .ok (.istore_n 3, 1) := by decide +kernel
theorem dX9_seesAt_48 : decode cX9_seesAt 48 = .ok (.iinc 4 1, 3) := by decide +kernel
theorem dX9_seesAt_51 : decode cX9_seesAt 51 = .ok (.goto (-46), 3) := by decide +kernel
theorem dX9_seesAt_54 : decode cX9_seesAt 54 = .ok (.iload_n 3, 1) := by decide +kernel
theorem dX9_seesAt_55 : decode cX9_seesAt 55 = .ok (.ireturn, 1) := by decide +kernel
theorem dX9_seesAll_0 : decode cX9_seesAll 0 = .ok (.iconst 0, 1) := by decide +kernel
theorem dX9_seesAll_1 : decode cX9_seesAll 1 = .ok (.istore_n 2, 1) := by decide +kernel
theorem dX9_seesAll_2 : decode cX9_seesAll 2 = .ok (.iconst 0, 1) := by decide +kernel
theorem dX9_seesAll_3 : decode cX9_seesAll 3 = .ok (.istore_n 3, 1) := by decide +kernel
theorem dX9_seesAll_4 : decode cX9_seesAll 4 = .ok (.iload_n 3, 1) := by decide +kernel
theorem dX9_seesAll_5 : decode cX9_seesAll 5 = .ok (.bipush 16, 2) := by decide +kernel
theorem dX9_seesAll_7 : decode cX9_seesAll 7 = .ok (.if_icmp .ge 18, 3) := by decide +kernel
theorem dX9_seesAll_10 : decode cX9_seesAll 10 = .ok (.iload_n 2, 1) := by decide +kernel
theorem dX9_seesAll_11 : decode cX9_seesAll 11 = .ok (.aload_n 0, 1) := by decide +kernel
theorem dX9_seesAll_12 : decode cX9_seesAll 12 = .ok (.iload_n 3, 1) := by decide +kernel
theorem dX9_seesAll_13 : decode cX9_seesAll 13 = .ok (.iload_n 1, 1) := by decide +kernel
theorem dX9_seesAll_14 : decode cX9_seesAll 14 = .ok (.invokevirtual 192, 3) := by decide +kernel
theorem dX9_seesAll_17 : decode cX9_seesAll 17 = .ok (.iadd, 1) := by decide +kernel
theorem dX9_seesAll_18 : decode cX9_seesAll 18 = .ok (.istore_n 2, 1) := by decide +kernel
theorem dX9_seesAll_19 : decode cX9_seesAll 19 = .ok (.iinc 3 1, 3) := by decide +kernel
theorem dX9_seesAll_22 : decode cX9_seesAll 22 = .ok (.goto (-18), 3) := by decide +kernel
theorem dX9_seesAll_25 : decode cX9_seesAll 25 = .ok (.iload_n 2, 1) := by decide +kernel
theorem dX9_seesAll_26 : decode cX9_seesAll 26 = .ok (.ireturn, 1) := by decide +kernel
theorem dX9_sees_0 : decode cX9_sees 0 = .ok (.iload_n 1, 1) := by decide +kernel
theorem dX9_sees_1 : decode cX9_sees 1 = .ok (.i2l, 1) := by decide +kernel
theorem dX9_sees_2 : decode cX9_sees 2 = .ok (.ldc2_w 90, 3) := by decide +kernel
theorem dX9_sees_5 : decode cX9_sees 5 = .ok (.ldc2_w 68, 3) := by decide +kernel
theorem dX9_sees_8 : decode cX9_sees 8 = .ok (.invokestatic 70, 3) := by decide +kernel
theorem dX9_sees_11 : decode cX9_sees 11 = .ok (.ifCond .eq 15, 3) := by decide +kernel
theorem dX9_sees_14 : decode cX9_sees 14 = .ok (.iload_n 2, 1) := by decide +kernel
theorem dX9_sees_15 : decode cX9_sees 15 = .ok (.i2l, 1) := by decide +kernel
theorem dX9_sees_16 : decode cX9_sees 16 = .ok (.lconst 1, 1) := by decide +kernel
theorem dX9_sees_17 : decode cX9_sees 17 = .ok (.ldc2_w 86, 3) := by decide +kernel
theorem dX9_sees_20 : decode cX9_sees 20 = .ok (.invokestatic 70, 3) := by decide +kernel
theorem dX9_sees_23 : decode cX9_sees 23 = .ok (.ifCond .ne 5, 3) := by decide +kernel
theorem dX9_sees_26 : decode cX9_sees 26 = .ok (.iconst (-1), 1) := by decide +kernel
theorem dX9_sees_27 : decode cX9_sees 27 = .ok (.ireturn, 1) := by decide +kernel
theorem dX9_sees_28 : decode cX9_sees 28 = .ok (.iload_n 1, 1) := by decide +kernel
theorem dX9_sees_29 : decode cX9_sees 29 = .ok (.ifCond .ge 11, 3) := by decide +kernel
