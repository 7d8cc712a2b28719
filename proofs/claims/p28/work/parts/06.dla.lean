theorem dL_draw_0 : decode cL_draw 0 = .ok (.iload_n 1, 1) := by decide +kernel
theorem dL_draw_1 : decode cL_draw 1 = .ok (.aload_n 0, 1) := by decide +kernel
theorem dL_draw_2 : decode cL_draw 2 = .ok (.arraylength, 1) := by decide +kernel
theorem dL_draw_3 : decode cL_draw 3 = .ok (.if_icmp .ge 9, 3) := by decide +kernel
theorem dL_draw_6 : decode cL_draw 6 = .ok (.aload_n 0, 1) := by decide +kernel
theorem dL_draw_7 : decode cL_draw 7 = .ok (.iload_n 1, 1) := by decide +kernel
theorem dL_draw_8 : decode cL_draw 8 = .ok (.iaload, 1) := by decide +kernel
theorem dL_draw_9 : decode cL_draw 9 = .ok (.goto 13, 3) := by decide +kernel
theorem dL_draw_12 : decode cL_draw 12 = .ok (.ldc 7, 2) := by decide +kernel
theorem dL_draw_14 : decode cL_draw 14 = .ok (.iload_n 1, 1) := by decide +kernel
theorem dL_draw_15 : decode cL_draw 15 = .ok (.bipush 71, 2) := by decide +kernel
theorem dL_draw_17 : decode cL_draw 17 = .ok (.iadd, 1) := by decide +kernel
theorem dL_draw_18 : decode cL_draw 18 = .ok (.imul, 1) := by decide +kernel
theorem dL_draw_19 : decode cL_draw 19 = .ok (.ldc 8, 2) := by decide +kernel
theorem dL_draw_21 : decode cL_draw 21 = .ok (.iadd, 1) := by decide +kernel
theorem dL_draw_22 : decode cL_draw 22 = .ok (.istore_n 3, 1) := by decide +kernel
theorem dL_draw_23 : decode cL_draw 23 = .ok (.iload_n 3, 1) := by decide +kernel
theorem dL_draw_24 : decode cL_draw 24 = .ok (.ldc 9, 2) := by decide +kernel
theorem dL_draw_26 : decode cL_draw 26 = .ok (.iand, 1) := by decide +kernel
theorem dL_draw_27 : decode cL_draw 27 = .ok (.iload_n 2, 1) := by decide +kernel
theorem dL_draw_28 : decode cL_draw 28 = .ok (.irem, 1) := by decide +kernel
theorem dL_draw_29 : decode cL_draw 29 = .ok (.ireturn, 1) := by decide +kernel
theorem dL_acts_0 : decode cL_acts 0 = .ok (.iload_n 1, 1) := by decide +kernel
theorem dL_acts_1 : decode cL_acts 1 = .ok (.ifCond .ne 12, 3) := by decide +kernel
theorem dL_acts_4 : decode cL_acts 4 = .ok (.aload_n 0, 1) := by decide +kernel
theorem dL_acts_5 : decode cL_acts 5 = .ok (.iload_n 2, 1) := by decide +kernel
theorem dL_acts_6 : decode cL_acts 6 = .ok (.iload_n 3, 1) := by decide +kernel
theorem dL_acts_7 : decode cL_acts 7 = .ok (.invokevirtual 10, 3) := by decide +kernel
theorem dL_acts_10 : decode cL_acts 10 = .ok (.goto 61, 3) := by decide +kernel
theorem dL_acts_13 : decode cL_acts 13 = .ok (.iload_n 1, 1) := by decide +kernel
theorem dL_acts_14 : decode cL_acts 14 = .ok (.iconst 1, 1) := by decide +kernel
theorem dL_acts_15 : decode cL_acts 15 = .ok (.if_icmp .ne 11, 3) := by decide +kernel
theorem dL_acts_18 : decode cL_acts 18 = .ok (.aload_n 0, 1) := by decide +kernel
theorem dL_acts_19 : decode cL_acts 19 = .ok (.iload_n 2, 1) := by decide +kernel
theorem dL_acts_20 : decode cL_acts 20 = .ok (.invokevirtual 16, 3) := by decide +kernel
theorem dL_acts_23 : decode cL_acts 23 = .ok (.goto 48, 3) := by decide +kernel
theorem dL_acts_26 : decode cL_acts 26 = .ok (.iload_n 1, 1) := by decide +kernel
theorem dL_acts_27 : decode cL_acts 27 = .ok (.iconst 2, 1) := by decide +kernel
theorem dL_acts_28 : decode cL_acts 28 = .ok (.if_icmp .ne 11, 3) := by decide +kernel
theorem dL_acts_31 : decode cL_acts 31 = .ok (.aload_n 0, 1) := by decide +kernel
theorem dL_acts_32 : decode cL_acts 32 = .ok (.iload_n 2, 1) := by decide +kernel
theorem dL_acts_33 : decode cL_acts 33 = .ok (.invokevirtual 20, 3) := by decide +kernel
theorem dL_acts_36 : decode cL_acts 36 = .ok (.goto 35, 3) := by decide +kernel
theorem dL_acts_39 : decode cL_acts 39 = .ok (.iload_n 1, 1) := by decide +kernel
theorem dL_acts_40 : decode cL_acts 40 = .ok (.iconst 3, 1) := by decide +kernel
theorem dL_acts_41 : decode cL_acts 41 = .ok (.if_icmp .ne 11, 3) := by decide +kernel
theorem dL_acts_44 : decode cL_acts 44 = .ok (.aload_n 0, 1) := by decide +kernel
theorem dL_acts_45 : decode cL_acts 45 = .ok (.iload_n 2, 1) := by decide +kernel
theorem dL_acts_46 : decode cL_acts 46 = .ok (.invokevirtual 23, 3) := by decide +kernel
theorem dL_acts_49 : decode cL_acts 49 = .ok (.goto 22, 3) := by decide +kernel
theorem dL_acts_52 : decode cL_acts 52 = .ok (.iload_n 1, 1) := by decide +kernel
theorem dL_acts_53 : decode cL_acts 53 = .ok (.iconst 4, 1) := by decide +kernel
theorem dL_acts_54 : decode cL_acts 54 = .ok (.if_icmp .ne 11, 3) := by decide +kernel
theorem dL_acts_57 : decode cL_acts 57 = .ok (.aload_n 0, 1) := by decide +kernel
theorem dL_acts_58 : decode cL_acts 58 = .ok (.iload_n 2, 1) := by decide +kernel
theorem dL_acts_59 : decode cL_acts 59 = .ok (.invokevirtual 26, 3) := by decide +kernel
theorem dL_acts_62 : decode cL_acts 62 = .ok (.goto 9, 3) := by decide +kernel
theorem dL_acts_65 : decode cL_acts 65 = .ok (.aload_n 0, 1) := by decide +kernel
theorem dL_acts_66 : decode cL_acts 66 = .ok (.iload_n 2, 1) := by decide +kernel
theorem dL_acts_67 : decode cL_acts 67 = .ok (.iload_n 3, 1) := by decide +kernel
theorem dL_acts_68 : decode cL_acts 68 = .ok (.invokevirtual 29, 3) := by decide +kernel
theorem dL_acts_71 : decode cL_acts 71 = .ok (.ireturn, 1) := by decide +kernel
theorem dL_acts_72 : decode cL_acts 72 = .ok (.astore 4, 2) := by decide +kernel
theorem dL_acts_74 : decode cL_acts 74 = .ok (.sipush (-5001), 3) := by decide +kernel
theorem dL_acts_77 : decode cL_acts 77 = .ok (.ireturn, 1) := by decide +kernel
theorem dL_acts_78 : decode cL_acts 78 = .ok (.astore 4, 2) := by decide +kernel
theorem dL_acts_80 : decode cL_acts 80 = .ok (.sipush (-5002), 3) := by decide +kernel
theorem dL_acts_83 : decode cL_acts 83 = .ok (.ireturn, 1) := by decide +kernel
theorem dL_isSet_0 : decode cL_isSet 0 = .ok (.iconst 0, 1) := by decide +kernel
theorem dL_isSet_1 : decode cL_isSet 1 = .ok (.istore 5, 2) := by decide +kernel
theorem dL_isSet_3 : decode cL_isSet 3 = .ok (.iconst 1, 1) := by decide +kernel
theorem dL_isSet_4 : decode cL_isSet 4 = .ok (.istore 6, 2) := by decide +kernel
theorem dL_isSet_6 : decode cL_isSet 6 = .ok (.iconst 0, 1) := by decide +kernel
theorem dL_isSet_7 : decode cL_isSet 7 = .ok (.istore 7, 2) := by decide +kernel
theorem dL_isSet_9 : decode cL_isSet 9 = .ok (.iload 7, 2) := by decide +kernel
theorem dL_isSet_11 : decode cL_isSet 11 = .ok (.aload_n 3, 1) := by decide +kernel
theorem dL_isSet_12 : decode cL_isSet 12 = .ok (.iconst 1, 1) := by decide +kernel
theorem dL_isSet_13 : decode cL_isSet 13 = .ok (.iaload, 1) := by decide +kernel
theorem dL_isSet_14 : decode cL_isSet 14 = .ok (.if_icmp .ge 287, 3) := by decide +kernel
theorem dL_isSet_17 : decode cL_isSet 17 = .ok (.iload 6, 2) := by decide +kernel
theorem dL_isSet_19 : decode cL_isSet 19 = .ok (.ifCond .eq 282, 3) := by decide +kernel
theorem dL_isSet_22 : decode cL_isSet 22 = .ok (.aload_n 2, 1) := by decide +kernel
theorem dL_isSet_23 : decode cL_isSet 23 = .ok (.iload 7, 2) := by decide +kernel
theorem dL_isSet_25 : decode cL_isSet 25 = .ok (.iaload, 1) := by decide +kernel
theorem dL_isSet_26 : decode cL_isSet 26 = .ok (.ifCond .ne 6, 3) := by decide +kernel
theorem dL_isSet_29 : decode cL_isSet 29 = .ok (.goto 266, 3) := by decide +kernel
theorem dL_isSet_32 : decode cL_isSet 32 = .ok (.aload_n 0, 1) := by decide +kernel
theorem dL_isSet_33 : decode cL_isSet 33 = .ok (.iload 7, 2) := by decide +kernel
theorem dL_isSet_35 : decode cL_isSet 35 = .ok (.iload 4, 2) := by decide +kernel
theorem dL_isSet_37 : decode cL_isSet 37 = .ok (.invokevirtual 36, 3) := by decide +kernel
theorem dL_isSet_40 : decode cL_isSet 40 = .ok (.istore 8, 2) := by decide +kernel
theorem dL_isSet_42 : decode cL_isSet 42 = .ok (.aload_n 0, 1) := by decide +kernel
theorem dL_isSet_43 : decode cL_isSet 43 = .ok (.iload 7, 2) := by decide +kernel
theorem dL_isSet_45 : decode cL_isSet 45 = .ok (.iload 4, 2) := by decide +kernel
theorem dL_isSet_47 : decode cL_isSet 47 = .ok (.invokevirtual 39, 3) := by decide +kernel
theorem dL_isSet_50 : decode cL_isSet 50 = .ok (.istore 9, 2) := by decide +kernel
theorem dL_isSet_52 : decode cL_isSet 52 = .ok (.aload_n 0, 1) := by decide +kernel
theorem dL_isSet_53 : decode cL_isSet 53 = .ok (.iload 7, 2) := by decide +kernel
theorem dL_isSet_55 : decode cL_isSet 55 = .ok (.iload 4, 2) := by decide +kernel
theorem dL_isSet_57 : decode cL_isSet 57 = .ok (.invokevirtual 42, 3) := by decide +kernel
theorem dL_isSet_60 : decode cL_isSet 60 = .ok (.iload 9, 2) := by decide +kernel
theorem dL_isSet_62 : decode cL_isSet 62 = .ok (.if_icmp .ne 101, 3) := by decide +kernel
theorem dL_isSet_65 : decode cL_isSet 65 = .ok (.iload 9, 2) := by decide +kernel
theorem dL_isSet_67 : decode cL_isSet 67 = .ok (.ifCond .ge 7, 3) := by decide +kernel
theorem dL_isSet_70 : decode cL_isSet 70 = .ok (.iconst 1, 1) := by decide +kernel
theorem dL_isSet_71 : decode cL_isSet 71 = .ok (.goto 4, 3) := by decide +kernel
theorem dL_isSet_74 : decode cL_isSet 74 = .ok (.iconst 0, 1) := by decide +kernel
theorem dL_isSet_75 : decode cL_isSet 75 = .ok (.aload_n 2, 1) := by decide +kernel
theorem dL_isSet_76 : decode cL_isSet 76 = .ok (.iload 7, 2) := by decide +kernel
theorem dL_isSet_78 : decode cL_isSet 78 = .ok (.iaload, 1) := by decide +kernel
theorem dL_isSet_79 : decode cL_isSet 79 = .ok (.bipush 7, 2) := by decide +kernel
theorem dL_isSet_81 : decode cL_isSet 81 = .ok (.iand, 1) := by decide +kernel
theorem dL_isSet_82 : decode cL_isSet 82 = .ok (.iconst 1, 1) := by decide +kernel
theorem dL_isSet_83 : decode cL_isSet 83 = .ok (.isub, 1) := by decide +kernel
theorem dL_isSet_84 : decode cL_isSet 84 = .ok (.aload_n 1, 1) := by decide +kernel
theorem dL_isSet_85 : decode cL_isSet 85 = .ok (.iconst 5, 1) := by decide +kernel
theorem dL_isSet_86 : decode cL_isSet 86 = .ok (.iload 4, 2) := by decide +kernel
theorem dL_isSet_88 : decode cL_isSet 88 = .ok (.imul, 1) := by decide +kernel
theorem dL_isSet_89 : decode cL_isSet 89 = .ok (.iaload, 1) := by decide +kernel
theorem dL_isSet_90 : decode cL_isSet 90 = .ok (.if_icmp .eq 7, 3) := by decide +kernel
theorem dL_isSet_93 : decode cL_isSet 93 = .ok (.iconst 1, 1) := by decide +kernel
theorem dL_isSet_94 : decode cL_isSet 94 = .ok (.goto 4, 3) := by decide +kernel
theorem dL_isSet_97 : decode cL_isSet 97 = .ok (.iconst 0, 1) := by decide +kernel
theorem dL_isSet_98 : decode cL_isSet 98 = .ok (.if_icmp .ne 65, 3) := by decide +kernel
theorem dL_isSet_101 : decode cL_isSet 101 = .ok (.iload 8, 2) := by decide +kernel
theorem dL_isSet_103 : decode cL_isSet 103 = .ok (.ifCond .lt 56, 3) := by decide +kernel
theorem dL_isSet_106 : decode cL_isSet 106 = .ok (.iload 8, 2) := by decide +kernel
theorem dL_isSet_108 : decode cL_isSet 108 = .ok (.aload_n 3, 1) := by decide +kernel
theorem dL_isSet_109 : decode cL_isSet 109 = .ok (.iconst 1, 1) := by decide +kernel
theorem dL_isSet_110 : decode cL_isSet 110 = .ok (.iaload, 1) := by decide +kernel
theorem dL_isSet_111 : decode cL_isSet 111 = .ok (.if_icmp .ge 52, 3) := by decide +kernel
theorem dL_isSet_114 : decode cL_isSet 114 = .ok (.aload_n 2, 1) := by decide +kernel
theorem dL_isSet_115 : decode cL_isSet 115 = .ok (.iload 8, 2) := by decide +kernel
theorem dL_isSet_117 : decode cL_isSet 117 = .ok (.iaload, 1) := by decide +kernel
theorem dL_isSet_118 : decode cL_isSet 118 = .ok (.ifCond .eq 45, 3) := by decide +kernel
theorem dL_isSet_121 : decode cL_isSet 121 = .ok (.aload_n 2, 1) := by decide +kernel
theorem dL_isSet_122 : decode cL_isSet 122 = .ok (.iload 8, 2) := by decide +kernel
theorem dL_isSet_124 : decode cL_isSet 124 = .ok (.iaload, 1) := by decide +kernel
theorem dL_isSet_125 : decode cL_isSet 125 = .ok (.bipush 7, 2) := by decide +kernel
theorem dL_isSet_127 : decode cL_isSet 127 = .ok (.iand, 1) := by decide +kernel
theorem dL_isSet_128 : decode cL_isSet 128 = .ok (.iconst 1, 1) := by decide +kernel
theorem dL_isSet_129 : decode cL_isSet 129 = .ok (.isub, 1) := by decide +kernel
theorem dL_isSet_130 : decode cL_isSet 130 = .ok (.aload_n 1, 1) := by decide +kernel
theorem dL_isSet_131 : decode cL_isSet 131 = .ok (.iconst 5, 1) := by decide +kernel
theorem dL_isSet_132 : decode cL_isSet 132 = .ok (.iload 4, 2) := by decide +kernel
theorem dL_isSet_134 : decode cL_isSet 134 = .ok (.imul, 1) := by decide +kernel
theorem dL_isSet_135 : decode cL_isSet 135 = .ok (.iaload, 1) := by decide +kernel
theorem dL_isSet_136 : decode cL_isSet 136 = .ok (.if_icmp .ne 27, 3) := by decide +kernel
theorem dL_isSet_139 : decode cL_isSet 139 = .ok (.aload_n 2, 1) := by decide +kernel
theorem dL_isSet_140 : decode cL_isSet 140 = .ok (.iload 7, 2) := by decide +kernel
theorem dL_isSet_142 : decode cL_isSet 142 = .ok (.iaload, 1) := by decide +kernel
theorem dL_isSet_143 : decode cL_isSet 143 = .ok (.bipush 7, 2) := by decide +kernel
theorem dL_isSet_145 : decode cL_isSet 145 = .ok (.iand, 1) := by decide +kernel
theorem dL_isSet_146 : decode cL_isSet 146 = .ok (.iconst 1, 1) := by decide +kernel
theorem dL_isSet_147 : decode cL_isSet 147 = .ok (.isub, 1) := by decide +kernel
theorem dL_isSet_148 : decode cL_isSet 148 = .ok (.aload_n 1, 1) := by decide +kernel
theorem dL_isSet_149 : decode cL_isSet 149 = .ok (.iconst 5, 1) := by decide +kernel
theorem dL_isSet_150 : decode cL_isSet 150 = .ok (.iload 4, 2) := by decide +kernel
theorem dL_isSet_152 : decode cL_isSet 152 = .ok (.imul, 1) := by decide +kernel
theorem dL_isSet_153 : decode cL_isSet 153 = .ok (.iconst 1, 1) := by decide +kernel
theorem dL_isSet_154 : decode cL_isSet 154 = .ok (.iadd, 1) := by decide +kernel
theorem dL_isSet_155 : decode cL_isSet 155 = .ok (.iaload, 1) := by decide +kernel
theorem dL_isSet_156 : decode cL_isSet 156 = .ok (.if_icmp .ne 7, 3) := by decide +kernel
theorem dL_isSet_159 : decode cL_isSet 159 = .ok (.iconst 1, 1) := by decide +kernel
theorem dL_isSet_160 : decode cL_isSet 160 = .ok (.goto 4, 3) := by decide +kernel
theorem dL_isSet_163 : decode cL_isSet 163 = .ok (.iconst 0, 1) := by decide +kernel
theorem dL_isSet_164 : decode cL_isSet 164 = .ok (.istore 6, 2) := by decide +kernel
theorem dL_isSet_166 : decode cL_isSet 166 = .ok (.lconst 0, 1) := by decide +kernel
theorem dL_isSet_167 : decode cL_isSet 167 = .ok (.lstore 10, 2) := by decide +kernel
theorem dL_isSet_169 : decode cL_isSet 169 = .ok (.sipush (-2000), 3) := by decide +kernel
theorem dL_isSet_172 : decode cL_isSet 172 = .ok (.istore 12, 2) := by decide +kernel
theorem dL_isSet_174 : decode cL_isSet 174 = .ok (.iconst 0, 1) := by decide +kernel
theorem dL_isSet_175 : decode cL_isSet 175 = .ok (.istore 13, 2) := by decide +kernel
theorem dL_isSet_177 : decode cL_isSet 177 = .ok (.iload 13, 2) := by decide +kernel
theorem dL_isSet_179 : decode cL_isSet 179 = .ok (.iload 9, 2) := by decide +kernel
theorem dL_isSet_181 : decode cL_isSet 181 = .ok (.if_icmp .ge 98, 3) := by decide +kernel
theorem dL_isSet_184 : decode cL_isSet 184 = .ok (.iload 6, 2) := by decide +kernel
theorem dL_isSet_186 : decode cL_isSet 186 = .ok (.ifCond .eq 93, 3) := by decide +kernel
theorem dL_isSet_189 : decode cL_isSet 189 = .ok (.aload_n 0, 1) := by decide +kernel
theorem dL_isSet_190 : decode cL_isSet 190 = .ok (.iload 7, 2) := by decide +kernel
theorem dL_isSet_192 : decode cL_isSet 192 = .ok (.iload 4, 2) := by decide +kernel
theorem dL_isSet_194 : decode cL_isSet 194 = .ok (.iload 13, 2) := by decide +kernel
theorem dL_isSet_196 : decode cL_isSet 196 = .ok (.invokevirtual 45, 3) := by decide +kernel
theorem dL_isSet_199 : decode cL_isSet 199 = .ok (.istore 14, 2) := by decide +kernel
theorem dL_isSet_201 : decode cL_isSet 201 = .ok (.aload_n 0, 1) := by decide +kernel
theorem dL_isSet_202 : decode cL_isSet 202 = .ok (.iload 14, 2) := by decide +kernel
theorem dL_isSet_204 : decode cL_isSet 204 = .ok (.iload 4, 2) := by decide +kernel
theorem dL_isSet_206 : decode cL_isSet 206 = .ok (.invokevirtual 36, 3) := by decide +kernel
theorem dL_isSet_209 : decode cL_isSet 209 = .ok (.iload 7, 2) := by decide +kernel
theorem dL_isSet_211 : decode cL_isSet 211 = .ok (.if_icmp .ne 42, 3) := by decide +kernel
theorem dL_isSet_214 : decode cL_isSet 214 = .ok (.lload 10, 2) := by decide +kernel
theorem dL_isSet_216 : decode cL_isSet 216 = .ok (.iload 14, 2) := by decide +kernel
theorem dL_isSet_218 : decode cL_isSet 218 = .ok (.lshr, 1) := by decide +kernel
theorem dL_isSet_219 : decode cL_isSet 219 = .ok (.lconst 1, 1) := by decide +kernel
theorem dL_isSet_220 : decode cL_isSet 220 = .ok (.land, 1) := by decide +kernel
theorem dL_isSet_221 : decode cL_isSet 221 = .ok (.lconst 0, 1) := by decide +kernel
theorem dL_isSet_222 : decode cL_isSet 222 = .ok (.lcmp, 1) := by decide +kernel
theorem dL_isSet_223 : decode cL_isSet 223 = .ok (.ifCond .ne 30, 3) := by decide +kernel
theorem dL_isSet_226 : decode cL_isSet 226 = .ok (.aload_n 1, 1) := by decide +kernel
theorem dL_isSet_227 : decode cL_isSet 227 = .ok (.iconst 5, 1) := by decide +kernel
theorem dL_isSet_228 : decode cL_isSet 228 = .ok (.iload 4, 2) := by decide +kernel
theorem dL_isSet_230 : decode cL_isSet 230 = .ok (.imul, 1) := by decide +kernel
theorem dL_isSet_231 : decode cL_isSet 231 = .ok (.iconst 2, 1) := by decide +kernel
theorem dL_isSet_232 : decode cL_isSet 232 = .ok (.iadd, 1) := by decide +kernel
theorem dL_isSet_233 : decode cL_isSet 233 = .ok (.iaload, 1) := by decide +kernel
theorem dL_isSet_234 : decode cL_isSet 234 = .ok (.iconst 4, 1) := by decide +kernel
theorem dL_isSet_235 : decode cL_isSet 235 = .ok (.if_icmp .ne 14, 3) := by decide +kernel
theorem dL_isSet_238 : decode cL_isSet 238 = .ok (.aload_n 0, 1) := by decide +kernel
theorem dL_isSet_239 : decode cL_isSet 239 = .ok (.iload 14, 2) := by decide +kernel
theorem dL_isSet_241 : decode cL_isSet 241 = .ok (.invokevirtual 49, 3) := by decide +kernel
theorem dL_isSet_244 : decode cL_isSet 244 = .ok (.iload 12, 2) := by decide +kernel
theorem dL_isSet_246 : decode cL_isSet 246 = .ok (.if_icmp .lt 7, 3) := by decide +kernel
theorem dL_isSet_249 : decode cL_isSet 249 = .ok (.iconst 1, 1) := by decide +kernel
theorem dL_isSet_250 : decode cL_isSet 250 = .ok (.goto 4, 3) := by decide +kernel
theorem dL_isSet_253 : decode cL_isSet 253 = .ok (.iconst 0, 1) := by decide +kernel
theorem dL_isSet_254 : decode cL_isSet 254 = .ok (.istore 6, 2) := by decide +kernel
theorem dL_isSet_256 : decode cL_isSet 256 = .ok (.lload 10, 2) := by decide +kernel
theorem dL_isSet_258 : decode cL_isSet 258 = .ok (.lconst 1, 1) := by decide +kernel
theorem dL_isSet_259 : decode cL_isSet 259 = .ok (.iload 14, 2) := by decide +kernel
theorem dL_isSet_261 : decode cL_isSet 261 = .ok (.lshl, 1) := by decide +kernel
theorem dL_isSet_262 : decode cL_isSet 262 = .ok (.lor, 1) := by decide +kernel
theorem dL_isSet_263 : decode cL_isSet 263 = .ok (.lstore 10, 2) := by decide +kernel
theorem dL_isSet_265 : decode cL_isSet 265 = .ok (.aload_n 0, 1) := by decide +kernel
theorem dL_isSet_266 : decode cL_isSet 266 = .ok (.iload 14, 2) := by decide +kernel
theorem dL_isSet_268 : decode cL_isSet 268 = .ok (.invokevirtual 49, 3) := by decide +kernel
theorem dL_isSet_271 : decode cL_isSet 271 = .ok (.istore 12, 2) := by decide +kernel
theorem dL_isSet_273 : decode cL_isSet 273 = .ok (.iinc 13 1, 3) := by decide +kernel
theorem dL_isSet_276 : decode cL_isSet 276 = .ok (.goto (-99), 3) := by decide +kernel
theorem dL_isSet_279 : decode cL_isSet 279 = .ok (.iload 5, 2) := by decide +kernel
theorem dL_isSet_281 : decode cL_isSet 281 = .ok (.iload 9, 2) := by decide +kernel
theorem dL_isSet_283 : decode cL_isSet 283 = .ok (.ifCond .ge 7, 3) := by decide +kernel
theorem dL_isSet_286 : decode cL_isSet 286 = .ok (.iconst 0, 1) := by decide +kernel
theorem dL_isSet_287 : decode cL_isSet 287 = .ok (.goto 5, 3) := by decide +kernel
theorem dL_isSet_290 : decode cL_isSet 290 = .ok (.iload 9, 2) := by decide +kernel
theorem dL_isSet_292 : decode cL_isSet 292 = .ok (.iadd, 1) := by decide +kernel
theorem dL_isSet_293 : decode cL_isSet 293 = .ok (.istore 5, 2) := by decide +kernel
theorem dL_isSet_295 : decode cL_isSet 295 = .ok (.iinc 7 1, 3) := by decide +kernel
theorem dL_isSet_298 : decode cL_isSet 298 = .ok (.goto (-289), 3) := by decide +kernel
theorem dL_isSet_301 : decode cL_isSet 301 = .ok (.iconst 0, 1) := by decide +kernel
theorem dL_isSet_302 : decode cL_isSet 302 = .ok (.istore 7, 2) := by decide +kernel
theorem dL_isSet_304 : decode cL_isSet 304 = .ok (.iload 7, 2) := by decide +kernel
theorem dL_isSet_306 : decode cL_isSet 306 = .ok (.aload_n 3, 1) := by decide +kernel
theorem dL_isSet_307 : decode cL_isSet 307 = .ok (.iconst 1, 1) := by decide +kernel
theorem dL_isSet_308 : decode cL_isSet 308 = .ok (.iaload, 1) := by decide +kernel
theorem dL_isSet_309 : decode cL_isSet 309 = .ok (.if_icmp .ge 37, 3) := by decide +kernel
theorem dL_isSet_312 : decode cL_isSet 312 = .ok (.iload 5, 2) := by decide +kernel
theorem dL_isSet_314 : decode cL_isSet 314 = .ok (.aload_n 2, 1) := by decide +kernel
theorem dL_isSet_315 : decode cL_isSet 315 = .ok (.iload 7, 2) := by decide +kernel
theorem dL_isSet_317 : decode cL_isSet 317 = .ok (.iaload, 1) := by decide +kernel
theorem dL_isSet_318 : decode cL_isSet 318 = .ok (.ifCond .eq 18, 3) := by decide +kernel
theorem dL_isSet_321 : decode cL_isSet 321 = .ok (.aload_n 0, 1) := by decide +kernel
theorem dL_isSet_322 : decode cL_isSet 322 = .ok (.iload 7, 2) := by decide +kernel
theorem dL_isSet_324 : decode cL_isSet 324 = .ok (.iload 4, 2) := by decide +kernel
theorem dL_isSet_326 : decode cL_isSet 326 = .ok (.invokevirtual 36, 3) := by decide +kernel
theorem dL_isSet_329 : decode cL_isSet 329 = .ok (.ifCond .lt 7, 3) := by decide +kernel
theorem dL_isSet_332 : decode cL_isSet 332 = .ok (.iconst 1, 1) := by decide +kernel
theorem dL_isSet_333 : decode cL_isSet 333 = .ok (.goto 4, 3) := by decide +kernel
theorem dL_isSet_336 : decode cL_isSet 336 = .ok (.iconst 0, 1) := by decide +kernel
theorem dL_isSet_337 : decode cL_isSet 337 = .ok (.isub, 1) := by decide +kernel
theorem dL_isSet_338 : decode cL_isSet 338 = .ok (.istore 5, 2) := by decide +kernel
theorem dL_isSet_340 : decode cL_isSet 340 = .ok (.iinc 7 1, 3) := by decide +kernel
theorem dL_isSet_343 : decode cL_isSet 343 = .ok (.goto (-39), 3) := by decide +kernel
theorem dL_isSet_346 : decode cL_isSet 346 = .ok (.aload_n 0, 1) := by decide +kernel
theorem dL_isSet_347 : decode cL_isSet 347 = .ok (.iload 4, 2) := by decide +kernel
theorem dL_isSet_349 : decode cL_isSet 349 = .ok (.invokevirtual 52, 3) := by decide +kernel
theorem dL_isSet_352 : decode cL_isSet 352 = .ok (.istore 7, 2) := by decide +kernel
theorem dL_isSet_354 : decode cL_isSet 354 = .ok (.iload 6, 2) := by decide +kernel
theorem dL_isSet_356 : decode cL_isSet 356 = .ok (.ifCond .eq 62, 3) := by decide +kernel
theorem dL_isSet_359 : decode cL_isSet 359 = .ok (.iload 5, 2) := by decide +kernel
theorem dL_isSet_361 : decode cL_isSet 361 = .ok (.ifCond .ne 57, 3) := by decide +kernel
theorem dL_isSet_364 : decode cL_isSet 364 = .ok (.iload 7, 2) := by decide +kernel
theorem dL_isSet_366 : decode cL_isSet 366 = .ok (.iconst (-1), 1) := by decide +kernel
theorem dL_isSet_367 : decode cL_isSet 367 = .ok (.if_icmp .eq 47, 3) := by decide +kernel
theorem dL_isSet_370 : decode cL_isSet 370 = .ok (.iload 7, 2) := by decide +kernel
theorem dL_isSet_372 : decode cL_isSet 372 = .ok (.aload_n 3, 1) := by decide +kernel
theorem dL_isSet_373 : decode cL_isSet 373 = .ok (.iconst 1, 1) := by decide +kernel
theorem dL_isSet_374 : decode cL_isSet 374 = .ok (.iaload, 1) := by decide +kernel
theorem dL_isSet_375 : decode cL_isSet 375 = .ok (.if_icmp .ge 43, 3) := by decide +kernel
theorem dL_isSet_378 : decode cL_isSet 378 = .ok (.aload_n 2, 1) := by decide +kernel
theorem dL_isSet_379 : decode cL_isSet 379 = .ok (.iload 7, 2) := by decide +kernel
theorem dL_isSet_381 : decode cL_isSet 381 = .ok (.iaload, 1) := by decide +kernel
theorem dL_isSet_382 : decode cL_isSet 382 = .ok (.ifCond .eq 36, 3) := by decide +kernel
theorem dL_isSet_385 : decode cL_isSet 385 = .ok (.aload_n 2, 1) := by decide +kernel
theorem dL_isSet_386 : decode cL_isSet 386 = .ok (.iload 7, 2) := by decide +kernel
theorem dL_isSet_388 : decode cL_isSet 388 = .ok (.iaload, 1) := by decide +kernel
theorem dL_isSet_389 : decode cL_isSet 389 = .ok (.bipush 7, 2) := by decide +kernel
theorem dL_isSet_391 : decode cL_isSet 391 = .ok (.iand, 1) := by decide +kernel
theorem dL_isSet_392 : decode cL_isSet 392 = .ok (.iconst 1, 1) := by decide +kernel
theorem dL_isSet_393 : decode cL_isSet 393 = .ok (.isub, 1) := by decide +kernel
theorem dL_isSet_394 : decode cL_isSet 394 = .ok (.aload_n 1, 1) := by decide +kernel
theorem dL_isSet_395 : decode cL_isSet 395 = .ok (.iconst 5, 1) := by decide +kernel
theorem dL_isSet_396 : decode cL_isSet 396 = .ok (.iload 4, 2) := by decide +kernel
theorem dL_isSet_398 : decode cL_isSet 398 = .ok (.imul, 1) := by decide +kernel
theorem dL_isSet_399 : decode cL_isSet 399 = .ok (.iaload, 1) := by decide +kernel
theorem dL_isSet_400 : decode cL_isSet 400 = .ok (.if_icmp .eq 14, 3) := by decide +kernel
theorem dL_isSet_403 : decode cL_isSet 403 = .ok (.aload_n 0, 1) := by decide +kernel
theorem dL_isSet_404 : decode cL_isSet 404 = .ok (.iload 7, 2) := by decide +kernel
theorem dL_isSet_406 : decode cL_isSet 406 = .ok (.iload 4, 2) := by decide +kernel
theorem dL_isSet_408 : decode cL_isSet 408 = .ok (.invokevirtual 36, 3) := by decide +kernel
theorem dL_isSet_411 : decode cL_isSet 411 = .ok (.ifCond .lt 7, 3) := by decide +kernel
theorem dL_isSet_414 : decode cL_isSet 414 = .ok (.iconst 1, 1) := by decide +kernel
theorem dL_isSet_415 : decode cL_isSet 415 = .ok (.goto 4, 3) := by decide +kernel
theorem dL_isSet_418 : decode cL_isSet 418 = .ok (.iconst 0, 1) := by decide +kernel
theorem dL_isSet_419 : decode cL_isSet 419 = .ok (.ireturn, 1) := by decide +kernel
theorem dL_isBase_0 : decode cL_isBase 0 = .ok (.iconst 0, 1) := by decide +kernel
theorem dL_isBase_1 : decode cL_isBase 1 = .ok (.istore 4, 2) := by decide +kernel
theorem dL_isBase_3 : decode cL_isBase 3 = .ok (.aload_n 0, 1) := by decide +kernel
theorem dL_isBase_4 : decode cL_isBase 4 = .ok (.invokevirtual 55, 3) := by decide +kernel
theorem dL_isBase_7 : decode cL_isBase 7 = .ok (.aload_n 3, 1) := by decide +kernel
theorem dL_isBase_8 : decode cL_isBase 8 = .ok (.iconst 0, 1) := by decide +kernel
theorem dL_isBase_9 : decode cL_isBase 9 = .ok (.iaload, 1) := by decide +kernel
theorem dL_isBase_10 : decode cL_isBase 10 = .ok (.if_icmp .ne 17, 3) := by decide +kernel
theorem dL_isBase_13 : decode cL_isBase 13 = .ok (.aload_n 0, 1) := by decide +kernel
theorem dL_isBase_14 : decode cL_isBase 14 = .ok (.invokevirtual 59, 3) := by decide +kernel
theorem dL_isBase_17 : decode cL_isBase 17 = .ok (.aload_n 3, 1) := by decide +kernel
theorem dL_isBase_18 : decode cL_isBase 18 = .ok (.iconst 2, 1) := by decide +kernel
theorem dL_isBase_19 : decode cL_isBase 19 = .ok (.iaload, 1) := by decide +kernel
theorem dL_isBase_20 : decode cL_isBase 20 = .ok (.if_icmp .ne 7, 3) := by decide +kernel
theorem dL_isBase_23 : decode cL_isBase 23 = .ok (.iconst 1, 1) := by decide +kernel
theorem dL_isBase_24 : decode cL_isBase 24 = .ok (.goto 4, 3) := by decide +kernel
theorem dL_isBase_27 : decode cL_isBase 27 = .ok (.iconst 0, 1) := by decide +kernel
theorem dL_isBase_28 : decode cL_isBase 28 = .ok (.istore 5, 2) := by decide +kernel
theorem dL_isBase_30 : decode cL_isBase 30 = .ok (.iconst 0, 1) := by decide +kernel
theorem dL_isBase_31 : decode cL_isBase 31 = .ok (.istore 6, 2) := by decide +kernel
theorem dL_isBase_33 : decode cL_isBase 33 = .ok (.iload 6, 2) := by decide +kernel
theorem dL_isBase_35 : decode cL_isBase 35 = .ok (.aload_n 3, 1) := by decide +kernel
theorem dL_isBase_36 : decode cL_isBase 36 = .ok (.iconst 1, 1) := by decide +kernel
theorem dL_isBase_37 : decode cL_isBase 37 = .ok (.iaload, 1) := by decide +kernel
theorem dL_isBase_38 : decode cL_isBase 38 = .ok (.if_icmp .ge 82, 3) := by decide +kernel
theorem dL_isBase_41 : decode cL_isBase 41 = .ok (.iload 5, 2) := by decide +kernel
theorem dL_isBase_43 : decode cL_isBase 43 = .ok (.ifCond .eq 77, 3) := by decide +kernel
theorem dL_isBase_46 : decode cL_isBase 46 = .ok (.iload 4, 2) := by decide +kernel
theorem dL_isBase_48 : decode cL_isBase 48 = .ok (.aload_n 2, 1) := by decide +kernel
theorem dL_isBase_49 : decode cL_isBase 49 = .ok (.iload 6, 2) := by decide +kernel
theorem dL_isBase_51 : decode cL_isBase 51 = .ok (.iaload, 1) := by decide +kernel
theorem dL_isBase_52 : decode cL_isBase 52 = .ok (.ifCond .ne 7, 3) := by decide +kernel
theorem dL_isBase_55 : decode cL_isBase 55 = .ok (.iconst 0, 1) := by decide +kernel
theorem dL_isBase_56 : decode cL_isBase 56 = .ok (.goto 4, 3) := by decide +kernel
theorem dL_isBase_59 : decode cL_isBase 59 = .ok (.iconst 1, 1) := by decide +kernel
theorem dL_isBase_60 : decode cL_isBase 60 = .ok (.iadd, 1) := by decide +kernel
theorem dL_isBase_61 : decode cL_isBase 61 = .ok (.istore 4, 2) := by decide +kernel
theorem dL_isBase_63 : decode cL_isBase 63 = .ok (.aload_n 2, 1) := by decide +kernel
theorem dL_isBase_64 : decode cL_isBase 64 = .ok (.iload 6, 2) := by decide +kernel
theorem dL_isBase_66 : decode cL_isBase 66 = .ok (.iaload, 1) := by decide +kernel
theorem dL_isBase_67 : decode cL_isBase 67 = .ok (.ifCond .eq 40, 3) := by decide +kernel
theorem dL_isBase_70 : decode cL_isBase 70 = .ok (.aload_n 0, 1) := by decide +kernel
theorem dL_isBase_71 : decode cL_isBase 71 = .ok (.iload 6, 2) := by decide +kernel
theorem dL_isBase_73 : decode cL_isBase 73 = .ok (.invokevirtual 62, 3) := by decide +kernel
theorem dL_isBase_76 : decode cL_isBase 76 = .ok (.aload_n 2, 1) := by decide +kernel
theorem dL_isBase_77 : decode cL_isBase 77 = .ok (.iload 6, 2) := by decide +kernel
theorem dL_isBase_79 : decode cL_isBase 79 = .ok (.iaload, 1) := by decide +kernel
theorem dL_isBase_80 : decode cL_isBase 80 = .ok (.bipush 7, 2) := by decide +kernel
theorem dL_isBase_82 : decode cL_isBase 82 = .ok (.iand, 1) := by decide +kernel
theorem dL_isBase_83 : decode cL_isBase 83 = .ok (.iconst 1, 1) := by decide +kernel
theorem dL_isBase_84 : decode cL_isBase 84 = .ok (.isub, 1) := by decide +kernel
theorem dL_isBase_85 : decode cL_isBase 85 = .ok (.if_icmp .ne 26, 3) := by decide +kernel
theorem dL_isBase_88 : decode cL_isBase 88 = .ok (.aload_n 0, 1) := by decide +kernel
theorem dL_isBase_89 : decode cL_isBase 89 = .ok (.iload 6, 2) := by decide +kernel
theorem dL_isBase_91 : decode cL_isBase 91 = .ok (.invokevirtual 49, 3) := by decide +kernel
theorem dL_isBase_94 : decode cL_isBase 94 = .ok (.aload_n 2, 1) := by decide +kernel
theorem dL_isBase_95 : decode cL_isBase 95 = .ok (.iload 6, 2) := by decide +kernel
theorem dL_isBase_97 : decode cL_isBase 97 = .ok (.iaload, 1) := by decide +kernel
theorem dL_isBase_98 : decode cL_isBase 98 = .ok (.iconst 3, 1) := by decide +kernel
theorem dL_isBase_99 : decode cL_isBase 99 = .ok (.ishr, 1) := by decide +kernel
theorem dL_isBase_100 : decode cL_isBase 100 = .ok (.sipush 1000, 3) := by decide +kernel
theorem dL_isBase_103 : decode cL_isBase 103 = .ok (.isub, 1) := by decide +kernel
theorem dL_isBase_104 : decode cL_isBase 104 = .ok (.if_icmp .ne 7, 3) := by decide +kernel
theorem dL_isBase_107 : decode cL_isBase 107 = .ok (.iconst 1, 1) := by decide +kernel
theorem dL_isBase_108 : decode cL_isBase 108 = .ok (.goto 4, 3) := by decide +kernel
theorem dL_isBase_111 : decode cL_isBase 111 = .ok (.iconst 0, 1) := by decide +kernel
theorem dL_isBase_112 : decode cL_isBase 112 = .ok (.istore 5, 2) := by decide +kernel
theorem dL_isBase_114 : decode cL_isBase 114 = .ok (.iinc 6 1, 3) := by decide +kernel
theorem dL_isBase_117 : decode cL_isBase 117 = .ok (.goto (-84), 3) := by decide +kernel
theorem dL_isBase_120 : decode cL_isBase 120 = .ok (.iconst 0, 1) := by decide +kernel
theorem dL_isBase_121 : decode cL_isBase 121 = .ok (.istore 6, 2) := by decide +kernel
theorem dL_isBase_123 : decode cL_isBase 123 = .ok (.iload 6, 2) := by decide +kernel
theorem dL_isBase_125 : decode cL_isBase 125 = .ok (.iconst 4, 1) := by decide +kernel
theorem dL_isBase_126 : decode cL_isBase 126 = .ok (.if_icmp .ge 57, 3) := by decide +kernel
theorem dL_isBase_129 : decode cL_isBase 129 = .ok (.aload_n 0, 1) := by decide +kernel
theorem dL_isBase_130 : decode cL_isBase 130 = .ok (.iload 6, 2) := by decide +kernel
theorem dL_isBase_132 : decode cL_isBase 132 = .ok (.invokevirtual 65, 3) := by decide +kernel
theorem dL_isBase_135 : decode cL_isBase 135 = .ok (.istore 7, 2) := by decide +kernel
theorem dL_isBase_137 : decode cL_isBase 137 = .ok (.iload 5, 2) := by decide +kernel
theorem dL_isBase_139 : decode cL_isBase 139 = .ok (.ifCond .eq 35, 3) := by decide +kernel
theorem dL_isBase_142 : decode cL_isBase 142 = .ok (.iload 7, 2) := by decide +kernel
theorem dL_isBase_144 : decode cL_isBase 144 = .ok (.iconst (-1), 1) := by decide +kernel
theorem dL_isBase_145 : decode cL_isBase 145 = .ok (.if_icmp .eq 25, 3) := by decide +kernel
theorem dL_isBase_148 : decode cL_isBase 148 = .ok (.iload 7, 2) := by decide +kernel
theorem dL_isBase_150 : decode cL_isBase 150 = .ok (.aload_n 3, 1) := by decide +kernel
theorem dL_isBase_151 : decode cL_isBase 151 = .ok (.iconst 1, 1) := by decide +kernel
theorem dL_isBase_152 : decode cL_isBase 152 = .ok (.iaload, 1) := by decide +kernel
theorem dL_isBase_153 : decode cL_isBase 153 = .ok (.if_icmp .ge 21, 3) := by decide +kernel
theorem dL_isBase_156 : decode cL_isBase 156 = .ok (.aload_n 2, 1) := by decide +kernel
theorem dL_isBase_157 : decode cL_isBase 157 = .ok (.iload 7, 2) := by decide +kernel
theorem dL_isBase_159 : decode cL_isBase 159 = .ok (.iaload, 1) := by decide +kernel
theorem dL_isBase_160 : decode cL_isBase 160 = .ok (.bipush 7, 2) := by decide +kernel
theorem dL_isBase_162 : decode cL_isBase 162 = .ok (.iand, 1) := by decide +kernel
theorem dL_isBase_163 : decode cL_isBase 163 = .ok (.iconst 1, 1) := by decide +kernel
theorem dL_isBase_164 : decode cL_isBase 164 = .ok (.isub, 1) := by decide +kernel
theorem dL_isBase_165 : decode cL_isBase 165 = .ok (.iload 6, 2) := by decide +kernel
theorem dL_isBase_167 : decode cL_isBase 167 = .ok (.if_icmp .ne 7, 3) := by decide +kernel
theorem dL_isBase_170 : decode cL_isBase 170 = .ok (.iconst 1, 1) := by decide +kernel
theorem dL_isBase_171 : decode cL_isBase 171 = .ok (.goto 4, 3) := by decide +kernel
theorem dL_isBase_174 : decode cL_isBase 174 = .ok (.iconst 0, 1) := by decide +kernel
theorem dL_isBase_175 : decode cL_isBase 175 = .ok (.istore 5, 2) := by decide +kernel
theorem dL_isBase_177 : decode cL_isBase 177 = .ok (.iinc 6 1, 3) := by decide +kernel
theorem dL_isBase_180 : decode cL_isBase 180 = .ok (.goto (-57), 3) := by decide +kernel
theorem dL_isBase_183 : decode cL_isBase 183 = .ok (.iconst 0, 1) := by decide +kernel
theorem dL_isBase_184 : decode cL_isBase 184 = .ok (.istore 6, 2) := by decide +kernel
theorem dL_isBase_186 : decode cL_isBase 186 = .ok (.iload 6, 2) := by decide +kernel
theorem dL_isBase_188 : decode cL_isBase 188 = .ok (.aload_n 3, 1) := by decide +kernel
theorem dL_isBase_189 : decode cL_isBase 189 = .ok (.iconst 0, 1) := by decide +kernel
theorem dL_isBase_190 : decode cL_isBase 190 = .ok (.iaload, 1) := by decide +kernel
theorem dL_isBase_191 : decode cL_isBase 191 = .ok (.if_icmp .ge 25, 3) := by decide +kernel
theorem dL_isBase_194 : decode cL_isBase 194 = .ok (.iload 5, 2) := by decide +kernel
theorem dL_isBase_196 : decode cL_isBase 196 = .ok (.ifCond .eq 20, 3) := by decide +kernel
theorem dL_isBase_199 : decode cL_isBase 199 = .ok (.aload_n 0, 1) := by decide +kernel
theorem dL_isBase_200 : decode cL_isBase 200 = .ok (.aload_n 1, 1) := by decide +kernel
theorem dL_isBase_201 : decode cL_isBase 201 = .ok (.aload_n 2, 1) := by decide +kernel
theorem dL_isBase_202 : decode cL_isBase 202 = .ok (.aload_n 3, 1) := by decide +kernel
theorem dL_isBase_203 : decode cL_isBase 203 = .ok (.iload 6, 2) := by decide +kernel
theorem dL_isBase_205 : decode cL_isBase 205 = .ok (.invokestatic 68, 3) := by decide +kernel
theorem dL_isBase_208 : decode cL_isBase 208 = .ok (.istore 5, 2) := by decide +kernel
theorem dL_isBase_210 : decode cL_isBase 210 = .ok (.iinc 6 1, 3) := by decide +kernel
theorem dL_isBase_213 : decode cL_isBase 213 = .ok (.goto (-27), 3) := by decide +kernel
theorem dL_isBase_216 : decode cL_isBase 216 = .ok (.iload 5, 2) := by decide +kernel
theorem dL_isBase_218 : decode cL_isBase 218 = .ok (.ifCond .eq 32, 3) := by decide +kernel
theorem dL_isBase_221 : decode cL_isBase 221 = .ok (.iload 4, 2) := by decide +kernel
theorem dL_isBase_223 : decode cL_isBase 223 = .ok (.aload_n 3, 1) := by decide +kernel
theorem dL_isBase_224 : decode cL_isBase 224 = .ok (.iconst 2, 1) := by decide +kernel
theorem dL_isBase_225 : decode cL_isBase 225 = .ok (.iaload, 1) := by decide +kernel
theorem dL_isBase_226 : decode cL_isBase 226 = .ok (.if_icmp .ne 24, 3) := by decide +kernel
theorem dL_isBase_229 : decode cL_isBase 229 = .ok (.aload_n 0, 1) := by decide +kernel
theorem dL_isBase_230 : decode cL_isBase 230 = .ok (.invokevirtual 74, 3) := by decide +kernel
theorem dL_isBase_233 : decode cL_isBase 233 = .ok (.iconst (-1), 1) := by decide +kernel
theorem dL_isBase_234 : decode cL_isBase 234 = .ok (.if_icmp .eq 12, 3) := by decide +kernel
theorem dL_isBase_237 : decode cL_isBase 237 = .ok (.aload_n 2, 1) := by decide +kernel
theorem dL_isBase_238 : decode cL_isBase 238 = .ok (.aload_n 0, 1) := by decide +kernel
theorem dL_isBase_239 : decode cL_isBase 239 = .ok (.invokevirtual 74, 3) := by decide +kernel
theorem dL_isBase_242 : decode cL_isBase 242 = .ok (.iaload, 1) := by decide +kernel
theorem dL_isBase_243 : decode cL_isBase 243 = .ok (.ifCond .eq 7, 3) := by decide +kernel
theorem dL_isBase_246 : decode cL_isBase 246 = .ok (.iconst 1, 1) := by decide +kernel
theorem dL_isBase_247 : decode cL_isBase 247 = .ok (.goto 4, 3) := by decide +kernel
theorem dL_isBase_250 : decode cL_isBase 250 = .ok (.iconst 0, 1) := by decide +kernel
theorem dL_isBase_251 : decode cL_isBase 251 = .ok (.ireturn, 1) := by decide +kernel
theorem dL_isCurrent_0 : decode cL_isCurrent 0 = .ok (.aload_n 0, 1) := by decide +kernel
theorem dL_isCurrent_1 : decode cL_isCurrent 1 = .ok (.invokevirtual 74, 3) := by decide +kernel
theorem dL_isCurrent_4 : decode cL_isCurrent 4 = .ok (.iload 4, 2) := by decide +kernel
theorem dL_isCurrent_6 : decode cL_isCurrent 6 = .ok (.ifCond .ge 10, 3) := by decide +kernel
theorem dL_isCurrent_9 : decode cL_isCurrent 9 = .ok (.aload 5, 2) := by decide +kernel
theorem dL_isCurrent_11 : decode cL_isCurrent 11 = .ok (.iconst 0, 1) := by decide +kernel
theorem dL_isCurrent_12 : decode cL_isCurrent 12 = .ok (.iaload, 1) := by decide +kernel
theorem dL_isCurrent_13 : decode cL_isCurrent 13 = .ok (.goto 5, 3) := by decide +kernel
theorem dL_isCurrent_16 : decode cL_isCurrent 16 = .ok (.iload 4, 2) := by decide +kernel
theorem dL_isCurrent_18 : decode cL_isCurrent 18 = .ok (.if_icmp .ne 7, 3) := by decide +kernel
theorem dL_isCurrent_21 : decode cL_isCurrent 21 = .ok (.iconst 1, 1) := by decide +kernel
theorem dL_isCurrent_22 : decode cL_isCurrent 22 = .ok (.goto 4, 3) := by decide +kernel
theorem dL_isCurrent_25 : decode cL_isCurrent 25 = .ok (.iconst 0, 1) := by decide +kernel
theorem dL_isCurrent_26 : decode cL_isCurrent 26 = .ok (.istore 6, 2) := by decide +kernel
theorem dL_isCurrent_28 : decode cL_isCurrent 28 = .ok (.iconst 0, 1) := by decide +kernel
theorem dL_isCurrent_29 : decode cL_isCurrent 29 = .ok (.istore 7, 2) := by decide +kernel
theorem dL_isCurrent_31 : decode cL_isCurrent 31 = .ok (.iload 7, 2) := by decide +kernel
theorem dL_isCurrent_33 : decode cL_isCurrent 33 = .ok (.iconst 4, 1) := by decide +kernel
theorem dL_isCurrent_34 : decode cL_isCurrent 34 = .ok (.if_icmp .ge 73, 3) := by decide +kernel
theorem dL_isCurrent_37 : decode cL_isCurrent 37 = .ok (.iload 4, 2) := by decide +kernel
theorem dL_isCurrent_39 : decode cL_isCurrent 39 = .ok (.ifCond .lt 21, 3) := by decide +kernel
theorem dL_isCurrent_42 : decode cL_isCurrent 42 = .ok (.aload_n 2, 1) := by decide +kernel
theorem dL_isCurrent_43 : decode cL_isCurrent 43 = .ok (.iload 4, 2) := by decide +kernel
theorem dL_isCurrent_45 : decode cL_isCurrent 45 = .ok (.iaload, 1) := by decide +kernel
theorem dL_isCurrent_46 : decode cL_isCurrent 46 = .ok (.bipush 7, 2) := by decide +kernel
theorem dL_isCurrent_48 : decode cL_isCurrent 48 = .ok (.iand, 1) := by decide +kernel
theorem dL_isCurrent_49 : decode cL_isCurrent 49 = .ok (.iconst 1, 1) := by decide +kernel
theorem dL_isCurrent_50 : decode cL_isCurrent 50 = .ok (.isub, 1) := by decide +kernel
theorem dL_isCurrent_51 : decode cL_isCurrent 51 = .ok (.iload 7, 2) := by decide +kernel
theorem dL_isCurrent_53 : decode cL_isCurrent 53 = .ok (.if_icmp .ne 7, 3) := by decide +kernel
theorem dL_isCurrent_56 : decode cL_isCurrent 56 = .ok (.iconst 1, 1) := by decide +kernel
theorem dL_isCurrent_57 : decode cL_isCurrent 57 = .ok (.goto 4, 3) := by decide +kernel
theorem dL_isCurrent_60 : decode cL_isCurrent 60 = .ok (.iconst 0, 1) := by decide +kernel
theorem dL_isCurrent_61 : decode cL_isCurrent 61 = .ok (.istore 8, 2) := by decide +kernel
theorem dL_isCurrent_63 : decode cL_isCurrent 63 = .ok (.iload 6, 2) := by decide +kernel
theorem dL_isCurrent_65 : decode cL_isCurrent 65 = .ok (.ifCond .eq 33, 3) := by decide +kernel
theorem dL_isCurrent_68 : decode cL_isCurrent 68 = .ok (.aload_n 0, 1) := by decide +kernel
theorem dL_isCurrent_69 : decode cL_isCurrent 69 = .ok (.iload 7, 2) := by decide +kernel
theorem dL_isCurrent_71 : decode cL_isCurrent 71 = .ok (.invokevirtual 65, 3) := by decide +kernel
theorem dL_isCurrent_74 : decode cL_isCurrent 74 = .ok (.iload 8, 2) := by decide +kernel
theorem dL_isCurrent_76 : decode cL_isCurrent 76 = .ok (.ifCond .eq 8, 3) := by decide +kernel
theorem dL_isCurrent_79 : decode cL_isCurrent 79 = .ok (.iload 4, 2) := by decide +kernel
theorem dL_isCurrent_81 : decode cL_isCurrent 81 = .ok (.goto 10, 3) := by decide +kernel
theorem dL_isCurrent_84 : decode cL_isCurrent 84 = .ok (.aload 5, 2) := by decide +kernel
theorem dL_isCurrent_86 : decode cL_isCurrent 86 = .ok (.iconst 1, 1) := by decide +kernel
theorem dL_isCurrent_87 : decode cL_isCurrent 87 = .ok (.iload 7, 2) := by decide +kernel
theorem dL_isCurrent_89 : decode cL_isCurrent 89 = .ok (.iadd, 1) := by decide +kernel
theorem dL_isCurrent_90 : decode cL_isCurrent 90 = .ok (.iaload, 1) := by decide +kernel
theorem dL_isCurrent_91 : decode cL_isCurrent 91 = .ok (.if_icmp .ne 7, 3) := by decide +kernel
theorem dL_isCurrent_94 : decode cL_isCurrent 94 = .ok (.iconst 1, 1) := by decide +kernel
theorem dL_isCurrent_95 : decode cL_isCurrent 95 = .ok (.goto 4, 3) := by decide +kernel
theorem dL_isCurrent_98 : decode cL_isCurrent 98 = .ok (.iconst 0, 1) := by decide +kernel
theorem dL_isCurrent_99 : decode cL_isCurrent 99 = .ok (.istore 6, 2) := by decide +kernel
theorem dL_isCurrent_101 : decode cL_isCurrent 101 = .ok (.iinc 7 1, 3) := by decide +kernel
theorem dL_isCurrent_104 : decode cL_isCurrent 104 = .ok (.goto (-73), 3) := by decide +kernel
theorem dL_isCurrent_107 : decode cL_isCurrent 107 = .ok (.iconst 0, 1) := by decide +kernel
theorem dL_isCurrent_108 : decode cL_isCurrent 108 = .ok (.istore 7, 2) := by decide +kernel
theorem dL_isCurrent_110 : decode cL_isCurrent 110 = .ok (.iload 7, 2) := by decide +kernel
theorem dL_isCurrent_112 : decode cL_isCurrent 112 = .ok (.aload_n 3, 1) := by decide +kernel
theorem dL_isCurrent_113 : decode cL_isCurrent 113 = .ok (.iconst 0, 1) := by decide +kernel
theorem dL_isCurrent_114 : decode cL_isCurrent 114 = .ok (.iaload, 1) := by decide +kernel
theorem dL_isCurrent_115 : decode cL_isCurrent 115 = .ok (.if_icmp .ge 88, 3) := by decide +kernel
theorem dL_isCurrent_118 : decode cL_isCurrent 118 = .ok (.iload 6, 2) := by decide +kernel
theorem dL_isCurrent_120 : decode cL_isCurrent 120 = .ok (.ifCond .eq 83, 3) := by decide +kernel
theorem dL_isCurrent_123 : decode cL_isCurrent 123 = .ok (.iload 4, 2) := by decide +kernel
theorem dL_isCurrent_125 : decode cL_isCurrent 125 = .ok (.ifCond .lt 36, 3) := by decide +kernel
theorem dL_isCurrent_128 : decode cL_isCurrent 128 = .ok (.aload_n 2, 1) := by decide +kernel
theorem dL_isCurrent_129 : decode cL_isCurrent 129 = .ok (.iload 4, 2) := by decide +kernel
theorem dL_isCurrent_131 : decode cL_isCurrent 131 = .ok (.iaload, 1) := by decide +kernel
theorem dL_isCurrent_132 : decode cL_isCurrent 132 = .ok (.bipush 7, 2) := by decide +kernel
theorem dL_isCurrent_134 : decode cL_isCurrent 134 = .ok (.iand, 1) := by decide +kernel
theorem dL_isCurrent_135 : decode cL_isCurrent 135 = .ok (.iconst 1, 1) := by decide +kernel
theorem dL_isCurrent_136 : decode cL_isCurrent 136 = .ok (.isub, 1) := by decide +kernel
theorem dL_isCurrent_137 : decode cL_isCurrent 137 = .ok (.aload_n 1, 1) := by decide +kernel
theorem dL_isCurrent_138 : decode cL_isCurrent 138 = .ok (.iconst 5, 1) := by decide +kernel
theorem dL_isCurrent_139 : decode cL_isCurrent 139 = .ok (.iload 7, 2) := by decide +kernel
theorem dL_isCurrent_141 : decode cL_isCurrent 141 = .ok (.imul, 1) := by decide +kernel
theorem dL_isCurrent_142 : decode cL_isCurrent 142 = .ok (.iaload, 1) := by decide +kernel
theorem dL_isCurrent_143 : decode cL_isCurrent 143 = .ok (.if_icmp .eq 14, 3) := by decide +kernel
theorem dL_isCurrent_146 : decode cL_isCurrent 146 = .ok (.aload_n 0, 1) := by decide +kernel
theorem dL_isCurrent_147 : decode cL_isCurrent 147 = .ok (.iload 4, 2) := by decide +kernel
theorem dL_isCurrent_149 : decode cL_isCurrent 149 = .ok (.iload 7, 2) := by decide +kernel
theorem dL_isCurrent_151 : decode cL_isCurrent 151 = .ok (.invokevirtual 36, 3) := by decide +kernel
theorem dL_isCurrent_154 : decode cL_isCurrent 154 = .ok (.ifCond .lt 7, 3) := by decide +kernel
theorem dL_isCurrent_157 : decode cL_isCurrent 157 = .ok (.iconst 1, 1) := by decide +kernel
theorem dL_isCurrent_158 : decode cL_isCurrent 158 = .ok (.goto 4, 3) := by decide +kernel
theorem dL_isCurrent_161 : decode cL_isCurrent 161 = .ok (.iconst 0, 1) := by decide +kernel
theorem dL_isCurrent_162 : decode cL_isCurrent 162 = .ok (.istore 8, 2) := by decide +kernel
theorem dL_isCurrent_164 : decode cL_isCurrent 164 = .ok (.aload_n 0, 1) := by decide +kernel
theorem dL_isCurrent_165 : decode cL_isCurrent 165 = .ok (.iload 7, 2) := by decide +kernel
theorem dL_isCurrent_167 : decode cL_isCurrent 167 = .ok (.invokevirtual 52, 3) := by decide +kernel
theorem dL_isCurrent_170 : decode cL_isCurrent 170 = .ok (.iload 8, 2) := by decide +kernel
theorem dL_isCurrent_172 : decode cL_isCurrent 172 = .ok (.ifCond .eq 8, 3) := by decide +kernel
theorem dL_isCurrent_175 : decode cL_isCurrent 175 = .ok (.iload 4, 2) := by decide +kernel
theorem dL_isCurrent_177 : decode cL_isCurrent 177 = .ok (.goto 10, 3) := by decide +kernel
theorem dL_isCurrent_180 : decode cL_isCurrent 180 = .ok (.aload 5, 2) := by decide +kernel
theorem dL_isCurrent_182 : decode cL_isCurrent 182 = .ok (.iconst 5, 1) := by decide +kernel
theorem dL_isCurrent_183 : decode cL_isCurrent 183 = .ok (.iload 7, 2) := by decide +kernel
theorem dL_isCurrent_185 : decode cL_isCurrent 185 = .ok (.iadd, 1) := by decide +kernel
theorem dL_isCurrent_186 : decode cL_isCurrent 186 = .ok (.iaload, 1) := by decide +kernel
theorem dL_isCurrent_187 : decode cL_isCurrent 187 = .ok (.if_icmp .ne 7, 3) := by decide +kernel
theorem dL_isCurrent_190 : decode cL_isCurrent 190 = .ok (.iconst 1, 1) := by decide +kernel
theorem dL_isCurrent_191 : decode cL_isCurrent 191 = .ok (.goto 4, 3) := by decide +kernel
theorem dL_isCurrent_194 : decode cL_isCurrent 194 = .ok (.iconst 0, 1) := by decide +kernel
theorem dL_isCurrent_195 : decode cL_isCurrent 195 = .ok (.istore 6, 2) := by decide +kernel
theorem dL_isCurrent_197 : decode cL_isCurrent 197 = .ok (.iinc 7 1, 3) := by decide +kernel
theorem dL_isCurrent_200 : decode cL_isCurrent 200 = .ok (.goto (-90), 3) := by decide +kernel
theorem dL_isCurrent_203 : decode cL_isCurrent 203 = .ok (.iload 6, 2) := by decide +kernel
theorem dL_isCurrent_205 : decode cL_isCurrent 205 = .ok (.ireturn, 1) := by decide +kernel
theorem dL_notes_0 : decode cL_notes 0 = .ok (.aload_n 2, 1) := by decide +kernel
theorem dL_notes_1 : decode cL_notes 1 = .ok (.iconst 0, 1) := by decide +kernel
theorem dL_notes_2 : decode cL_notes 2 = .ok (.aload_n 0, 1) := by decide +kernel
theorem dL_notes_3 : decode cL_notes 3 = .ok (.invokevirtual 74, 3) := by decide +kernel
theorem dL_notes_6 : decode cL_notes 6 = .ok (.iastore, 1) := by decide +kernel
theorem dL_notes_7 : decode cL_notes 7 = .ok (.iconst 0, 1) := by decide +kernel
theorem dL_notes_8 : decode cL_notes 8 = .ok (.istore_n 3, 1) := by decide +kernel
theorem dL_notes_9 : decode cL_notes 9 = .ok (.iload_n 3, 1) := by decide +kernel
theorem dL_notes_10 : decode cL_notes 10 = .ok (.iconst 4, 1) := by decide +kernel
theorem dL_notes_11 : decode cL_notes 11 = .ok (.if_icmp .ge 19, 3) := by decide +kernel
theorem dL_notes_14 : decode cL_notes 14 = .ok (.aload_n 2, 1) := by decide +kernel
theorem dL_notes_15 : decode cL_notes 15 = .ok (.iconst 1, 1) := by decide +kernel
theorem dL_notes_16 : decode cL_notes 16 = .ok (.iload_n 3, 1) := by decide +kernel
theorem dL_notes_17 : decode cL_notes 17 = .ok (.iadd, 1) := by decide +kernel
theorem dL_notes_18 : decode cL_notes 18 = .ok (.aload_n 0, 1) := by decide +kernel
theorem dL_notes_19 : decode cL_notes 19 = .ok (.iload_n 3, 1) := by decide +kernel
theorem dL_notes_20 : decode cL_notes 20 = .ok (.invokevirtual 65, 3) := by decide +kernel
theorem dL_notes_23 : decode cL_notes 23 = .ok (.iastore, 1) := by decide +kernel
theorem dL_notes_24 : decode cL_notes 24 = .ok (.iinc 3 1, 3) := by decide +kernel
theorem dL_notes_27 : decode cL_notes 27 = .ok (.goto (-18), 3) := by decide +kernel
theorem dL_notes_30 : decode cL_notes 30 = .ok (.iconst 0, 1) := by decide +kernel
theorem dL_notes_31 : decode cL_notes 31 = .ok (.istore_n 3, 1) := by decide +kernel
theorem dL_notes_32 : decode cL_notes 32 = .ok (.iload_n 3, 1) := by decide +kernel
theorem dL_notes_33 : decode cL_notes 33 = .ok (.aload_n 1, 1) := by decide +kernel
theorem dL_notes_34 : decode cL_notes 34 = .ok (.iconst 0, 1) := by decide +kernel
theorem dL_notes_35 : decode cL_notes 35 = .ok (.iaload, 1) := by decide +kernel
theorem dL_notes_36 : decode cL_notes 36 = .ok (.if_icmp .ge 19, 3) := by decide +kernel
theorem dL_notes_39 : decode cL_notes 39 = .ok (.aload_n 2, 1) := by decide +kernel
theorem dL_notes_40 : decode cL_notes 40 = .ok (.iconst 5, 1) := by decide +kernel
theorem dL_notes_41 : decode cL_notes 41 = .ok (.iload_n 3, 1) := by decide +kernel
theorem dL_notes_42 : decode cL_notes 42 = .ok (.iadd, 1) := by decide +kernel
theorem dL_notes_43 : decode cL_notes 43 = .ok (.aload_n 0, 1) := by decide +kernel
theorem dL_notes_44 : decode cL_notes 44 = .ok (.iload_n 3, 1) := by decide +kernel
theorem dL_notes_45 : decode cL_notes 45 = .ok (.invokevirtual 52, 3) := by decide +kernel
theorem dL_notes_48 : decode cL_notes 48 = .ok (.iastore, 1) := by decide +kernel
theorem dL_notes_49 : decode cL_notes 49 = .ok (.iinc 3 1, 3) := by decide +kernel
theorem dL_notes_52 : decode cL_notes 52 = .ok (.goto (-20), 3) := by decide +kernel
theorem dL_notes_55 : decode cL_notes 55 = .ok (.return_, 1) := by decide +kernel
theorem dL_owner_0 : decode cL_owner 0 = .ok (.aload_n 0, 1) := by decide +kernel
theorem dL_owner_1 : decode cL_owner 1 = .ok (.iload_n 3, 1) := by decide +kernel
theorem dL_owner_2 : decode cL_owner 2 = .ok (.invokevirtual 52, 3) := by decide +kernel
theorem dL_owner_5 : decode cL_owner 5 = .ok (.istore 4, 2) := by decide +kernel
theorem dL_owner_7 : decode cL_owner 7 = .ok (.iload 4, 2) := by decide +kernel
theorem dL_owner_9 : decode cL_owner 9 = .ok (.ifCond .ge 7, 3) := by decide +kernel
theorem dL_owner_12 : decode cL_owner 12 = .ok (.iconst (-1), 1) := by decide +kernel
theorem dL_owner_13 : decode cL_owner 13 = .ok (.goto 32, 3) := by decide +kernel
theorem dL_owner_16 : decode cL_owner 16 = .ok (.aload_n 2, 1) := by decide +kernel
theorem dL_owner_17 : decode cL_owner 17 = .ok (.iload 4, 2) := by decide +kernel
theorem dL_owner_19 : decode cL_owner 19 = .ok (.iaload, 1) := by decide +kernel
theorem dL_owner_20 : decode cL_owner 20 = .ok (.bipush 7, 2) := by decide +kernel
theorem dL_owner_22 : decode cL_owner 22 = .ok (.iand, 1) := by decide +kernel
theorem dL_owner_23 : decode cL_owner 23 = .ok (.iconst 1, 1) := by decide +kernel
theorem dL_owner_24 : decode cL_owner 24 = .ok (.isub, 1) := by decide +kernel
theorem dL_owner_25 : decode cL_owner 25 = .ok (.aload_n 1, 1) := by decide +kernel
theorem dL_owner_26 : decode cL_owner 26 = .ok (.iconst 5, 1) := by decide +kernel
theorem dL_owner_27 : decode cL_owner 27 = .ok (.iload_n 3, 1) := by decide +kernel
theorem dL_owner_28 : decode cL_owner 28 = .ok (.imul, 1) := by decide +kernel
theorem dL_owner_29 : decode cL_owner 29 = .ok (.iaload, 1) := by decide +kernel
theorem dL_owner_30 : decode cL_owner 30 = .ok (.if_icmp .ne 8, 3) := by decide +kernel
theorem dL_owner_33 : decode cL_owner 33 = .ok (.iload 4, 2) := by decide +kernel
theorem dL_owner_35 : decode cL_owner 35 = .ok (.goto 10, 3) := by decide +kernel
theorem dL_owner_38 : decode cL_owner 38 = .ok (.aload_n 0, 1) := by decide +kernel
theorem dL_owner_39 : decode cL_owner 39 = .ok (.iload 4, 2) := by decide +kernel
theorem dL_owner_41 : decode cL_owner 41 = .ok (.iload_n 3, 1) := by decide +kernel
theorem dL_owner_42 : decode cL_owner 42 = .ok (.invokevirtual 36, 3) := by decide +kernel
theorem dL_owner_45 : decode cL_owner 45 = .ok (.ireturn, 1) := by decide +kernel
theorem dL_placeOf_0 : decode cL_placeOf 0 = .ok (.iconst 0, 1) := by decide +kernel
theorem dL_placeOf_1 : decode cL_placeOf 1 = .ok (.istore 4, 2) := by decide +kernel
theorem dL_placeOf_3 : decode cL_placeOf 3 = .ok (.iload 4, 2) := by decide +kernel
theorem dL_placeOf_5 : decode cL_placeOf 5 = .ok (.aload_n 0, 1) := by decide +kernel
theorem dL_placeOf_6 : decode cL_placeOf 6 = .ok (.iload_n 2, 1) := by decide +kernel
theorem dL_placeOf_7 : decode cL_placeOf 7 = .ok (.iload_n 1, 1) := by decide +kernel
theorem dL_placeOf_8 : decode cL_placeOf 8 = .ok (.invokevirtual 39, 3) := by decide +kernel
theorem dL_placeOf_11 : decode cL_placeOf 11 = .ok (.if_icmp .ge 24, 3) := by decide +kernel
theorem dL_placeOf_14 : decode cL_placeOf 14 = .ok (.aload_n 0, 1) := by decide +kernel
theorem dL_placeOf_15 : decode cL_placeOf 15 = .ok (.iload_n 2, 1) := by decide +kernel
theorem dL_placeOf_16 : decode cL_placeOf 16 = .ok (.iload_n 1, 1) := by decide +kernel
theorem dL_placeOf_17 : decode cL_placeOf 17 = .ok (.iload 4, 2) := by decide +kernel
theorem dL_placeOf_19 : decode cL_placeOf 19 = .ok (.invokevirtual 45, 3) := by decide +kernel
theorem dL_placeOf_22 : decode cL_placeOf 22 = .ok (.iload_n 3, 1) := by decide +kernel
theorem dL_placeOf_23 : decode cL_placeOf 23 = .ok (.if_icmp .ne 6, 3) := by decide +kernel
theorem dL_placeOf_26 : decode cL_placeOf 26 = .ok (.iload 4, 2) := by decide +kernel
theorem dL_placeOf_28 : decode cL_placeOf 28 = .ok (.ireturn, 1) := by decide +kernel
theorem dL_placeOf_29 : decode cL_placeOf 29 = .ok (.iinc 4 1, 3) := by decide +kernel
theorem dL_placeOf_32 : decode cL_placeOf 32 = .ok (.goto (-29), 3) := by decide +kernel
theorem dL_placeOf_35 : decode cL_placeOf 35 = .ok (.iconst (-1), 1) := by decide +kernel
theorem dL_placeOf_36 : decode cL_placeOf 36 = .ok (.ireturn, 1) := by decide +kernel
theorem dL_finds_0 : decode cL_finds 0 = .ok (.bipush 11, 2) := by decide +kernel
theorem dL_finds_2 : decode cL_finds 2 = .ok (.newarray .int, 2) := by decide +kernel
theorem dL_finds_4 : decode cL_finds 4 = .ok (.astore 7, 2) := by decide +kernel
theorem dL_finds_6 : decode cL_finds 6 = .ok (.aload_n 0, 1) := by decide +kernel
theorem dL_finds_7 : decode cL_finds 7 = .ok (.aload 6, 2) := by decide +kernel
theorem dL_finds_9 : decode cL_finds 9 = .ok (.aload 7, 2) := by decide +kernel
theorem dL_finds_11 : decode cL_finds 11 = .ok (.invokestatic 77, 3) := by decide +kernel
theorem dL_finds_14 : decode cL_finds 14 = .ok (.iconst (-1), 1) := by decide +kernel
theorem dL_finds_15 : decode cL_finds 15 = .ok (.istore 8, 2) := by decide +kernel
theorem dL_finds_17 : decode cL_finds 17 = .ok (.iconst (-1), 1) := by decide +kernel
theorem dL_finds_18 : decode cL_finds 18 = .ok (.istore 9, 2) := by decide +kernel
theorem dL_finds_20 : decode cL_finds 20 = .ok (.aload 6, 2) := by decide +kernel
theorem dL_finds_22 : decode cL_finds 22 = .ok (.iconst 0, 1) := by decide +kernel
theorem dL_finds_23 : decode cL_finds 23 = .ok (.iaload, 1) := by decide +kernel
theorem dL_finds_24 : decode cL_finds 24 = .ok (.ifCond .ne 7, 3) := by decide +kernel
theorem dL_finds_27 : decode cL_finds 27 = .ok (.iconst (-1), 1) := by decide +kernel
theorem dL_finds_28 : decode cL_finds 28 = .ok (.goto 9, 3) := by decide +kernel
theorem dL_finds_31 : decode cL_finds 31 = .ok (.iload_n 2, 1) := by decide +kernel
theorem dL_finds_32 : decode cL_finds 32 = .ok (.aload 6, 2) := by decide +kernel
theorem dL_finds_34 : decode cL_finds 34 = .ok (.iconst 0, 1) := by decide +kernel
theorem dL_finds_35 : decode cL_finds 35 = .ok (.iaload, 1) := by decide +kernel
theorem dL_finds_36 : decode cL_finds 36 = .ok (.irem, 1) := by decide +kernel
theorem dL_finds_37 : decode cL_finds 37 = .ok (.istore 10, 2) := by decide +kernel
theorem dL_finds_39 : decode cL_finds 39 = .ok (.iload_n 1, 1) := by decide +kernel
theorem dL_finds_40 : decode cL_finds 40 = .ok (.ifCond .eq 8, 3) := by decide +kernel
theorem dL_finds_43 : decode cL_finds 43 = .ok (.iload 10, 2) := by decide +kernel
theorem dL_finds_45 : decode cL_finds 45 = .ok (.ifCond .ge 52, 3) := by decide +kernel
theorem dL_finds_48 : decode cL_finds 48 = .ok (.iload_n 3, 1) := by decide +kernel
theorem dL_finds_49 : decode cL_finds 49 = .ok (.bipush 62, 2) := by decide +kernel
theorem dL_finds_51 : decode cL_finds 51 = .ok (.irem, 1) := by decide +kernel
theorem dL_finds_52 : decode cL_finds 52 = .ok (.iconst 1, 1) := by decide +kernel
theorem dL_finds_53 : decode cL_finds 53 = .ok (.isub, 1) := by decide +kernel
theorem dL_finds_54 : decode cL_finds 54 = .ok (.istore 11, 2) := by decide +kernel
theorem dL_finds_56 : decode cL_finds 56 = .ok (.iload 11, 2) := by decide +kernel
theorem dL_finds_58 : decode cL_finds 58 = .ok (.ifCond .lt 25, 3) := by decide +kernel
theorem dL_finds_61 : decode cL_finds 61 = .ok (.iload 11, 2) := by decide +kernel
theorem dL_finds_63 : decode cL_finds 63 = .ok (.aload 6, 2) := by decide +kernel
theorem dL_finds_65 : decode cL_finds 65 = .ok (.iconst 1, 1) := by decide +kernel
theorem dL_finds_66 : decode cL_finds 66 = .ok (.iaload, 1) := by decide +kernel
theorem dL_finds_67 : decode cL_finds 67 = .ok (.if_icmp .ge 16, 3) := by decide +kernel
theorem dL_finds_70 : decode cL_finds 70 = .ok (.aload 5, 2) := by decide +kernel
theorem dL_finds_72 : decode cL_finds 72 = .ok (.iload 11, 2) := by decide +kernel
theorem dL_finds_74 : decode cL_finds 74 = .ok (.iaload, 1) := by decide +kernel
theorem dL_finds_75 : decode cL_finds 75 = .ok (.ifCond .eq 8, 3) := by decide +kernel
theorem dL_finds_78 : decode cL_finds 78 = .ok (.iload 11, 2) := by decide +kernel
theorem dL_finds_80 : decode cL_finds 80 = .ok (.goto 4, 3) := by decide +kernel
theorem dL_finds_83 : decode cL_finds 83 = .ok (.iconst (-1), 1) := by decide +kernel
theorem dL_finds_84 : decode cL_finds 84 = .ok (.istore 9, 2) := by decide +kernel
theorem dL_finds_86 : decode cL_finds 86 = .ok (.aload_n 0, 1) := by decide +kernel
theorem dL_finds_87 : decode cL_finds 87 = .ok (.iload 11, 2) := by decide +kernel
theorem dL_finds_89 : decode cL_finds 89 = .ok (.invokevirtual 81, 3) := by decide +kernel
theorem dL_finds_92 : decode cL_finds 92 = .ok (.istore 8, 2) := by decide +kernel
theorem dL_finds_94 : decode cL_finds 94 = .ok (.goto 431, 3) := by decide +kernel
theorem dL_finds_97 : decode cL_finds 97 = .ok (.iload_n 1, 1) := by decide +kernel
theorem dL_finds_98 : decode cL_finds 98 = .ok (.iconst 1, 1) := by decide +kernel
theorem dL_finds_99 : decode cL_finds 99 = .ok (.if_icmp .ne 92, 3) := by decide +kernel
theorem dL_finds_102 : decode cL_finds 102 = .ok (.iload_n 3, 1) := by decide +kernel
theorem dL_finds_103 : decode cL_finds 103 = .ok (.iconst 2, 1) := by decide +kernel
theorem dL_finds_104 : decode cL_finds 104 = .ok (.irem, 1) := by decide +kernel
theorem dL_finds_105 : decode cL_finds 105 = .ok (.ifCond .ne 7, 3) := by decide +kernel
theorem dL_finds_108 : decode cL_finds 108 = .ok (.iconst (-1), 1) := by decide +kernel
theorem dL_finds_109 : decode cL_finds 109 = .ok (.goto 11, 3) := by decide +kernel
theorem dL_finds_112 : decode cL_finds 112 = .ok (.aload 7, 2) := by decide +kernel
theorem dL_finds_114 : decode cL_finds 114 = .ok (.iconst 1, 1) := by decide +kernel
theorem dL_finds_115 : decode cL_finds 115 = .ok (.iload_n 2, 1) := by decide +kernel
theorem dL_finds_116 : decode cL_finds 116 = .ok (.iconst 4, 1) := by decide +kernel
theorem dL_finds_117 : decode cL_finds 117 = .ok (.irem, 1) := by decide +kernel
theorem dL_finds_118 : decode cL_finds 118 = .ok (.iadd, 1) := by decide +kernel
theorem dL_finds_119 : decode cL_finds 119 = .ok (.iaload, 1) := by decide +kernel
theorem dL_finds_120 : decode cL_finds 120 = .ok (.istore 11, 2) := by decide +kernel
theorem dL_finds_122 : decode cL_finds 122 = .ok (.aload 6, 2) := by decide +kernel
theorem dL_finds_124 : decode cL_finds 124 = .ok (.iconst 1, 1) := by decide +kernel
theorem dL_finds_125 : decode cL_finds 125 = .ok (.iaload, 1) := by decide +kernel
theorem dL_finds_126 : decode cL_finds 126 = .ok (.iconst 1, 1) := by decide +kernel
theorem dL_finds_127 : decode cL_finds 127 = .ok (.isub, 1) := by decide +kernel
theorem dL_finds_128 : decode cL_finds 128 = .ok (.istore 12, 2) := by decide +kernel
theorem dL_finds_130 : decode cL_finds 130 = .ok (.iload 12, 2) := by decide +kernel
theorem dL_finds_132 : decode cL_finds 132 = .ok (.iload 11, 2) := by decide +kernel
theorem dL_finds_134 : decode cL_finds 134 = .ok (.if_icmp .le 34, 3) := by decide +kernel
theorem dL_finds_137 : decode cL_finds 137 = .ok (.aload 5, 2) := by decide +kernel
theorem dL_finds_139 : decode cL_finds 139 = .ok (.iload 12, 2) := by decide +kernel
theorem dL_finds_141 : decode cL_finds 141 = .ok (.iaload, 1) := by decide +kernel
theorem dL_finds_142 : decode cL_finds 142 = .ok (.bipush 7, 2) := by decide +kernel
theorem dL_finds_144 : decode cL_finds 144 = .ok (.iand, 1) := by decide +kernel
theorem dL_finds_145 : decode cL_finds 145 = .ok (.iconst 1, 1) := by decide +kernel
theorem dL_finds_146 : decode cL_finds 146 = .ok (.isub, 1) := by decide +kernel
theorem dL_finds_147 : decode cL_finds 147 = .ok (.iload_n 2, 1) := by decide +kernel
theorem dL_finds_148 : decode cL_finds 148 = .ok (.iconst 4, 1) := by decide +kernel
theorem dL_finds_149 : decode cL_finds 149 = .ok (.irem, 1) := by decide +kernel
theorem dL_finds_150 : decode cL_finds 150 = .ok (.if_icmp .ne 8, 3) := by decide +kernel
theorem dL_finds_153 : decode cL_finds 153 = .ok (.iload 12, 2) := by decide +kernel
theorem dL_finds_155 : decode cL_finds 155 = .ok (.goto 5, 3) := by decide +kernel
theorem dL_finds_158 : decode cL_finds 158 = .ok (.iload 9, 2) := by decide +kernel
theorem dL_finds_160 : decode cL_finds 160 = .ok (.istore 9, 2) := by decide +kernel
theorem dL_finds_162 : decode cL_finds 162 = .ok (.iinc 12 (-1), 3) := by decide +kernel
theorem dL_finds_165 : decode cL_finds 165 = .ok (.goto (-35), 3) := by decide +kernel
theorem dL_finds_168 : decode cL_finds 168 = .ok (.aload_n 0, 1) := by decide +kernel
theorem dL_finds_169 : decode cL_finds 169 = .ok (.iload_n 2, 1) := by decide +kernel
theorem dL_finds_170 : decode cL_finds 170 = .ok (.iconst 4, 1) := by decide +kernel
theorem dL_finds_171 : decode cL_finds 171 = .ok (.irem, 1) := by decide +kernel
theorem dL_finds_172 : decode cL_finds 172 = .ok (.iload_n 3, 1) := by decide +kernel
theorem dL_finds_173 : decode cL_finds 173 = .ok (.iconst 2, 1) := by decide +kernel
theorem dL_finds_174 : decode cL_finds 174 = .ok (.irem, 1) := by decide +kernel
theorem dL_finds_175 : decode cL_finds 175 = .ok (.ifCond .ne 7, 3) := by decide +kernel
theorem dL_finds_178 : decode cL_finds 178 = .ok (.iconst 1, 1) := by decide +kernel
theorem dL_finds_179 : decode cL_finds 179 = .ok (.goto 4, 3) := by decide +kernel
theorem dL_finds_182 : decode cL_finds 182 = .ok (.iconst 0, 1) := by decide +kernel
theorem dL_finds_183 : decode cL_finds 183 = .ok (.invokevirtual 84, 3) := by decide +kernel
theorem dL_finds_186 : decode cL_finds 186 = .ok (.istore 8, 2) := by decide +kernel
theorem dL_finds_188 : decode cL_finds 188 = .ok (.goto 337, 3) := by decide +kernel
theorem dL_finds_191 : decode cL_finds 191 = .ok (.aload_n 0, 1) := by decide +kernel
theorem dL_finds_192 : decode cL_finds 192 = .ok (.aload 4, 2) := by decide +kernel
theorem dL_finds_194 : decode cL_finds 194 = .ok (.aload 5, 2) := by decide +kernel
theorem dL_finds_196 : decode cL_finds 196 = .ok (.iload 10, 2) := by decide +kernel
theorem dL_finds_198 : decode cL_finds 198 = .ok (.invokestatic 88, 3) := by decide +kernel
theorem dL_finds_201 : decode cL_finds 201 = .ok (.istore 11, 2) := by decide +kernel
theorem dL_finds_203 : decode cL_finds 203 = .ok (.iload 11, 2) := by decide +kernel
theorem dL_finds_205 : decode cL_finds 205 = .ok (.ifCond .ge 7, 3) := by decide +kernel
theorem dL_finds_208 : decode cL_finds 208 = .ok (.iconst 0, 1) := by decide +kernel
theorem dL_finds_209 : decode cL_finds 209 = .ok (.goto 11, 3) := by decide +kernel
theorem dL_finds_212 : decode cL_finds 212 = .ok (.aload_n 0, 1) := by decide +kernel
theorem dL_finds_213 : decode cL_finds 213 = .ok (.iload 11, 2) := by decide +kernel
theorem dL_finds_215 : decode cL_finds 215 = .ok (.iload 10, 2) := by decide +kernel
theorem dL_finds_217 : decode cL_finds 217 = .ok (.invokevirtual 39, 3) := by decide +kernel
theorem dL_finds_220 : decode cL_finds 220 = .ok (.istore 12, 2) := by decide +kernel
theorem dL_finds_222 : decode cL_finds 222 = .ok (.iload 11, 2) := by decide +kernel
theorem dL_finds_224 : decode cL_finds 224 = .ok (.ifCond .lt 15, 3) := by decide +kernel
theorem dL_finds_227 : decode cL_finds 227 = .ok (.aload 7, 2) := by decide +kernel
theorem dL_finds_229 : decode cL_finds 229 = .ok (.iconst 5, 1) := by decide +kernel
theorem dL_finds_230 : decode cL_finds 230 = .ok (.iload 10, 2) := by decide +kernel
theorem dL_finds_232 : decode cL_finds 232 = .ok (.iadd, 1) := by decide +kernel
theorem dL_finds_233 : decode cL_finds 233 = .ok (.iaload, 1) := by decide +kernel
theorem dL_finds_234 : decode cL_finds 234 = .ok (.iload 11, 2) := by decide +kernel
theorem dL_finds_236 : decode cL_finds 236 = .ok (.if_icmp .ne 7, 3) := by decide +kernel
theorem dL_finds_239 : decode cL_finds 239 = .ok (.iconst (-1), 1) := by decide +kernel
theorem dL_finds_240 : decode cL_finds 240 = .ok (.goto 18, 3) := by decide +kernel
theorem dL_finds_243 : decode cL_finds 243 = .ok (.aload_n 0, 1) := by decide +kernel
theorem dL_finds_244 : decode cL_finds 244 = .ok (.iload 10, 2) := by decide +kernel
theorem dL_finds_246 : decode cL_finds 246 = .ok (.iload 11, 2) := by decide +kernel
theorem dL_finds_248 : decode cL_finds 248 = .ok (.aload 7, 2) := by decide +kernel
theorem dL_finds_250 : decode cL_finds 250 = .ok (.iconst 5, 1) := by decide +kernel
theorem dL_finds_251 : decode cL_finds 251 = .ok (.iload 10, 2) := by decide +kernel
theorem dL_finds_253 : decode cL_finds 253 = .ok (.iadd, 1) := by decide +kernel
theorem dL_finds_254 : decode cL_finds 254 = .ok (.iaload, 1) := by decide +kernel
theorem dL_finds_255 : decode cL_finds 255 = .ok (.invokestatic 92, 3) := by decide +kernel
theorem dL_finds_258 : decode cL_finds 258 = .ok (.istore 13, 2) := by decide +kernel
theorem dL_finds_260 : decode cL_finds 260 = .ok (.iload_n 1, 1) := by decide +kernel
theorem dL_finds_261 : decode cL_finds 261 = .ok (.iconst 2, 1) := by decide +kernel
theorem dL_finds_262 : decode cL_finds 262 = .ok (.if_icmp .ne 58, 3) := by decide +kernel
theorem dL_finds_265 : decode cL_finds 265 = .ok (.iload 12, 2) := by decide +kernel
theorem dL_finds_267 : decode cL_finds 267 = .ok (.ifCond .ne 7, 3) := by decide +kernel
theorem dL_finds_270 : decode cL_finds 270 = .ok (.iconst (-1), 1) := by decide +kernel
theorem dL_finds_271 : decode cL_finds 271 = .ok (.goto 25, 3) := by decide +kernel
theorem dL_finds_274 : decode cL_finds 274 = .ok (.aload_n 0, 1) := by decide +kernel
theorem dL_finds_275 : decode cL_finds 275 = .ok (.iload 11, 2) := by decide +kernel
theorem dL_finds_277 : decode cL_finds 277 = .ok (.iload 10, 2) := by decide +kernel
theorem dL_finds_279 : decode cL_finds 279 = .ok (.iload_n 3, 1) := by decide +kernel
theorem dL_finds_280 : decode cL_finds 280 = .ok (.iconst 2, 1) := by decide +kernel
theorem dL_finds_281 : decode cL_finds 281 = .ok (.irem, 1) := by decide +kernel
theorem dL_finds_282 : decode cL_finds 282 = .ok (.ifCond .ne 7, 3) := by decide +kernel
theorem dL_finds_285 : decode cL_finds 285 = .ok (.iconst 0, 1) := by decide +kernel
theorem dL_finds_286 : decode cL_finds 286 = .ok (.goto 7, 3) := by decide +kernel
theorem dL_finds_289 : decode cL_finds 289 = .ok (.iload 12, 2) := by decide +kernel
theorem dL_finds_291 : decode cL_finds 291 = .ok (.iconst 1, 1) := by decide +kernel
theorem dL_finds_292 : decode cL_finds 292 = .ok (.isub, 1) := by decide +kernel
theorem dL_finds_293 : decode cL_finds 293 = .ok (.invokevirtual 45, 3) := by decide +kernel
theorem dL_finds_296 : decode cL_finds 296 = .ok (.istore 9, 2) := by decide +kernel
theorem dL_finds_298 : decode cL_finds 298 = .ok (.aload_n 0, 1) := by decide +kernel
theorem dL_finds_299 : decode cL_finds 299 = .ok (.iload 10, 2) := by decide +kernel
theorem dL_finds_301 : decode cL_finds 301 = .ok (.iload_n 3, 1) := by decide +kernel
theorem dL_finds_302 : decode cL_finds 302 = .ok (.iconst 2, 1) := by decide +kernel
theorem dL_finds_303 : decode cL_finds 303 = .ok (.irem, 1) := by decide +kernel
theorem dL_finds_304 : decode cL_finds 304 = .ok (.ifCond .le 7, 3) := by decide +kernel
theorem dL_finds_307 : decode cL_finds 307 = .ok (.iconst 1, 1) := by decide +kernel
theorem dL_finds_308 : decode cL_finds 308 = .ok (.goto 4, 3) := by decide +kernel
theorem dL_finds_311 : decode cL_finds 311 = .ok (.iconst 0, 1) := by decide +kernel
theorem dL_finds_312 : decode cL_finds 312 = .ok (.invokevirtual 96, 3) := by decide +kernel
theorem dL_finds_315 : decode cL_finds 315 = .ok (.istore 8, 2) := by decide +kernel
theorem dL_finds_317 : decode cL_finds 317 = .ok (.goto 208, 3) := by decide +kernel
theorem dL_finds_320 : decode cL_finds 320 = .ok (.iload_n 1, 1) := by decide +kernel
theorem dL_finds_321 : decode cL_finds 321 = .ok (.iconst 3, 1) := by decide +kernel
theorem dL_finds_322 : decode cL_finds 322 = .ok (.if_icmp .ne 84, 3) := by decide +kernel
theorem dL_finds_325 : decode cL_finds 325 = .ok (.iload_n 3, 1) := by decide +kernel
theorem dL_finds_326 : decode cL_finds 326 = .ok (.iconst 2, 1) := by decide +kernel
theorem dL_finds_327 : decode cL_finds 327 = .ok (.irem, 1) := by decide +kernel
theorem dL_finds_328 : decode cL_finds 328 = .ok (.ifCond .ne 10, 3) := by decide +kernel
theorem dL_finds_331 : decode cL_finds 331 = .ok (.iload 13, 2) := by decide +kernel
theorem dL_finds_333 : decode cL_finds 333 = .ok (.iconst 1, 1) := by decide +kernel
theorem dL_finds_334 : decode cL_finds 334 = .ok (.iadd, 1) := by decide +kernel
theorem dL_finds_335 : decode cL_finds 335 = .ok (.goto 19, 3) := by decide +kernel
theorem dL_finds_338 : decode cL_finds 338 = .ok (.iload 13, 2) := by decide +kernel
theorem dL_finds_340 : decode cL_finds 340 = .ok (.ifCond .ge 10, 3) := by decide +kernel
theorem dL_finds_343 : decode cL_finds 343 = .ok (.iload 12, 2) := by decide +kernel
theorem dL_finds_345 : decode cL_finds 345 = .ok (.iconst 1, 1) := by decide +kernel
theorem dL_finds_346 : decode cL_finds 346 = .ok (.isub, 1) := by decide +kernel
theorem dL_finds_347 : decode cL_finds 347 = .ok (.goto 7, 3) := by decide +kernel
theorem dL_finds_350 : decode cL_finds 350 = .ok (.iload 13, 2) := by decide +kernel
theorem dL_finds_352 : decode cL_finds 352 = .ok (.iconst 1, 1) := by decide +kernel
theorem dL_finds_353 : decode cL_finds 353 = .ok (.isub, 1) := by decide +kernel
theorem dL_finds_354 : decode cL_finds 354 = .ok (.istore 14, 2) := by decide +kernel
theorem dL_finds_356 : decode cL_finds 356 = .ok (.iload 14, 2) := by decide +kernel
theorem dL_finds_358 : decode cL_finds 358 = .ok (.ifCond .lt 23, 3) := by decide +kernel
theorem dL_finds_361 : decode cL_finds 361 = .ok (.iload 14, 2) := by decide +kernel
theorem dL_finds_363 : decode cL_finds 363 = .ok (.iload 12, 2) := by decide +kernel
theorem dL_finds_365 : decode cL_finds 365 = .ok (.if_icmp .ge 16, 3) := by decide +kernel
theorem dL_finds_368 : decode cL_finds 368 = .ok (.aload_n 0, 1) := by decide +kernel
theorem dL_finds_369 : decode cL_finds 369 = .ok (.iload 11, 2) := by decide +kernel
theorem dL_finds_371 : decode cL_finds 371 = .ok (.iload 10, 2) := by decide +kernel
theorem dL_finds_373 : decode cL_finds 373 = .ok (.iload 14, 2) := by decide +kernel
theorem dL_finds_375 : decode cL_finds 375 = .ok (.invokevirtual 45, 3) := by decide +kernel
theorem dL_finds_378 : decode cL_finds 378 = .ok (.goto 4, 3) := by decide +kernel
theorem dL_finds_381 : decode cL_finds 381 = .ok (.iconst (-1), 1) := by decide +kernel
theorem dL_finds_382 : decode cL_finds 382 = .ok (.istore 9, 2) := by decide +kernel
theorem dL_finds_384 : decode cL_finds 384 = .ok (.aload_n 0, 1) := by decide +kernel
theorem dL_finds_385 : decode cL_finds 385 = .ok (.iload 10, 2) := by decide +kernel
theorem dL_finds_387 : decode cL_finds 387 = .ok (.iload_n 3, 1) := by decide +kernel
theorem dL_finds_388 : decode cL_finds 388 = .ok (.iconst 2, 1) := by decide +kernel
theorem dL_finds_389 : decode cL_finds 389 = .ok (.irem, 1) := by decide +kernel
theorem dL_finds_390 : decode cL_finds 390 = .ok (.ifCond .le 7, 3) := by decide +kernel
theorem dL_finds_393 : decode cL_finds 393 = .ok (.iconst 1, 1) := by decide +kernel
theorem dL_finds_394 : decode cL_finds 394 = .ok (.goto 4, 3) := by decide +kernel
theorem dL_finds_397 : decode cL_finds 397 = .ok (.iconst 0, 1) := by decide +kernel
theorem dL_finds_398 : decode cL_finds 398 = .ok (.invokevirtual 99, 3) := by decide +kernel
theorem dL_finds_401 : decode cL_finds 401 = .ok (.istore 8, 2) := by decide +kernel
theorem dL_finds_403 : decode cL_finds 403 = .ok (.goto 122, 3) := by decide +kernel
theorem dL_finds_406 : decode cL_finds 406 = .ok (.iload_n 1, 1) := by decide +kernel
theorem dL_finds_407 : decode cL_finds 407 = .ok (.iconst 4, 1) := by decide +kernel
theorem dL_finds_408 : decode cL_finds 408 = .ok (.if_icmp .ne 18, 3) := by decide +kernel
theorem dL_finds_411 : decode cL_finds 411 = .ok (.iload 11, 2) := by decide +kernel
theorem dL_finds_413 : decode cL_finds 413 = .ok (.istore 9, 2) := by decide +kernel
theorem dL_finds_415 : decode cL_finds 415 = .ok (.aload_n 0, 1) := by decide +kernel
theorem dL_finds_416 : decode cL_finds 416 = .ok (.iload 10, 2) := by decide +kernel
theorem dL_finds_418 : decode cL_finds 418 = .ok (.invokevirtual 102, 3) := by decide +kernel
theorem dL_finds_421 : decode cL_finds 421 = .ok (.istore 8, 2) := by decide +kernel
theorem dL_finds_423 : decode cL_finds 423 = .ok (.goto 102, 3) := by decide +kernel
theorem dL_finds_426 : decode cL_finds 426 = .ok (.iload 12, 2) := by decide +kernel
theorem dL_finds_428 : decode cL_finds 428 = .ok (.ifCond .eq 9, 3) := by decide +kernel
theorem dL_finds_431 : decode cL_finds 431 = .ok (.iload_n 3, 1) := by decide +kernel
theorem dL_finds_432 : decode cL_finds 432 = .ok (.iconst 3, 1) := by decide +kernel
theorem dL_finds_433 : decode cL_finds 433 = .ok (.irem, 1) := by decide +kernel
theorem dL_finds_434 : decode cL_finds 434 = .ok (.ifCond .ne 10, 3) := by decide +kernel
theorem dL_finds_437 : decode cL_finds 437 = .ok (.iload_n 3, 1) := by decide +kernel
theorem dL_finds_438 : decode cL_finds 438 = .ok (.bipush 9, 2) := by decide +kernel
theorem dL_finds_440 : decode cL_finds 440 = .ok (.irem, 1) := by decide +kernel
theorem dL_finds_441 : decode cL_finds 441 = .ok (.goto 19, 3) := by decide +kernel
theorem dL_finds_444 : decode cL_finds 444 = .ok (.aload_n 0, 1) := by decide +kernel
theorem dL_finds_445 : decode cL_finds 445 = .ok (.aload_n 0, 1) := by decide +kernel
theorem dL_finds_446 : decode cL_finds 446 = .ok (.iload 11, 2) := by decide +kernel
theorem dL_finds_448 : decode cL_finds 448 = .ok (.iload 10, 2) := by decide +kernel
theorem dL_finds_450 : decode cL_finds 450 = .ok (.iload_n 3, 1) := by decide +kernel
theorem dL_finds_451 : decode cL_finds 451 = .ok (.iload 12, 2) := by decide +kernel
theorem dL_finds_453 : decode cL_finds 453 = .ok (.irem, 1) := by decide +kernel
theorem dL_finds_454 : decode cL_finds 454 = .ok (.invokevirtual 45, 3) := by decide +kernel
theorem dL_finds_457 : decode cL_finds 457 = .ok (.invokevirtual 49, 3) := by decide +kernel
theorem dL_finds_460 : decode cL_finds 460 = .ok (.istore 14, 2) := by decide +kernel
theorem dL_finds_462 : decode cL_finds 462 = .ok (.iload 12, 2) := by decide +kernel
theorem dL_finds_464 : decode cL_finds 464 = .ok (.iconst 1, 1) := by decide +kernel
theorem dL_finds_465 : decode cL_finds 465 = .ok (.isub, 1) := by decide +kernel
theorem dL_finds_466 : decode cL_finds 466 = .ok (.istore 15, 2) := by decide +kernel
theorem dL_finds_468 : decode cL_finds 468 = .ok (.iload 15, 2) := by decide +kernel
theorem dL_finds_470 : decode cL_finds 470 = .ok (.ifCond .lt 45, 3) := by decide +kernel
theorem dL_finds_473 : decode cL_finds 473 = .ok (.aload_n 0, 1) := by decide +kernel
theorem dL_finds_474 : decode cL_finds 474 = .ok (.aload_n 0, 1) := by decide +kernel
theorem dL_finds_475 : decode cL_finds 475 = .ok (.iload 11, 2) := by decide +kernel
theorem dL_finds_477 : decode cL_finds 477 = .ok (.iload 10, 2) := by decide +kernel
theorem dL_finds_479 : decode cL_finds 479 = .ok (.iload 15, 2) := by decide +kernel
theorem dL_finds_481 : decode cL_finds 481 = .ok (.invokevirtual 45, 3) := by decide +kernel
theorem dL_finds_484 : decode cL_finds 484 = .ok (.invokevirtual 49, 3) := by decide +kernel
theorem dL_finds_487 : decode cL_finds 487 = .ok (.iload 14, 2) := by decide +kernel
theorem dL_finds_489 : decode cL_finds 489 = .ok (.if_icmp .ne 16, 3) := by decide +kernel
theorem dL_finds_492 : decode cL_finds 492 = .ok (.aload_n 0, 1) := by decide +kernel
theorem dL_finds_493 : decode cL_finds 493 = .ok (.iload 11, 2) := by decide +kernel
theorem dL_finds_495 : decode cL_finds 495 = .ok (.iload 10, 2) := by decide +kernel
theorem dL_finds_497 : decode cL_finds 497 = .ok (.iload 15, 2) := by decide +kernel
theorem dL_finds_499 : decode cL_finds 499 = .ok (.invokevirtual 45, 3) := by decide +kernel
theorem dL_finds_502 : decode cL_finds 502 = .ok (.goto 5, 3) := by decide +kernel
theorem dL_finds_505 : decode cL_finds 505 = .ok (.iload 9, 2) := by decide +kernel
theorem dL_finds_507 : decode cL_finds 507 = .ok (.istore 9, 2) := by decide +kernel
theorem dL_finds_509 : decode cL_finds 509 = .ok (.iinc 15 (-1), 3) := by decide +kernel
theorem dL_finds_512 : decode cL_finds 512 = .ok (.goto (-44), 3) := by decide +kernel
theorem dL_finds_515 : decode cL_finds 515 = .ok (.aload_n 0, 1) := by decide +kernel
theorem dL_finds_516 : decode cL_finds 516 = .ok (.iload 10, 2) := by decide +kernel
theorem dL_finds_518 : decode cL_finds 518 = .ok (.iload 14, 2) := by decide +kernel
theorem dL_finds_520 : decode cL_finds 520 = .ok (.invokevirtual 105, 3) := by decide +kernel
theorem dL_finds_523 : decode cL_finds 523 = .ok (.istore 8, 2) := by decide +kernel
theorem dL_finds_525 : decode cL_finds 525 = .ok (.iload 8, 2) := by decide +kernel
theorem dL_finds_527 : decode cL_finds 527 = .ok (.iload 9, 2) := by decide +kernel
theorem dL_finds_529 : decode cL_finds 529 = .ok (.if_icmp .ne 24, 3) := by decide +kernel
theorem dL_finds_532 : decode cL_finds 532 = .ok (.aload_n 0, 1) := by decide +kernel
theorem dL_finds_533 : decode cL_finds 533 = .ok (.aload 4, 2) := by decide +kernel
theorem dL_finds_535 : decode cL_finds 535 = .ok (.aload 5, 2) := by decide +kernel
theorem dL_finds_537 : decode cL_finds 537 = .ok (.aload 6, 2) := by decide +kernel
theorem dL_finds_539 : decode cL_finds 539 = .ok (.iload 8, 2) := by decide +kernel
theorem dL_finds_541 : decode cL_finds 541 = .ok (.aload 7, 2) := by decide +kernel
theorem dL_finds_543 : decode cL_finds 543 = .ok (.invokestatic 108, 3) := by decide +kernel
theorem dL_finds_546 : decode cL_finds 546 = .ok (.ifCond .eq 7, 3) := by decide +kernel
theorem dL_finds_549 : decode cL_finds 549 = .ok (.iconst 1, 1) := by decide +kernel
theorem dL_finds_550 : decode cL_finds 550 = .ok (.goto 4, 3) := by decide +kernel
theorem dL_finds_553 : decode cL_finds 553 = .ok (.iconst 0, 1) := by decide +kernel
theorem dL_finds_554 : decode cL_finds 554 = .ok (.ireturn, 1) := by decide +kernel
theorem dL_isPlaced_0 : decode cL_isPlaced 0 = .ok (.aload_n 0, 1) := by decide +kernel
theorem dL_isPlaced_1 : decode cL_isPlaced 1 = .ok (.iload_n 2, 1) := by decide +kernel
theorem dL_isPlaced_2 : decode cL_isPlaced 2 = .ok (.iload_n 3, 1) := by decide +kernel
theorem dL_isPlaced_3 : decode cL_isPlaced 3 = .ok (.iload 4, 2) := by decide +kernel
theorem dL_isPlaced_5 : decode cL_isPlaced 5 = .ok (.invokestatic 92, 3) := by decide +kernel
theorem dL_isPlaced_8 : decode cL_isPlaced 8 = .ok (.istore 7, 2) := by decide +kernel
theorem dL_isPlaced_10 : decode cL_isPlaced 10 = .ok (.aload_n 1, 1) := by decide +kernel
theorem dL_isPlaced_11 : decode cL_isPlaced 11 = .ok (.iconst 5, 1) := by decide +kernel
theorem dL_isPlaced_12 : decode cL_isPlaced 12 = .ok (.iload_n 2, 1) := by decide +kernel
theorem dL_isPlaced_13 : decode cL_isPlaced 13 = .ok (.imul, 1) := by decide +kernel
theorem dL_isPlaced_14 : decode cL_isPlaced 14 = .ok (.iconst 2, 1) := by decide +kernel
theorem dL_isPlaced_15 : decode cL_isPlaced 15 = .ok (.iadd, 1) := by decide +kernel
theorem dL_isPlaced_16 : decode cL_isPlaced 16 = .ok (.iaload, 1) := by decide +kernel
theorem dL_isPlaced_17 : decode cL_isPlaced 17 = .ok (.istore 8, 2) := by decide +kernel
theorem dL_isPlaced_19 : decode cL_isPlaced 19 = .ok (.iload 8, 2) := by decide +kernel
theorem dL_isPlaced_21 : decode cL_isPlaced 21 = .ok (.iconst 4, 1) := by decide +kernel
theorem dL_isPlaced_22 : decode cL_isPlaced 22 = .ok (.if_icmp .ne 67, 3) := by decide +kernel
theorem dL_isPlaced_25 : decode cL_isPlaced 25 = .ok (.aload_n 0, 1) := by decide +kernel
theorem dL_isPlaced_26 : decode cL_isPlaced 26 = .ok (.iload 4, 2) := by decide +kernel
theorem dL_isPlaced_28 : decode cL_isPlaced 28 = .ok (.invokevirtual 49, 3) := by decide +kernel
theorem dL_isPlaced_31 : decode cL_isPlaced 31 = .ok (.istore 9, 2) := by decide +kernel
theorem dL_isPlaced_33 : decode cL_isPlaced 33 = .ok (.iload 7, 2) := by decide +kernel
theorem dL_isPlaced_35 : decode cL_isPlaced 35 = .ok (.ifCond .eq 22, 3) := by decide +kernel
theorem dL_isPlaced_38 : decode cL_isPlaced 38 = .ok (.aload_n 0, 1) := by decide +kernel
theorem dL_isPlaced_39 : decode cL_isPlaced 39 = .ok (.aload_n 0, 1) := by decide +kernel
theorem dL_isPlaced_40 : decode cL_isPlaced 40 = .ok (.iload_n 3, 1) := by decide +kernel
theorem dL_isPlaced_41 : decode cL_isPlaced 41 = .ok (.iload_n 2, 1) := by decide +kernel
theorem dL_isPlaced_42 : decode cL_isPlaced 42 = .ok (.iload 7, 2) := by decide +kernel
theorem dL_isPlaced_44 : decode cL_isPlaced 44 = .ok (.iconst 1, 1) := by decide +kernel
theorem dL_isPlaced_45 : decode cL_isPlaced 45 = .ok (.isub, 1) := by decide +kernel
theorem dL_isPlaced_46 : decode cL_isPlaced 46 = .ok (.invokevirtual 45, 3) := by decide +kernel
theorem dL_isPlaced_49 : decode cL_isPlaced 49 = .ok (.invokevirtual 49, 3) := by decide +kernel
theorem dL_isPlaced_52 : decode cL_isPlaced 52 = .ok (.iload 9, 2) := by decide +kernel
theorem dL_isPlaced_54 : decode cL_isPlaced 54 = .ok (.if_icmp .gt 33, 3) := by decide +kernel
theorem dL_isPlaced_57 : decode cL_isPlaced 57 = .ok (.iload 7, 2) := by decide +kernel
theorem dL_isPlaced_59 : decode cL_isPlaced 59 = .ok (.iload 5, 2) := by decide +kernel
theorem dL_isPlaced_61 : decode cL_isPlaced 61 = .ok (.if_icmp .eq 22, 3) := by decide +kernel
theorem dL_isPlaced_64 : decode cL_isPlaced 64 = .ok (.aload_n 0, 1) := by decide +kernel
theorem dL_isPlaced_65 : decode cL_isPlaced 65 = .ok (.aload_n 0, 1) := by decide +kernel
theorem dL_isPlaced_66 : decode cL_isPlaced 66 = .ok (.iload_n 3, 1) := by decide +kernel
theorem dL_isPlaced_67 : decode cL_isPlaced 67 = .ok (.iload_n 2, 1) := by decide +kernel
theorem dL_isPlaced_68 : decode cL_isPlaced 68 = .ok (.iload 7, 2) := by decide +kernel
theorem dL_isPlaced_70 : decode cL_isPlaced 70 = .ok (.iconst 1, 1) := by decide +kernel
theorem dL_isPlaced_71 : decode cL_isPlaced 71 = .ok (.iadd, 1) := by decide +kernel
theorem dL_isPlaced_72 : decode cL_isPlaced 72 = .ok (.invokevirtual 45, 3) := by decide +kernel
theorem dL_isPlaced_75 : decode cL_isPlaced 75 = .ok (.invokevirtual 49, 3) := by decide +kernel
theorem dL_isPlaced_78 : decode cL_isPlaced 78 = .ok (.iload 9, 2) := by decide +kernel
theorem dL_isPlaced_80 : decode cL_isPlaced 80 = .ok (.if_icmp .le 7, 3) := by decide +kernel
theorem dL_isPlaced_83 : decode cL_isPlaced 83 = .ok (.iconst 1, 1) := by decide +kernel
theorem dL_isPlaced_84 : decode cL_isPlaced 84 = .ok (.goto 4, 3) := by decide +kernel
theorem dL_isPlaced_87 : decode cL_isPlaced 87 = .ok (.iconst 0, 1) := by decide +kernel
theorem dL_isPlaced_88 : decode cL_isPlaced 88 = .ok (.ireturn, 1) := by decide +kernel
theorem dL_isPlaced_89 : decode cL_isPlaced 89 = .ok (.aload_n 0, 1) := by decide +kernel
theorem dL_isPlaced_90 : decode cL_isPlaced 90 = .ok (.iload_n 3, 1) := by decide +kernel
theorem dL_isPlaced_91 : decode cL_isPlaced 91 = .ok (.iload_n 2, 1) := by decide +kernel
theorem dL_isPlaced_92 : decode cL_isPlaced 92 = .ok (.invokevirtual 39, 3) := by decide +kernel
theorem dL_isPlaced_95 : decode cL_isPlaced 95 = .ok (.iload 5, 2) := by decide +kernel
theorem dL_isPlaced_97 : decode cL_isPlaced 97 = .ok (.iconst 1, 1) := by decide +kernel
theorem dL_isPlaced_98 : decode cL_isPlaced 98 = .ok (.iadd, 1) := by decide +kernel
theorem dL_isPlaced_99 : decode cL_isPlaced 99 = .ok (.if_icmp .ne 57, 3) := by decide +kernel
theorem dL_isPlaced_102 : decode cL_isPlaced 102 = .ok (.iload 7, 2) := by decide +kernel
theorem dL_isPlaced_104 : decode cL_isPlaced 104 = .ok (.iload 8, 2) := by decide +kernel
theorem dL_isPlaced_106 : decode cL_isPlaced 106 = .ok (.ifCond .ne 7, 3) := by decide +kernel
theorem dL_isPlaced_109 : decode cL_isPlaced 109 = .ok (.iconst 0, 1) := by decide +kernel
theorem dL_isPlaced_110 : decode cL_isPlaced 110 = .ok (.goto 39, 3) := by decide +kernel
theorem dL_isPlaced_113 : decode cL_isPlaced 113 = .ok (.iload 8, 2) := by decide +kernel
theorem dL_isPlaced_115 : decode cL_isPlaced 115 = .ok (.iconst 1, 1) := by decide +kernel
theorem dL_isPlaced_116 : decode cL_isPlaced 116 = .ok (.if_icmp .ne 8, 3) := by decide +kernel
theorem dL_isPlaced_119 : decode cL_isPlaced 119 = .ok (.iload 5, 2) := by decide +kernel
theorem dL_isPlaced_121 : decode cL_isPlaced 121 = .ok (.goto 28, 3) := by decide +kernel
theorem dL_isPlaced_124 : decode cL_isPlaced 124 = .ok (.iload 8, 2) := by decide +kernel
theorem dL_isPlaced_126 : decode cL_isPlaced 126 = .ok (.iconst 2, 1) := by decide +kernel
theorem dL_isPlaced_127 : decode cL_isPlaced 127 = .ok (.if_icmp .ne 10, 3) := by decide +kernel
theorem dL_isPlaced_130 : decode cL_isPlaced 130 = .ok (.iload 6, 2) := by decide +kernel
theorem dL_isPlaced_132 : decode cL_isPlaced 132 = .ok (.iconst 1, 1) := by decide +kernel
theorem dL_isPlaced_133 : decode cL_isPlaced 133 = .ok (.iadd, 1) := by decide +kernel
theorem dL_isPlaced_134 : decode cL_isPlaced 134 = .ok (.goto 15, 3) := by decide +kernel
theorem dL_isPlaced_137 : decode cL_isPlaced 137 = .ok (.iload 6, 2) := by decide +kernel
theorem dL_isPlaced_139 : decode cL_isPlaced 139 = .ok (.ifCond .ge 8, 3) := by decide +kernel
theorem dL_isPlaced_142 : decode cL_isPlaced 142 = .ok (.iload 5, 2) := by decide +kernel
theorem dL_isPlaced_144 : decode cL_isPlaced 144 = .ok (.goto 5, 3) := by decide +kernel
theorem dL_isPlaced_147 : decode cL_isPlaced 147 = .ok (.iload 6, 2) := by decide +kernel
theorem dL_isPlaced_149 : decode cL_isPlaced 149 = .ok (.if_icmp .ne 7, 3) := by decide +kernel
theorem dL_isPlaced_152 : decode cL_isPlaced 152 = .ok (.iconst 1, 1) := by decide +kernel
theorem dL_isPlaced_153 : decode cL_isPlaced 153 = .ok (.goto 4, 3) := by decide +kernel
theorem dL_isPlaced_156 : decode cL_isPlaced 156 = .ok (.iconst 0, 1) := by decide +kernel
theorem dL_isPlaced_157 : decode cL_isPlaced 157 = .ok (.ireturn, 1) := by decide +kernel
theorem dL_stores_0 : decode cL_stores 0 = .ok (.iload_n 1, 1) := by decide +kernel
theorem dL_stores_1 : decode cL_stores 1 = .ok (.iconst 4, 1) := by decide +kernel
theorem dL_stores_2 : decode cL_stores 2 = .ok (.irem, 1) := by decide +kernel
theorem dL_stores_3 : decode cL_stores 3 = .ok (.istore 6, 2) := by decide +kernel
theorem dL_stores_5 : decode cL_stores 5 = .ok (.iload_n 2, 1) := by decide +kernel
theorem dL_stores_6 : decode cL_stores 6 = .ok (.bipush 9, 2) := by decide +kernel
theorem dL_stores_8 : decode cL_stores 8 = .ok (.irem, 1) := by decide +kernel
theorem dL_stores_9 : decode cL_stores 9 = .ok (.iconst 2, 1) := by decide +kernel
theorem dL_stores_10 : decode cL_stores 10 = .ok (.isub, 1) := by decide +kernel
theorem dL_stores_11 : decode cL_stores 11 = .ok (.istore 7, 2) := by decide +kernel
theorem dL_stores_13 : decode cL_stores 13 = .ok (.bipush 11, 2) := by decide +kernel
theorem dL_stores_15 : decode cL_stores 15 = .ok (.newarray .int, 2) := by decide +kernel
theorem dL_stores_17 : decode cL_stores 17 = .ok (.astore 8, 2) := by decide +kernel
theorem dL_stores_19 : decode cL_stores 19 = .ok (.bipush 6, 2) := by decide +kernel
theorem dL_stores_21 : decode cL_stores 21 = .ok (.newarray .int, 2) := by decide +kernel
theorem dL_stores_23 : decode cL_stores 23 = .ok (.astore 9, 2) := by decide +kernel
theorem dL_stores_25 : decode cL_stores 25 = .ok (.bipush 6, 2) := by decide +kernel
theorem dL_stores_27 : decode cL_stores 27 = .ok (.newarray .int, 2) := by decide +kernel
theorem dL_stores_29 : decode cL_stores 29 = .ok (.astore 10, 2) := by decide +kernel
theorem dL_stores_31 : decode cL_stores 31 = .ok (.bipush 6, 2) := by decide +kernel
theorem dL_stores_33 : decode cL_stores 33 = .ok (.newarray .int, 2) := by decide +kernel
theorem dL_stores_35 : decode cL_stores 35 = .ok (.astore 11, 2) := by decide +kernel
theorem dL_stores_37 : decode cL_stores 37 = .ok (.aload 5, 2) := by decide +kernel
theorem dL_stores_39 : decode cL_stores 39 = .ok (.iconst 1, 1) := by decide +kernel
theorem dL_stores_40 : decode cL_stores 40 = .ok (.iaload, 1) := by decide +kernel
theorem dL_stores_41 : decode cL_stores 41 = .ok (.bipush 60, 2) := by decide +kernel
theorem dL_stores_43 : decode cL_stores 43 = .ok (.if_icmp .ge 7, 3) := by decide +kernel
theorem dL_stores_46 : decode cL_stores 46 = .ok (.iconst 1, 1) := by decide +kernel
theorem dL_stores_47 : decode cL_stores 47 = .ok (.goto 4, 3) := by decide +kernel
theorem dL_stores_50 : decode cL_stores 50 = .ok (.iconst 0, 1) := by decide +kernel
theorem dL_stores_51 : decode cL_stores 51 = .ok (.istore 12, 2) := by decide +kernel
theorem dL_stores_53 : decode cL_stores 53 = .ok (.aload_n 0, 1) := by decide +kernel
theorem dL_stores_54 : decode cL_stores 54 = .ok (.aload 5, 2) := by decide +kernel
theorem dL_stores_56 : decode cL_stores 56 = .ok (.aload 8, 2) := by decide +kernel
theorem dL_stores_58 : decode cL_stores 58 = .ok (.invokestatic 77, 3) := by decide +kernel
theorem dL_stores_61 : decode cL_stores 61 = .ok (.iconst 0, 1) := by decide +kernel
theorem dL_stores_62 : decode cL_stores 62 = .ok (.istore 13, 2) := by decide +kernel
theorem dL_stores_64 : decode cL_stores 64 = .ok (.iload 13, 2) := by decide +kernel
theorem dL_stores_66 : decode cL_stores 66 = .ok (.aload 5, 2) := by decide +kernel
theorem dL_stores_68 : decode cL_stores 68 = .ok (.iconst 0, 1) := by decide +kernel
theorem dL_stores_69 : decode cL_stores 69 = .ok (.iaload, 1) := by decide +kernel
theorem dL_stores_70 : decode cL_stores 70 = .ok (.if_icmp .ge 152, 3) := by decide +kernel
theorem dL_stores_73 : decode cL_stores 73 = .ok (.aload_n 3, 1) := by decide +kernel
theorem dL_stores_74 : decode cL_stores 74 = .ok (.iconst 5, 1) := by decide +kernel
theorem dL_stores_75 : decode cL_stores 75 = .ok (.iload 13, 2) := by decide +kernel
theorem dL_stores_77 : decode cL_stores 77 = .ok (.imul, 1) := by decide +kernel
theorem dL_stores_78 : decode cL_stores 78 = .ok (.iconst 3, 1) := by decide +kernel
theorem dL_stores_79 : decode cL_stores 79 = .ok (.iadd, 1) := by decide +kernel
theorem dL_stores_80 : decode cL_stores 80 = .ok (.iaload, 1) := by decide +kernel
theorem dL_stores_81 : decode cL_stores 81 = .ok (.iconst 1, 1) := by decide +kernel
theorem dL_stores_82 : decode cL_stores 82 = .ok (.if_icmp .ne 20, 3) := by decide +kernel
theorem dL_stores_85 : decode cL_stores 85 = .ok (.aload_n 3, 1) := by decide +kernel
theorem dL_stores_86 : decode cL_stores 86 = .ok (.iconst 5, 1) := by decide +kernel
theorem dL_stores_87 : decode cL_stores 87 = .ok (.iload 13, 2) := by decide +kernel
theorem dL_stores_89 : decode cL_stores 89 = .ok (.imul, 1) := by decide +kernel
theorem dL_stores_90 : decode cL_stores 90 = .ok (.iconst 1, 1) := by decide +kernel
theorem dL_stores_91 : decode cL_stores 91 = .ok (.iadd, 1) := by decide +kernel
theorem dL_stores_92 : decode cL_stores 92 = .ok (.iaload, 1) := by decide +kernel
theorem dL_stores_93 : decode cL_stores 93 = .ok (.iload 6, 2) := by decide +kernel
theorem dL_stores_95 : decode cL_stores 95 = .ok (.if_icmp .ne 7, 3) := by decide +kernel
theorem dL_stores_98 : decode cL_stores 98 = .ok (.iconst 1, 1) := by decide +kernel
theorem dL_stores_99 : decode cL_stores 99 = .ok (.goto 4, 3) := by decide +kernel
theorem dL_stores_102 : decode cL_stores 102 = .ok (.iconst 0, 1) := by decide +kernel
theorem dL_stores_103 : decode cL_stores 103 = .ok (.istore 14, 2) := by decide +kernel
theorem dL_stores_105 : decode cL_stores 105 = .ok (.aload 9, 2) := by decide +kernel
theorem dL_stores_107 : decode cL_stores 107 = .ok (.iload 13, 2) := by decide +kernel
theorem dL_stores_109 : decode cL_stores 109 = .ok (.iload 14, 2) := by decide +kernel
theorem dL_stores_111 : decode cL_stores 111 = .ok (.ifCond .eq 15, 3) := by decide +kernel
theorem dL_stores_114 : decode cL_stores 114 = .ok (.aload_n 0, 1) := by decide +kernel
theorem dL_stores_115 : decode cL_stores 115 = .ok (.aload_n 3, 1) := by decide +kernel
theorem dL_stores_116 : decode cL_stores 116 = .ok (.aload 4, 2) := by decide +kernel
theorem dL_stores_118 : decode cL_stores 118 = .ok (.iload 13, 2) := by decide +kernel
theorem dL_stores_120 : decode cL_stores 120 = .ok (.invokestatic 88, 3) := by decide +kernel
theorem dL_stores_123 : decode cL_stores 123 = .ok (.goto 4, 3) := by decide +kernel
theorem dL_stores_126 : decode cL_stores 126 = .ok (.iconst (-1), 1) := by decide +kernel
theorem dL_stores_127 : decode cL_stores 127 = .ok (.iastore, 1) := by decide +kernel
theorem dL_stores_128 : decode cL_stores 128 = .ok (.iload 12, 2) := by decide +kernel
theorem dL_stores_130 : decode cL_stores 130 = .ok (.ifCond .eq 20, 3) := by decide +kernel
theorem dL_stores_133 : decode cL_stores 133 = .ok (.iload 14, 2) := by decide +kernel
theorem dL_stores_135 : decode cL_stores 135 = .ok (.ifCond .eq 11, 3) := by decide +kernel
theorem dL_stores_138 : decode cL_stores 138 = .ok (.aload 9, 2) := by decide +kernel
theorem dL_stores_140 : decode cL_stores 140 = .ok (.iload 13, 2) := by decide +kernel
theorem dL_stores_142 : decode cL_stores 142 = .ok (.iaload, 1) := by decide +kernel
theorem dL_stores_143 : decode cL_stores 143 = .ok (.ifCond .lt 7, 3) := by decide +kernel
theorem dL_stores_146 : decode cL_stores 146 = .ok (.iconst 1, 1) := by decide +kernel
theorem dL_stores_147 : decode cL_stores 147 = .ok (.goto 4, 3) := by decide +kernel
theorem dL_stores_150 : decode cL_stores 150 = .ok (.iconst 0, 1) := by decide +kernel
theorem dL_stores_151 : decode cL_stores 151 = .ok (.istore 12, 2) := by decide +kernel
theorem dL_stores_153 : decode cL_stores 153 = .ok (.aload 10, 2) := by decide +kernel
theorem dL_stores_155 : decode cL_stores 155 = .ok (.iload 13, 2) := by decide +kernel
theorem dL_stores_157 : decode cL_stores 157 = .ok (.aload 9, 2) := by decide +kernel
theorem dL_stores_159 : decode cL_stores 159 = .ok (.iload 13, 2) := by decide +kernel
theorem dL_stores_161 : decode cL_stores 161 = .ok (.iaload, 1) := by decide +kernel
theorem dL_stores_162 : decode cL_stores 162 = .ok (.ifCond .ge 7, 3) := by decide +kernel
theorem dL_stores_165 : decode cL_stores 165 = .ok (.iconst 0, 1) := by decide +kernel
theorem dL_stores_166 : decode cL_stores 166 = .ok (.goto 14, 3) := by decide +kernel
theorem dL_stores_169 : decode cL_stores 169 = .ok (.aload_n 0, 1) := by decide +kernel
theorem dL_stores_170 : decode cL_stores 170 = .ok (.aload 9, 2) := by decide +kernel
theorem dL_stores_172 : decode cL_stores 172 = .ok (.iload 13, 2) := by decide +kernel
theorem dL_stores_174 : decode cL_stores 174 = .ok (.iaload, 1) := by decide +kernel
theorem dL_stores_175 : decode cL_stores 175 = .ok (.iload 13, 2) := by decide +kernel
theorem dL_stores_177 : decode cL_stores 177 = .ok (.invokevirtual 39, 3) := by decide +kernel
theorem dL_stores_180 : decode cL_stores 180 = .ok (.iastore, 1) := by decide +kernel
theorem dL_stores_181 : decode cL_stores 181 = .ok (.aload 11, 2) := by decide +kernel
theorem dL_stores_183 : decode cL_stores 183 = .ok (.iload 13, 2) := by decide +kernel
theorem dL_stores_185 : decode cL_stores 185 = .ok (.aload 9, 2) := by decide +kernel
theorem dL_stores_187 : decode cL_stores 187 = .ok (.iload 13, 2) := by decide +kernel
theorem dL_stores_189 : decode cL_stores 189 = .ok (.iaload, 1) := by decide +kernel
theorem dL_stores_190 : decode cL_stores 190 = .ok (.ifCond .ge 7, 3) := by decide +kernel
theorem dL_stores_193 : decode cL_stores 193 = .ok (.iconst (-1), 1) := by decide +kernel
theorem dL_stores_194 : decode cL_stores 194 = .ok (.goto 21, 3) := by decide +kernel
theorem dL_stores_197 : decode cL_stores 197 = .ok (.aload_n 0, 1) := by decide +kernel
theorem dL_stores_198 : decode cL_stores 198 = .ok (.iload 13, 2) := by decide +kernel
theorem dL_stores_200 : decode cL_stores 200 = .ok (.aload 9, 2) := by decide +kernel
theorem dL_stores_202 : decode cL_stores 202 = .ok (.iload 13, 2) := by decide +kernel
theorem dL_stores_204 : decode cL_stores 204 = .ok (.iaload, 1) := by decide +kernel
theorem dL_stores_205 : decode cL_stores 205 = .ok (.aload 8, 2) := by decide +kernel
theorem dL_stores_207 : decode cL_stores 207 = .ok (.iconst 5, 1) := by decide +kernel
theorem dL_stores_208 : decode cL_stores 208 = .ok (.iload 13, 2) := by decide +kernel
theorem dL_stores_210 : decode cL_stores 210 = .ok (.iadd, 1) := by decide +kernel
theorem dL_stores_211 : decode cL_stores 211 = .ok (.iaload, 1) := by decide +kernel
theorem dL_stores_212 : decode cL_stores 212 = .ok (.invokestatic 92, 3) := by decide +kernel
theorem dL_stores_215 : decode cL_stores 215 = .ok (.iastore, 1) := by decide +kernel
theorem dL_stores_216 : decode cL_stores 216 = .ok (.iinc 13 1, 3) := by decide +kernel
theorem dL_stores_219 : decode cL_stores 219 = .ok (.goto (-155), 3) := by decide +kernel
theorem dL_stores_222 : decode cL_stores 222 = .ok (.aload_n 0, 1) := by decide +kernel
theorem dL_stores_223 : decode cL_stores 223 = .ok (.iconst 0, 1) := by decide +kernel
theorem dL_stores_224 : decode cL_stores 224 = .ok (.iload 6, 2) := by decide +kernel
theorem dL_stores_226 : decode cL_stores 226 = .ok (.iload 7, 2) := by decide +kernel
theorem dL_stores_228 : decode cL_stores 228 = .ok (.invokestatic 112, 3) := by decide +kernel
theorem dL_stores_231 : decode cL_stores 231 = .ok (.istore 13, 2) := by decide +kernel
theorem dL_stores_233 : decode cL_stores 233 = .ok (.iload 12, 2) := by decide +kernel
theorem dL_stores_235 : decode cL_stores 235 = .ok (.ifCond .ne 32, 3) := by decide +kernel
theorem dL_stores_238 : decode cL_stores 238 = .ok (.iload 13, 2) := by decide +kernel
theorem dL_stores_240 : decode cL_stores 240 = .ok (.sipush (-5002), 3) := by decide +kernel
theorem dL_stores_243 : decode cL_stores 243 = .ok (.if_icmp .ne 22, 3) := by decide +kernel
theorem dL_stores_246 : decode cL_stores 246 = .ok (.aload_n 0, 1) := by decide +kernel
theorem dL_stores_247 : decode cL_stores 247 = .ok (.aload_n 3, 1) := by decide +kernel
theorem dL_stores_248 : decode cL_stores 248 = .ok (.aload 4, 2) := by decide +kernel
theorem dL_stores_250 : decode cL_stores 250 = .ok (.aload 5, 2) := by decide +kernel
theorem dL_stores_252 : decode cL_stores 252 = .ok (.iconst (-1), 1) := by decide +kernel
theorem dL_stores_253 : decode cL_stores 253 = .ok (.aload 8, 2) := by decide +kernel
theorem dL_stores_255 : decode cL_stores 255 = .ok (.invokestatic 108, 3) := by decide +kernel
theorem dL_stores_258 : decode cL_stores 258 = .ok (.ifCond .eq 7, 3) := by decide +kernel
theorem dL_stores_261 : decode cL_stores 261 = .ok (.iconst 1, 1) := by decide +kernel
theorem dL_stores_262 : decode cL_stores 262 = .ok (.goto 4, 3) := by decide +kernel
theorem dL_stores_265 : decode cL_stores 265 = .ok (.iconst 0, 1) := by decide +kernel
theorem dL_stores_266 : decode cL_stores 266 = .ok (.ireturn, 1) := by decide +kernel
theorem dL_stores_267 : decode cL_stores 267 = .ok (.aload 4, 2) := by decide +kernel
theorem dL_stores_269 : decode cL_stores 269 = .ok (.aload 5, 2) := by decide +kernel
theorem dL_stores_271 : decode cL_stores 271 = .ok (.iconst 1, 1) := by decide +kernel
theorem dL_stores_272 : decode cL_stores 272 = .ok (.iaload, 1) := by decide +kernel
theorem dL_stores_273 : decode cL_stores 273 = .ok (.iload 6, 2) := by decide +kernel
theorem dL_stores_275 : decode cL_stores 275 = .ok (.iconst 1, 1) := by decide +kernel
theorem dL_stores_276 : decode cL_stores 276 = .ok (.iadd, 1) := by decide +kernel
theorem dL_stores_277 : decode cL_stores 277 = .ok (.iload 7, 2) := by decide +kernel
theorem dL_stores_279 : decode cL_stores 279 = .ok (.sipush 1000, 3) := by decide +kernel
theorem dL_stores_282 : decode cL_stores 282 = .ok (.iadd, 1) := by decide +kernel
theorem dL_stores_283 : decode cL_stores 283 = .ok (.iconst 3, 1) := by decide +kernel
theorem dL_stores_284 : decode cL_stores 284 = .ok (.ishl, 1) := by decide +kernel
theorem dL_stores_285 : decode cL_stores 285 = .ok (.ior, 1) := by decide +kernel
theorem dL_stores_286 : decode cL_stores 286 = .ok (.iastore, 1) := by decide +kernel
theorem dL_stores_287 : decode cL_stores 287 = .ok (.aload 5, 2) := by decide +kernel
theorem dL_stores_289 : decode cL_stores 289 = .ok (.iconst 1, 1) := by decide +kernel
theorem dL_stores_290 : decode cL_stores 290 = .ok (.dup2, 1) := by decide +kernel
theorem dL_stores_291 : decode cL_stores 291 = .ok (.iaload, 1) := by decide +kernel
theorem dL_stores_292 : decode cL_stores 292 = .ok (.iconst 1, 1) := by decide +kernel
theorem dL_stores_293 : decode cL_stores 293 = .ok (.iadd, 1) := by decide +kernel
theorem dL_stores_294 : decode cL_stores 294 = .ok (.iastore, 1) := by decide +kernel
theorem dL_stores_295 : decode cL_stores 295 = .ok (.aload 5, 2) := by decide +kernel
theorem dL_stores_297 : decode cL_stores 297 = .ok (.iconst 2, 1) := by decide +kernel
theorem dL_stores_298 : decode cL_stores 298 = .ok (.dup2, 1) := by decide +kernel
theorem dL_stores_299 : decode cL_stores 299 = .ok (.iaload, 1) := by decide +kernel
theorem dL_stores_300 : decode cL_stores 300 = .ok (.iconst 1, 1) := by decide +kernel
theorem dL_stores_301 : decode cL_stores 301 = .ok (.iadd, 1) := by decide +kernel
theorem dL_stores_302 : decode cL_stores 302 = .ok (.iastore, 1) := by decide +kernel
theorem dL_stores_303 : decode cL_stores 303 = .ok (.iload 13, 2) := by decide +kernel
theorem dL_stores_305 : decode cL_stores 305 = .ok (.aload 5, 2) := by decide +kernel
theorem dL_stores_307 : decode cL_stores 307 = .ok (.iconst 1, 1) := by decide +kernel
theorem dL_stores_308 : decode cL_stores 308 = .ok (.iaload, 1) := by decide +kernel
theorem dL_stores_309 : decode cL_stores 309 = .ok (.iconst 1, 1) := by decide +kernel
theorem dL_stores_310 : decode cL_stores 310 = .ok (.isub, 1) := by decide +kernel
theorem dL_stores_311 : decode cL_stores 311 = .ok (.if_icmp .ne 23, 3) := by decide +kernel
theorem dL_stores_314 : decode cL_stores 314 = .ok (.aload_n 0, 1) := by decide +kernel
theorem dL_stores_315 : decode cL_stores 315 = .ok (.aload_n 3, 1) := by decide +kernel
theorem dL_stores_316 : decode cL_stores 316 = .ok (.aload 4, 2) := by decide +kernel
theorem dL_stores_318 : decode cL_stores 318 = .ok (.aload 5, 2) := by decide +kernel
theorem dL_stores_320 : decode cL_stores 320 = .ok (.iload 13, 2) := by decide +kernel
theorem dL_stores_322 : decode cL_stores 322 = .ok (.aload 8, 2) := by decide +kernel
theorem dL_stores_324 : decode cL_stores 324 = .ok (.invokestatic 108, 3) := by decide +kernel
theorem dL_stores_327 : decode cL_stores 327 = .ok (.ifCond .eq 7, 3) := by decide +kernel
theorem dL_stores_330 : decode cL_stores 330 = .ok (.iconst 1, 1) := by decide +kernel
theorem dL_stores_331 : decode cL_stores 331 = .ok (.goto 4, 3) := by decide +kernel
theorem dL_stores_334 : decode cL_stores 334 = .ok (.iconst 0, 1) := by decide +kernel
theorem dL_stores_335 : decode cL_stores 335 = .ok (.istore 14, 2) := by decide +kernel
theorem dL_stores_337 : decode cL_stores 337 = .ok (.iconst 0, 1) := by decide +kernel
theorem dL_stores_338 : decode cL_stores 338 = .ok (.istore 15, 2) := by decide +kernel
theorem dL_stores_340 : decode cL_stores 340 = .ok (.iload 15, 2) := by decide +kernel
theorem dL_stores_342 : decode cL_stores 342 = .ok (.aload 5, 2) := by decide +kernel
theorem dL_stores_344 : decode cL_stores 344 = .ok (.iconst 0, 1) := by decide +kernel
theorem dL_stores_345 : decode cL_stores 345 = .ok (.iaload, 1) := by decide +kernel
theorem dL_stores_346 : decode cL_stores 346 = .ok (.if_icmp .ge 72, 3) := by decide +kernel
theorem dL_stores_349 : decode cL_stores 349 = .ok (.iload 14, 2) := by decide +kernel
theorem dL_stores_351 : decode cL_stores 351 = .ok (.ifCond .eq 67, 3) := by decide +kernel
theorem dL_stores_354 : decode cL_stores 354 = .ok (.aload_n 0, 1) := by decide +kernel
theorem dL_stores_355 : decode cL_stores 355 = .ok (.iload 13, 2) := by decide +kernel
theorem dL_stores_357 : decode cL_stores 357 = .ok (.iload 15, 2) := by decide +kernel
theorem dL_stores_359 : decode cL_stores 359 = .ok (.invokevirtual 36, 3) := by decide +kernel
theorem dL_stores_362 : decode cL_stores 362 = .ok (.aload 9, 2) := by decide +kernel
theorem dL_stores_364 : decode cL_stores 364 = .ok (.iload 15, 2) := by decide +kernel
theorem dL_stores_366 : decode cL_stores 366 = .ok (.iaload, 1) := by decide +kernel
theorem dL_stores_367 : decode cL_stores 367 = .ok (.if_icmp .ne 42, 3) := by decide +kernel
theorem dL_stores_370 : decode cL_stores 370 = .ok (.aload 9, 2) := by decide +kernel
theorem dL_stores_372 : decode cL_stores 372 = .ok (.iload 15, 2) := by decide +kernel
theorem dL_stores_374 : decode cL_stores 374 = .ok (.iaload, 1) := by decide +kernel
theorem dL_stores_375 : decode cL_stores 375 = .ok (.ifCond .lt 30, 3) := by decide +kernel
theorem dL_stores_378 : decode cL_stores 378 = .ok (.aload_n 0, 1) := by decide +kernel
theorem dL_stores_379 : decode cL_stores 379 = .ok (.aload_n 3, 1) := by decide +kernel
theorem dL_stores_380 : decode cL_stores 380 = .ok (.iload 15, 2) := by decide +kernel
theorem dL_stores_382 : decode cL_stores 382 = .ok (.aload 9, 2) := by decide +kernel
theorem dL_stores_384 : decode cL_stores 384 = .ok (.iload 15, 2) := by decide +kernel
theorem dL_stores_386 : decode cL_stores 386 = .ok (.iaload, 1) := by decide +kernel
theorem dL_stores_387 : decode cL_stores 387 = .ok (.iload 13, 2) := by decide +kernel
theorem dL_stores_389 : decode cL_stores 389 = .ok (.aload 10, 2) := by decide +kernel
theorem dL_stores_391 : decode cL_stores 391 = .ok (.iload 15, 2) := by decide +kernel
theorem dL_stores_393 : decode cL_stores 393 = .ok (.iaload, 1) := by decide +kernel
theorem dL_stores_394 : decode cL_stores 394 = .ok (.aload 11, 2) := by decide +kernel
theorem dL_stores_396 : decode cL_stores 396 = .ok (.iload 15, 2) := by decide +kernel
theorem dL_stores_398 : decode cL_stores 398 = .ok (.iaload, 1) := by decide +kernel
theorem dL_stores_399 : decode cL_stores 399 = .ok (.invokestatic 115, 3) := by decide +kernel
theorem dL_stores_402 : decode cL_stores 402 = .ok (.ifCond .eq 7, 3) := by decide +kernel
theorem dL_stores_405 : decode cL_stores 405 = .ok (.iconst 1, 1) := by decide +kernel
theorem dL_stores_406 : decode cL_stores 406 = .ok (.goto 4, 3) := by decide +kernel
theorem dL_stores_409 : decode cL_stores 409 = .ok (.iconst 0, 1) := by decide +kernel
theorem dL_stores_410 : decode cL_stores 410 = .ok (.istore 14, 2) := by decide +kernel
theorem dL_stores_412 : decode cL_stores 412 = .ok (.iinc 15 1, 3) := by decide +kernel
theorem dL_stores_415 : decode cL_stores 415 = .ok (.goto (-75), 3) := by decide +kernel
theorem dL_stores_418 : decode cL_stores 418 = .ok (.iload 14, 2) := by decide +kernel
theorem dL_stores_420 : decode cL_stores 420 = .ok (.ireturn, 1) := by decide +kernel
theorem dL_erases_0 : decode cL_erases 0 = .ok (.aload_n 0, 1) := by decide +kernel
theorem dL_erases_1 : decode cL_erases 1 = .ok (.invokevirtual 74, 3) := by decide +kernel
theorem dL_erases_4 : decode cL_erases 4 = .ok (.istore 5, 2) := by decide +kernel
theorem dL_erases_6 : decode cL_erases 6 = .ok (.iload 5, 2) := by decide +kernel
theorem dL_erases_8 : decode cL_erases 8 = .ok (.ifCond .ge 7, 3) := by decide +kernel
theorem dL_erases_11 : decode cL_erases 11 = .ok (.iconst (-1), 1) := by decide +kernel
theorem dL_erases_12 : decode cL_erases 12 = .ok (.goto 10, 3) := by decide +kernel
theorem dL_erases_15 : decode cL_erases 15 = .ok (.aload_n 0, 1) := by decide +kernel
theorem dL_erases_16 : decode cL_erases 16 = .ok (.iload 5, 2) := by decide +kernel
theorem dL_erases_18 : decode cL_erases 18 = .ok (.iload_n 1, 1) := by decide +kernel
theorem dL_erases_19 : decode cL_erases 19 = .ok (.invokevirtual 119, 3) := by decide +kernel
theorem dL_erases_22 : decode cL_erases 22 = .ok (.istore 6, 2) := by decide +kernel
theorem dL_erases_24 : decode cL_erases 24 = .ok (.iload 5, 2) := by decide +kernel
theorem dL_erases_26 : decode cL_erases 26 = .ok (.ifCond .ge 7, 3) := by decide +kernel
theorem dL_erases_29 : decode cL_erases 29 = .ok (.lconst 0, 1) := by decide +kernel
theorem dL_erases_30 : decode cL_erases 30 = .ok (.goto 14, 3) := by decide +kernel
theorem dL_erases_33 : decode cL_erases 33 = .ok (.aload_n 0, 1) := by decide +kernel
theorem dL_erases_34 : decode cL_erases 34 = .ok (.aload_n 2, 1) := by decide +kernel
theorem dL_erases_35 : decode cL_erases 35 = .ok (.aload_n 3, 1) := by decide +kernel
theorem dL_erases_36 : decode cL_erases 36 = .ok (.aload 4, 2) := by decide +kernel
theorem dL_erases_38 : decode cL_erases 38 = .ok (.iload 5, 2) := by decide +kernel
theorem dL_erases_40 : decode cL_erases 40 = .ok (.iload_n 1, 1) := by decide +kernel
theorem dL_erases_41 : decode cL_erases 41 = .ok (.invokestatic 122, 3) := by decide +kernel
theorem dL_erases_44 : decode cL_erases 44 = .ok (.lstore 7, 2) := by decide +kernel
theorem dL_erases_46 : decode cL_erases 46 = .ok (.aload_n 0, 1) := by decide +kernel
theorem dL_erases_47 : decode cL_erases 47 = .ok (.iconst 2, 1) := by decide +kernel
theorem dL_erases_48 : decode cL_erases 48 = .ok (.iload_n 1, 1) := by decide +kernel
theorem dL_erases_49 : decode cL_erases 49 = .ok (.iconst 0, 1) := by decide +kernel
theorem dL_erases_50 : decode cL_erases 50 = .ok (.invokestatic 112, 3) := by decide +kernel
theorem dL_erases_53 : decode cL_erases 53 = .ok (.istore 9, 2) := by decide +kernel
theorem dL_erases_55 : decode cL_erases 55 = .ok (.iload 6, 2) := by decide +kernel
theorem dL_erases_57 : decode cL_erases 57 = .ok (.ifCond .ge 26, 3) := by decide +kernel
theorem dL_erases_60 : decode cL_erases 60 = .ok (.iload 9, 2) := by decide +kernel
theorem dL_erases_62 : decode cL_erases 62 = .ok (.sipush (-5002), 3) := by decide +kernel
theorem dL_erases_65 : decode cL_erases 65 = .ok (.if_icmp .ne 16, 3) := by decide +kernel
theorem dL_erases_68 : decode cL_erases 68 = .ok (.iload 5, 2) := by decide +kernel
theorem dL_erases_70 : decode cL_erases 70 = .ok (.ifCond .lt 7, 3) := by decide +kernel
theorem dL_erases_73 : decode cL_erases 73 = .ok (.iload_n 1, 1) := by decide +kernel
theorem dL_erases_74 : decode cL_erases 74 = .ok (.ifCond .ne 7, 3) := by decide +kernel
theorem dL_erases_77 : decode cL_erases 77 = .ok (.iconst 1, 1) := by decide +kernel
theorem dL_erases_78 : decode cL_erases 78 = .ok (.goto 4, 3) := by decide +kernel
theorem dL_erases_81 : decode cL_erases 81 = .ok (.iconst 0, 1) := by decide +kernel
theorem dL_erases_82 : decode cL_erases 82 = .ok (.ireturn, 1) := by decide +kernel
theorem dL_erases_83 : decode cL_erases 83 = .ok (.iconst 0, 1) := by decide +kernel
theorem dL_erases_84 : decode cL_erases 84 = .ok (.istore 10, 2) := by decide +kernel
theorem dL_erases_86 : decode cL_erases 86 = .ok (.iconst 1, 1) := by decide +kernel
theorem dL_erases_87 : decode cL_erases 87 = .ok (.istore 11, 2) := by decide +kernel
theorem dL_erases_89 : decode cL_erases 89 = .ok (.iconst 0, 1) := by decide +kernel
theorem dL_erases_90 : decode cL_erases 90 = .ok (.istore 12, 2) := by decide +kernel
theorem dL_erases_92 : decode cL_erases 92 = .ok (.iload 12, 2) := by decide +kernel
theorem dL_erases_94 : decode cL_erases 94 = .ok (.aload 4, 2) := by decide +kernel
theorem dL_erases_96 : decode cL_erases 96 = .ok (.iconst 1, 1) := by decide +kernel
theorem dL_erases_97 : decode cL_erases 97 = .ok (.iaload, 1) := by decide +kernel
theorem dL_erases_98 : decode cL_erases 98 = .ok (.if_icmp .ge 97, 3) := by decide +kernel
theorem dL_erases_101 : decode cL_erases 101 = .ok (.aload_n 0, 1) := by decide +kernel
theorem dL_erases_102 : decode cL_erases 102 = .ok (.iload 12, 2) := by decide +kernel
theorem dL_erases_104 : decode cL_erases 104 = .ok (.invokestatic 126, 3) := by decide +kernel
theorem dL_erases_107 : decode cL_erases 107 = .ok (.istore 13, 2) := by decide +kernel
theorem dL_erases_109 : decode cL_erases 109 = .ok (.iload 11, 2) := by decide +kernel
theorem dL_erases_111 : decode cL_erases 111 = .ok (.ifCond .eq 36, 3) := by decide +kernel
theorem dL_erases_114 : decode cL_erases 114 = .ok (.iload 13, 2) := by decide +kernel
theorem dL_erases_116 : decode cL_erases 116 = .ok (.aload_n 3, 1) := by decide +kernel
theorem dL_erases_117 : decode cL_erases 117 = .ok (.iload 12, 2) := by decide +kernel
theorem dL_erases_119 : decode cL_erases 119 = .ok (.iaload, 1) := by decide +kernel
theorem dL_erases_120 : decode cL_erases 120 = .ok (.ifCond .eq 19, 3) := by decide +kernel
theorem dL_erases_123 : decode cL_erases 123 = .ok (.lload 7, 2) := by decide +kernel
theorem dL_erases_125 : decode cL_erases 125 = .ok (.iload 12, 2) := by decide +kernel
theorem dL_erases_127 : decode cL_erases 127 = .ok (.lshr, 1) := by decide +kernel
theorem dL_erases_128 : decode cL_erases 128 = .ok (.lconst 1, 1) := by decide +kernel
theorem dL_erases_129 : decode cL_erases 129 = .ok (.land, 1) := by decide +kernel
theorem dL_erases_130 : decode cL_erases 130 = .ok (.lconst 0, 1) := by decide +kernel
theorem dL_erases_131 : decode cL_erases 131 = .ok (.lcmp, 1) := by decide +kernel
theorem dL_erases_132 : decode cL_erases 132 = .ok (.ifCond .ne 7, 3) := by decide +kernel
theorem dL_erases_135 : decode cL_erases 135 = .ok (.iconst 1, 1) := by decide +kernel
theorem dL_erases_136 : decode cL_erases 136 = .ok (.goto 4, 3) := by decide +kernel
theorem dL_erases_139 : decode cL_erases 139 = .ok (.iconst 0, 1) := by decide +kernel
theorem dL_erases_140 : decode cL_erases 140 = .ok (.if_icmp .ne 7, 3) := by decide +kernel
theorem dL_erases_143 : decode cL_erases 143 = .ok (.iconst 1, 1) := by decide +kernel
theorem dL_erases_144 : decode cL_erases 144 = .ok (.goto 4, 3) := by decide +kernel
theorem dL_erases_147 : decode cL_erases 147 = .ok (.iconst 0, 1) := by decide +kernel
theorem dL_erases_148 : decode cL_erases 148 = .ok (.istore 11, 2) := by decide +kernel
theorem dL_erases_150 : decode cL_erases 150 = .ok (.iload 10, 2) := by decide +kernel
theorem dL_erases_152 : decode cL_erases 152 = .ok (.aload_n 3, 1) := by decide +kernel
theorem dL_erases_153 : decode cL_erases 153 = .ok (.iload 12, 2) := by decide +kernel
theorem dL_erases_155 : decode cL_erases 155 = .ok (.iaload, 1) := by decide +kernel
theorem dL_erases_156 : decode cL_erases 156 = .ok (.ifCond .eq 12, 3) := by decide +kernel
theorem dL_erases_159 : decode cL_erases 159 = .ok (.iload 13, 2) := by decide +kernel
theorem dL_erases_161 : decode cL_erases 161 = .ok (.ifCond .ne 7, 3) := by decide +kernel
theorem dL_erases_164 : decode cL_erases 164 = .ok (.iconst 1, 1) := by decide +kernel
theorem dL_erases_165 : decode cL_erases 165 = .ok (.goto 4, 3) := by decide +kernel
theorem dL_erases_168 : decode cL_erases 168 = .ok (.iconst 0, 1) := by decide +kernel
theorem dL_erases_169 : decode cL_erases 169 = .ok (.iadd, 1) := by decide +kernel
theorem dL_erases_170 : decode cL_erases 170 = .ok (.istore 10, 2) := by decide +kernel
theorem dL_erases_172 : decode cL_erases 172 = .ok (.aload_n 3, 1) := by decide +kernel
theorem dL_erases_173 : decode cL_erases 173 = .ok (.iload 12, 2) := by decide +kernel
theorem dL_erases_175 : decode cL_erases 175 = .ok (.iload 13, 2) := by decide +kernel
theorem dL_erases_177 : decode cL_erases 177 = .ok (.ifCond .eq 10, 3) := by decide +kernel
theorem dL_erases_180 : decode cL_erases 180 = .ok (.aload_n 3, 1) := by decide +kernel
theorem dL_erases_181 : decode cL_erases 181 = .ok (.iload 12, 2) := by decide +kernel
theorem dL_erases_183 : decode cL_erases 183 = .ok (.iaload, 1) := by decide +kernel
theorem dL_erases_184 : decode cL_erases 184 = .ok (.goto 4, 3) := by decide +kernel
theorem dL_erases_187 : decode cL_erases 187 = .ok (.iconst 0, 1) := by decide +kernel
theorem dL_erases_188 : decode cL_erases 188 = .ok (.iastore, 1) := by decide +kernel
theorem dL_erases_189 : decode cL_erases 189 = .ok (.iinc 12 1, 3) := by decide +kernel
theorem dL_erases_192 : decode cL_erases 192 = .ok (.goto (-100), 3) := by decide +kernel
theorem dL_erases_195 : decode cL_erases 195 = .ok (.aload 4, 2) := by decide +kernel
theorem dL_erases_197 : decode cL_erases 197 = .ok (.iconst 2, 1) := by decide +kernel
theorem dL_erases_198 : decode cL_erases 198 = .ok (.dup2, 1) := by decide +kernel
theorem dL_erases_199 : decode cL_erases 199 = .ok (.iaload, 1) := by decide +kernel
theorem dL_erases_200 : decode cL_erases 200 = .ok (.iload 10, 2) := by decide +kernel
theorem dL_erases_202 : decode cL_erases 202 = .ok (.isub, 1) := by decide +kernel
theorem dL_erases_203 : decode cL_erases 203 = .ok (.iastore, 1) := by decide +kernel
theorem dL_erases_204 : decode cL_erases 204 = .ok (.iload 11, 2) := by decide +kernel
theorem dL_erases_206 : decode cL_erases 206 = .ok (.ifCond .eq 29, 3) := by decide +kernel
theorem dL_erases_209 : decode cL_erases 209 = .ok (.iload 9, 2) := by decide +kernel
theorem dL_erases_211 : decode cL_erases 211 = .ok (.iload 6, 2) := by decide +kernel
theorem dL_erases_213 : decode cL_erases 213 = .ok (.if_icmp .ne 22, 3) := by decide +kernel
theorem dL_erases_216 : decode cL_erases 216 = .ok (.iload 10, 2) := by decide +kernel
theorem dL_erases_218 : decode cL_erases 218 = .ok (.iload 9, 2) := by decide +kernel
theorem dL_erases_220 : decode cL_erases 220 = .ok (.if_icmp .ne 15, 3) := by decide +kernel
theorem dL_erases_223 : decode cL_erases 223 = .ok (.aload_n 0, 1) := by decide +kernel
theorem dL_erases_224 : decode cL_erases 224 = .ok (.invokevirtual 74, 3) := by decide +kernel
theorem dL_erases_227 : decode cL_erases 227 = .ok (.iconst (-1), 1) := by decide +kernel
theorem dL_erases_228 : decode cL_erases 228 = .ok (.if_icmp .ne 7, 3) := by decide +kernel
theorem dL_erases_231 : decode cL_erases 231 = .ok (.iconst 1, 1) := by decide +kernel
theorem dL_erases_232 : decode cL_erases 232 = .ok (.goto 4, 3) := by decide +kernel
theorem dL_erases_235 : decode cL_erases 235 = .ok (.iconst 0, 1) := by decide +kernel
theorem dL_erases_236 : decode cL_erases 236 = .ok (.ireturn, 1) := by decide +kernel
theorem dL_goes_0 : decode cL_goes 0 = .ok (.lconst 1, 1) := by decide +kernel
theorem dL_goes_1 : decode cL_goes 1 = .ok (.iload 4, 2) := by decide +kernel
theorem dL_goes_3 : decode cL_goes 3 = .ok (.lshl, 1) := by decide +kernel
theorem dL_goes_4 : decode cL_goes 4 = .ok (.lstore 6, 2) := by decide +kernel
theorem dL_goes_6 : decode cL_goes 6 = .ok (.lconst 0, 1) := by decide +kernel
theorem dL_goes_7 : decode cL_goes 7 = .ok (.lstore 8, 2) := by decide +kernel
theorem dL_goes_9 : decode cL_goes 9 = .ok (.lload 6, 2) := by decide +kernel
theorem dL_goes_11 : decode cL_goes 11 = .ok (.lload 8, 2) := by decide +kernel
theorem dL_goes_13 : decode cL_goes 13 = .ok (.lcmp, 1) := by decide +kernel
theorem dL_goes_14 : decode cL_goes 14 = .ok (.ifCond .eq 134, 3) := by decide +kernel
theorem dL_goes_17 : decode cL_goes 17 = .ok (.lload 6, 2) := by decide +kernel
theorem dL_goes_19 : decode cL_goes 19 = .ok (.lstore 8, 2) := by decide +kernel
theorem dL_goes_21 : decode cL_goes 21 = .ok (.iconst 0, 1) := by decide +kernel
theorem dL_goes_22 : decode cL_goes 22 = .ok (.istore 10, 2) := by decide +kernel
theorem dL_goes_24 : decode cL_goes 24 = .ok (.iload 10, 2) := by decide +kernel
theorem dL_goes_26 : decode cL_goes 26 = .ok (.aload_n 3, 1) := by decide +kernel
theorem dL_goes_27 : decode cL_goes 27 = .ok (.iconst 0, 1) := by decide +kernel
theorem dL_goes_28 : decode cL_goes 28 = .ok (.iaload, 1) := by decide +kernel
theorem dL_goes_29 : decode cL_goes 29 = .ok (.aload_n 3, 1) := by decide +kernel
theorem dL_goes_30 : decode cL_goes 30 = .ok (.iconst 1, 1) := by decide +kernel
theorem dL_goes_31 : decode cL_goes 31 = .ok (.iaload, 1) := by decide +kernel
theorem dL_goes_32 : decode cL_goes 32 = .ok (.imul, 1) := by decide +kernel
theorem dL_goes_33 : decode cL_goes 33 = .ok (.if_icmp .ge 112, 3) := by decide +kernel
theorem dL_goes_36 : decode cL_goes 36 = .ok (.iload 10, 2) := by decide +kernel
theorem dL_goes_38 : decode cL_goes 38 = .ok (.aload_n 3, 1) := by decide +kernel
theorem dL_goes_39 : decode cL_goes 39 = .ok (.iconst 0, 1) := by decide +kernel
theorem dL_goes_40 : decode cL_goes 40 = .ok (.iaload, 1) := by decide +kernel
theorem dL_goes_41 : decode cL_goes 41 = .ok (.idiv, 1) := by decide +kernel
theorem dL_goes_42 : decode cL_goes 42 = .ok (.istore 11, 2) := by decide +kernel
theorem dL_goes_44 : decode cL_goes 44 = .ok (.aload_n 2, 1) := by decide +kernel
theorem dL_goes_45 : decode cL_goes 45 = .ok (.iload 11, 2) := by decide +kernel
theorem dL_goes_47 : decode cL_goes 47 = .ok (.iaload, 1) := by decide +kernel
theorem dL_goes_48 : decode cL_goes 48 = .ok (.ifCond .ne 7, 3) := by decide +kernel
theorem dL_goes_51 : decode cL_goes 51 = .ok (.iconst (-1), 1) := by decide +kernel
theorem dL_goes_52 : decode cL_goes 52 = .ok (.goto 15, 3) := by decide +kernel
theorem dL_goes_55 : decode cL_goes 55 = .ok (.aload_n 0, 1) := by decide +kernel
theorem dL_goes_56 : decode cL_goes 56 = .ok (.iload 11, 2) := by decide +kernel
theorem dL_goes_58 : decode cL_goes 58 = .ok (.iload 10, 2) := by decide +kernel
theorem dL_goes_60 : decode cL_goes 60 = .ok (.aload_n 3, 1) := by decide +kernel
theorem dL_goes_61 : decode cL_goes 61 = .ok (.iconst 0, 1) := by decide +kernel
theorem dL_goes_62 : decode cL_goes 62 = .ok (.iaload, 1) := by decide +kernel
theorem dL_goes_63 : decode cL_goes 63 = .ok (.irem, 1) := by decide +kernel
theorem dL_goes_64 : decode cL_goes 64 = .ok (.invokevirtual 36, 3) := by decide +kernel
theorem dL_goes_67 : decode cL_goes 67 = .ok (.istore 12, 2) := by decide +kernel
theorem dL_goes_69 : decode cL_goes 69 = .ok (.iload 5, 2) := by decide +kernel
theorem dL_goes_71 : decode cL_goes 71 = .ok (.iconst 2, 1) := by decide +kernel
theorem dL_goes_72 : decode cL_goes 72 = .ok (.if_icmp .eq 25, 3) := by decide +kernel
theorem dL_goes_75 : decode cL_goes 75 = .ok (.iload 5, 2) := by decide +kernel
theorem dL_goes_77 : decode cL_goes 77 = .ok (.iconst 1, 1) := by decide +kernel
theorem dL_goes_78 : decode cL_goes 78 = .ok (.if_icmp .ne 23, 3) := by decide +kernel
theorem dL_goes_81 : decode cL_goes 81 = .ok (.aload_n 1, 1) := by decide +kernel
theorem dL_goes_82 : decode cL_goes 82 = .ok (.iconst 5, 1) := by decide +kernel
theorem dL_goes_83 : decode cL_goes 83 = .ok (.iload 10, 2) := by decide +kernel
theorem dL_goes_85 : decode cL_goes 85 = .ok (.aload_n 3, 1) := by decide +kernel
theorem dL_goes_86 : decode cL_goes 86 = .ok (.iconst 0, 1) := by decide +kernel
theorem dL_goes_87 : decode cL_goes 87 = .ok (.iaload, 1) := by decide +kernel
theorem dL_goes_88 : decode cL_goes 88 = .ok (.irem, 1) := by decide +kernel
theorem dL_goes_89 : decode cL_goes 89 = .ok (.imul, 1) := by decide +kernel
theorem dL_goes_90 : decode cL_goes 90 = .ok (.iconst 4, 1) := by decide +kernel
theorem dL_goes_91 : decode cL_goes 91 = .ok (.iadd, 1) := by decide +kernel
theorem dL_goes_92 : decode cL_goes 92 = .ok (.iaload, 1) := by decide +kernel
theorem dL_goes_93 : decode cL_goes 93 = .ok (.iconst 2, 1) := by decide +kernel
theorem dL_goes_94 : decode cL_goes 94 = .ok (.if_icmp .ge 7, 3) := by decide +kernel
theorem dL_goes_97 : decode cL_goes 97 = .ok (.iconst 1, 1) := by decide +kernel
theorem dL_goes_98 : decode cL_goes 98 = .ok (.goto 4, 3) := by decide +kernel
theorem dL_goes_101 : decode cL_goes 101 = .ok (.iconst 0, 1) := by decide +kernel
theorem dL_goes_102 : decode cL_goes 102 = .ok (.istore 13, 2) := by decide +kernel
theorem dL_goes_104 : decode cL_goes 104 = .ok (.lload 6, 2) := by decide +kernel
theorem dL_goes_106 : decode cL_goes 106 = .ok (.iload 12, 2) := by decide +kernel
theorem dL_goes_108 : decode cL_goes 108 = .ok (.ifCond .lt 27, 3) := by decide +kernel
theorem dL_goes_111 : decode cL_goes 111 = .ok (.iload 13, 2) := by decide +kernel
theorem dL_goes_113 : decode cL_goes 113 = .ok (.ifCond .eq 22, 3) := by decide +kernel
theorem dL_goes_116 : decode cL_goes 116 = .ok (.lload 6, 2) := by decide +kernel
theorem dL_goes_118 : decode cL_goes 118 = .ok (.iload 12, 2) := by decide +kernel
theorem dL_goes_120 : decode cL_goes 120 = .ok (.lshr, 1) := by decide +kernel
theorem dL_goes_121 : decode cL_goes 121 = .ok (.lconst 1, 1) := by decide +kernel
theorem dL_goes_122 : decode cL_goes 122 = .ok (.land, 1) := by decide +kernel
theorem dL_goes_123 : decode cL_goes 123 = .ok (.lconst 1, 1) := by decide +kernel
theorem dL_goes_124 : decode cL_goes 124 = .ok (.lcmp, 1) := by decide +kernel
theorem dL_goes_125 : decode cL_goes 125 = .ok (.ifCond .ne 10, 3) := by decide +kernel
theorem dL_goes_128 : decode cL_goes 128 = .ok (.lconst 1, 1) := by decide +kernel
theorem dL_goes_129 : decode cL_goes 129 = .ok (.iload 11, 2) := by decide +kernel
theorem dL_goes_131 : decode cL_goes 131 = .ok (.lshl, 1) := by decide +kernel
theorem dL_goes_132 : decode cL_goes 132 = .ok (.goto 4, 3) := by decide +kernel
theorem dL_goes_135 : decode cL_goes 135 = .ok (.lconst 0, 1) := by decide +kernel
theorem dL_goes_136 : decode cL_goes 136 = .ok (.lor, 1) := by decide +kernel
theorem dL_goes_137 : decode cL_goes 137 = .ok (.lstore 6, 2) := by decide +kernel
theorem dL_goes_139 : decode cL_goes 139 = .ok (.iinc 10 1, 3) := by decide +kernel
theorem dL_goes_142 : decode cL_goes 142 = .ok (.goto (-118), 3) := by decide +kernel
theorem dL_goes_145 : decode cL_goes 145 = .ok (.goto (-136), 3) := by decide +kernel
theorem dL_goes_148 : decode cL_goes 148 = .ok (.lload 6, 2) := by decide +kernel
theorem dL_goes_150 : decode cL_goes 150 = .ok (.lreturn, 1) := by decide +kernel
theorem dL_isThere_0 : decode cL_isThere 0 = .ok (.aload_n 0, 1) := by decide +kernel
theorem dL_isThere_1 : decode cL_isThere 1 = .ok (.iload_n 1, 1) := by decide +kernel
theorem dL_isThere_2 : decode cL_isThere 2 = .ok (.invokevirtual 62, 3) := by decide +kernel
theorem dL_isThere_5 : decode cL_isThere 5 = .ok (.ifCond .lt 7, 3) := by decide +kernel
theorem dL_isThere_8 : decode cL_isThere 8 = .ok (.iconst 1, 1) := by decide +kernel
theorem dL_isThere_9 : decode cL_isThere 9 = .ok (.goto 4, 3) := by decide +kernel
theorem dL_isThere_12 : decode cL_isThere 12 = .ok (.iconst 0, 1) := by decide +kernel
theorem dL_isThere_13 : decode cL_isThere 13 = .ok (.ireturn, 1) := by decide +kernel
theorem dL_isThere_14 : decode cL_isThere 14 = .ok (.astore_n 2, 1) := by decide +kernel
theorem dL_isThere_15 : decode cL_isThere 15 = .ok (.iconst 0, 1) := by decide +kernel
theorem dL_isThere_16 : decode cL_isThere 16 = .ok (.ireturn, 1) := by decide +kernel
theorem dL_ties_0 : decode cL_ties 0 = .ok (.iload_n 2, 1) := by decide +kernel
theorem dL_ties_1 : decode cL_ties 1 = .ok (.aload 6, 2) := by decide +kernel
theorem dL_ties_3 : decode cL_ties 3 = .ok (.iconst 0, 1) := by decide +kernel
theorem dL_ties_4 : decode cL_ties 4 = .ok (.iaload, 1) := by decide +kernel
theorem dL_ties_5 : decode cL_ties 5 = .ok (.irem, 1) := by decide +kernel
theorem dL_ties_6 : decode cL_ties 6 = .ok (.istore 7, 2) := by decide +kernel
theorem dL_ties_8 : decode cL_ties 8 = .ok (.aload_n 0, 1) := by decide +kernel
theorem dL_ties_9 : decode cL_ties 9 = .ok (.invokevirtual 74, 3) := by decide +kernel
theorem dL_ties_12 : decode cL_ties 12 = .ok (.istore 8, 2) := by decide +kernel
theorem dL_ties_14 : decode cL_ties 14 = .ok (.iload 8, 2) := by decide +kernel
theorem dL_ties_16 : decode cL_ties 16 = .ok (.ifCond .ge 7, 3) := by decide +kernel
theorem dL_ties_19 : decode cL_ties 19 = .ok (.iconst (-1), 1) := by decide +kernel
theorem dL_ties_20 : decode cL_ties 20 = .ok (.goto 11, 3) := by decide +kernel
theorem dL_ties_23 : decode cL_ties 23 = .ok (.aload_n 0, 1) := by decide +kernel
theorem dL_ties_24 : decode cL_ties 24 = .ok (.iload 8, 2) := by decide +kernel
theorem dL_ties_26 : decode cL_ties 26 = .ok (.iload 7, 2) := by decide +kernel
theorem dL_ties_28 : decode cL_ties 28 = .ok (.invokevirtual 36, 3) := by decide +kernel
theorem dL_ties_31 : decode cL_ties 31 = .ok (.istore 9, 2) := by decide +kernel
theorem dL_ties_33 : decode cL_ties 33 = .ok (.aload_n 0, 1) := by decide +kernel
theorem dL_ties_34 : decode cL_ties 34 = .ok (.iload 7, 2) := by decide +kernel
theorem dL_ties_36 : decode cL_ties 36 = .ok (.invokevirtual 52, 3) := by decide +kernel
theorem dL_ties_39 : decode cL_ties 39 = .ok (.istore 10, 2) := by decide +kernel
theorem dL_ties_41 : decode cL_ties 41 = .ok (.iload 8, 2) := by decide +kernel
theorem dL_ties_43 : decode cL_ties 43 = .ok (.ifCond .lt 29, 3) := by decide +kernel
theorem dL_ties_46 : decode cL_ties 46 = .ok (.aload 5, 2) := by decide +kernel
theorem dL_ties_48 : decode cL_ties 48 = .ok (.iload 8, 2) := by decide +kernel
theorem dL_ties_50 : decode cL_ties 50 = .ok (.iaload, 1) := by decide +kernel
theorem dL_ties_51 : decode cL_ties 51 = .ok (.bipush 7, 2) := by decide +kernel
theorem dL_ties_53 : decode cL_ties 53 = .ok (.iand, 1) := by decide +kernel
theorem dL_ties_54 : decode cL_ties 54 = .ok (.iconst 1, 1) := by decide +kernel
theorem dL_ties_55 : decode cL_ties 55 = .ok (.isub, 1) := by decide +kernel
theorem dL_ties_56 : decode cL_ties 56 = .ok (.aload 4, 2) := by decide +kernel
theorem dL_ties_58 : decode cL_ties 58 = .ok (.iconst 5, 1) := by decide +kernel
theorem dL_ties_59 : decode cL_ties 59 = .ok (.iload 7, 2) := by decide +kernel
theorem dL_ties_61 : decode cL_ties 61 = .ok (.imul, 1) := by decide +kernel
theorem dL_ties_62 : decode cL_ties 62 = .ok (.iconst 1, 1) := by decide +kernel
theorem dL_ties_63 : decode cL_ties 63 = .ok (.iadd, 1) := by decide +kernel
theorem dL_ties_64 : decode cL_ties 64 = .ok (.iaload, 1) := by decide +kernel
theorem dL_ties_65 : decode cL_ties 65 = .ok (.if_icmp .ne 7, 3) := by decide +kernel
theorem dL_ties_68 : decode cL_ties 68 = .ok (.iconst 1, 1) := by decide +kernel
theorem dL_ties_69 : decode cL_ties 69 = .ok (.goto 4, 3) := by decide +kernel
theorem dL_ties_72 : decode cL_ties 72 = .ok (.iconst 0, 1) := by decide +kernel
theorem dL_ties_73 : decode cL_ties 73 = .ok (.istore 11, 2) := by decide +kernel
theorem dL_ties_75 : decode cL_ties 75 = .ok (.iload_n 1, 1) := by decide +kernel
theorem dL_ties_76 : decode cL_ties 76 = .ok (.iconst 3, 1) := by decide +kernel
theorem dL_ties_77 : decode cL_ties 77 = .ok (.if_icmp .ne 16, 3) := by decide +kernel
theorem dL_ties_80 : decode cL_ties 80 = .ok (.aload_n 0, 1) := by decide +kernel
theorem dL_ties_81 : decode cL_ties 81 = .ok (.aload 4, 2) := by decide +kernel
theorem dL_ties_83 : decode cL_ties 83 = .ok (.aload 5, 2) := by decide +kernel
theorem dL_ties_85 : decode cL_ties 85 = .ok (.iload 7, 2) := by decide +kernel
theorem dL_ties_87 : decode cL_ties 87 = .ok (.invokestatic 88, 3) := by decide +kernel
theorem dL_ties_90 : decode cL_ties 90 = .ok (.goto 20, 3) := by decide +kernel
theorem dL_ties_93 : decode cL_ties 93 = .ok (.iload_n 1, 1) := by decide +kernel
theorem dL_ties_94 : decode cL_ties 94 = .ok (.iconst 5, 1) := by decide +kernel
theorem dL_ties_95 : decode cL_ties 95 = .ok (.if_icmp .ne 14, 3) := by decide +kernel
theorem dL_ties_98 : decode cL_ties 98 = .ok (.iload_n 3, 1) := by decide +kernel
theorem dL_ties_99 : decode cL_ties 99 = .ok (.aload 6, 2) := by decide +kernel
theorem dL_ties_101 : decode cL_ties 101 = .ok (.iconst 1, 1) := by decide +kernel
theorem dL_ties_102 : decode cL_ties 102 = .ok (.iaload, 1) := by decide +kernel
theorem dL_ties_103 : decode cL_ties 103 = .ok (.iconst 1, 1) := by decide +kernel
theorem dL_ties_104 : decode cL_ties 104 = .ok (.iadd, 1) := by decide +kernel
theorem dL_ties_105 : decode cL_ties 105 = .ok (.irem, 1) := by decide +kernel
theorem dL_ties_106 : decode cL_ties 106 = .ok (.goto 4, 3) := by decide +kernel
theorem dL_ties_109 : decode cL_ties 109 = .ok (.iconst (-1), 1) := by decide +kernel
theorem dL_ties_110 : decode cL_ties 110 = .ok (.istore 12, 2) := by decide +kernel
theorem dL_ties_112 : decode cL_ties 112 = .ok (.iload_n 1, 1) := by decide +kernel
theorem dL_ties_113 : decode cL_ties 113 = .ok (.iconst 5, 1) := by decide +kernel
theorem dL_ties_114 : decode cL_ties 114 = .ok (.if_icmp .ne 61, 3) := by decide +kernel
theorem dL_ties_117 : decode cL_ties 117 = .ok (.iload 12, 2) := by decide +kernel
theorem dL_ties_119 : decode cL_ties 119 = .ok (.aload 6, 2) := by decide +kernel
theorem dL_ties_121 : decode cL_ties 121 = .ok (.iconst 1, 1) := by decide +kernel
theorem dL_ties_122 : decode cL_ties 122 = .ok (.iaload, 1) := by decide +kernel
theorem dL_ties_123 : decode cL_ties 123 = .ok (.if_icmp .ge 31, 3) := by decide +kernel
theorem dL_ties_126 : decode cL_ties 126 = .ok (.aload 5, 2) := by decide +kernel
theorem dL_ties_128 : decode cL_ties 128 = .ok (.iload 12, 2) := by decide +kernel
theorem dL_ties_130 : decode cL_ties 130 = .ok (.iaload, 1) := by decide +kernel
theorem dL_ties_131 : decode cL_ties 131 = .ok (.ifCond .eq 23, 3) := by decide +kernel
theorem dL_ties_134 : decode cL_ties 134 = .ok (.aload 5, 2) := by decide +kernel
theorem dL_ties_136 : decode cL_ties 136 = .ok (.iload 12, 2) := by decide +kernel
theorem dL_ties_138 : decode cL_ties 138 = .ok (.iaload, 1) := by decide +kernel
theorem dL_ties_139 : decode cL_ties 139 = .ok (.bipush 7, 2) := by decide +kernel
theorem dL_ties_141 : decode cL_ties 141 = .ok (.iand, 1) := by decide +kernel
theorem dL_ties_142 : decode cL_ties 142 = .ok (.iconst 1, 1) := by decide +kernel
theorem dL_ties_143 : decode cL_ties 143 = .ok (.isub, 1) := by decide +kernel
theorem dL_ties_144 : decode cL_ties 144 = .ok (.aload 4, 2) := by decide +kernel
theorem dL_ties_146 : decode cL_ties 146 = .ok (.iconst 5, 1) := by decide +kernel
theorem dL_ties_147 : decode cL_ties 147 = .ok (.iload 7, 2) := by decide +kernel
theorem dL_ties_149 : decode cL_ties 149 = .ok (.imul, 1) := by decide +kernel
theorem dL_ties_150 : decode cL_ties 150 = .ok (.iaload, 1) := by decide +kernel
theorem dL_ties_151 : decode cL_ties 151 = .ok (.if_icmp .eq 24, 3) := by decide +kernel
theorem dL_ties_154 : decode cL_ties 154 = .ok (.aload_n 0, 1) := by decide +kernel
theorem dL_ties_155 : decode cL_ties 155 = .ok (.iconst 5, 1) := by decide +kernel
theorem dL_ties_156 : decode cL_ties 156 = .ok (.iload 7, 2) := by decide +kernel
theorem dL_ties_158 : decode cL_ties 158 = .ok (.iload 12, 2) := by decide +kernel
theorem dL_ties_160 : decode cL_ties 160 = .ok (.invokestatic 112, 3) := by decide +kernel
theorem dL_ties_163 : decode cL_ties 163 = .ok (.sipush (-5001), 3) := by decide +kernel
theorem dL_ties_166 : decode cL_ties 166 = .ok (.if_icmp .ne 7, 3) := by decide +kernel
theorem dL_ties_169 : decode cL_ties 169 = .ok (.iconst 1, 1) := by decide +kernel
theorem dL_ties_170 : decode cL_ties 170 = .ok (.goto 4, 3) := by decide +kernel
theorem dL_ties_173 : decode cL_ties 173 = .ok (.iconst 0, 1) := by decide +kernel
theorem dL_ties_174 : decode cL_ties 174 = .ok (.ireturn, 1) := by decide +kernel
theorem dL_ties_175 : decode cL_ties 175 = .ok (.iload 12, 2) := by decide +kernel
theorem dL_ties_177 : decode cL_ties 177 = .ok (.ifCond .ge 7, 3) := by decide +kernel
theorem dL_ties_180 : decode cL_ties 180 = .ok (.iconst 0, 1) := by decide +kernel
theorem dL_ties_181 : decode cL_ties 181 = .ok (.goto 11, 3) := by decide +kernel
theorem dL_ties_184 : decode cL_ties 184 = .ok (.aload_n 0, 1) := by decide +kernel
theorem dL_ties_185 : decode cL_ties 185 = .ok (.iload 12, 2) := by decide +kernel
theorem dL_ties_187 : decode cL_ties 187 = .ok (.iload 7, 2) := by decide +kernel
theorem dL_ties_189 : decode cL_ties 189 = .ok (.invokevirtual 39, 3) := by decide +kernel
theorem dL_ties_192 : decode cL_ties 192 = .ok (.istore 13, 2) := by decide +kernel
theorem dL_ties_194 : decode cL_ties 194 = .ok (.iload 12, 2) := by decide +kernel
theorem dL_ties_196 : decode cL_ties 196 = .ok (.ifCond .ge 7, 3) := by decide +kernel
theorem dL_ties_199 : decode cL_ties 199 = .ok (.iconst (-1), 1) := by decide +kernel
theorem dL_ties_200 : decode cL_ties 200 = .ok (.goto 13, 3) := by decide +kernel
theorem dL_ties_203 : decode cL_ties 203 = .ok (.aload_n 0, 1) := by decide +kernel
theorem dL_ties_204 : decode cL_ties 204 = .ok (.iload 7, 2) := by decide +kernel
theorem dL_ties_206 : decode cL_ties 206 = .ok (.iload 12, 2) := by decide +kernel
theorem dL_ties_208 : decode cL_ties 208 = .ok (.iload 10, 2) := by decide +kernel
theorem dL_ties_210 : decode cL_ties 210 = .ok (.invokestatic 92, 3) := by decide +kernel
theorem dL_ties_213 : decode cL_ties 213 = .ok (.istore 14, 2) := by decide +kernel
theorem dL_ties_215 : decode cL_ties 215 = .ok (.iload_n 1, 1) := by decide +kernel
theorem dL_ties_216 : decode cL_ties 216 = .ok (.iconst 3, 1) := by decide +kernel
theorem dL_ties_217 : decode cL_ties 217 = .ok (.if_icmp .ne 26, 3) := by decide +kernel
theorem dL_ties_220 : decode cL_ties 220 = .ok (.iload 11, 2) := by decide +kernel
theorem dL_ties_222 : decode cL_ties 222 = .ok (.ifCond .eq 17, 3) := by decide +kernel
theorem dL_ties_225 : decode cL_ties 225 = .ok (.iload 9, 2) := by decide +kernel
theorem dL_ties_227 : decode cL_ties 227 = .ok (.ifCond .ge 12, 3) := by decide +kernel
theorem dL_ties_230 : decode cL_ties 230 = .ok (.iload 10, 2) := by decide +kernel
theorem dL_ties_232 : decode cL_ties 232 = .ok (.ifCond .lt 7, 3) := by decide +kernel
theorem dL_ties_235 : decode cL_ties 235 = .ok (.iconst 1, 1) := by decide +kernel
theorem dL_ties_236 : decode cL_ties 236 = .ok (.goto 50, 3) := by decide +kernel
theorem dL_ties_239 : decode cL_ties 239 = .ok (.iconst 0, 1) := by decide +kernel
theorem dL_ties_240 : decode cL_ties 240 = .ok (.goto 46, 3) := by decide +kernel
theorem dL_ties_243 : decode cL_ties 243 = .ok (.iload 9, 2) := by decide +kernel
theorem dL_ties_245 : decode cL_ties 245 = .ok (.ifCond .lt 40, 3) := by decide +kernel
theorem dL_ties_248 : decode cL_ties 248 = .ok (.iload_n 1, 1) := by decide +kernel
theorem dL_ties_249 : decode cL_ties 249 = .ok (.iconst 4, 1) := by decide +kernel
theorem dL_ties_250 : decode cL_ties 250 = .ok (.if_icmp .ne 19, 3) := by decide +kernel
theorem dL_ties_253 : decode cL_ties 253 = .ok (.aload 4, 2) := by decide +kernel
theorem dL_ties_255 : decode cL_ties 255 = .ok (.iconst 5, 1) := by decide +kernel
theorem dL_ties_256 : decode cL_ties 256 = .ok (.iload 7, 2) := by decide +kernel
theorem dL_ties_258 : decode cL_ties 258 = .ok (.imul, 1) := by decide +kernel
theorem dL_ties_259 : decode cL_ties 259 = .ok (.iconst 4, 1) := by decide +kernel
theorem dL_ties_260 : decode cL_ties 260 = .ok (.iadd, 1) := by decide +kernel
theorem dL_ties_261 : decode cL_ties 261 = .ok (.iaload, 1) := by decide +kernel
theorem dL_ties_262 : decode cL_ties 262 = .ok (.iconst 2, 1) := by decide +kernel
theorem dL_ties_263 : decode cL_ties 263 = .ok (.if_icmp .ne 22, 3) := by decide +kernel
theorem dL_ties_266 : decode cL_ties 266 = .ok (.goto 15, 3) := by decide +kernel
theorem dL_ties_269 : decode cL_ties 269 = .ok (.aload 4, 2) := by decide +kernel
theorem dL_ties_271 : decode cL_ties 271 = .ok (.iconst 5, 1) := by decide +kernel
theorem dL_ties_272 : decode cL_ties 272 = .ok (.iload 7, 2) := by decide +kernel
theorem dL_ties_274 : decode cL_ties 274 = .ok (.imul, 1) := by decide +kernel
theorem dL_ties_275 : decode cL_ties 275 = .ok (.iconst 4, 1) := by decide +kernel
theorem dL_ties_276 : decode cL_ties 276 = .ok (.iadd, 1) := by decide +kernel
theorem dL_ties_277 : decode cL_ties 277 = .ok (.iaload, 1) := by decide +kernel
theorem dL_ties_278 : decode cL_ties 278 = .ok (.ifCond .le 7, 3) := by decide +kernel
theorem dL_ties_281 : decode cL_ties 281 = .ok (.iconst 1, 1) := by decide +kernel
theorem dL_ties_282 : decode cL_ties 282 = .ok (.goto 4, 3) := by decide +kernel
theorem dL_ties_285 : decode cL_ties 285 = .ok (.iconst 0, 1) := by decide +kernel
theorem dL_ties_286 : decode cL_ties 286 = .ok (.istore 15, 2) := by decide +kernel
theorem dL_ties_288 : decode cL_ties 288 = .ok (.iload 9, 2) := by decide +kernel
theorem dL_ties_290 : decode cL_ties 290 = .ok (.ifCond .ge 7, 3) := by decide +kernel
theorem dL_ties_293 : decode cL_ties 293 = .ok (.iconst 0, 1) := by decide +kernel
theorem dL_ties_294 : decode cL_ties 294 = .ok (.goto 11, 3) := by decide +kernel
theorem dL_ties_297 : decode cL_ties 297 = .ok (.aload_n 0, 1) := by decide +kernel
theorem dL_ties_298 : decode cL_ties 298 = .ok (.iload 9, 2) := by decide +kernel
theorem dL_ties_300 : decode cL_ties 300 = .ok (.iload 7, 2) := by decide +kernel
theorem dL_ties_302 : decode cL_ties 302 = .ok (.invokevirtual 39, 3) := by decide +kernel
theorem dL_ties_305 : decode cL_ties 305 = .ok (.istore 16, 2) := by decide +kernel
theorem dL_ties_307 : decode cL_ties 307 = .ok (.iload 9, 2) := by decide +kernel
theorem dL_ties_309 : decode cL_ties 309 = .ok (.ifCond .ge 7, 3) := by decide +kernel
theorem dL_ties_312 : decode cL_ties 312 = .ok (.iconst (-1), 1) := by decide +kernel
theorem dL_ties_313 : decode cL_ties 313 = .ok (.goto 13, 3) := by decide +kernel
theorem dL_ties_316 : decode cL_ties 316 = .ok (.aload_n 0, 1) := by decide +kernel
theorem dL_ties_317 : decode cL_ties 317 = .ok (.iload 7, 2) := by decide +kernel
theorem dL_ties_319 : decode cL_ties 319 = .ok (.iload 9, 2) := by decide +kernel
theorem dL_ties_321 : decode cL_ties 321 = .ok (.iload 8, 2) := by decide +kernel
theorem dL_ties_323 : decode cL_ties 323 = .ok (.invokestatic 92, 3) := by decide +kernel
theorem dL_ties_326 : decode cL_ties 326 = .ok (.istore 17, 2) := by decide +kernel
theorem dL_ties_328 : decode cL_ties 328 = .ok (.aload_n 0, 1) := by decide +kernel
theorem dL_ties_329 : decode cL_ties 329 = .ok (.iload_n 1, 1) := by decide +kernel
theorem dL_ties_330 : decode cL_ties 330 = .ok (.iload 7, 2) := by decide +kernel
theorem dL_ties_332 : decode cL_ties 332 = .ok (.iload 12, 2) := by decide +kernel
theorem dL_ties_334 : decode cL_ties 334 = .ok (.invokestatic 112, 3) := by decide +kernel
theorem dL_ties_337 : decode cL_ties 337 = .ok (.istore 18, 2) := by decide +kernel
theorem dL_ties_339 : decode cL_ties 339 = .ok (.iload 15, 2) := by decide +kernel
theorem dL_ties_341 : decode cL_ties 341 = .ok (.ifCond .ne 17, 3) := by decide +kernel
theorem dL_ties_344 : decode cL_ties 344 = .ok (.iload 18, 2) := by decide +kernel
theorem dL_ties_346 : decode cL_ties 346 = .ok (.sipush (-5002), 3) := by decide +kernel
theorem dL_ties_349 : decode cL_ties 349 = .ok (.if_icmp .ne 7, 3) := by decide +kernel
theorem dL_ties_352 : decode cL_ties 352 = .ok (.iconst 1, 1) := by decide +kernel
theorem dL_ties_353 : decode cL_ties 353 = .ok (.goto 4, 3) := by decide +kernel
theorem dL_ties_356 : decode cL_ties 356 = .ok (.iconst 0, 1) := by decide +kernel
theorem dL_ties_357 : decode cL_ties 357 = .ok (.ireturn, 1) := by decide +kernel
theorem dL_ties_358 : decode cL_ties 358 = .ok (.iload_n 1, 1) := by decide +kernel
theorem dL_ties_359 : decode cL_ties 359 = .ok (.iconst 4, 1) := by decide +kernel
theorem dL_ties_360 : decode cL_ties 360 = .ok (.if_icmp .ne 61, 3) := by decide +kernel
theorem dL_ties_363 : decode cL_ties 363 = .ok (.iload 18, 2) := by decide +kernel
theorem dL_ties_365 : decode cL_ties 365 = .ok (.iload 16, 2) := by decide +kernel
theorem dL_ties_367 : decode cL_ties 367 = .ok (.iconst 1, 1) := by decide +kernel
theorem dL_ties_368 : decode cL_ties 368 = .ok (.isub, 1) := by decide +kernel
theorem dL_ties_369 : decode cL_ties 369 = .ok (.if_icmp .ne 50, 3) := by decide +kernel
theorem dL_ties_372 : decode cL_ties 372 = .ok (.aload_n 0, 1) := by decide +kernel
theorem dL_ties_373 : decode cL_ties 373 = .ok (.iload 8, 2) := by decide +kernel
theorem dL_ties_375 : decode cL_ties 375 = .ok (.iload 7, 2) := by decide +kernel
theorem dL_ties_377 : decode cL_ties 377 = .ok (.invokevirtual 36, 3) := by decide +kernel
theorem dL_ties_380 : decode cL_ties 380 = .ok (.iconst (-1), 1) := by decide +kernel
theorem dL_ties_381 : decode cL_ties 381 = .ok (.if_icmp .ne 38, 3) := by decide +kernel
theorem dL_ties_384 : decode cL_ties 384 = .ok (.aload_n 0, 1) := by decide +kernel
theorem dL_ties_385 : decode cL_ties 385 = .ok (.iload 7, 2) := by decide +kernel
theorem dL_ties_387 : decode cL_ties 387 = .ok (.invokevirtual 52, 3) := by decide +kernel
theorem dL_ties_390 : decode cL_ties 390 = .ok (.iload 10, 2) := by decide +kernel
theorem dL_ties_392 : decode cL_ties 392 = .ok (.iload 8, 2) := by decide +kernel
theorem dL_ties_394 : decode cL_ties 394 = .ok (.if_icmp .ne 7, 3) := by decide +kernel
theorem dL_ties_397 : decode cL_ties 397 = .ok (.iconst (-1), 1) := by decide +kernel
theorem dL_ties_398 : decode cL_ties 398 = .ok (.goto 5, 3) := by decide +kernel
theorem dL_ties_401 : decode cL_ties 401 = .ok (.iload 10, 2) := by decide +kernel
theorem dL_ties_403 : decode cL_ties 403 = .ok (.if_icmp .ne 16, 3) := by decide +kernel
theorem dL_ties_406 : decode cL_ties 406 = .ok (.aload_n 0, 1) := by decide +kernel
theorem dL_ties_407 : decode cL_ties 407 = .ok (.invokevirtual 74, 3) := by decide +kernel
theorem dL_ties_410 : decode cL_ties 410 = .ok (.iload 8, 2) := by decide +kernel
theorem dL_ties_412 : decode cL_ties 412 = .ok (.if_icmp .ne 7, 3) := by decide +kernel
theorem dL_ties_415 : decode cL_ties 415 = .ok (.iconst 1, 1) := by decide +kernel
theorem dL_ties_416 : decode cL_ties 416 = .ok (.goto 4, 3) := by decide +kernel
theorem dL_ties_419 : decode cL_ties 419 = .ok (.iconst 0, 1) := by decide +kernel
theorem dL_ties_420 : decode cL_ties 420 = .ok (.ireturn, 1) := by decide +kernel
theorem dL_ties_421 : decode cL_ties 421 = .ok (.iload 9, 2) := by decide +kernel
theorem dL_ties_423 : decode cL_ties 423 = .ok (.iload 12, 2) := by decide +kernel
theorem dL_ties_425 : decode cL_ties 425 = .ok (.if_icmp .ne 7, 3) := by decide +kernel
theorem dL_ties_428 : decode cL_ties 428 = .ok (.iconst 1, 1) := by decide +kernel
theorem dL_ties_429 : decode cL_ties 429 = .ok (.goto 4, 3) := by decide +kernel
theorem dL_ties_432 : decode cL_ties 432 = .ok (.iconst 0, 1) := by decide +kernel
theorem dL_ties_433 : decode cL_ties 433 = .ok (.istore 19, 2) := by decide +kernel
theorem dL_ties_435 : decode cL_ties 435 = .ok (.iload 19, 2) := by decide +kernel
theorem dL_ties_437 : decode cL_ties 437 = .ok (.ifCond .eq 14, 3) := by decide +kernel
theorem dL_ties_440 : decode cL_ties 440 = .ok (.iload 10, 2) := by decide +kernel
theorem dL_ties_442 : decode cL_ties 442 = .ok (.iload 8, 2) := by decide +kernel
theorem dL_ties_444 : decode cL_ties 444 = .ok (.if_icmp .ne 7, 3) := by decide +kernel
theorem dL_ties_447 : decode cL_ties 447 = .ok (.iconst (-1), 1) := by decide +kernel
theorem dL_ties_448 : decode cL_ties 448 = .ok (.goto 24, 3) := by decide +kernel
theorem dL_ties_451 : decode cL_ties 451 = .ok (.iload 19, 2) := by decide +kernel
theorem dL_ties_453 : decode cL_ties 453 = .ok (.ifCond .eq 17, 3) := by decide +kernel
theorem dL_ties_456 : decode cL_ties 456 = .ok (.iload 14, 2) := by decide +kernel
theorem dL_ties_458 : decode cL_ties 458 = .ok (.iload 17, 2) := by decide +kernel
theorem dL_ties_460 : decode cL_ties 460 = .ok (.if_icmp .le 10, 3) := by decide +kernel
theorem dL_ties_463 : decode cL_ties 463 = .ok (.iload 14, 2) := by decide +kernel
theorem dL_ties_465 : decode cL_ties 465 = .ok (.iconst 1, 1) := by decide +kernel
theorem dL_ties_466 : decode cL_ties 466 = .ok (.isub, 1) := by decide +kernel
theorem dL_ties_467 : decode cL_ties 467 = .ok (.goto 5, 3) := by decide +kernel
theorem dL_ties_470 : decode cL_ties 470 = .ok (.iload 14, 2) := by decide +kernel
theorem dL_ties_472 : decode cL_ties 472 = .ok (.istore 20, 2) := by decide +kernel
theorem dL_ties_474 : decode cL_ties 474 = .ok (.aload_n 0, 1) := by decide +kernel
theorem dL_ties_475 : decode cL_ties 475 = .ok (.iload 8, 2) := by decide +kernel
theorem dL_ties_477 : decode cL_ties 477 = .ok (.iload 7, 2) := by decide +kernel
theorem dL_ties_479 : decode cL_ties 479 = .ok (.invokevirtual 36, 3) := by decide +kernel
theorem dL_ties_482 : decode cL_ties 482 = .ok (.iload 12, 2) := by decide +kernel
theorem dL_ties_484 : decode cL_ties 484 = .ok (.if_icmp .ne 58, 3) := by decide +kernel
theorem dL_ties_487 : decode cL_ties 487 = .ok (.aload_n 0, 1) := by decide +kernel
theorem dL_ties_488 : decode cL_ties 488 = .ok (.iload 7, 2) := by decide +kernel
theorem dL_ties_490 : decode cL_ties 490 = .ok (.invokevirtual 52, 3) := by decide +kernel
theorem dL_ties_493 : decode cL_ties 493 = .ok (.iload 8, 2) := by decide +kernel
theorem dL_ties_495 : decode cL_ties 495 = .ok (.if_icmp .ne 47, 3) := by decide +kernel
theorem dL_ties_498 : decode cL_ties 498 = .ok (.aload_n 0, 1) := by decide +kernel
theorem dL_ties_499 : decode cL_ties 499 = .ok (.invokevirtual 74, 3) := by decide +kernel
theorem dL_ties_502 : decode cL_ties 502 = .ok (.iload 8, 2) := by decide +kernel
theorem dL_ties_504 : decode cL_ties 504 = .ok (.if_icmp .ne 38, 3) := by decide +kernel
theorem dL_ties_507 : decode cL_ties 507 = .ok (.iload 18, 2) := by decide +kernel
theorem dL_ties_509 : decode cL_ties 509 = .ok (.aload_n 0, 1) := by decide +kernel
theorem dL_ties_510 : decode cL_ties 510 = .ok (.iload 12, 2) := by decide +kernel
theorem dL_ties_512 : decode cL_ties 512 = .ok (.iload 7, 2) := by decide +kernel
theorem dL_ties_514 : decode cL_ties 514 = .ok (.invokevirtual 39, 3) := by decide +kernel
theorem dL_ties_517 : decode cL_ties 517 = .ok (.if_icmp .ne 25, 3) := by decide +kernel
theorem dL_ties_520 : decode cL_ties 520 = .ok (.iload 18, 2) := by decide +kernel
theorem dL_ties_522 : decode cL_ties 522 = .ok (.iload 13, 2) := by decide +kernel
theorem dL_ties_524 : decode cL_ties 524 = .ok (.iload 19, 2) := by decide +kernel
theorem dL_ties_526 : decode cL_ties 526 = .ok (.ifCond .eq 7, 3) := by decide +kernel
theorem dL_ties_529 : decode cL_ties 529 = .ok (.iconst 0, 1) := by decide +kernel
theorem dL_ties_530 : decode cL_ties 530 = .ok (.goto 4, 3) := by decide +kernel
theorem dL_ties_533 : decode cL_ties 533 = .ok (.iconst 1, 1) := by decide +kernel
theorem dL_ties_534 : decode cL_ties 534 = .ok (.iadd, 1) := by decide +kernel
theorem dL_ties_535 : decode cL_ties 535 = .ok (.if_icmp .ne 7, 3) := by decide +kernel
theorem dL_ties_538 : decode cL_ties 538 = .ok (.iconst 1, 1) := by decide +kernel
theorem dL_ties_539 : decode cL_ties 539 = .ok (.goto 4, 3) := by decide +kernel
theorem dL_ties_542 : decode cL_ties 542 = .ok (.iconst 0, 1) := by decide +kernel
theorem dL_ties_543 : decode cL_ties 543 = .ok (.istore 21, 2) := by decide +kernel
theorem dL_ties_545 : decode cL_ties 545 = .ok (.iload 21, 2) := by decide +kernel
theorem dL_ties_547 : decode cL_ties 547 = .ok (.ifCond .eq 38, 3) := by decide +kernel
theorem dL_ties_550 : decode cL_ties 550 = .ok (.aload_n 0, 1) := by decide +kernel
theorem dL_ties_551 : decode cL_ties 551 = .ok (.aload 4, 2) := by decide +kernel
theorem dL_ties_553 : decode cL_ties 553 = .ok (.iload 7, 2) := by decide +kernel
theorem dL_ties_555 : decode cL_ties 555 = .ok (.iload 12, 2) := by decide +kernel
theorem dL_ties_557 : decode cL_ties 557 = .ok (.iload 8, 2) := by decide +kernel
theorem dL_ties_559 : decode cL_ties 559 = .ok (.iload 19, 2) := by decide +kernel
theorem dL_ties_561 : decode cL_ties 561 = .ok (.ifCond .eq 10, 3) := by decide +kernel
theorem dL_ties_564 : decode cL_ties 564 = .ok (.iload 13, 2) := by decide +kernel
theorem dL_ties_566 : decode cL_ties 566 = .ok (.iconst 1, 1) := by decide +kernel
theorem dL_ties_567 : decode cL_ties 567 = .ok (.isub, 1) := by decide +kernel
theorem dL_ties_568 : decode cL_ties 568 = .ok (.goto 5, 3) := by decide +kernel
theorem dL_ties_571 : decode cL_ties 571 = .ok (.iload 13, 2) := by decide +kernel
theorem dL_ties_573 : decode cL_ties 573 = .ok (.iload 20, 2) := by decide +kernel
theorem dL_ties_575 : decode cL_ties 575 = .ok (.invokestatic 115, 3) := by decide +kernel
theorem dL_ties_578 : decode cL_ties 578 = .ok (.ifCond .eq 7, 3) := by decide +kernel
theorem dL_ties_581 : decode cL_ties 581 = .ok (.iconst 1, 1) := by decide +kernel
theorem dL_ties_582 : decode cL_ties 582 = .ok (.goto 4, 3) := by decide +kernel
theorem dL_ties_585 : decode cL_ties 585 = .ok (.iconst 0, 1) := by decide +kernel
theorem dL_ties_586 : decode cL_ties 586 = .ok (.ireturn, 1) := by decide +kernel
theorem dL_modifies_0 : decode cL_modifies 0 = .ok (.aload_n 0, 1) := by decide +kernel
theorem dL_modifies_1 : decode cL_modifies 1 = .ok (.invokevirtual 74, 3) := by decide +kernel
theorem dL_modifies_4 : decode cL_modifies 4 = .ok (.istore 5, 2) := by decide +kernel
theorem dL_modifies_6 : decode cL_modifies 6 = .ok (.bipush 11, 2) := by decide +kernel
theorem dL_modifies_8 : decode cL_modifies 8 = .ok (.newarray .int, 2) := by decide +kernel
theorem dL_modifies_10 : decode cL_modifies 10 = .ok (.astore 6, 2) := by decide +kernel
theorem dL_modifies_12 : decode cL_modifies 12 = .ok (.aload_n 0, 1) := by decide +kernel
theorem dL_modifies_13 : decode cL_modifies 13 = .ok (.aload 4, 2) := by decide +kernel
theorem dL_modifies_15 : decode cL_modifies 15 = .ok (.aload 6, 2) := by decide +kernel
theorem dL_modifies_17 : decode cL_modifies 17 = .ok (.invokestatic 77, 3) := by decide +kernel
theorem dL_modifies_20 : decode cL_modifies 20 = .ok (.aload_n 0, 1) := by decide +kernel
theorem dL_modifies_21 : decode cL_modifies 21 = .ok (.iconst 1, 1) := by decide +kernel
theorem dL_modifies_22 : decode cL_modifies 22 = .ok (.iload_n 1, 1) := by decide +kernel
theorem dL_modifies_23 : decode cL_modifies 23 = .ok (.iconst 0, 1) := by decide +kernel
theorem dL_modifies_24 : decode cL_modifies 24 = .ok (.invokestatic 112, 3) := by decide +kernel
theorem dL_modifies_27 : decode cL_modifies 27 = .ok (.istore 7, 2) := by decide +kernel
theorem dL_modifies_29 : decode cL_modifies 29 = .ok (.iload 5, 2) := by decide +kernel
theorem dL_modifies_31 : decode cL_modifies 31 = .ok (.ifCond .ge 17, 3) := by decide +kernel
theorem dL_modifies_34 : decode cL_modifies 34 = .ok (.iload 7, 2) := by decide +kernel
theorem dL_modifies_36 : decode cL_modifies 36 = .ok (.sipush (-5002), 3) := by decide +kernel
theorem dL_modifies_39 : decode cL_modifies 39 = .ok (.if_icmp .ne 7, 3) := by decide +kernel
theorem dL_modifies_42 : decode cL_modifies 42 = .ok (.iconst 1, 1) := by decide +kernel
theorem dL_modifies_43 : decode cL_modifies 43 = .ok (.goto 4, 3) := by decide +kernel
theorem dL_modifies_46 : decode cL_modifies 46 = .ok (.iconst 0, 1) := by decide +kernel
theorem dL_modifies_47 : decode cL_modifies 47 = .ok (.ireturn, 1) := by decide +kernel
theorem dL_modifies_48 : decode cL_modifies 48 = .ok (.aload_n 3, 1) := by decide +kernel
theorem dL_modifies_49 : decode cL_modifies 49 = .ok (.iload 5, 2) := by decide +kernel
theorem dL_modifies_51 : decode cL_modifies 51 = .ok (.iaload, 1) := by decide +kernel
theorem dL_modifies_52 : decode cL_modifies 52 = .ok (.iconst 3, 1) := by decide +kernel
theorem dL_modifies_53 : decode cL_modifies 53 = .ok (.ishr, 1) := by decide +kernel
theorem dL_modifies_54 : decode cL_modifies 54 = .ok (.sipush 1000, 3) := by decide +kernel
theorem dL_modifies_57 : decode cL_modifies 57 = .ok (.isub, 1) := by decide +kernel
theorem dL_modifies_58 : decode cL_modifies 58 = .ok (.istore 8, 2) := by decide +kernel
theorem dL_modifies_60 : decode cL_modifies 60 = .ok (.aload_n 3, 1) := by decide +kernel
theorem dL_modifies_61 : decode cL_modifies 61 = .ok (.iload 5, 2) := by decide +kernel
theorem dL_modifies_63 : decode cL_modifies 63 = .ok (.aload_n 3, 1) := by decide +kernel
theorem dL_modifies_64 : decode cL_modifies 64 = .ok (.iload 5, 2) := by decide +kernel
theorem dL_modifies_66 : decode cL_modifies 66 = .ok (.iaload, 1) := by decide +kernel
theorem dL_modifies_67 : decode cL_modifies 67 = .ok (.bipush 7, 2) := by decide +kernel
theorem dL_modifies_69 : decode cL_modifies 69 = .ok (.iand, 1) := by decide +kernel
theorem dL_modifies_70 : decode cL_modifies 70 = .ok (.iload_n 1, 1) := by decide +kernel
theorem dL_modifies_71 : decode cL_modifies 71 = .ok (.sipush 1000, 3) := by decide +kernel
theorem dL_modifies_74 : decode cL_modifies 74 = .ok (.iadd, 1) := by decide +kernel
theorem dL_modifies_75 : decode cL_modifies 75 = .ok (.iconst 3, 1) := by decide +kernel
theorem dL_modifies_76 : decode cL_modifies 76 = .ok (.ishl, 1) := by decide +kernel
theorem dL_modifies_77 : decode cL_modifies 77 = .ok (.ior, 1) := by decide +kernel
theorem dL_modifies_78 : decode cL_modifies 78 = .ok (.iastore, 1) := by decide +kernel
theorem dL_modifies_79 : decode cL_modifies 79 = .ok (.iload 7, 2) := by decide +kernel
theorem dL_modifies_81 : decode cL_modifies 81 = .ok (.iload 8, 2) := by decide +kernel
theorem dL_modifies_83 : decode cL_modifies 83 = .ok (.if_icmp .ne 21, 3) := by decide +kernel
theorem dL_modifies_86 : decode cL_modifies 86 = .ok (.aload_n 0, 1) := by decide +kernel
theorem dL_modifies_87 : decode cL_modifies 87 = .ok (.aload_n 2, 1) := by decide +kernel
theorem dL_modifies_88 : decode cL_modifies 88 = .ok (.aload_n 3, 1) := by decide +kernel
theorem dL_modifies_89 : decode cL_modifies 89 = .ok (.aload 4, 2) := by decide +kernel
theorem dL_modifies_91 : decode cL_modifies 91 = .ok (.iconst (-1), 1) := by decide +kernel
theorem dL_modifies_92 : decode cL_modifies 92 = .ok (.aload 6, 2) := by decide +kernel
theorem dL_modifies_94 : decode cL_modifies 94 = .ok (.invokestatic 108, 3) := by decide +kernel
theorem dL_modifies_97 : decode cL_modifies 97 = .ok (.ifCond .eq 7, 3) := by decide +kernel
theorem dL_modifies_100 : decode cL_modifies 100 = .ok (.iconst 1, 1) := by decide +kernel
theorem dL_modifies_101 : decode cL_modifies 101 = .ok (.goto 4, 3) := by decide +kernel
theorem dL_modifies_104 : decode cL_modifies 104 = .ok (.iconst 0, 1) := by decide +kernel
theorem dL_modifies_105 : decode cL_modifies 105 = .ok (.istore 9, 2) := by decide +kernel
theorem dL_modifies_107 : decode cL_modifies 107 = .ok (.iconst 0, 1) := by decide +kernel
theorem dL_modifies_108 : decode cL_modifies 108 = .ok (.istore 10, 2) := by decide +kernel
theorem dL_modifies_110 : decode cL_modifies 110 = .ok (.iload 10, 2) := by decide +kernel
theorem dL_modifies_112 : decode cL_modifies 112 = .ok (.aload 4, 2) := by decide +kernel
theorem dL_modifies_114 : decode cL_modifies 114 = .ok (.iconst 0, 1) := by decide +kernel
theorem dL_modifies_115 : decode cL_modifies 115 = .ok (.iaload, 1) := by decide +kernel
theorem dL_modifies_116 : decode cL_modifies 116 = .ok (.if_icmp .ge 73, 3) := by decide +kernel
theorem dL_modifies_119 : decode cL_modifies 119 = .ok (.iload 9, 2) := by decide +kernel
theorem dL_modifies_121 : decode cL_modifies 121 = .ok (.ifCond .eq 68, 3) := by decide +kernel
theorem dL_modifies_124 : decode cL_modifies 124 = .ok (.aload_n 0, 1) := by decide +kernel
theorem dL_modifies_125 : decode cL_modifies 125 = .ok (.iload 5, 2) := by decide +kernel
theorem dL_modifies_127 : decode cL_modifies 127 = .ok (.iload 10, 2) := by decide +kernel
theorem dL_modifies_129 : decode cL_modifies 129 = .ok (.invokevirtual 36, 3) := by decide +kernel
theorem dL_modifies_132 : decode cL_modifies 132 = .ok (.istore 11, 2) := by decide +kernel
theorem dL_modifies_134 : decode cL_modifies 134 = .ok (.iload 11, 2) := by decide +kernel
theorem dL_modifies_136 : decode cL_modifies 136 = .ok (.ifCond .lt 40, 3) := by decide +kernel
theorem dL_modifies_139 : decode cL_modifies 139 = .ok (.aload_n 2, 1) := by decide +kernel
theorem dL_modifies_140 : decode cL_modifies 140 = .ok (.iconst 5, 1) := by decide +kernel
theorem dL_modifies_141 : decode cL_modifies 141 = .ok (.iload 10, 2) := by decide +kernel
theorem dL_modifies_143 : decode cL_modifies 143 = .ok (.imul, 1) := by decide +kernel
theorem dL_modifies_144 : decode cL_modifies 144 = .ok (.iconst 2, 1) := by decide +kernel
theorem dL_modifies_145 : decode cL_modifies 145 = .ok (.iadd, 1) := by decide +kernel
theorem dL_modifies_146 : decode cL_modifies 146 = .ok (.iaload, 1) := by decide +kernel
theorem dL_modifies_147 : decode cL_modifies 147 = .ok (.iconst 4, 1) := by decide +kernel
theorem dL_modifies_148 : decode cL_modifies 148 = .ok (.if_icmp .ne 28, 3) := by decide +kernel
theorem dL_modifies_151 : decode cL_modifies 151 = .ok (.aload_n 0, 1) := by decide +kernel
theorem dL_modifies_152 : decode cL_modifies 152 = .ok (.aload_n 2, 1) := by decide +kernel
theorem dL_modifies_153 : decode cL_modifies 153 = .ok (.iload 10, 2) := by decide +kernel
theorem dL_modifies_155 : decode cL_modifies 155 = .ok (.iload 11, 2) := by decide +kernel
theorem dL_modifies_157 : decode cL_modifies 157 = .ok (.iload 5, 2) := by decide +kernel
theorem dL_modifies_159 : decode cL_modifies 159 = .ok (.aload_n 0, 1) := by decide +kernel
theorem dL_modifies_160 : decode cL_modifies 160 = .ok (.iload 11, 2) := by decide +kernel
theorem dL_modifies_162 : decode cL_modifies 162 = .ok (.iload 10, 2) := by decide +kernel
theorem dL_modifies_164 : decode cL_modifies 164 = .ok (.invokevirtual 39, 3) := by decide +kernel
theorem dL_modifies_167 : decode cL_modifies 167 = .ok (.iconst 1, 1) := by decide +kernel
theorem dL_modifies_168 : decode cL_modifies 168 = .ok (.isub, 1) := by decide +kernel
theorem dL_modifies_169 : decode cL_modifies 169 = .ok (.iconst (-1), 1) := by decide +kernel
theorem dL_modifies_170 : decode cL_modifies 170 = .ok (.invokestatic 115, 3) := by decide +kernel
theorem dL_modifies_173 : decode cL_modifies 173 = .ok (.ifCond .eq 7, 3) := by decide +kernel
theorem dL_modifies_176 : decode cL_modifies 176 = .ok (.iconst 1, 1) := by decide +kernel
theorem dL_modifies_177 : decode cL_modifies 177 = .ok (.goto 4, 3) := by decide +kernel
theorem dL_modifies_180 : decode cL_modifies 180 = .ok (.iconst 0, 1) := by decide +kernel
theorem dL_modifies_181 : decode cL_modifies 181 = .ok (.istore 9, 2) := by decide +kernel
theorem dL_modifies_183 : decode cL_modifies 183 = .ok (.iinc 10 1, 3) := by decide +kernel
theorem dL_modifies_186 : decode cL_modifies 186 = .ok (.goto (-76), 3) := by decide +kernel
theorem dL_modifies_189 : decode cL_modifies 189 = .ok (.iload 9, 2) := by decide +kernel
theorem dL_modifies_191 : decode cL_modifies 191 = .ok (.ireturn, 1) := by decide +kernel
theorem dL_base_0 : decode cL_base 0 = .ok (.new 11, 3) := by decide +kernel
theorem dL_base_3 : decode cL_base 3 = .ok (.dup, 1) := by decide +kernel
theorem dL_base_4 : decode cL_base 4 = .ok (.invokespecial 130, 3) := by decide +kernel
theorem dL_base_7 : decode cL_base 7 = .ok (.astore_n 2, 1) := by decide +kernel
theorem dL_base_8 : decode cL_base 8 = .ok (.bipush 30, 2) := by decide +kernel
theorem dL_base_10 : decode cL_base 10 = .ok (.newarray .int, 2) := by decide +kernel
theorem dL_base_12 : decode cL_base 12 = .ok (.astore_n 3, 1) := by decide +kernel
theorem dL_base_13 : decode cL_base 13 = .ok (.bipush 60, 2) := by decide +kernel
theorem dL_base_15 : decode cL_base 15 = .ok (.newarray .int, 2) := by decide +kernel
theorem dL_base_17 : decode cL_base 17 = .ok (.astore 4, 2) := by decide +kernel
theorem dL_base_19 : decode cL_base 19 = .ok (.iconst 3, 1) := by decide +kernel
theorem dL_base_20 : decode cL_base 20 = .ok (.newarray .int, 2) := by decide +kernel
theorem dL_base_22 : decode cL_base 22 = .ok (.astore 5, 2) := by decide +kernel
theorem dL_base_24 : decode cL_base 24 = .ok (.iconst 1, 1) := by decide +kernel
theorem dL_base_25 : decode cL_base 25 = .ok (.istore 6, 2) := by decide +kernel
theorem dL_base_27 : decode cL_base 27 = .ok (.iconst 0, 1) := by decide +kernel
theorem dL_base_28 : decode cL_base 28 = .ok (.istore 7, 2) := by decide +kernel
theorem dL_base_30 : decode cL_base 30 = .ok (.iload 7, 2) := by decide +kernel
theorem dL_base_32 : decode cL_base 32 = .ok (.iconst 4, 1) := by decide +kernel
theorem dL_base_33 : decode cL_base 33 = .ok (.if_icmp .ge 200, 3) := by decide +kernel
theorem dL_base_36 : decode cL_base 36 = .ok (.aload_n 0, 1) := by decide +kernel
theorem dL_base_37 : decode cL_base 37 = .ok (.iload_n 1, 1) := by decide +kernel
theorem dL_base_38 : decode cL_base 38 = .ok (.iconst 2, 1) := by decide +kernel
theorem dL_base_39 : decode cL_base 39 = .ok (.iload 7, 2) := by decide +kernel
theorem dL_base_41 : decode cL_base 41 = .ok (.imul, 1) := by decide +kernel
theorem dL_base_42 : decode cL_base 42 = .ok (.iadd, 1) := by decide +kernel
theorem dL_base_43 : decode cL_base 43 = .ok (.ldc 131, 2) := by decide +kernel
theorem dL_base_45 : decode cL_base 45 = .ok (.invokestatic 132, 3) := by decide +kernel
theorem dL_base_48 : decode cL_base 48 = .ok (.istore 8, 2) := by decide +kernel
theorem dL_base_50 : decode cL_base 50 = .ok (.aload_n 0, 1) := by decide +kernel
theorem dL_base_51 : decode cL_base 51 = .ok (.iload_n 1, 1) := by decide +kernel
theorem dL_base_52 : decode cL_base 52 = .ok (.iconst 2, 1) := by decide +kernel
theorem dL_base_53 : decode cL_base 53 = .ok (.iload 7, 2) := by decide +kernel
theorem dL_base_55 : decode cL_base 55 = .ok (.imul, 1) := by decide +kernel
theorem dL_base_56 : decode cL_base 56 = .ok (.iadd, 1) := by decide +kernel
theorem dL_base_57 : decode cL_base 57 = .ok (.iconst 1, 1) := by decide +kernel
theorem dL_base_58 : decode cL_base 58 = .ok (.iadd, 1) := by decide +kernel
theorem dL_base_59 : decode cL_base 59 = .ok (.ldc 131, 2) := by decide +kernel
theorem dL_base_61 : decode cL_base 61 = .ok (.invokestatic 132, 3) := by decide +kernel
theorem dL_base_64 : decode cL_base 64 = .ok (.istore 9, 2) := by decide +kernel
theorem dL_base_66 : decode cL_base 66 = .ok (.aload_n 3, 1) := by decide +kernel
theorem dL_base_67 : decode cL_base 67 = .ok (.iconst 5, 1) := by decide +kernel
theorem dL_base_68 : decode cL_base 68 = .ok (.iload 7, 2) := by decide +kernel
theorem dL_base_70 : decode cL_base 70 = .ok (.imul, 1) := by decide +kernel
theorem dL_base_71 : decode cL_base 71 = .ok (.iload 8, 2) := by decide +kernel
theorem dL_base_73 : decode cL_base 73 = .ok (.iconst 4, 1) := by decide +kernel
theorem dL_base_74 : decode cL_base 74 = .ok (.irem, 1) := by decide +kernel
theorem dL_base_75 : decode cL_base 75 = .ok (.iastore, 1) := by decide +kernel
theorem dL_base_76 : decode cL_base 76 = .ok (.aload_n 3, 1) := by decide +kernel
theorem dL_base_77 : decode cL_base 77 = .ok (.iconst 5, 1) := by decide +kernel
theorem dL_base_78 : decode cL_base 78 = .ok (.iload 7, 2) := by decide +kernel
theorem dL_base_80 : decode cL_base 80 = .ok (.imul, 1) := by decide +kernel
theorem dL_base_81 : decode cL_base 81 = .ok (.iconst 1, 1) := by decide +kernel
theorem dL_base_82 : decode cL_base 82 = .ok (.iadd, 1) := by decide +kernel
theorem dL_base_83 : decode cL_base 83 = .ok (.iload 8, 2) := by decide +kernel
theorem dL_base_85 : decode cL_base 85 = .ok (.iconst 1, 1) := by decide +kernel
theorem dL_base_86 : decode cL_base 86 = .ok (.iadd, 1) := by decide +kernel
theorem dL_base_87 : decode cL_base 87 = .ok (.iload 8, 2) := by decide +kernel
theorem dL_base_89 : decode cL_base 89 = .ok (.iconst 4, 1) := by decide +kernel
theorem dL_base_90 : decode cL_base 90 = .ok (.idiv, 1) := by decide +kernel
theorem dL_base_91 : decode cL_base 91 = .ok (.iconst 3, 1) := by decide +kernel
theorem dL_base_92 : decode cL_base 92 = .ok (.irem, 1) := by decide +kernel
theorem dL_base_93 : decode cL_base 93 = .ok (.iadd, 1) := by decide +kernel
theorem dL_base_94 : decode cL_base 94 = .ok (.iconst 4, 1) := by decide +kernel
theorem dL_base_95 : decode cL_base 95 = .ok (.irem, 1) := by decide +kernel
theorem dL_base_96 : decode cL_base 96 = .ok (.iastore, 1) := by decide +kernel
theorem dL_base_97 : decode cL_base 97 = .ok (.aload_n 3, 1) := by decide +kernel
theorem dL_base_98 : decode cL_base 98 = .ok (.iconst 5, 1) := by decide +kernel
theorem dL_base_99 : decode cL_base 99 = .ok (.iload 7, 2) := by decide +kernel
theorem dL_base_101 : decode cL_base 101 = .ok (.imul, 1) := by decide +kernel
theorem dL_base_102 : decode cL_base 102 = .ok (.iconst 2, 1) := by decide +kernel
theorem dL_base_103 : decode cL_base 103 = .ok (.iadd, 1) := by decide +kernel
theorem dL_base_104 : decode cL_base 104 = .ok (.iload 9, 2) := by decide +kernel
theorem dL_base_106 : decode cL_base 106 = .ok (.iconst 5, 1) := by decide +kernel
theorem dL_base_107 : decode cL_base 107 = .ok (.irem, 1) := by decide +kernel
theorem dL_base_108 : decode cL_base 108 = .ok (.iastore, 1) := by decide +kernel
theorem dL_base_109 : decode cL_base 109 = .ok (.aload_n 3, 1) := by decide +kernel
theorem dL_base_110 : decode cL_base 110 = .ok (.iconst 5, 1) := by decide +kernel
theorem dL_base_111 : decode cL_base 111 = .ok (.iload 7, 2) := by decide +kernel
theorem dL_base_113 : decode cL_base 113 = .ok (.imul, 1) := by decide +kernel
theorem dL_base_114 : decode cL_base 114 = .ok (.iconst 3, 1) := by decide +kernel
theorem dL_base_115 : decode cL_base 115 = .ok (.iadd, 1) := by decide +kernel
theorem dL_base_116 : decode cL_base 116 = .ok (.iload 7, 2) := by decide +kernel
theorem dL_base_118 : decode cL_base 118 = .ok (.ifCond .le 16, 3) := by decide +kernel
theorem dL_base_121 : decode cL_base 121 = .ok (.iload 9, 2) := by decide +kernel
theorem dL_base_123 : decode cL_base 123 = .ok (.iconst 5, 1) := by decide +kernel
theorem dL_base_124 : decode cL_base 124 = .ok (.idiv, 1) := by decide +kernel
theorem dL_base_125 : decode cL_base 125 = .ok (.iconst 3, 1) := by decide +kernel
theorem dL_base_126 : decode cL_base 126 = .ok (.irem, 1) := by decide +kernel
theorem dL_base_127 : decode cL_base 127 = .ok (.ifCond .ne 7, 3) := by decide +kernel
theorem dL_base_130 : decode cL_base 130 = .ok (.iconst 1, 1) := by decide +kernel
theorem dL_base_131 : decode cL_base 131 = .ok (.goto 4, 3) := by decide +kernel
theorem dL_base_134 : decode cL_base 134 = .ok (.iconst 0, 1) := by decide +kernel
theorem dL_base_135 : decode cL_base 135 = .ok (.iastore, 1) := by decide +kernel
theorem dL_base_136 : decode cL_base 136 = .ok (.aload_n 3, 1) := by decide +kernel
theorem dL_base_137 : decode cL_base 137 = .ok (.iconst 5, 1) := by decide +kernel
theorem dL_base_138 : decode cL_base 138 = .ok (.iload 7, 2) := by decide +kernel
theorem dL_base_140 : decode cL_base 140 = .ok (.imul, 1) := by decide +kernel
theorem dL_base_141 : decode cL_base 141 = .ok (.iconst 4, 1) := by decide +kernel
theorem dL_base_142 : decode cL_base 142 = .ok (.iadd, 1) := by decide +kernel
theorem dL_base_143 : decode cL_base 143 = .ok (.iload 9, 2) := by decide +kernel
theorem dL_base_145 : decode cL_base 145 = .ok (.bipush 15, 2) := by decide +kernel
theorem dL_base_147 : decode cL_base 147 = .ok (.idiv, 1) := by decide +kernel
theorem dL_base_148 : decode cL_base 148 = .ok (.iconst 3, 1) := by decide +kernel
theorem dL_base_149 : decode cL_base 149 = .ok (.irem, 1) := by decide +kernel
theorem dL_base_150 : decode cL_base 150 = .ok (.iastore, 1) := by decide +kernel
theorem dL_base_151 : decode cL_base 151 = .ok (.aload 5, 2) := by decide +kernel
theorem dL_base_153 : decode cL_base 153 = .ok (.iconst 0, 1) := by decide +kernel
theorem dL_base_154 : decode cL_base 154 = .ok (.dup2, 1) := by decide +kernel
theorem dL_base_155 : decode cL_base 155 = .ok (.iaload, 1) := by decide +kernel
theorem dL_base_156 : decode cL_base 156 = .ok (.iconst 1, 1) := by decide +kernel
theorem dL_base_157 : decode cL_base 157 = .ok (.iadd, 1) := by decide +kernel
theorem dL_base_158 : decode cL_base 158 = .ok (.iastore, 1) := by decide +kernel
theorem dL_base_159 : decode cL_base 159 = .ok (.iload 6, 2) := by decide +kernel
theorem dL_base_161 : decode cL_base 161 = .ok (.ifCond .eq 63, 3) := by decide +kernel
theorem dL_base_164 : decode cL_base 164 = .ok (.aload_n 2, 1) := by decide +kernel
theorem dL_base_165 : decode cL_base 165 = .ok (.aload_n 3, 1) := by decide +kernel
theorem dL_base_166 : decode cL_base 166 = .ok (.iconst 5, 1) := by decide +kernel
theorem dL_base_167 : decode cL_base 167 = .ok (.iload 7, 2) := by decide +kernel
theorem dL_base_169 : decode cL_base 169 = .ok (.imul, 1) := by decide +kernel
theorem dL_base_170 : decode cL_base 170 = .ok (.iaload, 1) := by decide +kernel
theorem dL_base_171 : decode cL_base 171 = .ok (.aload_n 3, 1) := by decide +kernel
theorem dL_base_172 : decode cL_base 172 = .ok (.iconst 5, 1) := by decide +kernel
theorem dL_base_173 : decode cL_base 173 = .ok (.iload 7, 2) := by decide +kernel
theorem dL_base_175 : decode cL_base 175 = .ok (.imul, 1) := by decide +kernel
theorem dL_base_176 : decode cL_base 176 = .ok (.iconst 1, 1) := by decide +kernel
theorem dL_base_177 : decode cL_base 177 = .ok (.iadd, 1) := by decide +kernel
theorem dL_base_178 : decode cL_base 178 = .ok (.iaload, 1) := by decide +kernel
theorem dL_base_179 : decode cL_base 179 = .ok (.aload_n 3, 1) := by decide +kernel
theorem dL_base_180 : decode cL_base 180 = .ok (.iconst 5, 1) := by decide +kernel
theorem dL_base_181 : decode cL_base 181 = .ok (.iload 7, 2) := by decide +kernel
theorem dL_base_183 : decode cL_base 183 = .ok (.imul, 1) := by decide +kernel
theorem dL_base_184 : decode cL_base 184 = .ok (.iconst 2, 1) := by decide +kernel
theorem dL_base_185 : decode cL_base 185 = .ok (.iadd, 1) := by decide +kernel
theorem dL_base_186 : decode cL_base 186 = .ok (.iaload, 1) := by decide +kernel
theorem dL_base_187 : decode cL_base 187 = .ok (.aload_n 3, 1) := by decide +kernel
theorem dL_base_188 : decode cL_base 188 = .ok (.iconst 5, 1) := by decide +kernel
theorem dL_base_189 : decode cL_base 189 = .ok (.iload 7, 2) := by decide +kernel
theorem dL_base_191 : decode cL_base 191 = .ok (.imul, 1) := by decide +kernel
theorem dL_base_192 : decode cL_base 192 = .ok (.iconst 3, 1) := by decide +kernel
theorem dL_base_193 : decode cL_base 193 = .ok (.iadd, 1) := by decide +kernel
theorem dL_base_194 : decode cL_base 194 = .ok (.iaload, 1) := by decide +kernel
theorem dL_base_195 : decode cL_base 195 = .ok (.iconst 1, 1) := by decide +kernel
theorem dL_base_196 : decode cL_base 196 = .ok (.if_icmp .ne 7, 3) := by decide +kernel
theorem dL_base_199 : decode cL_base 199 = .ok (.iconst 1, 1) := by decide +kernel
theorem dL_base_200 : decode cL_base 200 = .ok (.goto 4, 3) := by decide +kernel
theorem dL_base_203 : decode cL_base 203 = .ok (.iconst 0, 1) := by decide +kernel
theorem dL_base_204 : decode cL_base 204 = .ok (.aload_n 3, 1) := by decide +kernel
theorem dL_base_205 : decode cL_base 205 = .ok (.iconst 5, 1) := by decide +kernel
theorem dL_base_206 : decode cL_base 206 = .ok (.iload 7, 2) := by decide +kernel
theorem dL_base_208 : decode cL_base 208 = .ok (.imul, 1) := by decide +kernel
theorem dL_base_209 : decode cL_base 209 = .ok (.iconst 4, 1) := by decide +kernel
theorem dL_base_210 : decode cL_base 210 = .ok (.iadd, 1) := by decide +kernel
theorem dL_base_211 : decode cL_base 211 = .ok (.iaload, 1) := by decide +kernel
theorem dL_base_212 : decode cL_base 212 = .ok (.invokevirtual 136, 3) := by decide +kernel
theorem dL_base_215 : decode cL_base 215 = .ok (.iload 7, 2) := by decide +kernel
theorem dL_base_217 : decode cL_base 217 = .ok (.if_icmp .ne 7, 3) := by decide +kernel
theorem dL_base_220 : decode cL_base 220 = .ok (.iconst 1, 1) := by decide +kernel
theorem dL_base_221 : decode cL_base 221 = .ok (.goto 4, 3) := by decide +kernel
theorem dL_base_224 : decode cL_base 224 = .ok (.iconst 0, 1) := by decide +kernel
theorem dL_base_225 : decode cL_base 225 = .ok (.istore 6, 2) := by decide +kernel
theorem dL_base_227 : decode cL_base 227 = .ok (.iinc 7 1, 3) := by decide +kernel
theorem dL_base_230 : decode cL_base 230 = .ok (.goto (-200), 3) := by decide +kernel
theorem dL_base_233 : decode cL_base 233 = .ok (.iconst 0, 1) := by decide +kernel
theorem dL_base_234 : decode cL_base 234 = .ok (.istore 7, 2) := by decide +kernel
theorem dL_base_236 : decode cL_base 236 = .ok (.iload 7, 2) := by decide +kernel
theorem dL_base_238 : decode cL_base 238 = .ok (.bipush 46, 2) := by decide +kernel
theorem dL_base_240 : decode cL_base 240 = .ok (.if_icmp .ge 256, 3) := by decide +kernel
theorem dL_base_243 : decode cL_base 243 = .ok (.iload 6, 2) := by decide +kernel
theorem dL_base_245 : decode cL_base 245 = .ok (.ifCond .eq 251, 3) := by decide +kernel
theorem dL_base_248 : decode cL_base 248 = .ok (.aload_n 0, 1) := by decide +kernel
theorem dL_base_249 : decode cL_base 249 = .ok (.iload_n 1, 1) := by decide +kernel
theorem dL_base_250 : decode cL_base 250 = .ok (.iconst 3, 1) := by decide +kernel
theorem dL_base_251 : decode cL_base 251 = .ok (.iload 7, 2) := by decide +kernel
theorem dL_base_253 : decode cL_base 253 = .ok (.imul, 1) := by decide +kernel
theorem dL_base_254 : decode cL_base 254 = .ok (.iadd, 1) := by decide +kernel
theorem dL_base_255 : decode cL_base 255 = .ok (.bipush 9, 2) := by decide +kernel
theorem dL_base_257 : decode cL_base 257 = .ok (.iadd, 1) := by decide +kernel
theorem dL_base_258 : decode cL_base 258 = .ok (.ldc 131, 2) := by decide +kernel
theorem dL_base_260 : decode cL_base 260 = .ok (.invokestatic 132, 3) := by decide +kernel
theorem dL_base_263 : decode cL_base 263 = .ok (.istore 8, 2) := by decide +kernel
theorem dL_base_265 : decode cL_base 265 = .ok (.aload_n 0, 1) := by decide +kernel
theorem dL_base_266 : decode cL_base 266 = .ok (.iload_n 1, 1) := by decide +kernel
theorem dL_base_267 : decode cL_base 267 = .ok (.iconst 3, 1) := by decide +kernel
theorem dL_base_268 : decode cL_base 268 = .ok (.iload 7, 2) := by decide +kernel
theorem dL_base_270 : decode cL_base 270 = .ok (.imul, 1) := by decide +kernel
theorem dL_base_271 : decode cL_base 271 = .ok (.iadd, 1) := by decide +kernel
theorem dL_base_272 : decode cL_base 272 = .ok (.bipush 10, 2) := by decide +kernel
theorem dL_base_274 : decode cL_base 274 = .ok (.iadd, 1) := by decide +kernel
theorem dL_base_275 : decode cL_base 275 = .ok (.ldc 131, 2) := by decide +kernel
theorem dL_base_277 : decode cL_base 277 = .ok (.invokestatic 132, 3) := by decide +kernel
theorem dL_base_280 : decode cL_base 280 = .ok (.istore 9, 2) := by decide +kernel
theorem dL_base_282 : decode cL_base 282 = .ok (.iload 7, 2) := by decide +kernel
theorem dL_base_284 : decode cL_base 284 = .ok (.bipush 7, 2) := by decide +kernel
theorem dL_base_286 : decode cL_base 286 = .ok (.if_icmp .ge 7, 3) := by decide +kernel
theorem dL_base_289 : decode cL_base 289 = .ok (.iconst 0, 1) := by decide +kernel
theorem dL_base_290 : decode cL_base 290 = .ok (.goto 18, 3) := by decide +kernel
theorem dL_base_293 : decode cL_base 293 = .ok (.aload_n 0, 1) := by decide +kernel
theorem dL_base_294 : decode cL_base 294 = .ok (.iload_n 1, 1) := by decide +kernel
theorem dL_base_295 : decode cL_base 295 = .ok (.iconst 3, 1) := by decide +kernel
theorem dL_base_296 : decode cL_base 296 = .ok (.iload 7, 2) := by decide +kernel
theorem dL_base_298 : decode cL_base 298 = .ok (.imul, 1) := by decide +kernel
theorem dL_base_299 : decode cL_base 299 = .ok (.iadd, 1) := by decide +kernel
theorem dL_base_300 : decode cL_base 300 = .ok (.bipush 8, 2) := by decide +kernel
theorem dL_base_302 : decode cL_base 302 = .ok (.iadd, 1) := by decide +kernel
theorem dL_base_303 : decode cL_base 303 = .ok (.bipush 24, 2) := by decide +kernel
theorem dL_base_305 : decode cL_base 305 = .ok (.invokestatic 132, 3) := by decide +kernel
theorem dL_base_308 : decode cL_base 308 = .ok (.istore 10, 2) := by decide +kernel
theorem dL_base_310 : decode cL_base 310 = .ok (.iload 10, 2) := by decide +kernel
theorem dL_base_312 : decode cL_base 312 = .ok (.bipush 7, 2) := by decide +kernel
theorem dL_base_314 : decode cL_base 314 = .ok (.if_icmp .ge 19, 3) := by decide +kernel
theorem dL_base_317 : decode cL_base 317 = .ok (.aload_n 2, 1) := by decide +kernel
theorem dL_base_318 : decode cL_base 318 = .ok (.iload 8, 2) := by decide +kernel
theorem dL_base_320 : decode cL_base 320 = .ok (.iload 9, 2) := by decide +kernel
theorem dL_base_322 : decode cL_base 322 = .ok (.aload_n 3, 1) := by decide +kernel
theorem dL_base_323 : decode cL_base 323 = .ok (.aload 4, 2) := by decide +kernel
theorem dL_base_325 : decode cL_base 325 = .ok (.aload 5, 2) := by decide +kernel
theorem dL_base_327 : decode cL_base 327 = .ok (.invokestatic 140, 3) := by decide +kernel
theorem dL_base_330 : decode cL_base 330 = .ok (.goto 134, 3) := by decide +kernel
theorem dL_base_333 : decode cL_base 333 = .ok (.iload 10, 2) := by decide +kernel
theorem dL_base_335 : decode cL_base 335 = .ok (.bipush 14, 2) := by decide +kernel
theorem dL_base_337 : decode cL_base 337 = .ok (.if_icmp .ge 35, 3) := by decide +kernel
theorem dL_base_340 : decode cL_base 340 = .ok (.aload_n 2, 1) := by decide +kernel
theorem dL_base_341 : decode cL_base 341 = .ok (.iload 10, 2) := by decide +kernel
theorem dL_base_343 : decode cL_base 343 = .ok (.bipush 12, 2) := by decide +kernel
theorem dL_base_345 : decode cL_base 345 = .ok (.if_icmp .ge 11, 3) := by decide +kernel
theorem dL_base_348 : decode cL_base 348 = .ok (.iload 10, 2) := by decide +kernel
theorem dL_base_350 : decode cL_base 350 = .ok (.bipush 7, 2) := by decide +kernel
theorem dL_base_352 : decode cL_base 352 = .ok (.isub, 1) := by decide +kernel
theorem dL_base_353 : decode cL_base 353 = .ok (.goto 4, 3) := by decide +kernel
theorem dL_base_356 : decode cL_base 356 = .ok (.iconst 5, 1) := by decide +kernel
theorem dL_base_357 : decode cL_base 357 = .ok (.iload 8, 2) := by decide +kernel
theorem dL_base_359 : decode cL_base 359 = .ok (.iload 9, 2) := by decide +kernel
theorem dL_base_361 : decode cL_base 361 = .ok (.aload_n 3, 1) := by decide +kernel
theorem dL_base_362 : decode cL_base 362 = .ok (.aload 4, 2) := by decide +kernel
theorem dL_base_364 : decode cL_base 364 = .ok (.aload 5, 2) := by decide +kernel
theorem dL_base_366 : decode cL_base 366 = .ok (.invokestatic 144, 3) := by decide +kernel
theorem dL_base_369 : decode cL_base 369 = .ok (.goto 95, 3) := by decide +kernel
theorem dL_base_372 : decode cL_base 372 = .ok (.iload 10, 2) := by decide +kernel
theorem dL_base_374 : decode cL_base 374 = .ok (.bipush 16, 2) := by decide +kernel
theorem dL_base_376 : decode cL_base 376 = .ok (.if_icmp .ge 20, 3) := by decide +kernel
theorem dL_base_379 : decode cL_base 379 = .ok (.aload_n 2, 1) := by decide +kernel
theorem dL_base_380 : decode cL_base 380 = .ok (.iconst 0, 1) := by decide +kernel
theorem dL_base_381 : decode cL_base 381 = .ok (.iload 8, 2) := by decide +kernel
theorem dL_base_383 : decode cL_base 383 = .ok (.iload 9, 2) := by decide +kernel
theorem dL_base_385 : decode cL_base 385 = .ok (.aload_n 3, 1) := by decide +kernel
theorem dL_base_386 : decode cL_base 386 = .ok (.aload 4, 2) := by decide +kernel
theorem dL_base_388 : decode cL_base 388 = .ok (.aload 5, 2) := by decide +kernel
theorem dL_base_390 : decode cL_base 390 = .ok (.invokestatic 144, 3) := by decide +kernel
theorem dL_base_393 : decode cL_base 393 = .ok (.goto 71, 3) := by decide +kernel
theorem dL_base_396 : decode cL_base 396 = .ok (.iload 10, 2) := by decide +kernel
theorem dL_base_398 : decode cL_base 398 = .ok (.bipush 16, 2) := by decide +kernel
theorem dL_base_400 : decode cL_base 400 = .ok (.if_icmp .ne 22, 3) := by decide +kernel
theorem dL_base_403 : decode cL_base 403 = .ok (.aload_n 2, 1) := by decide +kernel
theorem dL_base_404 : decode cL_base 404 = .ok (.iload 9, 2) := by decide +kernel
theorem dL_base_406 : decode cL_base 406 = .ok (.bipush 9, 2) := by decide +kernel
theorem dL_base_408 : decode cL_base 408 = .ok (.irem, 1) := by decide +kernel
theorem dL_base_409 : decode cL_base 409 = .ok (.iconst 2, 1) := by decide +kernel
theorem dL_base_410 : decode cL_base 410 = .ok (.isub, 1) := by decide +kernel
theorem dL_base_411 : decode cL_base 411 = .ok (.aload_n 3, 1) := by decide +kernel
theorem dL_base_412 : decode cL_base 412 = .ok (.aload 4, 2) := by decide +kernel
theorem dL_base_414 : decode cL_base 414 = .ok (.aload 5, 2) := by decide +kernel
theorem dL_base_416 : decode cL_base 416 = .ok (.invokestatic 148, 3) := by decide +kernel
theorem dL_base_419 : decode cL_base 419 = .ok (.goto 45, 3) := by decide +kernel
theorem dL_base_422 : decode cL_base 422 = .ok (.iload 10, 2) := by decide +kernel
theorem dL_base_424 : decode cL_base 424 = .ok (.bipush 17, 2) := by decide +kernel
theorem dL_base_426 : decode cL_base 426 = .ok (.if_icmp .ne 19, 3) := by decide +kernel
theorem dL_base_429 : decode cL_base 429 = .ok (.aload_n 2, 1) := by decide +kernel
theorem dL_base_430 : decode cL_base 430 = .ok (.iload 8, 2) := by decide +kernel
theorem dL_base_432 : decode cL_base 432 = .ok (.iconst 3, 1) := by decide +kernel
theorem dL_base_433 : decode cL_base 433 = .ok (.irem, 1) := by decide +kernel
theorem dL_base_434 : decode cL_base 434 = .ok (.aload_n 3, 1) := by decide +kernel
theorem dL_base_435 : decode cL_base 435 = .ok (.aload 4, 2) := by decide +kernel
theorem dL_base_437 : decode cL_base 437 = .ok (.aload 5, 2) := by decide +kernel
theorem dL_base_439 : decode cL_base 439 = .ok (.invokestatic 152, 3) := by decide +kernel
theorem dL_base_442 : decode cL_base 442 = .ok (.goto 22, 3) := by decide +kernel
theorem dL_base_445 : decode cL_base 445 = .ok (.aload_n 2, 1) := by decide +kernel
theorem dL_base_446 : decode cL_base 446 = .ok (.iconst 3, 1) := by decide +kernel
theorem dL_base_447 : decode cL_base 447 = .ok (.iload 10, 2) := by decide +kernel
theorem dL_base_449 : decode cL_base 449 = .ok (.iconst 3, 1) := by decide +kernel
theorem dL_base_450 : decode cL_base 450 = .ok (.irem, 1) := by decide +kernel
theorem dL_base_451 : decode cL_base 451 = .ok (.iadd, 1) := by decide +kernel
theorem dL_base_452 : decode cL_base 452 = .ok (.iload 8, 2) := by decide +kernel
theorem dL_base_454 : decode cL_base 454 = .ok (.iload 9, 2) := by decide +kernel
theorem dL_base_456 : decode cL_base 456 = .ok (.aload_n 3, 1) := by decide +kernel
theorem dL_base_457 : decode cL_base 457 = .ok (.aload 4, 2) := by decide +kernel
theorem dL_base_459 : decode cL_base 459 = .ok (.aload 5, 2) := by decide +kernel
theorem dL_base_461 : decode cL_base 461 = .ok (.invokestatic 155, 3) := by decide +kernel
theorem dL_base_464 : decode cL_base 464 = .ok (.istore 6, 2) := by decide +kernel
theorem dL_base_466 : decode cL_base 466 = .ok (.iload 6, 2) := by decide +kernel
theorem dL_base_468 : decode cL_base 468 = .ok (.ifCond .eq 19, 3) := by decide +kernel
theorem dL_base_471 : decode cL_base 471 = .ok (.aload_n 2, 1) := by decide +kernel
theorem dL_base_472 : decode cL_base 472 = .ok (.aload_n 3, 1) := by decide +kernel
theorem dL_base_473 : decode cL_base 473 = .ok (.aload 4, 2) := by decide +kernel
theorem dL_base_475 : decode cL_base 475 = .ok (.aload 5, 2) := by decide +kernel
theorem dL_base_477 : decode cL_base 477 = .ok (.invokestatic 158, 3) := by decide +kernel
theorem dL_base_480 : decode cL_base 480 = .ok (.ifCond .eq 7, 3) := by decide +kernel
theorem dL_base_483 : decode cL_base 483 = .ok (.iconst 1, 1) := by decide +kernel
theorem dL_base_484 : decode cL_base 484 = .ok (.goto 4, 3) := by decide +kernel
theorem dL_base_487 : decode cL_base 487 = .ok (.iconst 0, 1) := by decide +kernel
theorem dL_base_488 : decode cL_base 488 = .ok (.istore 6, 2) := by decide +kernel
theorem dL_base_490 : decode cL_base 490 = .ok (.iinc 7 1, 3) := by decide +kernel
theorem dL_base_493 : decode cL_base 493 = .ok (.goto (-257), 3) := by decide +kernel
theorem dL_base_496 : decode cL_base 496 = .ok (.iload 6, 2) := by decide +kernel
theorem dL_base_498 : decode cL_base 498 = .ok (.ireturn, 1) := by decide +kernel
theorem dL_law_0 : decode cL_law 0 = .ok (.aload_n 0, 1) := by decide +kernel
theorem dL_law_1 : decode cL_law 1 = .ok (.iconst 0, 1) := by decide +kernel
theorem dL_law_2 : decode cL_law 2 = .ok (.invokestatic 162, 3) := by decide +kernel
theorem dL_law_5 : decode cL_law 5 = .ok (.ifCond .eq 27, 3) := by decide +kernel
theorem dL_law_8 : decode cL_law 8 = .ok (.aload_n 0, 1) := by decide +kernel
theorem dL_law_9 : decode cL_law 9 = .ok (.sipush 150, 3) := by decide +kernel
theorem dL_law_12 : decode cL_law 12 = .ok (.invokestatic 162, 3) := by decide +kernel
theorem dL_law_15 : decode cL_law 15 = .ok (.ifCond .eq 17, 3) := by decide +kernel
theorem dL_law_18 : decode cL_law 18 = .ok (.aload_n 0, 1) := by decide +kernel
theorem dL_law_19 : decode cL_law 19 = .ok (.sipush 300, 3) := by decide +kernel
theorem dL_law_22 : decode cL_law 22 = .ok (.invokestatic 162, 3) := by decide +kernel
theorem dL_law_25 : decode cL_law 25 = .ok (.ifCond .eq 7, 3) := by decide +kernel
theorem dL_law_28 : decode cL_law 28 = .ok (.iconst 1, 1) := by decide +kernel
theorem dL_law_29 : decode cL_law 29 = .ok (.goto 4, 3) := by decide +kernel
theorem dL_law_32 : decode cL_law 32 = .ok (.iconst 0, 1) := by decide +kernel
theorem dL_law_33 : decode cL_law 33 = .ok (.ireturn, 1) := by decide +kernel
