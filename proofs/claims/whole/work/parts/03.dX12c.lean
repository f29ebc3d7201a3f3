theorem dX12_readTerm_42 : decode cX12_readTerm 42 = .ok (.iaload, 1) := by decide +kernel
theorem dX12_readTerm_43 : decode cX12_readTerm 43 = .ok (.iaload, 1) := by decide +kernel
theorem dX12_readTerm_44 : decode cX12_readTerm 44 = .ok (.istore 5, 2) := by decide +kernel
theorem dX12_readTerm_46 : decode cX12_readTerm 46 = .ok (.aload_n 0, 1) := by decide +kernel
theorem dX12_readTerm_47 : decode cX12_readTerm 47 = .ok (.getfield 160, 3) := by decide +kernel
theorem dX12_readTerm_50 : decode cX12_readTerm 50 = .ok (.iload_n 2, 1) := by decide +kernel
theorem dX12_readTerm_51 : decode cX12_readTerm 51 = .ok (.iaload, 1) := by decide +kernel
theorem dX12_readTerm_52 : decode cX12_readTerm 52 = .ok (.iload 5, 2) := by decide +kernel
theorem dX12_readTerm_54 : decode cX12_readTerm 54 = .ok (.bipush 76, 2) := by decide +kernel
theorem dX12_readTerm_56 : decode cX12_readTerm 56 = .ok (.if_icmp .ne 7, 3) := by decide +kernel
theorem dX12_readTerm_59 : decode cX12_readTerm 59 = .ok (.iconst 1, 1) := by decide +kernel
theorem dX12_readTerm_60 : decode cX12_readTerm 60 = .ok (.goto 4, 3) := by decide +kernel
theorem dX12_readTerm_63 : decode cX12_readTerm 63 = .ok (.iconst 0, 1) := by decide +kernel
theorem dX12_readTerm_64 : decode cX12_readTerm 64 = .ok (.iadd, 1) := by decide +kernel
theorem dX12_readTerm_65 : decode cX12_readTerm 65 = .ok (.istore_n 3, 1) := by decide +kernel
theorem dX12_readTerm_66 : decode cX12_readTerm 66 = .ok (.iinc 2 1, 3) := by decide +kernel
theorem dX12_readTerm_69 : decode cX12_readTerm 69 = .ok (.goto 218, 3) := by decide +kernel
theorem dX12_readTerm_72 : decode cX12_readTerm 72 = .ok (.iconst 1, 1) := by decide +kernel
theorem dX12_readTerm_73 : decode cX12_readTerm 73 = .ok (.istore 5, 2) := by decide +kernel
theorem dX12_readTerm_75 : decode cX12_readTerm 75 = .ok (.iload 5, 2) := by decide +kernel
theorem dX12_readTerm_77 : decode cX12_readTerm 77 = .ok (.ifCond .eq 191, 3) := by decide +kernel
theorem dX12_readTerm_80 : decode cX12_readTerm 80 = .ok (.iload_n 2, 1) := by decide +kernel
theorem dX12_readTerm_81 : decode cX12_readTerm 81 = .ok (.ifCond .le 187, 3) := by decide +kernel
theorem dX12_readTerm_84 : decode cX12_readTerm 84 = .ok (.aload_n 0, 1) := by decide +kernel
theorem dX12_readTerm_85 : decode cX12_readTerm 85 = .ok (.getfield 257, 3) := by decide +kernel
theorem dX12_readTerm_88 : decode cX12_readTerm 88 = .ok (.ifCond .ne 180, 3) := by decide +kernel
theorem dX12_readTerm_91 : decode cX12_readTerm 91 = .ok (.aload_n 0, 1) := by decide +kernel
theorem dX12_readTerm_92 : decode cX12_readTerm 92 = .ok (.getfield 154, 3) := by decide +kernel
theorem dX12_readTerm_95 : decode cX12_readTerm 95 = .ok (.iload_n 2, 1) := by decide +kernel
theorem dX12_readTerm_96 : decode cX12_readTerm 96 = .ok (.iconst 1, 1) := by decide +kernel
theorem dX12_readTerm_97 : decode cX12_readTerm 97 = .ok (.isub, 1) := by decide +kernel
theorem dX12_readTerm_98 : decode cX12_readTerm 98 = .ok (.iaload, 1) := by decide +kernel
theorem dX12_readTerm_99 : decode cX12_readTerm 99 = .ok (.istore 6, 2) := by decide +kernel
theorem dX12_readTerm_101 : decode cX12_readTerm 101 = .ok (.aload_n 0, 1) := by decide +kernel
theorem dX12_readTerm_102 : decode cX12_readTerm 102 = .ok (.getfield 139, 3) := by decide +kernel
theorem dX12_readTerm_105 : decode cX12_readTerm 105 = .ok (.iload 6, 2) := by decide +kernel
theorem dX12_readTerm_107 : decode cX12_readTerm 107 = .ok (.iaload, 1) := by decide +kernel
theorem dX12_readTerm_108 : decode cX12_readTerm 108 = .ok (.istore 7, 2) := by decide +kernel
theorem dX12_readTerm_110 : decode cX12_readTerm 110 = .ok (.aload_n 0, 1) := by decide +kernel
theorem dX12_readTerm_111 : decode cX12_readTerm 111 = .ok (.getfield 157, 3) := by decide +kernel
theorem dX12_readTerm_114 : decode cX12_readTerm 114 = .ok (.iload_n 2, 1) := by decide +kernel
theorem dX12_readTerm_115 : decode cX12_readTerm 115 = .ok (.iconst 1, 1) := by decide +kernel
theorem dX12_readTerm_116 : decode cX12_readTerm 116 = .ok (.isub, 1) := by decide +kernel
theorem dX12_readTerm_117 : decode cX12_readTerm 117 = .ok (.iaload, 1) := by decide +kernel
theorem dX12_readTerm_118 : decode cX12_readTerm 118 = .ok (.ifCond .ne 15, 3) := by decide +kernel
theorem dX12_readTerm_121 : decode cX12_readTerm 121 = .ok (.aload_n 0, 1) := by decide +kernel
theorem dX12_readTerm_122 : decode cX12_readTerm 122 = .ok (.getfield 145, 3) := by decide +kernel
theorem dX12_readTerm_125 : decode cX12_readTerm 125 = .ok (.iload 6, 2) := by decide +kernel
theorem dX12_readTerm_127 : decode cX12_readTerm 127 = .ok (.iload 4, 2) := by decide +kernel
theorem dX12_readTerm_129 : decode cX12_readTerm 129 = .ok (.iastore, 1) := by decide +kernel
theorem dX12_readTerm_130 : decode cX12_readTerm 130 = .ok (.goto 36, 3) := by decide +kernel
theorem dX12_readTerm_133 : decode cX12_readTerm 133 = .ok (.aload_n 0, 1) := by decide +kernel
theorem dX12_readTerm_134 : decode cX12_readTerm 134 = .ok (.getfield 157, 3) := by decide +kernel
theorem dX12_readTerm_137 : decode cX12_readTerm 137 = .ok (.iload_n 2, 1) := by decide +kernel
theorem dX12_readTerm_138 : decode cX12_readTerm 138 = .ok (.iconst 1, 1) := by decide +kernel
theorem dX12_readTerm_139 : decode cX12_readTerm 139 = .ok (.isub, 1) := by decide +kernel
theorem dX12_readTerm_140 : decode cX12_readTerm 140 = .ok (.iaload, 1) := by decide +kernel
theorem dX12_readTerm_141 : decode cX12_readTerm 141 = .ok (.iconst 1, 1) := by decide +kernel
theorem dX12_readTerm_142 : decode cX12_readTerm 142 = .ok (.if_icmp .ne 15, 3) := by decide +kernel
theorem dX12_readTerm_145 : decode cX12_readTerm 145 = .ok (.aload_n 0, 1) := by decide +kernel
theorem dX12_readTerm_146 : decode cX12_readTerm 146 = .ok (.getfield 148, 3) := by decide +kernel
theorem dX12_readTerm_149 : decode cX12_readTerm 149 = .ok (.iload 6, 2) := by decide +kernel
theorem dX12_readTerm_151 : decode cX12_readTerm 151 = .ok (.iload 4, 2) := by decide +kernel
theorem dX12_readTerm_153 : decode cX12_readTerm 153 = .ok (.iastore, 1) := by decide +kernel
theorem dX12_readTerm_154 : decode cX12_readTerm 154 = .ok (.goto 12, 3) := by decide +kernel
theorem dX12_readTerm_157 : decode cX12_readTerm 157 = .ok (.aload_n 0, 1) := by decide +kernel
theorem dX12_readTerm_158 : decode cX12_readTerm 158 = .ok (.getfield 151, 3) := by decide +kernel
theorem dX12_readTerm_161 : decode cX12_readTerm 161 = .ok (.iload 6, 2) := by decide +kernel
theorem dX12_readTerm_163 : decode cX12_readTerm 163 = .ok (.iload 4, 2) := by decide +kernel
theorem dX12_readTerm_165 : decode cX12_readTerm 165 = .ok (.iastore, 1) := by decide +kernel
theorem dX12_readTerm_166 : decode cX12_readTerm 166 = .ok (.aload_n 0, 1) := by decide +kernel
theorem dX12_readTerm_167 : decode cX12_readTerm 167 = .ok (.getfield 157, 3) := by decide +kernel
theorem dX12_readTerm_170 : decode cX12_readTerm 170 = .ok (.iload_n 2, 1) := by decide +kernel
theorem dX12_readTerm_171 : decode cX12_readTerm 171 = .ok (.iconst 1, 1) := by decide +kernel
theorem dX12_readTerm_172 : decode cX12_readTerm 172 = .ok (.isub, 1) := by decide +kernel
theorem dX12_readTerm_173 : decode cX12_readTerm 173 = .ok (.dup2, 1) := by decide +kernel
theorem dX12_readTerm_174 : decode cX12_readTerm 174 = .ok (.iaload, 1) := by decide +kernel
theorem dX12_readTerm_175 : decode cX12_readTerm 175 = .ok (.iconst 1, 1) := by decide +kernel
theorem dX12_readTerm_176 : decode cX12_readTerm 176 = .ok (.iadd, 1) := by decide +kernel
theorem dX12_readTerm_177 : decode cX12_readTerm 177 = .ok (.iastore, 1) := by decide +kernel
theorem dX12_readTerm_178 : decode cX12_readTerm 178 = .ok (.aload_n 0, 1) := by decide +kernel
theorem dX12_readTerm_179 : decode cX12_readTerm 179 = .ok (.getfield 157, 3) := by decide +kernel
theorem dX12_readTerm_182 : decode cX12_readTerm 182 = .ok (.iload_n 2, 1) := by decide +kernel
theorem dX12_readTerm_183 : decode cX12_readTerm 183 = .ok (.iconst 1, 1) := by decide +kernel
theorem dX12_readTerm_184 : decode cX12_readTerm 184 = .ok (.isub, 1) := by decide +kernel
theorem dX12_readTerm_185 : decode cX12_readTerm 185 = .ok (.iaload, 1) := by decide +kernel
theorem dX12_readTerm_186 : decode cX12_readTerm 186 = .ok (.aload_n 0, 1) := by decide +kernel
theorem dX12_readTerm_187 : decode cX12_readTerm 187 = .ok (.iload 7, 2) := by decide +kernel
theorem dX12_readTerm_189 : decode cX12_readTerm 189 = .ok (.invokevirtual 466, 3) := by decide +kernel
theorem dX12_readTerm_192 : decode cX12_readTerm 192 = .ok (.if_icmp .ne 7, 3) := by decide +kernel
theorem dX12_readTerm_195 : decode cX12_readTerm 195 = .ok (.iconst 1, 1) := by decide +kernel
theorem dX12_readTerm_196 : decode cX12_readTerm 196 = .ok (.goto 4, 3) := by decide +kernel
theorem dX12_readTerm_199 : decode cX12_readTerm 199 = .ok (.iconst 0, 1) := by decide +kernel
theorem dX12_readTerm_200 : decode cX12_readTerm 200 = .ok (.istore 5, 2) := by decide +kernel
theorem dX12_readTerm_202 : decode cX12_readTerm 202 = .ok (.iload 5, 2) := by decide +kernel
theorem dX12_readTerm_204 : decode cX12_readTerm 204 = .ok (.ifCond .eq 31, 3) := by decide +kernel
theorem dX12_readTerm_207 : decode cX12_readTerm 207 = .ok (.aload_n 0, 1) := by decide +kernel
theorem dX12_readTerm_208 : decode cX12_readTerm 208 = .ok (.bipush 41, 2) := by decide +kernel
theorem dX12_readTerm_210 : decode cX12_readTerm 210 = .ok (.invokevirtual 300, 3) := by decide +kernel
theorem dX12_readTerm_213 : decode cX12_readTerm 213 = .ok (.istore 8, 2) := by decide +kernel
theorem dX12_readTerm_215 : decode cX12_readTerm 215 = .ok (.aload_n 0, 1) := by decide +kernel
theorem dX12_readTerm_216 : decode cX12_readTerm 216 = .ok (.dup, 1) := by decide +kernel
theorem dX12_readTerm_217 : decode cX12_readTerm 217 = .ok (.getfield 277, 3) := by decide +kernel
theorem dX12_readTerm_220 : decode cX12_readTerm 220 = .ok (.iconst 1, 1) := by decide +kernel
theorem dX12_readTerm_221 : decode cX12_readTerm 221 = .ok (.isub, 1) := by decide +kernel
theorem dX12_readTerm_222 : decode cX12_readTerm 222 = .ok (.putfield 277, 3) := by decide +kernel
theorem dX12_readTerm_225 : decode cX12_readTerm 225 = .ok (.iload 6, 2) := by decide +kernel
theorem dX12_readTerm_227 : decode cX12_readTerm 227 = .ok (.istore 4, 2) := by decide +kernel
theorem dX12_readTerm_229 : decode cX12_readTerm 229 = .ok (.iinc 2 (-1), 3) := by decide +kernel
theorem dX12_readTerm_232 : decode cX12_readTerm 232 = .ok (.goto 33, 3) := by decide +kernel
theorem dX12_readTerm_235 : decode cX12_readTerm 235 = .ok (.aload_n 0, 1) := by decide +kernel
theorem dX12_readTerm_236 : decode cX12_readTerm 236 = .ok (.bipush 44, 2) := by decide +kernel
theorem dX12_readTerm_238 : decode cX12_readTerm 238 = .ok (.invokevirtual 300, 3) := by decide +kernel
theorem dX12_readTerm_241 : decode cX12_readTerm 241 = .ok (.istore 8, 2) := by decide +kernel
theorem dX12_readTerm_243 : decode cX12_readTerm 243 = .ok (.aload_n 0, 1) := by decide +kernel
theorem dX12_readTerm_244 : decode cX12_readTerm 244 = .ok (.getfield 160, 3) := by decide +kernel
theorem dX12_readTerm_247 : decode cX12_readTerm 247 = .ok (.iload_n 2, 1) := by decide +kernel
theorem dX12_readTerm_248 : decode cX12_readTerm 248 = .ok (.iconst 1, 1) := by decide +kernel
theorem dX12_readTerm_249 : decode cX12_readTerm 249 = .ok (.isub, 1) := by decide +kernel
theorem dX12_readTerm_250 : decode cX12_readTerm 250 = .ok (.iaload, 1) := by decide +kernel
theorem dX12_readTerm_251 : decode cX12_readTerm 251 = .ok (.iload 7, 2) := by decide +kernel
theorem dX12_readTerm_253 : decode cX12_readTerm 253 = .ok (.bipush 67, 2) := by decide +kernel
theorem dX12_readTerm_255 : decode cX12_readTerm 255 = .ok (.if_icmp .ne 7, 3) := by decide +kernel
theorem dX12_readTerm_258 : decode cX12_readTerm 258 = .ok (.iconst 1, 1) := by decide +kernel
theorem dX12_readTerm_259 : decode cX12_readTerm 259 = .ok (.goto 4, 3) := by decide +kernel
theorem dX12_readTerm_262 : decode cX12_readTerm 262 = .ok (.iconst 0, 1) := by decide +kernel
theorem dX12_readTerm_263 : decode cX12_readTerm 263 = .ok (.iadd, 1) := by decide +kernel
theorem dX12_readTerm_264 : decode cX12_readTerm 264 = .ok (.istore_n 3, 1) := by decide +kernel
theorem dX12_readTerm_265 : decode cX12_readTerm 265 = .ok (.goto (-190), 3) := by decide +kernel
theorem dX12_readTerm_268 : decode cX12_readTerm 268 = .ok (.iload 5, 2) := by decide +kernel
theorem dX12_readTerm_270 : decode cX12_readTerm 270 = .ok (.ifCond .eq 17, 3) := by decide +kernel
theorem dX12_readTerm_273 : decode cX12_readTerm 273 = .ok (.aload_n 0, 1) := by decide +kernel
theorem dX12_readTerm_274 : decode cX12_readTerm 274 = .ok (.getfield 257, 3) := by decide +kernel
theorem dX12_readTerm_277 : decode cX12_readTerm 277 = .ok (.ifCond .ne 8, 3) := by decide +kernel
theorem dX12_readTerm_280 : decode cX12_readTerm 280 = .ok (.iload 4, 2) := by decide +kernel
theorem dX12_readTerm_282 : decode cX12_readTerm 282 = .ok (.goto 4, 3) := by decide +kernel
theorem dX12_readTerm_285 : decode cX12_readTerm 285 = .ok (.iconst (-1), 1) := by decide +kernel
theorem dX12_readTerm_286 : decode cX12_readTerm 286 = .ok (.ireturn, 1) := by decide +kernel
theorem dX12_readTerm_287 : decode cX12_readTerm 287 = .ok (.goto (-283), 3) := by decide +kernel
theorem dX12_readTerm_290 : decode cX12_readTerm 290 = .ok (.iconst (-1), 1) := by decide +kernel
theorem dX12_readTerm_291 : decode cX12_readTerm 291 = .ok (.ireturn, 1) := by decide +kernel
theorem dX12_askedFormula_0 : decode cX12_askedFormula 0 = .ok (.aload_n 0, 1) := by decide +kernel
theorem dX12_askedFormula_1 : decode cX12_askedFormula 1 = .ok (.iload_n 1, 1) := by decide +kernel
theorem dX12_askedFormula_2 : decode cX12_askedFormula 2 = .ok (.iload_n 2, 1) := by decide +kernel
theorem dX12_askedFormula_3 : decode cX12_askedFormula 3 = .ok (.iload_n 3, 1) := by decide +kernel
theorem dX12_askedFormula_4 : decode cX12_askedFormula 4 = .ok (.invokevirtual 210, 3) := by decide +kernel
theorem dX12_askedFormula_7 : decode cX12_askedFormula 7 = .ok (.istore 4, 2) := by decide +kernel
theorem dX12_askedFormula_9 : decode cX12_askedFormula 9 = .ok (.iload 4, 2) := by decide +kernel
theorem dX12_askedFormula_11 : decode cX12_askedFormula 11 = .ok (.ifCond .lt 6, 3) := by decide +kernel
theorem dX12_askedFormula_14 : decode cX12_askedFormula 14 = .ok (.iload 4, 2) := by decide +kernel
theorem dX12_askedFormula_16 : decode cX12_askedFormula 16 = .ok (.ireturn, 1) := by decide +kernel
theorem dX12_askedFormula_17 : decode cX12_askedFormula 17 = .ok (.sipush 2000, 3) := by decide +kernel
theorem dX12_askedFormula_20 : decode cX12_askedFormula 20 = .ok (.istore 5, 2) := by decide +kernel
theorem dX12_askedFormula_22 : decode cX12_askedFormula 22 = .ok (.iload 5, 2) := by decide +kernel
theorem dX12_askedFormula_24 : decode cX12_askedFormula 24 = .ok (.sipush 2000, 3) := by decide +kernel
theorem dX12_askedFormula_27 : decode cX12_askedFormula 27 = .ok (.aload_n 0, 1) := by decide +kernel
theorem dX12_askedFormula_28 : decode cX12_askedFormula 28 = .ok (.getfield 469, 3) := by decide +kernel
theorem dX12_askedFormula_31 : decode cX12_askedFormula 31 = .ok (.iadd, 1) := by decide +kernel
theorem dX12_askedFormula_32 : decode cX12_askedFormula 32 = .ok (.if_icmp .ge 45, 3) := by decide +kernel
theorem dX12_askedFormula_35 : decode cX12_askedFormula 35 = .ok (.aload_n 0, 1) := by decide +kernel
theorem dX12_askedFormula_36 : decode cX12_askedFormula 36 = .ok (.getfield 7, 3) := by decide +kernel
theorem dX12_askedFormula_39 : decode cX12_askedFormula 39 = .ok (.iload 5, 2) := by decide +kernel
theorem dX12_askedFormula_41 : decode cX12_askedFormula 41 = .ok (.iaload, 1) := by decide +kernel
theorem dX12_askedFormula_42 : decode cX12_askedFormula 42 = .ok (.iload_n 1, 1) := by decide +kernel
theorem dX12_askedFormula_43 : decode cX12_askedFormula 43 = .ok (.if_icmp .ne 28, 3) := by decide +kernel
theorem dX12_askedFormula_46 : decode cX12_askedFormula 46 = .ok (.aload_n 0, 1) := by decide +kernel
theorem dX12_askedFormula_47 : decode cX12_askedFormula 47 = .ok (.getfield 13, 3) := by decide +kernel
theorem dX12_askedFormula_50 : decode cX12_askedFormula 50 = .ok (.iload 5, 2) := by decide +kernel
theorem dX12_askedFormula_52 : decode cX12_askedFormula 52 = .ok (.iaload, 1) := by decide +kernel
theorem dX12_askedFormula_53 : decode cX12_askedFormula 53 = .ok (.iload_n 2, 1) := by decide +kernel
theorem dX12_askedFormula_54 : decode cX12_askedFormula 54 = .ok (.if_icmp .ne 17, 3) := by decide +kernel
theorem dX12_askedFormula_57 : decode cX12_askedFormula 57 = .ok (.aload_n 0, 1) := by decide +kernel
theorem dX12_askedFormula_58 : decode cX12_askedFormula 58 = .ok (.getfield 16, 3) := by decide +kernel
theorem dX12_askedFormula_61 : decode cX12_askedFormula 61 = .ok (.iload 5, 2) := by decide +kernel
theorem dX12_askedFormula_63 : decode cX12_askedFormula 63 = .ok (.iaload, 1) := by decide +kernel
theorem dX12_askedFormula_64 : decode cX12_askedFormula 64 = .ok (.iload_n 3, 1) := by decide +kernel
theorem dX12_askedFormula_65 : decode cX12_askedFormula 65 = .ok (.if_icmp .ne 6, 3) := by decide +kernel
theorem dX12_askedFormula_68 : decode cX12_askedFormula 68 = .ok (.iload 5, 2) := by decide +kernel
theorem dX12_askedFormula_70 : decode cX12_askedFormula 70 = .ok (.ireturn, 1) := by decide +kernel
theorem dX12_askedFormula_71 : decode cX12_askedFormula 71 = .ok (.iinc 5 1, 3) := by decide +kernel
theorem dX12_askedFormula_74 : decode cX12_askedFormula 74 = .ok (.goto (-52), 3) := by decide +kernel
theorem dX12_askedFormula_77 : decode cX12_askedFormula 77 = .ok (.aload_n 0, 1) := by decide +kernel
theorem dX12_askedFormula_78 : decode cX12_askedFormula 78 = .ok (.getfield 7, 3) := by decide +kernel
theorem dX12_askedFormula_81 : decode cX12_askedFormula 81 = .ok (.sipush 2000, 3) := by decide +kernel
theorem dX12_askedFormula_84 : decode cX12_askedFormula 84 = .ok (.aload_n 0, 1) := by decide +kernel
theorem dX12_askedFormula_85 : decode cX12_askedFormula 85 = .ok (.getfield 469, 3) := by decide +kernel
theorem dX12_askedFormula_88 : decode cX12_askedFormula 88 = .ok (.iadd, 1) := by decide +kernel
theorem dX12_askedFormula_89 : decode cX12_askedFormula 89 = .ok (.iload_n 1, 1) := by decide +kernel
theorem dX12_askedFormula_90 : decode cX12_askedFormula 90 = .ok (.iastore, 1) := by decide +kernel
theorem dX12_askedFormula_91 : decode cX12_askedFormula 91 = .ok (.aload_n 0, 1) := by decide +kernel
theorem dX12_askedFormula_92 : decode cX12_askedFormula 92 = .ok (.getfield 13, 3) := by decide +kernel
theorem dX12_askedFormula_95 : decode cX12_askedFormula 95 = .ok (.sipush 2000, 3) := by decide +kernel
theorem dX12_askedFormula_98 : decode cX12_askedFormula 98 = .ok (.aload_n 0, 1) := by decide +kernel
theorem dX12_askedFormula_99 : decode cX12_askedFormula 99 = .ok (.getfield 469, 3) := by decide +kernel
theorem dX12_askedFormula_102 : decode cX12_askedFormula 102 = .ok (.iadd, 1) := by decide +kernel
theorem dX12_askedFormula_103 : decode cX12_askedFormula 103 = .ok (.iload_n 2, 1) := by decide +kernel
theorem dX12_askedFormula_104 : decode cX12_askedFormula 104 = .ok (.iastore, 1) := by decide +kernel
theorem dX12_askedFormula_105 : decode cX12_askedFormula 105 = .ok (.aload_n 0, 1) := by decide +kernel
theorem dX12_askedFormula_106 : decode cX12_askedFormula 106 = .ok (.getfield 16, 3) := by decide +kernel
theorem dX12_askedFormula_109 : decode cX12_askedFormula 109 = .ok (.sipush 2000, 3) := by decide +kernel
theorem dX12_askedFormula_112 : decode cX12_askedFormula 112 = .ok (.aload_n 0, 1) := by decide +kernel
theorem dX12_askedFormula_113 : decode cX12_askedFormula 113 = .ok (.getfield 469, 3) := by decide +kernel
theorem dX12_askedFormula_116 : decode cX12_askedFormula 116 = .ok (.iadd, 1) := by decide +kernel
theorem dX12_askedFormula_117 : decode cX12_askedFormula 117 = .ok (.iload_n 3, 1) := by decide +kernel
theorem dX12_askedFormula_118 : decode cX12_askedFormula 118 = .ok (.iastore, 1) := by decide +kernel
theorem dX12_askedFormula_119 : decode cX12_askedFormula 119 = .ok (.aload_n 0, 1) := by decide +kernel
theorem dX12_askedFormula_120 : decode cX12_askedFormula 120 = .ok (.dup, 1) := by decide +kernel
theorem dX12_askedFormula_121 : decode cX12_askedFormula 121 = .ok (.getfield 469, 3) := by decide +kernel
theorem dX12_askedFormula_124 : decode cX12_askedFormula 124 = .ok (.iconst 1, 1) := by decide +kernel
theorem dX12_askedFormula_125 : decode cX12_askedFormula 125 = .ok (.iadd, 1) := by decide +kernel
theorem dX12_askedFormula_126 : decode cX12_askedFormula 126 = .ok (.putfield 469, 3) := by decide +kernel
theorem dX12_askedFormula_129 : decode cX12_askedFormula 129 = .ok (.sipush 2000, 3) := by decide +kernel
theorem dX12_askedFormula_132 : decode cX12_askedFormula 132 = .ok (.aload_n 0, 1) := by decide +kernel
theorem dX12_askedFormula_133 : decode cX12_askedFormula 133 = .ok (.getfield 469, 3) := by decide +kernel
theorem dX12_askedFormula_136 : decode cX12_askedFormula 136 = .ok (.iadd, 1) := by decide +kernel
theorem dX12_askedFormula_137 : decode cX12_askedFormula 137 = .ok (.iconst 1, 1) := by decide +kernel
theorem dX12_askedFormula_138 : decode cX12_askedFormula 138 = .ok (.isub, 1) := by decide +kernel
theorem dX12_askedFormula_139 : decode cX12_askedFormula 139 = .ok (.ireturn, 1) := by decide +kernel
theorem dX12_askOf_0 : decode cX12_askOf 0 = .ok (.aload_n 0, 1) := by decide +kernel
theorem dX12_askOf_1 : decode cX12_askOf 1 = .ok (.getfield 166, 3) := by decide +kernel
theorem dX12_askOf_4 : decode cX12_askOf 4 = .ok (.aload_n 0, 1) := by decide +kernel
theorem dX12_askOf_5 : decode cX12_askOf 5 = .ok (.getfield 472, 3) := by decide +kernel
theorem dX12_askOf_8 : decode cX12_askOf 8 = .ok (.iload_n 1, 1) := by decide +kernel
theorem dX12_askOf_9 : decode cX12_askOf 9 = .ok (.iastore, 1) := by decide +kernel
theorem dX12_askOf_10 : decode cX12_askOf 10 = .ok (.aload_n 0, 1) := by decide +kernel
theorem dX12_askOf_11 : decode cX12_askOf 11 = .ok (.getfield 169, 3) := by decide +kernel
theorem dX12_askOf_14 : decode cX12_askOf 14 = .ok (.aload_n 0, 1) := by decide +kernel
theorem dX12_askOf_15 : decode cX12_askOf 15 = .ok (.getfield 472, 3) := by decide +kernel
theorem dX12_askOf_18 : decode cX12_askOf 18 = .ok (.iload_n 2, 1) := by decide +kernel
theorem dX12_askOf_19 : decode cX12_askOf 19 = .ok (.iastore, 1) := by decide +kernel
theorem dX12_askOf_20 : decode cX12_askOf 20 = .ok (.aload_n 0, 1) := by decide +kernel
theorem dX12_askOf_21 : decode cX12_askOf 21 = .ok (.getfield 172, 3) := by decide +kernel
theorem dX12_askOf_24 : decode cX12_askOf 24 = .ok (.aload_n 0, 1) := by decide +kernel
theorem dX12_askOf_25 : decode cX12_askOf 25 = .ok (.getfield 472, 3) := by decide +kernel
theorem dX12_askOf_28 : decode cX12_askOf 28 = .ok (.iconst 0, 1) := by decide +kernel
theorem dX12_askOf_29 : decode cX12_askOf 29 = .ok (.iastore, 1) := by decide +kernel
theorem dX12_askOf_30 : decode cX12_askOf 30 = .ok (.aload_n 0, 1) := by decide +kernel
theorem dX12_askOf_31 : decode cX12_askOf 31 = .ok (.dup, 1) := by decide +kernel
theorem dX12_askOf_32 : decode cX12_askOf 32 = .ok (.getfield 472, 3) := by decide +kernel
theorem dX12_askOf_35 : decode cX12_askOf 35 = .ok (.iconst 1, 1) := by decide +kernel
theorem dX12_askOf_36 : decode cX12_askOf 36 = .ok (.iadd, 1) := by decide +kernel
theorem dX12_askOf_37 : decode cX12_askOf 37 = .ok (.putfield 472, 3) := by decide +kernel
theorem dX12_askOf_40 : decode cX12_askOf 40 = .ok (.bipush (-2), 2) := by decide +kernel
theorem dX12_askOf_42 : decode cX12_askOf 42 = .ok (.ireturn, 1) := by decide +kernel
theorem dX12_answered_0 : decode cX12_answered 0 = .ok (.aload_n 0, 1) := by decide +kernel
theorem dX12_answered_1 : decode cX12_answered 1 = .ok (.getfield 166, 3) := by decide +kernel
theorem dX12_answered_4 : decode cX12_answered 4 = .ok (.iload_n 1, 1) := by decide +kernel
theorem dX12_answered_5 : decode cX12_answered 5 = .ok (.iaload, 1) := by decide +kernel
theorem dX12_answered_6 : decode cX12_answered 6 = .ok (.istore_n 3, 1) := by decide +kernel
theorem dX12_answered_7 : decode cX12_answered 7 = .ok (.aload_n 0, 1) := by decide +kernel
theorem dX12_answered_8 : decode cX12_answered 8 = .ok (.getfield 139, 3) := by decide +kernel
theorem dX12_answered_11 : decode cX12_answered 11 = .ok (.iload_n 3, 1) := by decide +kernel
theorem dX12_answered_12 : decode cX12_answered 12 = .ok (.iaload, 1) := by decide +kernel
theorem dX12_answered_13 : decode cX12_answered 13 = .ok (.istore 4, 2) := by decide +kernel
theorem dX12_answered_15 : decode cX12_answered 15 = .ok (.aload_n 0, 1) := by decide +kernel
theorem dX12_answered_16 : decode cX12_answered 16 = .ok (.getfield 169, 3) := by decide +kernel
theorem dX12_answered_19 : decode cX12_answered 19 = .ok (.iload_n 1, 1) := by decide +kernel
theorem dX12_answered_20 : decode cX12_answered 20 = .ok (.iaload, 1) := by decide +kernel
theorem dX12_answered_21 : decode cX12_answered 21 = .ok (.istore 5, 2) := by decide +kernel
theorem dX12_answered_23 : decode cX12_answered 23 = .ok (.aload_n 0, 1) := by decide +kernel
theorem dX12_answered_24 : decode cX12_answered 24 = .ok (.getfield 172, 3) := by decide +kernel
theorem dX12_answered_27 : decode cX12_answered 27 = .ok (.iload_n 1, 1) := by decide +kernel
theorem dX12_answered_28 : decode cX12_answered 28 = .ok (.iaload, 1) := by decide +kernel
theorem dX12_answered_29 : decode cX12_answered 29 = .ok (.istore 6, 2) := by decide +kernel
theorem dX12_answered_31 : decode cX12_answered 31 = .ok (.aload_n 0, 1) := by decide +kernel
theorem dX12_answered_32 : decode cX12_answered 32 = .ok (.getfield 172, 3) := by decide +kernel
theorem dX12_answered_35 : decode cX12_answered 35 = .ok (.iload_n 1, 1) := by decide +kernel
theorem dX12_answered_36 : decode cX12_answered 36 = .ok (.dup2, 1) := by decide +kernel
theorem dX12_answered_37 : decode cX12_answered 37 = .ok (.iaload, 1) := by decide +kernel
theorem dX12_answered_38 : decode cX12_answered 38 = .ok (.iconst 1, 1) := by decide +kernel
theorem dX12_answered_39 : decode cX12_answered 39 = .ok (.iadd, 1) := by decide +kernel
theorem dX12_answered_40 : decode cX12_answered 40 = .ok (.iastore, 1) := by decide +kernel
theorem dX12_answered_41 : decode cX12_answered 41 = .ok (.iload 5, 2) := by decide +kernel
theorem dX12_answered_43 : decode cX12_answered 43 = .ok (.ifCond .ge 15, 3) := by decide +kernel
theorem dX12_answered_46 : decode cX12_answered 46 = .ok (.aload_n 0, 1) := by decide +kernel
theorem dX12_answered_47 : decode cX12_answered 47 = .ok (.iload_n 1, 1) := by decide +kernel
theorem dX12_answered_48 : decode cX12_answered 48 = .ok (.iload_n 3, 1) := by decide +kernel
theorem dX12_answered_49 : decode cX12_answered 49 = .ok (.iload 4, 2) := by decide +kernel
theorem dX12_answered_51 : decode cX12_answered 51 = .ok (.iload 6, 2) := by decide +kernel
theorem dX12_answered_53 : decode cX12_answered 53 = .ok (.iload_n 2, 1) := by decide +kernel
theorem dX12_answered_54 : decode cX12_answered 54 = .ok (.invokevirtual 475, 3) := by decide +kernel
theorem dX12_answered_57 : decode cX12_answered 57 = .ok (.ireturn, 1) := by decide +kernel
theorem dX12_answered_58 : decode cX12_answered 58 = .ok (.iload 4, 2) := by decide +kernel
theorem dX12_answered_60 : decode cX12_answered 60 = .ok (.tableswitch 373 67 88 #[361, 373, 373, 373, 373, 104, 281, 281, 373, 138, 373, 373, 373, 210, 373, 373, 373, 126, 373, 373, 373, 339], 104) := by decide +kernel
theorem dX12_answered_164 : decode cX12_answered 164 = .ok (.aload_n 0, 1) := by decide +kernel
theorem dX12_answered_165 : decode cX12_answered 165 = .ok (.getfield 163, 3) := by decide +kernel
theorem dX12_answered_168 : decode cX12_answered 168 = .ok (.aload_n 0, 1) := by decide +kernel
theorem dX12_answered_169 : decode cX12_answered 169 = .ok (.getfield 145, 3) := by decide +kernel
theorem dX12_answered_172 : decode cX12_answered 172 = .ok (.iload_n 3, 1) := by decide +kernel
theorem dX12_answered_173 : decode cX12_answered 173 = .ok (.iaload, 1) := by decide +kernel
theorem dX12_answered_174 : decode cX12_answered 174 = .ok (.iaload, 1) := by decide +kernel
theorem dX12_answered_175 : decode cX12_answered 175 = .ok (.iload 5, 2) := by decide +kernel
theorem dX12_answered_177 : decode cX12_answered 177 = .ok (.if_icmp .ne 7, 3) := by decide +kernel
theorem dX12_answered_180 : decode cX12_answered 180 = .ok (.iconst 1, 1) := by decide +kernel
theorem dX12_answered_181 : decode cX12_answered 181 = .ok (.goto 4, 3) := by decide +kernel
theorem dX12_answered_184 : decode cX12_answered 184 = .ok (.iconst 0, 1) := by decide +kernel
theorem dX12_answered_185 : decode cX12_answered 185 = .ok (.ireturn, 1) := by decide +kernel
theorem dX12_answered_186 : decode cX12_answered 186 = .ok (.iload 5, 2) := by decide +kernel
theorem dX12_answered_188 : decode cX12_answered 188 = .ok (.iconst 1, 1) := by decide +kernel
theorem dX12_answered_189 : decode cX12_answered 189 = .ok (.if_icmp .ne 7, 3) := by decide +kernel
theorem dX12_answered_192 : decode cX12_answered 192 = .ok (.iconst 1, 1) := by decide +kernel
theorem dX12_answered_193 : decode cX12_answered 193 = .ok (.goto 4, 3) := by decide +kernel
theorem dX12_answered_196 : decode cX12_answered 196 = .ok (.iconst 0, 1) := by decide +kernel
theorem dX12_answered_197 : decode cX12_answered 197 = .ok (.ireturn, 1) := by decide +kernel
theorem dX12_answered_198 : decode cX12_answered 198 = .ok (.iload 6, 2) := by decide +kernel
theorem dX12_answered_200 : decode cX12_answered 200 = .ok (.iconst 1, 1) := by decide +kernel
theorem dX12_answered_201 : decode cX12_answered 201 = .ok (.if_icmp .ne 5, 3) := by decide +kernel
theorem dX12_answered_204 : decode cX12_answered 204 = .ok (.iload_n 2, 1) := by decide +kernel
theorem dX12_answered_205 : decode cX12_answered 205 = .ok (.ireturn, 1) := by decide +kernel
theorem dX12_answered_206 : decode cX12_answered 206 = .ok (.aload_n 0, 1) := by decide +kernel
theorem dX12_answered_207 : decode cX12_answered 207 = .ok (.getfield 7, 3) := by decide +kernel
theorem dX12_answered_210 : decode cX12_answered 210 = .ok (.iload 5, 2) := by decide +kernel
theorem dX12_answered_212 : decode cX12_answered 212 = .ok (.iaload, 1) := by decide +kernel
theorem dX12_answered_213 : decode cX12_answered 213 = .ok (.iconst 5, 1) := by decide +kernel
theorem dX12_answered_214 : decode cX12_answered 214 = .ok (.if_icmp .ne 19, 3) := by decide +kernel
theorem dX12_answered_217 : decode cX12_answered 217 = .ok (.aload_n 0, 1) := by decide +kernel
theorem dX12_answered_218 : decode cX12_answered 218 = .ok (.getfield 13, 3) := by decide +kernel
theorem dX12_answered_221 : decode cX12_answered 221 = .ok (.iload 5, 2) := by decide +kernel
theorem dX12_answered_223 : decode cX12_answered 223 = .ok (.iaload, 1) := by decide +kernel
theorem dX12_answered_224 : decode cX12_answered 224 = .ok (.aload_n 0, 1) := by decide +kernel
theorem dX12_answered_225 : decode cX12_answered 225 = .ok (.getfield 151, 3) := by decide +kernel
theorem dX12_answered_228 : decode cX12_answered 228 = .ok (.iload_n 3, 1) := by decide +kernel
theorem dX12_answered_229 : decode cX12_answered 229 = .ok (.iaload, 1) := by decide +kernel
theorem dX12_answered_230 : decode cX12_answered 230 = .ok (.if_icmp .eq 5, 3) := by decide +kernel
theorem dX12_answered_233 : decode cX12_answered 233 = .ok (.iconst 0, 1) := by decide +kernel
theorem dX12_answered_234 : decode cX12_answered 234 = .ok (.ireturn, 1) := by decide +kernel
theorem dX12_answered_235 : decode cX12_answered 235 = .ok (.aload_n 0, 1) := by decide +kernel
theorem dX12_answered_236 : decode cX12_answered 236 = .ok (.getfield 163, 3) := by decide +kernel
theorem dX12_answered_239 : decode cX12_answered 239 = .ok (.aload_n 0, 1) := by decide +kernel
theorem dX12_answered_240 : decode cX12_answered 240 = .ok (.getfield 142, 3) := by decide +kernel
theorem dX12_answered_243 : decode cX12_answered 243 = .ok (.iload_n 3, 1) := by decide +kernel
theorem dX12_answered_244 : decode cX12_answered 244 = .ok (.iaload, 1) := by decide +kernel
theorem dX12_answered_245 : decode cX12_answered 245 = .ok (.aload_n 0, 1) := by decide +kernel
theorem dX12_answered_246 : decode cX12_answered 246 = .ok (.getfield 151, 3) := by decide +kernel
theorem dX12_answered_249 : decode cX12_answered 249 = .ok (.iload_n 3, 1) := by decide +kernel
theorem dX12_answered_250 : decode cX12_answered 250 = .ok (.iaload, 1) := by decide +kernel
theorem dX12_answered_251 : decode cX12_answered 251 = .ok (.iastore, 1) := by decide +kernel
theorem dX12_answered_252 : decode cX12_answered 252 = .ok (.aload_n 0, 1) := by decide +kernel
theorem dX12_answered_253 : decode cX12_answered 253 = .ok (.aload_n 0, 1) := by decide +kernel
theorem dX12_answered_254 : decode cX12_answered 254 = .ok (.getfield 145, 3) := by decide +kernel
theorem dX12_answered_257 : decode cX12_answered 257 = .ok (.iload_n 3, 1) := by decide +kernel
theorem dX12_answered_258 : decode cX12_answered 258 = .ok (.iaload, 1) := by decide +kernel
theorem dX12_answered_259 : decode cX12_answered 259 = .ok (.aload_n 0, 1) := by decide +kernel
theorem dX12_answered_260 : decode cX12_answered 260 = .ok (.getfield 16, 3) := by decide +kernel
theorem dX12_answered_263 : decode cX12_answered 263 = .ok (.iload 5, 2) := by decide +kernel
theorem dX12_answered_265 : decode cX12_answered 265 = .ok (.iaload, 1) := by decide +kernel
theorem dX12_answered_266 : decode cX12_answered 266 = .ok (.invokevirtual 478, 3) := by decide +kernel
theorem dX12_answered_269 : decode cX12_answered 269 = .ok (.ireturn, 1) := by decide +kernel
theorem dX12_answered_270 : decode cX12_answered 270 = .ok (.iload 6, 2) := by decide +kernel
theorem dX12_answered_272 : decode cX12_answered 272 = .ok (.ifCond .ne 36, 3) := by decide +kernel
theorem dX12_answered_275 : decode cX12_answered 275 = .ok (.aload_n 0, 1) := by decide +kernel
theorem dX12_answered_276 : decode cX12_answered 276 = .ok (.getfield 7, 3) := by decide +kernel
theorem dX12_answered_279 : decode cX12_answered 279 = .ok (.iload 5, 2) := by decide +kernel
theorem dX12_answered_281 : decode cX12_answered 281 = .ok (.iaload, 1) := by decide +kernel
theorem dX12_answered_282 : decode cX12_answered 282 = .ok (.iconst 3, 1) := by decide +kernel
theorem dX12_answered_283 : decode cX12_answered 283 = .ok (.if_icmp .ne 23, 3) := by decide +kernel
theorem dX12_answered_286 : decode cX12_answered 286 = .ok (.aload_n 0, 1) := by decide +kernel
theorem dX12_answered_287 : decode cX12_answered 287 = .ok (.aload_n 0, 1) := by decide +kernel
theorem dX12_answered_288 : decode cX12_answered 288 = .ok (.getfield 145, 3) := by decide +kernel
theorem dX12_answered_291 : decode cX12_answered 291 = .ok (.iload_n 3, 1) := by decide +kernel
theorem dX12_answered_292 : decode cX12_answered 292 = .ok (.iaload, 1) := by decide +kernel
theorem dX12_answered_293 : decode cX12_answered 293 = .ok (.aload_n 0, 1) := by decide +kernel
theorem dX12_answered_294 : decode cX12_answered 294 = .ok (.getfield 13, 3) := by decide +kernel
theorem dX12_answered_297 : decode cX12_answered 297 = .ok (.iload 5, 2) := by decide +kernel
theorem dX12_answered_299 : decode cX12_answered 299 = .ok (.iaload, 1) := by decide +kernel
theorem dX12_answered_300 : decode cX12_answered 300 = .ok (.invokevirtual 478, 3) := by decide +kernel
theorem dX12_answered_303 : decode cX12_answered 303 = .ok (.goto 4, 3) := by decide +kernel
theorem dX12_answered_306 : decode cX12_answered 306 = .ok (.iconst 0, 1) := by decide +kernel
theorem dX12_answered_307 : decode cX12_answered 307 = .ok (.ireturn, 1) := by decide +kernel
theorem dX12_answered_308 : decode cX12_answered 308 = .ok (.iload 6, 2) := by decide +kernel
theorem dX12_answered_310 : decode cX12_answered 310 = .ok (.iconst 1, 1) := by decide +kernel
theorem dX12_answered_311 : decode cX12_answered 311 = .ok (.if_icmp .ne 28, 3) := by decide +kernel
theorem dX12_answered_314 : decode cX12_answered 314 = .ok (.iload_n 2, 1) := by decide +kernel
theorem dX12_answered_315 : decode cX12_answered 315 = .ok (.iconst 1, 1) := by decide +kernel
theorem dX12_answered_316 : decode cX12_answered 316 = .ok (.if_icmp .ne 23, 3) := by decide +kernel
theorem dX12_answered_319 : decode cX12_answered 319 = .ok (.aload_n 0, 1) := by decide +kernel
theorem dX12_answered_320 : decode cX12_answered 320 = .ok (.aload_n 0, 1) := by decide +kernel
theorem dX12_answered_321 : decode cX12_answered 321 = .ok (.getfield 148, 3) := by decide +kernel
theorem dX12_answered_324 : decode cX12_answered 324 = .ok (.iload_n 3, 1) := by decide +kernel
theorem dX12_answered_325 : decode cX12_answered 325 = .ok (.iaload, 1) := by decide +kernel
theorem dX12_answered_326 : decode cX12_answered 326 = .ok (.aload_n 0, 1) := by decide +kernel
theorem dX12_answered_327 : decode cX12_answered 327 = .ok (.getfield 16, 3) := by decide +kernel
theorem dX12_answered_330 : decode cX12_answered 330 = .ok (.iload 5, 2) := by decide +kernel
theorem dX12_answered_332 : decode cX12_answered 332 = .ok (.iaload, 1) := by decide +kernel
theorem dX12_answered_333 : decode cX12_answered 333 = .ok (.invokevirtual 478, 3) := by decide +kernel
theorem dX12_answered_336 : decode cX12_answered 336 = .ok (.goto 4, 3) := by decide +kernel
theorem dX12_answered_339 : decode cX12_answered 339 = .ok (.iload_n 2, 1) := by decide +kernel
theorem dX12_answered_340 : decode cX12_answered 340 = .ok (.ireturn, 1) := by decide +kernel
theorem dX12_answered_341 : decode cX12_answered 341 = .ok (.iload 6, 2) := by decide +kernel
theorem dX12_answered_343 : decode cX12_answered 343 = .ok (.iconst 1, 1) := by decide +kernel
theorem dX12_answered_344 : decode cX12_answered 344 = .ok (.if_icmp .ne 5, 3) := by decide +kernel
theorem dX12_answered_347 : decode cX12_answered 347 = .ok (.iload_n 2, 1) := by decide +kernel
theorem dX12_answered_348 : decode cX12_answered 348 = .ok (.ireturn, 1) := by decide +kernel
theorem dX12_answered_349 : decode cX12_answered 349 = .ok (.aload_n 0, 1) := by decide +kernel
theorem dX12_answered_350 : decode cX12_answered 350 = .ok (.getfield 7, 3) := by decide +kernel
theorem dX12_answered_353 : decode cX12_answered 353 = .ok (.iload 5, 2) := by decide +kernel
theorem dX12_answered_355 : decode cX12_answered 355 = .ok (.iaload, 1) := by decide +kernel
theorem dX12_answered_356 : decode cX12_answered 356 = .ok (.iconst 4, 1) := by decide +kernel
theorem dX12_answered_357 : decode cX12_answered 357 = .ok (.if_icmp .ne 40, 3) := by decide +kernel
theorem dX12_answered_360 : decode cX12_answered 360 = .ok (.aload_n 0, 1) := by decide +kernel
theorem dX12_answered_361 : decode cX12_answered 361 = .ok (.aload_n 0, 1) := by decide +kernel
theorem dX12_answered_362 : decode cX12_answered 362 = .ok (.getfield 145, 3) := by decide +kernel
theorem dX12_answered_365 : decode cX12_answered 365 = .ok (.iload_n 3, 1) := by decide +kernel
theorem dX12_answered_366 : decode cX12_answered 366 = .ok (.iaload, 1) := by decide +kernel
theorem dX12_answered_367 : decode cX12_answered 367 = .ok (.iload 4, 2) := by decide +kernel
theorem dX12_answered_369 : decode cX12_answered 369 = .ok (.bipush 73, 2) := by decide +kernel
theorem dX12_answered_371 : decode cX12_answered 371 = .ok (.if_icmp .ne 13, 3) := by decide +kernel
theorem dX12_answered_374 : decode cX12_answered 374 = .ok (.aload_n 0, 1) := by decide +kernel
theorem dX12_answered_375 : decode cX12_answered 375 = .ok (.getfield 13, 3) := by decide +kernel
theorem dX12_answered_378 : decode cX12_answered 378 = .ok (.iload 5, 2) := by decide +kernel
theorem dX12_answered_380 : decode cX12_answered 380 = .ok (.iaload, 1) := by decide +kernel
theorem dX12_answered_381 : decode cX12_answered 381 = .ok (.goto 10, 3) := by decide +kernel
theorem dX12_answered_384 : decode cX12_answered 384 = .ok (.aload_n 0, 1) := by decide +kernel
theorem dX12_answered_385 : decode cX12_answered 385 = .ok (.getfield 16, 3) := by decide +kernel
theorem dX12_answered_388 : decode cX12_answered 388 = .ok (.iload 5, 2) := by decide +kernel
theorem dX12_answered_390 : decode cX12_answered 390 = .ok (.iaload, 1) := by decide +kernel
theorem dX12_answered_391 : decode cX12_answered 391 = .ok (.invokevirtual 478, 3) := by decide +kernel
theorem dX12_answered_394 : decode cX12_answered 394 = .ok (.goto 4, 3) := by decide +kernel
theorem dX12_answered_397 : decode cX12_answered 397 = .ok (.iconst 0, 1) := by decide +kernel
theorem dX12_answered_398 : decode cX12_answered 398 = .ok (.ireturn, 1) := by decide +kernel
theorem dX12_answered_399 : decode cX12_answered 399 = .ok (.iload 6, 2) := by decide +kernel
theorem dX12_answered_401 : decode cX12_answered 401 = .ok (.iconst 1, 1) := by decide +kernel
theorem dX12_answered_402 : decode cX12_answered 402 = .ok (.if_icmp .ne 7, 3) := by decide +kernel
theorem dX12_answered_405 : decode cX12_answered 405 = .ok (.iload_n 2, 1) := by decide +kernel
theorem dX12_answered_406 : decode cX12_answered 406 = .ok (.goto 14, 3) := by decide +kernel
theorem dX12_answered_409 : decode cX12_answered 409 = .ok (.aload_n 0, 1) := by decide +kernel
theorem dX12_answered_410 : decode cX12_answered 410 = .ok (.aload_n 0, 1) := by decide +kernel
theorem dX12_answered_411 : decode cX12_answered 411 = .ok (.getfield 145, 3) := by decide +kernel
theorem dX12_answered_414 : decode cX12_answered 414 = .ok (.iload_n 3, 1) := by decide +kernel
theorem dX12_answered_415 : decode cX12_answered 415 = .ok (.iaload, 1) := by decide +kernel
theorem dX12_answered_416 : decode cX12_answered 416 = .ok (.iconst 0, 1) := by decide +kernel
theorem dX12_answered_417 : decode cX12_answered 417 = .ok (.invokevirtual 478, 3) := by decide +kernel
theorem dX12_answered_420 : decode cX12_answered 420 = .ok (.ireturn, 1) := by decide +kernel
theorem dX12_answered_421 : decode cX12_answered 421 = .ok (.aload_n 0, 1) := by decide +kernel
theorem dX12_answered_422 : decode cX12_answered 422 = .ok (.iload_n 1, 1) := by decide +kernel
theorem dX12_answered_423 : decode cX12_answered 423 = .ok (.iload_n 3, 1) := by decide +kernel
theorem dX12_answered_424 : decode cX12_answered 424 = .ok (.iload 5, 2) := by decide +kernel
theorem dX12_answered_426 : decode cX12_answered 426 = .ok (.iload 6, 2) := by decide +kernel
theorem dX12_answered_428 : decode cX12_answered 428 = .ok (.iload_n 2, 1) := by decide +kernel
theorem dX12_answered_429 : decode cX12_answered 429 = .ok (.invokevirtual 481, 3) := by decide +kernel
theorem dX12_answered_432 : decode cX12_answered 432 = .ok (.ireturn, 1) := by decide +kernel
theorem dX12_answered_433 : decode cX12_answered 433 = .ok (.iload 6, 2) := by decide +kernel
theorem dX12_answered_435 : decode cX12_answered 435 = .ok (.iconst 1, 1) := by decide +kernel
theorem dX12_answered_436 : decode cX12_answered 436 = .ok (.if_icmp .ne 17, 3) := by decide +kernel
theorem dX12_answered_439 : decode cX12_answered 439 = .ok (.iload_n 2, 1) := by decide +kernel
theorem dX12_answered_440 : decode cX12_answered 440 = .ok (.iload 5, 2) := by decide +kernel
theorem dX12_answered_442 : decode cX12_answered 442 = .ok (.if_icmp .ne 7, 3) := by decide +kernel
theorem dX12_answered_445 : decode cX12_answered 445 = .ok (.iconst 1, 1) := by decide +kernel
theorem dX12_answered_446 : decode cX12_answered 446 = .ok (.goto 13, 3) := by decide +kernel
theorem dX12_answered_449 : decode cX12_answered 449 = .ok (.iconst 0, 1) := by decide +kernel
theorem dX12_answered_450 : decode cX12_answered 450 = .ok (.goto 9, 3) := by decide +kernel
theorem dX12_answered_453 : decode cX12_answered 453 = .ok (.aload_n 0, 1) := by decide +kernel
theorem dX12_answered_454 : decode cX12_answered 454 = .ok (.iload_n 3, 1) := by decide +kernel
theorem dX12_answered_455 : decode cX12_answered 455 = .ok (.iconst (-1), 1) := by decide +kernel
theorem dX12_answered_456 : decode cX12_answered 456 = .ok (.invokevirtual 478, 3) := by decide +kernel
theorem dX12_answered_459 : decode cX12_answered 459 = .ok (.ireturn, 1) := by decide +kernel
theorem dX12_cases_0 : decode cX12_cases 0 = .ok (.iload 4, 2) := by decide +kernel
theorem dX12_cases_2 : decode cX12_cases 2 = .ok (.ifCond .ne 15, 3) := by decide +kernel
theorem dX12_cases_5 : decode cX12_cases 5 = .ok (.aload_n 0, 1) := by decide +kernel
theorem dX12_cases_6 : decode cX12_cases 6 = .ok (.aload_n 0, 1) := by decide +kernel
theorem dX12_cases_7 : decode cX12_cases 7 = .ok (.getfield 145, 3) := by decide +kernel
theorem dX12_cases_10 : decode cX12_cases 10 = .ok (.iload_n 2, 1) := by decide +kernel
theorem dX12_cases_11 : decode cX12_cases 11 = .ok (.iaload, 1) := by decide +kernel
theorem dX12_cases_12 : decode cX12_cases 12 = .ok (.iconst (-1), 1) := by decide +kernel
theorem dX12_cases_13 : decode cX12_cases 13 = .ok (.invokevirtual 478, 3) := by decide +kernel
theorem dX12_cases_16 : decode cX12_cases 16 = .ok (.ireturn, 1) := by decide +kernel
theorem dX12_cases_17 : decode cX12_cases 17 = .ok (.iload 4, 2) := by decide +kernel
theorem dX12_cases_19 : decode cX12_cases 19 = .ok (.iconst 1, 1) := by decide +kernel
theorem dX12_cases_20 : decode cX12_cases 20 = .ok (.if_icmp .ne 59, 3) := by decide +kernel
theorem dX12_cases_23 : decode cX12_cases 23 = .ok (.iload 5, 2) := by decide +kernel
theorem dX12_cases_25 : decode cX12_cases 25 = .ok (.ifCond .lt 14, 3) := by decide +kernel
theorem dX12_cases_28 : decode cX12_cases 28 = .ok (.aload_n 0, 1) := by decide +kernel
theorem dX12_cases_29 : decode cX12_cases 29 = .ok (.getfield 7, 3) := by decide +kernel
theorem dX12_cases_32 : decode cX12_cases 32 = .ok (.iload 5, 2) := by decide +kernel
theorem dX12_cases_34 : decode cX12_cases 34 = .ok (.iaload, 1) := by decide +kernel
theorem dX12_cases_35 : decode cX12_cases 35 = .ok (.iconst 4, 1) := by decide +kernel
theorem dX12_cases_36 : decode cX12_cases 36 = .ok (.if_icmp .eq 5, 3) := by decide +kernel
theorem dX12_cases_39 : decode cX12_cases 39 = .ok (.iconst 0, 1) := by decide +kernel
theorem dX12_cases_40 : decode cX12_cases 40 = .ok (.ireturn, 1) := by decide +kernel
theorem dX12_cases_41 : decode cX12_cases 41 = .ok (.aload_n 0, 1) := by decide +kernel
theorem dX12_cases_42 : decode cX12_cases 42 = .ok (.getfield 175, 3) := by decide +kernel
theorem dX12_cases_45 : decode cX12_cases 45 = .ok (.iload_n 1, 1) := by decide +kernel
theorem dX12_cases_46 : decode cX12_cases 46 = .ok (.iload 5, 2) := by decide +kernel
theorem dX12_cases_48 : decode cX12_cases 48 = .ok (.iastore, 1) := by decide +kernel
theorem dX12_cases_49 : decode cX12_cases 49 = .ok (.aload_n 0, 1) := by decide +kernel
theorem dX12_cases_50 : decode cX12_cases 50 = .ok (.getfield 163, 3) := by decide +kernel
theorem dX12_cases_53 : decode cX12_cases 53 = .ok (.aload_n 0, 1) := by decide +kernel
theorem dX12_cases_54 : decode cX12_cases 54 = .ok (.getfield 142, 3) := by decide +kernel
theorem dX12_cases_57 : decode cX12_cases 57 = .ok (.iload_n 2, 1) := by decide +kernel
theorem dX12_cases_58 : decode cX12_cases 58 = .ok (.iaload, 1) := by decide +kernel
theorem dX12_cases_59 : decode cX12_cases 59 = .ok (.aload_n 0, 1) := by decide +kernel
theorem dX12_cases_60 : decode cX12_cases 60 = .ok (.getfield 13, 3) := by decide +kernel
theorem dX12_cases_63 : decode cX12_cases 63 = .ok (.iload 5, 2) := by decide +kernel
theorem dX12_cases_65 : decode cX12_cases 65 = .ok (.iaload, 1) := by decide +kernel
theorem dX12_cases_66 : decode cX12_cases 66 = .ok (.iastore, 1) := by decide +kernel
theorem dX12_cases_67 : decode cX12_cases 67 = .ok (.aload_n 0, 1) := by decide +kernel
theorem dX12_cases_68 : decode cX12_cases 68 = .ok (.aload_n 0, 1) := by decide +kernel
theorem dX12_cases_69 : decode cX12_cases 69 = .ok (.getfield 148, 3) := by decide +kernel
theorem dX12_cases_72 : decode cX12_cases 72 = .ok (.iload_n 2, 1) := by decide +kernel
theorem dX12_cases_73 : decode cX12_cases 73 = .ok (.iaload, 1) := by decide +kernel
theorem dX12_cases_74 : decode cX12_cases 74 = .ok (.iload_n 3, 1) := by decide +kernel
theorem dX12_cases_75 : decode cX12_cases 75 = .ok (.invokevirtual 478, 3) := by decide +kernel
theorem dX12_cases_78 : decode cX12_cases 78 = .ok (.ireturn, 1) := by decide +kernel
theorem dX12_cases_79 : decode cX12_cases 79 = .ok (.iload 4, 2) := by decide +kernel
theorem dX12_cases_81 : decode cX12_cases 81 = .ok (.iconst 2, 1) := by decide +kernel
theorem dX12_cases_82 : decode cX12_cases 82 = .ok (.if_icmp .ne 43, 3) := by decide +kernel
theorem dX12_cases_85 : decode cX12_cases 85 = .ok (.iload 5, 2) := by decide +kernel
theorem dX12_cases_87 : decode cX12_cases 87 = .ok (.iconst 1, 1) := by decide +kernel
theorem dX12_cases_88 : decode cX12_cases 88 = .ok (.if_icmp .ne 37, 3) := by decide +kernel
theorem dX12_cases_91 : decode cX12_cases 91 = .ok (.aload_n 0, 1) := by decide +kernel
theorem dX12_cases_92 : decode cX12_cases 92 = .ok (.getfield 163, 3) := by decide +kernel
theorem dX12_cases_95 : decode cX12_cases 95 = .ok (.aload_n 0, 1) := by decide +kernel
theorem dX12_cases_96 : decode cX12_cases 96 = .ok (.getfield 142, 3) := by decide +kernel
theorem dX12_cases_99 : decode cX12_cases 99 = .ok (.iload_n 2, 1) := by decide +kernel
theorem dX12_cases_100 : decode cX12_cases 100 = .ok (.iaload, 1) := by decide +kernel
theorem dX12_cases_101 : decode cX12_cases 101 = .ok (.aload_n 0, 1) := by decide +kernel
theorem dX12_cases_102 : decode cX12_cases 102 = .ok (.getfield 16, 3) := by decide +kernel
theorem dX12_cases_105 : decode cX12_cases 105 = .ok (.aload_n 0, 1) := by decide +kernel
theorem dX12_cases_106 : decode cX12_cases 106 = .ok (.getfield 175, 3) := by decide +kernel
theorem dX12_cases_109 : decode cX12_cases 109 = .ok (.iload_n 1, 1) := by decide +kernel
theorem dX12_cases_110 : decode cX12_cases 110 = .ok (.iaload, 1) := by decide +kernel
theorem dX12_cases_111 : decode cX12_cases 111 = .ok (.iaload, 1) := by decide +kernel
theorem dX12_cases_112 : decode cX12_cases 112 = .ok (.iastore, 1) := by decide +kernel
theorem dX12_cases_113 : decode cX12_cases 113 = .ok (.aload_n 0, 1) := by decide +kernel
theorem dX12_cases_114 : decode cX12_cases 114 = .ok (.aload_n 0, 1) := by decide +kernel
theorem dX12_cases_115 : decode cX12_cases 115 = .ok (.getfield 151, 3) := by decide +kernel
theorem dX12_cases_118 : decode cX12_cases 118 = .ok (.iload_n 2, 1) := by decide +kernel
theorem dX12_cases_119 : decode cX12_cases 119 = .ok (.iaload, 1) := by decide +kernel
theorem dX12_cases_120 : decode cX12_cases 120 = .ok (.iload_n 3, 1) := by decide +kernel
theorem dX12_cases_121 : decode cX12_cases 121 = .ok (.invokevirtual 478, 3) := by decide +kernel
theorem dX12_cases_124 : decode cX12_cases 124 = .ok (.ireturn, 1) := by decide +kernel
theorem dX12_cases_125 : decode cX12_cases 125 = .ok (.iload 5, 2) := by decide +kernel
theorem dX12_cases_127 : decode cX12_cases 127 = .ok (.ireturn, 1) := by decide +kernel
theorem dX12_has_0 : decode cX12_has 0 = .ok (.iload 4, 2) := by decide +kernel
theorem dX12_has_2 : decode cX12_has 2 = .ok (.ifCond .le 10, 3) := by decide +kernel
theorem dX12_has_5 : decode cX12_has 5 = .ok (.iload 5, 2) := by decide +kernel
theorem dX12_has_7 : decode cX12_has 7 = .ok (.ifCond .ge 5, 3) := by decide +kernel
theorem dX12_has_10 : decode cX12_has 10 = .ok (.iconst (-1), 1) := by decide +kernel
theorem dX12_has_11 : decode cX12_has 11 = .ok (.ireturn, 1) := by decide +kernel
theorem dX12_has_12 : decode cX12_has 12 = .ok (.iload_n 3, 1) := by decide +kernel
theorem dX12_has_13 : decode cX12_has 13 = .ok (.tableswitch 356 65 84 #[214, 356, 356, 356, 356, 300, 356, 95, 356, 356, 356, 109, 356, 356, 356, 157, 356, 356, 300, 107], 95) := by decide +kernel
theorem dX12_has_108 : decode cX12_has 108 = .ok (.aload_n 0, 1) := by decide +kernel
theorem dX12_has_109 : decode cX12_has 109 = .ok (.getfield 163, 3) := by decide +kernel
theorem dX12_has_112 : decode cX12_has 112 = .ok (.aload_n 0, 1) := by decide +kernel
theorem dX12_has_113 : decode cX12_has 113 = .ok (.getfield 145, 3) := by decide +kernel
theorem dX12_has_116 : decode cX12_has 116 = .ok (.iload_n 2, 1) := by decide +kernel
theorem dX12_has_117 : decode cX12_has 117 = .ok (.iaload, 1) := by decide +kernel
theorem dX12_has_118 : decode cX12_has 118 = .ok (.iaload, 1) := by decide +kernel
theorem dX12_has_119 : decode cX12_has 119 = .ok (.ireturn, 1) := by decide +kernel
theorem dX12_has_120 : decode cX12_has 120 = .ok (.iconst 1, 1) := by decide +kernel
theorem dX12_has_121 : decode cX12_has 121 = .ok (.ireturn, 1) := by decide +kernel
theorem dX12_has_122 : decode cX12_has 122 = .ok (.iload 4, 2) := by decide +kernel
theorem dX12_has_124 : decode cX12_has 124 = .ok (.ifCond .ne 32, 3) := by decide +kernel
theorem dX12_has_127 : decode cX12_has 127 = .ok (.aload_n 0, 1) := by decide +kernel
theorem dX12_has_128 : decode cX12_has 128 = .ok (.getfield 163, 3) := by decide +kernel
theorem dX12_has_131 : decode cX12_has 131 = .ok (.aload_n 0, 1) := by decide +kernel
theorem dX12_has_132 : decode cX12_has 132 = .ok (.getfield 142, 3) := by decide +kernel
theorem dX12_has_135 : decode cX12_has 135 = .ok (.iload_n 2, 1) := by decide +kernel
theorem dX12_has_136 : decode cX12_has 136 = .ok (.iaload, 1) := by decide +kernel
theorem dX12_has_137 : decode cX12_has 137 = .ok (.aload_n 0, 1) := by decide +kernel
theorem dX12_has_138 : decode cX12_has 138 = .ok (.getfield 151, 3) := by decide +kernel
theorem dX12_has_141 : decode cX12_has 141 = .ok (.iload_n 2, 1) := by decide +kernel
theorem dX12_has_142 : decode cX12_has 142 = .ok (.iaload, 1) := by decide +kernel
theorem dX12_has_143 : decode cX12_has 143 = .ok (.iastore, 1) := by decide +kernel
theorem dX12_has_144 : decode cX12_has 144 = .ok (.aload_n 0, 1) := by decide +kernel
theorem dX12_has_145 : decode cX12_has 145 = .ok (.aload_n 0, 1) := by decide +kernel
theorem dX12_has_146 : decode cX12_has 146 = .ok (.getfield 145, 3) := by decide +kernel
theorem dX12_has_149 : decode cX12_has 149 = .ok (.iload_n 2, 1) := by decide +kernel
theorem dX12_has_150 : decode cX12_has 150 = .ok (.iaload, 1) := by decide +kernel
theorem dX12_has_151 : decode cX12_has 151 = .ok (.iconst (-1), 1) := by decide +kernel
theorem dX12_has_152 : decode cX12_has 152 = .ok (.invokevirtual 478, 3) := by decide +kernel
theorem dX12_has_155 : decode cX12_has 155 = .ok (.ireturn, 1) := by decide +kernel
theorem dX12_has_156 : decode cX12_has 156 = .ok (.aload_n 0, 1) := by decide +kernel
theorem dX12_has_157 : decode cX12_has 157 = .ok (.iconst 5, 1) := by decide +kernel
theorem dX12_has_158 : decode cX12_has 158 = .ok (.aload_n 0, 1) := by decide +kernel
theorem dX12_has_159 : decode cX12_has 159 = .ok (.getfield 151, 3) := by decide +kernel
theorem dX12_has_162 : decode cX12_has 162 = .ok (.iload_n 2, 1) := by decide +kernel
theorem dX12_has_163 : decode cX12_has 163 = .ok (.iaload, 1) := by decide +kernel
theorem dX12_has_164 : decode cX12_has 164 = .ok (.iload 5, 2) := by decide +kernel
theorem dX12_has_166 : decode cX12_has 166 = .ok (.invokevirtual 484, 3) := by decide +kernel
theorem dX12_has_169 : decode cX12_has 169 = .ok (.ireturn, 1) := by decide +kernel
theorem dX12_has_170 : decode cX12_has 170 = .ok (.iload 4, 2) := by decide +kernel
theorem dX12_has_172 : decode cX12_has 172 = .ok (.ifCond .ne 15, 3) := by decide +kernel
theorem dX12_has_175 : decode cX12_has 175 = .ok (.aload_n 0, 1) := by decide +kernel
theorem dX12_has_176 : decode cX12_has 176 = .ok (.aload_n 0, 1) := by decide +kernel
theorem dX12_has_177 : decode cX12_has 177 = .ok (.getfield 145, 3) := by decide +kernel
theorem dX12_has_180 : decode cX12_has 180 = .ok (.iload_n 2, 1) := by decide +kernel
theorem dX12_has_181 : decode cX12_has 181 = .ok (.iaload, 1) := by decide +kernel
theorem dX12_has_182 : decode cX12_has 182 = .ok (.iconst (-1), 1) := by decide +kernel
theorem dX12_has_183 : decode cX12_has 183 = .ok (.invokevirtual 478, 3) := by decide +kernel
theorem dX12_has_186 : decode cX12_has 186 = .ok (.ireturn, 1) := by decide +kernel
theorem dX12_has_187 : decode cX12_has 187 = .ok (.iload 4, 2) := by decide +kernel
theorem dX12_has_189 : decode cX12_has 189 = .ok (.iconst 1, 1) := by decide +kernel
theorem dX12_has_190 : decode cX12_has 190 = .ok (.if_icmp .ne 23, 3) := by decide +kernel
theorem dX12_has_193 : decode cX12_has 193 = .ok (.aload_n 0, 1) := by decide +kernel
theorem dX12_has_194 : decode cX12_has 194 = .ok (.getfield 175, 3) := by decide +kernel
theorem dX12_has_197 : decode cX12_has 197 = .ok (.iload_n 1, 1) := by decide +kernel
theorem dX12_has_198 : decode cX12_has 198 = .ok (.iload 5, 2) := by decide +kernel
theorem dX12_has_200 : decode cX12_has 200 = .ok (.iastore, 1) := by decide +kernel
theorem dX12_has_201 : decode cX12_has 201 = .ok (.aload_n 0, 1) := by decide +kernel
theorem dX12_has_202 : decode cX12_has 202 = .ok (.aload_n 0, 1) := by decide +kernel
theorem dX12_has_203 : decode cX12_has 203 = .ok (.getfield 148, 3) := by decide +kernel
theorem dX12_has_206 : decode cX12_has 206 = .ok (.iload_n 2, 1) := by decide +kernel
theorem dX12_has_207 : decode cX12_has 207 = .ok (.iaload, 1) := by decide +kernel
theorem dX12_has_208 : decode cX12_has 208 = .ok (.iconst (-1), 1) := by decide +kernel
theorem dX12_has_209 : decode cX12_has 209 = .ok (.invokevirtual 478, 3) := by decide +kernel
theorem dX12_has_212 : decode cX12_has 212 = .ok (.ireturn, 1) := by decide +kernel
theorem dX12_has_213 : decode cX12_has 213 = .ok (.aload_n 0, 1) := by decide +kernel
theorem dX12_has_214 : decode cX12_has 214 = .ok (.iconst 3, 1) := by decide +kernel
theorem dX12_has_215 : decode cX12_has 215 = .ok (.aload_n 0, 1) := by decide +kernel
theorem dX12_has_216 : decode cX12_has 216 = .ok (.getfield 175, 3) := by decide +kernel
theorem dX12_has_219 : decode cX12_has 219 = .ok (.iload_n 1, 1) := by decide +kernel
theorem dX12_has_220 : decode cX12_has 220 = .ok (.iaload, 1) := by decide +kernel
theorem dX12_has_221 : decode cX12_has 221 = .ok (.iload 5, 2) := by decide +kernel
theorem dX12_has_223 : decode cX12_has 223 = .ok (.invokevirtual 484, 3) := by decide +kernel
theorem dX12_has_226 : decode cX12_has 226 = .ok (.ireturn, 1) := by decide +kernel
theorem dX12_has_227 : decode cX12_has 227 = .ok (.iload 4, 2) := by decide +kernel
theorem dX12_has_229 : decode cX12_has 229 = .ok (.ifCond .ne 15, 3) := by decide +kernel
theorem dX12_has_232 : decode cX12_has 232 = .ok (.aload_n 0, 1) := by decide +kernel
theorem dX12_has_233 : decode cX12_has 233 = .ok (.aload_n 0, 1) := by decide +kernel
theorem dX12_has_234 : decode cX12_has 234 = .ok (.getfield 145, 3) := by decide +kernel
theorem dX12_has_237 : decode cX12_has 237 = .ok (.iload_n 2, 1) := by decide +kernel
theorem dX12_has_238 : decode cX12_has 238 = .ok (.iaload, 1) := by decide +kernel
theorem dX12_has_239 : decode cX12_has 239 = .ok (.iconst (-1), 1) := by decide +kernel
theorem dX12_has_240 : decode cX12_has 240 = .ok (.invokevirtual 478, 3) := by decide +kernel
theorem dX12_has_243 : decode cX12_has 243 = .ok (.ireturn, 1) := by decide +kernel
theorem dX12_has_244 : decode cX12_has 244 = .ok (.iload 4, 2) := by decide +kernel
theorem dX12_has_246 : decode cX12_has 246 = .ok (.iconst 1, 1) := by decide +kernel
theorem dX12_has_247 : decode cX12_has 247 = .ok (.if_icmp .ne 44, 3) := by decide +kernel
theorem dX12_has_250 : decode cX12_has 250 = .ok (.aload_n 0, 1) := by decide +kernel
theorem dX12_has_251 : decode cX12_has 251 = .ok (.getfield 175, 3) := by decide +kernel
theorem dX12_has_254 : decode cX12_has 254 = .ok (.iload_n 1, 1) := by decide +kernel
theorem dX12_has_255 : decode cX12_has 255 = .ok (.iload 5, 2) := by decide +kernel
theorem dX12_has_257 : decode cX12_has 257 = .ok (.iastore, 1) := by decide +kernel
theorem dX12_has_258 : decode cX12_has 258 = .ok (.aload_n 0, 1) := by decide +kernel
theorem dX12_has_259 : decode cX12_has 259 = .ok (.getfield 7, 3) := by decide +kernel
theorem dX12_has_262 : decode cX12_has 262 = .ok (.iload 5, 2) := by decide +kernel
theorem dX12_has_264 : decode cX12_has 264 = .ok (.iaload, 1) := by decide +kernel
theorem dX12_has_265 : decode cX12_has 265 = .ok (.iconst 5, 1) := by decide +kernel
theorem dX12_has_266 : decode cX12_has 266 = .ok (.if_icmp .ne 23, 3) := by decide +kernel
theorem dX12_has_269 : decode cX12_has 269 = .ok (.aload_n 0, 1) := by decide +kernel
theorem dX12_has_270 : decode cX12_has 270 = .ok (.aload_n 0, 1) := by decide +kernel
theorem dX12_has_271 : decode cX12_has 271 = .ok (.getfield 148, 3) := by decide +kernel
theorem dX12_has_274 : decode cX12_has 274 = .ok (.iload_n 2, 1) := by decide +kernel
theorem dX12_has_275 : decode cX12_has 275 = .ok (.iaload, 1) := by decide +kernel
theorem dX12_has_276 : decode cX12_has 276 = .ok (.aload_n 0, 1) := by decide +kernel
theorem dX12_has_277 : decode cX12_has 277 = .ok (.getfield 13, 3) := by decide +kernel
theorem dX12_has_280 : decode cX12_has 280 = .ok (.iload 5, 2) := by decide +kernel
theorem dX12_has_282 : decode cX12_has 282 = .ok (.iaload, 1) := by decide +kernel
theorem dX12_has_283 : decode cX12_has 283 = .ok (.invokevirtual 478, 3) := by decide +kernel
theorem dX12_has_286 : decode cX12_has 286 = .ok (.goto 4, 3) := by decide +kernel
theorem dX12_has_289 : decode cX12_has 289 = .ok (.iconst (-1), 1) := by decide +kernel
theorem dX12_has_290 : decode cX12_has 290 = .ok (.ireturn, 1) := by decide +kernel
theorem dX12_has_291 : decode cX12_has 291 = .ok (.iload 5, 2) := by decide +kernel
theorem dX12_has_293 : decode cX12_has 293 = .ok (.iconst 1, 1) := by decide +kernel
theorem dX12_has_294 : decode cX12_has 294 = .ok (.if_icmp .ne 17, 3) := by decide +kernel
theorem dX12_has_297 : decode cX12_has 297 = .ok (.aload_n 0, 1) := by decide +kernel
theorem dX12_has_298 : decode cX12_has 298 = .ok (.getfield 16, 3) := by decide +kernel
theorem dX12_has_301 : decode cX12_has 301 = .ok (.aload_n 0, 1) := by decide +kernel
theorem dX12_has_302 : decode cX12_has 302 = .ok (.getfield 175, 3) := by decide +kernel
theorem dX12_has_305 : decode cX12_has 305 = .ok (.iload_n 1, 1) := by decide +kernel
theorem dX12_has_306 : decode cX12_has 306 = .ok (.iaload, 1) := by decide +kernel
theorem dX12_has_307 : decode cX12_has 307 = .ok (.iaload, 1) := by decide +kernel
theorem dX12_has_308 : decode cX12_has 308 = .ok (.goto 4, 3) := by decide +kernel
theorem dX12_has_311 : decode cX12_has 311 = .ok (.iconst (-1), 1) := by decide +kernel
theorem dX12_has_312 : decode cX12_has 312 = .ok (.ireturn, 1) := by decide +kernel
theorem dX12_has_313 : decode cX12_has 313 = .ok (.iload 4, 2) := by decide +kernel
theorem dX12_has_315 : decode cX12_has 315 = .ok (.ifCond .ne 15, 3) := by decide +kernel
theorem dX12_has_318 : decode cX12_has 318 = .ok (.aload_n 0, 1) := by decide +kernel
theorem dX12_has_319 : decode cX12_has 319 = .ok (.aload_n 0, 1) := by decide +kernel
theorem dX12_has_320 : decode cX12_has 320 = .ok (.getfield 145, 3) := by decide +kernel
theorem dX12_has_323 : decode cX12_has 323 = .ok (.iload_n 2, 1) := by decide +kernel
theorem dX12_has_324 : decode cX12_has 324 = .ok (.iaload, 1) := by decide +kernel
theorem dX12_has_325 : decode cX12_has 325 = .ok (.iconst (-1), 1) := by decide +kernel
theorem dX12_has_326 : decode cX12_has 326 = .ok (.invokevirtual 478, 3) := by decide +kernel
theorem dX12_has_329 : decode cX12_has 329 = .ok (.ireturn, 1) := by decide +kernel
theorem dX12_has_330 : decode cX12_has 330 = .ok (.aload_n 0, 1) := by decide +kernel
theorem dX12_has_331 : decode cX12_has 331 = .ok (.getfield 7, 3) := by decide +kernel
theorem dX12_has_334 : decode cX12_has 334 = .ok (.iload 5, 2) := by decide +kernel
theorem dX12_has_336 : decode cX12_has 336 = .ok (.iaload, 1) := by decide +kernel
theorem dX12_has_337 : decode cX12_has 337 = .ok (.iconst 3, 1) := by decide +kernel
theorem dX12_has_338 : decode cX12_has 338 = .ok (.if_icmp .eq 7, 3) := by decide +kernel
theorem dX12_has_341 : decode cX12_has 341 = .ok (.iconst (-1), 1) := by decide +kernel
theorem dX12_has_342 : decode cX12_has 342 = .ok (.goto 26, 3) := by decide +kernel
theorem dX12_has_345 : decode cX12_has 345 = .ok (.iload_n 3, 1) := by decide +kernel
theorem dX12_has_346 : decode cX12_has 346 = .ok (.bipush 70, 2) := by decide +kernel
theorem dX12_has_348 : decode cX12_has 348 = .ok (.if_icmp .ne 13, 3) := by decide +kernel
theorem dX12_has_351 : decode cX12_has 351 = .ok (.aload_n 0, 1) := by decide +kernel
theorem dX12_has_352 : decode cX12_has 352 = .ok (.getfield 13, 3) := by decide +kernel
theorem dX12_has_355 : decode cX12_has 355 = .ok (.iload 5, 2) := by decide +kernel
theorem dX12_has_357 : decode cX12_has 357 = .ok (.iaload, 1) := by decide +kernel
theorem dX12_has_358 : decode cX12_has 358 = .ok (.goto 10, 3) := by decide +kernel
theorem dX12_has_361 : decode cX12_has 361 = .ok (.aload_n 0, 1) := by decide +kernel
theorem dX12_has_362 : decode cX12_has 362 = .ok (.getfield 16, 3) := by decide +kernel
theorem dX12_has_365 : decode cX12_has 365 = .ok (.iload 5, 2) := by decide +kernel
theorem dX12_has_367 : decode cX12_has 367 = .ok (.iaload, 1) := by decide +kernel
theorem dX12_has_368 : decode cX12_has 368 = .ok (.ireturn, 1) := by decide +kernel
theorem dX12_has_369 : decode cX12_has 369 = .ok (.iconst (-1), 1) := by decide +kernel
theorem dX12_has_370 : decode cX12_has 370 = .ok (.ireturn, 1) := by decide +kernel
theorem dX12_isProof_0 : decode cX12_isProof 0 = .ok (.aload_n 0, 1) := by decide +kernel
theorem dX12_isProof_1 : decode cX12_isProof 1 = .ok (.iconst 0, 1) := by decide +kernel
theorem dX12_isProof_2 : decode cX12_isProof 2 = .ok (.putfield 472, 3) := by decide +kernel
theorem dX12_isProof_5 : decode cX12_isProof 5 = .ok (.aload_n 0, 1) := by decide +kernel
theorem dX12_isProof_6 : decode cX12_isProof 6 = .ok (.iconst 0, 1) := by decide +kernel
theorem dX12_isProof_7 : decode cX12_isProof 7 = .ok (.putfield 469, 3) := by decide +kernel
theorem dX12_isProof_10 : decode cX12_isProof 10 = .ok (.aload_n 0, 1) := by decide +kernel
theorem dX12_isProof_11 : decode cX12_isProof 11 = .ok (.iload_n 1, 1) := by decide +kernel
theorem dX12_isProof_12 : decode cX12_isProof 12 = .ok (.iload_n 2, 1) := by decide +kernel
theorem dX12_isProof_13 : decode cX12_isProof 13 = .ok (.invokevirtual 478, 3) := by decide +kernel
theorem dX12_isProof_16 : decode cX12_isProof 16 = .ok (.istore_n 3, 1) := by decide +kernel
theorem dX12_isProof_17 : decode cX12_isProof 17 = .ok (.aload_n 0, 1) := by decide +kernel
theorem dX12_isProof_18 : decode cX12_isProof 18 = .ok (.getfield 472, 3) := by decide +kernel
theorem dX12_isProof_21 : decode cX12_isProof 21 = .ok (.ifCond .le 39, 3) := by decide +kernel
theorem dX12_isProof_24 : decode cX12_isProof 24 = .ok (.aload_n 0, 1) := by decide +kernel
theorem dX12_isProof_25 : decode cX12_isProof 25 = .ok (.getfield 472, 3) := by decide +kernel
theorem dX12_isProof_28 : decode cX12_isProof 28 = .ok (.iconst 1, 1) := by decide +kernel
theorem dX12_isProof_29 : decode cX12_isProof 29 = .ok (.isub, 1) := by decide +kernel
theorem dX12_isProof_30 : decode cX12_isProof 30 = .ok (.istore 4, 2) := by decide +kernel
theorem dX12_isProof_32 : decode cX12_isProof 32 = .ok (.aload_n 0, 1) := by decide +kernel
theorem dX12_isProof_33 : decode cX12_isProof 33 = .ok (.iload 4, 2) := by decide +kernel
theorem dX12_isProof_35 : decode cX12_isProof 35 = .ok (.iload_n 3, 1) := by decide +kernel
theorem dX12_isProof_36 : decode cX12_isProof 36 = .ok (.invokevirtual 487, 3) := by decide +kernel
theorem dX12_isProof_39 : decode cX12_isProof 39 = .ok (.istore 5, 2) := by decide +kernel
theorem dX12_isProof_41 : decode cX12_isProof 41 = .ok (.iload 5, 2) := by decide +kernel
theorem dX12_isProof_43 : decode cX12_isProof 43 = .ok (.istore_n 3, 1) := by decide +kernel
theorem dX12_isProof_44 : decode cX12_isProof 44 = .ok (.iload 5, 2) := by decide +kernel
theorem dX12_isProof_46 : decode cX12_isProof 46 = .ok (.bipush (-2), 2) := by decide +kernel
theorem dX12_isProof_48 : decode cX12_isProof 48 = .ok (.if_icmp .eq 9, 3) := by decide +kernel
theorem dX12_isProof_51 : decode cX12_isProof 51 = .ok (.aload_n 0, 1) := by decide +kernel
theorem dX12_isProof_52 : decode cX12_isProof 52 = .ok (.iload 4, 2) := by decide +kernel
theorem dX12_isProof_54 : decode cX12_isProof 54 = .ok (.putfield 472, 3) := by decide +kernel
theorem dX12_isProof_57 : decode cX12_isProof 57 = .ok (.goto (-40), 3) := by decide +kernel
theorem dX12_isProof_60 : decode cX12_isProof 60 = .ok (.iload_n 3, 1) := by decide +kernel
theorem dX12_isProof_61 : decode cX12_isProof 61 = .ok (.iconst 1, 1) := by decide +kernel
theorem dX12_isProof_62 : decode cX12_isProof 62 = .ok (.if_icmp .ne 7, 3) := by decide +kernel
theorem dX12_isProof_65 : decode cX12_isProof 65 = .ok (.iconst 1, 1) := by decide +kernel
theorem dX12_isProof_66 : decode cX12_isProof 66 = .ok (.goto 4, 3) := by decide +kernel
theorem dX12_isProof_69 : decode cX12_isProof 69 = .ok (.iconst 0, 1) := by decide +kernel
theorem dX12_isProof_70 : decode cX12_isProof 70 = .ok (.ireturn, 1) := by decide +kernel
theorem dX12_isFormula_0 : decode cX12_isFormula 0 = .ok (.iload_n 1, 1) := by decide +kernel
theorem dX12_isFormula_1 : decode cX12_isFormula 1 = .ok (.ifCond .lt 15, 3) := by decide +kernel
theorem dX12_isFormula_4 : decode cX12_isFormula 4 = .ok (.iload_n 1, 1) := by decide +kernel
theorem dX12_isFormula_5 : decode cX12_isFormula 5 = .ok (.aload_n 0, 1) := by decide +kernel
theorem dX12_isFormula_6 : decode cX12_isFormula 6 = .ok (.getfield 204, 3) := by decide +kernel
theorem dX12_isFormula_9 : decode cX12_isFormula 9 = .ok (.if_icmp .ge 7, 3) := by decide +kernel
theorem dX12_isFormula_12 : decode cX12_isFormula 12 = .ok (.iconst 1, 1) := by decide +kernel
theorem dX12_isFormula_13 : decode cX12_isFormula 13 = .ok (.goto 4, 3) := by decide +kernel
theorem dX12_isFormula_16 : decode cX12_isFormula 16 = .ok (.iconst 0, 1) := by decide +kernel
theorem dX12_isFormula_17 : decode cX12_isFormula 17 = .ok (.ireturn, 1) := by decide +kernel
theorem dX12_need_0 : decode cX12_need 0 = .ok (.iconst 0, 1) := by decide +kernel
theorem dX12_need_1 : decode cX12_need 1 = .ok (.istore_n 2, 1) := by decide +kernel
theorem dX12_need_2 : decode cX12_need 2 = .ok (.iload_n 2, 1) := by decide +kernel
theorem dX12_need_3 : decode cX12_need 3 = .ok (.aload_n 0, 1) := by decide +kernel
theorem dX12_need_4 : decode cX12_need 4 = .ok (.getfield 204, 3) := by decide +kernel
theorem dX12_need_7 : decode cX12_need 7 = .ok (.if_icmp .ge 16, 3) := by decide +kernel
theorem dX12_need_10 : decode cX12_need 10 = .ok (.aload_n 0, 1) := by decide +kernel
theorem dX12_need_11 : decode cX12_need 11 = .ok (.getfield 188, 3) := by decide +kernel
theorem dX12_need_14 : decode cX12_need 14 = .ok (.iload_n 2, 1) := by decide +kernel
theorem dX12_need_15 : decode cX12_need 15 = .ok (.iconst 0, 1) := by decide +kernel
theorem dX12_need_16 : decode cX12_need 16 = .ok (.bastore, 1) := by decide +kernel
theorem dX12_need_17 : decode cX12_need 17 = .ok (.iinc 2 1, 3) := by decide +kernel
theorem dX12_need_20 : decode cX12_need 20 = .ok (.goto (-18), 3) := by decide +kernel
theorem dX12_need_23 : decode cX12_need 23 = .ok (.aload_n 0, 1) := by decide +kernel
theorem dX12_need_24 : decode cX12_need 24 = .ok (.getfield 188, 3) := by decide +kernel
theorem dX12_need_27 : decode cX12_need 27 = .ok (.iload_n 1, 1) := by decide +kernel
theorem dX12_need_28 : decode cX12_need 28 = .ok (.iconst 1, 1) := by decide +kernel
theorem dX12_need_29 : decode cX12_need 29 = .ok (.bastore, 1) := by decide +kernel
theorem dX12_need_30 : decode cX12_need 30 = .ok (.iload_n 1, 1) := by decide +kernel
theorem dX12_need_31 : decode cX12_need 31 = .ok (.istore_n 2, 1) := by decide +kernel
theorem dX12_need_32 : decode cX12_need 32 = .ok (.iload_n 2, 1) := by decide +kernel
theorem dX12_need_33 : decode cX12_need 33 = .ok (.iconst 1, 1) := by decide +kernel
theorem dX12_need_34 : decode cX12_need 34 = .ok (.if_icmp .le 52, 3) := by decide +kernel
theorem dX12_need_37 : decode cX12_need 37 = .ok (.aload_n 0, 1) := by decide +kernel
theorem dX12_need_38 : decode cX12_need 38 = .ok (.getfield 188, 3) := by decide +kernel
theorem dX12_need_41 : decode cX12_need 41 = .ok (.iload_n 2, 1) := by decide +kernel
theorem dX12_need_42 : decode cX12_need 42 = .ok (.baload, 1) := by decide +kernel
theorem dX12_need_43 : decode cX12_need 43 = .ok (.ifCond .eq 37, 3) := by decide +kernel
theorem dX12_need_46 : decode cX12_need 46 = .ok (.aload_n 0, 1) := by decide +kernel
theorem dX12_need_47 : decode cX12_need 47 = .ok (.getfield 7, 3) := by decide +kernel
theorem dX12_need_50 : decode cX12_need 50 = .ok (.iload_n 2, 1) := by decide +kernel
theorem dX12_need_51 : decode cX12_need 51 = .ok (.iaload, 1) := by decide +kernel
theorem dX12_need_52 : decode cX12_need 52 = .ok (.iconst 3, 1) := by decide +kernel
theorem dX12_need_53 : decode cX12_need 53 = .ok (.if_icmp .lt 27, 3) := by decide +kernel
theorem dX12_need_56 : decode cX12_need 56 = .ok (.aload_n 0, 1) := by decide +kernel
theorem dX12_need_57 : decode cX12_need 57 = .ok (.getfield 188, 3) := by decide +kernel
theorem dX12_need_60 : decode cX12_need 60 = .ok (.aload_n 0, 1) := by decide +kernel
theorem dX12_need_61 : decode cX12_need 61 = .ok (.getfield 13, 3) := by decide +kernel
theorem dX12_need_64 : decode cX12_need 64 = .ok (.iload_n 2, 1) := by decide +kernel
theorem dX12_need_65 : decode cX12_need 65 = .ok (.iaload, 1) := by decide +kernel
theorem dX12_need_66 : decode cX12_need 66 = .ok (.iconst 1, 1) := by decide +kernel
theorem dX12_need_67 : decode cX12_need 67 = .ok (.bastore, 1) := by decide +kernel
theorem dX12_need_68 : decode cX12_need 68 = .ok (.aload_n 0, 1) := by decide +kernel
theorem dX12_need_69 : decode cX12_need 69 = .ok (.getfield 188, 3) := by decide +kernel
theorem dX12_need_72 : decode cX12_need 72 = .ok (.aload_n 0, 1) := by decide +kernel
theorem dX12_need_73 : decode cX12_need 73 = .ok (.getfield 16, 3) := by decide +kernel
theorem dX12_need_76 : decode cX12_need 76 = .ok (.iload_n 2, 1) := by decide +kernel
theorem dX12_need_77 : decode cX12_need 77 = .ok (.iaload, 1) := by decide +kernel
theorem dX12_need_78 : decode cX12_need 78 = .ok (.iconst 1, 1) := by decide +kernel
theorem dX12_need_79 : decode cX12_need 79 = .ok (.bastore, 1) := by decide +kernel
theorem dX12_need_80 : decode cX12_need 80 = .ok (.iinc 2 (-1), 3) := by decide +kernel
theorem dX12_need_83 : decode cX12_need 83 = .ok (.goto (-51), 3) := by decide +kernel
theorem dX12_need_86 : decode cX12_need 86 = .ok (.return_, 1) := by decide +kernel
theorem dX12_leadsIn_0 : decode cX12_leadsIn 0 = .ok (.lconst 0, 1) := by decide +kernel
theorem dX12_leadsIn_1 : decode cX12_leadsIn 1 = .ok (.lstore 5, 2) := by decide +kernel
theorem dX12_leadsIn_3 : decode cX12_leadsIn 3 = .ok (.lconst 0, 1) := by decide +kernel
theorem dX12_leadsIn_4 : decode cX12_leadsIn 4 = .ok (.lstore 7, 2) := by decide +kernel
theorem dX12_leadsIn_6 : decode cX12_leadsIn 6 = .ok (.aload_n 0, 1) := by decide +kernel
theorem dX12_leadsIn_7 : decode cX12_leadsIn 7 = .ok (.getfield 207, 3) := by decide +kernel
theorem dX12_leadsIn_10 : decode cX12_leadsIn 10 = .ok (.iconst 1, 1) := by decide +kernel
theorem dX12_leadsIn_11 : decode cX12_leadsIn 11 = .ok (.isub, 1) := by decide +kernel
theorem dX12_leadsIn_12 : decode cX12_leadsIn 12 = .ok (.istore 9, 2) := by decide +kernel
theorem dX12_leadsIn_14 : decode cX12_leadsIn 14 = .ok (.iload 9, 2) := by decide +kernel
theorem dX12_leadsIn_16 : decode cX12_leadsIn 16 = .ok (.ifCond .lt 86, 3) := by decide +kernel
theorem dX12_leadsIn_19 : decode cX12_leadsIn 19 = .ok (.lload_n 1, 1) := by decide +kernel
theorem dX12_leadsIn_20 : decode cX12_leadsIn 20 = .ok (.iload 9, 2) := by decide +kernel
theorem dX12_leadsIn_22 : decode cX12_leadsIn 22 = .ok (.lshr, 1) := by decide +kernel
theorem dX12_leadsIn_23 : decode cX12_leadsIn 23 = .ok (.lconst 1, 1) := by decide +kernel
theorem dX12_leadsIn_24 : decode cX12_leadsIn 24 = .ok (.land, 1) := by decide +kernel
theorem dX12_leadsIn_25 : decode cX12_leadsIn 25 = .ok (.lconst 0, 1) := by decide +kernel
theorem dX12_leadsIn_26 : decode cX12_leadsIn 26 = .ok (.lcmp, 1) := by decide +kernel
theorem dX12_leadsIn_27 : decode cX12_leadsIn 27 = .ok (.ifCond .eq 14, 3) := by decide +kernel
theorem dX12_leadsIn_30 : decode cX12_leadsIn 30 = .ok (.lload_n 3, 1) := by decide +kernel
theorem dX12_leadsIn_31 : decode cX12_leadsIn 31 = .ok (.iload 9, 2) := by decide +kernel
theorem dX12_leadsIn_33 : decode cX12_leadsIn 33 = .ok (.lshr, 1) := by decide +kernel
theorem dX12_leadsIn_34 : decode cX12_leadsIn 34 = .ok (.lconst 1, 1) := by decide +kernel
theorem dX12_leadsIn_35 : decode cX12_leadsIn 35 = .ok (.land, 1) := by decide +kernel
theorem dX12_leadsIn_36 : decode cX12_leadsIn 36 = .ok (.lconst 1, 1) := by decide +kernel
theorem dX12_leadsIn_37 : decode cX12_leadsIn 37 = .ok (.lcmp, 1) := by decide +kernel
theorem dX12_leadsIn_38 : decode cX12_leadsIn 38 = .ok (.ifCond .ne 7, 3) := by decide +kernel
theorem dX12_leadsIn_41 : decode cX12_leadsIn 41 = .ok (.iconst 1, 1) := by decide +kernel
theorem dX12_leadsIn_42 : decode cX12_leadsIn 42 = .ok (.goto 4, 3) := by decide +kernel
theorem dX12_leadsIn_45 : decode cX12_leadsIn 45 = .ok (.iconst 0, 1) := by decide +kernel
theorem dX12_leadsIn_46 : decode cX12_leadsIn 46 = .ok (.istore 10, 2) := by decide +kernel
theorem dX12_leadsIn_48 : decode cX12_leadsIn 48 = .ok (.iload 10, 2) := by decide +kernel
theorem dX12_leadsIn_50 : decode cX12_leadsIn 50 = .ok (.ifCond .eq 27, 3) := by decide +kernel
theorem dX12_leadsIn_53 : decode cX12_leadsIn 53 = .ok (.lload 7, 2) := by decide +kernel
theorem dX12_leadsIn_55 : decode cX12_leadsIn 55 = .ok (.iload 9, 2) := by decide +kernel
theorem dX12_leadsIn_57 : decode cX12_leadsIn 57 = .ok (.lshr, 1) := by decide +kernel
theorem dX12_leadsIn_58 : decode cX12_leadsIn 58 = .ok (.lconst 1, 1) := by decide +kernel
theorem dX12_leadsIn_59 : decode cX12_leadsIn 59 = .ok (.land, 1) := by decide +kernel
theorem dX12_leadsIn_60 : decode cX12_leadsIn 60 = .ok (.lconst 0, 1) := by decide +kernel
theorem dX12_leadsIn_61 : decode cX12_leadsIn 61 = .ok (.lcmp, 1) := by decide +kernel
theorem dX12_leadsIn_62 : decode cX12_leadsIn 62 = .ok (.ifCond .ne 15, 3) := by decide +kernel
theorem dX12_leadsIn_65 : decode cX12_leadsIn 65 = .ok (.lload 5, 2) := by decide +kernel
theorem dX12_leadsIn_67 : decode cX12_leadsIn 67 = .ok (.lconst 1, 1) := by decide +kernel
theorem dX12_leadsIn_68 : decode cX12_leadsIn 68 = .ok (.iload 9, 2) := by decide +kernel
theorem dX12_leadsIn_70 : decode cX12_leadsIn 70 = .ok (.lshl, 1) := by decide +kernel
theorem dX12_leadsIn_71 : decode cX12_leadsIn 71 = .ok (.lor, 1) := by decide +kernel
theorem dX12_leadsIn_72 : decode cX12_leadsIn 72 = .ok (.lstore 5, 2) := by decide +kernel
theorem dX12_leadsIn_74 : decode cX12_leadsIn 74 = .ok (.goto 22, 3) := by decide +kernel
theorem dX12_leadsIn_77 : decode cX12_leadsIn 77 = .ok (.iload 9, 2) := by decide +kernel
theorem dX12_leadsIn_79 : decode cX12_leadsIn 79 = .ok (.ifCond .le 17, 3) := by decide +kernel
theorem dX12_leadsIn_82 : decode cX12_leadsIn 82 = .ok (.lload 7, 2) := by decide +kernel
theorem dX12_leadsIn_84 : decode cX12_leadsIn 84 = .ok (.lconst 1, 1) := by decide +kernel
theorem dX12_leadsIn_85 : decode cX12_leadsIn 85 = .ok (.aload_n 0, 1) := by decide +kernel
theorem dX12_leadsIn_86 : decode cX12_leadsIn 86 = .ok (.getfield 178, 3) := by decide +kernel
theorem dX12_leadsIn_89 : decode cX12_leadsIn 89 = .ok (.iload 9, 2) := by decide +kernel
theorem dX12_leadsIn_91 : decode cX12_leadsIn 91 = .ok (.iaload, 1) := by decide +kernel
theorem dX12_leadsIn_92 : decode cX12_leadsIn 92 = .ok (.lshl, 1) := by decide +kernel
theorem dX12_leadsIn_93 : decode cX12_leadsIn 93 = .ok (.lor, 1) := by decide +kernel
theorem dX12_leadsIn_94 : decode cX12_leadsIn 94 = .ok (.lstore 7, 2) := by decide +kernel
theorem dX12_leadsIn_96 : decode cX12_leadsIn 96 = .ok (.iinc 9 (-1), 3) := by decide +kernel
theorem dX12_leadsIn_99 : decode cX12_leadsIn 99 = .ok (.goto (-85), 3) := by decide +kernel
theorem dX12_leadsIn_102 : decode cX12_leadsIn 102 = .ok (.lload 5, 2) := by decide +kernel
theorem dX12_leadsIn_104 : decode cX12_leadsIn 104 = .ok (.lreturn, 1) := by decide +kernel
theorem dX12_holds_0 : decode cX12_holds 0 = .ok (.iload_n 1, 1) := by decide +kernel
theorem dX12_holds_1 : decode cX12_holds 1 = .ok (.ifCond .lt 19, 3) := by decide +kernel
theorem dX12_holds_4 : decode cX12_holds 4 = .ok (.iload_n 1, 1) := by decide +kernel
theorem dX12_holds_5 : decode cX12_holds 5 = .ok (.aload_n 0, 1) := by decide +kernel
theorem dX12_holds_6 : decode cX12_holds 6 = .ok (.getfield 207, 3) := by decide +kernel
theorem dX12_holds_9 : decode cX12_holds 9 = .ok (.if_icmp .ge 11, 3) := by decide +kernel
theorem dX12_holds_12 : decode cX12_holds 12 = .ok (.aload_n 0, 1) := by decide +kernel
theorem dX12_holds_13 : decode cX12_holds 13 = .ok (.iload_n 2, 1) := by decide +kernel
theorem dX12_holds_14 : decode cX12_holds 14 = .ok (.invokevirtual 490, 3) := by decide +kernel
theorem dX12_holds_17 : decode cX12_holds 17 = .ok (.ifCond .ne 5, 3) := by decide +kernel
theorem dX12_holds_20 : decode cX12_holds 20 = .ok (.iconst (-1), 1) := by decide +kernel
theorem dX12_holds_21 : decode cX12_holds 21 = .ok (.ireturn, 1) := by decide +kernel
theorem dX12_holds_22 : decode cX12_holds 22 = .ok (.aload_n 0, 1) := by decide +kernel
theorem dX12_holds_23 : decode cX12_holds 23 = .ok (.iload_n 2, 1) := by decide +kernel
theorem dX12_holds_24 : decode cX12_holds 24 = .ok (.invokevirtual 493, 3) := by decide +kernel
theorem dX12_holds_27 : decode cX12_holds 27 = .ok (.iconst 0, 1) := by decide +kernel
theorem dX12_holds_28 : decode cX12_holds 28 = .ok (.istore_n 3, 1) := by decide +kernel
theorem dX12_holds_29 : decode cX12_holds 29 = .ok (.iload_n 3, 1) := by decide +kernel
theorem dX12_holds_30 : decode cX12_holds 30 = .ok (.iload_n 2, 1) := by decide +kernel
theorem dX12_holds_31 : decode cX12_holds 31 = .ok (.if_icmp .gt 217, 3) := by decide +kernel
theorem dX12_holds_34 : decode cX12_holds 34 = .ok (.aload_n 0, 1) := by decide +kernel
theorem dX12_holds_35 : decode cX12_holds 35 = .ok (.getfield 188, 3) := by decide +kernel
theorem dX12_holds_38 : decode cX12_holds 38 = .ok (.iload_n 3, 1) := by decide +kernel
theorem dX12_holds_39 : decode cX12_holds 39 = .ok (.baload, 1) := by decide +kernel
theorem dX12_holds_40 : decode cX12_holds 40 = .ok (.ifCond .eq 202, 3) := by decide +kernel
theorem dX12_holds_43 : decode cX12_holds 43 = .ok (.lconst 0, 1) := by decide +kernel
theorem dX12_holds_44 : decode cX12_holds 44 = .ok (.lstore 4, 2) := by decide +kernel
theorem dX12_holds_46 : decode cX12_holds 46 = .ok (.aload_n 0, 1) := by decide +kernel
theorem dX12_holds_47 : decode cX12_holds 47 = .ok (.getfield 7, 3) := by decide +kernel
theorem dX12_holds_50 : decode cX12_holds 50 = .ok (.iload_n 3, 1) := by decide +kernel
theorem dX12_holds_51 : decode cX12_holds 51 = .ok (.iaload, 1) := by decide +kernel
theorem dX12_holds_52 : decode cX12_holds 52 = .ok (.iconst 1, 1) := by decide +kernel
theorem dX12_holds_53 : decode cX12_holds 53 = .ok (.if_icmp .ne 11, 3) := by decide +kernel
theorem dX12_holds_56 : decode cX12_holds 56 = .ok (.ldc2_w 496, 3) := by decide +kernel
theorem dX12_holds_59 : decode cX12_holds 59 = .ok (.lstore 4, 2) := by decide +kernel
theorem dX12_holds_61 : decode cX12_holds 61 = .ok (.goto 173, 3) := by decide +kernel
theorem dX12_holds_64 : decode cX12_holds 64 = .ok (.aload_n 0, 1) := by decide +kernel
theorem dX12_holds_65 : decode cX12_holds 65 = .ok (.getfield 7, 3) := by decide +kernel
theorem dX12_holds_68 : decode cX12_holds 68 = .ok (.iload_n 3, 1) := by decide +kernel
theorem dX12_holds_69 : decode cX12_holds 69 = .ok (.iaload, 1) := by decide +kernel
theorem dX12_holds_70 : decode cX12_holds 70 = .ok (.iconst 2, 1) := by decide +kernel
theorem dX12_holds_71 : decode cX12_holds 71 = .ok (.if_icmp .ne 49, 3) := by decide +kernel
theorem dX12_holds_74 : decode cX12_holds 74 = .ok (.iconst 0, 1) := by decide +kernel
theorem dX12_holds_75 : decode cX12_holds 75 = .ok (.istore 6, 2) := by decide +kernel
theorem dX12_holds_77 : decode cX12_holds 77 = .ok (.iload 6, 2) := by decide +kernel
theorem dX12_holds_79 : decode cX12_holds 79 = .ok (.aload_n 0, 1) := by decide +kernel
theorem dX12_holds_80 : decode cX12_holds 80 = .ok (.getfield 207, 3) := by decide +kernel
theorem dX12_holds_83 : decode cX12_holds 83 = .ok (.if_icmp .ge 34, 3) := by decide +kernel
theorem dX12_holds_86 : decode cX12_holds 86 = .ok (.lload 4, 2) := by decide +kernel
theorem dX12_holds_88 : decode cX12_holds 88 = .ok (.aload_n 0, 1) := by decide +kernel
theorem dX12_holds_89 : decode cX12_holds 89 = .ok (.getfield 181, 3) := by decide +kernel
theorem dX12_holds_92 : decode cX12_holds 92 = .ok (.iload 6, 2) := by decide +kernel
theorem dX12_holds_94 : decode cX12_holds 94 = .ok (.iaload, 1) := by decide +kernel
theorem dX12_holds_95 : decode cX12_holds 95 = .ok (.aload_n 0, 1) := by decide +kernel
theorem dX12_holds_96 : decode cX12_holds 96 = .ok (.getfield 13, 3) := by decide +kernel
theorem dX12_holds_99 : decode cX12_holds 99 = .ok (.iload_n 3, 1) := by decide +kernel
theorem dX12_holds_100 : decode cX12_holds 100 = .ok (.iaload, 1) := by decide +kernel
theorem dX12_holds_101 : decode cX12_holds 101 = .ok (.ishr, 1) := by decide +kernel
theorem dX12_holds_102 : decode cX12_holds 102 = .ok (.i2l, 1) := by decide +kernel
theorem dX12_holds_103 : decode cX12_holds 103 = .ok (.lconst 1, 1) := by decide +kernel
theorem dX12_holds_104 : decode cX12_holds 104 = .ok (.land, 1) := by decide +kernel
theorem dX12_holds_105 : decode cX12_holds 105 = .ok (.iload 6, 2) := by decide +kernel
theorem dX12_holds_107 : decode cX12_holds 107 = .ok (.lshl, 1) := by decide +kernel
theorem dX12_holds_108 : decode cX12_holds 108 = .ok (.lor, 1) := by decide +kernel
theorem dX12_holds_109 : decode cX12_holds 109 = .ok (.lstore 4, 2) := by decide +kernel
theorem dX12_holds_111 : decode cX12_holds 111 = .ok (.iinc 6 1, 3) := by decide +kernel
theorem dX12_holds_114 : decode cX12_holds 114 = .ok (.goto (-37), 3) := by decide +kernel
theorem dX12_holds_117 : decode cX12_holds 117 = .ok (.goto 117, 3) := by decide +kernel
theorem dX12_holds_120 : decode cX12_holds 120 = .ok (.aload_n 0, 1) := by decide +kernel
theorem dX12_holds_121 : decode cX12_holds 121 = .ok (.getfield 7, 3) := by decide +kernel
theorem dX12_holds_124 : decode cX12_holds 124 = .ok (.iload_n 3, 1) := by decide +kernel
theorem dX12_holds_125 : decode cX12_holds 125 = .ok (.iaload, 1) := by decide +kernel
theorem dX12_holds_126 : decode cX12_holds 126 = .ok (.iconst 3, 1) := by decide +kernel
theorem dX12_holds_127 : decode cX12_holds 127 = .ok (.if_icmp .ne 31, 3) := by decide +kernel
theorem dX12_holds_130 : decode cX12_holds 130 = .ok (.aload_n 0, 1) := by decide +kernel
theorem dX12_holds_131 : decode cX12_holds 131 = .ok (.getfield 184, 3) := by decide +kernel
theorem dX12_holds_134 : decode cX12_holds 134 = .ok (.aload_n 0, 1) := by decide +kernel
theorem dX12_holds_135 : decode cX12_holds 135 = .ok (.getfield 13, 3) := by decide +kernel
theorem dX12_holds_138 : decode cX12_holds 138 = .ok (.iload_n 3, 1) := by decide +kernel
theorem dX12_holds_139 : decode cX12_holds 139 = .ok (.iaload, 1) := by decide +kernel
theorem dX12_holds_140 : decode cX12_holds 140 = .ok (.laload, 1) := by decide +kernel
theorem dX12_holds_141 : decode cX12_holds 141 = .ok (.aload_n 0, 1) := by decide +kernel
theorem dX12_holds_142 : decode cX12_holds 142 = .ok (.getfield 184, 3) := by decide +kernel
theorem dX12_holds_145 : decode cX12_holds 145 = .ok (.aload_n 0, 1) := by decide +kernel
theorem dX12_holds_146 : decode cX12_holds 146 = .ok (.getfield 16, 3) := by decide +kernel
theorem dX12_holds_149 : decode cX12_holds 149 = .ok (.iload_n 3, 1) := by decide +kernel
theorem dX12_holds_150 : decode cX12_holds 150 = .ok (.iaload, 1) := by decide +kernel
theorem dX12_holds_151 : decode cX12_holds 151 = .ok (.laload, 1) := by decide +kernel
theorem dX12_holds_152 : decode cX12_holds 152 = .ok (.land, 1) := by decide +kernel
theorem dX12_holds_153 : decode cX12_holds 153 = .ok (.lstore 4, 2) := by decide +kernel
theorem dX12_holds_155 : decode cX12_holds 155 = .ok (.goto 79, 3) := by decide +kernel
theorem dX12_holds_158 : decode cX12_holds 158 = .ok (.aload_n 0, 1) := by decide +kernel
theorem dX12_holds_159 : decode cX12_holds 159 = .ok (.getfield 7, 3) := by decide +kernel
theorem dX12_holds_162 : decode cX12_holds 162 = .ok (.iload_n 3, 1) := by decide +kernel
theorem dX12_holds_163 : decode cX12_holds 163 = .ok (.iaload, 1) := by decide +kernel
theorem dX12_holds_164 : decode cX12_holds 164 = .ok (.iconst 4, 1) := by decide +kernel
theorem dX12_holds_165 : decode cX12_holds 165 = .ok (.if_icmp .ne 31, 3) := by decide +kernel
theorem dX12_holds_168 : decode cX12_holds 168 = .ok (.aload_n 0, 1) := by decide +kernel
theorem dX12_holds_169 : decode cX12_holds 169 = .ok (.getfield 184, 3) := by decide +kernel
theorem dX12_holds_172 : decode cX12_holds 172 = .ok (.aload_n 0, 1) := by decide +kernel
theorem dX12_holds_173 : decode cX12_holds 173 = .ok (.getfield 13, 3) := by decide +kernel
theorem dX12_holds_176 : decode cX12_holds 176 = .ok (.iload_n 3, 1) := by decide +kernel
theorem dX12_holds_177 : decode cX12_holds 177 = .ok (.iaload, 1) := by decide +kernel
theorem dX12_holds_178 : decode cX12_holds 178 = .ok (.laload, 1) := by decide +kernel
theorem dX12_holds_179 : decode cX12_holds 179 = .ok (.aload_n 0, 1) := by decide +kernel
theorem dX12_holds_180 : decode cX12_holds 180 = .ok (.getfield 184, 3) := by decide +kernel
theorem dX12_holds_183 : decode cX12_holds 183 = .ok (.aload_n 0, 1) := by decide +kernel
theorem dX12_holds_184 : decode cX12_holds 184 = .ok (.getfield 16, 3) := by decide +kernel
theorem dX12_holds_187 : decode cX12_holds 187 = .ok (.iload_n 3, 1) := by decide +kernel
theorem dX12_holds_188 : decode cX12_holds 188 = .ok (.iaload, 1) := by decide +kernel
theorem dX12_holds_189 : decode cX12_holds 189 = .ok (.laload, 1) := by decide +kernel
theorem dX12_holds_190 : decode cX12_holds 190 = .ok (.lor, 1) := by decide +kernel
theorem dX12_holds_191 : decode cX12_holds 191 = .ok (.lstore 4, 2) := by decide +kernel
theorem dX12_holds_193 : decode cX12_holds 193 = .ok (.goto 41, 3) := by decide +kernel
theorem dX12_holds_196 : decode cX12_holds 196 = .ok (.aload_n 0, 1) := by decide +kernel
theorem dX12_holds_197 : decode cX12_holds 197 = .ok (.getfield 7, 3) := by decide +kernel
theorem dX12_holds_200 : decode cX12_holds 200 = .ok (.iload_n 3, 1) := by decide +kernel
theorem dX12_holds_201 : decode cX12_holds 201 = .ok (.iaload, 1) := by decide +kernel
theorem dX12_holds_202 : decode cX12_holds 202 = .ok (.iconst 5, 1) := by decide +kernel
theorem dX12_holds_203 : decode cX12_holds 203 = .ok (.if_icmp .ne 31, 3) := by decide +kernel
theorem dX12_holds_206 : decode cX12_holds 206 = .ok (.aload_n 0, 1) := by decide +kernel
theorem dX12_holds_207 : decode cX12_holds 207 = .ok (.aload_n 0, 1) := by decide +kernel
theorem dX12_holds_208 : decode cX12_holds 208 = .ok (.getfield 184, 3) := by decide +kernel
theorem dX12_holds_211 : decode cX12_holds 211 = .ok (.aload_n 0, 1) := by decide +kernel
theorem dX12_holds_212 : decode cX12_holds 212 = .ok (.getfield 13, 3) := by decide +kernel
theorem dX12_holds_215 : decode cX12_holds 215 = .ok (.iload_n 3, 1) := by decide +kernel
theorem dX12_holds_216 : decode cX12_holds 216 = .ok (.iaload, 1) := by decide +kernel
theorem dX12_holds_217 : decode cX12_holds 217 = .ok (.laload, 1) := by decide +kernel
theorem dX12_holds_218 : decode cX12_holds 218 = .ok (.aload_n 0, 1) := by decide +kernel
theorem dX12_holds_219 : decode cX12_holds 219 = .ok (.getfield 184, 3) := by decide +kernel
theorem dX12_holds_222 : decode cX12_holds 222 = .ok (.aload_n 0, 1) := by decide +kernel
theorem dX12_holds_223 : decode cX12_holds 223 = .ok (.getfield 16, 3) := by decide +kernel
theorem dX12_holds_226 : decode cX12_holds 226 = .ok (.iload_n 3, 1) := by decide +kernel
theorem dX12_holds_227 : decode cX12_holds 227 = .ok (.iaload, 1) := by decide +kernel
theorem dX12_holds_228 : decode cX12_holds 228 = .ok (.laload, 1) := by decide +kernel
theorem dX12_holds_229 : decode cX12_holds 229 = .ok (.invokevirtual 498, 3) := by decide +kernel
theorem dX12_holds_232 : decode cX12_holds 232 = .ok (.lstore 4, 2) := by decide +kernel
theorem dX12_holds_234 : decode cX12_holds 234 = .ok (.aload_n 0, 1) := by decide +kernel
theorem dX12_holds_235 : decode cX12_holds 235 = .ok (.getfield 184, 3) := by decide +kernel
theorem dX12_holds_238 : decode cX12_holds 238 = .ok (.iload_n 3, 1) := by decide +kernel
theorem dX12_holds_239 : decode cX12_holds 239 = .ok (.lload 4, 2) := by decide +kernel
theorem dX12_holds_241 : decode cX12_holds 241 = .ok (.lastore, 1) := by decide +kernel
theorem dX12_holds_242 : decode cX12_holds 242 = .ok (.iinc 3 1, 3) := by decide +kernel
theorem dX12_holds_245 : decode cX12_holds 245 = .ok (.goto (-216), 3) := by decide +kernel
theorem dX12_holds_248 : decode cX12_holds 248 = .ok (.aload_n 0, 1) := by decide +kernel
theorem dX12_holds_249 : decode cX12_holds 249 = .ok (.getfield 184, 3) := by decide +kernel
theorem dX12_holds_252 : decode cX12_holds 252 = .ok (.iload_n 2, 1) := by decide +kernel
theorem dX12_holds_253 : decode cX12_holds 253 = .ok (.laload, 1) := by decide +kernel
theorem dX12_holds_254 : decode cX12_holds 254 = .ok (.iload_n 1, 1) := by decide +kernel
theorem dX12_holds_255 : decode cX12_holds 255 = .ok (.lshr, 1) := by decide +kernel
theorem dX12_holds_256 : decode cX12_holds 256 = .ok (.lconst 1, 1) := by decide +kernel
theorem dX12_holds_257 : decode cX12_holds 257 = .ok (.land, 1) := by decide +kernel
theorem dX12_holds_258 : decode cX12_holds 258 = .ok (.l2i, 1) := by decide +kernel
theorem dX12_holds_259 : decode cX12_holds 259 = .ok (.ireturn, 1) := by decide +kernel
theorem dX12_isOver_0 : decode cX12_isOver 0 = .ok (.iload_n 1, 1) := by decide +kernel
theorem dX12_isOver_1 : decode cX12_isOver 1 = .ok (.istore_n 3, 1) := by decide +kernel
theorem dX12_isOver_2 : decode cX12_isOver 2 = .ok (.iload_n 3, 1) := by decide +kernel
theorem dX12_isOver_3 : decode cX12_isOver 3 = .ok (.iload_n 2, 1) := by decide +kernel
theorem dX12_isOver_4 : decode cX12_isOver 4 = .ok (.if_icmp .le 13, 3) := by decide +kernel
theorem dX12_isOver_7 : decode cX12_isOver 7 = .ok (.aload_n 0, 1) := by decide +kernel
theorem dX12_isOver_8 : decode cX12_isOver 8 = .ok (.getfield 178, 3) := by decide +kernel
theorem dX12_isOver_11 : decode cX12_isOver 11 = .ok (.iload_n 3, 1) := by decide +kernel
theorem dX12_isOver_12 : decode cX12_isOver 12 = .ok (.iaload, 1) := by decide +kernel
theorem dX12_isOver_13 : decode cX12_isOver 13 = .ok (.istore_n 3, 1) := by decide +kernel
theorem dX12_isOver_14 : decode cX12_isOver 14 = .ok (.goto (-12), 3) := by decide +kernel
theorem dX12_isOver_17 : decode cX12_isOver 17 = .ok (.iload_n 3, 1) := by decide +kernel
theorem dX12_isOver_18 : decode cX12_isOver 18 = .ok (.iload_n 2, 1) := by decide +kernel
theorem dX12_isOver_19 : decode cX12_isOver 19 = .ok (.if_icmp .ne 7, 3) := by decide +kernel
theorem dX12_isOver_22 : decode cX12_isOver 22 = .ok (.iconst 1, 1) := by decide +kernel
theorem dX12_isOver_23 : decode cX12_isOver 23 = .ok (.goto 4, 3) := by decide +kernel
theorem dX12_isOver_26 : decode cX12_isOver 26 = .ok (.iconst 0, 1) := by decide +kernel
theorem dX12_isOver_27 : decode cX12_isOver 27 = .ok (.ireturn, 1) := by decide +kernel
theorem dX12_clear_0 : decode cX12_clear 0 = .ok (.aload_n 0, 1) := by decide +kernel
theorem dX12_clear_1 : decode cX12_clear 1 = .ok (.getfield 207, 3) := by decide +kernel
theorem dX12_clear_4 : decode cX12_clear 4 = .ok (.istore_n 1, 1) := by decide +kernel
theorem dX12_clear_5 : decode cX12_clear 5 = .ok (.aload_n 0, 1) := by decide +kernel
theorem dX12_clear_6 : decode cX12_clear 6 = .ok (.iconst 1, 1) := by decide +kernel
theorem dX12_clear_7 : decode cX12_clear 7 = .ok (.putfield 207, 3) := by decide +kernel
theorem dX12_clear_10 : decode cX12_clear 10 = .ok (.aload_n 0, 1) := by decide +kernel
theorem dX12_clear_11 : decode cX12_clear 11 = .ok (.getfield 178, 3) := by decide +kernel
theorem dX12_clear_14 : decode cX12_clear 14 = .ok (.iconst 0, 1) := by decide +kernel
theorem dX12_clear_15 : decode cX12_clear 15 = .ok (.iconst (-1), 1) := by decide +kernel
theorem dX12_clear_16 : decode cX12_clear 16 = .ok (.iastore, 1) := by decide +kernel
theorem dX12_clear_17 : decode cX12_clear 17 = .ok (.aload_n 0, 1) := by decide +kernel
theorem dX12_clear_18 : decode cX12_clear 18 = .ok (.getfield 181, 3) := by decide +kernel
theorem dX12_clear_21 : decode cX12_clear 21 = .ok (.iconst 0, 1) := by decide +kernel
theorem dX12_clear_22 : decode cX12_clear 22 = .ok (.iconst 0, 1) := by decide +kernel
theorem dX12_clear_23 : decode cX12_clear 23 = .ok (.iastore, 1) := by decide +kernel
theorem dX12_clear_24 : decode cX12_clear 24 = .ok (.iload_n 1, 1) := by decide +kernel
theorem dX12_clear_25 : decode cX12_clear 25 = .ok (.ireturn, 1) := by decide +kernel
theorem dX12_world_0 : decode cX12_world 0 = .ok (.iload_n 1, 1) := by decide +kernel
theorem dX12_world_1 : decode cX12_world 1 = .ok (.ifCond .lt 11, 3) := by decide +kernel
theorem dX12_world_4 : decode cX12_world 4 = .ok (.iload_n 1, 1) := by decide +kernel
theorem dX12_world_5 : decode cX12_world 5 = .ok (.aload_n 0, 1) := by decide +kernel
theorem dX12_world_6 : decode cX12_world 6 = .ok (.getfield 207, 3) := by decide +kernel
theorem dX12_world_9 : decode cX12_world 9 = .ok (.if_icmp .lt 5, 3) := by decide +kernel
theorem dX12_world_12 : decode cX12_world 12 = .ok (.iconst (-1), 1) := by decide +kernel
theorem dX12_world_13 : decode cX12_world 13 = .ok (.ireturn, 1) := by decide +kernel
theorem dX12_world_14 : decode cX12_world 14 = .ok (.aload_n 0, 1) := by decide +kernel
theorem dX12_world_15 : decode cX12_world 15 = .ok (.getfield 207, 3) := by decide +kernel
theorem dX12_world_18 : decode cX12_world 18 = .ok (.bipush 60, 2) := by decide +kernel
theorem dX12_world_20 : decode cX12_world 20 = .ok (.if_icmp .ne 6, 3) := by decide +kernel
theorem dX12_world_23 : decode cX12_world 23 = .ok (.bipush (-4), 2) := by decide +kernel
theorem dX12_world_25 : decode cX12_world 25 = .ok (.ireturn, 1) := by decide +kernel
theorem dX12_world_26 : decode cX12_world 26 = .ok (.aload_n 0, 1) := by decide +kernel
theorem dX12_world_27 : decode cX12_world 27 = .ok (.getfield 178, 3) := by decide +kernel
theorem dX12_world_30 : decode cX12_world 30 = .ok (.aload_n 0, 1) := by decide +kernel
theorem dX12_world_31 : decode cX12_world 31 = .ok (.getfield 207, 3) := by decide +kernel
theorem dX12_world_34 : decode cX12_world 34 = .ok (.iload_n 1, 1) := by decide +kernel
theorem dX12_world_35 : decode cX12_world 35 = .ok (.iastore, 1) := by decide +kernel
theorem dX12_world_36 : decode cX12_world 36 = .ok (.aload_n 0, 1) := by decide +kernel
theorem dX12_world_37 : decode cX12_world 37 = .ok (.getfield 181, 3) := by decide +kernel
theorem dX12_world_40 : decode cX12_world 40 = .ok (.aload_n 0, 1) := by decide +kernel
theorem dX12_world_41 : decode cX12_world 41 = .ok (.getfield 207, 3) := by decide +kernel
theorem dX12_world_44 : decode cX12_world 44 = .ok (.aload_n 0, 1) := by decide +kernel
theorem dX12_world_45 : decode cX12_world 45 = .ok (.getfield 181, 3) := by decide +kernel
theorem dX12_world_48 : decode cX12_world 48 = .ok (.iload_n 1, 1) := by decide +kernel
theorem dX12_world_49 : decode cX12_world 49 = .ok (.iaload, 1) := by decide +kernel
theorem dX12_world_50 : decode cX12_world 50 = .ok (.iastore, 1) := by decide +kernel
theorem dX12_world_51 : decode cX12_world 51 = .ok (.aload_n 0, 1) := by decide +kernel
theorem dX12_world_52 : decode cX12_world 52 = .ok (.dup, 1) := by decide +kernel
theorem dX12_world_53 : decode cX12_world 53 = .ok (.getfield 207, 3) := by decide +kernel
theorem dX12_world_56 : decode cX12_world 56 = .ok (.iconst 1, 1) := by decide +kernel
theorem dX12_world_57 : decode cX12_world 57 = .ok (.iadd, 1) := by decide +kernel
theorem dX12_world_58 : decode cX12_world 58 = .ok (.putfield 207, 3) := by decide +kernel
theorem dX12_world_61 : decode cX12_world 61 = .ok (.aload_n 0, 1) := by decide +kernel
theorem dX12_world_62 : decode cX12_world 62 = .ok (.getfield 207, 3) := by decide +kernel
theorem dX12_world_65 : decode cX12_world 65 = .ok (.iconst 1, 1) := by decide +kernel
theorem dX12_world_66 : decode cX12_world 66 = .ok (.isub, 1) := by decide +kernel
theorem dX12_world_67 : decode cX12_world 67 = .ok (.ireturn, 1) := by decide +kernel
theorem dX12_force_0 : decode cX12_force 0 = .ok (.iload_n 1, 1) := by decide +kernel
theorem dX12_force_1 : decode cX12_force 1 = .ok (.ifCond .lt 23, 3) := by decide +kernel
theorem dX12_force_4 : decode cX12_force 4 = .ok (.iload_n 1, 1) := by decide +kernel
theorem dX12_force_5 : decode cX12_force 5 = .ok (.aload_n 0, 1) := by decide +kernel
theorem dX12_force_6 : decode cX12_force 6 = .ok (.getfield 207, 3) := by decide +kernel
theorem dX12_force_9 : decode cX12_force 9 = .ok (.if_icmp .ge 15, 3) := by decide +kernel
theorem dX12_force_12 : decode cX12_force 12 = .ok (.iload_n 2, 1) := by decide +kernel
theorem dX12_force_13 : decode cX12_force 13 = .ok (.ifCond .lt 11, 3) := by decide +kernel
theorem dX12_force_16 : decode cX12_force 16 = .ok (.iload_n 2, 1) := by decide +kernel
theorem dX12_force_17 : decode cX12_force 17 = .ok (.aload_n 0, 1) := by decide +kernel
theorem dX12_force_18 : decode cX12_force 18 = .ok (.getfield 280, 3) := by decide +kernel
theorem dX12_force_21 : decode cX12_force 21 = .ok (.if_icmp .lt 5, 3) := by decide +kernel
theorem dX12_force_24 : decode cX12_force 24 = .ok (.iconst (-1), 1) := by decide +kernel
theorem dX12_force_25 : decode cX12_force 25 = .ok (.ireturn, 1) := by decide +kernel
theorem dX12_force_26 : decode cX12_force 26 = .ok (.iconst 0, 1) := by decide +kernel
theorem dX12_force_27 : decode cX12_force 27 = .ok (.istore_n 3, 1) := by decide +kernel
theorem dX12_force_28 : decode cX12_force 28 = .ok (.iload_n 1, 1) := by decide +kernel
theorem dX12_force_29 : decode cX12_force 29 = .ok (.istore 4, 2) := by decide +kernel
theorem dX12_force_31 : decode cX12_force 31 = .ok (.iload 4, 2) := by decide +kernel
theorem dX12_force_33 : decode cX12_force 33 = .ok (.aload_n 0, 1) := by decide +kernel
theorem dX12_force_34 : decode cX12_force 34 = .ok (.getfield 207, 3) := by decide +kernel
theorem dX12_force_37 : decode cX12_force 37 = .ok (.if_icmp .ge 49, 3) := by decide +kernel
theorem dX12_force_40 : decode cX12_force 40 = .ok (.aload_n 0, 1) := by decide +kernel
theorem dX12_force_41 : decode cX12_force 41 = .ok (.iload 4, 2) := by decide +kernel
theorem dX12_force_43 : decode cX12_force 43 = .ok (.iload_n 1, 1) := by decide +kernel
theorem dX12_force_44 : decode cX12_force 44 = .ok (.invokevirtual 502, 3) := by decide +kernel
theorem dX12_force_47 : decode cX12_force 47 = .ok (.ifCond .eq 33, 3) := by decide +kernel
theorem dX12_force_50 : decode cX12_force 50 = .ok (.aload_n 0, 1) := by decide +kernel
theorem dX12_force_51 : decode cX12_force 51 = .ok (.getfield 181, 3) := by decide +kernel
theorem dX12_force_54 : decode cX12_force 54 = .ok (.iload 4, 2) := by decide +kernel
theorem dX12_force_56 : decode cX12_force 56 = .ok (.iaload, 1) := by decide +kernel
theorem dX12_force_57 : decode cX12_force 57 = .ok (.iload_n 2, 1) := by decide +kernel
theorem dX12_force_58 : decode cX12_force 58 = .ok (.ishr, 1) := by decide +kernel
theorem dX12_force_59 : decode cX12_force 59 = .ok (.iconst 1, 1) := by decide +kernel
theorem dX12_force_60 : decode cX12_force 60 = .ok (.iand, 1) := by decide +kernel
theorem dX12_force_61 : decode cX12_force 61 = .ok (.ifCond .ne 19, 3) := by decide +kernel
theorem dX12_force_64 : decode cX12_force 64 = .ok (.aload_n 0, 1) := by decide +kernel
theorem dX12_force_65 : decode cX12_force 65 = .ok (.getfield 181, 3) := by decide +kernel
theorem dX12_force_68 : decode cX12_force 68 = .ok (.iload 4, 2) := by decide +kernel
theorem dX12_force_70 : decode cX12_force 70 = .ok (.dup2, 1) := by decide +kernel
theorem dX12_force_71 : decode cX12_force 71 = .ok (.iaload, 1) := by decide +kernel
theorem dX12_force_72 : decode cX12_force 72 = .ok (.iconst 1, 1) := by decide +kernel
theorem dX12_force_73 : decode cX12_force 73 = .ok (.iload_n 2, 1) := by decide +kernel
theorem dX12_force_74 : decode cX12_force 74 = .ok (.ishl, 1) := by decide +kernel
theorem dX12_force_75 : decode cX12_force 75 = .ok (.ior, 1) := by decide +kernel
theorem dX12_force_76 : decode cX12_force 76 = .ok (.iastore, 1) := by decide +kernel
theorem dX12_force_77 : decode cX12_force 77 = .ok (.iinc 3 1, 3) := by decide +kernel
theorem dX12_force_80 : decode cX12_force 80 = .ok (.iinc 4 1, 3) := by decide +kernel
theorem dX12_force_83 : decode cX12_force 83 = .ok (.goto (-52), 3) := by decide +kernel
theorem dX12_force_86 : decode cX12_force 86 = .ok (.iload_n 3, 1) := by decide +kernel
theorem dX12_force_87 : decode cX12_force 87 = .ok (.ireturn, 1) := by decide +kernel
theorem dX12_about_0 : decode cX12_about 0 = .ok (.iload_n 1, 1) := by decide +kernel
theorem dX12_about_1 : decode cX12_about 1 = .ok (.ifCond .lt 28, 3) := by decide +kernel
theorem dX12_about_4 : decode cX12_about 4 = .ok (.iload_n 1, 1) := by decide +kernel
theorem dX12_about_5 : decode cX12_about 5 = .ok (.aload_n 0, 1) := by decide +kernel
theorem dX12_about_6 : decode cX12_about 6 = .ok (.getfield 207, 3) := by decide +kernel
theorem dX12_about_9 : decode cX12_about 9 = .ok (.if_icmp .ge 20, 3) := by decide +kernel
theorem dX12_about_12 : decode cX12_about 12 = .ok (.iload_n 2, 1) := by decide +kernel
theorem dX12_about_13 : decode cX12_about 13 = .ok (.iconst 1, 1) := by decide +kernel
theorem dX12_about_14 : decode cX12_about 14 = .ok (.if_icmp .ne 17, 3) := by decide +kernel
theorem dX12_about_17 : decode cX12_about 17 = .ok (.iload_n 3, 1) := by decide +kernel
theorem dX12_about_18 : decode cX12_about 18 = .ok (.ifCond .lt 11, 3) := by decide +kernel
theorem dX12_about_21 : decode cX12_about 21 = .ok (.iload_n 3, 1) := by decide +kernel
theorem dX12_about_22 : decode cX12_about 22 = .ok (.aload_n 0, 1) := by decide +kernel
theorem dX12_about_23 : decode cX12_about 23 = .ok (.getfield 280, 3) := by decide +kernel
theorem dX12_about_26 : decode cX12_about 26 = .ok (.if_icmp .lt 5, 3) := by decide +kernel
theorem dX12_about_29 : decode cX12_about 29 = .ok (.iconst (-1), 1) := by decide +kernel
theorem dX12_about_30 : decode cX12_about 30 = .ok (.ireturn, 1) := by decide +kernel
theorem dX12_about_31 : decode cX12_about 31 = .ok (.iload_n 2, 1) := by decide +kernel
theorem dX12_about_32 : decode cX12_about 32 = .ok (.ifCond .ne 10, 3) := by decide +kernel
theorem dX12_about_35 : decode cX12_about 35 = .ok (.aload_n 0, 1) := by decide +kernel
theorem dX12_about_36 : decode cX12_about 36 = .ok (.getfield 178, 3) := by decide +kernel
theorem dX12_about_39 : decode cX12_about 39 = .ok (.iload_n 1, 1) := by decide +kernel
theorem dX12_about_40 : decode cX12_about 40 = .ok (.iaload, 1) := by decide +kernel
theorem dX12_about_41 : decode cX12_about 41 = .ok (.ireturn, 1) := by decide +kernel
theorem dX12_about_42 : decode cX12_about 42 = .ok (.iload_n 2, 1) := by decide +kernel
theorem dX12_about_43 : decode cX12_about 43 = .ok (.iconst 1, 1) := by decide +kernel
theorem dX12_about_44 : decode cX12_about 44 = .ok (.if_icmp .ne 14, 3) := by decide +kernel
theorem dX12_about_47 : decode cX12_about 47 = .ok (.aload_n 0, 1) := by decide +kernel
theorem dX12_about_48 : decode cX12_about 48 = .ok (.getfield 181, 3) := by decide +kernel
theorem dX12_about_51 : decode cX12_about 51 = .ok (.iload_n 1, 1) := by decide +kernel
theorem dX12_about_52 : decode cX12_about 52 = .ok (.iaload, 1) := by decide +kernel
theorem dX12_about_53 : decode cX12_about 53 = .ok (.iload_n 3, 1) := by decide +kernel
theorem dX12_about_54 : decode cX12_about 54 = .ok (.ishr, 1) := by decide +kernel
theorem dX12_about_55 : decode cX12_about 55 = .ok (.iconst 1, 1) := by decide +kernel
theorem dX12_about_56 : decode cX12_about 56 = .ok (.iand, 1) := by decide +kernel
theorem dX12_about_57 : decode cX12_about 57 = .ok (.ireturn, 1) := by decide +kernel
theorem dX12_about_58 : decode cX12_about 58 = .ok (.iload_n 2, 1) := by decide +kernel
theorem dX12_about_59 : decode cX12_about 59 = .ok (.iconst 2, 1) := by decide +kernel
theorem dX12_about_60 : decode cX12_about 60 = .ok (.if_icmp .eq 6, 3) := by decide +kernel
theorem dX12_about_63 : decode cX12_about 63 = .ok (.bipush (-2), 2) := by decide +kernel
theorem dX12_about_65 : decode cX12_about 65 = .ok (.ireturn, 1) := by decide +kernel
theorem dX12_about_66 : decode cX12_about 66 = .ok (.iconst 0, 1) := by decide +kernel
theorem dX12_about_67 : decode cX12_about 67 = .ok (.istore 4, 2) := by decide +kernel
theorem dX12_about_69 : decode cX12_about 69 = .ok (.iload_n 1, 1) := by decide +kernel
theorem dX12_about_70 : decode cX12_about 70 = .ok (.istore 5, 2) := by decide +kernel
theorem dX12_about_72 : decode cX12_about 72 = .ok (.iload 5, 2) := by decide +kernel
theorem dX12_about_74 : decode cX12_about 74 = .ok (.aload_n 0, 1) := by decide +kernel
theorem dX12_about_75 : decode cX12_about 75 = .ok (.getfield 207, 3) := by decide +kernel
theorem dX12_about_78 : decode cX12_about 78 = .ok (.if_icmp .ge 29, 3) := by decide +kernel
theorem dX12_about_81 : decode cX12_about 81 = .ok (.iload 4, 2) := by decide +kernel
theorem dX12_about_83 : decode cX12_about 83 = .ok (.aload_n 0, 1) := by decide +kernel
theorem dX12_about_84 : decode cX12_about 84 = .ok (.iload 5, 2) := by decide +kernel
theorem dX12_about_86 : decode cX12_about 86 = .ok (.iload_n 1, 1) := by decide +kernel
theorem dX12_about_87 : decode cX12_about 87 = .ok (.invokevirtual 502, 3) := by decide +kernel
theorem dX12_about_90 : decode cX12_about 90 = .ok (.ifCond .eq 7, 3) := by decide +kernel
theorem dX12_about_93 : decode cX12_about 93 = .ok (.iconst 1, 1) := by decide +kernel
theorem dX12_about_94 : decode cX12_about 94 = .ok (.goto 4, 3) := by decide +kernel
theorem dX12_about_97 : decode cX12_about 97 = .ok (.iconst 0, 1) := by decide +kernel
theorem dX12_about_98 : decode cX12_about 98 = .ok (.iadd, 1) := by decide +kernel
theorem dX12_about_99 : decode cX12_about 99 = .ok (.istore 4, 2) := by decide +kernel
theorem dX12_about_101 : decode cX12_about 101 = .ok (.iinc 5 1, 3) := by decide +kernel
theorem dX12_about_104 : decode cX12_about 104 = .ok (.goto (-32), 3) := by decide +kernel
theorem dX12_about_107 : decode cX12_about 107 = .ok (.iload 4, 2) := by decide +kernel
theorem dX12_about_109 : decode cX12_about 109 = .ok (.ireturn, 1) := by decide +kernel
theorem dX12_refute_0 : decode cX12_refute 0 = .ok (.aload_n 0, 1) := by decide +kernel
theorem dX12_refute_1 : decode cX12_refute 1 = .ok (.getfield 103, 3) := by decide +kernel
theorem dX12_refute_4 : decode cX12_refute 4 = .ok (.ifCond .eq 6, 3) := by decide +kernel
theorem dX12_refute_7 : decode cX12_refute 7 = .ok (.bipush (-3), 2) := by decide +kernel
theorem dX12_refute_9 : decode cX12_refute 9 = .ok (.ireturn, 1) := by decide +kernel
theorem dX12_refute_10 : decode cX12_refute 10 = .ok (.iconst 0, 1) := by decide +kernel
theorem dX12_refute_11 : decode cX12_refute 11 = .ok (.istore_n 1, 1) := by decide +kernel
theorem dX12_refute_12 : decode cX12_refute 12 = .ok (.iconst 0, 1) := by decide +kernel
theorem dX12_refute_13 : decode cX12_refute 13 = .ok (.istore_n 2, 1) := by decide +kernel
theorem dX12_refute_14 : decode cX12_refute 14 = .ok (.aload_n 0, 1) := by decide +kernel
theorem dX12_refute_15 : decode cX12_refute 15 = .ok (.getfield 192, 3) := by decide +kernel
theorem dX12_refute_18 : decode cX12_refute 18 = .ok (.iload_n 2, 1) := by decide +kernel
theorem dX12_refute_19 : decode cX12_refute 19 = .ok (.iinc 2 1, 3) := by decide +kernel
theorem dX12_refute_22 : decode cX12_refute 22 = .ok (.aload_n 0, 1) := by decide +kernel
theorem dX12_refute_23 : decode cX12_refute 23 = .ok (.getfield 505, 3) := by decide +kernel
theorem dX12_refute_26 : decode cX12_refute 26 = .ok (.iastore, 1) := by decide +kernel
theorem dX12_refute_27 : decode cX12_refute 27 = .ok (.iload_n 2, 1) := by decide +kernel
theorem dX12_refute_28 : decode cX12_refute 28 = .ok (.ifCond .le 48, 3) := by decide +kernel
theorem dX12_refute_31 : decode cX12_refute 31 = .ok (.iinc 2 (-1), 3) := by decide +kernel
theorem dX12_refute_34 : decode cX12_refute 34 = .ok (.iinc 1 1, 3) := by decide +kernel
theorem dX12_refute_37 : decode cX12_refute 37 = .ok (.aload_n 0, 1) := by decide +kernel
theorem dX12_refute_38 : decode cX12_refute 38 = .ok (.getfield 106, 3) := by decide +kernel
theorem dX12_refute_41 : decode cX12_refute 41 = .ok (.aload_n 0, 1) := by decide +kernel
theorem dX12_refute_42 : decode cX12_refute 42 = .ok (.getfield 192, 3) := by decide +kernel
theorem dX12_refute_45 : decode cX12_refute 45 = .ok (.iload_n 2, 1) := by decide +kernel
theorem dX12_refute_46 : decode cX12_refute 46 = .ok (.iaload, 1) := by decide +kernel
theorem dX12_refute_47 : decode cX12_refute 47 = .ok (.iaload, 1) := by decide +kernel
theorem dX12_refute_48 : decode cX12_refute 48 = .ok (.istore_n 3, 1) := by decide +kernel
theorem dX12_refute_49 : decode cX12_refute 49 = .ok (.iload_n 3, 1) := by decide +kernel
theorem dX12_refute_50 : decode cX12_refute 50 = .ok (.ifCond .lt 23, 3) := by decide +kernel
theorem dX12_refute_53 : decode cX12_refute 53 = .ok (.aload_n 0, 1) := by decide +kernel
theorem dX12_refute_54 : decode cX12_refute 54 = .ok (.getfield 192, 3) := by decide +kernel
theorem dX12_refute_57 : decode cX12_refute 57 = .ok (.iload_n 2, 1) := by decide +kernel
theorem dX12_refute_58 : decode cX12_refute 58 = .ok (.iinc 2 1, 3) := by decide +kernel
theorem dX12_refute_61 : decode cX12_refute 61 = .ok (.iload_n 3, 1) := by decide +kernel
theorem dX12_refute_62 : decode cX12_refute 62 = .ok (.iastore, 1) := by decide +kernel
theorem dX12_refute_63 : decode cX12_refute 63 = .ok (.aload_n 0, 1) := by decide +kernel
theorem dX12_refute_64 : decode cX12_refute 64 = .ok (.getfield 112, 3) := by decide +kernel
theorem dX12_refute_67 : decode cX12_refute 67 = .ok (.iload_n 3, 1) := by decide +kernel
theorem dX12_refute_68 : decode cX12_refute 68 = .ok (.iaload, 1) := by decide +kernel
theorem dX12_refute_69 : decode cX12_refute 69 = .ok (.istore_n 3, 1) := by decide +kernel
theorem dX12_refute_70 : decode cX12_refute 70 = .ok (.goto (-21), 3) := by decide +kernel
theorem dX12_refute_73 : decode cX12_refute 73 = .ok (.goto (-46), 3) := by decide +kernel
theorem dX12_refute_76 : decode cX12_refute 76 = .ok (.iload_n 1, 1) := by decide +kernel
theorem dX12_refute_77 : decode cX12_refute 77 = .ok (.bipush 60, 2) := by decide +kernel
theorem dX12_refute_79 : decode cX12_refute 79 = .ok (.if_icmp .le 6, 3) := by decide +kernel
theorem dX12_refute_82 : decode cX12_refute 82 = .ok (.bipush (-4), 2) := by decide +kernel
theorem dX12_refute_84 : decode cX12_refute 84 = .ok (.ireturn, 1) := by decide +kernel
theorem dX12_refute_85 : decode cX12_refute 85 = .ok (.aload_n 0, 1) := by decide +kernel
theorem dX12_refute_86 : decode cX12_refute 86 = .ok (.invokevirtual 508, 3) := by decide +kernel
theorem dX12_refute_89 : decode cX12_refute 89 = .ok (.ireturn, 1) := by decide +kernel
theorem dX12_refuted_0 : decode cX12_refuted 0 = .ok (.aload_n 0, 1) := by decide +kernel
theorem dX12_refuted_1 : decode cX12_refuted 1 = .ok (.iconst 0, 1) := by decide +kernel
theorem dX12_refuted_2 : decode cX12_refuted 2 = .ok (.putfield 207, 3) := by decide +kernel
theorem dX12_refuted_5 : decode cX12_refuted 5 = .ok (.iconst 0, 1) := by decide +kernel
theorem dX12_refuted_6 : decode cX12_refuted 6 = .ok (.istore_n 1, 1) := by decide +kernel
theorem dX12_refuted_7 : decode cX12_refuted 7 = .ok (.aload_n 0, 1) := by decide +kernel
theorem dX12_refuted_8 : decode cX12_refuted 8 = .ok (.getfield 192, 3) := by decide +kernel
theorem dX12_refuted_11 : decode cX12_refuted 11 = .ok (.iconst 0, 1) := by decide +kernel
theorem dX12_refuted_12 : decode cX12_refuted 12 = .ok (.aload_n 0, 1) := by decide +kernel
theorem dX12_refuted_13 : decode cX12_refuted 13 = .ok (.getfield 505, 3) := by decide +kernel
theorem dX12_refuted_16 : decode cX12_refuted 16 = .ok (.iastore, 1) := by decide +kernel
theorem dX12_refuted_17 : decode cX12_refuted 17 = .ok (.aload_n 0, 1) := by decide +kernel
theorem dX12_refuted_18 : decode cX12_refuted 18 = .ok (.getfield 195, 3) := by decide +kernel
theorem dX12_refuted_21 : decode cX12_refuted 21 = .ok (.iconst 0, 1) := by decide +kernel
theorem dX12_refuted_22 : decode cX12_refuted 22 = .ok (.iconst (-1), 1) := by decide +kernel
theorem dX12_refuted_23 : decode cX12_refuted 23 = .ok (.iastore, 1) := by decide +kernel
theorem dX12_refuted_24 : decode cX12_refuted 24 = .ok (.iconst 1, 1) := by decide +kernel
theorem dX12_refuted_25 : decode cX12_refuted 25 = .ok (.istore_n 1, 1) := by decide +kernel
theorem dX12_refuted_26 : decode cX12_refuted 26 = .ok (.iload_n 1, 1) := by decide +kernel
theorem dX12_refuted_27 : decode cX12_refuted 27 = .ok (.ifCond .le 169, 3) := by decide +kernel
theorem dX12_refuted_30 : decode cX12_refuted 30 = .ok (.iinc 1 (-1), 3) := by decide +kernel
theorem dX12_refuted_33 : decode cX12_refuted 33 = .ok (.aload_n 0, 1) := by decide +kernel
theorem dX12_refuted_34 : decode cX12_refuted 34 = .ok (.getfield 192, 3) := by decide +kernel
theorem dX12_refuted_37 : decode cX12_refuted 37 = .ok (.iload_n 1, 1) := by decide +kernel
theorem dX12_refuted_38 : decode cX12_refuted 38 = .ok (.iaload, 1) := by decide +kernel
theorem dX12_refuted_39 : decode cX12_refuted 39 = .ok (.istore_n 2, 1) := by decide +kernel
theorem dX12_refuted_40 : decode cX12_refuted 40 = .ok (.aload_n 0, 1) := by decide +kernel
theorem dX12_refuted_41 : decode cX12_refuted 41 = .ok (.getfield 207, 3) := by decide +kernel
theorem dX12_refuted_44 : decode cX12_refuted 44 = .ok (.istore_n 3, 1) := by decide +kernel
theorem dX12_refuted_45 : decode cX12_refuted 45 = .ok (.aload_n 0, 1) := by decide +kernel
theorem dX12_refuted_46 : decode cX12_refuted 46 = .ok (.dup, 1) := by decide +kernel
theorem dX12_refuted_47 : decode cX12_refuted 47 = .ok (.getfield 207, 3) := by decide +kernel
theorem dX12_refuted_50 : decode cX12_refuted 50 = .ok (.iconst 1, 1) := by decide +kernel
theorem dX12_refuted_51 : decode cX12_refuted 51 = .ok (.iadd, 1) := by decide +kernel
theorem dX12_refuted_52 : decode cX12_refuted 52 = .ok (.putfield 207, 3) := by decide +kernel
theorem dX12_refuted_55 : decode cX12_refuted 55 = .ok (.aload_n 0, 1) := by decide +kernel
theorem dX12_refuted_56 : decode cX12_refuted 56 = .ok (.getfield 178, 3) := by decide +kernel
theorem dX12_refuted_59 : decode cX12_refuted 59 = .ok (.iload_n 3, 1) := by decide +kernel
theorem dX12_refuted_60 : decode cX12_refuted 60 = .ok (.aload_n 0, 1) := by decide +kernel
theorem dX12_refuted_61 : decode cX12_refuted 61 = .ok (.getfield 195, 3) := by decide +kernel
theorem dX12_refuted_64 : decode cX12_refuted 64 = .ok (.iload_n 1, 1) := by decide +kernel
theorem dX12_refuted_65 : decode cX12_refuted 65 = .ok (.iaload, 1) := by decide +kernel
theorem dX12_refuted_66 : decode cX12_refuted 66 = .ok (.iastore, 1) := by decide +kernel
theorem dX12_refuted_67 : decode cX12_refuted 67 = .ok (.aload_n 0, 1) := by decide +kernel
theorem dX12_refuted_68 : decode cX12_refuted 68 = .ok (.getfield 181, 3) := by decide +kernel
theorem dX12_refuted_71 : decode cX12_refuted 71 = .ok (.iload_n 3, 1) := by decide +kernel
theorem dX12_refuted_72 : decode cX12_refuted 72 = .ok (.aload_n 0, 1) := by decide +kernel
theorem dX12_refuted_73 : decode cX12_refuted 73 = .ok (.getfield 115, 3) := by decide +kernel
theorem dX12_refuted_76 : decode cX12_refuted 76 = .ok (.iload_n 2, 1) := by decide +kernel
theorem dX12_refuted_77 : decode cX12_refuted 77 = .ok (.iaload, 1) := by decide +kernel
theorem dX12_refuted_78 : decode cX12_refuted 78 = .ok (.aload_n 0, 1) := by decide +kernel
theorem dX12_refuted_79 : decode cX12_refuted 79 = .ok (.getfield 178, 3) := by decide +kernel
theorem dX12_refuted_82 : decode cX12_refuted 82 = .ok (.iload_n 3, 1) := by decide +kernel
theorem dX12_refuted_83 : decode cX12_refuted 83 = .ok (.iaload, 1) := by decide +kernel
theorem dX12_refuted_84 : decode cX12_refuted 84 = .ok (.ifCond .ge 7, 3) := by decide +kernel
theorem dX12_refuted_87 : decode cX12_refuted 87 = .ok (.iconst 0, 1) := by decide +kernel
theorem dX12_refuted_88 : decode cX12_refuted 88 = .ok (.goto 14, 3) := by decide +kernel
theorem dX12_refuted_91 : decode cX12_refuted 91 = .ok (.aload_n 0, 1) := by decide +kernel
theorem dX12_refuted_92 : decode cX12_refuted 92 = .ok (.getfield 181, 3) := by decide +kernel
theorem dX12_refuted_95 : decode cX12_refuted 95 = .ok (.aload_n 0, 1) := by decide +kernel
theorem dX12_refuted_96 : decode cX12_refuted 96 = .ok (.getfield 178, 3) := by decide +kernel
theorem dX12_refuted_99 : decode cX12_refuted 99 = .ok (.iload_n 3, 1) := by decide +kernel
theorem dX12_refuted_100 : decode cX12_refuted 100 = .ok (.iaload, 1) := by decide +kernel
theorem dX12_refuted_101 : decode cX12_refuted 101 = .ok (.iaload, 1) := by decide +kernel
theorem dX12_refuted_102 : decode cX12_refuted 102 = .ok (.ior, 1) := by decide +kernel
theorem dX12_refuted_103 : decode cX12_refuted 103 = .ok (.iastore, 1) := by decide +kernel
theorem dX12_refuted_104 : decode cX12_refuted 104 = .ok (.iconst 0, 1) := by decide +kernel
theorem dX12_refuted_105 : decode cX12_refuted 105 = .ok (.istore 4, 2) := by decide +kernel
theorem dX12_refuted_107 : decode cX12_refuted 107 = .ok (.aload_n 0, 1) := by decide +kernel
theorem dX12_refuted_108 : decode cX12_refuted 108 = .ok (.getfield 106, 3) := by decide +kernel
theorem dX12_refuted_111 : decode cX12_refuted 111 = .ok (.iload_n 2, 1) := by decide +kernel
theorem dX12_refuted_112 : decode cX12_refuted 112 = .ok (.iaload, 1) := by decide +kernel
theorem dX12_refuted_113 : decode cX12_refuted 113 = .ok (.istore 5, 2) := by decide +kernel
theorem dX12_refuted_115 : decode cX12_refuted 115 = .ok (.iload 5, 2) := by decide +kernel
theorem dX12_refuted_117 : decode cX12_refuted 117 = .ok (.ifCond .lt 18, 3) := by decide +kernel
theorem dX12_refuted_120 : decode cX12_refuted 120 = .ok (.iinc 4 1, 3) := by decide +kernel
theorem dX12_refuted_123 : decode cX12_refuted 123 = .ok (.aload_n 0, 1) := by decide +kernel
theorem dX12_refuted_124 : decode cX12_refuted 124 = .ok (.getfield 112, 3) := by decide +kernel
theorem dX12_refuted_127 : decode cX12_refuted 127 = .ok (.iload 5, 2) := by decide +kernel
theorem dX12_refuted_129 : decode cX12_refuted 129 = .ok (.iaload, 1) := by decide +kernel
theorem dX12_refuted_130 : decode cX12_refuted 130 = .ok (.istore 5, 2) := by decide +kernel
theorem dX12_refuted_132 : decode cX12_refuted 132 = .ok (.goto (-17), 3) := by decide +kernel
theorem dX12_refuted_135 : decode cX12_refuted 135 = .ok (.iload_n 1, 1) := by decide +kernel
theorem dX12_refuted_136 : decode cX12_refuted 136 = .ok (.iload 4, 2) := by decide +kernel
theorem dX12_refuted_138 : decode cX12_refuted 138 = .ok (.iadd, 1) := by decide +kernel
theorem dX12_refuted_139 : decode cX12_refuted 139 = .ok (.iconst 1, 1) := by decide +kernel
theorem dX12_refuted_140 : decode cX12_refuted 140 = .ok (.isub, 1) := by decide +kernel
theorem dX12_refuted_141 : decode cX12_refuted 141 = .ok (.istore 5, 2) := by decide +kernel
theorem dX12_refuted_143 : decode cX12_refuted 143 = .ok (.aload_n 0, 1) := by decide +kernel
theorem dX12_refuted_144 : decode cX12_refuted 144 = .ok (.getfield 106, 3) := by decide +kernel
theorem dX12_refuted_147 : decode cX12_refuted 147 = .ok (.iload_n 2, 1) := by decide +kernel
theorem dX12_refuted_148 : decode cX12_refuted 148 = .ok (.iaload, 1) := by decide +kernel
theorem dX12_refuted_149 : decode cX12_refuted 149 = .ok (.istore 6, 2) := by decide +kernel
theorem dX12_refuted_151 : decode cX12_refuted 151 = .ok (.iload 6, 2) := by decide +kernel
theorem dX12_refuted_153 : decode cX12_refuted 153 = .ok (.ifCond .lt 35, 3) := by decide +kernel
theorem dX12_refuted_156 : decode cX12_refuted 156 = .ok (.aload_n 0, 1) := by decide +kernel
theorem dX12_refuted_157 : decode cX12_refuted 157 = .ok (.getfield 192, 3) := by decide +kernel
theorem dX12_refuted_160 : decode cX12_refuted 160 = .ok (.iload 5, 2) := by decide +kernel
theorem dX12_refuted_162 : decode cX12_refuted 162 = .ok (.iload 6, 2) := by decide +kernel
theorem dX12_refuted_164 : decode cX12_refuted 164 = .ok (.iastore, 1) := by decide +kernel
theorem dX12_refuted_165 : decode cX12_refuted 165 = .ok (.aload_n 0, 1) := by decide +kernel
theorem dX12_refuted_166 : decode cX12_refuted 166 = .ok (.getfield 195, 3) := by decide +kernel
theorem dX12_refuted_169 : decode cX12_refuted 169 = .ok (.iload 5, 2) := by decide +kernel
theorem dX12_refuted_171 : decode cX12_refuted 171 = .ok (.iload_n 3, 1) := by decide +kernel
theorem dX12_refuted_172 : decode cX12_refuted 172 = .ok (.iastore, 1) := by decide +kernel
theorem dX12_refuted_173 : decode cX12_refuted 173 = .ok (.iinc 5 (-1), 3) := by decide +kernel
theorem dX12_refuted_176 : decode cX12_refuted 176 = .ok (.aload_n 0, 1) := by decide +kernel
theorem dX12_refuted_177 : decode cX12_refuted 177 = .ok (.getfield 112, 3) := by decide +kernel
theorem dX12_refuted_180 : decode cX12_refuted 180 = .ok (.iload 6, 2) := by decide +kernel
theorem dX12_refuted_182 : decode cX12_refuted 182 = .ok (.iaload, 1) := by decide +kernel
theorem dX12_refuted_183 : decode cX12_refuted 183 = .ok (.istore 6, 2) := by decide +kernel
theorem dX12_refuted_185 : decode cX12_refuted 185 = .ok (.goto (-34), 3) := by decide +kernel
theorem dX12_refuted_188 : decode cX12_refuted 188 = .ok (.iload_n 1, 1) := by decide +kernel
theorem dX12_refuted_189 : decode cX12_refuted 189 = .ok (.iload 4, 2) := by decide +kernel
theorem dX12_refuted_191 : decode cX12_refuted 191 = .ok (.iadd, 1) := by decide +kernel
theorem dX12_refuted_192 : decode cX12_refuted 192 = .ok (.istore_n 1, 1) := by decide +kernel
theorem dX12_refuted_193 : decode cX12_refuted 193 = .ok (.goto (-167), 3) := by decide +kernel
theorem dX12_refuted_196 : decode cX12_refuted 196 = .ok (.aload_n 0, 1) := by decide +kernel
theorem dX12_refuted_197 : decode cX12_refuted 197 = .ok (.getfield 207, 3) := by decide +kernel
theorem dX12_refuted_200 : decode cX12_refuted 200 = .ok (.ireturn, 1) := by decide +kernel
theorem dX12_feed_0 : decode cX12_feed 0 = .ok (.iload_n 3, 1) := by decide +kernel
theorem dX12_feed_1 : decode cX12_feed 1 = .ok (.ifCond .lt 9, 3) := by decide +kernel
theorem dX12_feed_4 : decode cX12_feed 4 = .ok (.iload_n 3, 1) := by decide +kernel
theorem dX12_feed_5 : decode cX12_feed 5 = .ok (.bipush 8, 2) := by decide +kernel
theorem dX12_feed_7 : decode cX12_feed 7 = .ok (.if_icmp .le 6, 3) := by decide +kernel
theorem dX12_feed_10 : decode cX12_feed 10 = .ok (.bipush (-2), 2) := by decide +kernel
theorem dX12_feed_12 : decode cX12_feed 12 = .ok (.ireturn, 1) := by decide +kernel
theorem dX12_feed_13 : decode cX12_feed 13 = .ok (.iload_n 3, 1) := by decide +kernel
theorem dX12_feed_14 : decode cX12_feed 14 = .ok (.ifCond .ne 8, 3) := by decide +kernel
theorem dX12_feed_17 : decode cX12_feed 17 = .ok (.aload_n 0, 1) := by decide +kernel
theorem dX12_feed_18 : decode cX12_feed 18 = .ok (.iconst 0, 1) := by decide +kernel
theorem dX12_feed_19 : decode cX12_feed 19 = .ok (.putfield 217, 3) := by decide +kernel
theorem dX12_feed_22 : decode cX12_feed 22 = .ok (.aload_n 0, 1) := by decide +kernel
theorem dX12_feed_23 : decode cX12_feed 23 = .ok (.getfield 217, 3) := by decide +kernel
theorem dX12_feed_26 : decode cX12_feed 26 = .ok (.iload_n 3, 1) := by decide +kernel
theorem dX12_feed_27 : decode cX12_feed 27 = .ok (.iadd, 1) := by decide +kernel
theorem dX12_feed_28 : decode cX12_feed 28 = .ok (.sipush 3000, 3) := by decide +kernel
theorem dX12_feed_31 : decode cX12_feed 31 = .ok (.if_icmp .le 6, 3) := by decide +kernel
theorem dX12_feed_34 : decode cX12_feed 34 = .ok (.bipush (-4), 2) := by decide +kernel
theorem dX12_feed_36 : decode cX12_feed 36 = .ok (.ireturn, 1) := by decide +kernel
theorem dX12_feed_37 : decode cX12_feed 37 = .ok (.iload_n 3, 1) := by decide +kernel
theorem dX12_feed_38 : decode cX12_feed 38 = .ok (.iconst 1, 1) := by decide +kernel
theorem dX12_feed_39 : decode cX12_feed 39 = .ok (.isub, 1) := by decide +kernel
theorem dX12_feed_40 : decode cX12_feed 40 = .ok (.istore 4, 2) := by decide +kernel
theorem dX12_feed_42 : decode cX12_feed 42 = .ok (.iload 4, 2) := by decide +kernel
theorem dX12_feed_44 : decode cX12_feed 44 = .ok (.ifCond .lt 37, 3) := by decide +kernel
theorem dX12_feed_47 : decode cX12_feed 47 = .ok (.aload_n 0, 1) := by decide +kernel
theorem dX12_feed_48 : decode cX12_feed 48 = .ok (.getfield 28, 3) := by decide +kernel
theorem dX12_feed_51 : decode cX12_feed 51 = .ok (.aload_n 0, 1) := by decide +kernel
theorem dX12_feed_52 : decode cX12_feed 52 = .ok (.getfield 217, 3) := by decide +kernel
theorem dX12_feed_55 : decode cX12_feed 55 = .ok (.lload_n 1, 1) := by decide +kernel
theorem dX12_feed_56 : decode cX12_feed 56 = .ok (.bipush 8, 2) := by decide +kernel
theorem dX12_feed_58 : decode cX12_feed 58 = .ok (.iload 4, 2) := by decide +kernel
theorem dX12_feed_60 : decode cX12_feed 60 = .ok (.imul, 1) := by decide +kernel
theorem dX12_feed_61 : decode cX12_feed 61 = .ok (.lshr, 1) := by decide +kernel
theorem dX12_feed_62 : decode cX12_feed 62 = .ok (.l2i, 1) := by decide +kernel
theorem dX12_feed_63 : decode cX12_feed 63 = .ok (.i2b, 1) := by decide +kernel
theorem dX12_feed_64 : decode cX12_feed 64 = .ok (.iastore, 1) := by decide +kernel
theorem dX12_feed_65 : decode cX12_feed 65 = .ok (.aload_n 0, 1) := by decide +kernel
theorem dX12_feed_66 : decode cX12_feed 66 = .ok (.dup, 1) := by decide +kernel
theorem dX12_feed_67 : decode cX12_feed 67 = .ok (.getfield 217, 3) := by decide +kernel
theorem dX12_feed_70 : decode cX12_feed 70 = .ok (.iconst 1, 1) := by decide +kernel
theorem dX12_feed_71 : decode cX12_feed 71 = .ok (.iadd, 1) := by decide +kernel
theorem dX12_feed_72 : decode cX12_feed 72 = .ok (.putfield 217, 3) := by decide +kernel
theorem dX12_feed_75 : decode cX12_feed 75 = .ok (.iinc 4 (-1), 3) := by decide +kernel
theorem dX12_feed_78 : decode cX12_feed 78 = .ok (.goto (-36), 3) := by decide +kernel
theorem dX12_feed_81 : decode cX12_feed 81 = .ok (.aload_n 0, 1) := by decide +kernel
theorem dX12_feed_82 : decode cX12_feed 82 = .ok (.getfield 217, 3) := by decide +kernel
theorem dX12_feed_85 : decode cX12_feed 85 = .ok (.ireturn, 1) := by decide +kernel
theorem dX12_beginText_0 : decode cX12_beginText 0 = .ok (.aload_n 0, 1) := by decide +kernel
theorem dX12_beginText_1 : decode cX12_beginText 1 = .ok (.iload_n 1, 1) := by decide +kernel
theorem dX12_beginText_2 : decode cX12_beginText 2 = .ok (.putfield 220, 3) := by decide +kernel
theorem dX12_beginText_5 : decode cX12_beginText 5 = .ok (.aload_n 0, 1) := by decide +kernel
theorem dX12_beginText_6 : decode cX12_beginText 6 = .ok (.iconst 0, 1) := by decide +kernel
theorem dX12_beginText_7 : decode cX12_beginText 7 = .ok (.putfield 230, 3) := by decide +kernel
theorem dX12_beginText_10 : decode cX12_beginText 10 = .ok (.aload_n 0, 1) := by decide +kernel
theorem dX12_beginText_11 : decode cX12_beginText 11 = .ok (.iconst 0, 1) := by decide +kernel
theorem dX12_beginText_12 : decode cX12_beginText 12 = .ok (.putfield 233, 3) := by decide +kernel
theorem dX12_beginText_15 : decode cX12_beginText 15 = .ok (.aload_n 0, 1) := by decide +kernel
theorem dX12_beginText_16 : decode cX12_beginText 16 = .ok (.iconst 0, 1) := by decide +kernel
theorem dX12_beginText_17 : decode cX12_beginText 17 = .ok (.putfield 257, 3) := by decide +kernel
theorem dX12_beginText_20 : decode cX12_beginText 20 = .ok (.aload_n 0, 1) := by decide +kernel
theorem dX12_beginText_21 : decode cX12_beginText 21 = .ok (.iconst 0, 1) := by decide +kernel
theorem dX12_beginText_22 : decode cX12_beginText 22 = .ok (.putfield 277, 3) := by decide +kernel
theorem dX12_beginText_25 : decode cX12_beginText 25 = .ok (.return_, 1) := by decide +kernel
theorem dX12_read_0 : decode cX12_read 0 = .ok (.aload_n 0, 1) := by decide +kernel
theorem dX12_read_1 : decode cX12_read 1 = .ok (.iconst 0, 1) := by decide +kernel
theorem dX12_read_2 : decode cX12_read 2 = .ok (.invokevirtual 511, 3) := by decide +kernel
theorem dX12_read_5 : decode cX12_read 5 = .ok (.aload_n 0, 1) := by decide +kernel
theorem dX12_read_6 : decode cX12_read 6 = .ok (.invokevirtual 460, 3) := by decide +kernel
theorem dX12_read_9 : decode cX12_read 9 = .ok (.istore_n 1, 1) := by decide +kernel
theorem dX12_read_10 : decode cX12_read 10 = .ok (.aload_n 0, 1) := by decide +kernel
theorem dX12_read_11 : decode cX12_read 11 = .ok (.getfield 257, 3) := by decide +kernel
theorem dX12_read_14 : decode cX12_read 14 = .ok (.ifCond .ne 23, 3) := by decide +kernel
theorem dX12_read_17 : decode cX12_read 17 = .ok (.aload_n 0, 1) := by decide +kernel
theorem dX12_read_18 : decode cX12_read 18 = .ok (.invokevirtual 270, 3) := by decide +kernel
theorem dX12_read_21 : decode cX12_read 21 = .ok (.sipush 256, 3) := by decide +kernel
theorem dX12_read_24 : decode cX12_read 24 = .ok (.if_icmp .eq 13, 3) := by decide +kernel
theorem dX12_read_27 : decode cX12_read 27 = .ok (.aload_n 0, 1) := by decide +kernel
theorem dX12_read_28 : decode cX12_read 28 = .ok (.iconst 2, 1) := by decide +kernel
theorem dX12_read_29 : decode cX12_read 29 = .ok (.aload_n 0, 1) := by decide +kernel
theorem dX12_read_30 : decode cX12_read 30 = .ok (.getfield 227, 3) := by decide +kernel
theorem dX12_read_33 : decode cX12_read 33 = .ok (.invokevirtual 266, 3) := by decide +kernel
theorem dX12_read_36 : decode cX12_read 36 = .ok (.istore_n 2, 1) := by decide +kernel
theorem dX12_read_37 : decode cX12_read 37 = .ok (.aload_n 0, 1) := by decide +kernel
theorem dX12_read_38 : decode cX12_read 38 = .ok (.aload_n 0, 1) := by decide +kernel
theorem dX12_read_39 : decode cX12_read 39 = .ok (.getfield 257, 3) := by decide +kernel
theorem dX12_read_42 : decode cX12_read 42 = .ok (.ifCond .ne 7, 3) := by decide +kernel
theorem dX12_read_45 : decode cX12_read 45 = .ok (.iconst (-1), 1) := by decide +kernel
theorem dX12_read_46 : decode cX12_read 46 = .ok (.goto 7, 3) := by decide +kernel
theorem dX12_read_49 : decode cX12_read 49 = .ok (.aload_n 0, 1) := by decide +kernel
theorem dX12_read_50 : decode cX12_read 50 = .ok (.getfield 260, 3) := by decide +kernel
theorem dX12_read_53 : decode cX12_read 53 = .ok (.putfield 31, 3) := by decide +kernel
theorem dX12_read_56 : decode cX12_read 56 = .ok (.aload_n 0, 1) := by decide +kernel
theorem dX12_read_57 : decode cX12_read 57 = .ok (.getfield 257, 3) := by decide +kernel
theorem dX12_read_60 : decode cX12_read 60 = .ok (.ifCond .ne 7, 3) := by decide +kernel
theorem dX12_read_63 : decode cX12_read 63 = .ok (.iload_n 1, 1) := by decide +kernel
theorem dX12_read_64 : decode cX12_read 64 = .ok (.goto 10, 3) := by decide +kernel
theorem dX12_read_67 : decode cX12_read 67 = .ok (.bipush (-10), 2) := by decide +kernel
theorem dX12_read_69 : decode cX12_read 69 = .ok (.aload_n 0, 1) := by decide +kernel
theorem dX12_read_70 : decode cX12_read 70 = .ok (.getfield 257, 3) := by decide +kernel
theorem dX12_read_73 : decode cX12_read 73 = .ok (.isub, 1) := by decide +kernel
theorem dX12_read_74 : decode cX12_read 74 = .ok (.ireturn, 1) := by decide +kernel
theorem dX12_place_0 : decode cX12_place 0 = .ok (.aload_n 0, 1) := by decide +kernel
theorem dX12_place_1 : decode cX12_place 1 = .ok (.getfield 31, 3) := by decide +kernel
theorem dX12_place_4 : decode cX12_place 4 = .ok (.ireturn, 1) := by decide +kernel
theorem dX12_count_0 : decode cX12_count 0 = .ok (.iload_n 1, 1) := by decide +kernel
theorem dX12_count_1 : decode cX12_count 1 = .ok (.ifCond .ne 10, 3) := by decide +kernel
theorem dX12_count_4 : decode cX12_count 4 = .ok (.aload_n 0, 1) := by decide +kernel
theorem dX12_count_5 : decode cX12_count 5 = .ok (.getfield 204, 3) := by decide +kernel
theorem dX12_count_8 : decode cX12_count 8 = .ok (.goto 41, 3) := by decide +kernel
theorem dX12_count_11 : decode cX12_count 11 = .ok (.iload_n 1, 1) := by decide +kernel
theorem dX12_count_12 : decode cX12_count 12 = .ok (.iconst 1, 1) := by decide +kernel
theorem dX12_count_13 : decode cX12_count 13 = .ok (.if_icmp .ne 10, 3) := by decide +kernel
theorem dX12_count_16 : decode cX12_count 16 = .ok (.aload_n 0, 1) := by decide +kernel
theorem dX12_count_17 : decode cX12_count 17 = .ok (.getfield 280, 3) := by decide +kernel
theorem dX12_count_20 : decode cX12_count 20 = .ok (.goto 29, 3) := by decide +kernel
theorem dX12_count_23 : decode cX12_count 23 = .ok (.iload_n 1, 1) := by decide +kernel
theorem dX12_count_24 : decode cX12_count 24 = .ok (.iconst 2, 1) := by decide +kernel
theorem dX12_count_25 : decode cX12_count 25 = .ok (.if_icmp .ne 10, 3) := by decide +kernel
theorem dX12_count_28 : decode cX12_count 28 = .ok (.aload_n 0, 1) := by decide +kernel
theorem dX12_count_29 : decode cX12_count 29 = .ok (.getfield 515, 3) := by decide +kernel
theorem dX12_count_32 : decode cX12_count 32 = .ok (.goto 17, 3) := by decide +kernel
theorem dX12_count_35 : decode cX12_count 35 = .ok (.iload_n 1, 1) := by decide +kernel
theorem dX12_count_36 : decode cX12_count 36 = .ok (.iconst 3, 1) := by decide +kernel
theorem dX12_count_37 : decode cX12_count 37 = .ok (.if_icmp .ne 10, 3) := by decide +kernel
theorem dX12_count_40 : decode cX12_count 40 = .ok (.aload_n 0, 1) := by decide +kernel
theorem dX12_count_41 : decode cX12_count 41 = .ok (.getfield 207, 3) := by decide +kernel
theorem dX12_count_44 : decode cX12_count 44 = .ok (.goto 5, 3) := by decide +kernel
theorem dX12_count_47 : decode cX12_count 47 = .ok (.bipush (-2), 2) := by decide +kernel
theorem dX12_count_49 : decode cX12_count 49 = .ok (.ireturn, 1) := by decide +kernel
theorem dX12_formula_0 : decode cX12_formula 0 = .ok (.aload_n 0, 1) := by decide +kernel
theorem dX12_formula_1 : decode cX12_formula 1 = .ok (.iload_n 1, 1) := by decide +kernel
theorem dX12_formula_2 : decode cX12_formula 2 = .ok (.invokevirtual 490, 3) := by decide +kernel
theorem dX12_formula_5 : decode cX12_formula 5 = .ok (.ifCond .ne 5, 3) := by decide +kernel
theorem dX12_formula_8 : decode cX12_formula 8 = .ok (.iconst (-1), 1) := by decide +kernel
theorem dX12_formula_9 : decode cX12_formula 9 = .ok (.ireturn, 1) := by decide +kernel
theorem dX12_formula_10 : decode cX12_formula 10 = .ok (.iload_n 2, 1) := by decide +kernel
theorem dX12_formula_11 : decode cX12_formula 11 = .ok (.ifCond .ne 12, 3) := by decide +kernel
theorem dX12_formula_14 : decode cX12_formula 14 = .ok (.aload_n 0, 1) := by decide +kernel
theorem dX12_formula_15 : decode cX12_formula 15 = .ok (.getfield 7, 3) := by decide +kernel
theorem dX12_formula_18 : decode cX12_formula 18 = .ok (.iload_n 1, 1) := by decide +kernel
theorem dX12_formula_19 : decode cX12_formula 19 = .ok (.iaload, 1) := by decide +kernel
theorem dX12_formula_20 : decode cX12_formula 20 = .ok (.goto 33, 3) := by decide +kernel
theorem dX12_formula_23 : decode cX12_formula 23 = .ok (.iload_n 2, 1) := by decide +kernel
theorem dX12_formula_24 : decode cX12_formula 24 = .ok (.iconst 1, 1) := by decide +kernel
theorem dX12_formula_25 : decode cX12_formula 25 = .ok (.if_icmp .ne 12, 3) := by decide +kernel
theorem dX12_formula_28 : decode cX12_formula 28 = .ok (.aload_n 0, 1) := by decide +kernel
theorem dX12_formula_29 : decode cX12_formula 29 = .ok (.getfield 13, 3) := by decide +kernel
theorem dX12_formula_32 : decode cX12_formula 32 = .ok (.iload_n 1, 1) := by decide +kernel
theorem dX12_formula_33 : decode cX12_formula 33 = .ok (.iaload, 1) := by decide +kernel
theorem dX12_formula_34 : decode cX12_formula 34 = .ok (.goto 19, 3) := by decide +kernel
theorem dX12_formula_37 : decode cX12_formula 37 = .ok (.iload_n 2, 1) := by decide +kernel
theorem dX12_formula_38 : decode cX12_formula 38 = .ok (.iconst 2, 1) := by decide +kernel
theorem dX12_formula_39 : decode cX12_formula 39 = .ok (.if_icmp .ne 12, 3) := by decide +kernel
theorem dX12_formula_42 : decode cX12_formula 42 = .ok (.aload_n 0, 1) := by decide +kernel
theorem dX12_formula_43 : decode cX12_formula 43 = .ok (.getfield 16, 3) := by decide +kernel
theorem dX12_formula_46 : decode cX12_formula 46 = .ok (.iload_n 1, 1) := by decide +kernel
theorem dX12_formula_47 : decode cX12_formula 47 = .ok (.iaload, 1) := by decide +kernel
theorem dX12_formula_48 : decode cX12_formula 48 = .ok (.goto 5, 3) := by decide +kernel
theorem dX12_formula_51 : decode cX12_formula 51 = .ok (.bipush (-2), 2) := by decide +kernel
theorem dX12_formula_53 : decode cX12_formula 53 = .ok (.ireturn, 1) := by decide +kernel
theorem dX12_make_0 : decode cX12_make 0 = .ok (.aload_n 0, 1) := by decide +kernel
theorem dX12_make_1 : decode cX12_make 1 = .ok (.iload_n 2, 1) := by decide +kernel
theorem dX12_make_2 : decode cX12_make 2 = .ok (.invokevirtual 490, 3) := by decide +kernel
theorem dX12_make_5 : decode cX12_make 5 = .ok (.ifCond .eq 11, 3) := by decide +kernel
theorem dX12_make_8 : decode cX12_make 8 = .ok (.aload_n 0, 1) := by decide +kernel
theorem dX12_make_9 : decode cX12_make 9 = .ok (.iload_n 3, 1) := by decide +kernel
theorem dX12_make_10 : decode cX12_make 10 = .ok (.invokevirtual 490, 3) := by decide +kernel
theorem dX12_make_13 : decode cX12_make 13 = .ok (.ifCond .ne 5, 3) := by decide +kernel
theorem dX12_make_16 : decode cX12_make 16 = .ok (.iconst (-1), 1) := by decide +kernel
theorem dX12_make_17 : decode cX12_make 17 = .ok (.ireturn, 1) := by decide +kernel
theorem dX12_make_18 : decode cX12_make 18 = .ok (.iload_n 1, 1) := by decide +kernel
theorem dX12_make_19 : decode cX12_make 19 = .ok (.iconst 3, 1) := by decide +kernel
theorem dX12_make_20 : decode cX12_make 20 = .ok (.if_icmp .lt 8, 3) := by decide +kernel
theorem dX12_make_23 : decode cX12_make 23 = .ok (.iload_n 1, 1) := by decide +kernel
theorem dX12_make_24 : decode cX12_make 24 = .ok (.iconst 5, 1) := by decide +kernel
theorem dX12_make_25 : decode cX12_make 25 = .ok (.if_icmp .le 6, 3) := by decide +kernel
theorem dX12_make_28 : decode cX12_make 28 = .ok (.bipush (-2), 2) := by decide +kernel
theorem dX12_make_30 : decode cX12_make 30 = .ok (.ireturn, 1) := by decide +kernel
theorem dX12_make_31 : decode cX12_make 31 = .ok (.aload_n 0, 1) := by decide +kernel
theorem dX12_make_32 : decode cX12_make 32 = .ok (.iload_n 1, 1) := by decide +kernel
theorem dX12_make_33 : decode cX12_make 33 = .ok (.iload_n 2, 1) := by decide +kernel
theorem dX12_make_34 : decode cX12_make 34 = .ok (.iload_n 3, 1) := by decide +kernel
theorem dX12_make_35 : decode cX12_make 35 = .ok (.invokevirtual 283, 3) := by decide +kernel
theorem dX12_make_38 : decode cX12_make 38 = .ok (.istore 4, 2) := by decide +kernel
theorem dX12_make_40 : decode cX12_make 40 = .ok (.iload 4, 2) := by decide +kernel
theorem dX12_make_42 : decode cX12_make 42 = .ok (.ifCond .ge 8, 3) := by decide +kernel
theorem dX12_make_45 : decode cX12_make 45 = .ok (.bipush (-4), 2) := by decide +kernel
theorem dX12_make_47 : decode cX12_make 47 = .ok (.goto 5, 3) := by decide +kernel
theorem dX12_make_50 : decode cX12_make 50 = .ok (.iload 4, 2) := by decide +kernel
theorem dX12_make_52 : decode cX12_make 52 = .ok (.ireturn, 1) := by decide +kernel
theorem dX12_given_0 : decode cX12_given 0 = .ok (.aload_n 0, 1) := by decide +kernel
theorem dX12_given_1 : decode cX12_given 1 = .ok (.iload_n 1, 1) := by decide +kernel
theorem dX12_given_2 : decode cX12_given 2 = .ok (.invokevirtual 490, 3) := by decide +kernel
theorem dX12_given_5 : decode cX12_given 5 = .ok (.ifCond .ne 5, 3) := by decide +kernel
theorem dX12_given_8 : decode cX12_given 8 = .ok (.iconst (-1), 1) := by decide +kernel
theorem dX12_given_9 : decode cX12_given 9 = .ok (.ireturn, 1) := by decide +kernel
theorem dX12_given_10 : decode cX12_given 10 = .ok (.aload_n 0, 1) := by decide +kernel
theorem dX12_given_11 : decode cX12_given 11 = .ok (.getfield 515, 3) := by decide +kernel
theorem dX12_given_14 : decode cX12_given 14 = .ok (.bipush 20, 2) := by decide +kernel
theorem dX12_given_16 : decode cX12_given 16 = .ok (.if_icmp .ne 6, 3) := by decide +kernel
theorem dX12_given_19 : decode cX12_given 19 = .ok (.bipush (-4), 2) := by decide +kernel
theorem dX12_given_21 : decode cX12_given 21 = .ok (.ireturn, 1) := by decide +kernel
theorem dX12_given_22 : decode cX12_given 22 = .ok (.aload_n 0, 1) := by decide +kernel
theorem dX12_given_23 : decode cX12_given 23 = .ok (.getfield 42, 3) := by decide +kernel
theorem dX12_given_26 : decode cX12_given 26 = .ok (.aload_n 0, 1) := by decide +kernel
theorem dX12_given_27 : decode cX12_given 27 = .ok (.getfield 515, 3) := by decide +kernel
theorem dX12_given_30 : decode cX12_given 30 = .ok (.iload_n 1, 1) := by decide +kernel
theorem dX12_given_31 : decode cX12_given 31 = .ok (.iastore, 1) := by decide +kernel
theorem dX12_given_32 : decode cX12_given 32 = .ok (.aload_n 0, 1) := by decide +kernel
theorem dX12_given_33 : decode cX12_given 33 = .ok (.dup, 1) := by decide +kernel
theorem dX12_given_34 : decode cX12_given 34 = .ok (.getfield 515, 3) := by decide +kernel
theorem dX12_given_37 : decode cX12_given 37 = .ok (.iconst 1, 1) := by decide +kernel
theorem dX12_given_38 : decode cX12_given 38 = .ok (.iadd, 1) := by decide +kernel
theorem dX12_given_39 : decode cX12_given 39 = .ok (.putfield 515, 3) := by decide +kernel
theorem dX12_given_42 : decode cX12_given 42 = .ok (.aload_n 0, 1) := by decide +kernel
theorem dX12_given_43 : decode cX12_given 43 = .ok (.getfield 515, 3) := by decide +kernel
theorem dX12_given_46 : decode cX12_given 46 = .ok (.ireturn, 1) := by decide +kernel
theorem dX12_forget_0 : decode cX12_forget 0 = .ok (.aload_n 0, 1) := by decide +kernel
theorem dX12_forget_1 : decode cX12_forget 1 = .ok (.getfield 515, 3) := by decide +kernel
theorem dX12_forget_4 : decode cX12_forget 4 = .ok (.istore_n 1, 1) := by decide +kernel
theorem dX12_forget_5 : decode cX12_forget 5 = .ok (.aload_n 0, 1) := by decide +kernel
theorem dX12_forget_6 : decode cX12_forget 6 = .ok (.iconst 0, 1) := by decide +kernel
theorem dX12_forget_7 : decode cX12_forget 7 = .ok (.putfield 515, 3) := by decide +kernel
theorem dX12_forget_10 : decode cX12_forget 10 = .ok (.iload_n 1, 1) := by decide +kernel
theorem dX12_forget_11 : decode cX12_forget 11 = .ok (.ireturn, 1) := by decide +kernel
theorem dX12_prove_0 : decode cX12_prove 0 = .ok (.aload_n 0, 1) := by decide +kernel
theorem dX12_prove_1 : decode cX12_prove 1 = .ok (.iload_n 1, 1) := by decide +kernel
theorem dX12_prove_2 : decode cX12_prove 2 = .ok (.invokevirtual 490, 3) := by decide +kernel
theorem dX12_prove_5 : decode cX12_prove 5 = .ok (.ifCond .ne 5, 3) := by decide +kernel
theorem dX12_prove_8 : decode cX12_prove 8 = .ok (.iconst (-1), 1) := by decide +kernel
theorem dX12_prove_9 : decode cX12_prove 9 = .ok (.ireturn, 1) := by decide +kernel
theorem dX12_prove_10 : decode cX12_prove 10 = .ok (.iload_n 2, 1) := by decide +kernel
theorem dX12_prove_11 : decode cX12_prove 11 = .ok (.ifCond .lt 10, 3) := by decide +kernel
theorem dX12_prove_14 : decode cX12_prove 14 = .ok (.iload_n 2, 1) := by decide +kernel
theorem dX12_prove_15 : decode cX12_prove 15 = .ok (.sipush 2000, 3) := by decide +kernel
theorem dX12_prove_18 : decode cX12_prove 18 = .ok (.if_icmp .le 6, 3) := by decide +kernel
theorem dX12_prove_21 : decode cX12_prove 21 = .ok (.bipush (-2), 2) := by decide +kernel
theorem dX12_prove_23 : decode cX12_prove 23 = .ok (.ireturn, 1) := by decide +kernel
theorem dX12_prove_24 : decode cX12_prove 24 = .ok (.aload_n 0, 1) := by decide +kernel
theorem dX12_prove_25 : decode cX12_prove 25 = .ok (.iconst 0, 1) := by decide +kernel
theorem dX12_prove_26 : decode cX12_prove 26 = .ok (.putfield 315, 3) := by decide +kernel
theorem dX12_prove_29 : decode cX12_prove 29 = .ok (.aload_n 0, 1) := by decide +kernel
theorem dX12_prove_30 : decode cX12_prove 30 = .ok (.iconst 0, 1) := by decide +kernel
theorem dX12_prove_31 : decode cX12_prove 31 = .ok (.putfield 322, 3) := by decide +kernel
theorem dX12_prove_34 : decode cX12_prove 34 = .ok (.aload_n 0, 1) := by decide +kernel
theorem dX12_prove_35 : decode cX12_prove 35 = .ok (.iconst 0, 1) := by decide +kernel
theorem dX12_prove_36 : decode cX12_prove 36 = .ok (.putfield 338, 3) := by decide +kernel
theorem dX12_prove_39 : decode cX12_prove 39 = .ok (.aload_n 0, 1) := by decide +kernel
theorem dX12_prove_40 : decode cX12_prove 40 = .ok (.iload_n 2, 1) := by decide +kernel
theorem dX12_prove_41 : decode cX12_prove 41 = .ok (.putfield 341, 3) := by decide +kernel
theorem dX12_prove_44 : decode cX12_prove 44 = .ok (.aload_n 0, 1) := by decide +kernel
theorem dX12_prove_45 : decode cX12_prove 45 = .ok (.iconst 0, 1) := by decide +kernel
theorem dX12_prove_46 : decode cX12_prove 46 = .ok (.putfield 332, 3) := by decide +kernel
theorem dX12_prove_49 : decode cX12_prove 49 = .ok (.aload_n 0, 1) := by decide +kernel
theorem dX12_prove_50 : decode cX12_prove 50 = .ok (.iconst 0, 1) := by decide +kernel
theorem dX12_prove_51 : decode cX12_prove 51 = .ok (.putfield 344, 3) := by decide +kernel
theorem dX12_prove_54 : decode cX12_prove 54 = .ok (.aload_n 0, 1) := by decide +kernel
theorem dX12_prove_55 : decode cX12_prove 55 = .ok (.getfield 82, 3) := by decide +kernel
theorem dX12_prove_58 : decode cX12_prove 58 = .ok (.iconst 0, 1) := by decide +kernel
theorem dX12_prove_59 : decode cX12_prove 59 = .ok (.iconst 0, 1) := by decide +kernel
theorem dX12_prove_60 : decode cX12_prove 60 = .ok (.iastore, 1) := by decide +kernel
theorem dX12_prove_61 : decode cX12_prove 61 = .ok (.aload_n 0, 1) := by decide +kernel
theorem dX12_prove_62 : decode cX12_prove 62 = .ok (.getfield 85, 3) := by decide +kernel
theorem dX12_prove_65 : decode cX12_prove 65 = .ok (.iconst 0, 1) := by decide +kernel
theorem dX12_prove_66 : decode cX12_prove 66 = .ok (.iload_n 1, 1) := by decide +kernel
theorem dX12_prove_67 : decode cX12_prove 67 = .ok (.iastore, 1) := by decide +kernel
theorem dX12_prove_68 : decode cX12_prove 68 = .ok (.aload_n 0, 1) := by decide +kernel
theorem dX12_prove_69 : decode cX12_prove 69 = .ok (.getfield 88, 3) := by decide +kernel
theorem dX12_prove_72 : decode cX12_prove 72 = .ok (.iconst 0, 1) := by decide +kernel
theorem dX12_prove_73 : decode cX12_prove 73 = .ok (.aload_n 0, 1) := by decide +kernel
theorem dX12_prove_74 : decode cX12_prove 74 = .ok (.getfield 515, 3) := by decide +kernel
theorem dX12_prove_77 : decode cX12_prove 77 = .ok (.iastore, 1) := by decide +kernel
theorem dX12_prove_78 : decode cX12_prove 78 = .ok (.aload_n 0, 1) := by decide +kernel
theorem dX12_prove_79 : decode cX12_prove 79 = .ok (.aload_n 0, 1) := by decide +kernel
theorem dX12_prove_80 : decode cX12_prove 80 = .ok (.getfield 515, 3) := by decide +kernel
theorem dX12_prove_83 : decode cX12_prove 83 = .ok (.putfield 445, 3) := by decide +kernel
theorem dX12_prove_86 : decode cX12_prove 86 = .ok (.iconst 0, 1) := by decide +kernel
theorem dX12_prove_87 : decode cX12_prove 87 = .ok (.istore_n 3, 1) := by decide +kernel
theorem dX12_prove_88 : decode cX12_prove 88 = .ok (.iload_n 3, 1) := by decide +kernel
theorem dX12_prove_89 : decode cX12_prove 89 = .ok (.aload_n 0, 1) := by decide +kernel
theorem dX12_prove_90 : decode cX12_prove 90 = .ok (.getfield 515, 3) := by decide +kernel
theorem dX12_prove_93 : decode cX12_prove 93 = .ok (.if_icmp .ge 31, 3) := by decide +kernel
theorem dX12_prove_96 : decode cX12_prove 96 = .ok (.aload_n 0, 1) := by decide +kernel
theorem dX12_prove_97 : decode cX12_prove 97 = .ok (.iconst 0, 1) := by decide +kernel
theorem dX12_prove_98 : decode cX12_prove 98 = .ok (.aload_n 0, 1) := by decide +kernel
theorem dX12_prove_99 : decode cX12_prove 99 = .ok (.getfield 42, 3) := by decide +kernel
theorem dX12_prove_102 : decode cX12_prove 102 = .ok (.iload_n 3, 1) := by decide +kernel
theorem dX12_prove_103 : decode cX12_prove 103 = .ok (.iaload, 1) := by decide +kernel
theorem dX12_prove_104 : decode cX12_prove 104 = .ok (.aload_n 0, 1) := by decide +kernel
theorem dX12_prove_105 : decode cX12_prove 105 = .ok (.iload_n 3, 1) := by decide +kernel
theorem dX12_prove_106 : decode cX12_prove 106 = .ok (.invokevirtual 360, 3) := by decide +kernel
theorem dX12_prove_109 : decode cX12_prove 109 = .ok (.aload_n 0, 1) := by decide +kernel
theorem dX12_prove_110 : decode cX12_prove 110 = .ok (.getfield 515, 3) := by decide +kernel
theorem dX12_prove_113 : decode cX12_prove 113 = .ok (.invokevirtual 363, 3) := by decide +kernel
theorem dX12_prove_116 : decode cX12_prove 116 = .ok (.istore 4, 2) := by decide +kernel
theorem dX12_prove_118 : decode cX12_prove 118 = .ok (.iinc 3 1, 3) := by decide +kernel
theorem dX12_prove_121 : decode cX12_prove 121 = .ok (.goto (-33), 3) := by decide +kernel
theorem dX12_prove_124 : decode cX12_prove 124 = .ok (.aload_n 0, 1) := by decide +kernel
theorem dX12_prove_125 : decode cX12_prove 125 = .ok (.aload_n 0, 1) := by decide +kernel
theorem dX12_prove_126 : decode cX12_prove 126 = .ok (.invokevirtual 518, 3) := by decide +kernel
theorem dX12_prove_129 : decode cX12_prove 129 = .ok (.putfield 103, 3) := by decide +kernel
theorem dX12_prove_132 : decode cX12_prove 132 = .ok (.aload_n 0, 1) := by decide +kernel
theorem dX12_prove_133 : decode cX12_prove 133 = .ok (.aload_n 0, 1) := by decide +kernel
theorem dX12_prove_134 : decode cX12_prove 134 = .ok (.getfield 347, 3) := by decide +kernel
theorem dX12_prove_137 : decode cX12_prove 137 = .ok (.putfield 448, 3) := by decide +kernel
theorem dX12_prove_140 : decode cX12_prove 140 = .ok (.aload_n 0, 1) := by decide +kernel
theorem dX12_prove_141 : decode cX12_prove 141 = .ok (.aload_n 0, 1) := by decide +kernel
theorem dX12_prove_142 : decode cX12_prove 142 = .ok (.getfield 388, 3) := by decide +kernel
theorem dX12_prove_145 : decode cX12_prove 145 = .ok (.putfield 505, 3) := by decide +kernel
theorem dX12_prove_148 : decode cX12_prove 148 = .ok (.aload_n 0, 1) := by decide +kernel
theorem dX12_prove_149 : decode cX12_prove 149 = .ok (.getfield 103, 3) := by decide +kernel
theorem dX12_prove_152 : decode cX12_prove 152 = .ok (.ireturn, 1) := by decide +kernel
theorem dX12_told_0 : decode cX12_told 0 = .ok (.iload_n 1, 1) := by decide +kernel
theorem dX12_told_1 : decode cX12_told 1 = .ok (.ifCond .ne 10, 3) := by decide +kernel
theorem dX12_told_4 : decode cX12_told 4 = .ok (.aload_n 0, 1) := by decide +kernel
theorem dX12_told_5 : decode cX12_told 5 = .ok (.getfield 338, 3) := by decide +kernel
theorem dX12_told_8 : decode cX12_told 8 = .ok (.goto 41, 3) := by decide +kernel
theorem dX12_told_11 : decode cX12_told 11 = .ok (.iload_n 1, 1) := by decide +kernel
theorem dX12_told_12 : decode cX12_told 12 = .ok (.iconst 1, 1) := by decide +kernel
theorem dX12_told_13 : decode cX12_told 13 = .ok (.if_icmp .ne 10, 3) := by decide +kernel
theorem dX12_told_16 : decode cX12_told 16 = .ok (.aload_n 0, 1) := by decide +kernel
theorem dX12_told_17 : decode cX12_told 17 = .ok (.getfield 332, 3) := by decide +kernel
theorem dX12_told_20 : decode cX12_told 20 = .ok (.goto 29, 3) := by decide +kernel
theorem dX12_told_23 : decode cX12_told 23 = .ok (.iload_n 1, 1) := by decide +kernel
theorem dX12_told_24 : decode cX12_told 24 = .ok (.iconst 2, 1) := by decide +kernel
theorem dX12_told_25 : decode cX12_told 25 = .ok (.if_icmp .ne 10, 3) := by decide +kernel
theorem dX12_told_28 : decode cX12_told 28 = .ok (.aload_n 0, 1) := by decide +kernel
theorem dX12_told_29 : decode cX12_told 29 = .ok (.getfield 344, 3) := by decide +kernel
theorem dX12_told_32 : decode cX12_told 32 = .ok (.goto 17, 3) := by decide +kernel
theorem dX12_told_35 : decode cX12_told 35 = .ok (.iload_n 1, 1) := by decide +kernel
theorem dX12_told_36 : decode cX12_told 36 = .ok (.iconst 3, 1) := by decide +kernel
theorem dX12_told_37 : decode cX12_told 37 = .ok (.if_icmp .ne 10, 3) := by decide +kernel
theorem dX12_told_40 : decode cX12_told 40 = .ok (.aload_n 0, 1) := by decide +kernel
theorem dX12_told_41 : decode cX12_told 41 = .ok (.getfield 103, 3) := by decide +kernel
theorem dX12_told_44 : decode cX12_told 44 = .ok (.goto 5, 3) := by decide +kernel
theorem dX12_told_47 : decode cX12_told 47 = .ok (.bipush (-2), 2) := by decide +kernel
theorem dX12_told_49 : decode cX12_told 49 = .ok (.ireturn, 1) := by decide +kernel
theorem dX12_check_0 : decode cX12_check 0 = .ok (.aload_n 0, 1) := by decide +kernel
theorem dX12_check_1 : decode cX12_check 1 = .ok (.iload_n 1, 1) := by decide +kernel
theorem dX12_check_2 : decode cX12_check 2 = .ok (.invokevirtual 490, 3) := by decide +kernel
theorem dX12_check_5 : decode cX12_check 5 = .ok (.ifCond .ne 5, 3) := by decide +kernel
theorem dX12_check_8 : decode cX12_check 8 = .ok (.iconst (-1), 1) := by decide +kernel
theorem dX12_check_9 : decode cX12_check 9 = .ok (.ireturn, 1) := by decide +kernel
theorem dX12_check_10 : decode cX12_check 10 = .ok (.aload_n 0, 1) := by decide +kernel
theorem dX12_check_11 : decode cX12_check 11 = .ok (.iconst 1, 1) := by decide +kernel
theorem dX12_check_12 : decode cX12_check 12 = .ok (.invokevirtual 511, 3) := by decide +kernel
theorem dX12_check_15 : decode cX12_check 15 = .ok (.aload_n 0, 1) := by decide +kernel
theorem dX12_check_16 : decode cX12_check 16 = .ok (.iconst 0, 1) := by decide +kernel
theorem dX12_check_17 : decode cX12_check 17 = .ok (.putfield 451, 3) := by decide +kernel
theorem dX12_check_20 : decode cX12_check 20 = .ok (.aload_n 0, 1) := by decide +kernel
theorem dX12_check_21 : decode cX12_check 21 = .ok (.aload_n 0, 1) := by decide +kernel
theorem dX12_check_22 : decode cX12_check 22 = .ok (.getfield 515, 3) := by decide +kernel
theorem dX12_check_25 : decode cX12_check 25 = .ok (.invokevirtual 521, 3) := by decide +kernel
theorem dX12_check_28 : decode cX12_check 28 = .ok (.istore_n 2, 1) := by decide +kernel
theorem dX12_check_29 : decode cX12_check 29 = .ok (.aload_n 0, 1) := by decide +kernel
theorem dX12_check_30 : decode cX12_check 30 = .ok (.getfield 257, 3) := by decide +kernel
theorem dX12_check_33 : decode cX12_check 33 = .ok (.ifCond .ne 23, 3) := by decide +kernel
theorem dX12_check_36 : decode cX12_check 36 = .ok (.aload_n 0, 1) := by decide +kernel
theorem dX12_check_37 : decode cX12_check 37 = .ok (.invokevirtual 270, 3) := by decide +kernel
theorem dX12_check_40 : decode cX12_check 40 = .ok (.sipush 256, 3) := by decide +kernel
theorem dX12_check_43 : decode cX12_check 43 = .ok (.if_icmp .eq 13, 3) := by decide +kernel
theorem dX12_check_46 : decode cX12_check 46 = .ok (.aload_n 0, 1) := by decide +kernel
theorem dX12_check_47 : decode cX12_check 47 = .ok (.iconst 2, 1) := by decide +kernel
theorem dX12_check_48 : decode cX12_check 48 = .ok (.aload_n 0, 1) := by decide +kernel
theorem dX12_check_49 : decode cX12_check 49 = .ok (.getfield 227, 3) := by decide +kernel
theorem dX12_check_52 : decode cX12_check 52 = .ok (.invokevirtual 266, 3) := by decide +kernel
theorem dX12_check_55 : decode cX12_check 55 = .ok (.istore_n 3, 1) := by decide +kernel
theorem dX12_check_56 : decode cX12_check 56 = .ok (.aload_n 0, 1) := by decide +kernel
theorem dX12_check_57 : decode cX12_check 57 = .ok (.aload_n 0, 1) := by decide +kernel
theorem dX12_check_58 : decode cX12_check 58 = .ok (.getfield 257, 3) := by decide +kernel
theorem dX12_check_61 : decode cX12_check 61 = .ok (.ifCond .ne 7, 3) := by decide +kernel
theorem dX12_check_64 : decode cX12_check 64 = .ok (.iconst (-1), 1) := by decide +kernel
theorem dX12_check_65 : decode cX12_check 65 = .ok (.goto 7, 3) := by decide +kernel
theorem dX12_check_68 : decode cX12_check 68 = .ok (.aload_n 0, 1) := by decide +kernel
theorem dX12_check_69 : decode cX12_check 69 = .ok (.getfield 260, 3) := by decide +kernel
theorem dX12_check_72 : decode cX12_check 72 = .ok (.putfield 31, 3) := by decide +kernel
theorem dX12_check_75 : decode cX12_check 75 = .ok (.aload_n 0, 1) := by decide +kernel
theorem dX12_check_76 : decode cX12_check 76 = .ok (.getfield 257, 3) := by decide +kernel
theorem dX12_check_79 : decode cX12_check 79 = .ok (.ifCond .eq 11, 3) := by decide +kernel
theorem dX12_check_82 : decode cX12_check 82 = .ok (.bipush (-10), 2) := by decide +kernel
theorem dX12_check_84 : decode cX12_check 84 = .ok (.aload_n 0, 1) := by decide +kernel
theorem dX12_check_85 : decode cX12_check 85 = .ok (.getfield 257, 3) := by decide +kernel
theorem dX12_check_88 : decode cX12_check 88 = .ok (.isub, 1) := by decide +kernel
theorem dX12_check_89 : decode cX12_check 89 = .ok (.ireturn, 1) := by decide +kernel
theorem dX12_check_90 : decode cX12_check 90 = .ok (.iconst 0, 1) := by decide +kernel
theorem dX12_check_91 : decode cX12_check 91 = .ok (.istore_n 3, 1) := by decide +kernel
theorem dX12_check_92 : decode cX12_check 92 = .ok (.iload_n 3, 1) := by decide +kernel
theorem dX12_check_93 : decode cX12_check 93 = .ok (.aload_n 0, 1) := by decide +kernel
theorem dX12_check_94 : decode cX12_check 94 = .ok (.getfield 515, 3) := by decide +kernel
theorem dX12_check_97 : decode cX12_check 97 = .ok (.if_icmp .ge 21, 3) := by decide +kernel
theorem dX12_check_100 : decode cX12_check 100 = .ok (.aload_n 0, 1) := by decide +kernel
theorem dX12_check_101 : decode cX12_check 101 = .ok (.getfield 163, 3) := by decide +kernel
theorem dX12_check_104 : decode cX12_check 104 = .ok (.iload_n 3, 1) := by decide +kernel
theorem dX12_check_105 : decode cX12_check 105 = .ok (.aload_n 0, 1) := by decide +kernel
theorem dX12_check_106 : decode cX12_check 106 = .ok (.getfield 42, 3) := by decide +kernel
theorem dX12_check_109 : decode cX12_check 109 = .ok (.iload_n 3, 1) := by decide +kernel
theorem dX12_check_110 : decode cX12_check 110 = .ok (.iaload, 1) := by decide +kernel
theorem dX12_check_111 : decode cX12_check 111 = .ok (.iastore, 1) := by decide +kernel
theorem dX12_check_112 : decode cX12_check 112 = .ok (.iinc 3 1, 3) := by decide +kernel
theorem dX12_check_115 : decode cX12_check 115 = .ok (.goto (-23), 3) := by decide +kernel
theorem dX12_check_118 : decode cX12_check 118 = .ok (.aload_n 0, 1) := by decide +kernel
theorem dX12_check_119 : decode cX12_check 119 = .ok (.iload_n 2, 1) := by decide +kernel
theorem dX12_check_120 : decode cX12_check 120 = .ok (.iload_n 1, 1) := by decide +kernel
theorem dX12_check_121 : decode cX12_check 121 = .ok (.invokevirtual 524, 3) := by decide +kernel
theorem dX12_check_124 : decode cX12_check 124 = .ok (.ifCond .eq 7, 3) := by decide +kernel
theorem dX12_check_127 : decode cX12_check 127 = .ok (.iconst 1, 1) := by decide +kernel
theorem dX12_check_128 : decode cX12_check 128 = .ok (.goto 4, 3) := by decide +kernel
theorem dX12_check_131 : decode cX12_check 131 = .ok (.iconst 0, 1) := by decide +kernel
theorem dX12_check_132 : decode cX12_check 132 = .ok (.ireturn, 1) := by decide +kernel
theorem dX12_comesOut_0 : decode cX12_comesOut 0 = .ok (.iconst 0, 1) := by decide +kernel
theorem dX12_comesOut_1 : decode cX12_comesOut 1 = .ok (.istore_n 3, 1) := by decide +kernel
theorem dX12_comesOut_2 : decode cX12_comesOut 2 = .ok (.iload_n 3, 1) := by decide +kernel
theorem dX12_comesOut_3 : decode cX12_comesOut 3 = .ok (.iload_n 1, 1) := by decide +kernel
theorem dX12_comesOut_4 : decode cX12_comesOut 4 = .ok (.if_icmp .gt 178, 3) := by decide +kernel
theorem dX12_comesOut_7 : decode cX12_comesOut 7 = .ok (.aload_n 0, 1) := by decide +kernel
theorem dX12_comesOut_8 : decode cX12_comesOut 8 = .ok (.getfield 188, 3) := by decide +kernel
theorem dX12_comesOut_11 : decode cX12_comesOut 11 = .ok (.iload_n 3, 1) := by decide +kernel
theorem dX12_comesOut_12 : decode cX12_comesOut 12 = .ok (.baload, 1) := by decide +kernel
theorem dX12_comesOut_13 : decode cX12_comesOut 13 = .ok (.ifCond .eq 163, 3) := by decide +kernel
theorem dX12_comesOut_16 : decode cX12_comesOut 16 = .ok (.aload_n 0, 1) := by decide +kernel
theorem dX12_comesOut_17 : decode cX12_comesOut 17 = .ok (.getfield 7, 3) := by decide +kernel
theorem dX12_comesOut_20 : decode cX12_comesOut 20 = .ok (.iload_n 3, 1) := by decide +kernel
theorem dX12_comesOut_21 : decode cX12_comesOut 21 = .ok (.iaload, 1) := by decide +kernel
theorem dX12_comesOut_22 : decode cX12_comesOut 22 = .ok (.iconst 3, 1) := by decide +kernel
theorem dX12_comesOut_23 : decode cX12_comesOut 23 = .ok (.if_icmp .lt 21, 3) := by decide +kernel
theorem dX12_comesOut_26 : decode cX12_comesOut 26 = .ok (.aload_n 0, 1) := by decide +kernel
theorem dX12_comesOut_27 : decode cX12_comesOut 27 = .ok (.getfield 201, 3) := by decide +kernel
theorem dX12_comesOut_30 : decode cX12_comesOut 30 = .ok (.aload_n 0, 1) := by decide +kernel
theorem dX12_comesOut_31 : decode cX12_comesOut 31 = .ok (.getfield 13, 3) := by decide +kernel
theorem dX12_comesOut_34 : decode cX12_comesOut 34 = .ok (.iload_n 3, 1) := by decide +kernel
theorem dX12_comesOut_35 : decode cX12_comesOut 35 = .ok (.iaload, 1) := by decide +kernel
theorem dX12_comesOut_36 : decode cX12_comesOut 36 = .ok (.baload, 1) := by decide +kernel
theorem dX12_comesOut_37 : decode cX12_comesOut 37 = .ok (.ifCond .eq 7, 3) := by decide +kernel
theorem dX12_comesOut_40 : decode cX12_comesOut 40 = .ok (.iconst 1, 1) := by decide +kernel
theorem dX12_comesOut_41 : decode cX12_comesOut 41 = .ok (.goto 4, 3) := by decide +kernel
theorem dX12_comesOut_44 : decode cX12_comesOut 44 = .ok (.iconst 0, 1) := by decide +kernel
theorem dX12_comesOut_45 : decode cX12_comesOut 45 = .ok (.istore 4, 2) := by decide +kernel
theorem dX12_comesOut_47 : decode cX12_comesOut 47 = .ok (.aload_n 0, 1) := by decide +kernel
theorem dX12_comesOut_48 : decode cX12_comesOut 48 = .ok (.getfield 7, 3) := by decide +kernel
theorem dX12_comesOut_51 : decode cX12_comesOut 51 = .ok (.iload_n 3, 1) := by decide +kernel
theorem dX12_comesOut_52 : decode cX12_comesOut 52 = .ok (.iaload, 1) := by decide +kernel
theorem dX12_comesOut_53 : decode cX12_comesOut 53 = .ok (.iconst 3, 1) := by decide +kernel
theorem dX12_comesOut_54 : decode cX12_comesOut 54 = .ok (.if_icmp .lt 21, 3) := by decide +kernel
theorem dX12_comesOut_57 : decode cX12_comesOut 57 = .ok (.aload_n 0, 1) := by decide +kernel
theorem dX12_comesOut_58 : decode cX12_comesOut 58 = .ok (.getfield 201, 3) := by decide +kernel
theorem dX12_comesOut_61 : decode cX12_comesOut 61 = .ok (.aload_n 0, 1) := by decide +kernel
theorem dX12_comesOut_62 : decode cX12_comesOut 62 = .ok (.getfield 16, 3) := by decide +kernel
theorem dX12_comesOut_65 : decode cX12_comesOut 65 = .ok (.iload_n 3, 1) := by decide +kernel
theorem dX12_comesOut_66 : decode cX12_comesOut 66 = .ok (.iaload, 1) := by decide +kernel
theorem dX12_comesOut_67 : decode cX12_comesOut 67 = .ok (.baload, 1) := by decide +kernel
theorem dX12_comesOut_68 : decode cX12_comesOut 68 = .ok (.ifCond .eq 7, 3) := by decide +kernel
theorem dX12_comesOut_71 : decode cX12_comesOut 71 = .ok (.iconst 1, 1) := by decide +kernel
theorem dX12_comesOut_72 : decode cX12_comesOut 72 = .ok (.goto 4, 3) := by decide +kernel
theorem dX12_comesOut_75 : decode cX12_comesOut 75 = .ok (.iconst 0, 1) := by decide +kernel
theorem dX12_comesOut_76 : decode cX12_comesOut 76 = .ok (.istore 5, 2) := by decide +kernel
theorem dX12_comesOut_78 : decode cX12_comesOut 78 = .ok (.aload_n 0, 1) := by decide +kernel
theorem dX12_comesOut_79 : decode cX12_comesOut 79 = .ok (.getfield 7, 3) := by decide +kernel
theorem dX12_comesOut_82 : decode cX12_comesOut 82 = .ok (.iload_n 3, 1) := by decide +kernel
theorem dX12_comesOut_83 : decode cX12_comesOut 83 = .ok (.iaload, 1) := by decide +kernel
theorem dX12_comesOut_84 : decode cX12_comesOut 84 = .ok (.istore 6, 2) := by decide +kernel
theorem dX12_comesOut_86 : decode cX12_comesOut 86 = .ok (.aload_n 0, 1) := by decide +kernel
theorem dX12_comesOut_87 : decode cX12_comesOut 87 = .ok (.getfield 201, 3) := by decide +kernel
theorem dX12_comesOut_90 : decode cX12_comesOut 90 = .ok (.iload_n 3, 1) := by decide +kernel
theorem dX12_comesOut_91 : decode cX12_comesOut 91 = .ok (.iload 6, 2) := by decide +kernel
theorem dX12_comesOut_93 : decode cX12_comesOut 93 = .ok (.iconst 1, 1) := by decide +kernel
theorem dX12_comesOut_94 : decode cX12_comesOut 94 = .ok (.if_icmp .eq 76, 3) := by decide +kernel
theorem dX12_comesOut_97 : decode cX12_comesOut 97 = .ok (.iload 6, 2) := by decide +kernel
theorem dX12_comesOut_99 : decode cX12_comesOut 99 = .ok (.iconst 2, 1) := by decide +kernel
theorem dX12_comesOut_100 : decode cX12_comesOut 100 = .ok (.if_icmp .ne 22, 3) := by decide +kernel
theorem dX12_comesOut_103 : decode cX12_comesOut 103 = .ok (.iload_n 2, 1) := by decide +kernel
theorem dX12_comesOut_104 : decode cX12_comesOut 104 = .ok (.aload_n 0, 1) := by decide +kernel
theorem dX12_comesOut_105 : decode cX12_comesOut 105 = .ok (.getfield 198, 3) := by decide +kernel
theorem dX12_comesOut_108 : decode cX12_comesOut 108 = .ok (.aload_n 0, 1) := by decide +kernel
theorem dX12_comesOut_109 : decode cX12_comesOut 109 = .ok (.getfield 13, 3) := by decide +kernel
theorem dX12_comesOut_112 : decode cX12_comesOut 112 = .ok (.iload_n 3, 1) := by decide +kernel
theorem dX12_comesOut_113 : decode cX12_comesOut 113 = .ok (.iaload, 1) := by decide +kernel
theorem dX12_comesOut_114 : decode cX12_comesOut 114 = .ok (.iaload, 1) := by decide +kernel
theorem dX12_comesOut_115 : decode cX12_comesOut 115 = .ok (.ishr, 1) := by decide +kernel
theorem dX12_comesOut_116 : decode cX12_comesOut 116 = .ok (.iconst 1, 1) := by decide +kernel
theorem dX12_comesOut_117 : decode cX12_comesOut 117 = .ok (.iand, 1) := by decide +kernel
theorem dX12_comesOut_118 : decode cX12_comesOut 118 = .ok (.iconst 1, 1) := by decide +kernel
theorem dX12_comesOut_119 : decode cX12_comesOut 119 = .ok (.if_icmp .eq 51, 3) := by decide +kernel
theorem dX12_comesOut_122 : decode cX12_comesOut 122 = .ok (.iload 6, 2) := by decide +kernel
theorem dX12_comesOut_124 : decode cX12_comesOut 124 = .ok (.iconst 3, 1) := by decide +kernel
theorem dX12_comesOut_125 : decode cX12_comesOut 125 = .ok (.if_icmp .ne 13, 3) := by decide +kernel
theorem dX12_comesOut_128 : decode cX12_comesOut 128 = .ok (.iload 4, 2) := by decide +kernel
theorem dX12_comesOut_130 : decode cX12_comesOut 130 = .ok (.ifCond .eq 8, 3) := by decide +kernel
theorem dX12_comesOut_133 : decode cX12_comesOut 133 = .ok (.iload 5, 2) := by decide +kernel
theorem dX12_comesOut_135 : decode cX12_comesOut 135 = .ok (.ifCond .ne 35, 3) := by decide +kernel
theorem dX12_comesOut_138 : decode cX12_comesOut 138 = .ok (.iload 6, 2) := by decide +kernel
theorem dX12_comesOut_140 : decode cX12_comesOut 140 = .ok (.iconst 4, 1) := by decide +kernel
theorem dX12_comesOut_141 : decode cX12_comesOut 141 = .ok (.if_icmp .ne 13, 3) := by decide +kernel
theorem dX12_comesOut_144 : decode cX12_comesOut 144 = .ok (.iload 4, 2) := by decide +kernel
theorem dX12_comesOut_146 : decode cX12_comesOut 146 = .ok (.ifCond .ne 24, 3) := by decide +kernel
theorem dX12_comesOut_149 : decode cX12_comesOut 149 = .ok (.iload 5, 2) := by decide +kernel
theorem dX12_comesOut_151 : decode cX12_comesOut 151 = .ok (.ifCond .ne 19, 3) := by decide +kernel
theorem dX12_comesOut_154 : decode cX12_comesOut 154 = .ok (.iload 6, 2) := by decide +kernel
theorem dX12_comesOut_156 : decode cX12_comesOut 156 = .ok (.iconst 5, 1) := by decide +kernel
theorem dX12_comesOut_157 : decode cX12_comesOut 157 = .ok (.if_icmp .ne 17, 3) := by decide +kernel
theorem dX12_comesOut_160 : decode cX12_comesOut 160 = .ok (.iload 4, 2) := by decide +kernel
theorem dX12_comesOut_162 : decode cX12_comesOut 162 = .ok (.ifCond .eq 8, 3) := by decide +kernel
theorem dX12_comesOut_165 : decode cX12_comesOut 165 = .ok (.iload 5, 2) := by decide +kernel
theorem dX12_comesOut_167 : decode cX12_comesOut 167 = .ok (.ifCond .eq 7, 3) := by decide +kernel
theorem dX12_comesOut_170 : decode cX12_comesOut 170 = .ok (.iconst 1, 1) := by decide +kernel
theorem dX12_comesOut_171 : decode cX12_comesOut 171 = .ok (.goto 4, 3) := by decide +kernel
theorem dX12_comesOut_174 : decode cX12_comesOut 174 = .ok (.iconst 0, 1) := by decide +kernel
theorem dX12_comesOut_175 : decode cX12_comesOut 175 = .ok (.bastore, 1) := by decide +kernel
theorem dX12_comesOut_176 : decode cX12_comesOut 176 = .ok (.iinc 3 1, 3) := by decide +kernel
theorem dX12_comesOut_179 : decode cX12_comesOut 179 = .ok (.goto (-177), 3) := by decide +kernel
theorem dX12_comesOut_182 : decode cX12_comesOut 182 = .ok (.aload_n 0, 1) := by decide +kernel
theorem dX12_comesOut_183 : decode cX12_comesOut 183 = .ok (.getfield 201, 3) := by decide +kernel
theorem dX12_comesOut_186 : decode cX12_comesOut 186 = .ok (.iload_n 1, 1) := by decide +kernel
theorem dX12_comesOut_187 : decode cX12_comesOut 187 = .ok (.baload, 1) := by decide +kernel
theorem dX12_comesOut_188 : decode cX12_comesOut 188 = .ok (.ireturn, 1) := by decide +kernel
theorem dX12_classical_0 : decode cX12_classical 0 = .ok (.aload_n 0, 1) := by decide +kernel
theorem dX12_classical_1 : decode cX12_classical 1 = .ok (.iload_n 1, 1) := by decide +kernel
theorem dX12_classical_2 : decode cX12_classical 2 = .ok (.invokevirtual 490, 3) := by decide +kernel
theorem dX12_classical_5 : decode cX12_classical 5 = .ok (.ifCond .ne 5, 3) := by decide +kernel
theorem dX12_classical_8 : decode cX12_classical 8 = .ok (.iconst (-1), 1) := by decide +kernel
theorem dX12_classical_9 : decode cX12_classical 9 = .ok (.ireturn, 1) := by decide +kernel
theorem dX12_classical_10 : decode cX12_classical 10 = .ok (.aload_n 0, 1) := by decide +kernel
theorem dX12_classical_11 : decode cX12_classical 11 = .ok (.iload_n 1, 1) := by decide +kernel
theorem dX12_classical_12 : decode cX12_classical 12 = .ok (.invokevirtual 493, 3) := by decide +kernel
theorem dX12_classical_15 : decode cX12_classical 15 = .ok (.iconst 0, 1) := by decide +kernel
theorem dX12_classical_16 : decode cX12_classical 16 = .ok (.istore_n 2, 1) := by decide +kernel
theorem dX12_classical_17 : decode cX12_classical 17 = .ok (.iconst 0, 1) := by decide +kernel
theorem dX12_classical_18 : decode cX12_classical 18 = .ok (.istore_n 3, 1) := by decide +kernel
theorem dX12_classical_19 : decode cX12_classical 19 = .ok (.iload_n 3, 1) := by decide +kernel
theorem dX12_classical_20 : decode cX12_classical 20 = .ok (.aload_n 0, 1) := by decide +kernel
theorem dX12_classical_21 : decode cX12_classical 21 = .ok (.getfield 280, 3) := by decide +kernel
theorem dX12_classical_24 : decode cX12_classical 24 = .ok (.if_icmp .ge 43, 3) := by decide +kernel
theorem dX12_classical_27 : decode cX12_classical 27 = .ok (.aload_n 0, 1) := by decide +kernel
theorem dX12_classical_28 : decode cX12_classical 28 = .ok (.getfield 25, 3) := by decide +kernel
theorem dX12_classical_31 : decode cX12_classical 31 = .ok (.iload_n 3, 1) := by decide +kernel
theorem dX12_classical_32 : decode cX12_classical 32 = .ok (.iaload, 1) := by decide +kernel
theorem dX12_classical_33 : decode cX12_classical 33 = .ok (.iload_n 1, 1) := by decide +kernel
theorem dX12_classical_34 : decode cX12_classical 34 = .ok (.if_icmp .gt 27, 3) := by decide +kernel
theorem dX12_classical_37 : decode cX12_classical 37 = .ok (.aload_n 0, 1) := by decide +kernel
theorem dX12_classical_38 : decode cX12_classical 38 = .ok (.getfield 188, 3) := by decide +kernel
theorem dX12_classical_41 : decode cX12_classical 41 = .ok (.aload_n 0, 1) := by decide +kernel
theorem dX12_classical_42 : decode cX12_classical 42 = .ok (.getfield 25, 3) := by decide +kernel
theorem dX12_classical_45 : decode cX12_classical 45 = .ok (.iload_n 3, 1) := by decide +kernel
theorem dX12_classical_46 : decode cX12_classical 46 = .ok (.iaload, 1) := by decide +kernel
theorem dX12_classical_47 : decode cX12_classical 47 = .ok (.baload, 1) := by decide +kernel
theorem dX12_classical_48 : decode cX12_classical 48 = .ok (.ifCond .eq 13, 3) := by decide +kernel
theorem dX12_classical_51 : decode cX12_classical 51 = .ok (.aload_n 0, 1) := by decide +kernel
theorem dX12_classical_52 : decode cX12_classical 52 = .ok (.getfield 198, 3) := by decide +kernel
theorem dX12_classical_55 : decode cX12_classical 55 = .ok (.iload_n 3, 1) := by decide +kernel
theorem dX12_classical_56 : decode cX12_classical 56 = .ok (.iload_n 2, 1) := by decide +kernel
theorem dX12_classical_57 : decode cX12_classical 57 = .ok (.iastore, 1) := by decide +kernel
theorem dX12_classical_58 : decode cX12_classical 58 = .ok (.iinc 2 1, 3) := by decide +kernel
theorem dX12_classical_61 : decode cX12_classical 61 = .ok (.iinc 3 1, 3) := by decide +kernel
theorem dX12_classical_64 : decode cX12_classical 64 = .ok (.goto (-45), 3) := by decide +kernel
theorem dX12_classical_67 : decode cX12_classical 67 = .ok (.iload_n 2, 1) := by decide +kernel
theorem dX12_classical_68 : decode cX12_classical 68 = .ok (.bipush 12, 2) := by decide +kernel
theorem dX12_classical_70 : decode cX12_classical 70 = .ok (.if_icmp .le 6, 3) := by decide +kernel
theorem dX12_classical_73 : decode cX12_classical 73 = .ok (.bipush (-4), 2) := by decide +kernel
theorem dX12_classical_75 : decode cX12_classical 75 = .ok (.ireturn, 1) := by decide +kernel
theorem dX12_classical_76 : decode cX12_classical 76 = .ok (.iconst 1, 1) := by decide +kernel
theorem dX12_classical_77 : decode cX12_classical 77 = .ok (.istore_n 3, 1) := by decide +kernel
theorem dX12_classical_78 : decode cX12_classical 78 = .ok (.iconst 0, 1) := by decide +kernel
theorem dX12_classical_79 : decode cX12_classical 79 = .ok (.istore 4, 2) := by decide +kernel
theorem dX12_classical_81 : decode cX12_classical 81 = .ok (.iload 4, 2) := by decide +kernel
theorem dX12_classical_83 : decode cX12_classical 83 = .ok (.iconst 1, 1) := by decide +kernel
theorem dX12_classical_84 : decode cX12_classical 84 = .ok (.iload_n 2, 1) := by decide +kernel
theorem dX12_classical_85 : decode cX12_classical 85 = .ok (.ishl, 1) := by decide +kernel
theorem dX12_classical_86 : decode cX12_classical 86 = .ok (.if_icmp .ge 21, 3) := by decide +kernel
theorem dX12_classical_89 : decode cX12_classical 89 = .ok (.iload_n 3, 1) := by decide +kernel
theorem dX12_classical_90 : decode cX12_classical 90 = .ok (.ifCond .eq 17, 3) := by decide +kernel
theorem dX12_classical_93 : decode cX12_classical 93 = .ok (.aload_n 0, 1) := by decide +kernel
theorem dX12_classical_94 : decode cX12_classical 94 = .ok (.iload_n 1, 1) := by decide +kernel
theorem dX12_classical_95 : decode cX12_classical 95 = .ok (.iload 4, 2) := by decide +kernel
theorem dX12_classical_97 : decode cX12_classical 97 = .ok (.invokevirtual 527, 3) := by decide +kernel
theorem dX12_classical_100 : decode cX12_classical 100 = .ok (.istore_n 3, 1) := by decide +kernel
theorem dX12_classical_101 : decode cX12_classical 101 = .ok (.iinc 4 1, 3) := by decide +kernel
theorem dX12_classical_104 : decode cX12_classical 104 = .ok (.goto (-23), 3) := by decide +kernel
theorem dX12_classical_107 : decode cX12_classical 107 = .ok (.iload_n 3, 1) := by decide +kernel
theorem dX12_classical_108 : decode cX12_classical 108 = .ok (.ifCond .eq 7, 3) := by decide +kernel
theorem dX12_classical_111 : decode cX12_classical 111 = .ok (.iconst 1, 1) := by decide +kernel
theorem dX12_classical_112 : decode cX12_classical 112 = .ok (.goto 4, 3) := by decide +kernel
theorem dX12_classical_115 : decode cX12_classical 115 = .ok (.iconst 0, 1) := by decide +kernel
theorem dX12_classical_116 : decode cX12_classical 116 = .ok (.ireturn, 1) := by decide +kernel
