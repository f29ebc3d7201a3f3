theorem dX12_opened_169 : decode cX12_opened 169 = .ok (.iconst 3, 1) := by decide +kernel
theorem dX12_opened_170 : decode cX12_opened 170 = .ok (.if_icmp .ne 29, 3) := by decide +kernel
theorem dX12_opened_173 : decode cX12_opened 173 = .ok (.aload_n 0, 1) := by decide +kernel
theorem dX12_opened_174 : decode cX12_opened 174 = .ok (.iload_n 1, 1) := by decide +kernel
theorem dX12_opened_175 : decode cX12_opened 175 = .ok (.iconst (-1), 1) := by decide +kernel
theorem dX12_opened_176 : decode cX12_opened 176 = .ok (.aload_n 0, 1) := by decide +kernel
theorem dX12_opened_177 : decode cX12_opened 177 = .ok (.getfield 13, 3) := by decide +kernel
theorem dX12_opened_180 : decode cX12_opened 180 = .ok (.iload 4, 2) := by decide +kernel
theorem dX12_opened_182 : decode cX12_opened 182 = .ok (.iaload, 1) := by decide +kernel
theorem dX12_opened_183 : decode cX12_opened 183 = .ok (.iload_n 2, 1) := by decide +kernel
theorem dX12_opened_184 : decode cX12_opened 184 = .ok (.invokevirtual 356, 3) := by decide +kernel
theorem dX12_opened_187 : decode cX12_opened 187 = .ok (.aload_n 0, 1) := by decide +kernel
theorem dX12_opened_188 : decode cX12_opened 188 = .ok (.getfield 91, 3) := by decide +kernel
theorem dX12_opened_191 : decode cX12_opened 191 = .ok (.iload_n 1, 1) := by decide +kernel
theorem dX12_opened_192 : decode cX12_opened 192 = .ok (.iconst 3, 1) := by decide +kernel
theorem dX12_opened_193 : decode cX12_opened 193 = .ok (.iastore, 1) := by decide +kernel
theorem dX12_opened_194 : decode cX12_opened 194 = .ok (.aload_n 0, 1) := by decide +kernel
theorem dX12_opened_195 : decode cX12_opened 195 = .ok (.invokevirtual 367, 3) := by decide +kernel
theorem dX12_opened_198 : decode cX12_opened 198 = .ok (.ireturn, 1) := by decide +kernel
theorem dX12_opened_199 : decode cX12_opened 199 = .ok (.iconst 0, 1) := by decide +kernel
theorem dX12_opened_200 : decode cX12_opened 200 = .ok (.istore_n 3, 1) := by decide +kernel
theorem dX12_opened_201 : decode cX12_opened 201 = .ok (.iload_n 3, 1) := by decide +kernel
theorem dX12_opened_202 : decode cX12_opened 202 = .ok (.aload_n 0, 1) := by decide +kernel
theorem dX12_opened_203 : decode cX12_opened 203 = .ok (.getfield 82, 3) := by decide +kernel
theorem dX12_opened_206 : decode cX12_opened 206 = .ok (.iload_n 1, 1) := by decide +kernel
theorem dX12_opened_207 : decode cX12_opened 207 = .ok (.iaload, 1) := by decide +kernel
theorem dX12_opened_208 : decode cX12_opened 208 = .ok (.if_icmp .ge 18, 3) := by decide +kernel
theorem dX12_opened_211 : decode cX12_opened 211 = .ok (.aload_n 0, 1) := by decide +kernel
theorem dX12_opened_212 : decode cX12_opened 212 = .ok (.iload_n 1, 1) := by decide +kernel
theorem dX12_opened_213 : decode cX12_opened 213 = .ok (.iload_n 3, 1) := by decide +kernel
theorem dX12_opened_214 : decode cX12_opened 214 = .ok (.invokevirtual 370, 3) := by decide +kernel
theorem dX12_opened_217 : decode cX12_opened 217 = .ok (.ifCond .ne 9, 3) := by decide +kernel
theorem dX12_opened_220 : decode cX12_opened 220 = .ok (.iinc 3 1, 3) := by decide +kernel
theorem dX12_opened_223 : decode cX12_opened 223 = .ok (.goto (-22), 3) := by decide +kernel
theorem dX12_opened_226 : decode cX12_opened 226 = .ok (.iload_n 3, 1) := by decide +kernel
theorem dX12_opened_227 : decode cX12_opened 227 = .ok (.aload_n 0, 1) := by decide +kernel
theorem dX12_opened_228 : decode cX12_opened 228 = .ok (.getfield 82, 3) := by decide +kernel
theorem dX12_opened_231 : decode cX12_opened 231 = .ok (.iload_n 1, 1) := by decide +kernel
theorem dX12_opened_232 : decode cX12_opened 232 = .ok (.iaload, 1) := by decide +kernel
theorem dX12_opened_233 : decode cX12_opened 233 = .ok (.if_icmp .ge 10, 3) := by decide +kernel
theorem dX12_opened_236 : decode cX12_opened 236 = .ok (.aload_n 0, 1) := by decide +kernel
theorem dX12_opened_237 : decode cX12_opened 237 = .ok (.iload_n 1, 1) := by decide +kernel
theorem dX12_opened_238 : decode cX12_opened 238 = .ok (.iload_n 3, 1) := by decide +kernel
theorem dX12_opened_239 : decode cX12_opened 239 = .ok (.invokevirtual 373, 3) := by decide +kernel
theorem dX12_opened_242 : decode cX12_opened 242 = .ok (.ireturn, 1) := by decide +kernel
theorem dX12_opened_243 : decode cX12_opened 243 = .ok (.aload_n 0, 1) := by decide +kernel
theorem dX12_opened_244 : decode cX12_opened 244 = .ok (.getfield 7, 3) := by decide +kernel
theorem dX12_opened_247 : decode cX12_opened 247 = .ok (.iload 4, 2) := by decide +kernel
theorem dX12_opened_249 : decode cX12_opened 249 = .ok (.iaload, 1) := by decide +kernel
theorem dX12_opened_250 : decode cX12_opened 250 = .ok (.iconst 4, 1) := by decide +kernel
theorem dX12_opened_251 : decode cX12_opened 251 = .ok (.if_icmp .ne 30, 3) := by decide +kernel
theorem dX12_opened_254 : decode cX12_opened 254 = .ok (.aload_n 0, 1) := by decide +kernel
theorem dX12_opened_255 : decode cX12_opened 255 = .ok (.iload_n 1, 1) := by decide +kernel
theorem dX12_opened_256 : decode cX12_opened 256 = .ok (.iconst (-1), 1) := by decide +kernel
theorem dX12_opened_257 : decode cX12_opened 257 = .ok (.aload_n 0, 1) := by decide +kernel
theorem dX12_opened_258 : decode cX12_opened 258 = .ok (.getfield 13, 3) := by decide +kernel
theorem dX12_opened_261 : decode cX12_opened 261 = .ok (.iload 4, 2) := by decide +kernel
theorem dX12_opened_263 : decode cX12_opened 263 = .ok (.iaload, 1) := by decide +kernel
theorem dX12_opened_264 : decode cX12_opened 264 = .ok (.iload_n 2, 1) := by decide +kernel
theorem dX12_opened_265 : decode cX12_opened 265 = .ok (.invokevirtual 356, 3) := by decide +kernel
theorem dX12_opened_268 : decode cX12_opened 268 = .ok (.aload_n 0, 1) := by decide +kernel
theorem dX12_opened_269 : decode cX12_opened 269 = .ok (.getfield 91, 3) := by decide +kernel
theorem dX12_opened_272 : decode cX12_opened 272 = .ok (.iload_n 1, 1) := by decide +kernel
theorem dX12_opened_273 : decode cX12_opened 273 = .ok (.bipush 7, 2) := by decide +kernel
theorem dX12_opened_275 : decode cX12_opened 275 = .ok (.iastore, 1) := by decide +kernel
theorem dX12_opened_276 : decode cX12_opened 276 = .ok (.aload_n 0, 1) := by decide +kernel
theorem dX12_opened_277 : decode cX12_opened 277 = .ok (.invokevirtual 367, 3) := by decide +kernel
theorem dX12_opened_280 : decode cX12_opened 280 = .ok (.ireturn, 1) := by decide +kernel
theorem dX12_opened_281 : decode cX12_opened 281 = .ok (.aload_n 0, 1) := by decide +kernel
theorem dX12_opened_282 : decode cX12_opened 282 = .ok (.iload_n 1, 1) := by decide +kernel
theorem dX12_opened_283 : decode cX12_opened 283 = .ok (.iconst 0, 1) := by decide +kernel
theorem dX12_opened_284 : decode cX12_opened 284 = .ok (.invokevirtual 376, 3) := by decide +kernel
theorem dX12_opened_287 : decode cX12_opened 287 = .ok (.ireturn, 1) := by decide +kernel
theorem dX12_going_0 : decode cX12_going 0 = .ok (.aload_n 0, 1) := by decide +kernel
theorem dX12_going_1 : decode cX12_going 1 = .ok (.getfield 88, 3) := by decide +kernel
theorem dX12_going_4 : decode cX12_going 4 = .ok (.iload_n 1, 1) := by decide +kernel
theorem dX12_going_5 : decode cX12_going 5 = .ok (.iaload, 1) := by decide +kernel
theorem dX12_going_6 : decode cX12_going 6 = .ok (.istore_n 3, 1) := by decide +kernel
theorem dX12_going_7 : decode cX12_going 7 = .ok (.aload_n 0, 1) := by decide +kernel
theorem dX12_going_8 : decode cX12_going 8 = .ok (.getfield 73, 3) := by decide +kernel
theorem dX12_going_11 : decode cX12_going 11 = .ok (.bipush 60, 2) := by decide +kernel
theorem dX12_going_13 : decode cX12_going 13 = .ok (.iload_n 1, 1) := by decide +kernel
theorem dX12_going_14 : decode cX12_going 14 = .ok (.imul, 1) := by decide +kernel
theorem dX12_going_15 : decode cX12_going 15 = .ok (.iload_n 2, 1) := by decide +kernel
theorem dX12_going_16 : decode cX12_going 16 = .ok (.iadd, 1) := by decide +kernel
theorem dX12_going_17 : decode cX12_going 17 = .ok (.iaload, 1) := by decide +kernel
theorem dX12_going_18 : decode cX12_going 18 = .ok (.istore 4, 2) := by decide +kernel
theorem dX12_going_20 : decode cX12_going 20 = .ok (.aload_n 0, 1) := by decide +kernel
theorem dX12_going_21 : decode cX12_going 21 = .ok (.getfield 7, 3) := by decide +kernel
theorem dX12_going_24 : decode cX12_going 24 = .ok (.iload 4, 2) := by decide +kernel
theorem dX12_going_26 : decode cX12_going 26 = .ok (.iaload, 1) := by decide +kernel
theorem dX12_going_27 : decode cX12_going 27 = .ok (.iconst 4, 1) := by decide +kernel
theorem dX12_going_28 : decode cX12_going 28 = .ok (.if_icmp .ne 66, 3) := by decide +kernel
theorem dX12_going_31 : decode cX12_going 31 = .ok (.aload_n 0, 1) := by decide +kernel
theorem dX12_going_32 : decode cX12_going 32 = .ok (.getfield 94, 3) := by decide +kernel
theorem dX12_going_35 : decode cX12_going 35 = .ok (.iload_n 1, 1) := by decide +kernel
theorem dX12_going_36 : decode cX12_going 36 = .ok (.iload_n 2, 1) := by decide +kernel
theorem dX12_going_37 : decode cX12_going 37 = .ok (.iastore, 1) := by decide +kernel
theorem dX12_going_38 : decode cX12_going 38 = .ok (.aload_n 0, 1) := by decide +kernel
theorem dX12_going_39 : decode cX12_going 39 = .ok (.iload_n 1, 1) := by decide +kernel
theorem dX12_going_40 : decode cX12_going 40 = .ok (.iload_n 2, 1) := by decide +kernel
theorem dX12_going_41 : decode cX12_going 41 = .ok (.aload_n 0, 1) := by decide +kernel
theorem dX12_going_42 : decode cX12_going 42 = .ok (.getfield 85, 3) := by decide +kernel
theorem dX12_going_45 : decode cX12_going 45 = .ok (.iload_n 1, 1) := by decide +kernel
theorem dX12_going_46 : decode cX12_going 46 = .ok (.iaload, 1) := by decide +kernel
theorem dX12_going_47 : decode cX12_going 47 = .ok (.iload_n 3, 1) := by decide +kernel
theorem dX12_going_48 : decode cX12_going 48 = .ok (.iconst 1, 1) := by decide +kernel
theorem dX12_going_49 : decode cX12_going 49 = .ok (.iadd, 1) := by decide +kernel
theorem dX12_going_50 : decode cX12_going 50 = .ok (.invokevirtual 356, 3) := by decide +kernel
theorem dX12_going_53 : decode cX12_going 53 = .ok (.aload_n 0, 1) := by decide +kernel
theorem dX12_going_54 : decode cX12_going 54 = .ok (.getfield 91, 3) := by decide +kernel
theorem dX12_going_57 : decode cX12_going 57 = .ok (.iload_n 1, 1) := by decide +kernel
theorem dX12_going_58 : decode cX12_going 58 = .ok (.iconst 5, 1) := by decide +kernel
theorem dX12_going_59 : decode cX12_going 59 = .ok (.iastore, 1) := by decide +kernel
theorem dX12_going_60 : decode cX12_going 60 = .ok (.aload_n 0, 1) := by decide +kernel
theorem dX12_going_61 : decode cX12_going 61 = .ok (.iload_n 1, 1) := by decide +kernel
theorem dX12_going_62 : decode cX12_going 62 = .ok (.iconst 1, 1) := by decide +kernel
theorem dX12_going_63 : decode cX12_going 63 = .ok (.iadd, 1) := by decide +kernel
theorem dX12_going_64 : decode cX12_going 64 = .ok (.aload_n 0, 1) := by decide +kernel
theorem dX12_going_65 : decode cX12_going 65 = .ok (.getfield 13, 3) := by decide +kernel
theorem dX12_going_68 : decode cX12_going 68 = .ok (.iload 4, 2) := by decide +kernel
theorem dX12_going_70 : decode cX12_going 70 = .ok (.iaload, 1) := by decide +kernel
theorem dX12_going_71 : decode cX12_going 71 = .ok (.aload_n 0, 1) := by decide +kernel
theorem dX12_going_72 : decode cX12_going 72 = .ok (.iload_n 3, 1) := by decide +kernel
theorem dX12_going_73 : decode cX12_going 73 = .ok (.invokevirtual 360, 3) := by decide +kernel
theorem dX12_going_76 : decode cX12_going 76 = .ok (.iload_n 3, 1) := by decide +kernel
theorem dX12_going_77 : decode cX12_going 77 = .ok (.iconst 1, 1) := by decide +kernel
theorem dX12_going_78 : decode cX12_going 78 = .ok (.iadd, 1) := by decide +kernel
theorem dX12_going_79 : decode cX12_going 79 = .ok (.invokevirtual 363, 3) := by decide +kernel
theorem dX12_going_82 : decode cX12_going 82 = .ok (.ifCond .eq 10, 3) := by decide +kernel
theorem dX12_going_85 : decode cX12_going 85 = .ok (.aload_n 0, 1) := by decide +kernel
theorem dX12_going_86 : decode cX12_going 86 = .ok (.invokevirtual 367, 3) := by decide +kernel
theorem dX12_going_89 : decode cX12_going 89 = .ok (.goto 4, 3) := by decide +kernel
theorem dX12_going_92 : decode cX12_going 92 = .ok (.iconst 3, 1) := by decide +kernel
theorem dX12_going_93 : decode cX12_going 93 = .ok (.ireturn, 1) := by decide +kernel
theorem dX12_going_94 : decode cX12_going 94 = .ok (.aload_n 0, 1) := by decide +kernel
theorem dX12_going_95 : decode cX12_going 95 = .ok (.iload_n 1, 1) := by decide +kernel
theorem dX12_going_96 : decode cX12_going 96 = .ok (.iload_n 2, 1) := by decide +kernel
theorem dX12_going_97 : decode cX12_going 97 = .ok (.aload_n 0, 1) := by decide +kernel
theorem dX12_going_98 : decode cX12_going 98 = .ok (.getfield 85, 3) := by decide +kernel
theorem dX12_going_101 : decode cX12_going 101 = .ok (.iload_n 1, 1) := by decide +kernel
theorem dX12_going_102 : decode cX12_going 102 = .ok (.iaload, 1) := by decide +kernel
theorem dX12_going_103 : decode cX12_going 103 = .ok (.iload_n 3, 1) := by decide +kernel
theorem dX12_going_104 : decode cX12_going 104 = .ok (.invokevirtual 356, 3) := by decide +kernel
theorem dX12_going_107 : decode cX12_going 107 = .ok (.aload_n 0, 1) := by decide +kernel
theorem dX12_going_108 : decode cX12_going 108 = .ok (.getfield 91, 3) := by decide +kernel
theorem dX12_going_111 : decode cX12_going 111 = .ok (.iload_n 1, 1) := by decide +kernel
theorem dX12_going_112 : decode cX12_going 112 = .ok (.iconst 1, 1) := by decide +kernel
theorem dX12_going_113 : decode cX12_going 113 = .ok (.iastore, 1) := by decide +kernel
theorem dX12_going_114 : decode cX12_going 114 = .ok (.iload_n 1, 1) := by decide +kernel
theorem dX12_going_115 : decode cX12_going 115 = .ok (.iconst 1, 1) := by decide +kernel
theorem dX12_going_116 : decode cX12_going 116 = .ok (.iadd, 1) := by decide +kernel
theorem dX12_going_117 : decode cX12_going 117 = .ok (.istore 5, 2) := by decide +kernel
theorem dX12_going_119 : decode cX12_going 119 = .ok (.iconst 1, 1) := by decide +kernel
theorem dX12_going_120 : decode cX12_going 120 = .ok (.istore 6, 2) := by decide +kernel
theorem dX12_going_122 : decode cX12_going 122 = .ok (.aload_n 0, 1) := by decide +kernel
theorem dX12_going_123 : decode cX12_going 123 = .ok (.getfield 7, 3) := by decide +kernel
theorem dX12_going_126 : decode cX12_going 126 = .ok (.iload 4, 2) := by decide +kernel
theorem dX12_going_128 : decode cX12_going 128 = .ok (.iaload, 1) := by decide +kernel
theorem dX12_going_129 : decode cX12_going 129 = .ok (.iconst 3, 1) := by decide +kernel
theorem dX12_going_130 : decode cX12_going 130 = .ok (.if_icmp .ne 77, 3) := by decide +kernel
theorem dX12_going_133 : decode cX12_going 133 = .ok (.aload_n 0, 1) := by decide +kernel
theorem dX12_going_134 : decode cX12_going 134 = .ok (.iload_n 1, 1) := by decide +kernel
theorem dX12_going_135 : decode cX12_going 135 = .ok (.iload_n 2, 1) := by decide +kernel
theorem dX12_going_136 : decode cX12_going 136 = .ok (.invokevirtual 350, 3) := by decide +kernel
theorem dX12_going_139 : decode cX12_going 139 = .ok (.istore 7, 2) := by decide +kernel
theorem dX12_going_141 : decode cX12_going 141 = .ok (.aload_n 0, 1) := by decide +kernel
theorem dX12_going_142 : decode cX12_going 142 = .ok (.iload 5, 2) := by decide +kernel
theorem dX12_going_144 : decode cX12_going 144 = .ok (.aload_n 0, 1) := by decide +kernel
theorem dX12_going_145 : decode cX12_going 145 = .ok (.getfield 13, 3) := by decide +kernel
theorem dX12_going_148 : decode cX12_going 148 = .ok (.iload 4, 2) := by decide +kernel
theorem dX12_going_150 : decode cX12_going 150 = .ok (.iaload, 1) := by decide +kernel
theorem dX12_going_151 : decode cX12_going 151 = .ok (.aload_n 0, 1) := by decide +kernel
theorem dX12_going_152 : decode cX12_going 152 = .ok (.bipush 70, 2) := by decide +kernel
theorem dX12_going_154 : decode cX12_going 154 = .ok (.iconst 0, 1) := by decide +kernel
theorem dX12_going_155 : decode cX12_going 155 = .ok (.iload 7, 2) := by decide +kernel
theorem dX12_going_157 : decode cX12_going 157 = .ok (.iconst (-1), 1) := by decide +kernel
theorem dX12_going_158 : decode cX12_going 158 = .ok (.iconst (-1), 1) := by decide +kernel
theorem dX12_going_159 : decode cX12_going 159 = .ok (.invokevirtual 318, 3) := by decide +kernel
theorem dX12_going_162 : decode cX12_going 162 = .ok (.iload_n 3, 1) := by decide +kernel
theorem dX12_going_163 : decode cX12_going 163 = .ok (.invokevirtual 363, 3) := by decide +kernel
theorem dX12_going_166 : decode cX12_going 166 = .ok (.ifCond .eq 35, 3) := by decide +kernel
theorem dX12_going_169 : decode cX12_going 169 = .ok (.aload_n 0, 1) := by decide +kernel
theorem dX12_going_170 : decode cX12_going 170 = .ok (.iload 5, 2) := by decide +kernel
theorem dX12_going_172 : decode cX12_going 172 = .ok (.aload_n 0, 1) := by decide +kernel
theorem dX12_going_173 : decode cX12_going 173 = .ok (.getfield 16, 3) := by decide +kernel
theorem dX12_going_176 : decode cX12_going 176 = .ok (.iload 4, 2) := by decide +kernel
theorem dX12_going_178 : decode cX12_going 178 = .ok (.iaload, 1) := by decide +kernel
theorem dX12_going_179 : decode cX12_going 179 = .ok (.aload_n 0, 1) := by decide +kernel
theorem dX12_going_180 : decode cX12_going 180 = .ok (.bipush 83, 2) := by decide +kernel
theorem dX12_going_182 : decode cX12_going 182 = .ok (.iconst 0, 1) := by decide +kernel
theorem dX12_going_183 : decode cX12_going 183 = .ok (.iload 7, 2) := by decide +kernel
theorem dX12_going_185 : decode cX12_going 185 = .ok (.iconst (-1), 1) := by decide +kernel
theorem dX12_going_186 : decode cX12_going 186 = .ok (.iconst (-1), 1) := by decide +kernel
theorem dX12_going_187 : decode cX12_going 187 = .ok (.invokevirtual 318, 3) := by decide +kernel
theorem dX12_going_190 : decode cX12_going 190 = .ok (.iload_n 3, 1) := by decide +kernel
theorem dX12_going_191 : decode cX12_going 191 = .ok (.invokevirtual 363, 3) := by decide +kernel
theorem dX12_going_194 : decode cX12_going 194 = .ok (.ifCond .eq 7, 3) := by decide +kernel
theorem dX12_going_197 : decode cX12_going 197 = .ok (.iconst 1, 1) := by decide +kernel
theorem dX12_going_198 : decode cX12_going 198 = .ok (.goto 4, 3) := by decide +kernel
theorem dX12_going_201 : decode cX12_going 201 = .ok (.iconst 0, 1) := by decide +kernel
theorem dX12_going_202 : decode cX12_going 202 = .ok (.istore 6, 2) := by decide +kernel
theorem dX12_going_204 : decode cX12_going 204 = .ok (.goto 27, 3) := by decide +kernel
theorem dX12_going_207 : decode cX12_going 207 = .ok (.aload_n 0, 1) := by decide +kernel
theorem dX12_going_208 : decode cX12_going 208 = .ok (.getfield 7, 3) := by decide +kernel
theorem dX12_going_211 : decode cX12_going 211 = .ok (.iload 4, 2) := by decide +kernel
theorem dX12_going_213 : decode cX12_going 213 = .ok (.iaload, 1) := by decide +kernel
theorem dX12_going_214 : decode cX12_going 214 = .ok (.iconst 5, 1) := by decide +kernel
theorem dX12_going_215 : decode cX12_going 215 = .ok (.if_icmp .ne 16, 3) := by decide +kernel
theorem dX12_going_218 : decode cX12_going 218 = .ok (.aload_n 0, 1) := by decide +kernel
theorem dX12_going_219 : decode cX12_going 219 = .ok (.iload_n 1, 1) := by decide +kernel
theorem dX12_going_220 : decode cX12_going 220 = .ok (.iload 5, 2) := by decide +kernel
theorem dX12_going_222 : decode cX12_going 222 = .ok (.iload_n 2, 1) := by decide +kernel
theorem dX12_going_223 : decode cX12_going 223 = .ok (.iload 4, 2) := by decide +kernel
theorem dX12_going_225 : decode cX12_going 225 = .ok (.iload_n 3, 1) := by decide +kernel
theorem dX12_going_226 : decode cX12_going 226 = .ok (.invokevirtual 379, 3) := by decide +kernel
theorem dX12_going_229 : decode cX12_going 229 = .ok (.istore 6, 2) := by decide +kernel
theorem dX12_going_231 : decode cX12_going 231 = .ok (.iload 6, 2) := by decide +kernel
theorem dX12_going_233 : decode cX12_going 233 = .ok (.ifCond .eq 10, 3) := by decide +kernel
theorem dX12_going_236 : decode cX12_going 236 = .ok (.aload_n 0, 1) := by decide +kernel
theorem dX12_going_237 : decode cX12_going 237 = .ok (.invokevirtual 367, 3) := by decide +kernel
theorem dX12_going_240 : decode cX12_going 240 = .ok (.goto 4, 3) := by decide +kernel
theorem dX12_going_243 : decode cX12_going 243 = .ok (.iconst 3, 1) := by decide +kernel
theorem dX12_going_244 : decode cX12_going 244 = .ok (.ireturn, 1) := by decide +kernel
theorem dX12_leading_0 : decode cX12_leading 0 = .ok (.aload_n 0, 1) := by decide +kernel
theorem dX12_leading_1 : decode cX12_leading 1 = .ok (.getfield 13, 3) := by decide +kernel
theorem dX12_leading_4 : decode cX12_leading 4 = .ok (.iload 4, 2) := by decide +kernel
theorem dX12_leading_6 : decode cX12_leading 6 = .ok (.iaload, 1) := by decide +kernel
theorem dX12_leading_7 : decode cX12_leading 7 = .ok (.istore 6, 2) := by decide +kernel
theorem dX12_leading_9 : decode cX12_leading 9 = .ok (.aload_n 0, 1) := by decide +kernel
theorem dX12_leading_10 : decode cX12_leading 10 = .ok (.getfield 16, 3) := by decide +kernel
theorem dX12_leading_13 : decode cX12_leading 13 = .ok (.iload 4, 2) := by decide +kernel
theorem dX12_leading_15 : decode cX12_leading 15 = .ok (.iaload, 1) := by decide +kernel
theorem dX12_leading_16 : decode cX12_leading 16 = .ok (.istore 7, 2) := by decide +kernel
theorem dX12_leading_18 : decode cX12_leading 18 = .ok (.iload 6, 2) := by decide +kernel
theorem dX12_leading_20 : decode cX12_leading 20 = .ok (.ifCond .ne 5, 3) := by decide +kernel
theorem dX12_leading_23 : decode cX12_leading 23 = .ok (.iconst 1, 1) := by decide +kernel
theorem dX12_leading_24 : decode cX12_leading 24 = .ok (.ireturn, 1) := by decide +kernel
theorem dX12_leading_25 : decode cX12_leading 25 = .ok (.aload_n 0, 1) := by decide +kernel
theorem dX12_leading_26 : decode cX12_leading 26 = .ok (.iload_n 1, 1) := by decide +kernel
theorem dX12_leading_27 : decode cX12_leading 27 = .ok (.iload_n 3, 1) := by decide +kernel
theorem dX12_leading_28 : decode cX12_leading 28 = .ok (.invokevirtual 350, 3) := by decide +kernel
theorem dX12_leading_31 : decode cX12_leading 31 = .ok (.istore 8, 2) := by decide +kernel
theorem dX12_leading_33 : decode cX12_leading 33 = .ok (.iload 6, 2) := by decide +kernel
theorem dX12_leading_35 : decode cX12_leading 35 = .ok (.iconst 1, 1) := by decide +kernel
theorem dX12_leading_36 : decode cX12_leading 36 = .ok (.if_icmp .ne 33, 3) := by decide +kernel
theorem dX12_leading_39 : decode cX12_leading 39 = .ok (.aload_n 0, 1) := by decide +kernel
theorem dX12_leading_40 : decode cX12_leading 40 = .ok (.iload_n 2, 1) := by decide +kernel
theorem dX12_leading_41 : decode cX12_leading 41 = .ok (.iload 7, 2) := by decide +kernel
theorem dX12_leading_43 : decode cX12_leading 43 = .ok (.aload_n 0, 1) := by decide +kernel
theorem dX12_leading_44 : decode cX12_leading 44 = .ok (.bipush 65, 2) := by decide +kernel
theorem dX12_leading_46 : decode cX12_leading 46 = .ok (.iconst 0, 1) := by decide +kernel
theorem dX12_leading_47 : decode cX12_leading 47 = .ok (.iload 8, 2) := by decide +kernel
theorem dX12_leading_49 : decode cX12_leading 49 = .ok (.aload_n 0, 1) := by decide +kernel
theorem dX12_leading_50 : decode cX12_leading 50 = .ok (.bipush 84, 2) := by decide +kernel
theorem dX12_leading_52 : decode cX12_leading 52 = .ok (.iconst 0, 1) := by decide +kernel
theorem dX12_leading_53 : decode cX12_leading 53 = .ok (.iconst (-1), 1) := by decide +kernel
theorem dX12_leading_54 : decode cX12_leading 54 = .ok (.iconst (-1), 1) := by decide +kernel
theorem dX12_leading_55 : decode cX12_leading 55 = .ok (.iconst (-1), 1) := by decide +kernel
theorem dX12_leading_56 : decode cX12_leading 56 = .ok (.invokevirtual 318, 3) := by decide +kernel
theorem dX12_leading_59 : decode cX12_leading 59 = .ok (.iconst (-1), 1) := by decide +kernel
theorem dX12_leading_60 : decode cX12_leading 60 = .ok (.invokevirtual 318, 3) := by decide +kernel
theorem dX12_leading_63 : decode cX12_leading 63 = .ok (.iload 5, 2) := by decide +kernel
theorem dX12_leading_65 : decode cX12_leading 65 = .ok (.invokevirtual 363, 3) := by decide +kernel
theorem dX12_leading_68 : decode cX12_leading 68 = .ok (.ireturn, 1) := by decide +kernel
theorem dX12_leading_69 : decode cX12_leading 69 = .ok (.aload_n 0, 1) := by decide +kernel
theorem dX12_leading_70 : decode cX12_leading 70 = .ok (.getfield 7, 3) := by decide +kernel
theorem dX12_leading_73 : decode cX12_leading 73 = .ok (.iload 6, 2) := by decide +kernel
theorem dX12_leading_75 : decode cX12_leading 75 = .ok (.iaload, 1) := by decide +kernel
theorem dX12_leading_76 : decode cX12_leading 76 = .ok (.iconst 2, 1) := by decide +kernel
theorem dX12_leading_77 : decode cX12_leading 77 = .ok (.if_icmp .ne 35, 3) := by decide +kernel
theorem dX12_leading_80 : decode cX12_leading 80 = .ok (.aload_n 0, 1) := by decide +kernel
theorem dX12_leading_81 : decode cX12_leading 81 = .ok (.iload_n 2, 1) := by decide +kernel
theorem dX12_leading_82 : decode cX12_leading 82 = .ok (.iload 7, 2) := by decide +kernel
theorem dX12_leading_84 : decode cX12_leading 84 = .ok (.aload_n 0, 1) := by decide +kernel
theorem dX12_leading_85 : decode cX12_leading 85 = .ok (.bipush 65, 2) := by decide +kernel
theorem dX12_leading_87 : decode cX12_leading 87 = .ok (.iconst 0, 1) := by decide +kernel
theorem dX12_leading_88 : decode cX12_leading 88 = .ok (.iload 8, 2) := by decide +kernel
theorem dX12_leading_90 : decode cX12_leading 90 = .ok (.aload_n 0, 1) := by decide +kernel
theorem dX12_leading_91 : decode cX12_leading 91 = .ok (.iload_n 1, 1) := by decide +kernel
theorem dX12_leading_92 : decode cX12_leading 92 = .ok (.aload_n 0, 1) := by decide +kernel
theorem dX12_leading_93 : decode cX12_leading 93 = .ok (.iload_n 1, 1) := by decide +kernel
theorem dX12_leading_94 : decode cX12_leading 94 = .ok (.iload 6, 2) := by decide +kernel
theorem dX12_leading_96 : decode cX12_leading 96 = .ok (.invokevirtual 328, 3) := by decide +kernel
theorem dX12_leading_99 : decode cX12_leading 99 = .ok (.invokevirtual 350, 3) := by decide +kernel
theorem dX12_leading_102 : decode cX12_leading 102 = .ok (.iconst (-1), 1) := by decide +kernel
theorem dX12_leading_103 : decode cX12_leading 103 = .ok (.invokevirtual 318, 3) := by decide +kernel
theorem dX12_leading_106 : decode cX12_leading 106 = .ok (.iload 5, 2) := by decide +kernel
theorem dX12_leading_108 : decode cX12_leading 108 = .ok (.invokevirtual 363, 3) := by decide +kernel
theorem dX12_leading_111 : decode cX12_leading 111 = .ok (.ireturn, 1) := by decide +kernel
theorem dX12_leading_112 : decode cX12_leading 112 = .ok (.aload_n 0, 1) := by decide +kernel
theorem dX12_leading_113 : decode cX12_leading 113 = .ok (.bipush 77, 2) := by decide +kernel
theorem dX12_leading_115 : decode cX12_leading 115 = .ok (.iload 5, 2) := by decide +kernel
theorem dX12_leading_117 : decode cX12_leading 117 = .ok (.iload 8, 2) := by decide +kernel
theorem dX12_leading_119 : decode cX12_leading 119 = .ok (.iconst (-1), 1) := by decide +kernel
theorem dX12_leading_120 : decode cX12_leading 120 = .ok (.iconst (-1), 1) := by decide +kernel
theorem dX12_leading_121 : decode cX12_leading 121 = .ok (.invokevirtual 318, 3) := by decide +kernel
theorem dX12_leading_124 : decode cX12_leading 124 = .ok (.istore 9, 2) := by decide +kernel
theorem dX12_leading_126 : decode cX12_leading 126 = .ok (.aload_n 0, 1) := by decide +kernel
theorem dX12_leading_127 : decode cX12_leading 127 = .ok (.getfield 7, 3) := by decide +kernel
theorem dX12_leading_130 : decode cX12_leading 130 = .ok (.iload 6, 2) := by decide +kernel
theorem dX12_leading_132 : decode cX12_leading 132 = .ok (.iaload, 1) := by decide +kernel
theorem dX12_leading_133 : decode cX12_leading 133 = .ok (.iconst 3, 1) := by decide +kernel
theorem dX12_leading_134 : decode cX12_leading 134 = .ok (.if_icmp .ne 124, 3) := by decide +kernel
theorem dX12_leading_137 : decode cX12_leading 137 = .ok (.aload_n 0, 1) := by decide +kernel
theorem dX12_leading_138 : decode cX12_leading 138 = .ok (.iconst 5, 1) := by decide +kernel
theorem dX12_leading_139 : decode cX12_leading 139 = .ok (.aload_n 0, 1) := by decide +kernel
theorem dX12_leading_140 : decode cX12_leading 140 = .ok (.getfield 16, 3) := by decide +kernel
theorem dX12_leading_143 : decode cX12_leading 143 = .ok (.iload 6, 2) := by decide +kernel
theorem dX12_leading_145 : decode cX12_leading 145 = .ok (.iaload, 1) := by decide +kernel
theorem dX12_leading_146 : decode cX12_leading 146 = .ok (.iload 7, 2) := by decide +kernel
theorem dX12_leading_148 : decode cX12_leading 148 = .ok (.invokevirtual 283, 3) := by decide +kernel
theorem dX12_leading_151 : decode cX12_leading 151 = .ok (.istore 10, 2) := by decide +kernel
theorem dX12_leading_153 : decode cX12_leading 153 = .ok (.iload 10, 2) := by decide +kernel
theorem dX12_leading_155 : decode cX12_leading 155 = .ok (.ifCond .ge 7, 3) := by decide +kernel
theorem dX12_leading_158 : decode cX12_leading 158 = .ok (.iconst (-1), 1) := by decide +kernel
theorem dX12_leading_159 : decode cX12_leading 159 = .ok (.goto 17, 3) := by decide +kernel
theorem dX12_leading_162 : decode cX12_leading 162 = .ok (.aload_n 0, 1) := by decide +kernel
theorem dX12_leading_163 : decode cX12_leading 163 = .ok (.iconst 5, 1) := by decide +kernel
theorem dX12_leading_164 : decode cX12_leading 164 = .ok (.aload_n 0, 1) := by decide +kernel
theorem dX12_leading_165 : decode cX12_leading 165 = .ok (.getfield 13, 3) := by decide +kernel
theorem dX12_leading_168 : decode cX12_leading 168 = .ok (.iload 6, 2) := by decide +kernel
theorem dX12_leading_170 : decode cX12_leading 170 = .ok (.iaload, 1) := by decide +kernel
theorem dX12_leading_171 : decode cX12_leading 171 = .ok (.iload 10, 2) := by decide +kernel
theorem dX12_leading_173 : decode cX12_leading 173 = .ok (.invokevirtual 283, 3) := by decide +kernel
theorem dX12_leading_176 : decode cX12_leading 176 = .ok (.istore 11, 2) := by decide +kernel
theorem dX12_leading_178 : decode cX12_leading 178 = .ok (.aload_n 0, 1) := by decide +kernel
theorem dX12_leading_179 : decode cX12_leading 179 = .ok (.bipush 80, 2) := by decide +kernel
theorem dX12_leading_181 : decode cX12_leading 181 = .ok (.iconst 0, 1) := by decide +kernel
theorem dX12_leading_182 : decode cX12_leading 182 = .ok (.aload_n 0, 1) := by decide +kernel
theorem dX12_leading_183 : decode cX12_leading 183 = .ok (.iload 5, 2) := by decide +kernel
theorem dX12_leading_185 : decode cX12_leading 185 = .ok (.invokevirtual 360, 3) := by decide +kernel
theorem dX12_leading_188 : decode cX12_leading 188 = .ok (.aload_n 0, 1) := by decide +kernel
theorem dX12_leading_189 : decode cX12_leading 189 = .ok (.iload 5, 2) := by decide +kernel
theorem dX12_leading_191 : decode cX12_leading 191 = .ok (.iconst 1, 1) := by decide +kernel
theorem dX12_leading_192 : decode cX12_leading 192 = .ok (.iadd, 1) := by decide +kernel
theorem dX12_leading_193 : decode cX12_leading 193 = .ok (.invokevirtual 360, 3) := by decide +kernel
theorem dX12_leading_196 : decode cX12_leading 196 = .ok (.iconst (-1), 1) := by decide +kernel
theorem dX12_leading_197 : decode cX12_leading 197 = .ok (.invokevirtual 318, 3) := by decide +kernel
theorem dX12_leading_200 : decode cX12_leading 200 = .ok (.istore 12, 2) := by decide +kernel
theorem dX12_leading_202 : decode cX12_leading 202 = .ok (.aload_n 0, 1) := by decide +kernel
theorem dX12_leading_203 : decode cX12_leading 203 = .ok (.bipush 76, 2) := by decide +kernel
theorem dX12_leading_205 : decode cX12_leading 205 = .ok (.aload_n 0, 1) := by decide +kernel
theorem dX12_leading_206 : decode cX12_leading 206 = .ok (.getfield 16, 3) := by decide +kernel
theorem dX12_leading_209 : decode cX12_leading 209 = .ok (.iload 6, 2) := by decide +kernel
theorem dX12_leading_211 : decode cX12_leading 211 = .ok (.iaload, 1) := by decide +kernel
theorem dX12_leading_212 : decode cX12_leading 212 = .ok (.aload_n 0, 1) := by decide +kernel
theorem dX12_leading_213 : decode cX12_leading 213 = .ok (.bipush 65, 2) := by decide +kernel
theorem dX12_leading_215 : decode cX12_leading 215 = .ok (.iconst 0, 1) := by decide +kernel
theorem dX12_leading_216 : decode cX12_leading 216 = .ok (.iload 9, 2) := by decide +kernel
theorem dX12_leading_218 : decode cX12_leading 218 = .ok (.iload 12, 2) := by decide +kernel
theorem dX12_leading_220 : decode cX12_leading 220 = .ok (.iconst (-1), 1) := by decide +kernel
theorem dX12_leading_221 : decode cX12_leading 221 = .ok (.invokevirtual 318, 3) := by decide +kernel
theorem dX12_leading_224 : decode cX12_leading 224 = .ok (.iconst (-1), 1) := by decide +kernel
theorem dX12_leading_225 : decode cX12_leading 225 = .ok (.iconst (-1), 1) := by decide +kernel
theorem dX12_leading_226 : decode cX12_leading 226 = .ok (.invokevirtual 318, 3) := by decide +kernel
theorem dX12_leading_229 : decode cX12_leading 229 = .ok (.istore 13, 2) := by decide +kernel
theorem dX12_leading_231 : decode cX12_leading 231 = .ok (.aload_n 0, 1) := by decide +kernel
theorem dX12_leading_232 : decode cX12_leading 232 = .ok (.iload_n 2, 1) := by decide +kernel
theorem dX12_leading_233 : decode cX12_leading 233 = .ok (.iload 11, 2) := by decide +kernel
theorem dX12_leading_235 : decode cX12_leading 235 = .ok (.aload_n 0, 1) := by decide +kernel
theorem dX12_leading_236 : decode cX12_leading 236 = .ok (.bipush 76, 2) := by decide +kernel
theorem dX12_leading_238 : decode cX12_leading 238 = .ok (.aload_n 0, 1) := by decide +kernel
theorem dX12_leading_239 : decode cX12_leading 239 = .ok (.getfield 13, 3) := by decide +kernel
theorem dX12_leading_242 : decode cX12_leading 242 = .ok (.iload 6, 2) := by decide +kernel
theorem dX12_leading_244 : decode cX12_leading 244 = .ok (.iaload, 1) := by decide +kernel
theorem dX12_leading_245 : decode cX12_leading 245 = .ok (.iload 13, 2) := by decide +kernel
theorem dX12_leading_247 : decode cX12_leading 247 = .ok (.iconst (-1), 1) := by decide +kernel
theorem dX12_leading_248 : decode cX12_leading 248 = .ok (.iconst (-1), 1) := by decide +kernel
theorem dX12_leading_249 : decode cX12_leading 249 = .ok (.invokevirtual 318, 3) := by decide +kernel
theorem dX12_leading_252 : decode cX12_leading 252 = .ok (.iload 5, 2) := by decide +kernel
theorem dX12_leading_254 : decode cX12_leading 254 = .ok (.invokevirtual 363, 3) := by decide +kernel
theorem dX12_leading_257 : decode cX12_leading 257 = .ok (.ireturn, 1) := by decide +kernel
theorem dX12_leading_258 : decode cX12_leading 258 = .ok (.aload_n 0, 1) := by decide +kernel
theorem dX12_leading_259 : decode cX12_leading 259 = .ok (.iconst 5, 1) := by decide +kernel
theorem dX12_leading_260 : decode cX12_leading 260 = .ok (.aload_n 0, 1) := by decide +kernel
theorem dX12_leading_261 : decode cX12_leading 261 = .ok (.getfield 13, 3) := by decide +kernel
theorem dX12_leading_264 : decode cX12_leading 264 = .ok (.iload 6, 2) := by decide +kernel
theorem dX12_leading_266 : decode cX12_leading 266 = .ok (.iaload, 1) := by decide +kernel
theorem dX12_leading_267 : decode cX12_leading 267 = .ok (.iload 7, 2) := by decide +kernel
theorem dX12_leading_269 : decode cX12_leading 269 = .ok (.invokevirtual 283, 3) := by decide +kernel
theorem dX12_leading_272 : decode cX12_leading 272 = .ok (.istore 10, 2) := by decide +kernel
theorem dX12_leading_274 : decode cX12_leading 274 = .ok (.aload_n 0, 1) := by decide +kernel
theorem dX12_leading_275 : decode cX12_leading 275 = .ok (.bipush 65, 2) := by decide +kernel
theorem dX12_leading_277 : decode cX12_leading 277 = .ok (.iconst 0, 1) := by decide +kernel
theorem dX12_leading_278 : decode cX12_leading 278 = .ok (.iload 9, 2) := by decide +kernel
theorem dX12_leading_280 : decode cX12_leading 280 = .ok (.aload_n 0, 1) := by decide +kernel
theorem dX12_leading_281 : decode cX12_leading 281 = .ok (.bipush 73, 2) := by decide +kernel
theorem dX12_leading_283 : decode cX12_leading 283 = .ok (.iconst 0, 1) := by decide +kernel
theorem dX12_leading_284 : decode cX12_leading 284 = .ok (.aload_n 0, 1) := by decide +kernel
theorem dX12_leading_285 : decode cX12_leading 285 = .ok (.iload 5, 2) := by decide +kernel
theorem dX12_leading_287 : decode cX12_leading 287 = .ok (.invokevirtual 360, 3) := by decide +kernel
theorem dX12_leading_290 : decode cX12_leading 290 = .ok (.iconst (-1), 1) := by decide +kernel
theorem dX12_leading_291 : decode cX12_leading 291 = .ok (.iconst (-1), 1) := by decide +kernel
theorem dX12_leading_292 : decode cX12_leading 292 = .ok (.invokevirtual 318, 3) := by decide +kernel
theorem dX12_leading_295 : decode cX12_leading 295 = .ok (.iconst (-1), 1) := by decide +kernel
theorem dX12_leading_296 : decode cX12_leading 296 = .ok (.invokevirtual 318, 3) := by decide +kernel
theorem dX12_leading_299 : decode cX12_leading 299 = .ok (.istore 11, 2) := by decide +kernel
theorem dX12_leading_301 : decode cX12_leading 301 = .ok (.aload_n 0, 1) := by decide +kernel
theorem dX12_leading_302 : decode cX12_leading 302 = .ok (.iload_n 2, 1) := by decide +kernel
theorem dX12_leading_303 : decode cX12_leading 303 = .ok (.iload 10, 2) := by decide +kernel
theorem dX12_leading_305 : decode cX12_leading 305 = .ok (.aload_n 0, 1) := by decide +kernel
theorem dX12_leading_306 : decode cX12_leading 306 = .ok (.bipush 76, 2) := by decide +kernel
theorem dX12_leading_308 : decode cX12_leading 308 = .ok (.aload_n 0, 1) := by decide +kernel
theorem dX12_leading_309 : decode cX12_leading 309 = .ok (.getfield 13, 3) := by decide +kernel
theorem dX12_leading_312 : decode cX12_leading 312 = .ok (.iload 6, 2) := by decide +kernel
theorem dX12_leading_314 : decode cX12_leading 314 = .ok (.iaload, 1) := by decide +kernel
theorem dX12_leading_315 : decode cX12_leading 315 = .ok (.iload 11, 2) := by decide +kernel
theorem dX12_leading_317 : decode cX12_leading 317 = .ok (.iconst (-1), 1) := by decide +kernel
theorem dX12_leading_318 : decode cX12_leading 318 = .ok (.iconst (-1), 1) := by decide +kernel
theorem dX12_leading_319 : decode cX12_leading 319 = .ok (.invokevirtual 318, 3) := by decide +kernel
theorem dX12_leading_322 : decode cX12_leading 322 = .ok (.iload 5, 2) := by decide +kernel
theorem dX12_leading_324 : decode cX12_leading 324 = .ok (.invokevirtual 363, 3) := by decide +kernel
theorem dX12_leading_327 : decode cX12_leading 327 = .ok (.ifCond .ne 5, 3) := by decide +kernel
theorem dX12_leading_330 : decode cX12_leading 330 = .ok (.iconst 0, 1) := by decide +kernel
theorem dX12_leading_331 : decode cX12_leading 331 = .ok (.ireturn, 1) := by decide +kernel
theorem dX12_leading_332 : decode cX12_leading 332 = .ok (.aload_n 0, 1) := by decide +kernel
theorem dX12_leading_333 : decode cX12_leading 333 = .ok (.iconst 5, 1) := by decide +kernel
theorem dX12_leading_334 : decode cX12_leading 334 = .ok (.aload_n 0, 1) := by decide +kernel
theorem dX12_leading_335 : decode cX12_leading 335 = .ok (.getfield 16, 3) := by decide +kernel
theorem dX12_leading_338 : decode cX12_leading 338 = .ok (.iload 6, 2) := by decide +kernel
theorem dX12_leading_340 : decode cX12_leading 340 = .ok (.iaload, 1) := by decide +kernel
theorem dX12_leading_341 : decode cX12_leading 341 = .ok (.iload 7, 2) := by decide +kernel
theorem dX12_leading_343 : decode cX12_leading 343 = .ok (.invokevirtual 283, 3) := by decide +kernel
theorem dX12_leading_346 : decode cX12_leading 346 = .ok (.istore 12, 2) := by decide +kernel
theorem dX12_leading_348 : decode cX12_leading 348 = .ok (.aload_n 0, 1) := by decide +kernel
theorem dX12_leading_349 : decode cX12_leading 349 = .ok (.bipush 65, 2) := by decide +kernel
theorem dX12_leading_351 : decode cX12_leading 351 = .ok (.iconst 0, 1) := by decide +kernel
theorem dX12_leading_352 : decode cX12_leading 352 = .ok (.iload 9, 2) := by decide +kernel
theorem dX12_leading_354 : decode cX12_leading 354 = .ok (.aload_n 0, 1) := by decide +kernel
theorem dX12_leading_355 : decode cX12_leading 355 = .ok (.bipush 74, 2) := by decide +kernel
theorem dX12_leading_357 : decode cX12_leading 357 = .ok (.iconst 0, 1) := by decide +kernel
theorem dX12_leading_358 : decode cX12_leading 358 = .ok (.aload_n 0, 1) := by decide +kernel
theorem dX12_leading_359 : decode cX12_leading 359 = .ok (.iload 5, 2) := by decide +kernel
theorem dX12_leading_361 : decode cX12_leading 361 = .ok (.invokevirtual 360, 3) := by decide +kernel
theorem dX12_leading_364 : decode cX12_leading 364 = .ok (.iconst (-1), 1) := by decide +kernel
theorem dX12_leading_365 : decode cX12_leading 365 = .ok (.iconst (-1), 1) := by decide +kernel
theorem dX12_leading_366 : decode cX12_leading 366 = .ok (.invokevirtual 318, 3) := by decide +kernel
theorem dX12_leading_369 : decode cX12_leading 369 = .ok (.iconst (-1), 1) := by decide +kernel
theorem dX12_leading_370 : decode cX12_leading 370 = .ok (.invokevirtual 318, 3) := by decide +kernel
theorem dX12_leading_373 : decode cX12_leading 373 = .ok (.istore 11, 2) := by decide +kernel
theorem dX12_leading_375 : decode cX12_leading 375 = .ok (.aload_n 0, 1) := by decide +kernel
theorem dX12_leading_376 : decode cX12_leading 376 = .ok (.iload_n 2, 1) := by decide +kernel
theorem dX12_leading_377 : decode cX12_leading 377 = .ok (.iload 12, 2) := by decide +kernel
theorem dX12_leading_379 : decode cX12_leading 379 = .ok (.aload_n 0, 1) := by decide +kernel
theorem dX12_leading_380 : decode cX12_leading 380 = .ok (.bipush 76, 2) := by decide +kernel
theorem dX12_leading_382 : decode cX12_leading 382 = .ok (.aload_n 0, 1) := by decide +kernel
theorem dX12_leading_383 : decode cX12_leading 383 = .ok (.getfield 16, 3) := by decide +kernel
theorem dX12_leading_386 : decode cX12_leading 386 = .ok (.iload 6, 2) := by decide +kernel
theorem dX12_leading_388 : decode cX12_leading 388 = .ok (.iaload, 1) := by decide +kernel
theorem dX12_leading_389 : decode cX12_leading 389 = .ok (.iload 11, 2) := by decide +kernel
theorem dX12_leading_391 : decode cX12_leading 391 = .ok (.iconst (-1), 1) := by decide +kernel
theorem dX12_leading_392 : decode cX12_leading 392 = .ok (.iconst (-1), 1) := by decide +kernel
theorem dX12_leading_393 : decode cX12_leading 393 = .ok (.invokevirtual 318, 3) := by decide +kernel
theorem dX12_leading_396 : decode cX12_leading 396 = .ok (.iload 5, 2) := by decide +kernel
theorem dX12_leading_398 : decode cX12_leading 398 = .ok (.invokevirtual 363, 3) := by decide +kernel
theorem dX12_leading_401 : decode cX12_leading 401 = .ok (.ireturn, 1) := by decide +kernel
theorem dX12_isNeeding_0 : decode cX12_isNeeding 0 = .ok (.aload_n 0, 1) := by decide +kernel
theorem dX12_isNeeding_1 : decode cX12_isNeeding 1 = .ok (.getfield 7, 3) := by decide +kernel
theorem dX12_isNeeding_4 : decode cX12_isNeeding 4 = .ok (.iload_n 1, 1) := by decide +kernel
theorem dX12_isNeeding_5 : decode cX12_isNeeding 5 = .ok (.iaload, 1) := by decide +kernel
theorem dX12_isNeeding_6 : decode cX12_isNeeding 6 = .ok (.iconst 5, 1) := by decide +kernel
theorem dX12_isNeeding_7 : decode cX12_isNeeding 7 = .ok (.if_icmp .ne 22, 3) := by decide +kernel
theorem dX12_isNeeding_10 : decode cX12_isNeeding 10 = .ok (.aload_n 0, 1) := by decide +kernel
theorem dX12_isNeeding_11 : decode cX12_isNeeding 11 = .ok (.getfield 7, 3) := by decide +kernel
theorem dX12_isNeeding_14 : decode cX12_isNeeding 14 = .ok (.aload_n 0, 1) := by decide +kernel
theorem dX12_isNeeding_15 : decode cX12_isNeeding 15 = .ok (.getfield 13, 3) := by decide +kernel
theorem dX12_isNeeding_18 : decode cX12_isNeeding 18 = .ok (.iload_n 1, 1) := by decide +kernel
theorem dX12_isNeeding_19 : decode cX12_isNeeding 19 = .ok (.iaload, 1) := by decide +kernel
theorem dX12_isNeeding_20 : decode cX12_isNeeding 20 = .ok (.iaload, 1) := by decide +kernel
theorem dX12_isNeeding_21 : decode cX12_isNeeding 21 = .ok (.iconst 5, 1) := by decide +kernel
theorem dX12_isNeeding_22 : decode cX12_isNeeding 22 = .ok (.if_icmp .ne 7, 3) := by decide +kernel
theorem dX12_isNeeding_25 : decode cX12_isNeeding 25 = .ok (.iconst 1, 1) := by decide +kernel
theorem dX12_isNeeding_26 : decode cX12_isNeeding 26 = .ok (.goto 4, 3) := by decide +kernel
theorem dX12_isNeeding_29 : decode cX12_isNeeding 29 = .ok (.iconst 0, 1) := by decide +kernel
theorem dX12_isNeeding_30 : decode cX12_isNeeding 30 = .ok (.ireturn, 1) := by decide +kernel
theorem dX12_needs_0 : decode cX12_needs 0 = .ok (.iload_n 2, 1) := by decide +kernel
theorem dX12_needs_1 : decode cX12_needs 1 = .ok (.istore_n 3, 1) := by decide +kernel
theorem dX12_needs_2 : decode cX12_needs 2 = .ok (.iload_n 3, 1) := by decide +kernel
theorem dX12_needs_3 : decode cX12_needs 3 = .ok (.aload_n 0, 1) := by decide +kernel
theorem dX12_needs_4 : decode cX12_needs 4 = .ok (.getfield 82, 3) := by decide +kernel
theorem dX12_needs_7 : decode cX12_needs 7 = .ok (.iload_n 1, 1) := by decide +kernel
theorem dX12_needs_8 : decode cX12_needs 8 = .ok (.iaload, 1) := by decide +kernel
theorem dX12_needs_9 : decode cX12_needs 9 = .ok (.if_icmp .ge 27, 3) := by decide +kernel
theorem dX12_needs_12 : decode cX12_needs 12 = .ok (.aload_n 0, 1) := by decide +kernel
theorem dX12_needs_13 : decode cX12_needs 13 = .ok (.aload_n 0, 1) := by decide +kernel
theorem dX12_needs_14 : decode cX12_needs 14 = .ok (.getfield 73, 3) := by decide +kernel
theorem dX12_needs_17 : decode cX12_needs 17 = .ok (.bipush 60, 2) := by decide +kernel
theorem dX12_needs_19 : decode cX12_needs 19 = .ok (.iload_n 1, 1) := by decide +kernel
theorem dX12_needs_20 : decode cX12_needs 20 = .ok (.imul, 1) := by decide +kernel
theorem dX12_needs_21 : decode cX12_needs 21 = .ok (.iload_n 3, 1) := by decide +kernel
theorem dX12_needs_22 : decode cX12_needs 22 = .ok (.iadd, 1) := by decide +kernel
theorem dX12_needs_23 : decode cX12_needs 23 = .ok (.iaload, 1) := by decide +kernel
theorem dX12_needs_24 : decode cX12_needs 24 = .ok (.invokevirtual 382, 3) := by decide +kernel
theorem dX12_needs_27 : decode cX12_needs 27 = .ok (.ifCond .ne 9, 3) := by decide +kernel
theorem dX12_needs_30 : decode cX12_needs 30 = .ok (.iinc 3 1, 3) := by decide +kernel
theorem dX12_needs_33 : decode cX12_needs 33 = .ok (.goto (-31), 3) := by decide +kernel
theorem dX12_needs_36 : decode cX12_needs 36 = .ok (.iload_n 3, 1) := by decide +kernel
theorem dX12_needs_37 : decode cX12_needs 37 = .ok (.aload_n 0, 1) := by decide +kernel
theorem dX12_needs_38 : decode cX12_needs 38 = .ok (.getfield 82, 3) := by decide +kernel
theorem dX12_needs_41 : decode cX12_needs 41 = .ok (.iload_n 1, 1) := by decide +kernel
theorem dX12_needs_42 : decode cX12_needs 42 = .ok (.iaload, 1) := by decide +kernel
theorem dX12_needs_43 : decode cX12_needs 43 = .ok (.if_icmp .ne 35, 3) := by decide +kernel
theorem dX12_needs_46 : decode cX12_needs 46 = .ok (.aload_n 0, 1) := by decide +kernel
theorem dX12_needs_47 : decode cX12_needs 47 = .ok (.getfield 100, 3) := by decide +kernel
theorem dX12_needs_50 : decode cX12_needs 50 = .ok (.iload_n 1, 1) := by decide +kernel
theorem dX12_needs_51 : decode cX12_needs 51 = .ok (.iaload, 1) := by decide +kernel
theorem dX12_needs_52 : decode cX12_needs 52 = .ok (.ifCond .ge 14, 3) := by decide +kernel
theorem dX12_needs_55 : decode cX12_needs 55 = .ok (.aload_n 0, 1) := by decide +kernel
theorem dX12_needs_56 : decode cX12_needs 56 = .ok (.getfield 100, 3) := by decide +kernel
theorem dX12_needs_59 : decode cX12_needs 59 = .ok (.iload_n 1, 1) := by decide +kernel
theorem dX12_needs_60 : decode cX12_needs 60 = .ok (.aload_n 0, 1) := by decide +kernel
theorem dX12_needs_61 : decode cX12_needs 61 = .ok (.iload_n 1, 1) := by decide +kernel
theorem dX12_needs_62 : decode cX12_needs 62 = .ok (.invokevirtual 385, 3) := by decide +kernel
theorem dX12_needs_65 : decode cX12_needs 65 = .ok (.iastore, 1) := by decide +kernel
theorem dX12_needs_66 : decode cX12_needs 66 = .ok (.aload_n 0, 1) := by decide +kernel
theorem dX12_needs_67 : decode cX12_needs 67 = .ok (.aload_n 0, 1) := by decide +kernel
theorem dX12_needs_68 : decode cX12_needs 68 = .ok (.getfield 100, 3) := by decide +kernel
theorem dX12_needs_71 : decode cX12_needs 71 = .ok (.iload_n 1, 1) := by decide +kernel
theorem dX12_needs_72 : decode cX12_needs 72 = .ok (.iaload, 1) := by decide +kernel
theorem dX12_needs_73 : decode cX12_needs 73 = .ok (.putfield 388, 3) := by decide +kernel
theorem dX12_needs_76 : decode cX12_needs 76 = .ok (.iconst 0, 1) := by decide +kernel
theorem dX12_needs_77 : decode cX12_needs 77 = .ok (.ireturn, 1) := by decide +kernel
theorem dX12_needs_78 : decode cX12_needs 78 = .ok (.aload_n 0, 1) := by decide +kernel
theorem dX12_needs_79 : decode cX12_needs 79 = .ok (.getfield 88, 3) := by decide +kernel
theorem dX12_needs_82 : decode cX12_needs 82 = .ok (.iload_n 1, 1) := by decide +kernel
theorem dX12_needs_83 : decode cX12_needs 83 = .ok (.iaload, 1) := by decide +kernel
theorem dX12_needs_84 : decode cX12_needs 84 = .ok (.istore 4, 2) := by decide +kernel
theorem dX12_needs_86 : decode cX12_needs 86 = .ok (.aload_n 0, 1) := by decide +kernel
theorem dX12_needs_87 : decode cX12_needs 87 = .ok (.getfield 73, 3) := by decide +kernel
theorem dX12_needs_90 : decode cX12_needs 90 = .ok (.bipush 60, 2) := by decide +kernel
theorem dX12_needs_92 : decode cX12_needs 92 = .ok (.iload_n 1, 1) := by decide +kernel
theorem dX12_needs_93 : decode cX12_needs 93 = .ok (.imul, 1) := by decide +kernel
theorem dX12_needs_94 : decode cX12_needs 94 = .ok (.iload_n 3, 1) := by decide +kernel
theorem dX12_needs_95 : decode cX12_needs 95 = .ok (.iadd, 1) := by decide +kernel
theorem dX12_needs_96 : decode cX12_needs 96 = .ok (.iaload, 1) := by decide +kernel
theorem dX12_needs_97 : decode cX12_needs 97 = .ok (.istore 5, 2) := by decide +kernel
theorem dX12_needs_99 : decode cX12_needs 99 = .ok (.aload_n 0, 1) := by decide +kernel
theorem dX12_needs_100 : decode cX12_needs 100 = .ok (.getfield 13, 3) := by decide +kernel
theorem dX12_needs_103 : decode cX12_needs 103 = .ok (.aload_n 0, 1) := by decide +kernel
theorem dX12_needs_104 : decode cX12_needs 104 = .ok (.getfield 13, 3) := by decide +kernel
theorem dX12_needs_107 : decode cX12_needs 107 = .ok (.iload 5, 2) := by decide +kernel
theorem dX12_needs_109 : decode cX12_needs 109 = .ok (.iaload, 1) := by decide +kernel
theorem dX12_needs_110 : decode cX12_needs 110 = .ok (.iaload, 1) := by decide +kernel
theorem dX12_needs_111 : decode cX12_needs 111 = .ok (.istore 6, 2) := by decide +kernel
theorem dX12_needs_113 : decode cX12_needs 113 = .ok (.aload_n 0, 1) := by decide +kernel
theorem dX12_needs_114 : decode cX12_needs 114 = .ok (.getfield 16, 3) := by decide +kernel
theorem dX12_needs_117 : decode cX12_needs 117 = .ok (.aload_n 0, 1) := by decide +kernel
theorem dX12_needs_118 : decode cX12_needs 118 = .ok (.getfield 13, 3) := by decide +kernel
theorem dX12_needs_121 : decode cX12_needs 121 = .ok (.iload 5, 2) := by decide +kernel
theorem dX12_needs_123 : decode cX12_needs 123 = .ok (.iaload, 1) := by decide +kernel
theorem dX12_needs_124 : decode cX12_needs 124 = .ok (.iaload, 1) := by decide +kernel
theorem dX12_needs_125 : decode cX12_needs 125 = .ok (.istore 7, 2) := by decide +kernel
theorem dX12_needs_127 : decode cX12_needs 127 = .ok (.aload_n 0, 1) := by decide +kernel
theorem dX12_needs_128 : decode cX12_needs 128 = .ok (.getfield 94, 3) := by decide +kernel
theorem dX12_needs_131 : decode cX12_needs 131 = .ok (.iload_n 1, 1) := by decide +kernel
theorem dX12_needs_132 : decode cX12_needs 132 = .ok (.iload_n 3, 1) := by decide +kernel
theorem dX12_needs_133 : decode cX12_needs 133 = .ok (.iastore, 1) := by decide +kernel
theorem dX12_needs_134 : decode cX12_needs 134 = .ok (.aload_n 0, 1) := by decide +kernel
theorem dX12_needs_135 : decode cX12_needs 135 = .ok (.getfield 91, 3) := by decide +kernel
theorem dX12_needs_138 : decode cX12_needs 138 = .ok (.iload_n 1, 1) := by decide +kernel
theorem dX12_needs_139 : decode cX12_needs 139 = .ok (.bipush 9, 2) := by decide +kernel
theorem dX12_needs_141 : decode cX12_needs 141 = .ok (.iastore, 1) := by decide +kernel
theorem dX12_needs_142 : decode cX12_needs 142 = .ok (.aload_n 0, 1) := by decide +kernel
theorem dX12_needs_143 : decode cX12_needs 143 = .ok (.iload_n 1, 1) := by decide +kernel
theorem dX12_needs_144 : decode cX12_needs 144 = .ok (.iload_n 3, 1) := by decide +kernel
theorem dX12_needs_145 : decode cX12_needs 145 = .ok (.iload 7, 2) := by decide +kernel
theorem dX12_needs_147 : decode cX12_needs 147 = .ok (.iload 4, 2) := by decide +kernel
theorem dX12_needs_149 : decode cX12_needs 149 = .ok (.iconst 1, 1) := by decide +kernel
theorem dX12_needs_150 : decode cX12_needs 150 = .ok (.iadd, 1) := by decide +kernel
theorem dX12_needs_151 : decode cX12_needs 151 = .ok (.invokevirtual 356, 3) := by decide +kernel
theorem dX12_needs_154 : decode cX12_needs 154 = .ok (.aload_n 0, 1) := by decide +kernel
theorem dX12_needs_155 : decode cX12_needs 155 = .ok (.bipush 77, 2) := by decide +kernel
theorem dX12_needs_157 : decode cX12_needs 157 = .ok (.iload 4, 2) := by decide +kernel
theorem dX12_needs_159 : decode cX12_needs 159 = .ok (.aload_n 0, 1) := by decide +kernel
theorem dX12_needs_160 : decode cX12_needs 160 = .ok (.iload_n 1, 1) := by decide +kernel
theorem dX12_needs_161 : decode cX12_needs 161 = .ok (.iload_n 3, 1) := by decide +kernel
theorem dX12_needs_162 : decode cX12_needs 162 = .ok (.invokevirtual 350, 3) := by decide +kernel
theorem dX12_needs_165 : decode cX12_needs 165 = .ok (.iconst (-1), 1) := by decide +kernel
theorem dX12_needs_166 : decode cX12_needs 166 = .ok (.iconst (-1), 1) := by decide +kernel
theorem dX12_needs_167 : decode cX12_needs 167 = .ok (.invokevirtual 318, 3) := by decide +kernel
theorem dX12_needs_170 : decode cX12_needs 170 = .ok (.istore 8, 2) := by decide +kernel
theorem dX12_needs_172 : decode cX12_needs 172 = .ok (.aload_n 0, 1) := by decide +kernel
theorem dX12_needs_173 : decode cX12_needs 173 = .ok (.iconst 5, 1) := by decide +kernel
theorem dX12_needs_174 : decode cX12_needs 174 = .ok (.iload 7, 2) := by decide +kernel
theorem dX12_needs_176 : decode cX12_needs 176 = .ok (.aload_n 0, 1) := by decide +kernel
theorem dX12_needs_177 : decode cX12_needs 177 = .ok (.getfield 16, 3) := by decide +kernel
theorem dX12_needs_180 : decode cX12_needs 180 = .ok (.iload 5, 2) := by decide +kernel
theorem dX12_needs_182 : decode cX12_needs 182 = .ok (.iaload, 1) := by decide +kernel
theorem dX12_needs_183 : decode cX12_needs 183 = .ok (.invokevirtual 283, 3) := by decide +kernel
theorem dX12_needs_186 : decode cX12_needs 186 = .ok (.istore 9, 2) := by decide +kernel
theorem dX12_needs_188 : decode cX12_needs 188 = .ok (.aload_n 0, 1) := by decide +kernel
theorem dX12_needs_189 : decode cX12_needs 189 = .ok (.bipush 65, 2) := by decide +kernel
theorem dX12_needs_191 : decode cX12_needs 191 = .ok (.iconst 0, 1) := by decide +kernel
theorem dX12_needs_192 : decode cX12_needs 192 = .ok (.iload 8, 2) := by decide +kernel
theorem dX12_needs_194 : decode cX12_needs 194 = .ok (.aload_n 0, 1) := by decide +kernel
theorem dX12_needs_195 : decode cX12_needs 195 = .ok (.bipush 76, 2) := by decide +kernel
theorem dX12_needs_197 : decode cX12_needs 197 = .ok (.iload 6, 2) := by decide +kernel
theorem dX12_needs_199 : decode cX12_needs 199 = .ok (.aload_n 0, 1) := by decide +kernel
theorem dX12_needs_200 : decode cX12_needs 200 = .ok (.iload 4, 2) := by decide +kernel
theorem dX12_needs_202 : decode cX12_needs 202 = .ok (.invokevirtual 360, 3) := by decide +kernel
theorem dX12_needs_205 : decode cX12_needs 205 = .ok (.iconst (-1), 1) := by decide +kernel
theorem dX12_needs_206 : decode cX12_needs 206 = .ok (.iconst (-1), 1) := by decide +kernel
theorem dX12_needs_207 : decode cX12_needs 207 = .ok (.invokevirtual 318, 3) := by decide +kernel
theorem dX12_needs_210 : decode cX12_needs 210 = .ok (.iconst (-1), 1) := by decide +kernel
theorem dX12_needs_211 : decode cX12_needs 211 = .ok (.invokevirtual 318, 3) := by decide +kernel
theorem dX12_needs_214 : decode cX12_needs 214 = .ok (.istore 10, 2) := by decide +kernel
theorem dX12_needs_216 : decode cX12_needs 216 = .ok (.iload_n 1, 1) := by decide +kernel
theorem dX12_needs_217 : decode cX12_needs 217 = .ok (.iconst 1, 1) := by decide +kernel
theorem dX12_needs_218 : decode cX12_needs 218 = .ok (.iadd, 1) := by decide +kernel
theorem dX12_needs_219 : decode cX12_needs 219 = .ok (.istore 11, 2) := by decide +kernel
theorem dX12_needs_221 : decode cX12_needs 221 = .ok (.aload_n 0, 1) := by decide +kernel
theorem dX12_needs_222 : decode cX12_needs 222 = .ok (.iload 11, 2) := by decide +kernel
theorem dX12_needs_224 : decode cX12_needs 224 = .ok (.iload 9, 2) := by decide +kernel
theorem dX12_needs_226 : decode cX12_needs 226 = .ok (.aload_n 0, 1) := by decide +kernel
theorem dX12_needs_227 : decode cX12_needs 227 = .ok (.bipush 76, 2) := by decide +kernel
theorem dX12_needs_229 : decode cX12_needs 229 = .ok (.iload 7, 2) := by decide +kernel
theorem dX12_needs_231 : decode cX12_needs 231 = .ok (.iload 10, 2) := by decide +kernel
theorem dX12_needs_233 : decode cX12_needs 233 = .ok (.iconst (-1), 1) := by decide +kernel
theorem dX12_needs_234 : decode cX12_needs 234 = .ok (.iconst (-1), 1) := by decide +kernel
theorem dX12_needs_235 : decode cX12_needs 235 = .ok (.invokevirtual 318, 3) := by decide +kernel
theorem dX12_needs_238 : decode cX12_needs 238 = .ok (.iload 4, 2) := by decide +kernel
theorem dX12_needs_240 : decode cX12_needs 240 = .ok (.invokevirtual 363, 3) := by decide +kernel
theorem dX12_needs_243 : decode cX12_needs 243 = .ok (.ifCond .eq 28, 3) := by decide +kernel
theorem dX12_needs_246 : decode cX12_needs 246 = .ok (.aload_n 0, 1) := by decide +kernel
theorem dX12_needs_247 : decode cX12_needs 247 = .ok (.iload 11, 2) := by decide +kernel
theorem dX12_needs_249 : decode cX12_needs 249 = .ok (.iload 6, 2) := by decide +kernel
theorem dX12_needs_251 : decode cX12_needs 251 = .ok (.aload_n 0, 1) := by decide +kernel
theorem dX12_needs_252 : decode cX12_needs 252 = .ok (.iload 4, 2) := by decide +kernel
theorem dX12_needs_254 : decode cX12_needs 254 = .ok (.invokevirtual 360, 3) := by decide +kernel
theorem dX12_needs_257 : decode cX12_needs 257 = .ok (.iload 4, 2) := by decide +kernel
theorem dX12_needs_259 : decode cX12_needs 259 = .ok (.iconst 1, 1) := by decide +kernel
theorem dX12_needs_260 : decode cX12_needs 260 = .ok (.iadd, 1) := by decide +kernel
theorem dX12_needs_261 : decode cX12_needs 261 = .ok (.invokevirtual 363, 3) := by decide +kernel
theorem dX12_needs_264 : decode cX12_needs 264 = .ok (.ifCond .eq 7, 3) := by decide +kernel
theorem dX12_needs_267 : decode cX12_needs 267 = .ok (.iconst 1, 1) := by decide +kernel
theorem dX12_needs_268 : decode cX12_needs 268 = .ok (.goto 4, 3) := by decide +kernel
theorem dX12_needs_271 : decode cX12_needs 271 = .ok (.iconst 0, 1) := by decide +kernel
theorem dX12_needs_272 : decode cX12_needs 272 = .ok (.istore 12, 2) := by decide +kernel
theorem dX12_needs_274 : decode cX12_needs 274 = .ok (.iload 12, 2) := by decide +kernel
theorem dX12_needs_276 : decode cX12_needs 276 = .ok (.ifCond .eq 10, 3) := by decide +kernel
theorem dX12_needs_279 : decode cX12_needs 279 = .ok (.aload_n 0, 1) := by decide +kernel
theorem dX12_needs_280 : decode cX12_needs 280 = .ok (.invokevirtual 367, 3) := by decide +kernel
theorem dX12_needs_283 : decode cX12_needs 283 = .ok (.goto 4, 3) := by decide +kernel
theorem dX12_needs_286 : decode cX12_needs 286 = .ok (.iconst 3, 1) := by decide +kernel
theorem dX12_needs_287 : decode cX12_needs 287 = .ok (.ireturn, 1) := by decide +kernel
theorem dX12_resumed_0 : decode cX12_resumed 0 = .ok (.aload_n 0, 1) := by decide +kernel
theorem dX12_resumed_1 : decode cX12_resumed 1 = .ok (.getfield 88, 3) := by decide +kernel
theorem dX12_resumed_4 : decode cX12_resumed 4 = .ok (.iload_n 1, 1) := by decide +kernel
theorem dX12_resumed_5 : decode cX12_resumed 5 = .ok (.iaload, 1) := by decide +kernel
theorem dX12_resumed_6 : decode cX12_resumed 6 = .ok (.istore_n 3, 1) := by decide +kernel
theorem dX12_resumed_7 : decode cX12_resumed 7 = .ok (.aload_n 0, 1) := by decide +kernel
theorem dX12_resumed_8 : decode cX12_resumed 8 = .ok (.getfield 85, 3) := by decide +kernel
theorem dX12_resumed_11 : decode cX12_resumed 11 = .ok (.iload_n 1, 1) := by decide +kernel
theorem dX12_resumed_12 : decode cX12_resumed 12 = .ok (.iaload, 1) := by decide +kernel
theorem dX12_resumed_13 : decode cX12_resumed 13 = .ok (.istore 4, 2) := by decide +kernel
theorem dX12_resumed_15 : decode cX12_resumed 15 = .ok (.aload_n 0, 1) := by decide +kernel
theorem dX12_resumed_16 : decode cX12_resumed 16 = .ok (.getfield 91, 3) := by decide +kernel
theorem dX12_resumed_19 : decode cX12_resumed 19 = .ok (.iload_n 1, 1) := by decide +kernel
theorem dX12_resumed_20 : decode cX12_resumed 20 = .ok (.iaload, 1) := by decide +kernel
theorem dX12_resumed_21 : decode cX12_resumed 21 = .ok (.tableswitch 275 1 6 #[39, 41, 73, 115, 146, 234], 39) := by decide +kernel
theorem dX12_resumed_60 : decode cX12_resumed 60 = .ok (.iload_n 2, 1) := by decide +kernel
theorem dX12_resumed_61 : decode cX12_resumed 61 = .ok (.ireturn, 1) := by decide +kernel
theorem dX12_resumed_62 : decode cX12_resumed 62 = .ok (.iload_n 2, 1) := by decide +kernel
theorem dX12_resumed_63 : decode cX12_resumed 63 = .ok (.ifCond .ne 7, 3) := by decide +kernel
theorem dX12_resumed_66 : decode cX12_resumed 66 = .ok (.iconst 0, 1) := by decide +kernel
theorem dX12_resumed_67 : decode cX12_resumed 67 = .ok (.goto 26, 3) := by decide +kernel
theorem dX12_resumed_70 : decode cX12_resumed 70 = .ok (.aload_n 0, 1) := by decide +kernel
theorem dX12_resumed_71 : decode cX12_resumed 71 = .ok (.aload_n 0, 1) := by decide +kernel
theorem dX12_resumed_72 : decode cX12_resumed 72 = .ok (.bipush 76, 2) := by decide +kernel
theorem dX12_resumed_74 : decode cX12_resumed 74 = .ok (.aload_n 0, 1) := by decide +kernel
theorem dX12_resumed_75 : decode cX12_resumed 75 = .ok (.getfield 13, 3) := by decide +kernel
theorem dX12_resumed_78 : decode cX12_resumed 78 = .ok (.iload 4, 2) := by decide +kernel
theorem dX12_resumed_80 : decode cX12_resumed 80 = .ok (.iaload, 1) := by decide +kernel
theorem dX12_resumed_81 : decode cX12_resumed 81 = .ok (.aload_n 0, 1) := by decide +kernel
theorem dX12_resumed_82 : decode cX12_resumed 82 = .ok (.getfield 347, 3) := by decide +kernel
theorem dX12_resumed_85 : decode cX12_resumed 85 = .ok (.iconst (-1), 1) := by decide +kernel
theorem dX12_resumed_86 : decode cX12_resumed 86 = .ok (.iconst (-1), 1) := by decide +kernel
theorem dX12_resumed_87 : decode cX12_resumed 87 = .ok (.invokevirtual 318, 3) := by decide +kernel
theorem dX12_resumed_90 : decode cX12_resumed 90 = .ok (.invokevirtual 353, 3) := by decide +kernel
theorem dX12_resumed_93 : decode cX12_resumed 93 = .ok (.ireturn, 1) := by decide +kernel
theorem dX12_resumed_94 : decode cX12_resumed 94 = .ok (.iload_n 2, 1) := by decide +kernel
theorem dX12_resumed_95 : decode cX12_resumed 95 = .ok (.ifCond .ne 5, 3) := by decide +kernel
theorem dX12_resumed_98 : decode cX12_resumed 98 = .ok (.iconst 0, 1) := by decide +kernel
theorem dX12_resumed_99 : decode cX12_resumed 99 = .ok (.ireturn, 1) := by decide +kernel
theorem dX12_resumed_100 : decode cX12_resumed 100 = .ok (.aload_n 0, 1) := by decide +kernel
theorem dX12_resumed_101 : decode cX12_resumed 101 = .ok (.getfield 97, 3) := by decide +kernel
theorem dX12_resumed_104 : decode cX12_resumed 104 = .ok (.iload_n 1, 1) := by decide +kernel
theorem dX12_resumed_105 : decode cX12_resumed 105 = .ok (.aload_n 0, 1) := by decide +kernel
theorem dX12_resumed_106 : decode cX12_resumed 106 = .ok (.getfield 347, 3) := by decide +kernel
theorem dX12_resumed_109 : decode cX12_resumed 109 = .ok (.iastore, 1) := by decide +kernel
theorem dX12_resumed_110 : decode cX12_resumed 110 = .ok (.aload_n 0, 1) := by decide +kernel
theorem dX12_resumed_111 : decode cX12_resumed 111 = .ok (.iload_n 1, 1) := by decide +kernel
theorem dX12_resumed_112 : decode cX12_resumed 112 = .ok (.iconst (-1), 1) := by decide +kernel
theorem dX12_resumed_113 : decode cX12_resumed 113 = .ok (.aload_n 0, 1) := by decide +kernel
theorem dX12_resumed_114 : decode cX12_resumed 114 = .ok (.getfield 16, 3) := by decide +kernel
theorem dX12_resumed_117 : decode cX12_resumed 117 = .ok (.iload 4, 2) := by decide +kernel
theorem dX12_resumed_119 : decode cX12_resumed 119 = .ok (.iaload, 1) := by decide +kernel
theorem dX12_resumed_120 : decode cX12_resumed 120 = .ok (.iload_n 3, 1) := by decide +kernel
theorem dX12_resumed_121 : decode cX12_resumed 121 = .ok (.invokevirtual 356, 3) := by decide +kernel
theorem dX12_resumed_124 : decode cX12_resumed 124 = .ok (.aload_n 0, 1) := by decide +kernel
theorem dX12_resumed_125 : decode cX12_resumed 125 = .ok (.getfield 91, 3) := by decide +kernel
theorem dX12_resumed_128 : decode cX12_resumed 128 = .ok (.iload_n 1, 1) := by decide +kernel
theorem dX12_resumed_129 : decode cX12_resumed 129 = .ok (.iconst 4, 1) := by decide +kernel
theorem dX12_resumed_130 : decode cX12_resumed 130 = .ok (.iastore, 1) := by decide +kernel
theorem dX12_resumed_131 : decode cX12_resumed 131 = .ok (.aload_n 0, 1) := by decide +kernel
theorem dX12_resumed_132 : decode cX12_resumed 132 = .ok (.invokevirtual 367, 3) := by decide +kernel
theorem dX12_resumed_135 : decode cX12_resumed 135 = .ok (.ireturn, 1) := by decide +kernel
theorem dX12_resumed_136 : decode cX12_resumed 136 = .ok (.iload_n 2, 1) := by decide +kernel
theorem dX12_resumed_137 : decode cX12_resumed 137 = .ok (.ifCond .ne 7, 3) := by decide +kernel
theorem dX12_resumed_140 : decode cX12_resumed 140 = .ok (.iconst 0, 1) := by decide +kernel
theorem dX12_resumed_141 : decode cX12_resumed 141 = .ok (.goto 25, 3) := by decide +kernel
theorem dX12_resumed_144 : decode cX12_resumed 144 = .ok (.aload_n 0, 1) := by decide +kernel
theorem dX12_resumed_145 : decode cX12_resumed 145 = .ok (.aload_n 0, 1) := by decide +kernel
theorem dX12_resumed_146 : decode cX12_resumed 146 = .ok (.bipush 80, 2) := by decide +kernel
theorem dX12_resumed_148 : decode cX12_resumed 148 = .ok (.iconst 0, 1) := by decide +kernel
theorem dX12_resumed_149 : decode cX12_resumed 149 = .ok (.aload_n 0, 1) := by decide +kernel
theorem dX12_resumed_150 : decode cX12_resumed 150 = .ok (.getfield 97, 3) := by decide +kernel
theorem dX12_resumed_153 : decode cX12_resumed 153 = .ok (.iload_n 1, 1) := by decide +kernel
theorem dX12_resumed_154 : decode cX12_resumed 154 = .ok (.iaload, 1) := by decide +kernel
theorem dX12_resumed_155 : decode cX12_resumed 155 = .ok (.aload_n 0, 1) := by decide +kernel
theorem dX12_resumed_156 : decode cX12_resumed 156 = .ok (.getfield 347, 3) := by decide +kernel
theorem dX12_resumed_159 : decode cX12_resumed 159 = .ok (.iconst (-1), 1) := by decide +kernel
theorem dX12_resumed_160 : decode cX12_resumed 160 = .ok (.invokevirtual 318, 3) := by decide +kernel
theorem dX12_resumed_163 : decode cX12_resumed 163 = .ok (.invokevirtual 353, 3) := by decide +kernel
theorem dX12_resumed_166 : decode cX12_resumed 166 = .ok (.ireturn, 1) := by decide +kernel
theorem dX12_resumed_167 : decode cX12_resumed 167 = .ok (.iload_n 2, 1) := by decide +kernel
theorem dX12_resumed_168 : decode cX12_resumed 168 = .ok (.ifCond .ne 5, 3) := by decide +kernel
theorem dX12_resumed_171 : decode cX12_resumed 171 = .ok (.iconst 0, 1) := by decide +kernel
theorem dX12_resumed_172 : decode cX12_resumed 172 = .ok (.ireturn, 1) := by decide +kernel
theorem dX12_resumed_173 : decode cX12_resumed 173 = .ok (.aload_n 0, 1) := by decide +kernel
theorem dX12_resumed_174 : decode cX12_resumed 174 = .ok (.getfield 97, 3) := by decide +kernel
theorem dX12_resumed_177 : decode cX12_resumed 177 = .ok (.iload_n 1, 1) := by decide +kernel
theorem dX12_resumed_178 : decode cX12_resumed 178 = .ok (.aload_n 0, 1) := by decide +kernel
theorem dX12_resumed_179 : decode cX12_resumed 179 = .ok (.getfield 347, 3) := by decide +kernel
theorem dX12_resumed_182 : decode cX12_resumed 182 = .ok (.iastore, 1) := by decide +kernel
theorem dX12_resumed_183 : decode cX12_resumed 183 = .ok (.aload_n 0, 1) := by decide +kernel
theorem dX12_resumed_184 : decode cX12_resumed 184 = .ok (.iload_n 1, 1) := by decide +kernel
theorem dX12_resumed_185 : decode cX12_resumed 185 = .ok (.aload_n 0, 1) := by decide +kernel
theorem dX12_resumed_186 : decode cX12_resumed 186 = .ok (.getfield 94, 3) := by decide +kernel
theorem dX12_resumed_189 : decode cX12_resumed 189 = .ok (.iload_n 1, 1) := by decide +kernel
theorem dX12_resumed_190 : decode cX12_resumed 190 = .ok (.iaload, 1) := by decide +kernel
theorem dX12_resumed_191 : decode cX12_resumed 191 = .ok (.iload 4, 2) := by decide +kernel
theorem dX12_resumed_193 : decode cX12_resumed 193 = .ok (.iload_n 3, 1) := by decide +kernel
theorem dX12_resumed_194 : decode cX12_resumed 194 = .ok (.iconst 1, 1) := by decide +kernel
theorem dX12_resumed_195 : decode cX12_resumed 195 = .ok (.iadd, 1) := by decide +kernel
theorem dX12_resumed_196 : decode cX12_resumed 196 = .ok (.invokevirtual 356, 3) := by decide +kernel
theorem dX12_resumed_199 : decode cX12_resumed 199 = .ok (.aload_n 0, 1) := by decide +kernel
theorem dX12_resumed_200 : decode cX12_resumed 200 = .ok (.getfield 91, 3) := by decide +kernel
theorem dX12_resumed_203 : decode cX12_resumed 203 = .ok (.iload_n 1, 1) := by decide +kernel
theorem dX12_resumed_204 : decode cX12_resumed 204 = .ok (.bipush 6, 2) := by decide +kernel
theorem dX12_resumed_206 : decode cX12_resumed 206 = .ok (.iastore, 1) := by decide +kernel
theorem dX12_resumed_207 : decode cX12_resumed 207 = .ok (.aload_n 0, 1) := by decide +kernel
theorem dX12_resumed_208 : decode cX12_resumed 208 = .ok (.iload_n 1, 1) := by decide +kernel
theorem dX12_resumed_209 : decode cX12_resumed 209 = .ok (.iconst 1, 1) := by decide +kernel
theorem dX12_resumed_210 : decode cX12_resumed 210 = .ok (.iadd, 1) := by decide +kernel
theorem dX12_resumed_211 : decode cX12_resumed 211 = .ok (.aload_n 0, 1) := by decide +kernel
theorem dX12_resumed_212 : decode cX12_resumed 212 = .ok (.getfield 16, 3) := by decide +kernel
theorem dX12_resumed_215 : decode cX12_resumed 215 = .ok (.aload_n 0, 1) := by decide +kernel
theorem dX12_resumed_216 : decode cX12_resumed 216 = .ok (.getfield 73, 3) := by decide +kernel
theorem dX12_resumed_219 : decode cX12_resumed 219 = .ok (.bipush 60, 2) := by decide +kernel
theorem dX12_resumed_221 : decode cX12_resumed 221 = .ok (.iload_n 1, 1) := by decide +kernel
theorem dX12_resumed_222 : decode cX12_resumed 222 = .ok (.imul, 1) := by decide +kernel
theorem dX12_resumed_223 : decode cX12_resumed 223 = .ok (.aload_n 0, 1) := by decide +kernel
theorem dX12_resumed_224 : decode cX12_resumed 224 = .ok (.getfield 94, 3) := by decide +kernel
theorem dX12_resumed_227 : decode cX12_resumed 227 = .ok (.iload_n 1, 1) := by decide +kernel
theorem dX12_resumed_228 : decode cX12_resumed 228 = .ok (.iaload, 1) := by decide +kernel
theorem dX12_resumed_229 : decode cX12_resumed 229 = .ok (.iadd, 1) := by decide +kernel
theorem dX12_resumed_230 : decode cX12_resumed 230 = .ok (.iaload, 1) := by decide +kernel
theorem dX12_resumed_231 : decode cX12_resumed 231 = .ok (.iaload, 1) := by decide +kernel
theorem dX12_resumed_232 : decode cX12_resumed 232 = .ok (.aload_n 0, 1) := by decide +kernel
theorem dX12_resumed_233 : decode cX12_resumed 233 = .ok (.iload_n 3, 1) := by decide +kernel
theorem dX12_resumed_234 : decode cX12_resumed 234 = .ok (.invokevirtual 360, 3) := by decide +kernel
theorem dX12_resumed_237 : decode cX12_resumed 237 = .ok (.iload_n 3, 1) := by decide +kernel
theorem dX12_resumed_238 : decode cX12_resumed 238 = .ok (.iconst 1, 1) := by decide +kernel
theorem dX12_resumed_239 : decode cX12_resumed 239 = .ok (.iadd, 1) := by decide +kernel
theorem dX12_resumed_240 : decode cX12_resumed 240 = .ok (.invokevirtual 363, 3) := by decide +kernel
theorem dX12_resumed_243 : decode cX12_resumed 243 = .ok (.ifCond .eq 10, 3) := by decide +kernel
theorem dX12_resumed_246 : decode cX12_resumed 246 = .ok (.aload_n 0, 1) := by decide +kernel
theorem dX12_resumed_247 : decode cX12_resumed 247 = .ok (.invokevirtual 367, 3) := by decide +kernel
theorem dX12_resumed_250 : decode cX12_resumed 250 = .ok (.goto 4, 3) := by decide +kernel
theorem dX12_resumed_253 : decode cX12_resumed 253 = .ok (.iconst 3, 1) := by decide +kernel
theorem dX12_resumed_254 : decode cX12_resumed 254 = .ok (.ireturn, 1) := by decide +kernel
theorem dX12_resumed_255 : decode cX12_resumed 255 = .ok (.iload_n 2, 1) := by decide +kernel
theorem dX12_resumed_256 : decode cX12_resumed 256 = .ok (.ifCond .ne 7, 3) := by decide +kernel
theorem dX12_resumed_259 : decode cX12_resumed 259 = .ok (.iconst 0, 1) := by decide +kernel
theorem dX12_resumed_260 : decode cX12_resumed 260 = .ok (.goto 35, 3) := by decide +kernel
theorem dX12_resumed_263 : decode cX12_resumed 263 = .ok (.aload_n 0, 1) := by decide +kernel
theorem dX12_resumed_264 : decode cX12_resumed 264 = .ok (.aload_n 0, 1) := by decide +kernel
theorem dX12_resumed_265 : decode cX12_resumed 265 = .ok (.bipush 67, 2) := by decide +kernel
theorem dX12_resumed_267 : decode cX12_resumed 267 = .ok (.iconst 0, 1) := by decide +kernel
theorem dX12_resumed_268 : decode cX12_resumed 268 = .ok (.aload_n 0, 1) := by decide +kernel
theorem dX12_resumed_269 : decode cX12_resumed 269 = .ok (.iload_n 1, 1) := by decide +kernel
theorem dX12_resumed_270 : decode cX12_resumed 270 = .ok (.aload_n 0, 1) := by decide +kernel
theorem dX12_resumed_271 : decode cX12_resumed 271 = .ok (.getfield 94, 3) := by decide +kernel
theorem dX12_resumed_274 : decode cX12_resumed 274 = .ok (.iload_n 1, 1) := by decide +kernel
theorem dX12_resumed_275 : decode cX12_resumed 275 = .ok (.iaload, 1) := by decide +kernel
theorem dX12_resumed_276 : decode cX12_resumed 276 = .ok (.invokevirtual 350, 3) := by decide +kernel
theorem dX12_resumed_279 : decode cX12_resumed 279 = .ok (.aload_n 0, 1) := by decide +kernel
theorem dX12_resumed_280 : decode cX12_resumed 280 = .ok (.getfield 97, 3) := by decide +kernel
theorem dX12_resumed_283 : decode cX12_resumed 283 = .ok (.iload_n 1, 1) := by decide +kernel
theorem dX12_resumed_284 : decode cX12_resumed 284 = .ok (.iaload, 1) := by decide +kernel
theorem dX12_resumed_285 : decode cX12_resumed 285 = .ok (.aload_n 0, 1) := by decide +kernel
theorem dX12_resumed_286 : decode cX12_resumed 286 = .ok (.getfield 347, 3) := by decide +kernel
theorem dX12_resumed_289 : decode cX12_resumed 289 = .ok (.invokevirtual 318, 3) := by decide +kernel
theorem dX12_resumed_292 : decode cX12_resumed 292 = .ok (.invokevirtual 353, 3) := by decide +kernel
theorem dX12_resumed_295 : decode cX12_resumed 295 = .ok (.ireturn, 1) := by decide +kernel
theorem dX12_resumed_296 : decode cX12_resumed 296 = .ok (.aload_n 0, 1) := by decide +kernel
theorem dX12_resumed_297 : decode cX12_resumed 297 = .ok (.iload_n 1, 1) := by decide +kernel
theorem dX12_resumed_298 : decode cX12_resumed 298 = .ok (.iload_n 2, 1) := by decide +kernel
theorem dX12_resumed_299 : decode cX12_resumed 299 = .ok (.iload_n 3, 1) := by decide +kernel
theorem dX12_resumed_300 : decode cX12_resumed 300 = .ok (.iload 4, 2) := by decide +kernel
theorem dX12_resumed_302 : decode cX12_resumed 302 = .ok (.invokevirtual 391, 3) := by decide +kernel
theorem dX12_resumed_305 : decode cX12_resumed 305 = .ok (.ireturn, 1) := by decide +kernel
theorem dX12_resumed2_0 : decode cX12_resumed2 0 = .ok (.aload_n 0, 1) := by decide +kernel
theorem dX12_resumed2_1 : decode cX12_resumed2 1 = .ok (.getfield 91, 3) := by decide +kernel
theorem dX12_resumed2_4 : decode cX12_resumed2 4 = .ok (.iload_n 1, 1) := by decide +kernel
theorem dX12_resumed2_5 : decode cX12_resumed2 5 = .ok (.iaload, 1) := by decide +kernel
theorem dX12_resumed2_6 : decode cX12_resumed2 6 = .ok (.lookupswitch 145 #[(7, 26), (8, 101)], 26) := by decide +kernel
theorem dX12_resumed2_32 : decode cX12_resumed2 32 = .ok (.iload_n 2, 1) := by decide +kernel
theorem dX12_resumed2_33 : decode cX12_resumed2 33 = .ok (.iconst 1, 1) := by decide +kernel
theorem dX12_resumed2_34 : decode cX12_resumed2 34 = .ok (.if_icmp .ne 21, 3) := by decide +kernel
theorem dX12_resumed2_37 : decode cX12_resumed2 37 = .ok (.aload_n 0, 1) := by decide +kernel
theorem dX12_resumed2_38 : decode cX12_resumed2 38 = .ok (.aload_n 0, 1) := by decide +kernel
theorem dX12_resumed2_39 : decode cX12_resumed2 39 = .ok (.bipush 73, 2) := by decide +kernel
theorem dX12_resumed2_41 : decode cX12_resumed2 41 = .ok (.iconst 0, 1) := by decide +kernel
theorem dX12_resumed2_42 : decode cX12_resumed2 42 = .ok (.aload_n 0, 1) := by decide +kernel
theorem dX12_resumed2_43 : decode cX12_resumed2 43 = .ok (.getfield 347, 3) := by decide +kernel
theorem dX12_resumed2_46 : decode cX12_resumed2 46 = .ok (.iconst (-1), 1) := by decide +kernel
theorem dX12_resumed2_47 : decode cX12_resumed2 47 = .ok (.iconst (-1), 1) := by decide +kernel
theorem dX12_resumed2_48 : decode cX12_resumed2 48 = .ok (.invokevirtual 318, 3) := by decide +kernel
theorem dX12_resumed2_51 : decode cX12_resumed2 51 = .ok (.invokevirtual 353, 3) := by decide +kernel
theorem dX12_resumed2_54 : decode cX12_resumed2 54 = .ok (.ireturn, 1) := by decide +kernel
theorem dX12_resumed2_55 : decode cX12_resumed2 55 = .ok (.aload_n 0, 1) := by decide +kernel
theorem dX12_resumed2_56 : decode cX12_resumed2 56 = .ok (.getfield 100, 3) := by decide +kernel
theorem dX12_resumed2_59 : decode cX12_resumed2 59 = .ok (.iload_n 1, 1) := by decide +kernel
theorem dX12_resumed2_60 : decode cX12_resumed2 60 = .ok (.aload_n 0, 1) := by decide +kernel
theorem dX12_resumed2_61 : decode cX12_resumed2 61 = .ok (.iload_n 1, 1) := by decide +kernel
theorem dX12_resumed2_62 : decode cX12_resumed2 62 = .ok (.invokevirtual 385, 3) := by decide +kernel
theorem dX12_resumed2_65 : decode cX12_resumed2 65 = .ok (.iastore, 1) := by decide +kernel
theorem dX12_resumed2_66 : decode cX12_resumed2 66 = .ok (.aload_n 0, 1) := by decide +kernel
theorem dX12_resumed2_67 : decode cX12_resumed2 67 = .ok (.aload_n 0, 1) := by decide +kernel
theorem dX12_resumed2_68 : decode cX12_resumed2 68 = .ok (.getfield 100, 3) := by decide +kernel
theorem dX12_resumed2_71 : decode cX12_resumed2 71 = .ok (.iload_n 1, 1) := by decide +kernel
theorem dX12_resumed2_72 : decode cX12_resumed2 72 = .ok (.iaload, 1) := by decide +kernel
theorem dX12_resumed2_73 : decode cX12_resumed2 73 = .ok (.aload_n 0, 1) := by decide +kernel
theorem dX12_resumed2_74 : decode cX12_resumed2 74 = .ok (.getfield 388, 3) := by decide +kernel
theorem dX12_resumed2_77 : decode cX12_resumed2 77 = .ok (.invokevirtual 394, 3) := by decide +kernel
theorem dX12_resumed2_80 : decode cX12_resumed2 80 = .ok (.aload_n 0, 1) := by decide +kernel
theorem dX12_resumed2_81 : decode cX12_resumed2 81 = .ok (.iload_n 1, 1) := by decide +kernel
theorem dX12_resumed2_82 : decode cX12_resumed2 82 = .ok (.iconst (-1), 1) := by decide +kernel
theorem dX12_resumed2_83 : decode cX12_resumed2 83 = .ok (.aload_n 0, 1) := by decide +kernel
theorem dX12_resumed2_84 : decode cX12_resumed2 84 = .ok (.getfield 16, 3) := by decide +kernel
theorem dX12_resumed2_87 : decode cX12_resumed2 87 = .ok (.iload 4, 2) := by decide +kernel
theorem dX12_resumed2_89 : decode cX12_resumed2 89 = .ok (.iaload, 1) := by decide +kernel
theorem dX12_resumed2_90 : decode cX12_resumed2 90 = .ok (.iload_n 3, 1) := by decide +kernel
theorem dX12_resumed2_91 : decode cX12_resumed2 91 = .ok (.invokevirtual 356, 3) := by decide +kernel
theorem dX12_resumed2_94 : decode cX12_resumed2 94 = .ok (.aload_n 0, 1) := by decide +kernel
theorem dX12_resumed2_95 : decode cX12_resumed2 95 = .ok (.getfield 91, 3) := by decide +kernel
theorem dX12_resumed2_98 : decode cX12_resumed2 98 = .ok (.iload_n 1, 1) := by decide +kernel
theorem dX12_resumed2_99 : decode cX12_resumed2 99 = .ok (.bipush 8, 2) := by decide +kernel
theorem dX12_resumed2_101 : decode cX12_resumed2 101 = .ok (.iastore, 1) := by decide +kernel
theorem dX12_resumed2_102 : decode cX12_resumed2 102 = .ok (.aload_n 0, 1) := by decide +kernel
theorem dX12_resumed2_103 : decode cX12_resumed2 103 = .ok (.invokevirtual 367, 3) := by decide +kernel
theorem dX12_resumed2_106 : decode cX12_resumed2 106 = .ok (.ireturn, 1) := by decide +kernel
theorem dX12_resumed2_107 : decode cX12_resumed2 107 = .ok (.iload_n 2, 1) := by decide +kernel
theorem dX12_resumed2_108 : decode cX12_resumed2 108 = .ok (.iconst 1, 1) := by decide +kernel
theorem dX12_resumed2_109 : decode cX12_resumed2 109 = .ok (.if_icmp .ne 21, 3) := by decide +kernel
theorem dX12_resumed2_112 : decode cX12_resumed2 112 = .ok (.aload_n 0, 1) := by decide +kernel
theorem dX12_resumed2_113 : decode cX12_resumed2 113 = .ok (.aload_n 0, 1) := by decide +kernel
theorem dX12_resumed2_114 : decode cX12_resumed2 114 = .ok (.bipush 74, 2) := by decide +kernel
theorem dX12_resumed2_116 : decode cX12_resumed2 116 = .ok (.iconst 0, 1) := by decide +kernel
theorem dX12_resumed2_117 : decode cX12_resumed2 117 = .ok (.aload_n 0, 1) := by decide +kernel
theorem dX12_resumed2_118 : decode cX12_resumed2 118 = .ok (.getfield 347, 3) := by decide +kernel
theorem dX12_resumed2_121 : decode cX12_resumed2 121 = .ok (.iconst (-1), 1) := by decide +kernel
theorem dX12_resumed2_122 : decode cX12_resumed2 122 = .ok (.iconst (-1), 1) := by decide +kernel
theorem dX12_resumed2_123 : decode cX12_resumed2 123 = .ok (.invokevirtual 318, 3) := by decide +kernel
theorem dX12_resumed2_126 : decode cX12_resumed2 126 = .ok (.invokevirtual 353, 3) := by decide +kernel
theorem dX12_resumed2_129 : decode cX12_resumed2 129 = .ok (.ireturn, 1) := by decide +kernel
theorem dX12_resumed2_130 : decode cX12_resumed2 130 = .ok (.aload_n 0, 1) := by decide +kernel
theorem dX12_resumed2_131 : decode cX12_resumed2 131 = .ok (.aload_n 0, 1) := by decide +kernel
theorem dX12_resumed2_132 : decode cX12_resumed2 132 = .ok (.getfield 100, 3) := by decide +kernel
theorem dX12_resumed2_135 : decode cX12_resumed2 135 = .ok (.iload_n 1, 1) := by decide +kernel
theorem dX12_resumed2_136 : decode cX12_resumed2 136 = .ok (.iaload, 1) := by decide +kernel
theorem dX12_resumed2_137 : decode cX12_resumed2 137 = .ok (.aload_n 0, 1) := by decide +kernel
theorem dX12_resumed2_138 : decode cX12_resumed2 138 = .ok (.getfield 388, 3) := by decide +kernel
theorem dX12_resumed2_141 : decode cX12_resumed2 141 = .ok (.invokevirtual 394, 3) := by decide +kernel
theorem dX12_resumed2_144 : decode cX12_resumed2 144 = .ok (.aload_n 0, 1) := by decide +kernel
theorem dX12_resumed2_145 : decode cX12_resumed2 145 = .ok (.iload_n 1, 1) := by decide +kernel
theorem dX12_resumed2_146 : decode cX12_resumed2 146 = .ok (.iconst 0, 1) := by decide +kernel
theorem dX12_resumed2_147 : decode cX12_resumed2 147 = .ok (.invokevirtual 376, 3) := by decide +kernel
theorem dX12_resumed2_150 : decode cX12_resumed2 150 = .ok (.ireturn, 1) := by decide +kernel
theorem dX12_resumed2_151 : decode cX12_resumed2 151 = .ok (.aload_n 0, 1) := by decide +kernel
theorem dX12_resumed2_152 : decode cX12_resumed2 152 = .ok (.getfield 73, 3) := by decide +kernel
theorem dX12_resumed2_155 : decode cX12_resumed2 155 = .ok (.bipush 60, 2) := by decide +kernel
theorem dX12_resumed2_157 : decode cX12_resumed2 157 = .ok (.iload_n 1, 1) := by decide +kernel
theorem dX12_resumed2_158 : decode cX12_resumed2 158 = .ok (.imul, 1) := by decide +kernel
theorem dX12_resumed2_159 : decode cX12_resumed2 159 = .ok (.aload_n 0, 1) := by decide +kernel
theorem dX12_resumed2_160 : decode cX12_resumed2 160 = .ok (.getfield 94, 3) := by decide +kernel
theorem dX12_resumed2_163 : decode cX12_resumed2 163 = .ok (.iload_n 1, 1) := by decide +kernel
theorem dX12_resumed2_164 : decode cX12_resumed2 164 = .ok (.iaload, 1) := by decide +kernel
theorem dX12_resumed2_165 : decode cX12_resumed2 165 = .ok (.iadd, 1) := by decide +kernel
theorem dX12_resumed2_166 : decode cX12_resumed2 166 = .ok (.iaload, 1) := by decide +kernel
theorem dX12_resumed2_167 : decode cX12_resumed2 167 = .ok (.istore 5, 2) := by decide +kernel
theorem dX12_resumed2_169 : decode cX12_resumed2 169 = .ok (.iload_n 2, 1) := by decide +kernel
theorem dX12_resumed2_170 : decode cX12_resumed2 170 = .ok (.ifCond .ne 51, 3) := by decide +kernel
theorem dX12_resumed2_173 : decode cX12_resumed2 173 = .ok (.aload_n 0, 1) := by decide +kernel
theorem dX12_resumed2_174 : decode cX12_resumed2 174 = .ok (.getfield 100, 3) := by decide +kernel
theorem dX12_resumed2_177 : decode cX12_resumed2 177 = .ok (.iload_n 1, 1) := by decide +kernel
theorem dX12_resumed2_178 : decode cX12_resumed2 178 = .ok (.iaload, 1) := by decide +kernel
theorem dX12_resumed2_179 : decode cX12_resumed2 179 = .ok (.ifCond .ge 14, 3) := by decide +kernel
theorem dX12_resumed2_182 : decode cX12_resumed2 182 = .ok (.aload_n 0, 1) := by decide +kernel
theorem dX12_resumed2_183 : decode cX12_resumed2 183 = .ok (.getfield 100, 3) := by decide +kernel
theorem dX12_resumed2_186 : decode cX12_resumed2 186 = .ok (.iload_n 1, 1) := by decide +kernel
theorem dX12_resumed2_187 : decode cX12_resumed2 187 = .ok (.aload_n 0, 1) := by decide +kernel
theorem dX12_resumed2_188 : decode cX12_resumed2 188 = .ok (.iload_n 1, 1) := by decide +kernel
theorem dX12_resumed2_189 : decode cX12_resumed2 189 = .ok (.invokevirtual 385, 3) := by decide +kernel
theorem dX12_resumed2_192 : decode cX12_resumed2 192 = .ok (.iastore, 1) := by decide +kernel
theorem dX12_resumed2_193 : decode cX12_resumed2 193 = .ok (.aload_n 0, 1) := by decide +kernel
theorem dX12_resumed2_194 : decode cX12_resumed2 194 = .ok (.aload_n 0, 1) := by decide +kernel
theorem dX12_resumed2_195 : decode cX12_resumed2 195 = .ok (.getfield 100, 3) := by decide +kernel
theorem dX12_resumed2_198 : decode cX12_resumed2 198 = .ok (.iload_n 1, 1) := by decide +kernel
theorem dX12_resumed2_199 : decode cX12_resumed2 199 = .ok (.iaload, 1) := by decide +kernel
theorem dX12_resumed2_200 : decode cX12_resumed2 200 = .ok (.aload_n 0, 1) := by decide +kernel
theorem dX12_resumed2_201 : decode cX12_resumed2 201 = .ok (.getfield 388, 3) := by decide +kernel
theorem dX12_resumed2_204 : decode cX12_resumed2 204 = .ok (.invokevirtual 394, 3) := by decide +kernel
theorem dX12_resumed2_207 : decode cX12_resumed2 207 = .ok (.aload_n 0, 1) := by decide +kernel
theorem dX12_resumed2_208 : decode cX12_resumed2 208 = .ok (.iload_n 1, 1) := by decide +kernel
theorem dX12_resumed2_209 : decode cX12_resumed2 209 = .ok (.aload_n 0, 1) := by decide +kernel
theorem dX12_resumed2_210 : decode cX12_resumed2 210 = .ok (.getfield 94, 3) := by decide +kernel
theorem dX12_resumed2_213 : decode cX12_resumed2 213 = .ok (.iload_n 1, 1) := by decide +kernel
theorem dX12_resumed2_214 : decode cX12_resumed2 214 = .ok (.iaload, 1) := by decide +kernel
theorem dX12_resumed2_215 : decode cX12_resumed2 215 = .ok (.iconst 1, 1) := by decide +kernel
theorem dX12_resumed2_216 : decode cX12_resumed2 216 = .ok (.iadd, 1) := by decide +kernel
theorem dX12_resumed2_217 : decode cX12_resumed2 217 = .ok (.invokevirtual 376, 3) := by decide +kernel
theorem dX12_resumed2_220 : decode cX12_resumed2 220 = .ok (.ireturn, 1) := by decide +kernel
theorem dX12_resumed2_221 : decode cX12_resumed2 221 = .ok (.aload_n 0, 1) := by decide +kernel
theorem dX12_resumed2_222 : decode cX12_resumed2 222 = .ok (.bipush 76, 2) := by decide +kernel
theorem dX12_resumed2_224 : decode cX12_resumed2 224 = .ok (.aload_n 0, 1) := by decide +kernel
theorem dX12_resumed2_225 : decode cX12_resumed2 225 = .ok (.getfield 13, 3) := by decide +kernel
theorem dX12_resumed2_228 : decode cX12_resumed2 228 = .ok (.aload_n 0, 1) := by decide +kernel
theorem dX12_resumed2_229 : decode cX12_resumed2 229 = .ok (.getfield 13, 3) := by decide +kernel
theorem dX12_resumed2_232 : decode cX12_resumed2 232 = .ok (.iload 5, 2) := by decide +kernel
theorem dX12_resumed2_234 : decode cX12_resumed2 234 = .ok (.iaload, 1) := by decide +kernel
theorem dX12_resumed2_235 : decode cX12_resumed2 235 = .ok (.iaload, 1) := by decide +kernel
theorem dX12_resumed2_236 : decode cX12_resumed2 236 = .ok (.aload_n 0, 1) := by decide +kernel
theorem dX12_resumed2_237 : decode cX12_resumed2 237 = .ok (.getfield 347, 3) := by decide +kernel
theorem dX12_resumed2_240 : decode cX12_resumed2 240 = .ok (.iconst (-1), 1) := by decide +kernel
theorem dX12_resumed2_241 : decode cX12_resumed2 241 = .ok (.iconst (-1), 1) := by decide +kernel
theorem dX12_resumed2_242 : decode cX12_resumed2 242 = .ok (.invokevirtual 318, 3) := by decide +kernel
theorem dX12_resumed2_245 : decode cX12_resumed2 245 = .ok (.istore 6, 2) := by decide +kernel
theorem dX12_resumed2_247 : decode cX12_resumed2 247 = .ok (.aload_n 0, 1) := by decide +kernel
theorem dX12_resumed2_248 : decode cX12_resumed2 248 = .ok (.bipush 65, 2) := by decide +kernel
theorem dX12_resumed2_250 : decode cX12_resumed2 250 = .ok (.iconst 0, 1) := by decide +kernel
theorem dX12_resumed2_251 : decode cX12_resumed2 251 = .ok (.aload_n 0, 1) := by decide +kernel
theorem dX12_resumed2_252 : decode cX12_resumed2 252 = .ok (.iload_n 1, 1) := by decide +kernel
theorem dX12_resumed2_253 : decode cX12_resumed2 253 = .ok (.aload_n 0, 1) := by decide +kernel
theorem dX12_resumed2_254 : decode cX12_resumed2 254 = .ok (.getfield 94, 3) := by decide +kernel
theorem dX12_resumed2_257 : decode cX12_resumed2 257 = .ok (.iload_n 1, 1) := by decide +kernel
theorem dX12_resumed2_258 : decode cX12_resumed2 258 = .ok (.iaload, 1) := by decide +kernel
theorem dX12_resumed2_259 : decode cX12_resumed2 259 = .ok (.invokevirtual 350, 3) := by decide +kernel
theorem dX12_resumed2_262 : decode cX12_resumed2 262 = .ok (.iload 6, 2) := by decide +kernel
theorem dX12_resumed2_264 : decode cX12_resumed2 264 = .ok (.iconst (-1), 1) := by decide +kernel
theorem dX12_resumed2_265 : decode cX12_resumed2 265 = .ok (.invokevirtual 318, 3) := by decide +kernel
theorem dX12_resumed2_268 : decode cX12_resumed2 268 = .ok (.istore 7, 2) := by decide +kernel
theorem dX12_resumed2_270 : decode cX12_resumed2 270 = .ok (.aload_n 0, 1) := by decide +kernel
theorem dX12_resumed2_271 : decode cX12_resumed2 271 = .ok (.iload_n 1, 1) := by decide +kernel
theorem dX12_resumed2_272 : decode cX12_resumed2 272 = .ok (.aload_n 0, 1) := by decide +kernel
theorem dX12_resumed2_273 : decode cX12_resumed2 273 = .ok (.getfield 94, 3) := by decide +kernel
theorem dX12_resumed2_276 : decode cX12_resumed2 276 = .ok (.iload_n 1, 1) := by decide +kernel
theorem dX12_resumed2_277 : decode cX12_resumed2 277 = .ok (.iaload, 1) := by decide +kernel
theorem dX12_resumed2_278 : decode cX12_resumed2 278 = .ok (.iload 4, 2) := by decide +kernel
theorem dX12_resumed2_280 : decode cX12_resumed2 280 = .ok (.iload_n 3, 1) := by decide +kernel
theorem dX12_resumed2_281 : decode cX12_resumed2 281 = .ok (.invokevirtual 356, 3) := by decide +kernel
theorem dX12_resumed2_284 : decode cX12_resumed2 284 = .ok (.aload_n 0, 1) := by decide +kernel
theorem dX12_resumed2_285 : decode cX12_resumed2 285 = .ok (.getfield 91, 3) := by decide +kernel
theorem dX12_resumed2_288 : decode cX12_resumed2 288 = .ok (.iload_n 1, 1) := by decide +kernel
theorem dX12_resumed2_289 : decode cX12_resumed2 289 = .ok (.iconst 1, 1) := by decide +kernel
theorem dX12_resumed2_290 : decode cX12_resumed2 290 = .ok (.iastore, 1) := by decide +kernel
theorem dX12_resumed2_291 : decode cX12_resumed2 291 = .ok (.aload_n 0, 1) := by decide +kernel
theorem dX12_resumed2_292 : decode cX12_resumed2 292 = .ok (.iload_n 1, 1) := by decide +kernel
theorem dX12_resumed2_293 : decode cX12_resumed2 293 = .ok (.iconst 1, 1) := by decide +kernel
theorem dX12_resumed2_294 : decode cX12_resumed2 294 = .ok (.iadd, 1) := by decide +kernel
theorem dX12_resumed2_295 : decode cX12_resumed2 295 = .ok (.aload_n 0, 1) := by decide +kernel
theorem dX12_resumed2_296 : decode cX12_resumed2 296 = .ok (.getfield 16, 3) := by decide +kernel
theorem dX12_resumed2_299 : decode cX12_resumed2 299 = .ok (.iload 5, 2) := by decide +kernel
theorem dX12_resumed2_301 : decode cX12_resumed2 301 = .ok (.iaload, 1) := by decide +kernel
theorem dX12_resumed2_302 : decode cX12_resumed2 302 = .ok (.iload 7, 2) := by decide +kernel
theorem dX12_resumed2_304 : decode cX12_resumed2 304 = .ok (.iload_n 3, 1) := by decide +kernel
theorem dX12_resumed2_305 : decode cX12_resumed2 305 = .ok (.invokevirtual 363, 3) := by decide +kernel
theorem dX12_resumed2_308 : decode cX12_resumed2 308 = .ok (.ifCond .eq 10, 3) := by decide +kernel
theorem dX12_resumed2_311 : decode cX12_resumed2 311 = .ok (.aload_n 0, 1) := by decide +kernel
theorem dX12_resumed2_312 : decode cX12_resumed2 312 = .ok (.invokevirtual 367, 3) := by decide +kernel
theorem dX12_resumed2_315 : decode cX12_resumed2 315 = .ok (.goto 4, 3) := by decide +kernel
theorem dX12_resumed2_318 : decode cX12_resumed2 318 = .ok (.iconst 3, 1) := by decide +kernel
theorem dX12_resumed2_319 : decode cX12_resumed2 319 = .ok (.ireturn, 1) := by decide +kernel
theorem dX12_search_0 : decode cX12_search 0 = .ok (.aload_n 0, 1) := by decide +kernel
theorem dX12_search_1 : decode cX12_search 1 = .ok (.iconst (-1), 1) := by decide +kernel
theorem dX12_search_2 : decode cX12_search 2 = .ok (.putfield 335, 3) := by decide +kernel
theorem dX12_search_5 : decode cX12_search 5 = .ok (.aload_n 0, 1) := by decide +kernel
theorem dX12_search_6 : decode cX12_search 6 = .ok (.invokevirtual 367, 3) := by decide +kernel
theorem dX12_search_9 : decode cX12_search 9 = .ok (.istore_n 1, 1) := by decide +kernel
theorem dX12_search_10 : decode cX12_search 10 = .ok (.iload_n 1, 1) := by decide +kernel
theorem dX12_search_11 : decode cX12_search 11 = .ok (.iconst 2, 1) := by decide +kernel
theorem dX12_search_12 : decode cX12_search 12 = .ok (.if_icmp .eq 15, 3) := by decide +kernel
theorem dX12_search_15 : decode cX12_search 15 = .ok (.aload_n 0, 1) := by decide +kernel
theorem dX12_search_16 : decode cX12_search 16 = .ok (.getfield 335, 3) := by decide +kernel
theorem dX12_search_19 : decode cX12_search 19 = .ok (.ifCond .lt 75, 3) := by decide +kernel
theorem dX12_search_22 : decode cX12_search 22 = .ok (.iload_n 1, 1) := by decide +kernel
theorem dX12_search_23 : decode cX12_search 23 = .ok (.iconst 2, 1) := by decide +kernel
theorem dX12_search_24 : decode cX12_search 24 = .ok (.if_icmp .ge 70, 3) := by decide +kernel
theorem dX12_search_27 : decode cX12_search 27 = .ok (.aload_n 0, 1) := by decide +kernel
theorem dX12_search_28 : decode cX12_search 28 = .ok (.getfield 335, 3) := by decide +kernel
theorem dX12_search_31 : decode cX12_search 31 = .ok (.istore_n 2, 1) := by decide +kernel
theorem dX12_search_32 : decode cX12_search 32 = .ok (.iload_n 1, 1) := by decide +kernel
theorem dX12_search_33 : decode cX12_search 33 = .ok (.iconst 2, 1) := by decide +kernel
theorem dX12_search_34 : decode cX12_search 34 = .ok (.if_icmp .ne 28, 3) := by decide +kernel
theorem dX12_search_37 : decode cX12_search 37 = .ok (.aload_n 0, 1) := by decide +kernel
theorem dX12_search_38 : decode cX12_search 38 = .ok (.getfield 91, 3) := by decide +kernel
theorem dX12_search_41 : decode cX12_search 41 = .ok (.iload_n 2, 1) := by decide +kernel
theorem dX12_search_42 : decode cX12_search 42 = .ok (.iaload, 1) := by decide +kernel
theorem dX12_search_43 : decode cX12_search 43 = .ok (.ifCond .ne 10, 3) := by decide +kernel
theorem dX12_search_46 : decode cX12_search 46 = .ok (.aload_n 0, 1) := by decide +kernel
theorem dX12_search_47 : decode cX12_search 47 = .ok (.getfield 100, 3) := by decide +kernel
theorem dX12_search_50 : decode cX12_search 50 = .ok (.iload_n 2, 1) := by decide +kernel
theorem dX12_search_51 : decode cX12_search 51 = .ok (.iconst (-1), 1) := by decide +kernel
theorem dX12_search_52 : decode cX12_search 52 = .ok (.iastore, 1) := by decide +kernel
theorem dX12_search_53 : decode cX12_search 53 = .ok (.aload_n 0, 1) := by decide +kernel
theorem dX12_search_54 : decode cX12_search 54 = .ok (.iload_n 2, 1) := by decide +kernel
theorem dX12_search_55 : decode cX12_search 55 = .ok (.invokevirtual 398, 3) := by decide +kernel
theorem dX12_search_58 : decode cX12_search 58 = .ok (.istore_n 1, 1) := by decide +kernel
theorem dX12_search_59 : decode cX12_search 59 = .ok (.goto 10, 3) := by decide +kernel
theorem dX12_search_62 : decode cX12_search 62 = .ok (.aload_n 0, 1) := by decide +kernel
theorem dX12_search_63 : decode cX12_search 63 = .ok (.iload_n 2, 1) := by decide +kernel
theorem dX12_search_64 : decode cX12_search 64 = .ok (.iload_n 1, 1) := by decide +kernel
theorem dX12_search_65 : decode cX12_search 65 = .ok (.invokevirtual 401, 3) := by decide +kernel
theorem dX12_search_68 : decode cX12_search 68 = .ok (.istore_n 1, 1) := by decide +kernel
theorem dX12_search_69 : decode cX12_search 69 = .ok (.iload_n 1, 1) := by decide +kernel
theorem dX12_search_70 : decode cX12_search 70 = .ok (.iconst 2, 1) := by decide +kernel
theorem dX12_search_71 : decode cX12_search 71 = .ok (.if_icmp .ge 10, 3) := by decide +kernel
theorem dX12_search_74 : decode cX12_search 74 = .ok (.aload_n 0, 1) := by decide +kernel
theorem dX12_search_75 : decode cX12_search 75 = .ok (.iload_n 2, 1) := by decide +kernel
theorem dX12_search_76 : decode cX12_search 76 = .ok (.iconst 1, 1) := by decide +kernel
theorem dX12_search_77 : decode cX12_search 77 = .ok (.isub, 1) := by decide +kernel
theorem dX12_search_78 : decode cX12_search 78 = .ok (.putfield 335, 3) := by decide +kernel
theorem dX12_search_81 : decode cX12_search 81 = .ok (.iload_n 1, 1) := by decide +kernel
theorem dX12_search_82 : decode cX12_search 82 = .ok (.iconst 3, 1) := by decide +kernel
theorem dX12_search_83 : decode cX12_search 83 = .ok (.if_icmp .ne 8, 3) := by decide +kernel
theorem dX12_search_86 : decode cX12_search 86 = .ok (.aload_n 0, 1) := by decide +kernel
theorem dX12_search_87 : decode cX12_search 87 = .ok (.getfield 325, 3) := by decide +kernel
theorem dX12_search_90 : decode cX12_search 90 = .ok (.ireturn, 1) := by decide +kernel
theorem dX12_search_91 : decode cX12_search 91 = .ok (.goto (-81), 3) := by decide +kernel
theorem dX12_search_94 : decode cX12_search 94 = .ok (.iload_n 1, 1) := by decide +kernel
theorem dX12_search_95 : decode cX12_search 95 = .ok (.iconst 3, 1) := by decide +kernel
theorem dX12_search_96 : decode cX12_search 96 = .ok (.if_icmp .ne 10, 3) := by decide +kernel
theorem dX12_search_99 : decode cX12_search 99 = .ok (.aload_n 0, 1) := by decide +kernel
theorem dX12_search_100 : decode cX12_search 100 = .ok (.getfield 325, 3) := by decide +kernel
theorem dX12_search_103 : decode cX12_search 103 = .ok (.goto 4, 3) := by decide +kernel
theorem dX12_search_106 : decode cX12_search 106 = .ok (.iload_n 1, 1) := by decide +kernel
theorem dX12_search_107 : decode cX12_search 107 = .ok (.ireturn, 1) := by decide +kernel
theorem dX12_put_0 : decode cX12_put 0 = .ok (.aload_n 0, 1) := by decide +kernel
theorem dX12_put_1 : decode cX12_put 1 = .ok (.getfield 404, 3) := by decide +kernel
theorem dX12_put_4 : decode cX12_put 4 = .ok (.sipush 8100, 3) := by decide +kernel
theorem dX12_put_7 : decode cX12_put 7 = .ok (.if_icmp .ge 24, 3) := by decide +kernel
theorem dX12_put_10 : decode cX12_put 10 = .ok (.aload_n 0, 1) := by decide +kernel
theorem dX12_put_11 : decode cX12_put 11 = .ok (.getfield 39, 3) := by decide +kernel
theorem dX12_put_14 : decode cX12_put 14 = .ok (.aload_n 0, 1) := by decide +kernel
theorem dX12_put_15 : decode cX12_put 15 = .ok (.getfield 404, 3) := by decide +kernel
theorem dX12_put_18 : decode cX12_put 18 = .ok (.iload_n 1, 1) := by decide +kernel
theorem dX12_put_19 : decode cX12_put 19 = .ok (.i2b, 1) := by decide +kernel
theorem dX12_put_20 : decode cX12_put 20 = .ok (.bastore, 1) := by decide +kernel
theorem dX12_put_21 : decode cX12_put 21 = .ok (.aload_n 0, 1) := by decide +kernel
theorem dX12_put_22 : decode cX12_put 22 = .ok (.dup, 1) := by decide +kernel
theorem dX12_put_23 : decode cX12_put 23 = .ok (.getfield 404, 3) := by decide +kernel
theorem dX12_put_26 : decode cX12_put 26 = .ok (.iconst 1, 1) := by decide +kernel
theorem dX12_put_27 : decode cX12_put 27 = .ok (.iadd, 1) := by decide +kernel
theorem dX12_put_28 : decode cX12_put 28 = .ok (.putfield 404, 3) := by decide +kernel
theorem dX12_put_31 : decode cX12_put 31 = .ok (.return_, 1) := by decide +kernel
theorem dX12_putNumber_0 : decode cX12_putNumber 0 = .ok (.iconst 1, 1) := by decide +kernel
theorem dX12_putNumber_1 : decode cX12_putNumber 1 = .ok (.istore_n 2, 1) := by decide +kernel
theorem dX12_putNumber_2 : decode cX12_putNumber 2 = .ok (.iload_n 1, 1) := by decide +kernel
theorem dX12_putNumber_3 : decode cX12_putNumber 3 = .ok (.iload_n 2, 1) := by decide +kernel
theorem dX12_putNumber_4 : decode cX12_putNumber 4 = .ok (.idiv, 1) := by decide +kernel
theorem dX12_putNumber_5 : decode cX12_putNumber 5 = .ok (.bipush 10, 2) := by decide +kernel
theorem dX12_putNumber_7 : decode cX12_putNumber 7 = .ok (.if_icmp .lt 11, 3) := by decide +kernel
theorem dX12_putNumber_10 : decode cX12_putNumber 10 = .ok (.iload_n 2, 1) := by decide +kernel
theorem dX12_putNumber_11 : decode cX12_putNumber 11 = .ok (.bipush 10, 2) := by decide +kernel
theorem dX12_putNumber_13 : decode cX12_putNumber 13 = .ok (.imul, 1) := by decide +kernel
theorem dX12_putNumber_14 : decode cX12_putNumber 14 = .ok (.istore_n 2, 1) := by decide +kernel
theorem dX12_putNumber_15 : decode cX12_putNumber 15 = .ok (.goto (-13), 3) := by decide +kernel
theorem dX12_putNumber_18 : decode cX12_putNumber 18 = .ok (.iload_n 2, 1) := by decide +kernel
theorem dX12_putNumber_19 : decode cX12_putNumber 19 = .ok (.ifCond .le 24, 3) := by decide +kernel
theorem dX12_putNumber_22 : decode cX12_putNumber 22 = .ok (.aload_n 0, 1) := by decide +kernel
theorem dX12_putNumber_23 : decode cX12_putNumber 23 = .ok (.bipush 48, 2) := by decide +kernel
theorem dX12_putNumber_25 : decode cX12_putNumber 25 = .ok (.iload_n 1, 1) := by decide +kernel
theorem dX12_putNumber_26 : decode cX12_putNumber 26 = .ok (.iload_n 2, 1) := by decide +kernel
theorem dX12_putNumber_27 : decode cX12_putNumber 27 = .ok (.idiv, 1) := by decide +kernel
theorem dX12_putNumber_28 : decode cX12_putNumber 28 = .ok (.bipush 10, 2) := by decide +kernel
theorem dX12_putNumber_30 : decode cX12_putNumber 30 = .ok (.irem, 1) := by decide +kernel
theorem dX12_putNumber_31 : decode cX12_putNumber 31 = .ok (.iadd, 1) := by decide +kernel
theorem dX12_putNumber_32 : decode cX12_putNumber 32 = .ok (.invokevirtual 407, 3) := by decide +kernel
theorem dX12_putNumber_35 : decode cX12_putNumber 35 = .ok (.iload_n 2, 1) := by decide +kernel
theorem dX12_putNumber_36 : decode cX12_putNumber 36 = .ok (.bipush 10, 2) := by decide +kernel
theorem dX12_putNumber_38 : decode cX12_putNumber 38 = .ok (.idiv, 1) := by decide +kernel
theorem dX12_putNumber_39 : decode cX12_putNumber 39 = .ok (.istore_n 2, 1) := by decide +kernel
theorem dX12_putNumber_40 : decode cX12_putNumber 40 = .ok (.goto (-22), 3) := by decide +kernel
theorem dX12_putNumber_43 : decode cX12_putNumber 43 = .ok (.return_, 1) := by decide +kernel
theorem dX12_push_0 : decode cX12_push 0 = .ok (.aload_n 0, 1) := by decide +kernel
theorem dX12_push_1 : decode cX12_push 1 = .ok (.getfield 118, 3) := by decide +kernel
theorem dX12_push_4 : decode cX12_push 4 = .ok (.aload_n 0, 1) := by decide +kernel
theorem dX12_push_5 : decode cX12_push 5 = .ok (.getfield 411, 3) := by decide +kernel
theorem dX12_push_8 : decode cX12_push 8 = .ok (.iload_n 1, 1) := by decide +kernel
theorem dX12_push_9 : decode cX12_push 9 = .ok (.iastore, 1) := by decide +kernel
theorem dX12_push_10 : decode cX12_push 10 = .ok (.aload_n 0, 1) := by decide +kernel
theorem dX12_push_11 : decode cX12_push 11 = .ok (.getfield 121, 3) := by decide +kernel
theorem dX12_push_14 : decode cX12_push 14 = .ok (.aload_n 0, 1) := by decide +kernel
theorem dX12_push_15 : decode cX12_push 15 = .ok (.getfield 411, 3) := by decide +kernel
theorem dX12_push_18 : decode cX12_push 18 = .ok (.iload_n 2, 1) := by decide +kernel
theorem dX12_push_19 : decode cX12_push 19 = .ok (.iastore, 1) := by decide +kernel
theorem dX12_push_20 : decode cX12_push 20 = .ok (.aload_n 0, 1) := by decide +kernel
theorem dX12_push_21 : decode cX12_push 21 = .ok (.getfield 124, 3) := by decide +kernel
theorem dX12_push_24 : decode cX12_push 24 = .ok (.aload_n 0, 1) := by decide +kernel
theorem dX12_push_25 : decode cX12_push 25 = .ok (.getfield 411, 3) := by decide +kernel
theorem dX12_push_28 : decode cX12_push 28 = .ok (.iload_n 3, 1) := by decide +kernel
theorem dX12_push_29 : decode cX12_push 29 = .ok (.iastore, 1) := by decide +kernel
theorem dX12_push_30 : decode cX12_push 30 = .ok (.aload_n 0, 1) := by decide +kernel
theorem dX12_push_31 : decode cX12_push 31 = .ok (.getfield 127, 3) := by decide +kernel
theorem dX12_push_34 : decode cX12_push 34 = .ok (.aload_n 0, 1) := by decide +kernel
theorem dX12_push_35 : decode cX12_push 35 = .ok (.getfield 411, 3) := by decide +kernel
theorem dX12_push_38 : decode cX12_push 38 = .ok (.iload 4, 2) := by decide +kernel
theorem dX12_push_40 : decode cX12_push 40 = .ok (.iastore, 1) := by decide +kernel
theorem dX12_push_41 : decode cX12_push 41 = .ok (.aload_n 0, 1) := by decide +kernel
theorem dX12_push_42 : decode cX12_push 42 = .ok (.dup, 1) := by decide +kernel
theorem dX12_push_43 : decode cX12_push 43 = .ok (.getfield 411, 3) := by decide +kernel
theorem dX12_push_46 : decode cX12_push 46 = .ok (.iconst 1, 1) := by decide +kernel
theorem dX12_push_47 : decode cX12_push 47 = .ok (.iadd, 1) := by decide +kernel
theorem dX12_push_48 : decode cX12_push 48 = .ok (.putfield 411, 3) := by decide +kernel
theorem dX12_push_51 : decode cX12_push 51 = .ok (.return_, 1) := by decide +kernel
theorem dX12_putFormula_0 : decode cX12_putFormula 0 = .ok (.aload_n 0, 1) := by decide +kernel
theorem dX12_putFormula_1 : decode cX12_putFormula 1 = .ok (.getfield 7, 3) := by decide +kernel
theorem dX12_putFormula_4 : decode cX12_putFormula 4 = .ok (.iload_n 1, 1) := by decide +kernel
theorem dX12_putFormula_5 : decode cX12_putFormula 5 = .ok (.iaload, 1) := by decide +kernel
theorem dX12_putFormula_6 : decode cX12_putFormula 6 = .ok (.istore_n 2, 1) := by decide +kernel
theorem dX12_putFormula_7 : decode cX12_putFormula 7 = .ok (.iload_n 2, 1) := by decide +kernel
theorem dX12_putFormula_8 : decode cX12_putFormula 8 = .ok (.iconst 2, 1) := by decide +kernel
theorem dX12_putFormula_9 : decode cX12_putFormula 9 = .ok (.if_icmp .ge 76, 3) := by decide +kernel
theorem dX12_putFormula_12 : decode cX12_putFormula 12 = .ok (.aload_n 0, 1) := by decide +kernel
theorem dX12_putFormula_13 : decode cX12_putFormula 13 = .ok (.iload_n 2, 1) := by decide +kernel
theorem dX12_putFormula_14 : decode cX12_putFormula 14 = .ok (.ifCond .ne 8, 3) := by decide +kernel
theorem dX12_putFormula_17 : decode cX12_putFormula 17 = .ok (.bipush 102, 2) := by decide +kernel
theorem dX12_putFormula_19 : decode cX12_putFormula 19 = .ok (.goto 5, 3) := by decide +kernel
theorem dX12_putFormula_22 : decode cX12_putFormula 22 = .ok (.bipush 116, 2) := by decide +kernel
theorem dX12_putFormula_24 : decode cX12_putFormula 24 = .ok (.invokevirtual 407, 3) := by decide +kernel
theorem dX12_putFormula_27 : decode cX12_putFormula 27 = .ok (.aload_n 0, 1) := by decide +kernel
theorem dX12_putFormula_28 : decode cX12_putFormula 28 = .ok (.iload_n 2, 1) := by decide +kernel
theorem dX12_putFormula_29 : decode cX12_putFormula 29 = .ok (.ifCond .ne 8, 3) := by decide +kernel
theorem dX12_putFormula_32 : decode cX12_putFormula 32 = .ok (.bipush 97, 2) := by decide +kernel
theorem dX12_putFormula_34 : decode cX12_putFormula 34 = .ok (.goto 5, 3) := by decide +kernel
theorem dX12_putFormula_37 : decode cX12_putFormula 37 = .ok (.bipush 114, 2) := by decide +kernel
theorem dX12_putFormula_39 : decode cX12_putFormula 39 = .ok (.invokevirtual 407, 3) := by decide +kernel
theorem dX12_putFormula_42 : decode cX12_putFormula 42 = .ok (.aload_n 0, 1) := by decide +kernel
theorem dX12_putFormula_43 : decode cX12_putFormula 43 = .ok (.iload_n 2, 1) := by decide +kernel
theorem dX12_putFormula_44 : decode cX12_putFormula 44 = .ok (.ifCond .ne 8, 3) := by decide +kernel
theorem dX12_putFormula_47 : decode cX12_putFormula 47 = .ok (.bipush 108, 2) := by decide +kernel
theorem dX12_putFormula_49 : decode cX12_putFormula 49 = .ok (.goto 5, 3) := by decide +kernel
theorem dX12_putFormula_52 : decode cX12_putFormula 52 = .ok (.bipush 117, 2) := by decide +kernel
theorem dX12_putFormula_54 : decode cX12_putFormula 54 = .ok (.invokevirtual 407, 3) := by decide +kernel
theorem dX12_putFormula_57 : decode cX12_putFormula 57 = .ok (.aload_n 0, 1) := by decide +kernel
theorem dX12_putFormula_58 : decode cX12_putFormula 58 = .ok (.iload_n 2, 1) := by decide +kernel
theorem dX12_putFormula_59 : decode cX12_putFormula 59 = .ok (.ifCond .ne 8, 3) := by decide +kernel
theorem dX12_putFormula_62 : decode cX12_putFormula 62 = .ok (.bipush 115, 2) := by decide +kernel
theorem dX12_putFormula_64 : decode cX12_putFormula 64 = .ok (.goto 5, 3) := by decide +kernel
theorem dX12_putFormula_67 : decode cX12_putFormula 67 = .ok (.bipush 101, 2) := by decide +kernel
theorem dX12_putFormula_69 : decode cX12_putFormula 69 = .ok (.invokevirtual 407, 3) := by decide +kernel
theorem dX12_putFormula_72 : decode cX12_putFormula 72 = .ok (.iload_n 2, 1) := by decide +kernel
theorem dX12_putFormula_73 : decode cX12_putFormula 73 = .ok (.ifCond .ne 147, 3) := by decide +kernel
theorem dX12_putFormula_76 : decode cX12_putFormula 76 = .ok (.aload_n 0, 1) := by decide +kernel
theorem dX12_putFormula_77 : decode cX12_putFormula 77 = .ok (.bipush 101, 2) := by decide +kernel
theorem dX12_putFormula_79 : decode cX12_putFormula 79 = .ok (.invokevirtual 407, 3) := by decide +kernel
theorem dX12_putFormula_82 : decode cX12_putFormula 82 = .ok (.goto 138, 3) := by decide +kernel
theorem dX12_putFormula_85 : decode cX12_putFormula 85 = .ok (.iload_n 2, 1) := by decide +kernel
theorem dX12_putFormula_86 : decode cX12_putFormula 86 = .ok (.iconst 2, 1) := by decide +kernel
theorem dX12_putFormula_87 : decode cX12_putFormula 87 = .ok (.if_icmp .ne 49, 3) := by decide +kernel
theorem dX12_putFormula_90 : decode cX12_putFormula 90 = .ok (.iconst 0, 1) := by decide +kernel
theorem dX12_putFormula_91 : decode cX12_putFormula 91 = .ok (.istore_n 3, 1) := by decide +kernel
theorem dX12_putFormula_92 : decode cX12_putFormula 92 = .ok (.iload_n 3, 1) := by decide +kernel
theorem dX12_putFormula_93 : decode cX12_putFormula 93 = .ok (.aload_n 0, 1) := by decide +kernel
theorem dX12_putFormula_94 : decode cX12_putFormula 94 = .ok (.getfield 22, 3) := by decide +kernel
theorem dX12_putFormula_97 : decode cX12_putFormula 97 = .ok (.aload_n 0, 1) := by decide +kernel
theorem dX12_putFormula_98 : decode cX12_putFormula 98 = .ok (.getfield 13, 3) := by decide +kernel
theorem dX12_putFormula_101 : decode cX12_putFormula 101 = .ok (.iload_n 1, 1) := by decide +kernel
theorem dX12_putFormula_102 : decode cX12_putFormula 102 = .ok (.iaload, 1) := by decide +kernel
theorem dX12_putFormula_103 : decode cX12_putFormula 103 = .ok (.iaload, 1) := by decide +kernel
theorem dX12_putFormula_104 : decode cX12_putFormula 104 = .ok (.if_icmp .ge 29, 3) := by decide +kernel
theorem dX12_putFormula_107 : decode cX12_putFormula 107 = .ok (.aload_n 0, 1) := by decide +kernel
theorem dX12_putFormula_108 : decode cX12_putFormula 108 = .ok (.aload_n 0, 1) := by decide +kernel
theorem dX12_putFormula_109 : decode cX12_putFormula 109 = .ok (.getfield 19, 3) := by decide +kernel
theorem dX12_putFormula_112 : decode cX12_putFormula 112 = .ok (.bipush 6, 2) := by decide +kernel
theorem dX12_putFormula_114 : decode cX12_putFormula 114 = .ok (.aload_n 0, 1) := by decide +kernel
theorem dX12_putFormula_115 : decode cX12_putFormula 115 = .ok (.getfield 13, 3) := by decide +kernel
theorem dX12_putFormula_118 : decode cX12_putFormula 118 = .ok (.iload_n 1, 1) := by decide +kernel
theorem dX12_putFormula_119 : decode cX12_putFormula 119 = .ok (.iaload, 1) := by decide +kernel
theorem dX12_putFormula_120 : decode cX12_putFormula 120 = .ok (.imul, 1) := by decide +kernel
theorem dX12_putFormula_121 : decode cX12_putFormula 121 = .ok (.iload_n 3, 1) := by decide +kernel
theorem dX12_putFormula_122 : decode cX12_putFormula 122 = .ok (.iadd, 1) := by decide +kernel
theorem dX12_putFormula_123 : decode cX12_putFormula 123 = .ok (.iaload, 1) := by decide +kernel
theorem dX12_putFormula_124 : decode cX12_putFormula 124 = .ok (.invokevirtual 407, 3) := by decide +kernel
theorem dX12_putFormula_127 : decode cX12_putFormula 127 = .ok (.iinc 3 1, 3) := by decide +kernel
theorem dX12_putFormula_130 : decode cX12_putFormula 130 = .ok (.goto (-38), 3) := by decide +kernel
theorem dX12_putFormula_133 : decode cX12_putFormula 133 = .ok (.goto 87, 3) := by decide +kernel
theorem dX12_putFormula_136 : decode cX12_putFormula 136 = .ok (.aload_n 0, 1) := by decide +kernel
theorem dX12_putFormula_137 : decode cX12_putFormula 137 = .ok (.bipush 40, 2) := by decide +kernel
theorem dX12_putFormula_139 : decode cX12_putFormula 139 = .ok (.invokevirtual 407, 3) := by decide +kernel
theorem dX12_putFormula_142 : decode cX12_putFormula 142 = .ok (.aload_n 0, 1) := by decide +kernel
theorem dX12_putFormula_143 : decode cX12_putFormula 143 = .ok (.iconst 0, 1) := by decide +kernel
theorem dX12_putFormula_144 : decode cX12_putFormula 144 = .ok (.bipush 41, 2) := by decide +kernel
theorem dX12_putFormula_146 : decode cX12_putFormula 146 = .ok (.iconst 0, 1) := by decide +kernel
theorem dX12_putFormula_147 : decode cX12_putFormula 147 = .ok (.iconst 0, 1) := by decide +kernel
theorem dX12_putFormula_148 : decode cX12_putFormula 148 = .ok (.invokevirtual 414, 3) := by decide +kernel
theorem dX12_putFormula_151 : decode cX12_putFormula 151 = .ok (.aload_n 0, 1) := by decide +kernel
theorem dX12_putFormula_152 : decode cX12_putFormula 152 = .ok (.iconst 1, 1) := by decide +kernel
theorem dX12_putFormula_153 : decode cX12_putFormula 153 = .ok (.aload_n 0, 1) := by decide +kernel
theorem dX12_putFormula_154 : decode cX12_putFormula 154 = .ok (.getfield 16, 3) := by decide +kernel
theorem dX12_putFormula_157 : decode cX12_putFormula 157 = .ok (.iload_n 1, 1) := by decide +kernel
theorem dX12_putFormula_158 : decode cX12_putFormula 158 = .ok (.iaload, 1) := by decide +kernel
theorem dX12_putFormula_159 : decode cX12_putFormula 159 = .ok (.iconst 0, 1) := by decide +kernel
theorem dX12_putFormula_160 : decode cX12_putFormula 160 = .ok (.iconst 0, 1) := by decide +kernel
theorem dX12_putFormula_161 : decode cX12_putFormula 161 = .ok (.invokevirtual 414, 3) := by decide +kernel
theorem dX12_putFormula_164 : decode cX12_putFormula 164 = .ok (.iload_n 2, 1) := by decide +kernel
theorem dX12_putFormula_165 : decode cX12_putFormula 165 = .ok (.iconst 5, 1) := by decide +kernel
theorem dX12_putFormula_166 : decode cX12_putFormula 166 = .ok (.if_icmp .ne 12, 3) := by decide +kernel
theorem dX12_putFormula_169 : decode cX12_putFormula 169 = .ok (.aload_n 0, 1) := by decide +kernel
theorem dX12_putFormula_170 : decode cX12_putFormula 170 = .ok (.iconst 0, 1) := by decide +kernel
theorem dX12_putFormula_171 : decode cX12_putFormula 171 = .ok (.bipush 62, 2) := by decide +kernel
theorem dX12_putFormula_173 : decode cX12_putFormula 173 = .ok (.iconst 0, 1) := by decide +kernel
theorem dX12_putFormula_174 : decode cX12_putFormula 174 = .ok (.iconst 0, 1) := by decide +kernel
theorem dX12_putFormula_175 : decode cX12_putFormula 175 = .ok (.invokevirtual 414, 3) := by decide +kernel
theorem dX12_putFormula_178 : decode cX12_putFormula 178 = .ok (.aload_n 0, 1) := by decide +kernel
theorem dX12_putFormula_179 : decode cX12_putFormula 179 = .ok (.iconst 0, 1) := by decide +kernel
theorem dX12_putFormula_180 : decode cX12_putFormula 180 = .ok (.iload_n 2, 1) := by decide +kernel
theorem dX12_putFormula_181 : decode cX12_putFormula 181 = .ok (.iconst 5, 1) := by decide +kernel
theorem dX12_putFormula_182 : decode cX12_putFormula 182 = .ok (.if_icmp .ne 8, 3) := by decide +kernel
theorem dX12_putFormula_185 : decode cX12_putFormula 185 = .ok (.bipush 45, 2) := by decide +kernel
theorem dX12_putFormula_187 : decode cX12_putFormula 187 = .ok (.goto 15, 3) := by decide +kernel
theorem dX12_putFormula_190 : decode cX12_putFormula 190 = .ok (.iload_n 2, 1) := by decide +kernel
theorem dX12_putFormula_191 : decode cX12_putFormula 191 = .ok (.iconst 3, 1) := by decide +kernel
theorem dX12_putFormula_192 : decode cX12_putFormula 192 = .ok (.if_icmp .ne 8, 3) := by decide +kernel
theorem dX12_putFormula_195 : decode cX12_putFormula 195 = .ok (.bipush 38, 2) := by decide +kernel
theorem dX12_putFormula_197 : decode cX12_putFormula 197 = .ok (.goto 5, 3) := by decide +kernel
theorem dX12_putFormula_200 : decode cX12_putFormula 200 = .ok (.bipush 124, 2) := by decide +kernel
theorem dX12_putFormula_202 : decode cX12_putFormula 202 = .ok (.iconst 0, 1) := by decide +kernel
theorem dX12_putFormula_203 : decode cX12_putFormula 203 = .ok (.iconst 0, 1) := by decide +kernel
theorem dX12_putFormula_204 : decode cX12_putFormula 204 = .ok (.invokevirtual 414, 3) := by decide +kernel
theorem dX12_putFormula_207 : decode cX12_putFormula 207 = .ok (.aload_n 0, 1) := by decide +kernel
theorem dX12_putFormula_208 : decode cX12_putFormula 208 = .ok (.iconst 1, 1) := by decide +kernel
theorem dX12_putFormula_209 : decode cX12_putFormula 209 = .ok (.aload_n 0, 1) := by decide +kernel
theorem dX12_putFormula_210 : decode cX12_putFormula 210 = .ok (.getfield 13, 3) := by decide +kernel
theorem dX12_putFormula_213 : decode cX12_putFormula 213 = .ok (.iload_n 1, 1) := by decide +kernel
theorem dX12_putFormula_214 : decode cX12_putFormula 214 = .ok (.iaload, 1) := by decide +kernel
theorem dX12_putFormula_215 : decode cX12_putFormula 215 = .ok (.iconst 0, 1) := by decide +kernel
theorem dX12_putFormula_216 : decode cX12_putFormula 216 = .ok (.iconst 0, 1) := by decide +kernel
theorem dX12_putFormula_217 : decode cX12_putFormula 217 = .ok (.invokevirtual 414, 3) := by decide +kernel
theorem dX12_putFormula_220 : decode cX12_putFormula 220 = .ok (.return_, 1) := by decide +kernel
theorem dX12_chain_0 : decode cX12_chain 0 = .ok (.aload_n 0, 1) := by decide +kernel
theorem dX12_chain_1 : decode cX12_chain 1 = .ok (.getfield 130, 3) := by decide +kernel
theorem dX12_chain_4 : decode cX12_chain 4 = .ok (.aload_n 0, 1) := by decide +kernel
theorem dX12_chain_5 : decode cX12_chain 5 = .ok (.getfield 417, 3) := by decide +kernel
theorem dX12_chain_8 : decode cX12_chain 8 = .ok (.iload_n 1, 1) := by decide +kernel
theorem dX12_chain_9 : decode cX12_chain 9 = .ok (.iastore, 1) := by decide +kernel
theorem dX12_chain_10 : decode cX12_chain 10 = .ok (.aload_n 0, 1) := by decide +kernel
theorem dX12_chain_11 : decode cX12_chain 11 = .ok (.getfield 133, 3) := by decide +kernel
theorem dX12_chain_14 : decode cX12_chain 14 = .ok (.aload_n 0, 1) := by decide +kernel
theorem dX12_chain_15 : decode cX12_chain 15 = .ok (.getfield 417, 3) := by decide +kernel
theorem dX12_chain_18 : decode cX12_chain 18 = .ok (.iload_n 2, 1) := by decide +kernel
theorem dX12_chain_19 : decode cX12_chain 19 = .ok (.iastore, 1) := by decide +kernel
theorem dX12_chain_20 : decode cX12_chain 20 = .ok (.aload_n 0, 1) := by decide +kernel
theorem dX12_chain_21 : decode cX12_chain 21 = .ok (.getfield 136, 3) := by decide +kernel
theorem dX12_chain_24 : decode cX12_chain 24 = .ok (.aload_n 0, 1) := by decide +kernel
theorem dX12_chain_25 : decode cX12_chain 25 = .ok (.getfield 417, 3) := by decide +kernel
theorem dX12_chain_28 : decode cX12_chain 28 = .ok (.iload_n 3, 1) := by decide +kernel
theorem dX12_chain_29 : decode cX12_chain 29 = .ok (.iastore, 1) := by decide +kernel
theorem dX12_chain_30 : decode cX12_chain 30 = .ok (.aload_n 0, 1) := by decide +kernel
theorem dX12_chain_31 : decode cX12_chain 31 = .ok (.dup, 1) := by decide +kernel
theorem dX12_chain_32 : decode cX12_chain 32 = .ok (.getfield 417, 3) := by decide +kernel
theorem dX12_chain_35 : decode cX12_chain 35 = .ok (.iconst 1, 1) := by decide +kernel
theorem dX12_chain_36 : decode cX12_chain 36 = .ok (.iadd, 1) := by decide +kernel
theorem dX12_chain_37 : decode cX12_chain 37 = .ok (.putfield 417, 3) := by decide +kernel
theorem dX12_chain_40 : decode cX12_chain 40 = .ok (.aload_n 0, 1) := by decide +kernel
theorem dX12_chain_41 : decode cX12_chain 41 = .ok (.getfield 417, 3) := by decide +kernel
theorem dX12_chain_44 : decode cX12_chain 44 = .ok (.iconst 1, 1) := by decide +kernel
theorem dX12_chain_45 : decode cX12_chain 45 = .ok (.isub, 1) := by decide +kernel
theorem dX12_chain_46 : decode cX12_chain 46 = .ok (.ireturn, 1) := by decide +kernel
theorem dX12_cutChain_0 : decode cX12_cutChain 0 = .ok (.iload_n 1, 1) := by decide +kernel
theorem dX12_cutChain_1 : decode cX12_cutChain 1 = .ok (.istore_n 3, 1) := by decide +kernel
theorem dX12_cutChain_2 : decode cX12_cutChain 2 = .ok (.iload_n 3, 1) := by decide +kernel
theorem dX12_cutChain_3 : decode cX12_cutChain 3 = .ok (.ifCond .lt 23, 3) := by decide +kernel
theorem dX12_cutChain_6 : decode cX12_cutChain 6 = .ok (.aload_n 0, 1) := by decide +kernel
theorem dX12_cutChain_7 : decode cX12_cutChain 7 = .ok (.getfield 136, 3) := by decide +kernel
theorem dX12_cutChain_10 : decode cX12_cutChain 10 = .ok (.iload_n 3, 1) := by decide +kernel
theorem dX12_cutChain_11 : decode cX12_cutChain 11 = .ok (.iaload, 1) := by decide +kernel
theorem dX12_cutChain_12 : decode cX12_cutChain 12 = .ok (.iload_n 2, 1) := by decide +kernel
theorem dX12_cutChain_13 : decode cX12_cutChain 13 = .ok (.if_icmp .le 13, 3) := by decide +kernel
theorem dX12_cutChain_16 : decode cX12_cutChain 16 = .ok (.aload_n 0, 1) := by decide +kernel
theorem dX12_cutChain_17 : decode cX12_cutChain 17 = .ok (.getfield 130, 3) := by decide +kernel
theorem dX12_cutChain_20 : decode cX12_cutChain 20 = .ok (.iload_n 3, 1) := by decide +kernel
theorem dX12_cutChain_21 : decode cX12_cutChain 21 = .ok (.iaload, 1) := by decide +kernel
theorem dX12_cutChain_22 : decode cX12_cutChain 22 = .ok (.istore_n 3, 1) := by decide +kernel
theorem dX12_cutChain_23 : decode cX12_cutChain 23 = .ok (.goto (-21), 3) := by decide +kernel
theorem dX12_cutChain_26 : decode cX12_cutChain 26 = .ok (.iload_n 3, 1) := by decide +kernel
theorem dX12_cutChain_27 : decode cX12_cutChain 27 = .ok (.ireturn, 1) := by decide +kernel
theorem dX12_putTerm_0 : decode cX12_putTerm 0 = .ok (.aload_n 0, 1) := by decide +kernel
theorem dX12_putTerm_1 : decode cX12_putTerm 1 = .ok (.getfield 58, 3) := by decide +kernel
theorem dX12_putTerm_4 : decode cX12_putTerm 4 = .ok (.iload_n 1, 1) := by decide +kernel
theorem dX12_putTerm_5 : decode cX12_putTerm 5 = .ok (.iaload, 1) := by decide +kernel
theorem dX12_putTerm_6 : decode cX12_putTerm 6 = .ok (.istore 4, 2) := by decide +kernel
theorem dX12_putTerm_8 : decode cX12_putTerm 8 = .ok (.iload 4, 2) := by decide +kernel
theorem dX12_putTerm_10 : decode cX12_putTerm 10 = .ok (.bipush 77, 2) := by decide +kernel
theorem dX12_putTerm_12 : decode cX12_putTerm 12 = .ok (.if_icmp .ne 27, 3) := by decide +kernel
theorem dX12_putTerm_15 : decode cX12_putTerm 15 = .ok (.aload_n 0, 1) := by decide +kernel
theorem dX12_putTerm_16 : decode cX12_putTerm 16 = .ok (.iconst 2, 1) := by decide +kernel
theorem dX12_putTerm_17 : decode cX12_putTerm 17 = .ok (.aload_n 0, 1) := by decide +kernel
theorem dX12_putTerm_18 : decode cX12_putTerm 18 = .ok (.getfield 64, 3) := by decide +kernel
theorem dX12_putTerm_21 : decode cX12_putTerm 21 = .ok (.iload_n 1, 1) := by decide +kernel
theorem dX12_putTerm_22 : decode cX12_putTerm 22 = .ok (.iaload, 1) := by decide +kernel
theorem dX12_putTerm_23 : decode cX12_putTerm 23 = .ok (.aload_n 0, 1) := by decide +kernel
theorem dX12_putTerm_24 : decode cX12_putTerm 24 = .ok (.iload_n 2, 1) := by decide +kernel
theorem dX12_putTerm_25 : decode cX12_putTerm 25 = .ok (.aload_n 0, 1) := by decide +kernel
theorem dX12_putTerm_26 : decode cX12_putTerm 26 = .ok (.getfield 61, 3) := by decide +kernel
theorem dX12_putTerm_29 : decode cX12_putTerm 29 = .ok (.iload_n 1, 1) := by decide +kernel
theorem dX12_putTerm_30 : decode cX12_putTerm 30 = .ok (.iaload, 1) := by decide +kernel
theorem dX12_putTerm_31 : decode cX12_putTerm 31 = .ok (.invokevirtual 420, 3) := by decide +kernel
theorem dX12_putTerm_34 : decode cX12_putTerm 34 = .ok (.iload_n 3, 1) := by decide +kernel
theorem dX12_putTerm_35 : decode cX12_putTerm 35 = .ok (.invokevirtual 414, 3) := by decide +kernel
theorem dX12_putTerm_38 : decode cX12_putTerm 38 = .ok (.return_, 1) := by decide +kernel
theorem dX12_putTerm_39 : decode cX12_putTerm 39 = .ok (.iload 4, 2) := by decide +kernel
theorem dX12_putTerm_41 : decode cX12_putTerm 41 = .ok (.bipush 72, 2) := by decide +kernel
theorem dX12_putTerm_43 : decode cX12_putTerm 43 = .ok (.if_icmp .ne 36, 3) := by decide +kernel
theorem dX12_putTerm_46 : decode cX12_putTerm 46 = .ok (.aload_n 0, 1) := by decide +kernel
theorem dX12_putTerm_47 : decode cX12_putTerm 47 = .ok (.iload_n 2, 1) := by decide +kernel
theorem dX12_putTerm_48 : decode cX12_putTerm 48 = .ok (.aload_n 0, 1) := by decide +kernel
theorem dX12_putTerm_49 : decode cX12_putTerm 49 = .ok (.getfield 61, 3) := by decide +kernel
theorem dX12_putTerm_52 : decode cX12_putTerm 52 = .ok (.iload_n 1, 1) := by decide +kernel
theorem dX12_putTerm_53 : decode cX12_putTerm 53 = .ok (.iaload, 1) := by decide +kernel
theorem dX12_putTerm_54 : decode cX12_putTerm 54 = .ok (.iconst 1, 1) := by decide +kernel
theorem dX12_putTerm_55 : decode cX12_putTerm 55 = .ok (.iadd, 1) := by decide +kernel
theorem dX12_putTerm_56 : decode cX12_putTerm 56 = .ok (.invokevirtual 420, 3) := by decide +kernel
theorem dX12_putTerm_59 : decode cX12_putTerm 59 = .ok (.istore 5, 2) := by decide +kernel
theorem dX12_putTerm_61 : decode cX12_putTerm 61 = .ok (.aload_n 0, 1) := by decide +kernel
theorem dX12_putTerm_62 : decode cX12_putTerm 62 = .ok (.bipush 104, 2) := by decide +kernel
theorem dX12_putTerm_64 : decode cX12_putTerm 64 = .ok (.invokevirtual 407, 3) := by decide +kernel
theorem dX12_putTerm_67 : decode cX12_putTerm 67 = .ok (.aload_n 0, 1) := by decide +kernel
theorem dX12_putTerm_68 : decode cX12_putTerm 68 = .ok (.aload_n 0, 1) := by decide +kernel
theorem dX12_putTerm_69 : decode cX12_putTerm 69 = .ok (.getfield 133, 3) := by decide +kernel
theorem dX12_putTerm_72 : decode cX12_putTerm 72 = .ok (.iload 5, 2) := by decide +kernel
theorem dX12_putTerm_74 : decode cX12_putTerm 74 = .ok (.iaload, 1) := by decide +kernel
theorem dX12_putTerm_75 : decode cX12_putTerm 75 = .ok (.invokevirtual 423, 3) := by decide +kernel
theorem dX12_putTerm_78 : decode cX12_putTerm 78 = .ok (.return_, 1) := by decide +kernel
theorem dX12_putTerm_79 : decode cX12_putTerm 79 = .ok (.aload_n 0, 1) := by decide +kernel
theorem dX12_putTerm_80 : decode cX12_putTerm 80 = .ok (.iload 4, 2) := by decide +kernel
theorem dX12_putTerm_82 : decode cX12_putTerm 82 = .ok (.invokevirtual 407, 3) := by decide +kernel
theorem dX12_putTerm_85 : decode cX12_putTerm 85 = .ok (.iload 4, 2) := by decide +kernel
theorem dX12_putTerm_87 : decode cX12_putTerm 87 = .ok (.bipush 84, 2) := by decide +kernel
theorem dX12_putTerm_89 : decode cX12_putTerm 89 = .ok (.if_icmp .ne 4, 3) := by decide +kernel
theorem dX12_putTerm_92 : decode cX12_putTerm 92 = .ok (.return_, 1) := by decide +kernel
theorem dX12_putTerm_93 : decode cX12_putTerm 93 = .ok (.aload_n 0, 1) := by decide +kernel
theorem dX12_putTerm_94 : decode cX12_putTerm 94 = .ok (.bipush 40, 2) := by decide +kernel
theorem dX12_putTerm_96 : decode cX12_putTerm 96 = .ok (.invokevirtual 407, 3) := by decide +kernel
theorem dX12_putTerm_99 : decode cX12_putTerm 99 = .ok (.aload_n 0, 1) := by decide +kernel
theorem dX12_putTerm_100 : decode cX12_putTerm 100 = .ok (.iconst 0, 1) := by decide +kernel
theorem dX12_putTerm_101 : decode cX12_putTerm 101 = .ok (.bipush 41, 2) := by decide +kernel
theorem dX12_putTerm_103 : decode cX12_putTerm 103 = .ok (.iconst 0, 1) := by decide +kernel
theorem dX12_putTerm_104 : decode cX12_putTerm 104 = .ok (.iconst 0, 1) := by decide +kernel
theorem dX12_putTerm_105 : decode cX12_putTerm 105 = .ok (.invokevirtual 414, 3) := by decide +kernel
theorem dX12_putTerm_108 : decode cX12_putTerm 108 = .ok (.iload_n 2, 1) := by decide +kernel
theorem dX12_putTerm_109 : decode cX12_putTerm 109 = .ok (.ifCond .ge 7, 3) := by decide +kernel
theorem dX12_putTerm_112 : decode cX12_putTerm 112 = .ok (.iconst 0, 1) := by decide +kernel
theorem dX12_putTerm_113 : decode cX12_putTerm 113 = .ok (.goto 9, 3) := by decide +kernel
theorem dX12_putTerm_116 : decode cX12_putTerm 116 = .ok (.aload_n 0, 1) := by decide +kernel
theorem dX12_putTerm_117 : decode cX12_putTerm 117 = .ok (.getfield 136, 3) := by decide +kernel
theorem dX12_putTerm_120 : decode cX12_putTerm 120 = .ok (.iload_n 2, 1) := by decide +kernel
theorem dX12_putTerm_121 : decode cX12_putTerm 121 = .ok (.iaload, 1) := by decide +kernel
theorem dX12_putTerm_122 : decode cX12_putTerm 122 = .ok (.istore 5, 2) := by decide +kernel
theorem dX12_putTerm_124 : decode cX12_putTerm 124 = .ok (.iload 4, 2) := by decide +kernel
theorem dX12_putTerm_126 : decode cX12_putTerm 126 = .ok (.bipush 76, 2) := by decide +kernel
theorem dX12_putTerm_128 : decode cX12_putTerm 128 = .ok (.if_icmp .ne 50, 3) := by decide +kernel
theorem dX12_putTerm_131 : decode cX12_putTerm 131 = .ok (.aload_n 0, 1) := by decide +kernel
theorem dX12_putTerm_132 : decode cX12_putTerm 132 = .ok (.iconst 2, 1) := by decide +kernel
theorem dX12_putTerm_133 : decode cX12_putTerm 133 = .ok (.aload_n 0, 1) := by decide +kernel
theorem dX12_putTerm_134 : decode cX12_putTerm 134 = .ok (.getfield 64, 3) := by decide +kernel
theorem dX12_putTerm_137 : decode cX12_putTerm 137 = .ok (.iload_n 1, 1) := by decide +kernel
theorem dX12_putTerm_138 : decode cX12_putTerm 138 = .ok (.iaload, 1) := by decide +kernel
theorem dX12_putTerm_139 : decode cX12_putTerm 139 = .ok (.aload_n 0, 1) := by decide +kernel
theorem dX12_putTerm_140 : decode cX12_putTerm 140 = .ok (.iload_n 2, 1) := by decide +kernel
theorem dX12_putTerm_141 : decode cX12_putTerm 141 = .ok (.iload_n 3, 1) := by decide +kernel
theorem dX12_putTerm_142 : decode cX12_putTerm 142 = .ok (.iload 5, 2) := by decide +kernel
theorem dX12_putTerm_144 : decode cX12_putTerm 144 = .ok (.iconst 1, 1) := by decide +kernel
theorem dX12_putTerm_145 : decode cX12_putTerm 145 = .ok (.iadd, 1) := by decide +kernel
theorem dX12_putTerm_146 : decode cX12_putTerm 146 = .ok (.invokevirtual 426, 3) := by decide +kernel
theorem dX12_putTerm_149 : decode cX12_putTerm 149 = .ok (.iload_n 3, 1) := by decide +kernel
theorem dX12_putTerm_150 : decode cX12_putTerm 150 = .ok (.iconst 1, 1) := by decide +kernel
theorem dX12_putTerm_151 : decode cX12_putTerm 151 = .ok (.iadd, 1) := by decide +kernel
theorem dX12_putTerm_152 : decode cX12_putTerm 152 = .ok (.invokevirtual 414, 3) := by decide +kernel
theorem dX12_putTerm_155 : decode cX12_putTerm 155 = .ok (.aload_n 0, 1) := by decide +kernel
theorem dX12_putTerm_156 : decode cX12_putTerm 156 = .ok (.iconst 0, 1) := by decide +kernel
theorem dX12_putTerm_157 : decode cX12_putTerm 157 = .ok (.bipush 44, 2) := by decide +kernel
theorem dX12_putTerm_159 : decode cX12_putTerm 159 = .ok (.iconst 0, 1) := by decide +kernel
theorem dX12_putTerm_160 : decode cX12_putTerm 160 = .ok (.iconst 0, 1) := by decide +kernel
theorem dX12_putTerm_161 : decode cX12_putTerm 161 = .ok (.invokevirtual 414, 3) := by decide +kernel
theorem dX12_putTerm_164 : decode cX12_putTerm 164 = .ok (.aload_n 0, 1) := by decide +kernel
theorem dX12_putTerm_165 : decode cX12_putTerm 165 = .ok (.iconst 1, 1) := by decide +kernel
theorem dX12_putTerm_166 : decode cX12_putTerm 166 = .ok (.aload_n 0, 1) := by decide +kernel
theorem dX12_putTerm_167 : decode cX12_putTerm 167 = .ok (.getfield 61, 3) := by decide +kernel
theorem dX12_putTerm_170 : decode cX12_putTerm 170 = .ok (.iload_n 1, 1) := by decide +kernel
theorem dX12_putTerm_171 : decode cX12_putTerm 171 = .ok (.iaload, 1) := by decide +kernel
theorem dX12_putTerm_172 : decode cX12_putTerm 172 = .ok (.iconst 0, 1) := by decide +kernel
theorem dX12_putTerm_173 : decode cX12_putTerm 173 = .ok (.iconst 0, 1) := by decide +kernel
theorem dX12_putTerm_174 : decode cX12_putTerm 174 = .ok (.invokevirtual 414, 3) := by decide +kernel
theorem dX12_putTerm_177 : decode cX12_putTerm 177 = .ok (.return_, 1) := by decide +kernel
theorem dX12_putTerm_178 : decode cX12_putTerm 178 = .ok (.iload 4, 2) := by decide +kernel
theorem dX12_putTerm_180 : decode cX12_putTerm 180 = .ok (.bipush 67, 2) := by decide +kernel
theorem dX12_putTerm_182 : decode cX12_putTerm 182 = .ok (.if_icmp .ne 68, 3) := by decide +kernel
theorem dX12_putTerm_185 : decode cX12_putTerm 185 = .ok (.aload_n 0, 1) := by decide +kernel
theorem dX12_putTerm_186 : decode cX12_putTerm 186 = .ok (.iload_n 2, 1) := by decide +kernel
theorem dX12_putTerm_187 : decode cX12_putTerm 187 = .ok (.iload_n 3, 1) := by decide +kernel
theorem dX12_putTerm_188 : decode cX12_putTerm 188 = .ok (.iload 5, 2) := by decide +kernel
theorem dX12_putTerm_190 : decode cX12_putTerm 190 = .ok (.iconst 1, 1) := by decide +kernel
theorem dX12_putTerm_191 : decode cX12_putTerm 191 = .ok (.iadd, 1) := by decide +kernel
theorem dX12_putTerm_192 : decode cX12_putTerm 192 = .ok (.invokevirtual 426, 3) := by decide +kernel
theorem dX12_putTerm_195 : decode cX12_putTerm 195 = .ok (.istore 6, 2) := by decide +kernel
theorem dX12_putTerm_197 : decode cX12_putTerm 197 = .ok (.aload_n 0, 1) := by decide +kernel
theorem dX12_putTerm_198 : decode cX12_putTerm 198 = .ok (.iconst 2, 1) := by decide +kernel
theorem dX12_putTerm_199 : decode cX12_putTerm 199 = .ok (.aload_n 0, 1) := by decide +kernel
theorem dX12_putTerm_200 : decode cX12_putTerm 200 = .ok (.getfield 70, 3) := by decide +kernel
theorem dX12_putTerm_203 : decode cX12_putTerm 203 = .ok (.iload_n 1, 1) := by decide +kernel
theorem dX12_putTerm_204 : decode cX12_putTerm 204 = .ok (.iaload, 1) := by decide +kernel
theorem dX12_putTerm_205 : decode cX12_putTerm 205 = .ok (.iload 6, 2) := by decide +kernel
theorem dX12_putTerm_207 : decode cX12_putTerm 207 = .ok (.iload_n 3, 1) := by decide +kernel
theorem dX12_putTerm_208 : decode cX12_putTerm 208 = .ok (.iconst 1, 1) := by decide +kernel
theorem dX12_putTerm_209 : decode cX12_putTerm 209 = .ok (.iadd, 1) := by decide +kernel
theorem dX12_putTerm_210 : decode cX12_putTerm 210 = .ok (.invokevirtual 414, 3) := by decide +kernel
theorem dX12_putTerm_213 : decode cX12_putTerm 213 = .ok (.aload_n 0, 1) := by decide +kernel
theorem dX12_putTerm_214 : decode cX12_putTerm 214 = .ok (.iconst 0, 1) := by decide +kernel
theorem dX12_putTerm_215 : decode cX12_putTerm 215 = .ok (.bipush 44, 2) := by decide +kernel
theorem dX12_putTerm_217 : decode cX12_putTerm 217 = .ok (.iconst 0, 1) := by decide +kernel
theorem dX12_putTerm_218 : decode cX12_putTerm 218 = .ok (.iconst 0, 1) := by decide +kernel
theorem dX12_putTerm_219 : decode cX12_putTerm 219 = .ok (.invokevirtual 414, 3) := by decide +kernel
theorem dX12_putTerm_222 : decode cX12_putTerm 222 = .ok (.aload_n 0, 1) := by decide +kernel
theorem dX12_putTerm_223 : decode cX12_putTerm 223 = .ok (.iconst 2, 1) := by decide +kernel
theorem dX12_putTerm_224 : decode cX12_putTerm 224 = .ok (.aload_n 0, 1) := by decide +kernel
theorem dX12_putTerm_225 : decode cX12_putTerm 225 = .ok (.getfield 67, 3) := by decide +kernel
theorem dX12_putTerm_228 : decode cX12_putTerm 228 = .ok (.iload_n 1, 1) := by decide +kernel
theorem dX12_putTerm_229 : decode cX12_putTerm 229 = .ok (.iaload, 1) := by decide +kernel
theorem dX12_putTerm_230 : decode cX12_putTerm 230 = .ok (.iload 6, 2) := by decide +kernel
theorem dX12_putTerm_232 : decode cX12_putTerm 232 = .ok (.iload_n 3, 1) := by decide +kernel
theorem dX12_putTerm_233 : decode cX12_putTerm 233 = .ok (.iconst 1, 1) := by decide +kernel
theorem dX12_putTerm_234 : decode cX12_putTerm 234 = .ok (.iadd, 1) := by decide +kernel
theorem dX12_putTerm_235 : decode cX12_putTerm 235 = .ok (.invokevirtual 414, 3) := by decide +kernel
theorem dX12_putTerm_238 : decode cX12_putTerm 238 = .ok (.aload_n 0, 1) := by decide +kernel
theorem dX12_putTerm_239 : decode cX12_putTerm 239 = .ok (.iconst 0, 1) := by decide +kernel
theorem dX12_putTerm_240 : decode cX12_putTerm 240 = .ok (.bipush 44, 2) := by decide +kernel
theorem dX12_putTerm_242 : decode cX12_putTerm 242 = .ok (.iconst 0, 1) := by decide +kernel
theorem dX12_putTerm_243 : decode cX12_putTerm 243 = .ok (.iconst 0, 1) := by decide +kernel
theorem dX12_putTerm_244 : decode cX12_putTerm 244 = .ok (.invokevirtual 414, 3) := by decide +kernel
theorem dX12_putTerm_247 : decode cX12_putTerm 247 = .ok (.goto 34, 3) := by decide +kernel
theorem dX12_putTerm_250 : decode cX12_putTerm 250 = .ok (.aload_n 0, 1) := by decide +kernel
theorem dX12_putTerm_251 : decode cX12_putTerm 251 = .ok (.getfield 67, 3) := by decide +kernel
theorem dX12_putTerm_254 : decode cX12_putTerm 254 = .ok (.iload_n 1, 1) := by decide +kernel
theorem dX12_putTerm_255 : decode cX12_putTerm 255 = .ok (.iaload, 1) := by decide +kernel
theorem dX12_putTerm_256 : decode cX12_putTerm 256 = .ok (.ifCond .lt 25, 3) := by decide +kernel
theorem dX12_putTerm_259 : decode cX12_putTerm 259 = .ok (.aload_n 0, 1) := by decide +kernel
theorem dX12_putTerm_260 : decode cX12_putTerm 260 = .ok (.iconst 2, 1) := by decide +kernel
theorem dX12_putTerm_261 : decode cX12_putTerm 261 = .ok (.aload_n 0, 1) := by decide +kernel
theorem dX12_putTerm_262 : decode cX12_putTerm 262 = .ok (.getfield 67, 3) := by decide +kernel
theorem dX12_putTerm_265 : decode cX12_putTerm 265 = .ok (.iload_n 1, 1) := by decide +kernel
theorem dX12_putTerm_266 : decode cX12_putTerm 266 = .ok (.iaload, 1) := by decide +kernel
theorem dX12_putTerm_267 : decode cX12_putTerm 267 = .ok (.iload_n 2, 1) := by decide +kernel
theorem dX12_putTerm_268 : decode cX12_putTerm 268 = .ok (.iload_n 3, 1) := by decide +kernel
theorem dX12_putTerm_269 : decode cX12_putTerm 269 = .ok (.invokevirtual 414, 3) := by decide +kernel
theorem dX12_putTerm_272 : decode cX12_putTerm 272 = .ok (.aload_n 0, 1) := by decide +kernel
theorem dX12_putTerm_273 : decode cX12_putTerm 273 = .ok (.iconst 0, 1) := by decide +kernel
theorem dX12_putTerm_274 : decode cX12_putTerm 274 = .ok (.bipush 44, 2) := by decide +kernel
theorem dX12_putTerm_276 : decode cX12_putTerm 276 = .ok (.iconst 0, 1) := by decide +kernel
theorem dX12_putTerm_277 : decode cX12_putTerm 277 = .ok (.iconst 0, 1) := by decide +kernel
theorem dX12_putTerm_278 : decode cX12_putTerm 278 = .ok (.invokevirtual 414, 3) := by decide +kernel
theorem dX12_putTerm_281 : decode cX12_putTerm 281 = .ok (.aload_n 0, 1) := by decide +kernel
theorem dX12_putTerm_282 : decode cX12_putTerm 282 = .ok (.iconst 2, 1) := by decide +kernel
theorem dX12_putTerm_283 : decode cX12_putTerm 283 = .ok (.aload_n 0, 1) := by decide +kernel
theorem dX12_putTerm_284 : decode cX12_putTerm 284 = .ok (.getfield 64, 3) := by decide +kernel
theorem dX12_putTerm_287 : decode cX12_putTerm 287 = .ok (.iload_n 1, 1) := by decide +kernel
theorem dX12_putTerm_288 : decode cX12_putTerm 288 = .ok (.iaload, 1) := by decide +kernel
theorem dX12_putTerm_289 : decode cX12_putTerm 289 = .ok (.iload_n 2, 1) := by decide +kernel
theorem dX12_putTerm_290 : decode cX12_putTerm 290 = .ok (.iload_n 3, 1) := by decide +kernel
theorem dX12_putTerm_291 : decode cX12_putTerm 291 = .ok (.invokevirtual 414, 3) := by decide +kernel
theorem dX12_putTerm_294 : decode cX12_putTerm 294 = .ok (.return_, 1) := by decide +kernel
theorem dX12_writeAll_0 : decode cX12_writeAll 0 = .ok (.aload_n 0, 1) := by decide +kernel
theorem dX12_writeAll_1 : decode cX12_writeAll 1 = .ok (.getfield 411, 3) := by decide +kernel
theorem dX12_writeAll_4 : decode cX12_writeAll 4 = .ok (.ifCond .le 100, 3) := by decide +kernel
theorem dX12_writeAll_7 : decode cX12_writeAll 7 = .ok (.aload_n 0, 1) := by decide +kernel
theorem dX12_writeAll_8 : decode cX12_writeAll 8 = .ok (.getfield 404, 3) := by decide +kernel
theorem dX12_writeAll_11 : decode cX12_writeAll 11 = .ok (.sipush 8000, 3) := by decide +kernel
theorem dX12_writeAll_14 : decode cX12_writeAll 14 = .ok (.if_icmp .gt 90, 3) := by decide +kernel
theorem dX12_writeAll_17 : decode cX12_writeAll 17 = .ok (.aload_n 0, 1) := by decide +kernel
theorem dX12_writeAll_18 : decode cX12_writeAll 18 = .ok (.dup, 1) := by decide +kernel
theorem dX12_writeAll_19 : decode cX12_writeAll 19 = .ok (.getfield 411, 3) := by decide +kernel
theorem dX12_writeAll_22 : decode cX12_writeAll 22 = .ok (.iconst 1, 1) := by decide +kernel
theorem dX12_writeAll_23 : decode cX12_writeAll 23 = .ok (.isub, 1) := by decide +kernel
theorem dX12_writeAll_24 : decode cX12_writeAll 24 = .ok (.putfield 411, 3) := by decide +kernel
theorem dX12_writeAll_27 : decode cX12_writeAll 27 = .ok (.aload_n 0, 1) := by decide +kernel
theorem dX12_writeAll_28 : decode cX12_writeAll 28 = .ok (.getfield 121, 3) := by decide +kernel
theorem dX12_writeAll_31 : decode cX12_writeAll 31 = .ok (.aload_n 0, 1) := by decide +kernel
theorem dX12_writeAll_32 : decode cX12_writeAll 32 = .ok (.getfield 411, 3) := by decide +kernel
theorem dX12_writeAll_35 : decode cX12_writeAll 35 = .ok (.iaload, 1) := by decide +kernel
theorem dX12_writeAll_36 : decode cX12_writeAll 36 = .ok (.istore_n 1, 1) := by decide +kernel
theorem dX12_writeAll_37 : decode cX12_writeAll 37 = .ok (.aload_n 0, 1) := by decide +kernel
theorem dX12_writeAll_38 : decode cX12_writeAll 38 = .ok (.getfield 118, 3) := by decide +kernel
theorem dX12_writeAll_41 : decode cX12_writeAll 41 = .ok (.aload_n 0, 1) := by decide +kernel
theorem dX12_writeAll_42 : decode cX12_writeAll 42 = .ok (.getfield 411, 3) := by decide +kernel
theorem dX12_writeAll_45 : decode cX12_writeAll 45 = .ok (.iaload, 1) := by decide +kernel
theorem dX12_writeAll_46 : decode cX12_writeAll 46 = .ok (.ifCond .ne 11, 3) := by decide +kernel
theorem dX12_writeAll_49 : decode cX12_writeAll 49 = .ok (.aload_n 0, 1) := by decide +kernel
theorem dX12_writeAll_50 : decode cX12_writeAll 50 = .ok (.iload_n 1, 1) := by decide +kernel
theorem dX12_writeAll_51 : decode cX12_writeAll 51 = .ok (.invokevirtual 407, 3) := by decide +kernel
theorem dX12_writeAll_54 : decode cX12_writeAll 54 = .ok (.goto 47, 3) := by decide +kernel
theorem dX12_writeAll_57 : decode cX12_writeAll 57 = .ok (.aload_n 0, 1) := by decide +kernel
theorem dX12_writeAll_58 : decode cX12_writeAll 58 = .ok (.getfield 118, 3) := by decide +kernel
theorem dX12_writeAll_61 : decode cX12_writeAll 61 = .ok (.aload_n 0, 1) := by decide +kernel
theorem dX12_writeAll_62 : decode cX12_writeAll 62 = .ok (.getfield 411, 3) := by decide +kernel
theorem dX12_writeAll_65 : decode cX12_writeAll 65 = .ok (.iaload, 1) := by decide +kernel
theorem dX12_writeAll_66 : decode cX12_writeAll 66 = .ok (.iconst 1, 1) := by decide +kernel
theorem dX12_writeAll_67 : decode cX12_writeAll 67 = .ok (.if_icmp .ne 11, 3) := by decide +kernel
theorem dX12_writeAll_70 : decode cX12_writeAll 70 = .ok (.aload_n 0, 1) := by decide +kernel
theorem dX12_writeAll_71 : decode cX12_writeAll 71 = .ok (.iload_n 1, 1) := by decide +kernel
theorem dX12_writeAll_72 : decode cX12_writeAll 72 = .ok (.invokevirtual 429, 3) := by decide +kernel
theorem dX12_writeAll_75 : decode cX12_writeAll 75 = .ok (.goto 26, 3) := by decide +kernel
theorem dX12_writeAll_78 : decode cX12_writeAll 78 = .ok (.aload_n 0, 1) := by decide +kernel
theorem dX12_writeAll_79 : decode cX12_writeAll 79 = .ok (.iload_n 1, 1) := by decide +kernel
theorem dX12_writeAll_80 : decode cX12_writeAll 80 = .ok (.aload_n 0, 1) := by decide +kernel
theorem dX12_writeAll_81 : decode cX12_writeAll 81 = .ok (.getfield 124, 3) := by decide +kernel
theorem dX12_writeAll_84 : decode cX12_writeAll 84 = .ok (.aload_n 0, 1) := by decide +kernel
theorem dX12_writeAll_85 : decode cX12_writeAll 85 = .ok (.getfield 411, 3) := by decide +kernel
theorem dX12_writeAll_88 : decode cX12_writeAll 88 = .ok (.iaload, 1) := by decide +kernel
theorem dX12_writeAll_89 : decode cX12_writeAll 89 = .ok (.aload_n 0, 1) := by decide +kernel
theorem dX12_writeAll_90 : decode cX12_writeAll 90 = .ok (.getfield 127, 3) := by decide +kernel
theorem dX12_writeAll_93 : decode cX12_writeAll 93 = .ok (.aload_n 0, 1) := by decide +kernel
theorem dX12_writeAll_94 : decode cX12_writeAll 94 = .ok (.getfield 411, 3) := by decide +kernel
theorem dX12_writeAll_97 : decode cX12_writeAll 97 = .ok (.iaload, 1) := by decide +kernel
theorem dX12_writeAll_98 : decode cX12_writeAll 98 = .ok (.invokevirtual 432, 3) := by decide +kernel
theorem dX12_writeAll_101 : decode cX12_writeAll 101 = .ok (.goto (-101), 3) := by decide +kernel
theorem dX12_writeAll_104 : decode cX12_writeAll 104 = .ok (.return_, 1) := by decide +kernel
theorem dX12_written_0 : decode cX12_written 0 = .ok (.aload_n 0, 1) := by decide +kernel
theorem dX12_written_1 : decode cX12_written 1 = .ok (.getfield 404, 3) := by decide +kernel
theorem dX12_written_4 : decode cX12_written 4 = .ok (.sipush 8000, 3) := by decide +kernel
theorem dX12_written_7 : decode cX12_written 7 = .ok (.if_icmp .le 6, 3) := by decide +kernel
theorem dX12_written_10 : decode cX12_written 10 = .ok (.bipush (-4), 2) := by decide +kernel
theorem dX12_written_12 : decode cX12_written 12 = .ok (.ireturn, 1) := by decide +kernel
theorem dX12_written_13 : decode cX12_written 13 = .ok (.iconst 0, 1) := by decide +kernel
theorem dX12_written_14 : decode cX12_written 14 = .ok (.istore_n 1, 1) := by decide +kernel
theorem dX12_written_15 : decode cX12_written 15 = .ok (.iload_n 1, 1) := by decide +kernel
theorem dX12_written_16 : decode cX12_written 16 = .ok (.aload_n 0, 1) := by decide +kernel
theorem dX12_written_17 : decode cX12_written 17 = .ok (.getfield 404, 3) := by decide +kernel
theorem dX12_written_20 : decode cX12_written 20 = .ok (.if_icmp .ge 21, 3) := by decide +kernel
theorem dX12_written_23 : decode cX12_written 23 = .ok (.aload_n 0, 1) := by decide +kernel
theorem dX12_written_24 : decode cX12_written 24 = .ok (.getfield 35, 3) := by decide +kernel
theorem dX12_written_27 : decode cX12_written 27 = .ok (.iload_n 1, 1) := by decide +kernel
theorem dX12_written_28 : decode cX12_written 28 = .ok (.aload_n 0, 1) := by decide +kernel
theorem dX12_written_29 : decode cX12_written 29 = .ok (.getfield 39, 3) := by decide +kernel
theorem dX12_written_32 : decode cX12_written 32 = .ok (.iload_n 1, 1) := by decide +kernel
theorem dX12_written_33 : decode cX12_written 33 = .ok (.baload, 1) := by decide +kernel
theorem dX12_written_34 : decode cX12_written 34 = .ok (.bastore, 1) := by decide +kernel
theorem dX12_written_35 : decode cX12_written 35 = .ok (.iinc 1 1, 3) := by decide +kernel
theorem dX12_written_38 : decode cX12_written 38 = .ok (.goto (-23), 3) := by decide +kernel
theorem dX12_written_41 : decode cX12_written 41 = .ok (.aload_n 0, 1) := by decide +kernel
theorem dX12_written_42 : decode cX12_written 42 = .ok (.aload_n 0, 1) := by decide +kernel
theorem dX12_written_43 : decode cX12_written 43 = .ok (.getfield 404, 3) := by decide +kernel
theorem dX12_written_46 : decode cX12_written 46 = .ok (.putfield 436, 3) := by decide +kernel
theorem dX12_written_49 : decode cX12_written 49 = .ok (.aload_n 0, 1) := by decide +kernel
theorem dX12_written_50 : decode cX12_written 50 = .ok (.getfield 436, 3) := by decide +kernel
theorem dX12_written_53 : decode cX12_written 53 = .ok (.ireturn, 1) := by decide +kernel
theorem dX12_write_0 : decode cX12_write 0 = .ok (.iload_n 1, 1) := by decide +kernel
theorem dX12_write_1 : decode cX12_write 1 = .ok (.ifCond .lt 11, 3) := by decide +kernel
theorem dX12_write_4 : decode cX12_write 4 = .ok (.iload_n 1, 1) := by decide +kernel
theorem dX12_write_5 : decode cX12_write 5 = .ok (.aload_n 0, 1) := by decide +kernel
theorem dX12_write_6 : decode cX12_write 6 = .ok (.getfield 204, 3) := by decide +kernel
theorem dX12_write_9 : decode cX12_write 9 = .ok (.if_icmp .lt 5, 3) := by decide +kernel
theorem dX12_write_12 : decode cX12_write 12 = .ok (.iconst (-1), 1) := by decide +kernel
theorem dX12_write_13 : decode cX12_write 13 = .ok (.ireturn, 1) := by decide +kernel
theorem dX12_write_14 : decode cX12_write 14 = .ok (.aload_n 0, 1) := by decide +kernel
theorem dX12_write_15 : decode cX12_write 15 = .ok (.iconst 0, 1) := by decide +kernel
theorem dX12_write_16 : decode cX12_write 16 = .ok (.putfield 404, 3) := by decide +kernel
theorem dX12_write_19 : decode cX12_write 19 = .ok (.aload_n 0, 1) := by decide +kernel
theorem dX12_write_20 : decode cX12_write 20 = .ok (.iconst 0, 1) := by decide +kernel
theorem dX12_write_21 : decode cX12_write 21 = .ok (.putfield 411, 3) := by decide +kernel
theorem dX12_write_24 : decode cX12_write 24 = .ok (.aload_n 0, 1) := by decide +kernel
theorem dX12_write_25 : decode cX12_write 25 = .ok (.iconst 1, 1) := by decide +kernel
theorem dX12_write_26 : decode cX12_write 26 = .ok (.iload_n 1, 1) := by decide +kernel
theorem dX12_write_27 : decode cX12_write 27 = .ok (.iconst 0, 1) := by decide +kernel
theorem dX12_write_28 : decode cX12_write 28 = .ok (.iconst 0, 1) := by decide +kernel
theorem dX12_write_29 : decode cX12_write 29 = .ok (.invokevirtual 414, 3) := by decide +kernel
theorem dX12_write_32 : decode cX12_write 32 = .ok (.aload_n 0, 1) := by decide +kernel
theorem dX12_write_33 : decode cX12_write 33 = .ok (.invokevirtual 439, 3) := by decide +kernel
theorem dX12_write_36 : decode cX12_write 36 = .ok (.aload_n 0, 1) := by decide +kernel
theorem dX12_write_37 : decode cX12_write 37 = .ok (.invokevirtual 442, 3) := by decide +kernel
theorem dX12_write_40 : decode cX12_write 40 = .ok (.ireturn, 1) := by decide +kernel
theorem dX12_octet_0 : decode cX12_octet 0 = .ok (.iload_n 1, 1) := by decide +kernel
theorem dX12_octet_1 : decode cX12_octet 1 = .ok (.ifCond .lt 11, 3) := by decide +kernel
theorem dX12_octet_4 : decode cX12_octet 4 = .ok (.iload_n 1, 1) := by decide +kernel
theorem dX12_octet_5 : decode cX12_octet 5 = .ok (.aload_n 0, 1) := by decide +kernel
theorem dX12_octet_6 : decode cX12_octet 6 = .ok (.getfield 436, 3) := by decide +kernel
theorem dX12_octet_9 : decode cX12_octet 9 = .ok (.if_icmp .lt 7, 3) := by decide +kernel
theorem dX12_octet_12 : decode cX12_octet 12 = .ok (.iconst (-1), 1) := by decide +kernel
theorem dX12_octet_13 : decode cX12_octet 13 = .ok (.goto 9, 3) := by decide +kernel
theorem dX12_octet_16 : decode cX12_octet 16 = .ok (.aload_n 0, 1) := by decide +kernel
theorem dX12_octet_17 : decode cX12_octet 17 = .ok (.getfield 35, 3) := by decide +kernel
theorem dX12_octet_20 : decode cX12_octet 20 = .ok (.iload_n 1, 1) := by decide +kernel
theorem dX12_octet_21 : decode cX12_octet 21 = .ok (.baload, 1) := by decide +kernel
theorem dX12_octet_22 : decode cX12_octet 22 = .ok (.ireturn, 1) := by decide +kernel
theorem dX12_proof_0 : decode cX12_proof 0 = .ok (.aload_n 0, 1) := by decide +kernel
theorem dX12_proof_1 : decode cX12_proof 1 = .ok (.getfield 103, 3) := by decide +kernel
theorem dX12_proof_4 : decode cX12_proof 4 = .ok (.iconst 1, 1) := by decide +kernel
theorem dX12_proof_5 : decode cX12_proof 5 = .ok (.if_icmp .eq 6, 3) := by decide +kernel
theorem dX12_proof_8 : decode cX12_proof 8 = .ok (.bipush (-3), 2) := by decide +kernel
theorem dX12_proof_10 : decode cX12_proof 10 = .ok (.ireturn, 1) := by decide +kernel
theorem dX12_proof_11 : decode cX12_proof 11 = .ok (.aload_n 0, 1) := by decide +kernel
theorem dX12_proof_12 : decode cX12_proof 12 = .ok (.iconst 0, 1) := by decide +kernel
theorem dX12_proof_13 : decode cX12_proof 13 = .ok (.putfield 404, 3) := by decide +kernel
theorem dX12_proof_16 : decode cX12_proof 16 = .ok (.aload_n 0, 1) := by decide +kernel
theorem dX12_proof_17 : decode cX12_proof 17 = .ok (.iconst 0, 1) := by decide +kernel
theorem dX12_proof_18 : decode cX12_proof 18 = .ok (.putfield 411, 3) := by decide +kernel
theorem dX12_proof_21 : decode cX12_proof 21 = .ok (.aload_n 0, 1) := by decide +kernel
theorem dX12_proof_22 : decode cX12_proof 22 = .ok (.iconst 0, 1) := by decide +kernel
theorem dX12_proof_23 : decode cX12_proof 23 = .ok (.putfield 417, 3) := by decide +kernel
theorem dX12_proof_26 : decode cX12_proof 26 = .ok (.iconst (-1), 1) := by decide +kernel
theorem dX12_proof_27 : decode cX12_proof 27 = .ok (.istore_n 1, 1) := by decide +kernel
theorem dX12_proof_28 : decode cX12_proof 28 = .ok (.iconst 0, 1) := by decide +kernel
theorem dX12_proof_29 : decode cX12_proof 29 = .ok (.istore_n 2, 1) := by decide +kernel
theorem dX12_proof_30 : decode cX12_proof 30 = .ok (.iload_n 2, 1) := by decide +kernel
theorem dX12_proof_31 : decode cX12_proof 31 = .ok (.aload_n 0, 1) := by decide +kernel
theorem dX12_proof_32 : decode cX12_proof 32 = .ok (.getfield 445, 3) := by decide +kernel
theorem dX12_proof_35 : decode cX12_proof 35 = .ok (.if_icmp .ge 19, 3) := by decide +kernel
theorem dX12_proof_38 : decode cX12_proof 38 = .ok (.aload_n 0, 1) := by decide +kernel
theorem dX12_proof_39 : decode cX12_proof 39 = .ok (.iload_n 1, 1) := by decide +kernel
theorem dX12_proof_40 : decode cX12_proof 40 = .ok (.iload_n 2, 1) := by decide +kernel
theorem dX12_proof_41 : decode cX12_proof 41 = .ok (.iload_n 2, 1) := by decide +kernel
theorem dX12_proof_42 : decode cX12_proof 42 = .ok (.iconst 1, 1) := by decide +kernel
theorem dX12_proof_43 : decode cX12_proof 43 = .ok (.iadd, 1) := by decide +kernel
theorem dX12_proof_44 : decode cX12_proof 44 = .ok (.invokevirtual 426, 3) := by decide +kernel
theorem dX12_proof_47 : decode cX12_proof 47 = .ok (.istore_n 1, 1) := by decide +kernel
theorem dX12_proof_48 : decode cX12_proof 48 = .ok (.iinc 2 1, 3) := by decide +kernel
theorem dX12_proof_51 : decode cX12_proof 51 = .ok (.goto (-21), 3) := by decide +kernel
theorem dX12_proof_54 : decode cX12_proof 54 = .ok (.aload_n 0, 1) := by decide +kernel
theorem dX12_proof_55 : decode cX12_proof 55 = .ok (.iconst 2, 1) := by decide +kernel
theorem dX12_proof_56 : decode cX12_proof 56 = .ok (.aload_n 0, 1) := by decide +kernel
theorem dX12_proof_57 : decode cX12_proof 57 = .ok (.getfield 448, 3) := by decide +kernel
theorem dX12_proof_60 : decode cX12_proof 60 = .ok (.iload_n 1, 1) := by decide +kernel
theorem dX12_proof_61 : decode cX12_proof 61 = .ok (.aload_n 0, 1) := by decide +kernel
theorem dX12_proof_62 : decode cX12_proof 62 = .ok (.getfield 445, 3) := by decide +kernel
theorem dX12_proof_65 : decode cX12_proof 65 = .ok (.invokevirtual 414, 3) := by decide +kernel
theorem dX12_proof_68 : decode cX12_proof 68 = .ok (.aload_n 0, 1) := by decide +kernel
theorem dX12_proof_69 : decode cX12_proof 69 = .ok (.invokevirtual 439, 3) := by decide +kernel
theorem dX12_proof_72 : decode cX12_proof 72 = .ok (.aload_n 0, 1) := by decide +kernel
theorem dX12_proof_73 : decode cX12_proof 73 = .ok (.invokevirtual 442, 3) := by decide +kernel
theorem dX12_proof_76 : decode cX12_proof 76 = .ok (.ireturn, 1) := by decide +kernel
theorem dX12_partsOf_0 : decode cX12_partsOf 0 = .ok (.iload_n 1, 1) := by decide +kernel
theorem dX12_partsOf_1 : decode cX12_partsOf 1 = .ok (.bipush 67, 2) := by decide +kernel
theorem dX12_partsOf_3 : decode cX12_partsOf 3 = .ok (.if_icmp .ne 7, 3) := by decide +kernel
theorem dX12_partsOf_6 : decode cX12_partsOf 6 = .ok (.iconst 3, 1) := by decide +kernel
theorem dX12_partsOf_7 : decode cX12_partsOf 7 = .ok (.goto 20, 3) := by decide +kernel
theorem dX12_partsOf_10 : decode cX12_partsOf 10 = .ok (.iload_n 1, 1) := by decide +kernel
theorem dX12_partsOf_11 : decode cX12_partsOf 11 = .ok (.bipush 65, 2) := by decide +kernel
theorem dX12_partsOf_13 : decode cX12_partsOf 13 = .ok (.if_icmp .eq 9, 3) := by decide +kernel
theorem dX12_partsOf_16 : decode cX12_partsOf 16 = .ok (.iload_n 1, 1) := by decide +kernel
theorem dX12_partsOf_17 : decode cX12_partsOf 17 = .ok (.bipush 80, 2) := by decide +kernel
theorem dX12_partsOf_19 : decode cX12_partsOf 19 = .ok (.if_icmp .ne 7, 3) := by decide +kernel
theorem dX12_partsOf_22 : decode cX12_partsOf 22 = .ok (.iconst 2, 1) := by decide +kernel
theorem dX12_partsOf_23 : decode cX12_partsOf 23 = .ok (.goto 4, 3) := by decide +kernel
theorem dX12_partsOf_26 : decode cX12_partsOf 26 = .ok (.iconst 1, 1) := by decide +kernel
theorem dX12_partsOf_27 : decode cX12_partsOf 27 = .ok (.ireturn, 1) := by decide +kernel
theorem dX12_readHypothesis_0 : decode cX12_readHypothesis 0 = .ok (.aload_n 0, 1) := by decide +kernel
theorem dX12_readHypothesis_1 : decode cX12_readHypothesis 1 = .ok (.getfield 224, 3) := by decide +kernel
theorem dX12_readHypothesis_4 : decode cX12_readHypothesis 4 = .ok (.iconst 1, 1) := by decide +kernel
theorem dX12_readHypothesis_5 : decode cX12_readHypothesis 5 = .ok (.if_icmp .le 45, 3) := by decide +kernel
theorem dX12_readHypothesis_8 : decode cX12_readHypothesis 8 = .ok (.aload_n 0, 1) := by decide +kernel
theorem dX12_readHypothesis_9 : decode cX12_readHypothesis 9 = .ok (.getfield 28, 3) := by decide +kernel
theorem dX12_readHypothesis_12 : decode cX12_readHypothesis 12 = .ok (.aload_n 0, 1) := by decide +kernel
theorem dX12_readHypothesis_13 : decode cX12_readHypothesis 13 = .ok (.getfield 227, 3) := by decide +kernel
theorem dX12_readHypothesis_16 : decode cX12_readHypothesis 16 = .ok (.iaload, 1) := by decide +kernel
theorem dX12_readHypothesis_17 : decode cX12_readHypothesis 17 = .ok (.bipush 104, 2) := by decide +kernel
theorem dX12_readHypothesis_19 : decode cX12_readHypothesis 19 = .ok (.if_icmp .ne 31, 3) := by decide +kernel
theorem dX12_readHypothesis_22 : decode cX12_readHypothesis 22 = .ok (.aload_n 0, 1) := by decide +kernel
theorem dX12_readHypothesis_23 : decode cX12_readHypothesis 23 = .ok (.getfield 28, 3) := by decide +kernel
theorem dX12_readHypothesis_26 : decode cX12_readHypothesis 26 = .ok (.aload_n 0, 1) := by decide +kernel
theorem dX12_readHypothesis_27 : decode cX12_readHypothesis 27 = .ok (.getfield 227, 3) := by decide +kernel
theorem dX12_readHypothesis_30 : decode cX12_readHypothesis 30 = .ok (.iconst 1, 1) := by decide +kernel
theorem dX12_readHypothesis_31 : decode cX12_readHypothesis 31 = .ok (.iadd, 1) := by decide +kernel
theorem dX12_readHypothesis_32 : decode cX12_readHypothesis 32 = .ok (.iaload, 1) := by decide +kernel
theorem dX12_readHypothesis_33 : decode cX12_readHypothesis 33 = .ok (.bipush 48, 2) := by decide +kernel
theorem dX12_readHypothesis_35 : decode cX12_readHypothesis 35 = .ok (.if_icmp .ne 11, 3) := by decide +kernel
theorem dX12_readHypothesis_38 : decode cX12_readHypothesis 38 = .ok (.aload_n 0, 1) := by decide +kernel
theorem dX12_readHypothesis_39 : decode cX12_readHypothesis 39 = .ok (.getfield 224, 3) := by decide +kernel
theorem dX12_readHypothesis_42 : decode cX12_readHypothesis 42 = .ok (.iconst 2, 1) := by decide +kernel
theorem dX12_readHypothesis_43 : decode cX12_readHypothesis 43 = .ok (.if_icmp .ne 7, 3) := by decide +kernel
theorem dX12_readHypothesis_46 : decode cX12_readHypothesis 46 = .ok (.iconst 1, 1) := by decide +kernel
theorem dX12_readHypothesis_47 : decode cX12_readHypothesis 47 = .ok (.goto 4, 3) := by decide +kernel
theorem dX12_readHypothesis_50 : decode cX12_readHypothesis 50 = .ok (.iconst 0, 1) := by decide +kernel
theorem dX12_readHypothesis_51 : decode cX12_readHypothesis 51 = .ok (.istore_n 2, 1) := by decide +kernel
theorem dX12_readHypothesis_52 : decode cX12_readHypothesis 52 = .ok (.iconst 0, 1) := by decide +kernel
theorem dX12_readHypothesis_53 : decode cX12_readHypothesis 53 = .ok (.istore_n 3, 1) := by decide +kernel
theorem dX12_readHypothesis_54 : decode cX12_readHypothesis 54 = .ok (.iconst 1, 1) := by decide +kernel
theorem dX12_readHypothesis_55 : decode cX12_readHypothesis 55 = .ok (.istore 4, 2) := by decide +kernel
theorem dX12_readHypothesis_57 : decode cX12_readHypothesis 57 = .ok (.iload 4, 2) := by decide +kernel
theorem dX12_readHypothesis_59 : decode cX12_readHypothesis 59 = .ok (.aload_n 0, 1) := by decide +kernel
theorem dX12_readHypothesis_60 : decode cX12_readHypothesis 60 = .ok (.getfield 224, 3) := by decide +kernel
theorem dX12_readHypothesis_63 : decode cX12_readHypothesis 63 = .ok (.if_icmp .ge 50, 3) := by decide +kernel
theorem dX12_readHypothesis_66 : decode cX12_readHypothesis 66 = .ok (.iload_n 2, 1) := by decide +kernel
theorem dX12_readHypothesis_67 : decode cX12_readHypothesis 67 = .ok (.ifCond .eq 46, 3) := by decide +kernel
theorem dX12_readHypothesis_70 : decode cX12_readHypothesis 70 = .ok (.aload_n 0, 1) := by decide +kernel
theorem dX12_readHypothesis_71 : decode cX12_readHypothesis 71 = .ok (.getfield 28, 3) := by decide +kernel
theorem dX12_readHypothesis_74 : decode cX12_readHypothesis 74 = .ok (.aload_n 0, 1) := by decide +kernel
theorem dX12_readHypothesis_75 : decode cX12_readHypothesis 75 = .ok (.getfield 227, 3) := by decide +kernel
theorem dX12_readHypothesis_78 : decode cX12_readHypothesis 78 = .ok (.iload 4, 2) := by decide +kernel
theorem dX12_readHypothesis_80 : decode cX12_readHypothesis 80 = .ok (.iadd, 1) := by decide +kernel
theorem dX12_readHypothesis_81 : decode cX12_readHypothesis 81 = .ok (.iaload, 1) := by decide +kernel
theorem dX12_readHypothesis_82 : decode cX12_readHypothesis 82 = .ok (.invokestatic 247, 3) := by decide +kernel
theorem dX12_readHypothesis_85 : decode cX12_readHypothesis 85 = .ok (.istore_n 2, 1) := by decide +kernel
theorem dX12_readHypothesis_86 : decode cX12_readHypothesis 86 = .ok (.bipush 10, 2) := by decide +kernel
theorem dX12_readHypothesis_88 : decode cX12_readHypothesis 88 = .ok (.iload_n 3, 1) := by decide +kernel
theorem dX12_readHypothesis_89 : decode cX12_readHypothesis 89 = .ok (.imul, 1) := by decide +kernel
theorem dX12_readHypothesis_90 : decode cX12_readHypothesis 90 = .ok (.aload_n 0, 1) := by decide +kernel
theorem dX12_readHypothesis_91 : decode cX12_readHypothesis 91 = .ok (.getfield 28, 3) := by decide +kernel
theorem dX12_readHypothesis_94 : decode cX12_readHypothesis 94 = .ok (.aload_n 0, 1) := by decide +kernel
theorem dX12_readHypothesis_95 : decode cX12_readHypothesis 95 = .ok (.getfield 227, 3) := by decide +kernel
theorem dX12_readHypothesis_98 : decode cX12_readHypothesis 98 = .ok (.iload 4, 2) := by decide +kernel
theorem dX12_readHypothesis_100 : decode cX12_readHypothesis 100 = .ok (.iadd, 1) := by decide +kernel
theorem dX12_readHypothesis_101 : decode cX12_readHypothesis 101 = .ok (.iaload, 1) := by decide +kernel
theorem dX12_readHypothesis_102 : decode cX12_readHypothesis 102 = .ok (.iadd, 1) := by decide +kernel
theorem dX12_readHypothesis_103 : decode cX12_readHypothesis 103 = .ok (.bipush 48, 2) := by decide +kernel
theorem dX12_readHypothesis_105 : decode cX12_readHypothesis 105 = .ok (.isub, 1) := by decide +kernel
theorem dX12_readHypothesis_106 : decode cX12_readHypothesis 106 = .ok (.istore_n 3, 1) := by decide +kernel
theorem dX12_readHypothesis_107 : decode cX12_readHypothesis 107 = .ok (.iinc 4 1, 3) := by decide +kernel
theorem dX12_readHypothesis_110 : decode cX12_readHypothesis 110 = .ok (.goto (-53), 3) := by decide +kernel
theorem dX12_readHypothesis_113 : decode cX12_readHypothesis 113 = .ok (.iload_n 2, 1) := by decide +kernel
theorem dX12_readHypothesis_114 : decode cX12_readHypothesis 114 = .ok (.ifCond .eq 8, 3) := by decide +kernel
theorem dX12_readHypothesis_117 : decode cX12_readHypothesis 117 = .ok (.iload_n 3, 1) := by decide +kernel
theorem dX12_readHypothesis_118 : decode cX12_readHypothesis 118 = .ok (.iload_n 1, 1) := by decide +kernel
theorem dX12_readHypothesis_119 : decode cX12_readHypothesis 119 = .ok (.if_icmp .lt 25, 3) := by decide +kernel
theorem dX12_readHypothesis_122 : decode cX12_readHypothesis 122 = .ok (.aload_n 0, 1) := by decide +kernel
theorem dX12_readHypothesis_123 : decode cX12_readHypothesis 123 = .ok (.iload_n 2, 1) := by decide +kernel
theorem dX12_readHypothesis_124 : decode cX12_readHypothesis 124 = .ok (.ifCond .eq 8, 3) := by decide +kernel
theorem dX12_readHypothesis_127 : decode cX12_readHypothesis 127 = .ok (.bipush 6, 2) := by decide +kernel
theorem dX12_readHypothesis_129 : decode cX12_readHypothesis 129 = .ok (.goto 4, 3) := by decide +kernel
theorem dX12_readHypothesis_132 : decode cX12_readHypothesis 132 = .ok (.iconst 2, 1) := by decide +kernel
theorem dX12_readHypothesis_133 : decode cX12_readHypothesis 133 = .ok (.aload_n 0, 1) := by decide +kernel
theorem dX12_readHypothesis_134 : decode cX12_readHypothesis 134 = .ok (.getfield 227, 3) := by decide +kernel
theorem dX12_readHypothesis_137 : decode cX12_readHypothesis 137 = .ok (.invokevirtual 266, 3) := by decide +kernel
theorem dX12_readHypothesis_140 : decode cX12_readHypothesis 140 = .ok (.istore 4, 2) := by decide +kernel
theorem dX12_readHypothesis_142 : decode cX12_readHypothesis 142 = .ok (.iconst (-1), 1) := by decide +kernel
theorem dX12_readHypothesis_143 : decode cX12_readHypothesis 143 = .ok (.ireturn, 1) := by decide +kernel
theorem dX12_readHypothesis_144 : decode cX12_readHypothesis 144 = .ok (.iload_n 3, 1) := by decide +kernel
theorem dX12_readHypothesis_145 : decode cX12_readHypothesis 145 = .ok (.ireturn, 1) := by decide +kernel
theorem dX12_newTerm_0 : decode cX12_newTerm 0 = .ok (.aload_n 0, 1) := by decide +kernel
theorem dX12_newTerm_1 : decode cX12_newTerm 1 = .ok (.getfield 139, 3) := by decide +kernel
theorem dX12_newTerm_4 : decode cX12_newTerm 4 = .ok (.aload_n 0, 1) := by decide +kernel
theorem dX12_newTerm_5 : decode cX12_newTerm 5 = .ok (.getfield 451, 3) := by decide +kernel
theorem dX12_newTerm_8 : decode cX12_newTerm 8 = .ok (.iload_n 1, 1) := by decide +kernel
theorem dX12_newTerm_9 : decode cX12_newTerm 9 = .ok (.iastore, 1) := by decide +kernel
theorem dX12_newTerm_10 : decode cX12_newTerm 10 = .ok (.aload_n 0, 1) := by decide +kernel
theorem dX12_newTerm_11 : decode cX12_newTerm 11 = .ok (.getfield 142, 3) := by decide +kernel
theorem dX12_newTerm_14 : decode cX12_newTerm 14 = .ok (.aload_n 0, 1) := by decide +kernel
theorem dX12_newTerm_15 : decode cX12_newTerm 15 = .ok (.getfield 451, 3) := by decide +kernel
theorem dX12_newTerm_18 : decode cX12_newTerm 18 = .ok (.iload_n 2, 1) := by decide +kernel
theorem dX12_newTerm_19 : decode cX12_newTerm 19 = .ok (.iastore, 1) := by decide +kernel
theorem dX12_newTerm_20 : decode cX12_newTerm 20 = .ok (.aload_n 0, 1) := by decide +kernel
theorem dX12_newTerm_21 : decode cX12_newTerm 21 = .ok (.getfield 145, 3) := by decide +kernel
theorem dX12_newTerm_24 : decode cX12_newTerm 24 = .ok (.aload_n 0, 1) := by decide +kernel
theorem dX12_newTerm_25 : decode cX12_newTerm 25 = .ok (.getfield 451, 3) := by decide +kernel
theorem dX12_newTerm_28 : decode cX12_newTerm 28 = .ok (.iconst (-1), 1) := by decide +kernel
theorem dX12_newTerm_29 : decode cX12_newTerm 29 = .ok (.iastore, 1) := by decide +kernel
theorem dX12_newTerm_30 : decode cX12_newTerm 30 = .ok (.aload_n 0, 1) := by decide +kernel
theorem dX12_newTerm_31 : decode cX12_newTerm 31 = .ok (.getfield 148, 3) := by decide +kernel
theorem dX12_newTerm_34 : decode cX12_newTerm 34 = .ok (.aload_n 0, 1) := by decide +kernel
theorem dX12_newTerm_35 : decode cX12_newTerm 35 = .ok (.getfield 451, 3) := by decide +kernel
theorem dX12_newTerm_38 : decode cX12_newTerm 38 = .ok (.iconst (-1), 1) := by decide +kernel
theorem dX12_newTerm_39 : decode cX12_newTerm 39 = .ok (.iastore, 1) := by decide +kernel
theorem dX12_newTerm_40 : decode cX12_newTerm 40 = .ok (.aload_n 0, 1) := by decide +kernel
theorem dX12_newTerm_41 : decode cX12_newTerm 41 = .ok (.getfield 151, 3) := by decide +kernel
theorem dX12_newTerm_44 : decode cX12_newTerm 44 = .ok (.aload_n 0, 1) := by decide +kernel
theorem dX12_newTerm_45 : decode cX12_newTerm 45 = .ok (.getfield 451, 3) := by decide +kernel
theorem dX12_newTerm_48 : decode cX12_newTerm 48 = .ok (.iconst (-1), 1) := by decide +kernel
theorem dX12_newTerm_49 : decode cX12_newTerm 49 = .ok (.iastore, 1) := by decide +kernel
theorem dX12_newTerm_50 : decode cX12_newTerm 50 = .ok (.aload_n 0, 1) := by decide +kernel
theorem dX12_newTerm_51 : decode cX12_newTerm 51 = .ok (.dup, 1) := by decide +kernel
theorem dX12_newTerm_52 : decode cX12_newTerm 52 = .ok (.getfield 451, 3) := by decide +kernel
theorem dX12_newTerm_55 : decode cX12_newTerm 55 = .ok (.iconst 1, 1) := by decide +kernel
theorem dX12_newTerm_56 : decode cX12_newTerm 56 = .ok (.iadd, 1) := by decide +kernel
theorem dX12_newTerm_57 : decode cX12_newTerm 57 = .ok (.putfield 451, 3) := by decide +kernel
theorem dX12_newTerm_60 : decode cX12_newTerm 60 = .ok (.aload_n 0, 1) := by decide +kernel
theorem dX12_newTerm_61 : decode cX12_newTerm 61 = .ok (.getfield 451, 3) := by decide +kernel
theorem dX12_newTerm_64 : decode cX12_newTerm 64 = .ok (.iconst 1, 1) := by decide +kernel
theorem dX12_newTerm_65 : decode cX12_newTerm 65 = .ok (.isub, 1) := by decide +kernel
theorem dX12_newTerm_66 : decode cX12_newTerm 66 = .ok (.ireturn, 1) := by decide +kernel
theorem dX12_beginTerm_0 : decode cX12_beginTerm 0 = .ok (.aload_n 0, 1) := by decide +kernel
theorem dX12_beginTerm_1 : decode cX12_beginTerm 1 = .ok (.invokevirtual 270, 3) := by decide +kernel
theorem dX12_beginTerm_4 : decode cX12_beginTerm 4 = .ok (.istore_n 3, 1) := by decide +kernel
theorem dX12_beginTerm_5 : decode cX12_beginTerm 5 = .ok (.aload_n 0, 1) := by decide +kernel
theorem dX12_beginTerm_6 : decode cX12_beginTerm 6 = .ok (.getfield 257, 3) := by decide +kernel
theorem dX12_beginTerm_9 : decode cX12_beginTerm 9 = .ok (.ifCond .eq 5, 3) := by decide +kernel
theorem dX12_beginTerm_12 : decode cX12_beginTerm 12 = .ok (.iconst (-1), 1) := by decide +kernel
theorem dX12_beginTerm_13 : decode cX12_beginTerm 13 = .ok (.ireturn, 1) := by decide +kernel
theorem dX12_beginTerm_14 : decode cX12_beginTerm 14 = .ok (.iload_n 3, 1) := by decide +kernel
theorem dX12_beginTerm_15 : decode cX12_beginTerm 15 = .ok (.bipush 84, 2) := by decide +kernel
theorem dX12_beginTerm_17 : decode cX12_beginTerm 17 = .ok (.if_icmp .ne 15, 3) := by decide +kernel
theorem dX12_beginTerm_20 : decode cX12_beginTerm 20 = .ok (.aload_n 0, 1) := by decide +kernel
theorem dX12_beginTerm_21 : decode cX12_beginTerm 21 = .ok (.invokevirtual 274, 3) := by decide +kernel
theorem dX12_beginTerm_24 : decode cX12_beginTerm 24 = .ok (.aload_n 0, 1) := by decide +kernel
theorem dX12_beginTerm_25 : decode cX12_beginTerm 25 = .ok (.bipush 84, 2) := by decide +kernel
theorem dX12_beginTerm_27 : decode cX12_beginTerm 27 = .ok (.iload_n 2, 1) := by decide +kernel
theorem dX12_beginTerm_28 : decode cX12_beginTerm 28 = .ok (.invokevirtual 454, 3) := by decide +kernel
theorem dX12_beginTerm_31 : decode cX12_beginTerm 31 = .ok (.ireturn, 1) := by decide +kernel
theorem dX12_beginTerm_32 : decode cX12_beginTerm 32 = .ok (.iload_n 3, 1) := by decide +kernel
theorem dX12_beginTerm_33 : decode cX12_beginTerm 33 = .ok (.sipush 257, 3) := by decide +kernel
theorem dX12_beginTerm_36 : decode cX12_beginTerm 36 = .ok (.if_icmp .ne 42, 3) := by decide +kernel
theorem dX12_beginTerm_39 : decode cX12_beginTerm 39 = .ok (.aload_n 0, 1) := by decide +kernel
theorem dX12_beginTerm_40 : decode cX12_beginTerm 40 = .ok (.iload_n 2, 1) := by decide +kernel
theorem dX12_beginTerm_41 : decode cX12_beginTerm 41 = .ok (.invokevirtual 457, 3) := by decide +kernel
theorem dX12_beginTerm_44 : decode cX12_beginTerm 44 = .ok (.istore 4, 2) := by decide +kernel
theorem dX12_beginTerm_46 : decode cX12_beginTerm 46 = .ok (.iload 4, 2) := by decide +kernel
theorem dX12_beginTerm_48 : decode cX12_beginTerm 48 = .ok (.ifCond .ge 5, 3) := by decide +kernel
theorem dX12_beginTerm_51 : decode cX12_beginTerm 51 = .ok (.iconst (-1), 1) := by decide +kernel
theorem dX12_beginTerm_52 : decode cX12_beginTerm 52 = .ok (.ireturn, 1) := by decide +kernel
theorem dX12_beginTerm_53 : decode cX12_beginTerm 53 = .ok (.aload_n 0, 1) := by decide +kernel
theorem dX12_beginTerm_54 : decode cX12_beginTerm 54 = .ok (.bipush 72, 2) := by decide +kernel
theorem dX12_beginTerm_56 : decode cX12_beginTerm 56 = .ok (.iload_n 2, 1) := by decide +kernel
theorem dX12_beginTerm_57 : decode cX12_beginTerm 57 = .ok (.invokevirtual 454, 3) := by decide +kernel
theorem dX12_beginTerm_60 : decode cX12_beginTerm 60 = .ok (.istore 5, 2) := by decide +kernel
theorem dX12_beginTerm_62 : decode cX12_beginTerm 62 = .ok (.aload_n 0, 1) := by decide +kernel
theorem dX12_beginTerm_63 : decode cX12_beginTerm 63 = .ok (.getfield 145, 3) := by decide +kernel
theorem dX12_beginTerm_66 : decode cX12_beginTerm 66 = .ok (.iload 5, 2) := by decide +kernel
theorem dX12_beginTerm_68 : decode cX12_beginTerm 68 = .ok (.iload 4, 2) := by decide +kernel
theorem dX12_beginTerm_70 : decode cX12_beginTerm 70 = .ok (.iastore, 1) := by decide +kernel
theorem dX12_beginTerm_71 : decode cX12_beginTerm 71 = .ok (.aload_n 0, 1) := by decide +kernel
theorem dX12_beginTerm_72 : decode cX12_beginTerm 72 = .ok (.invokevirtual 274, 3) := by decide +kernel
theorem dX12_beginTerm_75 : decode cX12_beginTerm 75 = .ok (.iload 5, 2) := by decide +kernel
theorem dX12_beginTerm_77 : decode cX12_beginTerm 77 = .ok (.ireturn, 1) := by decide +kernel
theorem dX12_beginTerm_78 : decode cX12_beginTerm 78 = .ok (.iload_n 3, 1) := by decide +kernel
theorem dX12_beginTerm_79 : decode cX12_beginTerm 79 = .ok (.bipush 76, 2) := by decide +kernel
theorem dX12_beginTerm_81 : decode cX12_beginTerm 81 = .ok (.if_icmp .eq 51, 3) := by decide +kernel
theorem dX12_beginTerm_84 : decode cX12_beginTerm 84 = .ok (.iload_n 3, 1) := by decide +kernel
theorem dX12_beginTerm_85 : decode cX12_beginTerm 85 = .ok (.bipush 65, 2) := by decide +kernel
theorem dX12_beginTerm_87 : decode cX12_beginTerm 87 = .ok (.if_icmp .eq 45, 3) := by decide +kernel
theorem dX12_beginTerm_90 : decode cX12_beginTerm 90 = .ok (.iload_n 3, 1) := by decide +kernel
theorem dX12_beginTerm_91 : decode cX12_beginTerm 91 = .ok (.bipush 80, 2) := by decide +kernel
theorem dX12_beginTerm_93 : decode cX12_beginTerm 93 = .ok (.if_icmp .eq 39, 3) := by decide +kernel
theorem dX12_beginTerm_96 : decode cX12_beginTerm 96 = .ok (.iload_n 3, 1) := by decide +kernel
theorem dX12_beginTerm_97 : decode cX12_beginTerm 97 = .ok (.bipush 70, 2) := by decide +kernel
theorem dX12_beginTerm_99 : decode cX12_beginTerm 99 = .ok (.if_icmp .eq 33, 3) := by decide +kernel
theorem dX12_beginTerm_102 : decode cX12_beginTerm 102 = .ok (.iload_n 3, 1) := by decide +kernel
theorem dX12_beginTerm_103 : decode cX12_beginTerm 103 = .ok (.bipush 83, 2) := by decide +kernel
theorem dX12_beginTerm_105 : decode cX12_beginTerm 105 = .ok (.if_icmp .eq 27, 3) := by decide +kernel
theorem dX12_beginTerm_108 : decode cX12_beginTerm 108 = .ok (.iload_n 3, 1) := by decide +kernel
theorem dX12_beginTerm_109 : decode cX12_beginTerm 109 = .ok (.bipush 73, 2) := by decide +kernel
theorem dX12_beginTerm_111 : decode cX12_beginTerm 111 = .ok (.if_icmp .eq 21, 3) := by decide +kernel
theorem dX12_beginTerm_114 : decode cX12_beginTerm 114 = .ok (.iload_n 3, 1) := by decide +kernel
theorem dX12_beginTerm_115 : decode cX12_beginTerm 115 = .ok (.bipush 74, 2) := by decide +kernel
theorem dX12_beginTerm_117 : decode cX12_beginTerm 117 = .ok (.if_icmp .eq 15, 3) := by decide +kernel
theorem dX12_beginTerm_120 : decode cX12_beginTerm 120 = .ok (.iload_n 3, 1) := by decide +kernel
theorem dX12_beginTerm_121 : decode cX12_beginTerm 121 = .ok (.bipush 67, 2) := by decide +kernel
theorem dX12_beginTerm_123 : decode cX12_beginTerm 123 = .ok (.if_icmp .eq 9, 3) := by decide +kernel
theorem dX12_beginTerm_126 : decode cX12_beginTerm 126 = .ok (.iload_n 3, 1) := by decide +kernel
theorem dX12_beginTerm_127 : decode cX12_beginTerm 127 = .ok (.bipush 88, 2) := by decide +kernel
theorem dX12_beginTerm_129 : decode cX12_beginTerm 129 = .ok (.if_icmp .ne 7, 3) := by decide +kernel
theorem dX12_beginTerm_132 : decode cX12_beginTerm 132 = .ok (.iconst 1, 1) := by decide +kernel
theorem dX12_beginTerm_133 : decode cX12_beginTerm 133 = .ok (.goto 4, 3) := by decide +kernel
theorem dX12_beginTerm_136 : decode cX12_beginTerm 136 = .ok (.iconst 0, 1) := by decide +kernel
theorem dX12_beginTerm_137 : decode cX12_beginTerm 137 = .ok (.istore 4, 2) := by decide +kernel
theorem dX12_beginTerm_139 : decode cX12_beginTerm 139 = .ok (.iload 4, 2) := by decide +kernel
theorem dX12_beginTerm_141 : decode cX12_beginTerm 141 = .ok (.ifCond .ne 16, 3) := by decide +kernel
theorem dX12_beginTerm_144 : decode cX12_beginTerm 144 = .ok (.aload_n 0, 1) := by decide +kernel
theorem dX12_beginTerm_145 : decode cX12_beginTerm 145 = .ok (.iconst 2, 1) := by decide +kernel
theorem dX12_beginTerm_146 : decode cX12_beginTerm 146 = .ok (.aload_n 0, 1) := by decide +kernel
theorem dX12_beginTerm_147 : decode cX12_beginTerm 147 = .ok (.getfield 227, 3) := by decide +kernel
theorem dX12_beginTerm_150 : decode cX12_beginTerm 150 = .ok (.invokevirtual 266, 3) := by decide +kernel
theorem dX12_beginTerm_153 : decode cX12_beginTerm 153 = .ok (.istore 5, 2) := by decide +kernel
theorem dX12_beginTerm_155 : decode cX12_beginTerm 155 = .ok (.iconst (-1), 1) := by decide +kernel
theorem dX12_beginTerm_156 : decode cX12_beginTerm 156 = .ok (.ireturn, 1) := by decide +kernel
theorem dX12_beginTerm_157 : decode cX12_beginTerm 157 = .ok (.aload_n 0, 1) := by decide +kernel
theorem dX12_beginTerm_158 : decode cX12_beginTerm 158 = .ok (.invokevirtual 286, 3) := by decide +kernel
theorem dX12_beginTerm_161 : decode cX12_beginTerm 161 = .ok (.ifCond .ne 5, 3) := by decide +kernel
theorem dX12_beginTerm_164 : decode cX12_beginTerm 164 = .ok (.iconst (-1), 1) := by decide +kernel
theorem dX12_beginTerm_165 : decode cX12_beginTerm 165 = .ok (.ireturn, 1) := by decide +kernel
theorem dX12_beginTerm_166 : decode cX12_beginTerm 166 = .ok (.aload_n 0, 1) := by decide +kernel
theorem dX12_beginTerm_167 : decode cX12_beginTerm 167 = .ok (.invokevirtual 274, 3) := by decide +kernel
theorem dX12_beginTerm_170 : decode cX12_beginTerm 170 = .ok (.aload_n 0, 1) := by decide +kernel
theorem dX12_beginTerm_171 : decode cX12_beginTerm 171 = .ok (.getfield 154, 3) := by decide +kernel
theorem dX12_beginTerm_174 : decode cX12_beginTerm 174 = .ok (.iload_n 1, 1) := by decide +kernel
theorem dX12_beginTerm_175 : decode cX12_beginTerm 175 = .ok (.aload_n 0, 1) := by decide +kernel
theorem dX12_beginTerm_176 : decode cX12_beginTerm 176 = .ok (.iload_n 3, 1) := by decide +kernel
theorem dX12_beginTerm_177 : decode cX12_beginTerm 177 = .ok (.iload_n 2, 1) := by decide +kernel
theorem dX12_beginTerm_178 : decode cX12_beginTerm 178 = .ok (.invokevirtual 454, 3) := by decide +kernel
theorem dX12_beginTerm_181 : decode cX12_beginTerm 181 = .ok (.iastore, 1) := by decide +kernel
theorem dX12_beginTerm_182 : decode cX12_beginTerm 182 = .ok (.aload_n 0, 1) := by decide +kernel
theorem dX12_beginTerm_183 : decode cX12_beginTerm 183 = .ok (.getfield 157, 3) := by decide +kernel
theorem dX12_beginTerm_186 : decode cX12_beginTerm 186 = .ok (.iload_n 1, 1) := by decide +kernel
theorem dX12_beginTerm_187 : decode cX12_beginTerm 187 = .ok (.iconst 0, 1) := by decide +kernel
theorem dX12_beginTerm_188 : decode cX12_beginTerm 188 = .ok (.iastore, 1) := by decide +kernel
theorem dX12_beginTerm_189 : decode cX12_beginTerm 189 = .ok (.aload_n 0, 1) := by decide +kernel
theorem dX12_beginTerm_190 : decode cX12_beginTerm 190 = .ok (.getfield 160, 3) := by decide +kernel
theorem dX12_beginTerm_193 : decode cX12_beginTerm 193 = .ok (.iload_n 1, 1) := by decide +kernel
theorem dX12_beginTerm_194 : decode cX12_beginTerm 194 = .ok (.iload_n 2, 1) := by decide +kernel
theorem dX12_beginTerm_195 : decode cX12_beginTerm 195 = .ok (.iastore, 1) := by decide +kernel
theorem dX12_beginTerm_196 : decode cX12_beginTerm 196 = .ok (.aload_n 0, 1) := by decide +kernel
theorem dX12_beginTerm_197 : decode cX12_beginTerm 197 = .ok (.bipush 40, 2) := by decide +kernel
theorem dX12_beginTerm_199 : decode cX12_beginTerm 199 = .ok (.invokevirtual 300, 3) := by decide +kernel
theorem dX12_beginTerm_202 : decode cX12_beginTerm 202 = .ok (.ifCond .ne 5, 3) := by decide +kernel
theorem dX12_beginTerm_205 : decode cX12_beginTerm 205 = .ok (.iconst (-1), 1) := by decide +kernel
theorem dX12_beginTerm_206 : decode cX12_beginTerm 206 = .ok (.ireturn, 1) := by decide +kernel
theorem dX12_beginTerm_207 : decode cX12_beginTerm 207 = .ok (.iload_n 3, 1) := by decide +kernel
theorem dX12_beginTerm_208 : decode cX12_beginTerm 208 = .ok (.bipush 76, 2) := by decide +kernel
theorem dX12_beginTerm_210 : decode cX12_beginTerm 210 = .ok (.if_icmp .ne 45, 3) := by decide +kernel
theorem dX12_beginTerm_213 : decode cX12_beginTerm 213 = .ok (.aload_n 0, 1) := by decide +kernel
theorem dX12_beginTerm_214 : decode cX12_beginTerm 214 = .ok (.invokevirtual 460, 3) := by decide +kernel
theorem dX12_beginTerm_217 : decode cX12_beginTerm 217 = .ok (.istore 5, 2) := by decide +kernel
theorem dX12_beginTerm_219 : decode cX12_beginTerm 219 = .ok (.aload_n 0, 1) := by decide +kernel
theorem dX12_beginTerm_220 : decode cX12_beginTerm 220 = .ok (.getfield 151, 3) := by decide +kernel
theorem dX12_beginTerm_223 : decode cX12_beginTerm 223 = .ok (.aload_n 0, 1) := by decide +kernel
theorem dX12_beginTerm_224 : decode cX12_beginTerm 224 = .ok (.getfield 154, 3) := by decide +kernel
theorem dX12_beginTerm_227 : decode cX12_beginTerm 227 = .ok (.iload_n 1, 1) := by decide +kernel
theorem dX12_beginTerm_228 : decode cX12_beginTerm 228 = .ok (.iaload, 1) := by decide +kernel
theorem dX12_beginTerm_229 : decode cX12_beginTerm 229 = .ok (.iload 5, 2) := by decide +kernel
theorem dX12_beginTerm_231 : decode cX12_beginTerm 231 = .ok (.iastore, 1) := by decide +kernel
theorem dX12_beginTerm_232 : decode cX12_beginTerm 232 = .ok (.aload_n 0, 1) := by decide +kernel
theorem dX12_beginTerm_233 : decode cX12_beginTerm 233 = .ok (.getfield 257, 3) := by decide +kernel
theorem dX12_beginTerm_236 : decode cX12_beginTerm 236 = .ok (.ifCond .ne 16, 3) := by decide +kernel
theorem dX12_beginTerm_239 : decode cX12_beginTerm 239 = .ok (.aload_n 0, 1) := by decide +kernel
theorem dX12_beginTerm_240 : decode cX12_beginTerm 240 = .ok (.bipush 44, 2) := by decide +kernel
theorem dX12_beginTerm_242 : decode cX12_beginTerm 242 = .ok (.invokevirtual 300, 3) := by decide +kernel
theorem dX12_beginTerm_245 : decode cX12_beginTerm 245 = .ok (.ifCond .eq 7, 3) := by decide +kernel
theorem dX12_beginTerm_248 : decode cX12_beginTerm 248 = .ok (.iconst 1, 1) := by decide +kernel
theorem dX12_beginTerm_249 : decode cX12_beginTerm 249 = .ok (.goto 4, 3) := by decide +kernel
theorem dX12_beginTerm_252 : decode cX12_beginTerm 252 = .ok (.iconst 0, 1) := by decide +kernel
theorem dX12_beginTerm_253 : decode cX12_beginTerm 253 = .ok (.istore 6, 2) := by decide +kernel
theorem dX12_beginTerm_255 : decode cX12_beginTerm 255 = .ok (.iconst (-1), 1) := by decide +kernel
theorem dX12_beginTerm_256 : decode cX12_beginTerm 256 = .ok (.ireturn, 1) := by decide +kernel
theorem dX12_readTerm_0 : decode cX12_readTerm 0 = .ok (.iconst 0, 1) := by decide +kernel
theorem dX12_readTerm_1 : decode cX12_readTerm 1 = .ok (.istore_n 2, 1) := by decide +kernel
theorem dX12_readTerm_2 : decode cX12_readTerm 2 = .ok (.iload_n 1, 1) := by decide +kernel
theorem dX12_readTerm_3 : decode cX12_readTerm 3 = .ok (.istore_n 3, 1) := by decide +kernel
theorem dX12_readTerm_4 : decode cX12_readTerm 4 = .ok (.aload_n 0, 1) := by decide +kernel
theorem dX12_readTerm_5 : decode cX12_readTerm 5 = .ok (.getfield 257, 3) := by decide +kernel
theorem dX12_readTerm_8 : decode cX12_readTerm 8 = .ok (.ifCond .ne 282, 3) := by decide +kernel
theorem dX12_readTerm_11 : decode cX12_readTerm 11 = .ok (.aload_n 0, 1) := by decide +kernel
theorem dX12_readTerm_12 : decode cX12_readTerm 12 = .ok (.iload_n 2, 1) := by decide +kernel
theorem dX12_readTerm_13 : decode cX12_readTerm 13 = .ok (.iload_n 3, 1) := by decide +kernel
theorem dX12_readTerm_14 : decode cX12_readTerm 14 = .ok (.invokevirtual 463, 3) := by decide +kernel
theorem dX12_readTerm_17 : decode cX12_readTerm 17 = .ok (.istore 4, 2) := by decide +kernel
theorem dX12_readTerm_19 : decode cX12_readTerm 19 = .ok (.aload_n 0, 1) := by decide +kernel
theorem dX12_readTerm_20 : decode cX12_readTerm 20 = .ok (.getfield 257, 3) := by decide +kernel
theorem dX12_readTerm_23 : decode cX12_readTerm 23 = .ok (.ifCond .eq 5, 3) := by decide +kernel
theorem dX12_readTerm_26 : decode cX12_readTerm 26 = .ok (.iconst (-1), 1) := by decide +kernel
theorem dX12_readTerm_27 : decode cX12_readTerm 27 = .ok (.ireturn, 1) := by decide +kernel
theorem dX12_readTerm_28 : decode cX12_readTerm 28 = .ok (.iload 4, 2) := by decide +kernel
theorem dX12_readTerm_30 : decode cX12_readTerm 30 = .ok (.ifCond .ge 42, 3) := by decide +kernel
theorem dX12_readTerm_33 : decode cX12_readTerm 33 = .ok (.aload_n 0, 1) := by decide +kernel
theorem dX12_readTerm_34 : decode cX12_readTerm 34 = .ok (.getfield 139, 3) := by decide +kernel
theorem dX12_readTerm_37 : decode cX12_readTerm 37 = .ok (.aload_n 0, 1) := by decide +kernel
theorem dX12_readTerm_38 : decode cX12_readTerm 38 = .ok (.getfield 154, 3) := by decide +kernel
theorem dX12_readTerm_41 : decode cX12_readTerm 41 = .ok (.iload_n 2, 1) := by decide +kernel
