theorem dX3_listConflicts_145 : decode cX3_listConflicts 145 = .ok (.iinc 4 1, 3) := by decide +kernel
theorem dX3_listConflicts_148 : decode cX3_listConflicts 148 = .ok (.goto (-84), 3) := by decide +kernel
theorem dX3_listConflicts_151 : decode cX3_listConflicts 151 = .ok (.aload_n 0, 1) := by decide +kernel
theorem dX3_listConflicts_152 : decode cX3_listConflicts 152 = .ok (.iload_n 2, 1) := by decide +kernel
theorem dX3_listConflicts_153 : decode cX3_listConflicts 153 = .ok (.invokevirtual 140, 3) := by decide +kernel
theorem dX3_listConflicts_156 : decode cX3_listConflicts 156 = .ok (.ifCond .eq 61, 3) := by decide +kernel
theorem dX3_listConflicts_159 : decode cX3_listConflicts 159 = .ok (.aload_n 0, 1) := by decide +kernel
theorem dX3_listConflicts_160 : decode cX3_listConflicts 160 = .ok (.bipush 42, 2) := by decide +kernel
theorem dX3_listConflicts_162 : decode cX3_listConflicts 162 = .ok (.aload_n 0, 1) := by decide +kernel
theorem dX3_listConflicts_163 : decode cX3_listConflicts 163 = .ok (.getfield 31, 3) := by decide +kernel
theorem dX3_listConflicts_166 : decode cX3_listConflicts 166 = .ok (.sipush 672, 3) := by decide +kernel
theorem dX3_listConflicts_169 : decode cX3_listConflicts 169 = .ok (.iload_n 2, 1) := by decide +kernel
theorem dX3_listConflicts_170 : decode cX3_listConflicts 170 = .ok (.iadd, 1) := by decide +kernel
theorem dX3_listConflicts_171 : decode cX3_listConflicts 171 = .ok (.iaload, 1) := by decide +kernel
theorem dX3_listConflicts_172 : decode cX3_listConflicts 172 = .ok (.invokevirtual 87, 3) := by decide +kernel
theorem dX3_listConflicts_175 : decode cX3_listConflicts 175 = .ok (.ifCond .ne 13, 3) := by decide +kernel
theorem dX3_listConflicts_178 : decode cX3_listConflicts 178 = .ok (.aload_n 0, 1) := by decide +kernel
theorem dX3_listConflicts_179 : decode cX3_listConflicts 179 = .ok (.iload_n 1, 1) := by decide +kernel
theorem dX3_listConflicts_180 : decode cX3_listConflicts 180 = .ok (.iload_n 2, 1) := by decide +kernel
theorem dX3_listConflicts_181 : decode cX3_listConflicts 181 = .ok (.iconst 3, 1) := by decide +kernel
theorem dX3_listConflicts_182 : decode cX3_listConflicts 182 = .ok (.invokevirtual 143, 3) := by decide +kernel
theorem dX3_listConflicts_185 : decode cX3_listConflicts 185 = .ok (.goto 32, 3) := by decide +kernel
theorem dX3_listConflicts_188 : decode cX3_listConflicts 188 = .ok (.iload_n 3, 1) := by decide +kernel
theorem dX3_listConflicts_189 : decode cX3_listConflicts 189 = .ok (.ifCond .le 13, 3) := by decide +kernel
theorem dX3_listConflicts_192 : decode cX3_listConflicts 192 = .ok (.aload_n 0, 1) := by decide +kernel
theorem dX3_listConflicts_193 : decode cX3_listConflicts 193 = .ok (.iload_n 1, 1) := by decide +kernel
theorem dX3_listConflicts_194 : decode cX3_listConflicts 194 = .ok (.iload_n 2, 1) := by decide +kernel
theorem dX3_listConflicts_195 : decode cX3_listConflicts 195 = .ok (.iconst 4, 1) := by decide +kernel
theorem dX3_listConflicts_196 : decode cX3_listConflicts 196 = .ok (.invokevirtual 143, 3) := by decide +kernel
theorem dX3_listConflicts_199 : decode cX3_listConflicts 199 = .ok (.goto 18, 3) := by decide +kernel
theorem dX3_listConflicts_202 : decode cX3_listConflicts 202 = .ok (.aload_n 0, 1) := by decide +kernel
theorem dX3_listConflicts_203 : decode cX3_listConflicts 203 = .ok (.iload_n 2, 1) := by decide +kernel
theorem dX3_listConflicts_204 : decode cX3_listConflicts 204 = .ok (.invokevirtual 146, 3) := by decide +kernel
theorem dX3_listConflicts_207 : decode cX3_listConflicts 207 = .ok (.ifCond .eq 10, 3) := by decide +kernel
theorem dX3_listConflicts_210 : decode cX3_listConflicts 210 = .ok (.aload_n 0, 1) := by decide +kernel
theorem dX3_listConflicts_211 : decode cX3_listConflicts 211 = .ok (.iload_n 1, 1) := by decide +kernel
theorem dX3_listConflicts_212 : decode cX3_listConflicts 212 = .ok (.iload_n 2, 1) := by decide +kernel
theorem dX3_listConflicts_213 : decode cX3_listConflicts 213 = .ok (.iconst 5, 1) := by decide +kernel
theorem dX3_listConflicts_214 : decode cX3_listConflicts 214 = .ok (.invokevirtual 143, 3) := by decide +kernel
theorem dX3_listConflicts_217 : decode cX3_listConflicts 217 = .ok (.iinc 2 1, 3) := by decide +kernel
theorem dX3_listConflicts_220 : decode cX3_listConflicts 220 = .ok (.goto (-211), 3) := by decide +kernel
theorem dX3_listConflicts_223 : decode cX3_listConflicts 223 = .ok (.return_, 1) := by decide +kernel
theorem dX3_merge_0 : decode cX3_merge 0 = .ok (.aload_n 0, 1) := by decide +kernel
theorem dX3_merge_1 : decode cX3_merge 1 = .ok (.iconst 0, 1) := by decide +kernel
theorem dX3_merge_2 : decode cX3_merge 2 = .ok (.putfield 76, 3) := by decide +kernel
theorem dX3_merge_5 : decode cX3_merge 5 = .ok (.iload_n 1, 1) := by decide +kernel
theorem dX3_merge_6 : decode cX3_merge 6 = .ok (.invokestatic 95, 3) := by decide +kernel
theorem dX3_merge_9 : decode cX3_merge 9 = .ok (.ifCond .eq 43, 3) := by decide +kernel
theorem dX3_merge_12 : decode cX3_merge 12 = .ok (.aload_n 0, 1) := by decide +kernel
theorem dX3_merge_13 : decode cX3_merge 13 = .ok (.iload_n 1, 1) := by decide +kernel
theorem dX3_merge_14 : decode cX3_merge 14 = .ok (.invokestatic 95, 3) := by decide +kernel
theorem dX3_merge_17 : decode cX3_merge 17 = .ok (.ifCond .eq 7, 3) := by decide +kernel
theorem dX3_merge_20 : decode cX3_merge 20 = .ok (.iload_n 1, 1) := by decide +kernel
theorem dX3_merge_21 : decode cX3_merge 21 = .ok (.goto 4, 3) := by decide +kernel
theorem dX3_merge_24 : decode cX3_merge 24 = .ok (.iconst 0, 1) := by decide +kernel
theorem dX3_merge_25 : decode cX3_merge 25 = .ok (.iload_n 2, 1) := by decide +kernel
theorem dX3_merge_26 : decode cX3_merge 26 = .ok (.invokevirtual 99, 3) := by decide +kernel
theorem dX3_merge_29 : decode cX3_merge 29 = .ok (.ifCond .eq 23, 3) := by decide +kernel
theorem dX3_merge_32 : decode cX3_merge 32 = .ok (.aload_n 0, 1) := by decide +kernel
theorem dX3_merge_33 : decode cX3_merge 33 = .ok (.iload_n 1, 1) := by decide +kernel
theorem dX3_merge_34 : decode cX3_merge 34 = .ok (.invokestatic 95, 3) := by decide +kernel
theorem dX3_merge_37 : decode cX3_merge 37 = .ok (.ifCond .eq 7, 3) := by decide +kernel
theorem dX3_merge_40 : decode cX3_merge 40 = .ok (.iload_n 1, 1) := by decide +kernel
theorem dX3_merge_41 : decode cX3_merge 41 = .ok (.goto 4, 3) := by decide +kernel
theorem dX3_merge_44 : decode cX3_merge 44 = .ok (.iconst 0, 1) := by decide +kernel
theorem dX3_merge_45 : decode cX3_merge 45 = .ok (.iload_n 3, 1) := by decide +kernel
theorem dX3_merge_46 : decode cX3_merge 46 = .ok (.invokevirtual 99, 3) := by decide +kernel
theorem dX3_merge_49 : decode cX3_merge 49 = .ok (.ifCond .ne 9, 3) := by decide +kernel
theorem dX3_merge_52 : decode cX3_merge 52 = .ok (.aload_n 0, 1) := by decide +kernel
theorem dX3_merge_53 : decode cX3_merge 53 = .ok (.iconst 1, 1) := by decide +kernel
theorem dX3_merge_54 : decode cX3_merge 54 = .ok (.invokevirtual 106, 3) := by decide +kernel
theorem dX3_merge_57 : decode cX3_merge 57 = .ok (.ireturn, 1) := by decide +kernel
theorem dX3_merge_58 : decode cX3_merge 58 = .ok (.aload_n 0, 1) := by decide +kernel
theorem dX3_merge_59 : decode cX3_merge 59 = .ok (.iload_n 2, 1) := by decide +kernel
theorem dX3_merge_60 : decode cX3_merge 60 = .ok (.iload_n 3, 1) := by decide +kernel
theorem dX3_merge_61 : decode cX3_merge 61 = .ok (.invokevirtual 137, 3) := by decide +kernel
theorem dX3_merge_64 : decode cX3_merge 64 = .ok (.ifCond .ne 12, 3) := by decide +kernel
theorem dX3_merge_67 : decode cX3_merge 67 = .ok (.aload_n 0, 1) := by decide +kernel
theorem dX3_merge_68 : decode cX3_merge 68 = .ok (.iload_n 3, 1) := by decide +kernel
theorem dX3_merge_69 : decode cX3_merge 69 = .ok (.iload_n 2, 1) := by decide +kernel
theorem dX3_merge_70 : decode cX3_merge 70 = .ok (.invokevirtual 137, 3) := by decide +kernel
theorem dX3_merge_73 : decode cX3_merge 73 = .ok (.ifCond .eq 9, 3) := by decide +kernel
theorem dX3_merge_76 : decode cX3_merge 76 = .ok (.aload_n 0, 1) := by decide +kernel
theorem dX3_merge_77 : decode cX3_merge 77 = .ok (.iconst 2, 1) := by decide +kernel
theorem dX3_merge_78 : decode cX3_merge 78 = .ok (.invokevirtual 106, 3) := by decide +kernel
theorem dX3_merge_81 : decode cX3_merge 81 = .ok (.ireturn, 1) := by decide +kernel
theorem dX3_merge_82 : decode cX3_merge 82 = .ok (.aload_n 0, 1) := by decide +kernel
theorem dX3_merge_83 : decode cX3_merge 83 = .ok (.getfield 7, 3) := by decide +kernel
theorem dX3_merge_86 : decode cX3_merge 86 = .ok (.bipush 40, 2) := by decide +kernel
theorem dX3_merge_88 : decode cX3_merge 88 = .ok (.if_icmp .ne 9, 3) := by decide +kernel
theorem dX3_merge_91 : decode cX3_merge 91 = .ok (.aload_n 0, 1) := by decide +kernel
theorem dX3_merge_92 : decode cX3_merge 92 = .ok (.iconst 3, 1) := by decide +kernel
theorem dX3_merge_93 : decode cX3_merge 93 = .ok (.invokevirtual 106, 3) := by decide +kernel
theorem dX3_merge_96 : decode cX3_merge 96 = .ok (.ireturn, 1) := by decide +kernel
theorem dX3_merge_97 : decode cX3_merge 97 = .ok (.aload_n 0, 1) := by decide +kernel
theorem dX3_merge_98 : decode cX3_merge 98 = .ok (.getfield 7, 3) := by decide +kernel
theorem dX3_merge_101 : decode cX3_merge 101 = .ok (.istore 4, 2) := by decide +kernel
theorem dX3_merge_103 : decode cX3_merge 103 = .ok (.aload_n 0, 1) := by decide +kernel
theorem dX3_merge_104 : decode cX3_merge 104 = .ok (.getfield 28, 3) := by decide +kernel
theorem dX3_merge_107 : decode cX3_merge 107 = .ok (.bipush 42, 2) := by decide +kernel
theorem dX3_merge_109 : decode cX3_merge 109 = .ok (.aload_n 0, 1) := by decide +kernel
theorem dX3_merge_110 : decode cX3_merge 110 = .ok (.iload_n 1, 1) := by decide +kernel
theorem dX3_merge_111 : decode cX3_merge 111 = .ok (.iload_n 2, 1) := by decide +kernel
theorem dX3_merge_112 : decode cX3_merge 112 = .ok (.iload_n 3, 1) := by decide +kernel
theorem dX3_merge_113 : decode cX3_merge 113 = .ok (.invokevirtual 149, 3) := by decide +kernel
theorem dX3_merge_116 : decode cX3_merge 116 = .ok (.iastore, 1) := by decide +kernel
theorem dX3_merge_117 : decode cX3_merge 117 = .ok (.iconst 1, 1) := by decide +kernel
theorem dX3_merge_118 : decode cX3_merge 118 = .ok (.istore 5, 2) := by decide +kernel
theorem dX3_merge_120 : decode cX3_merge 120 = .ok (.iload 5, 2) := by decide +kernel
theorem dX3_merge_122 : decode cX3_merge 122 = .ok (.bipush 16, 2) := by decide +kernel
theorem dX3_merge_124 : decode cX3_merge 124 = .ok (.if_icmp .ge 98, 3) := by decide +kernel
theorem dX3_merge_127 : decode cX3_merge 127 = .ok (.aload_n 0, 1) := by decide +kernel
theorem dX3_merge_128 : decode cX3_merge 128 = .ok (.getfield 73, 3) := by decide +kernel
theorem dX3_merge_131 : decode cX3_merge 131 = .ok (.iload 5, 2) := by decide +kernel
theorem dX3_merge_133 : decode cX3_merge 133 = .ok (.iconst 0, 1) := by decide +kernel
theorem dX3_merge_134 : decode cX3_merge 134 = .ok (.iastore, 1) := by decide +kernel
theorem dX3_merge_135 : decode cX3_merge 135 = .ok (.aload_n 0, 1) := by decide +kernel
theorem dX3_merge_136 : decode cX3_merge 136 = .ok (.bipush 42, 2) := by decide +kernel
theorem dX3_merge_138 : decode cX3_merge 138 = .ok (.iload 5, 2) := by decide +kernel
theorem dX3_merge_140 : decode cX3_merge 140 = .ok (.invokevirtual 87, 3) := by decide +kernel
theorem dX3_merge_143 : decode cX3_merge 143 = .ok (.ifCond .eq 73, 3) := by decide +kernel
theorem dX3_merge_146 : decode cX3_merge 146 = .ok (.aload_n 0, 1) := by decide +kernel
theorem dX3_merge_147 : decode cX3_merge 147 = .ok (.iload_n 2, 1) := by decide +kernel
theorem dX3_merge_148 : decode cX3_merge 148 = .ok (.iload 5, 2) := by decide +kernel
theorem dX3_merge_150 : decode cX3_merge 150 = .ok (.invokevirtual 87, 3) := by decide +kernel
theorem dX3_merge_153 : decode cX3_merge 153 = .ok (.istore 6, 2) := by decide +kernel
theorem dX3_merge_155 : decode cX3_merge 155 = .ok (.aload_n 0, 1) := by decide +kernel
theorem dX3_merge_156 : decode cX3_merge 156 = .ok (.iload 6, 2) := by decide +kernel
theorem dX3_merge_158 : decode cX3_merge 158 = .ok (.ifCond .eq 7, 3) := by decide +kernel
theorem dX3_merge_161 : decode cX3_merge 161 = .ok (.iload_n 2, 1) := by decide +kernel
theorem dX3_merge_162 : decode cX3_merge 162 = .ok (.goto 4, 3) := by decide +kernel
theorem dX3_merge_165 : decode cX3_merge 165 = .ok (.iload_n 3, 1) := by decide +kernel
theorem dX3_merge_166 : decode cX3_merge 166 = .ok (.bipush 42, 2) := by decide +kernel
theorem dX3_merge_168 : decode cX3_merge 168 = .ok (.iload 5, 2) := by decide +kernel
theorem dX3_merge_170 : decode cX3_merge 170 = .ok (.invokevirtual 83, 3) := by decide +kernel
theorem dX3_merge_173 : decode cX3_merge 173 = .ok (.iconst 0, 1) := by decide +kernel
theorem dX3_merge_174 : decode cX3_merge 174 = .ok (.istore 7, 2) := by decide +kernel
theorem dX3_merge_176 : decode cX3_merge 176 = .ok (.iload 7, 2) := by decide +kernel
theorem dX3_merge_178 : decode cX3_merge 178 = .ok (.iconst 3, 1) := by decide +kernel
theorem dX3_merge_179 : decode cX3_merge 179 = .ok (.if_icmp .ge 37, 3) := by decide +kernel
theorem dX3_merge_182 : decode cX3_merge 182 = .ok (.iload 6, 2) := by decide +kernel
theorem dX3_merge_184 : decode cX3_merge 184 = .ok (.ifCond .eq 32, 3) := by decide +kernel
theorem dX3_merge_187 : decode cX3_merge 187 = .ok (.aload_n 0, 1) := by decide +kernel
theorem dX3_merge_188 : decode cX3_merge 188 = .ok (.iload_n 3, 1) := by decide +kernel
theorem dX3_merge_189 : decode cX3_merge 189 = .ok (.iload 5, 2) := by decide +kernel
theorem dX3_merge_191 : decode cX3_merge 191 = .ok (.invokevirtual 87, 3) := by decide +kernel
theorem dX3_merge_194 : decode cX3_merge 194 = .ok (.ifCond .eq 22, 3) := by decide +kernel
theorem dX3_merge_197 : decode cX3_merge 197 = .ok (.aload_n 0, 1) := by decide +kernel
theorem dX3_merge_198 : decode cX3_merge 198 = .ok (.iload_n 1, 1) := by decide +kernel
theorem dX3_merge_199 : decode cX3_merge 199 = .ok (.iload_n 2, 1) := by decide +kernel
theorem dX3_merge_200 : decode cX3_merge 200 = .ok (.iload_n 3, 1) := by decide +kernel
theorem dX3_merge_201 : decode cX3_merge 201 = .ok (.iload 5, 2) := by decide +kernel
theorem dX3_merge_203 : decode cX3_merge 203 = .ok (.iload 7, 2) := by decide +kernel
theorem dX3_merge_205 : decode cX3_merge 205 = .ok (.iload 4, 2) := by decide +kernel
theorem dX3_merge_207 : decode cX3_merge 207 = .ok (.invokevirtual 153, 3) := by decide +kernel
theorem dX3_merge_210 : decode cX3_merge 210 = .ok (.iinc 7 1, 3) := by decide +kernel
theorem dX3_merge_213 : decode cX3_merge 213 = .ok (.goto (-37), 3) := by decide +kernel
theorem dX3_merge_216 : decode cX3_merge 216 = .ok (.iinc 5 1, 3) := by decide +kernel
theorem dX3_merge_219 : decode cX3_merge 219 = .ok (.goto (-99), 3) := by decide +kernel
theorem dX3_merge_222 : decode cX3_merge 222 = .ok (.aload_n 0, 1) := by decide +kernel
theorem dX3_merge_223 : decode cX3_merge 223 = .ok (.iload_n 1, 1) := by decide +kernel
theorem dX3_merge_224 : decode cX3_merge 224 = .ok (.invokevirtual 157, 3) := by decide +kernel
theorem dX3_merge_227 : decode cX3_merge 227 = .ok (.aload_n 0, 1) := by decide +kernel
theorem dX3_merge_228 : decode cX3_merge 228 = .ok (.getfield 64, 3) := by decide +kernel
theorem dX3_merge_231 : decode cX3_merge 231 = .ok (.iload_n 1, 1) := by decide +kernel
theorem dX3_merge_232 : decode cX3_merge 232 = .ok (.iaload, 1) := by decide +kernel
theorem dX3_merge_233 : decode cX3_merge 233 = .ok (.ifCond .le 11, 3) := by decide +kernel
theorem dX3_merge_236 : decode cX3_merge 236 = .ok (.aload_n 0, 1) := by decide +kernel
theorem dX3_merge_237 : decode cX3_merge 237 = .ok (.getfield 64, 3) := by decide +kernel
theorem dX3_merge_240 : decode cX3_merge 240 = .ok (.iload_n 1, 1) := by decide +kernel
theorem dX3_merge_241 : decode cX3_merge 241 = .ok (.iaload, 1) := by decide +kernel
theorem dX3_merge_242 : decode cX3_merge 242 = .ok (.ineg, 1) := by decide +kernel
theorem dX3_merge_243 : decode cX3_merge 243 = .ok (.ireturn, 1) := by decide +kernel
theorem dX3_merge_244 : decode cX3_merge 244 = .ok (.aload_n 0, 1) := by decide +kernel
theorem dX3_merge_245 : decode cX3_merge 245 = .ok (.bipush 42, 2) := by decide +kernel
theorem dX3_merge_247 : decode cX3_merge 247 = .ok (.iload 4, 2) := by decide +kernel
theorem dX3_merge_249 : decode cX3_merge 249 = .ok (.invokevirtual 102, 3) := by decide +kernel
theorem dX3_merge_252 : decode cX3_merge 252 = .ok (.aload_n 0, 1) := by decide +kernel
theorem dX3_merge_253 : decode cX3_merge 253 = .ok (.dup, 1) := by decide +kernel
theorem dX3_merge_254 : decode cX3_merge 254 = .ok (.getfield 7, 3) := by decide +kernel
theorem dX3_merge_257 : decode cX3_merge 257 = .ok (.iconst 1, 1) := by decide +kernel
theorem dX3_merge_258 : decode cX3_merge 258 = .ok (.iadd, 1) := by decide +kernel
theorem dX3_merge_259 : decode cX3_merge 259 = .ok (.putfield 7, 3) := by decide +kernel
theorem dX3_merge_262 : decode cX3_merge 262 = .ok (.aload_n 0, 1) := by decide +kernel
theorem dX3_merge_263 : decode cX3_merge 263 = .ok (.getfield 13, 3) := by decide +kernel
theorem dX3_merge_266 : decode cX3_merge 266 = .ok (.iload 4, 2) := by decide +kernel
theorem dX3_merge_268 : decode cX3_merge 268 = .ok (.aload_n 0, 1) := by decide +kernel
theorem dX3_merge_269 : decode cX3_merge 269 = .ok (.getfield 13, 3) := by decide +kernel
theorem dX3_merge_272 : decode cX3_merge 272 = .ok (.iload_n 2, 1) := by decide +kernel
theorem dX3_merge_273 : decode cX3_merge 273 = .ok (.laload, 1) := by decide +kernel
theorem dX3_merge_274 : decode cX3_merge 274 = .ok (.aload_n 0, 1) := by decide +kernel
theorem dX3_merge_275 : decode cX3_merge 275 = .ok (.getfield 13, 3) := by decide +kernel
theorem dX3_merge_278 : decode cX3_merge 278 = .ok (.iload_n 3, 1) := by decide +kernel
theorem dX3_merge_279 : decode cX3_merge 279 = .ok (.laload, 1) := by decide +kernel
theorem dX3_merge_280 : decode cX3_merge 280 = .ok (.lor, 1) := by decide +kernel
theorem dX3_merge_281 : decode cX3_merge 281 = .ok (.lconst 1, 1) := by decide +kernel
theorem dX3_merge_282 : decode cX3_merge 282 = .ok (.iload_n 2, 1) := by decide +kernel
theorem dX3_merge_283 : decode cX3_merge 283 = .ok (.lshl, 1) := by decide +kernel
theorem dX3_merge_284 : decode cX3_merge 284 = .ok (.lor, 1) := by decide +kernel
theorem dX3_merge_285 : decode cX3_merge 285 = .ok (.lconst 1, 1) := by decide +kernel
theorem dX3_merge_286 : decode cX3_merge 286 = .ok (.iload_n 3, 1) := by decide +kernel
theorem dX3_merge_287 : decode cX3_merge 287 = .ok (.lshl, 1) := by decide +kernel
theorem dX3_merge_288 : decode cX3_merge 288 = .ok (.lor, 1) := by decide +kernel
theorem dX3_merge_289 : decode cX3_merge 289 = .ok (.lastore, 1) := by decide +kernel
theorem dX3_merge_290 : decode cX3_merge 290 = .ok (.aload_n 0, 1) := by decide +kernel
theorem dX3_merge_291 : decode cX3_merge 291 = .ok (.getfield 46, 3) := by decide +kernel
theorem dX3_merge_294 : decode cX3_merge 294 = .ok (.iload_n 1, 1) := by decide +kernel
theorem dX3_merge_295 : decode cX3_merge 295 = .ok (.dup2, 1) := by decide +kernel
theorem dX3_merge_296 : decode cX3_merge 296 = .ok (.laload, 1) := by decide +kernel
theorem dX3_merge_297 : decode cX3_merge 297 = .ok (.lconst 1, 1) := by decide +kernel
theorem dX3_merge_298 : decode cX3_merge 298 = .ok (.iload 4, 2) := by decide +kernel
theorem dX3_merge_300 : decode cX3_merge 300 = .ok (.lshl, 1) := by decide +kernel
theorem dX3_merge_301 : decode cX3_merge 301 = .ok (.lor, 1) := by decide +kernel
theorem dX3_merge_302 : decode cX3_merge 302 = .ok (.lastore, 1) := by decide +kernel
theorem dX3_merge_303 : decode cX3_merge 303 = .ok (.aload_n 0, 1) := by decide +kernel
theorem dX3_merge_304 : decode cX3_merge 304 = .ok (.getfield 55, 3) := by decide +kernel
theorem dX3_merge_307 : decode cX3_merge 307 = .ok (.iload_n 1, 1) := by decide +kernel
theorem dX3_merge_308 : decode cX3_merge 308 = .ok (.iconst 0, 1) := by decide +kernel
theorem dX3_merge_309 : decode cX3_merge 309 = .ok (.iastore, 1) := by decide +kernel
theorem dX3_merge_310 : decode cX3_merge 310 = .ok (.iconst 0, 1) := by decide +kernel
theorem dX3_merge_311 : decode cX3_merge 311 = .ok (.istore 5, 2) := by decide +kernel
theorem dX3_merge_313 : decode cX3_merge 313 = .ok (.iload 5, 2) := by decide +kernel
theorem dX3_merge_315 : decode cX3_merge 315 = .ok (.bipush 48, 2) := by decide +kernel
theorem dX3_merge_317 : decode cX3_merge 317 = .ok (.if_icmp .ge 22, 3) := by decide +kernel
theorem dX3_merge_320 : decode cX3_merge 320 = .ok (.aload_n 0, 1) := by decide +kernel
theorem dX3_merge_321 : decode cX3_merge 321 = .ok (.getfield 52, 3) := by decide +kernel
theorem dX3_merge_324 : decode cX3_merge 324 = .ok (.bipush 48, 2) := by decide +kernel
theorem dX3_merge_326 : decode cX3_merge 326 = .ok (.iload_n 1, 1) := by decide +kernel
theorem dX3_merge_327 : decode cX3_merge 327 = .ok (.imul, 1) := by decide +kernel
theorem dX3_merge_328 : decode cX3_merge 328 = .ok (.iload 5, 2) := by decide +kernel
theorem dX3_merge_330 : decode cX3_merge 330 = .ok (.iadd, 1) := by decide +kernel
theorem dX3_merge_331 : decode cX3_merge 331 = .ok (.iconst (-1), 1) := by decide +kernel
theorem dX3_merge_332 : decode cX3_merge 332 = .ok (.iastore, 1) := by decide +kernel
theorem dX3_merge_333 : decode cX3_merge 333 = .ok (.iinc 5 1, 3) := by decide +kernel
theorem dX3_merge_336 : decode cX3_merge 336 = .ok (.goto (-23), 3) := by decide +kernel
theorem dX3_merge_339 : decode cX3_merge 339 = .ok (.iload 4, 2) := by decide +kernel
theorem dX3_merge_341 : decode cX3_merge 341 = .ok (.ireturn, 1) := by decide +kernel
theorem dX3_conflict_0 : decode cX3_conflict 0 = .ok (.aload_n 0, 1) := by decide +kernel
theorem dX3_conflict_1 : decode cX3_conflict 1 = .ok (.iconst 0, 1) := by decide +kernel
theorem dX3_conflict_2 : decode cX3_conflict 2 = .ok (.putfield 76, 3) := by decide +kernel
theorem dX3_conflict_5 : decode cX3_conflict 5 = .ok (.iload_n 1, 1) := by decide +kernel
theorem dX3_conflict_6 : decode cX3_conflict 6 = .ok (.invokestatic 95, 3) := by decide +kernel
theorem dX3_conflict_9 : decode cX3_conflict 9 = .ok (.ifCond .ne 9, 3) := by decide +kernel
theorem dX3_conflict_12 : decode cX3_conflict 12 = .ok (.aload_n 0, 1) := by decide +kernel
theorem dX3_conflict_13 : decode cX3_conflict 13 = .ok (.iconst 1, 1) := by decide +kernel
theorem dX3_conflict_14 : decode cX3_conflict 14 = .ok (.invokevirtual 106, 3) := by decide +kernel
theorem dX3_conflict_17 : decode cX3_conflict 17 = .ok (.ireturn, 1) := by decide +kernel
theorem dX3_conflict_18 : decode cX3_conflict 18 = .ok (.iload_n 2, 1) := by decide +kernel
theorem dX3_conflict_19 : decode cX3_conflict 19 = .ok (.iconst 0, 1) := by decide +kernel
theorem dX3_conflict_20 : decode cX3_conflict 20 = .ok (.aload_n 0, 1) := by decide +kernel
theorem dX3_conflict_21 : decode cX3_conflict 21 = .ok (.getfield 64, 3) := by decide +kernel
theorem dX3_conflict_24 : decode cX3_conflict 24 = .ok (.iload_n 1, 1) := by decide +kernel
theorem dX3_conflict_25 : decode cX3_conflict 25 = .ok (.iaload, 1) := by decide +kernel
theorem dX3_conflict_26 : decode cX3_conflict 26 = .ok (.iconst 1, 1) := by decide +kernel
theorem dX3_conflict_27 : decode cX3_conflict 27 = .ok (.isub, 1) := by decide +kernel
theorem dX3_conflict_28 : decode cX3_conflict 28 = .ok (.invokestatic 79, 3) := by decide +kernel
theorem dX3_conflict_31 : decode cX3_conflict 31 = .ok (.ifCond .eq 12, 3) := by decide +kernel
theorem dX3_conflict_34 : decode cX3_conflict 34 = .ok (.iload_n 3, 1) := by decide +kernel
theorem dX3_conflict_35 : decode cX3_conflict 35 = .ok (.iconst 0, 1) := by decide +kernel
theorem dX3_conflict_36 : decode cX3_conflict 36 = .ok (.iconst 1, 1) := by decide +kernel
theorem dX3_conflict_37 : decode cX3_conflict 37 = .ok (.invokestatic 79, 3) := by decide +kernel
theorem dX3_conflict_40 : decode cX3_conflict 40 = .ok (.ifCond .ne 9, 3) := by decide +kernel
theorem dX3_conflict_43 : decode cX3_conflict 43 = .ok (.aload_n 0, 1) := by decide +kernel
theorem dX3_conflict_44 : decode cX3_conflict 44 = .ok (.iconst 2, 1) := by decide +kernel
theorem dX3_conflict_45 : decode cX3_conflict 45 = .ok (.invokevirtual 106, 3) := by decide +kernel
theorem dX3_conflict_48 : decode cX3_conflict 48 = .ok (.ireturn, 1) := by decide +kernel
theorem dX3_conflict_49 : decode cX3_conflict 49 = .ok (.iload_n 3, 1) := by decide +kernel
theorem dX3_conflict_50 : decode cX3_conflict 50 = .ok (.ifCond .ne 17, 3) := by decide +kernel
theorem dX3_conflict_53 : decode cX3_conflict 53 = .ok (.aload_n 0, 1) := by decide +kernel
theorem dX3_conflict_54 : decode cX3_conflict 54 = .ok (.getfield 67, 3) := by decide +kernel
theorem dX3_conflict_57 : decode cX3_conflict 57 = .ok (.bipush 64, 2) := by decide +kernel
theorem dX3_conflict_59 : decode cX3_conflict 59 = .ok (.iload_n 1, 1) := by decide +kernel
theorem dX3_conflict_60 : decode cX3_conflict 60 = .ok (.imul, 1) := by decide +kernel
theorem dX3_conflict_61 : decode cX3_conflict 61 = .ok (.iload_n 2, 1) := by decide +kernel
theorem dX3_conflict_62 : decode cX3_conflict 62 = .ok (.iadd, 1) := by decide +kernel
theorem dX3_conflict_63 : decode cX3_conflict 63 = .ok (.iaload, 1) := by decide +kernel
theorem dX3_conflict_64 : decode cX3_conflict 64 = .ok (.goto 14, 3) := by decide +kernel
theorem dX3_conflict_67 : decode cX3_conflict 67 = .ok (.aload_n 0, 1) := by decide +kernel
theorem dX3_conflict_68 : decode cX3_conflict 68 = .ok (.getfield 70, 3) := by decide +kernel
theorem dX3_conflict_71 : decode cX3_conflict 71 = .ok (.bipush 64, 2) := by decide +kernel
theorem dX3_conflict_73 : decode cX3_conflict 73 = .ok (.iload_n 1, 1) := by decide +kernel
theorem dX3_conflict_74 : decode cX3_conflict 74 = .ok (.imul, 1) := by decide +kernel
theorem dX3_conflict_75 : decode cX3_conflict 75 = .ok (.iload_n 2, 1) := by decide +kernel
theorem dX3_conflict_76 : decode cX3_conflict 76 = .ok (.iadd, 1) := by decide +kernel
theorem dX3_conflict_77 : decode cX3_conflict 77 = .ok (.iaload, 1) := by decide +kernel
theorem dX3_conflict_78 : decode cX3_conflict 78 = .ok (.ireturn, 1) := by decide +kernel
theorem dX3_about_0 : decode cX3_about 0 = .ok (.aload_n 0, 1) := by decide +kernel
theorem dX3_about_1 : decode cX3_about 1 = .ok (.iconst 0, 1) := by decide +kernel
theorem dX3_about_2 : decode cX3_about 2 = .ok (.putfield 76, 3) := by decide +kernel
theorem dX3_about_5 : decode cX3_about 5 = .ok (.iload_n 1, 1) := by decide +kernel
theorem dX3_about_6 : decode cX3_about 6 = .ok (.iconst 0, 1) := by decide +kernel
theorem dX3_about_7 : decode cX3_about 7 = .ok (.aload_n 0, 1) := by decide +kernel
theorem dX3_about_8 : decode cX3_about 8 = .ok (.getfield 7, 3) := by decide +kernel
theorem dX3_about_11 : decode cX3_about 11 = .ok (.iconst 1, 1) := by decide +kernel
theorem dX3_about_12 : decode cX3_about 12 = .ok (.isub, 1) := by decide +kernel
theorem dX3_about_13 : decode cX3_about 13 = .ok (.invokestatic 79, 3) := by decide +kernel
theorem dX3_about_16 : decode cX3_about 16 = .ok (.ifCond .eq 30, 3) := by decide +kernel
theorem dX3_about_19 : decode cX3_about 19 = .ok (.aload_n 0, 1) := by decide +kernel
theorem dX3_about_20 : decode cX3_about 20 = .ok (.iload_n 1, 1) := by decide +kernel
theorem dX3_about_21 : decode cX3_about 21 = .ok (.iconst 0, 1) := by decide +kernel
theorem dX3_about_22 : decode cX3_about 22 = .ok (.aload_n 0, 1) := by decide +kernel
theorem dX3_about_23 : decode cX3_about 23 = .ok (.getfield 7, 3) := by decide +kernel
theorem dX3_about_26 : decode cX3_about 26 = .ok (.iconst 1, 1) := by decide +kernel
theorem dX3_about_27 : decode cX3_about 27 = .ok (.isub, 1) := by decide +kernel
theorem dX3_about_28 : decode cX3_about 28 = .ok (.invokestatic 79, 3) := by decide +kernel
theorem dX3_about_31 : decode cX3_about 31 = .ok (.ifCond .eq 7, 3) := by decide +kernel
theorem dX3_about_34 : decode cX3_about 34 = .ok (.iload_n 1, 1) := by decide +kernel
theorem dX3_about_35 : decode cX3_about 35 = .ok (.goto 4, 3) := by decide +kernel
theorem dX3_about_38 : decode cX3_about 38 = .ok (.iconst 0, 1) := by decide +kernel
theorem dX3_about_39 : decode cX3_about 39 = .ok (.iload_n 2, 1) := by decide +kernel
theorem dX3_about_40 : decode cX3_about 40 = .ok (.invokevirtual 87, 3) := by decide +kernel
theorem dX3_about_43 : decode cX3_about 43 = .ok (.ifCond .ne 9, 3) := by decide +kernel
theorem dX3_about_46 : decode cX3_about 46 = .ok (.aload_n 0, 1) := by decide +kernel
theorem dX3_about_47 : decode cX3_about 47 = .ok (.iconst 1, 1) := by decide +kernel
theorem dX3_about_48 : decode cX3_about 48 = .ok (.invokevirtual 106, 3) := by decide +kernel
theorem dX3_about_51 : decode cX3_about 51 = .ok (.ireturn, 1) := by decide +kernel
theorem dX3_about_52 : decode cX3_about 52 = .ok (.bipush 16, 2) := by decide +kernel
theorem dX3_about_54 : decode cX3_about 54 = .ok (.iload_n 1, 1) := by decide +kernel
theorem dX3_about_55 : decode cX3_about 55 = .ok (.imul, 1) := by decide +kernel
theorem dX3_about_56 : decode cX3_about 56 = .ok (.iload_n 2, 1) := by decide +kernel
theorem dX3_about_57 : decode cX3_about 57 = .ok (.iadd, 1) := by decide +kernel
theorem dX3_about_58 : decode cX3_about 58 = .ok (.istore 4, 2) := by decide +kernel
theorem dX3_about_60 : decode cX3_about 60 = .ok (.iload_n 3, 1) := by decide +kernel
theorem dX3_about_61 : decode cX3_about 61 = .ok (.tableswitch 93 0 5 #[39, 47, 55, 63, 71, 78], 39) := by decide +kernel
theorem dX3_about_100 : decode cX3_about 100 = .ok (.aload_n 0, 1) := by decide +kernel
theorem dX3_about_101 : decode cX3_about 101 = .ok (.getfield 31, 3) := by decide +kernel
theorem dX3_about_104 : decode cX3_about 104 = .ok (.iload 4, 2) := by decide +kernel
theorem dX3_about_106 : decode cX3_about 106 = .ok (.iaload, 1) := by decide +kernel
theorem dX3_about_107 : decode cX3_about 107 = .ok (.ireturn, 1) := by decide +kernel
theorem dX3_about_108 : decode cX3_about 108 = .ok (.aload_n 0, 1) := by decide +kernel
theorem dX3_about_109 : decode cX3_about 109 = .ok (.getfield 34, 3) := by decide +kernel
theorem dX3_about_112 : decode cX3_about 112 = .ok (.iload 4, 2) := by decide +kernel
theorem dX3_about_114 : decode cX3_about 114 = .ok (.iaload, 1) := by decide +kernel
theorem dX3_about_115 : decode cX3_about 115 = .ok (.ireturn, 1) := by decide +kernel
theorem dX3_about_116 : decode cX3_about 116 = .ok (.aload_n 0, 1) := by decide +kernel
theorem dX3_about_117 : decode cX3_about 117 = .ok (.getfield 37, 3) := by decide +kernel
theorem dX3_about_120 : decode cX3_about 120 = .ok (.iload 4, 2) := by decide +kernel
theorem dX3_about_122 : decode cX3_about 122 = .ok (.iaload, 1) := by decide +kernel
theorem dX3_about_123 : decode cX3_about 123 = .ok (.ireturn, 1) := by decide +kernel
theorem dX3_about_124 : decode cX3_about 124 = .ok (.aload_n 0, 1) := by decide +kernel
theorem dX3_about_125 : decode cX3_about 125 = .ok (.getfield 40, 3) := by decide +kernel
theorem dX3_about_128 : decode cX3_about 128 = .ok (.iload 4, 2) := by decide +kernel
theorem dX3_about_130 : decode cX3_about 130 = .ok (.iaload, 1) := by decide +kernel
theorem dX3_about_131 : decode cX3_about 131 = .ok (.ireturn, 1) := by decide +kernel
theorem dX3_about_132 : decode cX3_about 132 = .ok (.aload_n 0, 1) := by decide +kernel
theorem dX3_about_133 : decode cX3_about 133 = .ok (.getfield 24, 3) := by decide +kernel
theorem dX3_about_136 : decode cX3_about 136 = .ok (.iload_n 2, 1) := by decide +kernel
theorem dX3_about_137 : decode cX3_about 137 = .ok (.iaload, 1) := by decide +kernel
theorem dX3_about_138 : decode cX3_about 138 = .ok (.ireturn, 1) := by decide +kernel
theorem dX3_about_139 : decode cX3_about 139 = .ok (.aload_n 0, 1) := by decide +kernel
theorem dX3_about_140 : decode cX3_about 140 = .ok (.getfield 20, 3) := by decide +kernel
theorem dX3_about_143 : decode cX3_about 143 = .ok (.iload_n 2, 1) := by decide +kernel
theorem dX3_about_144 : decode cX3_about 144 = .ok (.baload, 1) := by decide +kernel
theorem dX3_about_145 : decode cX3_about 145 = .ok (.ifCond .eq 7, 3) := by decide +kernel
theorem dX3_about_148 : decode cX3_about 148 = .ok (.iconst 1, 1) := by decide +kernel
theorem dX3_about_149 : decode cX3_about 149 = .ok (.goto 4, 3) := by decide +kernel
theorem dX3_about_152 : decode cX3_about 152 = .ok (.iconst 0, 1) := by decide +kernel
theorem dX3_about_153 : decode cX3_about 153 = .ok (.ireturn, 1) := by decide +kernel
theorem dX3_about_154 : decode cX3_about 154 = .ok (.aload_n 0, 1) := by decide +kernel
theorem dX3_about_155 : decode cX3_about 155 = .ok (.iconst 2, 1) := by decide +kernel
theorem dX3_about_156 : decode cX3_about 156 = .ok (.invokevirtual 106, 3) := by decide +kernel
theorem dX3_about_159 : decode cX3_about 159 = .ok (.ireturn, 1) := by decide +kernel
theorem dX3_marks_0 : decode cX3_marks 0 = .ok (.aload_n 0, 1) := by decide +kernel
theorem dX3_marks_1 : decode cX3_marks 1 = .ok (.iconst 0, 1) := by decide +kernel
theorem dX3_marks_2 : decode cX3_marks 2 = .ok (.putfield 76, 3) := by decide +kernel
theorem dX3_marks_5 : decode cX3_marks 5 = .ok (.iload_n 1, 1) := by decide +kernel
theorem dX3_marks_6 : decode cX3_marks 6 = .ok (.iconst 0, 1) := by decide +kernel
theorem dX3_marks_7 : decode cX3_marks 7 = .ok (.aload_n 0, 1) := by decide +kernel
theorem dX3_marks_8 : decode cX3_marks 8 = .ok (.getfield 7, 3) := by decide +kernel
theorem dX3_marks_11 : decode cX3_marks 11 = .ok (.iconst 1, 1) := by decide +kernel
theorem dX3_marks_12 : decode cX3_marks 12 = .ok (.isub, 1) := by decide +kernel
theorem dX3_marks_13 : decode cX3_marks 13 = .ok (.invokestatic 79, 3) := by decide +kernel
theorem dX3_marks_16 : decode cX3_marks 16 = .ok (.ifCond .eq 30, 3) := by decide +kernel
theorem dX3_marks_19 : decode cX3_marks 19 = .ok (.aload_n 0, 1) := by decide +kernel
theorem dX3_marks_20 : decode cX3_marks 20 = .ok (.iload_n 1, 1) := by decide +kernel
theorem dX3_marks_21 : decode cX3_marks 21 = .ok (.iconst 0, 1) := by decide +kernel
theorem dX3_marks_22 : decode cX3_marks 22 = .ok (.aload_n 0, 1) := by decide +kernel
theorem dX3_marks_23 : decode cX3_marks 23 = .ok (.getfield 7, 3) := by decide +kernel
theorem dX3_marks_26 : decode cX3_marks 26 = .ok (.iconst 1, 1) := by decide +kernel
theorem dX3_marks_27 : decode cX3_marks 27 = .ok (.isub, 1) := by decide +kernel
theorem dX3_marks_28 : decode cX3_marks 28 = .ok (.invokestatic 79, 3) := by decide +kernel
theorem dX3_marks_31 : decode cX3_marks 31 = .ok (.ifCond .eq 7, 3) := by decide +kernel
theorem dX3_marks_34 : decode cX3_marks 34 = .ok (.iload_n 1, 1) := by decide +kernel
theorem dX3_marks_35 : decode cX3_marks 35 = .ok (.goto 4, 3) := by decide +kernel
theorem dX3_marks_38 : decode cX3_marks 38 = .ok (.iconst 0, 1) := by decide +kernel
theorem dX3_marks_39 : decode cX3_marks 39 = .ok (.iload_n 2, 1) := by decide +kernel
theorem dX3_marks_40 : decode cX3_marks 40 = .ok (.invokevirtual 87, 3) := by decide +kernel
theorem dX3_marks_43 : decode cX3_marks 43 = .ok (.ifCond .ne 10, 3) := by decide +kernel
theorem dX3_marks_46 : decode cX3_marks 46 = .ok (.aload_n 0, 1) := by decide +kernel
theorem dX3_marks_47 : decode cX3_marks 47 = .ok (.iconst 1, 1) := by decide +kernel
theorem dX3_marks_48 : decode cX3_marks 48 = .ok (.invokevirtual 106, 3) := by decide +kernel
theorem dX3_marks_51 : decode cX3_marks 51 = .ok (.i2l, 1) := by decide +kernel
theorem dX3_marks_52 : decode cX3_marks 52 = .ok (.lreturn, 1) := by decide +kernel
theorem dX3_marks_53 : decode cX3_marks 53 = .ok (.iload_n 3, 1) := by decide +kernel
theorem dX3_marks_54 : decode cX3_marks 54 = .ok (.iconst 0, 1) := by decide +kernel
theorem dX3_marks_55 : decode cX3_marks 55 = .ok (.iconst 2, 1) := by decide +kernel
theorem dX3_marks_56 : decode cX3_marks 56 = .ok (.invokestatic 79, 3) := by decide +kernel
theorem dX3_marks_59 : decode cX3_marks 59 = .ok (.ifCond .eq 7, 3) := by decide +kernel
theorem dX3_marks_62 : decode cX3_marks 62 = .ok (.iload_n 2, 1) := by decide +kernel
theorem dX3_marks_63 : decode cX3_marks 63 = .ok (.ifCond .ne 10, 3) := by decide +kernel
theorem dX3_marks_66 : decode cX3_marks 66 = .ok (.aload_n 0, 1) := by decide +kernel
theorem dX3_marks_67 : decode cX3_marks 67 = .ok (.iconst 2, 1) := by decide +kernel
theorem dX3_marks_68 : decode cX3_marks 68 = .ok (.invokevirtual 106, 3) := by decide +kernel
theorem dX3_marks_71 : decode cX3_marks 71 = .ok (.i2l, 1) := by decide +kernel
theorem dX3_marks_72 : decode cX3_marks 72 = .ok (.lreturn, 1) := by decide +kernel
theorem dX3_marks_73 : decode cX3_marks 73 = .ok (.aload_n 0, 1) := by decide +kernel
theorem dX3_marks_74 : decode cX3_marks 74 = .ok (.getfield 43, 3) := by decide +kernel
theorem dX3_marks_77 : decode cX3_marks 77 = .ok (.bipush 48, 2) := by decide +kernel
theorem dX3_marks_79 : decode cX3_marks 79 = .ok (.iload_n 1, 1) := by decide +kernel
theorem dX3_marks_80 : decode cX3_marks 80 = .ok (.imul, 1) := by decide +kernel
theorem dX3_marks_81 : decode cX3_marks 81 = .ok (.iconst 3, 1) := by decide +kernel
theorem dX3_marks_82 : decode cX3_marks 82 = .ok (.iload_n 2, 1) := by decide +kernel
theorem dX3_marks_83 : decode cX3_marks 83 = .ok (.imul, 1) := by decide +kernel
theorem dX3_marks_84 : decode cX3_marks 84 = .ok (.iadd, 1) := by decide +kernel
theorem dX3_marks_85 : decode cX3_marks 85 = .ok (.iload_n 3, 1) := by decide +kernel
theorem dX3_marks_86 : decode cX3_marks 86 = .ok (.iadd, 1) := by decide +kernel
theorem dX3_marks_87 : decode cX3_marks 87 = .ok (.laload, 1) := by decide +kernel
theorem dX3_marks_88 : decode cX3_marks 88 = .ok (.lreturn, 1) := by decide +kernel
theorem dX3_nodes_0 : decode cX3_nodes 0 = .ok (.aload_n 0, 1) := by decide +kernel
theorem dX3_nodes_1 : decode cX3_nodes 1 = .ok (.iconst 0, 1) := by decide +kernel
theorem dX3_nodes_2 : decode cX3_nodes 2 = .ok (.putfield 76, 3) := by decide +kernel
theorem dX3_nodes_5 : decode cX3_nodes 5 = .ok (.iload_n 1, 1) := by decide +kernel
theorem dX3_nodes_6 : decode cX3_nodes 6 = .ok (.invokestatic 95, 3) := by decide +kernel
theorem dX3_nodes_9 : decode cX3_nodes 9 = .ok (.ifCond .eq 28, 3) := by decide +kernel
theorem dX3_nodes_12 : decode cX3_nodes 12 = .ok (.iload_n 2, 1) := by decide +kernel
theorem dX3_nodes_13 : decode cX3_nodes 13 = .ok (.iconst (-1), 1) := by decide +kernel
theorem dX3_nodes_14 : decode cX3_nodes 14 = .ok (.if_icmp .eq 30, 3) := by decide +kernel
theorem dX3_nodes_17 : decode cX3_nodes 17 = .ok (.aload_n 0, 1) := by decide +kernel
theorem dX3_nodes_18 : decode cX3_nodes 18 = .ok (.iload_n 1, 1) := by decide +kernel
theorem dX3_nodes_19 : decode cX3_nodes 19 = .ok (.invokestatic 95, 3) := by decide +kernel
theorem dX3_nodes_22 : decode cX3_nodes 22 = .ok (.ifCond .eq 7, 3) := by decide +kernel
theorem dX3_nodes_25 : decode cX3_nodes 25 = .ok (.iload_n 1, 1) := by decide +kernel
theorem dX3_nodes_26 : decode cX3_nodes 26 = .ok (.goto 4, 3) := by decide +kernel
theorem dX3_nodes_29 : decode cX3_nodes 29 = .ok (.iconst 0, 1) := by decide +kernel
theorem dX3_nodes_30 : decode cX3_nodes 30 = .ok (.iload_n 2, 1) := by decide +kernel
theorem dX3_nodes_31 : decode cX3_nodes 31 = .ok (.invokevirtual 99, 3) := by decide +kernel
theorem dX3_nodes_34 : decode cX3_nodes 34 = .ok (.ifCond .ne 10, 3) := by decide +kernel
theorem dX3_nodes_37 : decode cX3_nodes 37 = .ok (.aload_n 0, 1) := by decide +kernel
theorem dX3_nodes_38 : decode cX3_nodes 38 = .ok (.iconst 1, 1) := by decide +kernel
theorem dX3_nodes_39 : decode cX3_nodes 39 = .ok (.invokevirtual 106, 3) := by decide +kernel
theorem dX3_nodes_42 : decode cX3_nodes 42 = .ok (.i2l, 1) := by decide +kernel
theorem dX3_nodes_43 : decode cX3_nodes 43 = .ok (.lreturn, 1) := by decide +kernel
theorem dX3_nodes_44 : decode cX3_nodes 44 = .ok (.iload_n 2, 1) := by decide +kernel
theorem dX3_nodes_45 : decode cX3_nodes 45 = .ok (.ifCond .lt 13, 3) := by decide +kernel
theorem dX3_nodes_48 : decode cX3_nodes 48 = .ok (.aload_n 0, 1) := by decide +kernel
theorem dX3_nodes_49 : decode cX3_nodes 49 = .ok (.getfield 28, 3) := by decide +kernel
theorem dX3_nodes_52 : decode cX3_nodes 52 = .ok (.iload_n 2, 1) := by decide +kernel
theorem dX3_nodes_53 : decode cX3_nodes 53 = .ok (.iaload, 1) := by decide +kernel
theorem dX3_nodes_54 : decode cX3_nodes 54 = .ok (.i2l, 1) := by decide +kernel
theorem dX3_nodes_55 : decode cX3_nodes 55 = .ok (.goto 26, 3) := by decide +kernel
theorem dX3_nodes_58 : decode cX3_nodes 58 = .ok (.aload_n 0, 1) := by decide +kernel
theorem dX3_nodes_59 : decode cX3_nodes 59 = .ok (.getfield 49, 3) := by decide +kernel
theorem dX3_nodes_62 : decode cX3_nodes 62 = .ok (.iload_n 1, 1) := by decide +kernel
theorem dX3_nodes_63 : decode cX3_nodes 63 = .ok (.iaload, 1) := by decide +kernel
theorem dX3_nodes_64 : decode cX3_nodes 64 = .ok (.ifCond .ge 7, 3) := by decide +kernel
theorem dX3_nodes_67 : decode cX3_nodes 67 = .ok (.lconst 0, 1) := by decide +kernel
theorem dX3_nodes_68 : decode cX3_nodes 68 = .ok (.goto 13, 3) := by decide +kernel
theorem dX3_nodes_71 : decode cX3_nodes 71 = .ok (.aload_n 0, 1) := by decide +kernel
theorem dX3_nodes_72 : decode cX3_nodes 72 = .ok (.getfield 28, 3) := by decide +kernel
theorem dX3_nodes_75 : decode cX3_nodes 75 = .ok (.bipush 40, 2) := by decide +kernel
theorem dX3_nodes_77 : decode cX3_nodes 77 = .ok (.iload_n 1, 1) := by decide +kernel
theorem dX3_nodes_78 : decode cX3_nodes 78 = .ok (.iadd, 1) := by decide +kernel
theorem dX3_nodes_79 : decode cX3_nodes 79 = .ok (.iaload, 1) := by decide +kernel
theorem dX3_nodes_80 : decode cX3_nodes 80 = .ok (.i2l, 1) := by decide +kernel
theorem dX3_nodes_81 : decode cX3_nodes 81 = .ok (.lreturn, 1) := by decide +kernel
theorem dX3_ancestors_0 : decode cX3_ancestors 0 = .ok (.aload_n 0, 1) := by decide +kernel
theorem dX3_ancestors_1 : decode cX3_ancestors 1 = .ok (.iconst 0, 1) := by decide +kernel
theorem dX3_ancestors_2 : decode cX3_ancestors 2 = .ok (.putfield 76, 3) := by decide +kernel
theorem dX3_ancestors_5 : decode cX3_ancestors 5 = .ok (.iload_n 1, 1) := by decide +kernel
theorem dX3_ancestors_6 : decode cX3_ancestors 6 = .ok (.iconst 0, 1) := by decide +kernel
theorem dX3_ancestors_7 : decode cX3_ancestors 7 = .ok (.aload_n 0, 1) := by decide +kernel
theorem dX3_ancestors_8 : decode cX3_ancestors 8 = .ok (.getfield 7, 3) := by decide +kernel
theorem dX3_ancestors_11 : decode cX3_ancestors 11 = .ok (.iconst 1, 1) := by decide +kernel
theorem dX3_ancestors_12 : decode cX3_ancestors 12 = .ok (.isub, 1) := by decide +kernel
theorem dX3_ancestors_13 : decode cX3_ancestors 13 = .ok (.invokestatic 79, 3) := by decide +kernel
theorem dX3_ancestors_16 : decode cX3_ancestors 16 = .ok (.ifCond .eq 12, 3) := by decide +kernel
theorem dX3_ancestors_19 : decode cX3_ancestors 19 = .ok (.aload_n 0, 1) := by decide +kernel
theorem dX3_ancestors_20 : decode cX3_ancestors 20 = .ok (.getfield 13, 3) := by decide +kernel
theorem dX3_ancestors_23 : decode cX3_ancestors 23 = .ok (.iload_n 1, 1) := by decide +kernel
theorem dX3_ancestors_24 : decode cX3_ancestors 24 = .ok (.laload, 1) := by decide +kernel
theorem dX3_ancestors_25 : decode cX3_ancestors 25 = .ok (.goto 9, 3) := by decide +kernel
theorem dX3_ancestors_28 : decode cX3_ancestors 28 = .ok (.aload_n 0, 1) := by decide +kernel
theorem dX3_ancestors_29 : decode cX3_ancestors 29 = .ok (.iconst 1, 1) := by decide +kernel
theorem dX3_ancestors_30 : decode cX3_ancestors 30 = .ok (.invokevirtual 106, 3) := by decide +kernel
theorem dX3_ancestors_33 : decode cX3_ancestors 33 = .ok (.i2l, 1) := by decide +kernel
theorem dX3_ancestors_34 : decode cX3_ancestors 34 = .ok (.lreturn, 1) := by decide +kernel
theorem dX3_certify_0 : decode cX3_certify 0 = .ok (.aload_n 0, 1) := by decide +kernel
theorem dX3_certify_1 : decode cX3_certify 1 = .ok (.iconst 0, 1) := by decide +kernel
theorem dX3_certify_2 : decode cX3_certify 2 = .ok (.putfield 76, 3) := by decide +kernel
theorem dX3_certify_5 : decode cX3_certify 5 = .ok (.iload_n 1, 1) := by decide +kernel
theorem dX3_certify_6 : decode cX3_certify 6 = .ok (.invokestatic 95, 3) := by decide +kernel
theorem dX3_certify_9 : decode cX3_certify 9 = .ok (.ifCond .eq 42, 3) := by decide +kernel
theorem dX3_certify_12 : decode cX3_certify 12 = .ok (.aload_n 0, 1) := by decide +kernel
theorem dX3_certify_13 : decode cX3_certify 13 = .ok (.iload_n 1, 1) := by decide +kernel
theorem dX3_certify_14 : decode cX3_certify 14 = .ok (.invokestatic 95, 3) := by decide +kernel
theorem dX3_certify_17 : decode cX3_certify 17 = .ok (.ifCond .eq 7, 3) := by decide +kernel
theorem dX3_certify_20 : decode cX3_certify 20 = .ok (.iload_n 1, 1) := by decide +kernel
theorem dX3_certify_21 : decode cX3_certify 21 = .ok (.goto 4, 3) := by decide +kernel
theorem dX3_certify_24 : decode cX3_certify 24 = .ok (.iconst 0, 1) := by decide +kernel
theorem dX3_certify_25 : decode cX3_certify 25 = .ok (.iload_n 2, 1) := by decide +kernel
theorem dX3_certify_26 : decode cX3_certify 26 = .ok (.invokevirtual 99, 3) := by decide +kernel
theorem dX3_certify_29 : decode cX3_certify 29 = .ok (.ifCond .eq 22, 3) := by decide +kernel
theorem dX3_certify_32 : decode cX3_certify 32 = .ok (.iload_n 3, 1) := by decide +kernel
theorem dX3_certify_33 : decode cX3_certify 33 = .ok (.iconst 0, 1) := by decide +kernel
theorem dX3_certify_34 : decode cX3_certify 34 = .ok (.iconst 3, 1) := by decide +kernel
theorem dX3_certify_35 : decode cX3_certify 35 = .ok (.invokestatic 79, 3) := by decide +kernel
theorem dX3_certify_38 : decode cX3_certify 38 = .ok (.ifCond .eq 13, 3) := by decide +kernel
theorem dX3_certify_41 : decode cX3_certify 41 = .ok (.iload 4, 2) := by decide +kernel
theorem dX3_certify_43 : decode cX3_certify 43 = .ok (.iconst 0, 1) := by decide +kernel
theorem dX3_certify_44 : decode cX3_certify 44 = .ok (.iconst 2, 1) := by decide +kernel
theorem dX3_certify_45 : decode cX3_certify 45 = .ok (.invokestatic 79, 3) := by decide +kernel
theorem dX3_certify_48 : decode cX3_certify 48 = .ok (.ifCond .ne 10, 3) := by decide +kernel
theorem dX3_certify_51 : decode cX3_certify 51 = .ok (.aload_n 0, 1) := by decide +kernel
theorem dX3_certify_52 : decode cX3_certify 52 = .ok (.iconst 1, 1) := by decide +kernel
theorem dX3_certify_53 : decode cX3_certify 53 = .ok (.putfield 76, 3) := by decide +kernel
theorem dX3_certify_56 : decode cX3_certify 56 = .ok (.iconst 0, 1) := by decide +kernel
theorem dX3_certify_57 : decode cX3_certify 57 = .ok (.ireturn, 1) := by decide +kernel
theorem dX3_certify_58 : decode cX3_certify 58 = .ok (.bipush 12, 2) := by decide +kernel
theorem dX3_certify_60 : decode cX3_certify 60 = .ok (.iload_n 1, 1) := by decide +kernel
theorem dX3_certify_61 : decode cX3_certify 61 = .ok (.imul, 1) := by decide +kernel
theorem dX3_certify_62 : decode cX3_certify 62 = .ok (.iconst 3, 1) := by decide +kernel
theorem dX3_certify_63 : decode cX3_certify 63 = .ok (.iload_n 3, 1) := by decide +kernel
theorem dX3_certify_64 : decode cX3_certify 64 = .ok (.imul, 1) := by decide +kernel
theorem dX3_certify_65 : decode cX3_certify 65 = .ok (.iadd, 1) := by decide +kernel
theorem dX3_certify_66 : decode cX3_certify 66 = .ok (.iload 4, 2) := by decide +kernel
theorem dX3_certify_68 : decode cX3_certify 68 = .ok (.iadd, 1) := by decide +kernel
theorem dX3_certify_69 : decode cX3_certify 69 = .ok (.istore 5, 2) := by decide +kernel
theorem dX3_certify_71 : decode cX3_certify 71 = .ok (.aload_n 0, 1) := by decide +kernel
theorem dX3_certify_72 : decode cX3_certify 72 = .ok (.getfield 58, 3) := by decide +kernel
theorem dX3_certify_75 : decode cX3_certify 75 = .ok (.iload 5, 2) := by decide +kernel
theorem dX3_certify_77 : decode cX3_certify 77 = .ok (.laload, 1) := by decide +kernel
theorem dX3_certify_78 : decode cX3_certify 78 = .ok (.iload_n 2, 1) := by decide +kernel
theorem dX3_certify_79 : decode cX3_certify 79 = .ok (.lshr, 1) := by decide +kernel
theorem dX3_certify_80 : decode cX3_certify 80 = .ok (.lconst 1, 1) := by decide +kernel
theorem dX3_certify_81 : decode cX3_certify 81 = .ok (.land, 1) := by decide +kernel
theorem dX3_certify_82 : decode cX3_certify 82 = .ok (.lconst 1, 1) := by decide +kernel
theorem dX3_certify_83 : decode cX3_certify 83 = .ok (.lcmp, 1) := by decide +kernel
theorem dX3_certify_84 : decode cX3_certify 84 = .ok (.ifCond .ne 7, 3) := by decide +kernel
theorem dX3_certify_87 : decode cX3_certify 87 = .ok (.iconst 1, 1) := by decide +kernel
theorem dX3_certify_88 : decode cX3_certify 88 = .ok (.goto 4, 3) := by decide +kernel
theorem dX3_certify_91 : decode cX3_certify 91 = .ok (.iconst 0, 1) := by decide +kernel
theorem dX3_certify_92 : decode cX3_certify 92 = .ok (.istore 6, 2) := by decide +kernel
theorem dX3_certify_94 : decode cX3_certify 94 = .ok (.aload_n 0, 1) := by decide +kernel
theorem dX3_certify_95 : decode cX3_certify 95 = .ok (.getfield 58, 3) := by decide +kernel
theorem dX3_certify_98 : decode cX3_certify 98 = .ok (.iload 5, 2) := by decide +kernel
theorem dX3_certify_100 : decode cX3_certify 100 = .ok (.dup2, 1) := by decide +kernel
theorem dX3_certify_101 : decode cX3_certify 101 = .ok (.laload, 1) := by decide +kernel
theorem dX3_certify_102 : decode cX3_certify 102 = .ok (.lconst 1, 1) := by decide +kernel
theorem dX3_certify_103 : decode cX3_certify 103 = .ok (.iload_n 2, 1) := by decide +kernel
theorem dX3_certify_104 : decode cX3_certify 104 = .ok (.lshl, 1) := by decide +kernel
theorem dX3_certify_105 : decode cX3_certify 105 = .ok (.lor, 1) := by decide +kernel
theorem dX3_certify_106 : decode cX3_certify 106 = .ok (.lastore, 1) := by decide +kernel
theorem dX3_certify_107 : decode cX3_certify 107 = .ok (.iload 6, 2) := by decide +kernel
theorem dX3_certify_109 : decode cX3_certify 109 = .ok (.ifCond .ne 7, 3) := by decide +kernel
theorem dX3_certify_112 : decode cX3_certify 112 = .ok (.iconst 1, 1) := by decide +kernel
theorem dX3_certify_113 : decode cX3_certify 113 = .ok (.goto 4, 3) := by decide +kernel
theorem dX3_certify_116 : decode cX3_certify 116 = .ok (.iconst 0, 1) := by decide +kernel
theorem dX3_certify_117 : decode cX3_certify 117 = .ok (.ireturn, 1) := by decide +kernel
theorem dX3_trust_0 : decode cX3_trust 0 = .ok (.aload_n 0, 1) := by decide +kernel
theorem dX3_trust_1 : decode cX3_trust 1 = .ok (.iconst 0, 1) := by decide +kernel
theorem dX3_trust_2 : decode cX3_trust 2 = .ok (.putfield 76, 3) := by decide +kernel
theorem dX3_trust_5 : decode cX3_trust 5 = .ok (.iload_n 1, 1) := by decide +kernel
theorem dX3_trust_6 : decode cX3_trust 6 = .ok (.invokestatic 95, 3) := by decide +kernel
theorem dX3_trust_9 : decode cX3_trust 9 = .ok (.ifCond .eq 12, 3) := by decide +kernel
theorem dX3_trust_12 : decode cX3_trust 12 = .ok (.iload_n 2, 1) := by decide +kernel
theorem dX3_trust_13 : decode cX3_trust 13 = .ok (.iconst 0, 1) := by decide +kernel
theorem dX3_trust_14 : decode cX3_trust 14 = .ok (.iconst 3, 1) := by decide +kernel
theorem dX3_trust_15 : decode cX3_trust 15 = .ok (.invokestatic 79, 3) := by decide +kernel
theorem dX3_trust_18 : decode cX3_trust 18 = .ok (.ifCond .ne 10, 3) := by decide +kernel
theorem dX3_trust_21 : decode cX3_trust 21 = .ok (.aload_n 0, 1) := by decide +kernel
theorem dX3_trust_22 : decode cX3_trust 22 = .ok (.iconst 1, 1) := by decide +kernel
theorem dX3_trust_23 : decode cX3_trust 23 = .ok (.putfield 76, 3) := by decide +kernel
theorem dX3_trust_26 : decode cX3_trust 26 = .ok (.iconst 0, 1) := by decide +kernel
theorem dX3_trust_27 : decode cX3_trust 27 = .ok (.ireturn, 1) := by decide +kernel
theorem dX3_trust_28 : decode cX3_trust 28 = .ok (.aload_n 0, 1) := by decide +kernel
theorem dX3_trust_29 : decode cX3_trust 29 = .ok (.getfield 61, 3) := by decide +kernel
theorem dX3_trust_32 : decode cX3_trust 32 = .ok (.iload_n 1, 1) := by decide +kernel
theorem dX3_trust_33 : decode cX3_trust 33 = .ok (.iaload, 1) := by decide +kernel
theorem dX3_trust_34 : decode cX3_trust 34 = .ok (.iload_n 2, 1) := by decide +kernel
theorem dX3_trust_35 : decode cX3_trust 35 = .ok (.ishr, 1) := by decide +kernel
theorem dX3_trust_36 : decode cX3_trust 36 = .ok (.iconst 1, 1) := by decide +kernel
theorem dX3_trust_37 : decode cX3_trust 37 = .ok (.iand, 1) := by decide +kernel
theorem dX3_trust_38 : decode cX3_trust 38 = .ok (.iconst 1, 1) := by decide +kernel
theorem dX3_trust_39 : decode cX3_trust 39 = .ok (.if_icmp .ne 7, 3) := by decide +kernel
theorem dX3_trust_42 : decode cX3_trust 42 = .ok (.iconst 1, 1) := by decide +kernel
theorem dX3_trust_43 : decode cX3_trust 43 = .ok (.goto 4, 3) := by decide +kernel
theorem dX3_trust_46 : decode cX3_trust 46 = .ok (.iconst 0, 1) := by decide +kernel
theorem dX3_trust_47 : decode cX3_trust 47 = .ok (.istore 4, 2) := by decide +kernel
theorem dX3_trust_49 : decode cX3_trust 49 = .ok (.iconst 1, 1) := by decide +kernel
theorem dX3_trust_50 : decode cX3_trust 50 = .ok (.iload_n 2, 1) := by decide +kernel
theorem dX3_trust_51 : decode cX3_trust 51 = .ok (.ishl, 1) := by decide +kernel
theorem dX3_trust_52 : decode cX3_trust 52 = .ok (.istore 5, 2) := by decide +kernel
theorem dX3_trust_54 : decode cX3_trust 54 = .ok (.aload_n 0, 1) := by decide +kernel
theorem dX3_trust_55 : decode cX3_trust 55 = .ok (.getfield 61, 3) := by decide +kernel
theorem dX3_trust_58 : decode cX3_trust 58 = .ok (.iload_n 1, 1) := by decide +kernel
theorem dX3_trust_59 : decode cX3_trust 59 = .ok (.iload_n 3, 1) := by decide +kernel
theorem dX3_trust_60 : decode cX3_trust 60 = .ok (.ifCond .eq 15, 3) := by decide +kernel
theorem dX3_trust_63 : decode cX3_trust 63 = .ok (.aload_n 0, 1) := by decide +kernel
theorem dX3_trust_64 : decode cX3_trust 64 = .ok (.getfield 61, 3) := by decide +kernel
theorem dX3_trust_67 : decode cX3_trust 67 = .ok (.iload_n 1, 1) := by decide +kernel
theorem dX3_trust_68 : decode cX3_trust 68 = .ok (.iaload, 1) := by decide +kernel
theorem dX3_trust_69 : decode cX3_trust 69 = .ok (.iload 5, 2) := by decide +kernel
theorem dX3_trust_71 : decode cX3_trust 71 = .ok (.ior, 1) := by decide +kernel
theorem dX3_trust_72 : decode cX3_trust 72 = .ok (.goto 14, 3) := by decide +kernel
theorem dX3_trust_75 : decode cX3_trust 75 = .ok (.aload_n 0, 1) := by decide +kernel
theorem dX3_trust_76 : decode cX3_trust 76 = .ok (.getfield 61, 3) := by decide +kernel
theorem dX3_trust_79 : decode cX3_trust 79 = .ok (.iload_n 1, 1) := by decide +kernel
theorem dX3_trust_80 : decode cX3_trust 80 = .ok (.iaload, 1) := by decide +kernel
theorem dX3_trust_81 : decode cX3_trust 81 = .ok (.iload 5, 2) := by decide +kernel
theorem dX3_trust_83 : decode cX3_trust 83 = .ok (.iconst (-1), 1) := by decide +kernel
theorem dX3_trust_84 : decode cX3_trust 84 = .ok (.ixor, 1) := by decide +kernel
theorem dX3_trust_85 : decode cX3_trust 85 = .ok (.iand, 1) := by decide +kernel
theorem dX3_trust_86 : decode cX3_trust 86 = .ok (.iastore, 1) := by decide +kernel
theorem dX3_trust_87 : decode cX3_trust 87 = .ok (.iload 4, 2) := by decide +kernel
theorem dX3_trust_89 : decode cX3_trust 89 = .ok (.ireturn, 1) := by decide +kernel
theorem dX3_members_0 : decode cX3_members 0 = .ok (.lconst 0, 1) := by decide +kernel
theorem dX3_members_1 : decode cX3_members 1 = .ok (.lstore_n 3, 1) := by decide +kernel
theorem dX3_members_2 : decode cX3_members 2 = .ok (.iconst 0, 1) := by decide +kernel
theorem dX3_members_3 : decode cX3_members 3 = .ok (.istore 5, 2) := by decide +kernel
theorem dX3_members_5 : decode cX3_members 5 = .ok (.iload 5, 2) := by decide +kernel
theorem dX3_members_7 : decode cX3_members 7 = .ok (.iconst 4, 1) := by decide +kernel
theorem dX3_members_8 : decode cX3_members 8 = .ok (.if_icmp .ge 47, 3) := by decide +kernel
theorem dX3_members_11 : decode cX3_members 11 = .ok (.lload_n 3, 1) := by decide +kernel
theorem dX3_members_12 : decode cX3_members 12 = .ok (.aload_n 0, 1) := by decide +kernel
theorem dX3_members_13 : decode cX3_members 13 = .ok (.getfield 61, 3) := by decide +kernel
theorem dX3_members_16 : decode cX3_members 16 = .ok (.iload_n 1, 1) := by decide +kernel
theorem dX3_members_17 : decode cX3_members 17 = .ok (.iaload, 1) := by decide +kernel
theorem dX3_members_18 : decode cX3_members 18 = .ok (.iload 5, 2) := by decide +kernel
theorem dX3_members_20 : decode cX3_members 20 = .ok (.ishr, 1) := by decide +kernel
theorem dX3_members_21 : decode cX3_members 21 = .ok (.iconst 1, 1) := by decide +kernel
theorem dX3_members_22 : decode cX3_members 22 = .ok (.iand, 1) := by decide +kernel
theorem dX3_members_23 : decode cX3_members 23 = .ok (.iconst 1, 1) := by decide +kernel
theorem dX3_members_24 : decode cX3_members 24 = .ok (.if_icmp .ne 22, 3) := by decide +kernel
theorem dX3_members_27 : decode cX3_members 27 = .ok (.aload_n 0, 1) := by decide +kernel
theorem dX3_members_28 : decode cX3_members 28 = .ok (.getfield 58, 3) := by decide +kernel
theorem dX3_members_31 : decode cX3_members 31 = .ok (.bipush 12, 2) := by decide +kernel
theorem dX3_members_33 : decode cX3_members 33 = .ok (.iload_n 1, 1) := by decide +kernel
theorem dX3_members_34 : decode cX3_members 34 = .ok (.imul, 1) := by decide +kernel
theorem dX3_members_35 : decode cX3_members 35 = .ok (.iconst 3, 1) := by decide +kernel
theorem dX3_members_36 : decode cX3_members 36 = .ok (.iload 5, 2) := by decide +kernel
theorem dX3_members_38 : decode cX3_members 38 = .ok (.imul, 1) := by decide +kernel
theorem dX3_members_39 : decode cX3_members 39 = .ok (.iadd, 1) := by decide +kernel
theorem dX3_members_40 : decode cX3_members 40 = .ok (.iload_n 2, 1) := by decide +kernel
theorem dX3_members_41 : decode cX3_members 41 = .ok (.iadd, 1) := by decide +kernel
theorem dX3_members_42 : decode cX3_members 42 = .ok (.laload, 1) := by decide +kernel
theorem dX3_members_43 : decode cX3_members 43 = .ok (.goto 4, 3) := by decide +kernel
theorem dX3_members_46 : decode cX3_members 46 = .ok (.lconst 0, 1) := by decide +kernel
theorem dX3_members_47 : decode cX3_members 47 = .ok (.lor, 1) := by decide +kernel
theorem dX3_members_48 : decode cX3_members 48 = .ok (.lstore_n 3, 1) := by decide +kernel
theorem dX3_members_49 : decode cX3_members 49 = .ok (.iinc 5 1, 3) := by decide +kernel
theorem dX3_members_52 : decode cX3_members 52 = .ok (.goto (-47), 3) := by decide +kernel
theorem dX3_members_55 : decode cX3_members 55 = .ok (.lload_n 3, 1) := by decide +kernel
theorem dX3_members_56 : decode cX3_members 56 = .ok (.lreturn, 1) := by decide +kernel
theorem dX3_heads_0 : decode cX3_heads 0 = .ok (.aload_n 0, 1) := by decide +kernel
theorem dX3_heads_1 : decode cX3_heads 1 = .ok (.iconst 0, 1) := by decide +kernel
theorem dX3_heads_2 : decode cX3_heads 2 = .ok (.putfield 76, 3) := by decide +kernel
theorem dX3_heads_5 : decode cX3_heads 5 = .ok (.iload_n 1, 1) := by decide +kernel
theorem dX3_heads_6 : decode cX3_heads 6 = .ok (.invokestatic 95, 3) := by decide +kernel
theorem dX3_heads_9 : decode cX3_heads 9 = .ok (.ifCond .eq 12, 3) := by decide +kernel
theorem dX3_heads_12 : decode cX3_heads 12 = .ok (.iload_n 2, 1) := by decide +kernel
theorem dX3_heads_13 : decode cX3_heads 13 = .ok (.iconst 0, 1) := by decide +kernel
theorem dX3_heads_14 : decode cX3_heads 14 = .ok (.iconst 2, 1) := by decide +kernel
theorem dX3_heads_15 : decode cX3_heads 15 = .ok (.invokestatic 79, 3) := by decide +kernel
theorem dX3_heads_18 : decode cX3_heads 18 = .ok (.ifCond .ne 10, 3) := by decide +kernel
theorem dX3_heads_21 : decode cX3_heads 21 = .ok (.aload_n 0, 1) := by decide +kernel
theorem dX3_heads_22 : decode cX3_heads 22 = .ok (.iconst 1, 1) := by decide +kernel
theorem dX3_heads_23 : decode cX3_heads 23 = .ok (.invokevirtual 106, 3) := by decide +kernel
theorem dX3_heads_26 : decode cX3_heads 26 = .ok (.i2l, 1) := by decide +kernel
theorem dX3_heads_27 : decode cX3_heads 27 = .ok (.lreturn, 1) := by decide +kernel
theorem dX3_heads_28 : decode cX3_heads 28 = .ok (.aload_n 0, 1) := by decide +kernel
theorem dX3_heads_29 : decode cX3_heads 29 = .ok (.iload_n 1, 1) := by decide +kernel
theorem dX3_heads_30 : decode cX3_heads 30 = .ok (.iload_n 2, 1) := by decide +kernel
theorem dX3_heads_31 : decode cX3_heads 31 = .ok (.invokevirtual 161, 3) := by decide +kernel
theorem dX3_heads_34 : decode cX3_heads 34 = .ok (.lstore_n 3, 1) := by decide +kernel
theorem dX3_heads_35 : decode cX3_heads 35 = .ok (.aload_n 0, 1) := by decide +kernel
theorem dX3_heads_36 : decode cX3_heads 36 = .ok (.lload_n 3, 1) := by decide +kernel
theorem dX3_heads_37 : decode cX3_heads 37 = .ok (.invokevirtual 129, 3) := by decide +kernel
theorem dX3_heads_40 : decode cX3_heads 40 = .ok (.lreturn, 1) := by decide +kernel
theorem dX3_closed_0 : decode cX3_closed 0 = .ok (.lload_n 1, 1) := by decide +kernel
theorem dX3_closed_1 : decode cX3_closed 1 = .ok (.lstore_n 3, 1) := by decide +kernel
theorem dX3_closed_2 : decode cX3_closed 2 = .ok (.iconst 0, 1) := by decide +kernel
theorem dX3_closed_3 : decode cX3_closed 3 = .ok (.istore 5, 2) := by decide +kernel
theorem dX3_closed_5 : decode cX3_closed 5 = .ok (.iload 5, 2) := by decide +kernel
theorem dX3_closed_7 : decode cX3_closed 7 = .ok (.bipush 40, 2) := by decide +kernel
theorem dX3_closed_9 : decode cX3_closed 9 = .ok (.if_icmp .ge 34, 3) := by decide +kernel
theorem dX3_closed_12 : decode cX3_closed 12 = .ok (.lload_n 3, 1) := by decide +kernel
theorem dX3_closed_13 : decode cX3_closed 13 = .ok (.lload_n 1, 1) := by decide +kernel
theorem dX3_closed_14 : decode cX3_closed 14 = .ok (.iload 5, 2) := by decide +kernel
theorem dX3_closed_16 : decode cX3_closed 16 = .ok (.lshr, 1) := by decide +kernel
theorem dX3_closed_17 : decode cX3_closed 17 = .ok (.lconst 1, 1) := by decide +kernel
theorem dX3_closed_18 : decode cX3_closed 18 = .ok (.land, 1) := by decide +kernel
theorem dX3_closed_19 : decode cX3_closed 19 = .ok (.lconst 1, 1) := by decide +kernel
theorem dX3_closed_20 : decode cX3_closed 20 = .ok (.lcmp, 1) := by decide +kernel
theorem dX3_closed_21 : decode cX3_closed 21 = .ok (.ifCond .ne 13, 3) := by decide +kernel
theorem dX3_closed_24 : decode cX3_closed 24 = .ok (.aload_n 0, 1) := by decide +kernel
theorem dX3_closed_25 : decode cX3_closed 25 = .ok (.getfield 13, 3) := by decide +kernel
theorem dX3_closed_28 : decode cX3_closed 28 = .ok (.iload 5, 2) := by decide +kernel
theorem dX3_closed_30 : decode cX3_closed 30 = .ok (.laload, 1) := by decide +kernel
theorem dX3_closed_31 : decode cX3_closed 31 = .ok (.goto 4, 3) := by decide +kernel
theorem dX3_closed_34 : decode cX3_closed 34 = .ok (.lconst 0, 1) := by decide +kernel
