theorem dX3_commit_21 : decode cX3_commit 21 = .ok (.iadd, 1) := by decide +kernel
theorem dX3_commit_22 : decode cX3_commit 22 = .ok (.istore_n 2, 1) := by decide +kernel
theorem dX3_commit_23 : decode cX3_commit 23 = .ok (.aload_n 0, 1) := by decide +kernel
theorem dX3_commit_24 : decode cX3_commit 24 = .ok (.getfield 49, 3) := by decide +kernel
theorem dX3_commit_27 : decode cX3_commit 27 = .ok (.iload_n 1, 1) := by decide +kernel
theorem dX3_commit_28 : decode cX3_commit 28 = .ok (.iaload, 1) := by decide +kernel
theorem dX3_commit_29 : decode cX3_commit 29 = .ok (.istore_n 3, 1) := by decide +kernel
theorem dX3_commit_30 : decode cX3_commit 30 = .ok (.iload_n 3, 1) := by decide +kernel
theorem dX3_commit_31 : decode cX3_commit 31 = .ok (.ifCond .lt 29, 3) := by decide +kernel
theorem dX3_commit_34 : decode cX3_commit 34 = .ok (.aload_n 0, 1) := by decide +kernel
theorem dX3_commit_35 : decode cX3_commit 35 = .ok (.iload_n 2, 1) := by decide +kernel
theorem dX3_commit_36 : decode cX3_commit 36 = .ok (.iload_n 3, 1) := by decide +kernel
theorem dX3_commit_37 : decode cX3_commit 37 = .ok (.ifCond .ge 7, 3) := by decide +kernel
theorem dX3_commit_40 : decode cX3_commit 40 = .ok (.iconst 0, 1) := by decide +kernel
theorem dX3_commit_41 : decode cX3_commit 41 = .ok (.goto 4, 3) := by decide +kernel
theorem dX3_commit_44 : decode cX3_commit 44 = .ok (.iload_n 3, 1) := by decide +kernel
theorem dX3_commit_45 : decode cX3_commit 45 = .ok (.invokevirtual 117, 3) := by decide +kernel
theorem dX3_commit_48 : decode cX3_commit 48 = .ok (.ifCond .ne 12, 3) := by decide +kernel
theorem dX3_commit_51 : decode cX3_commit 51 = .ok (.aload_n 0, 1) := by decide +kernel
theorem dX3_commit_52 : decode cX3_commit 52 = .ok (.getfield 7, 3) := by decide +kernel
theorem dX3_commit_55 : decode cX3_commit 55 = .ok (.bipush 40, 2) := by decide +kernel
theorem dX3_commit_57 : decode cX3_commit 57 = .ok (.if_icmp .ne 9, 3) := by decide +kernel
theorem dX3_commit_60 : decode cX3_commit 60 = .ok (.aload_n 0, 1) := by decide +kernel
theorem dX3_commit_61 : decode cX3_commit 61 = .ok (.iconst 2, 1) := by decide +kernel
theorem dX3_commit_62 : decode cX3_commit 62 = .ok (.invokevirtual 106, 3) := by decide +kernel
theorem dX3_commit_65 : decode cX3_commit 65 = .ok (.ireturn, 1) := by decide +kernel
theorem dX3_commit_66 : decode cX3_commit 66 = .ok (.aload_n 0, 1) := by decide +kernel
theorem dX3_commit_67 : decode cX3_commit 67 = .ok (.getfield 7, 3) := by decide +kernel
theorem dX3_commit_70 : decode cX3_commit 70 = .ok (.istore 4, 2) := by decide +kernel
theorem dX3_commit_72 : decode cX3_commit 72 = .ok (.aload_n 0, 1) := by decide +kernel
theorem dX3_commit_73 : decode cX3_commit 73 = .ok (.dup, 1) := by decide +kernel
theorem dX3_commit_74 : decode cX3_commit 74 = .ok (.getfield 7, 3) := by decide +kernel
theorem dX3_commit_77 : decode cX3_commit 77 = .ok (.iconst 1, 1) := by decide +kernel
theorem dX3_commit_78 : decode cX3_commit 78 = .ok (.iadd, 1) := by decide +kernel
theorem dX3_commit_79 : decode cX3_commit 79 = .ok (.putfield 7, 3) := by decide +kernel
theorem dX3_commit_82 : decode cX3_commit 82 = .ok (.aload_n 0, 1) := by decide +kernel
theorem dX3_commit_83 : decode cX3_commit 83 = .ok (.getfield 13, 3) := by decide +kernel
theorem dX3_commit_86 : decode cX3_commit 86 = .ok (.iload 4, 2) := by decide +kernel
theorem dX3_commit_88 : decode cX3_commit 88 = .ok (.aload_n 0, 1) := by decide +kernel
theorem dX3_commit_89 : decode cX3_commit 89 = .ok (.getfield 13, 3) := by decide +kernel
theorem dX3_commit_92 : decode cX3_commit 92 = .ok (.iload_n 3, 1) := by decide +kernel
theorem dX3_commit_93 : decode cX3_commit 93 = .ok (.laload, 1) := by decide +kernel
theorem dX3_commit_94 : decode cX3_commit 94 = .ok (.lconst 1, 1) := by decide +kernel
theorem dX3_commit_95 : decode cX3_commit 95 = .ok (.iload_n 3, 1) := by decide +kernel
theorem dX3_commit_96 : decode cX3_commit 96 = .ok (.lshl, 1) := by decide +kernel
theorem dX3_commit_97 : decode cX3_commit 97 = .ok (.lor, 1) := by decide +kernel
theorem dX3_commit_98 : decode cX3_commit 98 = .ok (.lastore, 1) := by decide +kernel
theorem dX3_commit_99 : decode cX3_commit 99 = .ok (.aload_n 0, 1) := by decide +kernel
theorem dX3_commit_100 : decode cX3_commit 100 = .ok (.iload_n 2, 1) := by decide +kernel
theorem dX3_commit_101 : decode cX3_commit 101 = .ok (.iload 4, 2) := by decide +kernel
theorem dX3_commit_103 : decode cX3_commit 103 = .ok (.invokevirtual 102, 3) := by decide +kernel
theorem dX3_commit_106 : decode cX3_commit 106 = .ok (.iconst 1, 1) := by decide +kernel
theorem dX3_commit_107 : decode cX3_commit 107 = .ok (.istore 5, 2) := by decide +kernel
theorem dX3_commit_109 : decode cX3_commit 109 = .ok (.iload 5, 2) := by decide +kernel
theorem dX3_commit_111 : decode cX3_commit 111 = .ok (.bipush 16, 2) := by decide +kernel
theorem dX3_commit_113 : decode cX3_commit 113 = .ok (.if_icmp .ge 137, 3) := by decide +kernel
theorem dX3_commit_116 : decode cX3_commit 116 = .ok (.aload_n 0, 1) := by decide +kernel
theorem dX3_commit_117 : decode cX3_commit 117 = .ok (.iload 4, 2) := by decide +kernel
theorem dX3_commit_119 : decode cX3_commit 119 = .ok (.iload 5, 2) := by decide +kernel
theorem dX3_commit_121 : decode cX3_commit 121 = .ok (.invokevirtual 87, 3) := by decide +kernel
theorem dX3_commit_124 : decode cX3_commit 124 = .ok (.ifCond .eq 120, 3) := by decide +kernel
theorem dX3_commit_127 : decode cX3_commit 127 = .ok (.aload_n 0, 1) := by decide +kernel
theorem dX3_commit_128 : decode cX3_commit 128 = .ok (.iload_n 3, 1) := by decide +kernel
theorem dX3_commit_129 : decode cX3_commit 129 = .ok (.iload 5, 2) := by decide +kernel
theorem dX3_commit_131 : decode cX3_commit 131 = .ok (.invokevirtual 87, 3) := by decide +kernel
theorem dX3_commit_134 : decode cX3_commit 134 = .ok (.ifCond .ne 7, 3) := by decide +kernel
theorem dX3_commit_137 : decode cX3_commit 137 = .ok (.iconst 1, 1) := by decide +kernel
theorem dX3_commit_138 : decode cX3_commit 138 = .ok (.goto 4, 3) := by decide +kernel
theorem dX3_commit_141 : decode cX3_commit 141 = .ok (.iconst 0, 1) := by decide +kernel
theorem dX3_commit_142 : decode cX3_commit 142 = .ok (.istore 6, 2) := by decide +kernel
theorem dX3_commit_144 : decode cX3_commit 144 = .ok (.aload_n 0, 1) := by decide +kernel
theorem dX3_commit_145 : decode cX3_commit 145 = .ok (.getfield 24, 3) := by decide +kernel
theorem dX3_commit_148 : decode cX3_commit 148 = .ok (.iload 5, 2) := by decide +kernel
theorem dX3_commit_150 : decode cX3_commit 150 = .ok (.iload 6, 2) := by decide +kernel
theorem dX3_commit_152 : decode cX3_commit 152 = .ok (.ifCond .eq 8, 3) := by decide +kernel
theorem dX3_commit_155 : decode cX3_commit 155 = .ok (.iload 4, 2) := by decide +kernel
theorem dX3_commit_157 : decode cX3_commit 157 = .ok (.goto 10, 3) := by decide +kernel
theorem dX3_commit_160 : decode cX3_commit 160 = .ok (.aload_n 0, 1) := by decide +kernel
theorem dX3_commit_161 : decode cX3_commit 161 = .ok (.getfield 24, 3) := by decide +kernel
theorem dX3_commit_164 : decode cX3_commit 164 = .ok (.iload 5, 2) := by decide +kernel
theorem dX3_commit_166 : decode cX3_commit 166 = .ok (.iaload, 1) := by decide +kernel
theorem dX3_commit_167 : decode cX3_commit 167 = .ok (.iastore, 1) := by decide +kernel
theorem dX3_commit_168 : decode cX3_commit 168 = .ok (.iconst 0, 1) := by decide +kernel
theorem dX3_commit_169 : decode cX3_commit 169 = .ok (.istore 7, 2) := by decide +kernel
theorem dX3_commit_171 : decode cX3_commit 171 = .ok (.iload 7, 2) := by decide +kernel
theorem dX3_commit_173 : decode cX3_commit 173 = .ok (.iconst 3, 1) := by decide +kernel
theorem dX3_commit_174 : decode cX3_commit 174 = .ok (.if_icmp .ge 70, 3) := by decide +kernel
theorem dX3_commit_177 : decode cX3_commit 177 = .ok (.aload_n 0, 1) := by decide +kernel
theorem dX3_commit_178 : decode cX3_commit 178 = .ok (.getfield 43, 3) := by decide +kernel
theorem dX3_commit_181 : decode cX3_commit 181 = .ok (.bipush 48, 2) := by decide +kernel
theorem dX3_commit_183 : decode cX3_commit 183 = .ok (.iload 4, 2) := by decide +kernel
theorem dX3_commit_185 : decode cX3_commit 185 = .ok (.imul, 1) := by decide +kernel
theorem dX3_commit_186 : decode cX3_commit 186 = .ok (.iconst 3, 1) := by decide +kernel
theorem dX3_commit_187 : decode cX3_commit 187 = .ok (.iload 5, 2) := by decide +kernel
theorem dX3_commit_189 : decode cX3_commit 189 = .ok (.imul, 1) := by decide +kernel
theorem dX3_commit_190 : decode cX3_commit 190 = .ok (.iadd, 1) := by decide +kernel
theorem dX3_commit_191 : decode cX3_commit 191 = .ok (.iload 7, 2) := by decide +kernel
theorem dX3_commit_193 : decode cX3_commit 193 = .ok (.iadd, 1) := by decide +kernel
theorem dX3_commit_194 : decode cX3_commit 194 = .ok (.iload 6, 2) := by decide +kernel
theorem dX3_commit_196 : decode cX3_commit 196 = .ok (.ifCond .ne 17, 3) := by decide +kernel
theorem dX3_commit_199 : decode cX3_commit 199 = .ok (.aload_n 0, 1) := by decide +kernel
theorem dX3_commit_200 : decode cX3_commit 200 = .ok (.iload 4, 2) := by decide +kernel
theorem dX3_commit_202 : decode cX3_commit 202 = .ok (.iload_n 3, 1) := by decide +kernel
theorem dX3_commit_203 : decode cX3_commit 203 = .ok (.iload 5, 2) := by decide +kernel
theorem dX3_commit_205 : decode cX3_commit 205 = .ok (.iload 7, 2) := by decide +kernel
theorem dX3_commit_207 : decode cX3_commit 207 = .ok (.invokevirtual 91, 3) := by decide +kernel
theorem dX3_commit_210 : decode cX3_commit 210 = .ok (.ifCond .ne 10, 3) := by decide +kernel
theorem dX3_commit_213 : decode cX3_commit 213 = .ok (.lconst 1, 1) := by decide +kernel
theorem dX3_commit_214 : decode cX3_commit 214 = .ok (.iload 4, 2) := by decide +kernel
theorem dX3_commit_216 : decode cX3_commit 216 = .ok (.lshl, 1) := by decide +kernel
theorem dX3_commit_217 : decode cX3_commit 217 = .ok (.goto 20, 3) := by decide +kernel
theorem dX3_commit_220 : decode cX3_commit 220 = .ok (.aload_n 0, 1) := by decide +kernel
theorem dX3_commit_221 : decode cX3_commit 221 = .ok (.getfield 43, 3) := by decide +kernel
theorem dX3_commit_224 : decode cX3_commit 224 = .ok (.bipush 48, 2) := by decide +kernel
theorem dX3_commit_226 : decode cX3_commit 226 = .ok (.iload_n 3, 1) := by decide +kernel
theorem dX3_commit_227 : decode cX3_commit 227 = .ok (.imul, 1) := by decide +kernel
theorem dX3_commit_228 : decode cX3_commit 228 = .ok (.iconst 3, 1) := by decide +kernel
theorem dX3_commit_229 : decode cX3_commit 229 = .ok (.iload 5, 2) := by decide +kernel
theorem dX3_commit_231 : decode cX3_commit 231 = .ok (.imul, 1) := by decide +kernel
theorem dX3_commit_232 : decode cX3_commit 232 = .ok (.iadd, 1) := by decide +kernel
theorem dX3_commit_233 : decode cX3_commit 233 = .ok (.iload 7, 2) := by decide +kernel
theorem dX3_commit_235 : decode cX3_commit 235 = .ok (.iadd, 1) := by decide +kernel
theorem dX3_commit_236 : decode cX3_commit 236 = .ok (.laload, 1) := by decide +kernel
theorem dX3_commit_237 : decode cX3_commit 237 = .ok (.lastore, 1) := by decide +kernel
theorem dX3_commit_238 : decode cX3_commit 238 = .ok (.iinc 7 1, 3) := by decide +kernel
theorem dX3_commit_241 : decode cX3_commit 241 = .ok (.goto (-70), 3) := by decide +kernel
theorem dX3_commit_244 : decode cX3_commit 244 = .ok (.iinc 5 1, 3) := by decide +kernel
theorem dX3_commit_247 : decode cX3_commit 247 = .ok (.goto (-138), 3) := by decide +kernel
theorem dX3_commit_250 : decode cX3_commit 250 = .ok (.aload_n 0, 1) := by decide +kernel
theorem dX3_commit_251 : decode cX3_commit 251 = .ok (.getfield 46, 3) := by decide +kernel
theorem dX3_commit_254 : decode cX3_commit 254 = .ok (.iload_n 1, 1) := by decide +kernel
theorem dX3_commit_255 : decode cX3_commit 255 = .ok (.dup2, 1) := by decide +kernel
theorem dX3_commit_256 : decode cX3_commit 256 = .ok (.laload, 1) := by decide +kernel
theorem dX3_commit_257 : decode cX3_commit 257 = .ok (.lconst 1, 1) := by decide +kernel
theorem dX3_commit_258 : decode cX3_commit 258 = .ok (.iload 4, 2) := by decide +kernel
theorem dX3_commit_260 : decode cX3_commit 260 = .ok (.lshl, 1) := by decide +kernel
theorem dX3_commit_261 : decode cX3_commit 261 = .ok (.lor, 1) := by decide +kernel
theorem dX3_commit_262 : decode cX3_commit 262 = .ok (.lastore, 1) := by decide +kernel
theorem dX3_commit_263 : decode cX3_commit 263 = .ok (.aload_n 0, 1) := by decide +kernel
theorem dX3_commit_264 : decode cX3_commit 264 = .ok (.getfield 49, 3) := by decide +kernel
theorem dX3_commit_267 : decode cX3_commit 267 = .ok (.iload_n 1, 1) := by decide +kernel
theorem dX3_commit_268 : decode cX3_commit 268 = .ok (.iload 4, 2) := by decide +kernel
theorem dX3_commit_270 : decode cX3_commit 270 = .ok (.iastore, 1) := by decide +kernel
theorem dX3_commit_271 : decode cX3_commit 271 = .ok (.iload 4, 2) := by decide +kernel
theorem dX3_commit_273 : decode cX3_commit 273 = .ok (.ireturn, 1) := by decide +kernel
theorem dX3_decide_0 : decode cX3_decide 0 = .ok (.aload_n 0, 1) := by decide +kernel
theorem dX3_decide_1 : decode cX3_decide 1 = .ok (.iconst 0, 1) := by decide +kernel
theorem dX3_decide_2 : decode cX3_decide 2 = .ok (.putfield 76, 3) := by decide +kernel
theorem dX3_decide_5 : decode cX3_decide 5 = .ok (.iload_n 1, 1) := by decide +kernel
theorem dX3_decide_6 : decode cX3_decide 6 = .ok (.invokestatic 95, 3) := by decide +kernel
theorem dX3_decide_9 : decode cX3_decide 9 = .ok (.ifCond .eq 17, 3) := by decide +kernel
theorem dX3_decide_12 : decode cX3_decide 12 = .ok (.iload_n 2, 1) := by decide +kernel
theorem dX3_decide_13 : decode cX3_decide 13 = .ok (.iconst 0, 1) := by decide +kernel
theorem dX3_decide_14 : decode cX3_decide 14 = .ok (.aload_n 0, 1) := by decide +kernel
theorem dX3_decide_15 : decode cX3_decide 15 = .ok (.getfield 17, 3) := by decide +kernel
theorem dX3_decide_18 : decode cX3_decide 18 = .ok (.iconst 1, 1) := by decide +kernel
theorem dX3_decide_19 : decode cX3_decide 19 = .ok (.isub, 1) := by decide +kernel
theorem dX3_decide_20 : decode cX3_decide 20 = .ok (.invokestatic 79, 3) := by decide +kernel
theorem dX3_decide_23 : decode cX3_decide 23 = .ok (.ifCond .ne 9, 3) := by decide +kernel
theorem dX3_decide_26 : decode cX3_decide 26 = .ok (.aload_n 0, 1) := by decide +kernel
theorem dX3_decide_27 : decode cX3_decide 27 = .ok (.iconst 1, 1) := by decide +kernel
theorem dX3_decide_28 : decode cX3_decide 28 = .ok (.putfield 76, 3) := by decide +kernel
theorem dX3_decide_31 : decode cX3_decide 31 = .ok (.return_, 1) := by decide +kernel
theorem dX3_decide_32 : decode cX3_decide 32 = .ok (.iload_n 3, 1) := by decide +kernel
theorem dX3_decide_33 : decode cX3_decide 33 = .ok (.iconst 0, 1) := by decide +kernel
theorem dX3_decide_34 : decode cX3_decide 34 = .ok (.iconst 2, 1) := by decide +kernel
theorem dX3_decide_35 : decode cX3_decide 35 = .ok (.invokestatic 79, 3) := by decide +kernel
theorem dX3_decide_38 : decode cX3_decide 38 = .ok (.ifCond .eq 17, 3) := by decide +kernel
theorem dX3_decide_41 : decode cX3_decide 41 = .ok (.iload 4, 2) := by decide +kernel
theorem dX3_decide_43 : decode cX3_decide 43 = .ok (.iconst (-1), 1) := by decide +kernel
theorem dX3_decide_44 : decode cX3_decide 44 = .ok (.iconst 1, 1) := by decide +kernel
theorem dX3_decide_45 : decode cX3_decide 45 = .ok (.invokestatic 79, 3) := by decide +kernel
theorem dX3_decide_48 : decode cX3_decide 48 = .ok (.ifCond .eq 7, 3) := by decide +kernel
theorem dX3_decide_51 : decode cX3_decide 51 = .ok (.iload_n 2, 1) := by decide +kernel
theorem dX3_decide_52 : decode cX3_decide 52 = .ok (.ifCond .ne 9, 3) := by decide +kernel
theorem dX3_decide_55 : decode cX3_decide 55 = .ok (.aload_n 0, 1) := by decide +kernel
theorem dX3_decide_56 : decode cX3_decide 56 = .ok (.iconst 2, 1) := by decide +kernel
theorem dX3_decide_57 : decode cX3_decide 57 = .ok (.putfield 76, 3) := by decide +kernel
theorem dX3_decide_60 : decode cX3_decide 60 = .ok (.return_, 1) := by decide +kernel
theorem dX3_decide_61 : decode cX3_decide 61 = .ok (.aload_n 0, 1) := by decide +kernel
theorem dX3_decide_62 : decode cX3_decide 62 = .ok (.getfield 52, 3) := by decide +kernel
theorem dX3_decide_65 : decode cX3_decide 65 = .ok (.bipush 48, 2) := by decide +kernel
theorem dX3_decide_67 : decode cX3_decide 67 = .ok (.iload_n 1, 1) := by decide +kernel
theorem dX3_decide_68 : decode cX3_decide 68 = .ok (.imul, 1) := by decide +kernel
theorem dX3_decide_69 : decode cX3_decide 69 = .ok (.iconst 3, 1) := by decide +kernel
theorem dX3_decide_70 : decode cX3_decide 70 = .ok (.iload_n 2, 1) := by decide +kernel
theorem dX3_decide_71 : decode cX3_decide 71 = .ok (.imul, 1) := by decide +kernel
theorem dX3_decide_72 : decode cX3_decide 72 = .ok (.iadd, 1) := by decide +kernel
theorem dX3_decide_73 : decode cX3_decide 73 = .ok (.iload_n 3, 1) := by decide +kernel
theorem dX3_decide_74 : decode cX3_decide 74 = .ok (.iadd, 1) := by decide +kernel
theorem dX3_decide_75 : decode cX3_decide 75 = .ok (.iload 4, 2) := by decide +kernel
theorem dX3_decide_77 : decode cX3_decide 77 = .ok (.iastore, 1) := by decide +kernel
theorem dX3_decide_78 : decode cX3_decide 78 = .ok (.return_, 1) := by decide +kernel
theorem dX3_bury_0 : decode cX3_bury 0 = .ok (.aload_n 0, 1) := by decide +kernel
theorem dX3_bury_1 : decode cX3_bury 1 = .ok (.iconst 0, 1) := by decide +kernel
theorem dX3_bury_2 : decode cX3_bury 2 = .ok (.putfield 76, 3) := by decide +kernel
theorem dX3_bury_5 : decode cX3_bury 5 = .ok (.iload_n 1, 1) := by decide +kernel
theorem dX3_bury_6 : decode cX3_bury 6 = .ok (.invokestatic 95, 3) := by decide +kernel
theorem dX3_bury_9 : decode cX3_bury 9 = .ok (.ifCond .eq 17, 3) := by decide +kernel
theorem dX3_bury_12 : decode cX3_bury 12 = .ok (.iload_n 2, 1) := by decide +kernel
theorem dX3_bury_13 : decode cX3_bury 13 = .ok (.iconst 0, 1) := by decide +kernel
theorem dX3_bury_14 : decode cX3_bury 14 = .ok (.aload_n 0, 1) := by decide +kernel
theorem dX3_bury_15 : decode cX3_bury 15 = .ok (.getfield 17, 3) := by decide +kernel
theorem dX3_bury_18 : decode cX3_bury 18 = .ok (.iconst 1, 1) := by decide +kernel
theorem dX3_bury_19 : decode cX3_bury 19 = .ok (.isub, 1) := by decide +kernel
theorem dX3_bury_20 : decode cX3_bury 20 = .ok (.invokestatic 79, 3) := by decide +kernel
theorem dX3_bury_23 : decode cX3_bury 23 = .ok (.ifCond .ne 9, 3) := by decide +kernel
theorem dX3_bury_26 : decode cX3_bury 26 = .ok (.aload_n 0, 1) := by decide +kernel
theorem dX3_bury_27 : decode cX3_bury 27 = .ok (.iconst 1, 1) := by decide +kernel
theorem dX3_bury_28 : decode cX3_bury 28 = .ok (.putfield 76, 3) := by decide +kernel
theorem dX3_bury_31 : decode cX3_bury 31 = .ok (.return_, 1) := by decide +kernel
theorem dX3_bury_32 : decode cX3_bury 32 = .ok (.iload_n 2, 1) := by decide +kernel
theorem dX3_bury_33 : decode cX3_bury 33 = .ok (.ifCond .ne 9, 3) := by decide +kernel
theorem dX3_bury_36 : decode cX3_bury 36 = .ok (.aload_n 0, 1) := by decide +kernel
theorem dX3_bury_37 : decode cX3_bury 37 = .ok (.iconst 2, 1) := by decide +kernel
theorem dX3_bury_38 : decode cX3_bury 38 = .ok (.putfield 76, 3) := by decide +kernel
theorem dX3_bury_41 : decode cX3_bury 41 = .ok (.return_, 1) := by decide +kernel
theorem dX3_bury_42 : decode cX3_bury 42 = .ok (.iconst 1, 1) := by decide +kernel
theorem dX3_bury_43 : decode cX3_bury 43 = .ok (.iload_n 2, 1) := by decide +kernel
theorem dX3_bury_44 : decode cX3_bury 44 = .ok (.ishl, 1) := by decide +kernel
theorem dX3_bury_45 : decode cX3_bury 45 = .ok (.istore 4, 2) := by decide +kernel
theorem dX3_bury_47 : decode cX3_bury 47 = .ok (.aload_n 0, 1) := by decide +kernel
theorem dX3_bury_48 : decode cX3_bury 48 = .ok (.getfield 55, 3) := by decide +kernel
theorem dX3_bury_51 : decode cX3_bury 51 = .ok (.iload_n 1, 1) := by decide +kernel
theorem dX3_bury_52 : decode cX3_bury 52 = .ok (.iload_n 3, 1) := by decide +kernel
theorem dX3_bury_53 : decode cX3_bury 53 = .ok (.ifCond .eq 15, 3) := by decide +kernel
theorem dX3_bury_56 : decode cX3_bury 56 = .ok (.aload_n 0, 1) := by decide +kernel
theorem dX3_bury_57 : decode cX3_bury 57 = .ok (.getfield 55, 3) := by decide +kernel
theorem dX3_bury_60 : decode cX3_bury 60 = .ok (.iload_n 1, 1) := by decide +kernel
theorem dX3_bury_61 : decode cX3_bury 61 = .ok (.iaload, 1) := by decide +kernel
theorem dX3_bury_62 : decode cX3_bury 62 = .ok (.iload 4, 2) := by decide +kernel
theorem dX3_bury_64 : decode cX3_bury 64 = .ok (.ior, 1) := by decide +kernel
theorem dX3_bury_65 : decode cX3_bury 65 = .ok (.goto 14, 3) := by decide +kernel
theorem dX3_bury_68 : decode cX3_bury 68 = .ok (.aload_n 0, 1) := by decide +kernel
theorem dX3_bury_69 : decode cX3_bury 69 = .ok (.getfield 55, 3) := by decide +kernel
theorem dX3_bury_72 : decode cX3_bury 72 = .ok (.iload_n 1, 1) := by decide +kernel
theorem dX3_bury_73 : decode cX3_bury 73 = .ok (.iaload, 1) := by decide +kernel
theorem dX3_bury_74 : decode cX3_bury 74 = .ok (.iload 4, 2) := by decide +kernel
theorem dX3_bury_76 : decode cX3_bury 76 = .ok (.iconst (-1), 1) := by decide +kernel
theorem dX3_bury_77 : decode cX3_bury 77 = .ok (.ixor, 1) := by decide +kernel
theorem dX3_bury_78 : decode cX3_bury 78 = .ok (.iand, 1) := by decide +kernel
theorem dX3_bury_79 : decode cX3_bury 79 = .ok (.iastore, 1) := by decide +kernel
theorem dX3_bury_80 : decode cX3_bury 80 = .ok (.return_, 1) := by decide +kernel
theorem dX3_allKnown_0 : decode cX3_allKnown 0 = .ok (.lload_n 1, 1) := by decide +kernel
theorem dX3_allKnown_1 : decode cX3_allKnown 1 = .ok (.aload_n 0, 1) := by decide +kernel
theorem dX3_allKnown_2 : decode cX3_allKnown 2 = .ok (.getfield 13, 3) := by decide +kernel
theorem dX3_allKnown_5 : decode cX3_allKnown 5 = .ok (.iload_n 3, 1) := by decide +kernel
theorem dX3_allKnown_6 : decode cX3_allKnown 6 = .ok (.laload, 1) := by decide +kernel
theorem dX3_allKnown_7 : decode cX3_allKnown 7 = .ok (.lconst 1, 1) := by decide +kernel
theorem dX3_allKnown_8 : decode cX3_allKnown 8 = .ok (.iload_n 3, 1) := by decide +kernel
theorem dX3_allKnown_9 : decode cX3_allKnown 9 = .ok (.lshl, 1) := by decide +kernel
theorem dX3_allKnown_10 : decode cX3_allKnown 10 = .ok (.lor, 1) := by decide +kernel
theorem dX3_allKnown_11 : decode cX3_allKnown 11 = .ok (.ldc2_w 120, 3) := by decide +kernel
theorem dX3_allKnown_14 : decode cX3_allKnown 14 = .ok (.lxor, 1) := by decide +kernel
theorem dX3_allKnown_15 : decode cX3_allKnown 15 = .ok (.land, 1) := by decide +kernel
theorem dX3_allKnown_16 : decode cX3_allKnown 16 = .ok (.lconst 0, 1) := by decide +kernel
theorem dX3_allKnown_17 : decode cX3_allKnown 17 = .ok (.lcmp, 1) := by decide +kernel
theorem dX3_allKnown_18 : decode cX3_allKnown 18 = .ok (.ifCond .ne 7, 3) := by decide +kernel
theorem dX3_allKnown_21 : decode cX3_allKnown 21 = .ok (.iconst 1, 1) := by decide +kernel
theorem dX3_allKnown_22 : decode cX3_allKnown 22 = .ok (.goto 4, 3) := by decide +kernel
theorem dX3_allKnown_25 : decode cX3_allKnown 25 = .ok (.iconst 0, 1) := by decide +kernel
theorem dX3_allKnown_26 : decode cX3_allKnown 26 = .ok (.ireturn, 1) := by decide +kernel
theorem dX3_latest_0 : decode cX3_latest 0 = .ok (.lload_n 1, 1) := by decide +kernel
theorem dX3_latest_1 : decode cX3_latest 1 = .ok (.lstore_n 3, 1) := by decide +kernel
theorem dX3_latest_2 : decode cX3_latest 2 = .ok (.iconst 0, 1) := by decide +kernel
theorem dX3_latest_3 : decode cX3_latest 3 = .ok (.istore 5, 2) := by decide +kernel
theorem dX3_latest_5 : decode cX3_latest 5 = .ok (.iload 5, 2) := by decide +kernel
theorem dX3_latest_7 : decode cX3_latest 7 = .ok (.bipush 40, 2) := by decide +kernel
theorem dX3_latest_9 : decode cX3_latest 9 = .ok (.if_icmp .ge 38, 3) := by decide +kernel
theorem dX3_latest_12 : decode cX3_latest 12 = .ok (.lload_n 1, 1) := by decide +kernel
theorem dX3_latest_13 : decode cX3_latest 13 = .ok (.iload 5, 2) := by decide +kernel
theorem dX3_latest_15 : decode cX3_latest 15 = .ok (.lshr, 1) := by decide +kernel
theorem dX3_latest_16 : decode cX3_latest 16 = .ok (.lconst 1, 1) := by decide +kernel
theorem dX3_latest_17 : decode cX3_latest 17 = .ok (.land, 1) := by decide +kernel
theorem dX3_latest_18 : decode cX3_latest 18 = .ok (.lconst 1, 1) := by decide +kernel
theorem dX3_latest_19 : decode cX3_latest 19 = .ok (.lcmp, 1) := by decide +kernel
theorem dX3_latest_20 : decode cX3_latest 20 = .ok (.ifCond .ne 19, 3) := by decide +kernel
theorem dX3_latest_23 : decode cX3_latest 23 = .ok (.lload_n 3, 1) := by decide +kernel
theorem dX3_latest_24 : decode cX3_latest 24 = .ok (.aload_n 0, 1) := by decide +kernel
theorem dX3_latest_25 : decode cX3_latest 25 = .ok (.getfield 13, 3) := by decide +kernel
theorem dX3_latest_28 : decode cX3_latest 28 = .ok (.iload 5, 2) := by decide +kernel
theorem dX3_latest_30 : decode cX3_latest 30 = .ok (.laload, 1) := by decide +kernel
theorem dX3_latest_31 : decode cX3_latest 31 = .ok (.ldc2_w 120, 3) := by decide +kernel
theorem dX3_latest_34 : decode cX3_latest 34 = .ok (.lxor, 1) := by decide +kernel
theorem dX3_latest_35 : decode cX3_latest 35 = .ok (.land, 1) := by decide +kernel
theorem dX3_latest_36 : decode cX3_latest 36 = .ok (.goto 4, 3) := by decide +kernel
theorem dX3_latest_39 : decode cX3_latest 39 = .ok (.lload_n 3, 1) := by decide +kernel
theorem dX3_latest_40 : decode cX3_latest 40 = .ok (.lstore_n 3, 1) := by decide +kernel
theorem dX3_latest_41 : decode cX3_latest 41 = .ok (.iinc 5 1, 3) := by decide +kernel
theorem dX3_latest_44 : decode cX3_latest 44 = .ok (.goto (-39), 3) := by decide +kernel
theorem dX3_latest_47 : decode cX3_latest 47 = .ok (.lload_n 3, 1) := by decide +kernel
theorem dX3_latest_48 : decode cX3_latest 48 = .ok (.lreturn, 1) := by decide +kernel
theorem dX3_itself_0 : decode cX3_itself 0 = .ok (.aload_n 0, 1) := by decide +kernel
theorem dX3_itself_1 : decode cX3_itself 1 = .ok (.getfield 43, 3) := by decide +kernel
theorem dX3_itself_4 : decode cX3_itself 4 = .ok (.bipush 48, 2) := by decide +kernel
theorem dX3_itself_6 : decode cX3_itself 6 = .ok (.iload_n 1, 1) := by decide +kernel
theorem dX3_itself_7 : decode cX3_itself 7 = .ok (.imul, 1) := by decide +kernel
theorem dX3_itself_8 : decode cX3_itself 8 = .ok (.iconst 3, 1) := by decide +kernel
theorem dX3_itself_9 : decode cX3_itself 9 = .ok (.iload_n 3, 1) := by decide +kernel
theorem dX3_itself_10 : decode cX3_itself 10 = .ok (.imul, 1) := by decide +kernel
theorem dX3_itself_11 : decode cX3_itself 11 = .ok (.iadd, 1) := by decide +kernel
theorem dX3_itself_12 : decode cX3_itself 12 = .ok (.iload 4, 2) := by decide +kernel
theorem dX3_itself_14 : decode cX3_itself 14 = .ok (.iadd, 1) := by decide +kernel
theorem dX3_itself_15 : decode cX3_itself 15 = .ok (.laload, 1) := by decide +kernel
theorem dX3_itself_16 : decode cX3_itself 16 = .ok (.lstore 5, 2) := by decide +kernel
theorem dX3_itself_18 : decode cX3_itself 18 = .ok (.aload_n 0, 1) := by decide +kernel
theorem dX3_itself_19 : decode cX3_itself 19 = .ok (.getfield 43, 3) := by decide +kernel
theorem dX3_itself_22 : decode cX3_itself 22 = .ok (.bipush 48, 2) := by decide +kernel
theorem dX3_itself_24 : decode cX3_itself 24 = .ok (.iload_n 2, 1) := by decide +kernel
theorem dX3_itself_25 : decode cX3_itself 25 = .ok (.imul, 1) := by decide +kernel
theorem dX3_itself_26 : decode cX3_itself 26 = .ok (.iconst 3, 1) := by decide +kernel
theorem dX3_itself_27 : decode cX3_itself 27 = .ok (.iload_n 3, 1) := by decide +kernel
theorem dX3_itself_28 : decode cX3_itself 28 = .ok (.imul, 1) := by decide +kernel
theorem dX3_itself_29 : decode cX3_itself 29 = .ok (.iadd, 1) := by decide +kernel
theorem dX3_itself_30 : decode cX3_itself 30 = .ok (.iload 4, 2) := by decide +kernel
theorem dX3_itself_32 : decode cX3_itself 32 = .ok (.iadd, 1) := by decide +kernel
theorem dX3_itself_33 : decode cX3_itself 33 = .ok (.laload, 1) := by decide +kernel
theorem dX3_itself_34 : decode cX3_itself 34 = .ok (.lstore 7, 2) := by decide +kernel
theorem dX3_itself_36 : decode cX3_itself 36 = .ok (.aload_n 0, 1) := by decide +kernel
theorem dX3_itself_37 : decode cX3_itself 37 = .ok (.iload_n 1, 1) := by decide +kernel
theorem dX3_itself_38 : decode cX3_itself 38 = .ok (.iload_n 2, 1) := by decide +kernel
theorem dX3_itself_39 : decode cX3_itself 39 = .ok (.iload_n 3, 1) := by decide +kernel
theorem dX3_itself_40 : decode cX3_itself 40 = .ok (.iload 4, 2) := by decide +kernel
theorem dX3_itself_42 : decode cX3_itself 42 = .ok (.invokevirtual 91, 3) := by decide +kernel
theorem dX3_itself_45 : decode cX3_itself 45 = .ok (.ifCond .eq 7, 3) := by decide +kernel
theorem dX3_itself_48 : decode cX3_itself 48 = .ok (.iconst 2, 1) := by decide +kernel
theorem dX3_itself_49 : decode cX3_itself 49 = .ok (.goto 32, 3) := by decide +kernel
theorem dX3_itself_52 : decode cX3_itself 52 = .ok (.aload_n 0, 1) := by decide +kernel
theorem dX3_itself_53 : decode cX3_itself 53 = .ok (.lload 5, 2) := by decide +kernel
theorem dX3_itself_55 : decode cX3_itself 55 = .ok (.iload_n 2, 1) := by decide +kernel
theorem dX3_itself_56 : decode cX3_itself 56 = .ok (.invokevirtual 122, 3) := by decide +kernel
theorem dX3_itself_59 : decode cX3_itself 59 = .ok (.ifCond .eq 7, 3) := by decide +kernel
theorem dX3_itself_62 : decode cX3_itself 62 = .ok (.iconst 1, 1) := by decide +kernel
theorem dX3_itself_63 : decode cX3_itself 63 = .ok (.goto 18, 3) := by decide +kernel
theorem dX3_itself_66 : decode cX3_itself 66 = .ok (.aload_n 0, 1) := by decide +kernel
theorem dX3_itself_67 : decode cX3_itself 67 = .ok (.lload 7, 2) := by decide +kernel
theorem dX3_itself_69 : decode cX3_itself 69 = .ok (.iload_n 1, 1) := by decide +kernel
theorem dX3_itself_70 : decode cX3_itself 70 = .ok (.invokevirtual 122, 3) := by decide +kernel
theorem dX3_itself_73 : decode cX3_itself 73 = .ok (.ifCond .eq 7, 3) := by decide +kernel
theorem dX3_itself_76 : decode cX3_itself 76 = .ok (.iconst 0, 1) := by decide +kernel
theorem dX3_itself_77 : decode cX3_itself 77 = .ok (.goto 4, 3) := by decide +kernel
theorem dX3_itself_80 : decode cX3_itself 80 = .ok (.iconst (-1), 1) := by decide +kernel
theorem dX3_itself_81 : decode cX3_itself 81 = .ok (.ireturn, 1) := by decide +kernel
theorem dX3_mergeScalar_0 : decode cX3_mergeScalar 0 = .ok (.aload_n 0, 1) := by decide +kernel
theorem dX3_mergeScalar_1 : decode cX3_mergeScalar 1 = .ok (.iload_n 2, 1) := by decide +kernel
theorem dX3_mergeScalar_2 : decode cX3_mergeScalar 2 = .ok (.iload_n 3, 1) := by decide +kernel
theorem dX3_mergeScalar_3 : decode cX3_mergeScalar 3 = .ok (.iload 4, 2) := by decide +kernel
theorem dX3_mergeScalar_5 : decode cX3_mergeScalar 5 = .ok (.iload 5, 2) := by decide +kernel
theorem dX3_mergeScalar_7 : decode cX3_mergeScalar 7 = .ok (.invokevirtual 126, 3) := by decide +kernel
theorem dX3_mergeScalar_10 : decode cX3_mergeScalar 10 = .ok (.istore 7, 2) := by decide +kernel
theorem dX3_mergeScalar_12 : decode cX3_mergeScalar 12 = .ok (.aload_n 0, 1) := by decide +kernel
theorem dX3_mergeScalar_13 : decode cX3_mergeScalar 13 = .ok (.getfield 52, 3) := by decide +kernel
theorem dX3_mergeScalar_16 : decode cX3_mergeScalar 16 = .ok (.bipush 48, 2) := by decide +kernel
theorem dX3_mergeScalar_18 : decode cX3_mergeScalar 18 = .ok (.iload_n 1, 1) := by decide +kernel
theorem dX3_mergeScalar_19 : decode cX3_mergeScalar 19 = .ok (.imul, 1) := by decide +kernel
theorem dX3_mergeScalar_20 : decode cX3_mergeScalar 20 = .ok (.iconst 3, 1) := by decide +kernel
theorem dX3_mergeScalar_21 : decode cX3_mergeScalar 21 = .ok (.iload 4, 2) := by decide +kernel
theorem dX3_mergeScalar_23 : decode cX3_mergeScalar 23 = .ok (.imul, 1) := by decide +kernel
theorem dX3_mergeScalar_24 : decode cX3_mergeScalar 24 = .ok (.iadd, 1) := by decide +kernel
theorem dX3_mergeScalar_25 : decode cX3_mergeScalar 25 = .ok (.iload 5, 2) := by decide +kernel
theorem dX3_mergeScalar_27 : decode cX3_mergeScalar 27 = .ok (.iadd, 1) := by decide +kernel
theorem dX3_mergeScalar_28 : decode cX3_mergeScalar 28 = .ok (.iaload, 1) := by decide +kernel
theorem dX3_mergeScalar_29 : decode cX3_mergeScalar 29 = .ok (.istore 8, 2) := by decide +kernel
theorem dX3_mergeScalar_31 : decode cX3_mergeScalar 31 = .ok (.iconst 3, 1) := by decide +kernel
theorem dX3_mergeScalar_32 : decode cX3_mergeScalar 32 = .ok (.iload 4, 2) := by decide +kernel
theorem dX3_mergeScalar_34 : decode cX3_mergeScalar 34 = .ok (.imul, 1) := by decide +kernel
theorem dX3_mergeScalar_35 : decode cX3_mergeScalar 35 = .ok (.iload 5, 2) := by decide +kernel
theorem dX3_mergeScalar_37 : decode cX3_mergeScalar 37 = .ok (.iadd, 1) := by decide +kernel
theorem dX3_mergeScalar_38 : decode cX3_mergeScalar 38 = .ok (.istore 9, 2) := by decide +kernel
theorem dX3_mergeScalar_40 : decode cX3_mergeScalar 40 = .ok (.aload_n 0, 1) := by decide +kernel
theorem dX3_mergeScalar_41 : decode cX3_mergeScalar 41 = .ok (.getfield 43, 3) := by decide +kernel
theorem dX3_mergeScalar_44 : decode cX3_mergeScalar 44 = .ok (.bipush 48, 2) := by decide +kernel
theorem dX3_mergeScalar_46 : decode cX3_mergeScalar 46 = .ok (.iload_n 2, 1) := by decide +kernel
theorem dX3_mergeScalar_47 : decode cX3_mergeScalar 47 = .ok (.imul, 1) := by decide +kernel
theorem dX3_mergeScalar_48 : decode cX3_mergeScalar 48 = .ok (.iload 9, 2) := by decide +kernel
theorem dX3_mergeScalar_50 : decode cX3_mergeScalar 50 = .ok (.iadd, 1) := by decide +kernel
theorem dX3_mergeScalar_51 : decode cX3_mergeScalar 51 = .ok (.laload, 1) := by decide +kernel
theorem dX3_mergeScalar_52 : decode cX3_mergeScalar 52 = .ok (.lstore 10, 2) := by decide +kernel
theorem dX3_mergeScalar_54 : decode cX3_mergeScalar 54 = .ok (.aload_n 0, 1) := by decide +kernel
theorem dX3_mergeScalar_55 : decode cX3_mergeScalar 55 = .ok (.getfield 43, 3) := by decide +kernel
theorem dX3_mergeScalar_58 : decode cX3_mergeScalar 58 = .ok (.bipush 48, 2) := by decide +kernel
theorem dX3_mergeScalar_60 : decode cX3_mergeScalar 60 = .ok (.iload_n 3, 1) := by decide +kernel
theorem dX3_mergeScalar_61 : decode cX3_mergeScalar 61 = .ok (.imul, 1) := by decide +kernel
theorem dX3_mergeScalar_62 : decode cX3_mergeScalar 62 = .ok (.iload 9, 2) := by decide +kernel
theorem dX3_mergeScalar_64 : decode cX3_mergeScalar 64 = .ok (.iadd, 1) := by decide +kernel
theorem dX3_mergeScalar_65 : decode cX3_mergeScalar 65 = .ok (.laload, 1) := by decide +kernel
theorem dX3_mergeScalar_66 : decode cX3_mergeScalar 66 = .ok (.lstore 12, 2) := by decide +kernel
theorem dX3_mergeScalar_68 : decode cX3_mergeScalar 68 = .ok (.iload 7, 2) := by decide +kernel
theorem dX3_mergeScalar_70 : decode cX3_mergeScalar 70 = .ok (.iconst 2, 1) := by decide +kernel
theorem dX3_mergeScalar_71 : decode cX3_mergeScalar 71 = .ok (.if_icmp .ne 15, 3) := by decide +kernel
theorem dX3_mergeScalar_74 : decode cX3_mergeScalar 74 = .ok (.aload_n 0, 1) := by decide +kernel
theorem dX3_mergeScalar_75 : decode cX3_mergeScalar 75 = .ok (.lload 10, 2) := by decide +kernel
theorem dX3_mergeScalar_77 : decode cX3_mergeScalar 77 = .ok (.lload 12, 2) := by decide +kernel
theorem dX3_mergeScalar_79 : decode cX3_mergeScalar 79 = .ok (.lor, 1) := by decide +kernel
theorem dX3_mergeScalar_80 : decode cX3_mergeScalar 80 = .ok (.invokevirtual 129, 3) := by decide +kernel
theorem dX3_mergeScalar_83 : decode cX3_mergeScalar 83 = .ok (.goto 15, 3) := by decide +kernel
theorem dX3_mergeScalar_86 : decode cX3_mergeScalar 86 = .ok (.iload 7, 2) := by decide +kernel
theorem dX3_mergeScalar_88 : decode cX3_mergeScalar 88 = .ok (.ifCond .ne 8, 3) := by decide +kernel
theorem dX3_mergeScalar_91 : decode cX3_mergeScalar 91 = .ok (.lload 10, 2) := by decide +kernel
theorem dX3_mergeScalar_93 : decode cX3_mergeScalar 93 = .ok (.goto 5, 3) := by decide +kernel
theorem dX3_mergeScalar_96 : decode cX3_mergeScalar 96 = .ok (.lload 12, 2) := by decide +kernel
theorem dX3_mergeScalar_98 : decode cX3_mergeScalar 98 = .ok (.lstore 14, 2) := by decide +kernel
theorem dX3_mergeScalar_100 : decode cX3_mergeScalar 100 = .ok (.iload 8, 2) := by decide +kernel
theorem dX3_mergeScalar_102 : decode cX3_mergeScalar 102 = .ok (.ifCond .ge 23, 3) := by decide +kernel
theorem dX3_mergeScalar_105 : decode cX3_mergeScalar 105 = .ok (.iload 7, 2) := by decide +kernel
theorem dX3_mergeScalar_107 : decode cX3_mergeScalar 107 = .ok (.ifCond .ge 18, 3) := by decide +kernel
theorem dX3_mergeScalar_110 : decode cX3_mergeScalar 110 = .ok (.aload_n 0, 1) := by decide +kernel
theorem dX3_mergeScalar_111 : decode cX3_mergeScalar 111 = .ok (.getfield 73, 3) := by decide +kernel
theorem dX3_mergeScalar_114 : decode cX3_mergeScalar 114 = .ok (.iload 4, 2) := by decide +kernel
theorem dX3_mergeScalar_116 : decode cX3_mergeScalar 116 = .ok (.dup2, 1) := by decide +kernel
theorem dX3_mergeScalar_117 : decode cX3_mergeScalar 117 = .ok (.iaload, 1) := by decide +kernel
theorem dX3_mergeScalar_118 : decode cX3_mergeScalar 118 = .ok (.iconst 1, 1) := by decide +kernel
theorem dX3_mergeScalar_119 : decode cX3_mergeScalar 119 = .ok (.iload 5, 2) := by decide +kernel
theorem dX3_mergeScalar_121 : decode cX3_mergeScalar 121 = .ok (.ishl, 1) := by decide +kernel
theorem dX3_mergeScalar_122 : decode cX3_mergeScalar 122 = .ok (.ior, 1) := by decide +kernel
theorem dX3_mergeScalar_123 : decode cX3_mergeScalar 123 = .ok (.iastore, 1) := by decide +kernel
theorem dX3_mergeScalar_124 : decode cX3_mergeScalar 124 = .ok (.return_, 1) := by decide +kernel
theorem dX3_mergeScalar_125 : decode cX3_mergeScalar 125 = .ok (.iload 8, 2) := by decide +kernel
theorem dX3_mergeScalar_127 : decode cX3_mergeScalar 127 = .ok (.ifCond .ge 17, 3) := by decide +kernel
theorem dX3_mergeScalar_130 : decode cX3_mergeScalar 130 = .ok (.iload 7, 2) := by decide +kernel
theorem dX3_mergeScalar_132 : decode cX3_mergeScalar 132 = .ok (.iconst 1, 1) := by decide +kernel
theorem dX3_mergeScalar_133 : decode cX3_mergeScalar 133 = .ok (.if_icmp .ne 7, 3) := by decide +kernel
theorem dX3_mergeScalar_136 : decode cX3_mergeScalar 136 = .ok (.iload_n 3, 1) := by decide +kernel
theorem dX3_mergeScalar_137 : decode cX3_mergeScalar 137 = .ok (.goto 17, 3) := by decide +kernel
theorem dX3_mergeScalar_140 : decode cX3_mergeScalar 140 = .ok (.iload_n 2, 1) := by decide +kernel
theorem dX3_mergeScalar_141 : decode cX3_mergeScalar 141 = .ok (.goto 13, 3) := by decide +kernel
theorem dX3_mergeScalar_144 : decode cX3_mergeScalar 144 = .ok (.iload 8, 2) := by decide +kernel
theorem dX3_mergeScalar_146 : decode cX3_mergeScalar 146 = .ok (.ifCond .ne 7, 3) := by decide +kernel
theorem dX3_mergeScalar_149 : decode cX3_mergeScalar 149 = .ok (.iload_n 2, 1) := by decide +kernel
theorem dX3_mergeScalar_150 : decode cX3_mergeScalar 150 = .ok (.goto 4, 3) := by decide +kernel
theorem dX3_mergeScalar_153 : decode cX3_mergeScalar 153 = .ok (.iload_n 3, 1) := by decide +kernel
theorem dX3_mergeScalar_154 : decode cX3_mergeScalar 154 = .ok (.istore 16, 2) := by decide +kernel
theorem dX3_mergeScalar_156 : decode cX3_mergeScalar 156 = .ok (.iload 8, 2) := by decide +kernel
theorem dX3_mergeScalar_158 : decode cX3_mergeScalar 158 = .ok (.ifCond .lt 16, 3) := by decide +kernel
theorem dX3_mergeScalar_161 : decode cX3_mergeScalar 161 = .ok (.iload 7, 2) := by decide +kernel
theorem dX3_mergeScalar_163 : decode cX3_mergeScalar 163 = .ok (.iconst 2, 1) := by decide +kernel
theorem dX3_mergeScalar_164 : decode cX3_mergeScalar 164 = .ok (.if_icmp .eq 10, 3) := by decide +kernel
theorem dX3_mergeScalar_167 : decode cX3_mergeScalar 167 = .ok (.iload 7, 2) := by decide +kernel
theorem dX3_mergeScalar_169 : decode cX3_mergeScalar 169 = .ok (.iload 8, 2) := by decide +kernel
theorem dX3_mergeScalar_171 : decode cX3_mergeScalar 171 = .ok (.if_icmp .ne 7, 3) := by decide +kernel
theorem dX3_mergeScalar_174 : decode cX3_mergeScalar 174 = .ok (.iconst 1, 1) := by decide +kernel
theorem dX3_mergeScalar_175 : decode cX3_mergeScalar 175 = .ok (.goto 4, 3) := by decide +kernel
theorem dX3_mergeScalar_178 : decode cX3_mergeScalar 178 = .ok (.iconst 0, 1) := by decide +kernel
theorem dX3_mergeScalar_179 : decode cX3_mergeScalar 179 = .ok (.istore 17, 2) := by decide +kernel
theorem dX3_mergeScalar_181 : decode cX3_mergeScalar 181 = .ok (.aload_n 0, 1) := by decide +kernel
theorem dX3_mergeScalar_182 : decode cX3_mergeScalar 182 = .ok (.iload 16, 2) := by decide +kernel
theorem dX3_mergeScalar_184 : decode cX3_mergeScalar 184 = .ok (.bipush 42, 2) := by decide +kernel
theorem dX3_mergeScalar_186 : decode cX3_mergeScalar 186 = .ok (.iload 4, 2) := by decide +kernel
theorem dX3_mergeScalar_188 : decode cX3_mergeScalar 188 = .ok (.iload 5, 2) := by decide +kernel
theorem dX3_mergeScalar_190 : decode cX3_mergeScalar 190 = .ok (.invokevirtual 133, 3) := by decide +kernel
theorem dX3_mergeScalar_193 : decode cX3_mergeScalar 193 = .ok (.aload_n 0, 1) := by decide +kernel
theorem dX3_mergeScalar_194 : decode cX3_mergeScalar 194 = .ok (.getfield 43, 3) := by decide +kernel
theorem dX3_mergeScalar_197 : decode cX3_mergeScalar 197 = .ok (.sipush 2016, 3) := by decide +kernel
theorem dX3_mergeScalar_200 : decode cX3_mergeScalar 200 = .ok (.iload 9, 2) := by decide +kernel
theorem dX3_mergeScalar_202 : decode cX3_mergeScalar 202 = .ok (.iadd, 1) := by decide +kernel
theorem dX3_mergeScalar_203 : decode cX3_mergeScalar 203 = .ok (.iload 17, 2) := by decide +kernel
theorem dX3_mergeScalar_205 : decode cX3_mergeScalar 205 = .ok (.ifCond .eq 8, 3) := by decide +kernel
theorem dX3_mergeScalar_208 : decode cX3_mergeScalar 208 = .ok (.lload 14, 2) := by decide +kernel
theorem dX3_mergeScalar_210 : decode cX3_mergeScalar 210 = .ok (.goto 7, 3) := by decide +kernel
theorem dX3_mergeScalar_213 : decode cX3_mergeScalar 213 = .ok (.lconst 1, 1) := by decide +kernel
theorem dX3_mergeScalar_214 : decode cX3_mergeScalar 214 = .ok (.iload 6, 2) := by decide +kernel
theorem dX3_mergeScalar_216 : decode cX3_mergeScalar 216 = .ok (.lshl, 1) := by decide +kernel
theorem dX3_mergeScalar_217 : decode cX3_mergeScalar 217 = .ok (.lastore, 1) := by decide +kernel
theorem dX3_mergeScalar_218 : decode cX3_mergeScalar 218 = .ok (.return_, 1) := by decide +kernel
theorem dX3_mergedAlive_0 : decode cX3_mergedAlive 0 = .ok (.iconst 1, 1) := by decide +kernel
theorem dX3_mergedAlive_1 : decode cX3_mergedAlive 1 = .ok (.istore 4, 2) := by decide +kernel
theorem dX3_mergedAlive_3 : decode cX3_mergedAlive 3 = .ok (.iconst 1, 1) := by decide +kernel
theorem dX3_mergedAlive_4 : decode cX3_mergedAlive 4 = .ok (.istore 5, 2) := by decide +kernel
theorem dX3_mergedAlive_6 : decode cX3_mergedAlive 6 = .ok (.iload 5, 2) := by decide +kernel
theorem dX3_mergedAlive_8 : decode cX3_mergedAlive 8 = .ok (.bipush 16, 2) := by decide +kernel
theorem dX3_mergedAlive_10 : decode cX3_mergedAlive 10 = .ok (.if_icmp .ge 117, 3) := by decide +kernel
theorem dX3_mergedAlive_13 : decode cX3_mergedAlive 13 = .ok (.aload_n 0, 1) := by decide +kernel
theorem dX3_mergedAlive_14 : decode cX3_mergedAlive 14 = .ok (.iload_n 2, 1) := by decide +kernel
theorem dX3_mergedAlive_15 : decode cX3_mergedAlive 15 = .ok (.iload 5, 2) := by decide +kernel
theorem dX3_mergedAlive_17 : decode cX3_mergedAlive 17 = .ok (.invokevirtual 87, 3) := by decide +kernel
theorem dX3_mergedAlive_20 : decode cX3_mergedAlive 20 = .ok (.istore 6, 2) := by decide +kernel
theorem dX3_mergedAlive_22 : decode cX3_mergedAlive 22 = .ok (.aload_n 0, 1) := by decide +kernel
theorem dX3_mergedAlive_23 : decode cX3_mergedAlive 23 = .ok (.iload_n 3, 1) := by decide +kernel
theorem dX3_mergedAlive_24 : decode cX3_mergedAlive 24 = .ok (.iload 5, 2) := by decide +kernel
theorem dX3_mergedAlive_26 : decode cX3_mergedAlive 26 = .ok (.invokevirtual 87, 3) := by decide +kernel
theorem dX3_mergedAlive_29 : decode cX3_mergedAlive 29 = .ok (.istore 7, 2) := by decide +kernel
theorem dX3_mergedAlive_31 : decode cX3_mergedAlive 31 = .ok (.iload 6, 2) := by decide +kernel
theorem dX3_mergedAlive_33 : decode cX3_mergedAlive 33 = .ok (.ifCond .eq 8, 3) := by decide +kernel
theorem dX3_mergedAlive_36 : decode cX3_mergedAlive 36 = .ok (.iload 7, 2) := by decide +kernel
theorem dX3_mergedAlive_38 : decode cX3_mergedAlive 38 = .ok (.ifCond .ne 43, 3) := by decide +kernel
theorem dX3_mergedAlive_41 : decode cX3_mergedAlive 41 = .ok (.iload 6, 2) := by decide +kernel
theorem dX3_mergedAlive_43 : decode cX3_mergedAlive 43 = .ok (.ifCond .eq 18, 3) := by decide +kernel
theorem dX3_mergedAlive_46 : decode cX3_mergedAlive 46 = .ok (.aload_n 0, 1) := by decide +kernel
theorem dX3_mergedAlive_47 : decode cX3_mergedAlive 47 = .ok (.aload_n 0, 1) := by decide +kernel
theorem dX3_mergedAlive_48 : decode cX3_mergedAlive 48 = .ok (.getfield 24, 3) := by decide +kernel
theorem dX3_mergedAlive_51 : decode cX3_mergedAlive 51 = .ok (.iload 5, 2) := by decide +kernel
theorem dX3_mergedAlive_53 : decode cX3_mergedAlive 53 = .ok (.iaload, 1) := by decide +kernel
theorem dX3_mergedAlive_54 : decode cX3_mergedAlive 54 = .ok (.iload_n 3, 1) := by decide +kernel
theorem dX3_mergedAlive_55 : decode cX3_mergedAlive 55 = .ok (.invokevirtual 137, 3) := by decide +kernel
theorem dX3_mergedAlive_58 : decode cX3_mergedAlive 58 = .ok (.ifCond .eq 23, 3) := by decide +kernel
theorem dX3_mergedAlive_61 : decode cX3_mergedAlive 61 = .ok (.iload 7, 2) := by decide +kernel
theorem dX3_mergedAlive_63 : decode cX3_mergedAlive 63 = .ok (.ifCond .eq 22, 3) := by decide +kernel
theorem dX3_mergedAlive_66 : decode cX3_mergedAlive 66 = .ok (.aload_n 0, 1) := by decide +kernel
theorem dX3_mergedAlive_67 : decode cX3_mergedAlive 67 = .ok (.aload_n 0, 1) := by decide +kernel
theorem dX3_mergedAlive_68 : decode cX3_mergedAlive 68 = .ok (.getfield 24, 3) := by decide +kernel
theorem dX3_mergedAlive_71 : decode cX3_mergedAlive 71 = .ok (.iload 5, 2) := by decide +kernel
theorem dX3_mergedAlive_73 : decode cX3_mergedAlive 73 = .ok (.iaload, 1) := by decide +kernel
theorem dX3_mergedAlive_74 : decode cX3_mergedAlive 74 = .ok (.iload_n 2, 1) := by decide +kernel
theorem dX3_mergedAlive_75 : decode cX3_mergedAlive 75 = .ok (.invokevirtual 137, 3) := by decide +kernel
theorem dX3_mergedAlive_78 : decode cX3_mergedAlive 78 = .ok (.ifCond .ne 7, 3) := by decide +kernel
theorem dX3_mergedAlive_81 : decode cX3_mergedAlive 81 = .ok (.iconst 1, 1) := by decide +kernel
theorem dX3_mergedAlive_82 : decode cX3_mergedAlive 82 = .ok (.goto 4, 3) := by decide +kernel
theorem dX3_mergedAlive_85 : decode cX3_mergedAlive 85 = .ok (.iconst 0, 1) := by decide +kernel
theorem dX3_mergedAlive_86 : decode cX3_mergedAlive 86 = .ok (.istore 8, 2) := by decide +kernel
theorem dX3_mergedAlive_88 : decode cX3_mergedAlive 88 = .ok (.iload 8, 2) := by decide +kernel
theorem dX3_mergedAlive_90 : decode cX3_mergedAlive 90 = .ok (.ifCond .eq 27, 3) := by decide +kernel
theorem dX3_mergedAlive_93 : decode cX3_mergedAlive 93 = .ok (.aload_n 0, 1) := by decide +kernel
theorem dX3_mergedAlive_94 : decode cX3_mergedAlive 94 = .ok (.getfield 55, 3) := by decide +kernel
theorem dX3_mergedAlive_97 : decode cX3_mergedAlive 97 = .ok (.iload_n 1, 1) := by decide +kernel
theorem dX3_mergedAlive_98 : decode cX3_mergedAlive 98 = .ok (.iaload, 1) := by decide +kernel
theorem dX3_mergedAlive_99 : decode cX3_mergedAlive 99 = .ok (.iload 5, 2) := by decide +kernel
theorem dX3_mergedAlive_101 : decode cX3_mergedAlive 101 = .ok (.ishr, 1) := by decide +kernel
theorem dX3_mergedAlive_102 : decode cX3_mergedAlive 102 = .ok (.iconst 1, 1) := by decide +kernel
theorem dX3_mergedAlive_103 : decode cX3_mergedAlive 103 = .ok (.iand, 1) := by decide +kernel
theorem dX3_mergedAlive_104 : decode cX3_mergedAlive 104 = .ok (.ifCond .ne 13, 3) := by decide +kernel
theorem dX3_mergedAlive_107 : decode cX3_mergedAlive 107 = .ok (.iload 4, 2) := by decide +kernel
theorem dX3_mergedAlive_109 : decode cX3_mergedAlive 109 = .ok (.iconst 1, 1) := by decide +kernel
theorem dX3_mergedAlive_110 : decode cX3_mergedAlive 110 = .ok (.iload 5, 2) := by decide +kernel
theorem dX3_mergedAlive_112 : decode cX3_mergedAlive 112 = .ok (.ishl, 1) := by decide +kernel
theorem dX3_mergedAlive_113 : decode cX3_mergedAlive 113 = .ok (.ior, 1) := by decide +kernel
theorem dX3_mergedAlive_114 : decode cX3_mergedAlive 114 = .ok (.goto 5, 3) := by decide +kernel
theorem dX3_mergedAlive_117 : decode cX3_mergedAlive 117 = .ok (.iload 4, 2) := by decide +kernel
theorem dX3_mergedAlive_119 : decode cX3_mergedAlive 119 = .ok (.istore 4, 2) := by decide +kernel
theorem dX3_mergedAlive_121 : decode cX3_mergedAlive 121 = .ok (.iinc 5 1, 3) := by decide +kernel
theorem dX3_mergedAlive_124 : decode cX3_mergedAlive 124 = .ok (.goto (-118), 3) := by decide +kernel
theorem dX3_mergedAlive_127 : decode cX3_mergedAlive 127 = .ok (.iload 4, 2) := by decide +kernel
theorem dX3_mergedAlive_129 : decode cX3_mergedAlive 129 = .ok (.ireturn, 1) := by decide +kernel
theorem dX3_list_0 : decode cX3_list 0 = .ok (.aload_n 0, 1) := by decide +kernel
theorem dX3_list_1 : decode cX3_list 1 = .ok (.getfield 67, 3) := by decide +kernel
theorem dX3_list_4 : decode cX3_list 4 = .ok (.bipush 64, 2) := by decide +kernel
theorem dX3_list_6 : decode cX3_list 6 = .ok (.iload_n 1, 1) := by decide +kernel
theorem dX3_list_7 : decode cX3_list 7 = .ok (.imul, 1) := by decide +kernel
theorem dX3_list_8 : decode cX3_list 8 = .ok (.aload_n 0, 1) := by decide +kernel
theorem dX3_list_9 : decode cX3_list 9 = .ok (.getfield 64, 3) := by decide +kernel
theorem dX3_list_12 : decode cX3_list 12 = .ok (.iload_n 1, 1) := by decide +kernel
theorem dX3_list_13 : decode cX3_list 13 = .ok (.iaload, 1) := by decide +kernel
theorem dX3_list_14 : decode cX3_list 14 = .ok (.iadd, 1) := by decide +kernel
theorem dX3_list_15 : decode cX3_list 15 = .ok (.iload_n 2, 1) := by decide +kernel
theorem dX3_list_16 : decode cX3_list 16 = .ok (.iastore, 1) := by decide +kernel
theorem dX3_list_17 : decode cX3_list 17 = .ok (.aload_n 0, 1) := by decide +kernel
theorem dX3_list_18 : decode cX3_list 18 = .ok (.getfield 70, 3) := by decide +kernel
theorem dX3_list_21 : decode cX3_list 21 = .ok (.bipush 64, 2) := by decide +kernel
theorem dX3_list_23 : decode cX3_list 23 = .ok (.iload_n 1, 1) := by decide +kernel
theorem dX3_list_24 : decode cX3_list 24 = .ok (.imul, 1) := by decide +kernel
theorem dX3_list_25 : decode cX3_list 25 = .ok (.aload_n 0, 1) := by decide +kernel
theorem dX3_list_26 : decode cX3_list 26 = .ok (.getfield 64, 3) := by decide +kernel
theorem dX3_list_29 : decode cX3_list 29 = .ok (.iload_n 1, 1) := by decide +kernel
theorem dX3_list_30 : decode cX3_list 30 = .ok (.iaload, 1) := by decide +kernel
theorem dX3_list_31 : decode cX3_list 31 = .ok (.iadd, 1) := by decide +kernel
theorem dX3_list_32 : decode cX3_list 32 = .ok (.iload_n 3, 1) := by decide +kernel
theorem dX3_list_33 : decode cX3_list 33 = .ok (.iastore, 1) := by decide +kernel
theorem dX3_list_34 : decode cX3_list 34 = .ok (.aload_n 0, 1) := by decide +kernel
theorem dX3_list_35 : decode cX3_list 35 = .ok (.getfield 64, 3) := by decide +kernel
theorem dX3_list_38 : decode cX3_list 38 = .ok (.iload_n 1, 1) := by decide +kernel
theorem dX3_list_39 : decode cX3_list 39 = .ok (.dup2, 1) := by decide +kernel
theorem dX3_list_40 : decode cX3_list 40 = .ok (.iaload, 1) := by decide +kernel
theorem dX3_list_41 : decode cX3_list 41 = .ok (.iconst 1, 1) := by decide +kernel
theorem dX3_list_42 : decode cX3_list 42 = .ok (.iadd, 1) := by decide +kernel
theorem dX3_list_43 : decode cX3_list 43 = .ok (.iastore, 1) := by decide +kernel
theorem dX3_list_44 : decode cX3_list 44 = .ok (.return_, 1) := by decide +kernel
theorem dX3_placed_0 : decode cX3_placed 0 = .ok (.aload_n 0, 1) := by decide +kernel
theorem dX3_placed_1 : decode cX3_placed 1 = .ok (.getfield 73, 3) := by decide +kernel
theorem dX3_placed_4 : decode cX3_placed 4 = .ok (.iload_n 1, 1) := by decide +kernel
theorem dX3_placed_5 : decode cX3_placed 5 = .ok (.iaload, 1) := by decide +kernel
theorem dX3_placed_6 : decode cX3_placed 6 = .ok (.iconst 1, 1) := by decide +kernel
theorem dX3_placed_7 : decode cX3_placed 7 = .ok (.iand, 1) := by decide +kernel
theorem dX3_placed_8 : decode cX3_placed 8 = .ok (.ifCond .ne 7, 3) := by decide +kernel
theorem dX3_placed_11 : decode cX3_placed 11 = .ok (.iconst 1, 1) := by decide +kernel
theorem dX3_placed_12 : decode cX3_placed 12 = .ok (.goto 4, 3) := by decide +kernel
theorem dX3_placed_15 : decode cX3_placed 15 = .ok (.iconst 0, 1) := by decide +kernel
theorem dX3_placed_16 : decode cX3_placed 16 = .ok (.ireturn, 1) := by decide +kernel
theorem dX3_comesBack_0 : decode cX3_comesBack 0 = .ok (.aload_n 0, 1) := by decide +kernel
theorem dX3_comesBack_1 : decode cX3_comesBack 1 = .ok (.getfield 31, 3) := by decide +kernel
theorem dX3_comesBack_4 : decode cX3_comesBack 4 = .ok (.sipush 672, 3) := by decide +kernel
theorem dX3_comesBack_7 : decode cX3_comesBack 7 = .ok (.iload_n 1, 1) := by decide +kernel
theorem dX3_comesBack_8 : decode cX3_comesBack 8 = .ok (.iadd, 1) := by decide +kernel
theorem dX3_comesBack_9 : decode cX3_comesBack 9 = .ok (.iaload, 1) := by decide +kernel
theorem dX3_comesBack_10 : decode cX3_comesBack 10 = .ok (.istore_n 2, 1) := by decide +kernel
theorem dX3_comesBack_11 : decode cX3_comesBack 11 = .ok (.iconst 0, 1) := by decide +kernel
theorem dX3_comesBack_12 : decode cX3_comesBack 12 = .ok (.istore_n 3, 1) := by decide +kernel
theorem dX3_comesBack_13 : decode cX3_comesBack 13 = .ok (.iload_n 3, 1) := by decide +kernel
theorem dX3_comesBack_14 : decode cX3_comesBack 14 = .ok (.bipush 17, 2) := by decide +kernel
theorem dX3_comesBack_16 : decode cX3_comesBack 16 = .ok (.if_icmp .ge 51, 3) := by decide +kernel
theorem dX3_comesBack_19 : decode cX3_comesBack 19 = .ok (.iload_n 2, 1) := by decide +kernel
theorem dX3_comesBack_20 : decode cX3_comesBack 20 = .ok (.iload_n 1, 1) := by decide +kernel
theorem dX3_comesBack_21 : decode cX3_comesBack 21 = .ok (.if_icmp .ne 5, 3) := by decide +kernel
theorem dX3_comesBack_24 : decode cX3_comesBack 24 = .ok (.iconst 1, 1) := by decide +kernel
theorem dX3_comesBack_25 : decode cX3_comesBack 25 = .ok (.ireturn, 1) := by decide +kernel
theorem dX3_comesBack_26 : decode cX3_comesBack 26 = .ok (.iload_n 2, 1) := by decide +kernel
theorem dX3_comesBack_27 : decode cX3_comesBack 27 = .ok (.ifCond .le 21, 3) := by decide +kernel
theorem dX3_comesBack_30 : decode cX3_comesBack 30 = .ok (.aload_n 0, 1) := by decide +kernel
theorem dX3_comesBack_31 : decode cX3_comesBack 31 = .ok (.bipush 42, 2) := by decide +kernel
theorem dX3_comesBack_33 : decode cX3_comesBack 33 = .ok (.iload_n 2, 1) := by decide +kernel
theorem dX3_comesBack_34 : decode cX3_comesBack 34 = .ok (.invokevirtual 87, 3) := by decide +kernel
theorem dX3_comesBack_37 : decode cX3_comesBack 37 = .ok (.ifCond .eq 11, 3) := by decide +kernel
theorem dX3_comesBack_40 : decode cX3_comesBack 40 = .ok (.aload_n 0, 1) := by decide +kernel
theorem dX3_comesBack_41 : decode cX3_comesBack 41 = .ok (.iload_n 2, 1) := by decide +kernel
theorem dX3_comesBack_42 : decode cX3_comesBack 42 = .ok (.invokevirtual 140, 3) := by decide +kernel
theorem dX3_comesBack_45 : decode cX3_comesBack 45 = .ok (.ifCond .ne 5, 3) := by decide +kernel
theorem dX3_comesBack_48 : decode cX3_comesBack 48 = .ok (.iconst 0, 1) := by decide +kernel
theorem dX3_comesBack_49 : decode cX3_comesBack 49 = .ok (.ireturn, 1) := by decide +kernel
theorem dX3_comesBack_50 : decode cX3_comesBack 50 = .ok (.aload_n 0, 1) := by decide +kernel
theorem dX3_comesBack_51 : decode cX3_comesBack 51 = .ok (.getfield 31, 3) := by decide +kernel
theorem dX3_comesBack_54 : decode cX3_comesBack 54 = .ok (.sipush 672, 3) := by decide +kernel
theorem dX3_comesBack_57 : decode cX3_comesBack 57 = .ok (.iload_n 2, 1) := by decide +kernel
theorem dX3_comesBack_58 : decode cX3_comesBack 58 = .ok (.iadd, 1) := by decide +kernel
theorem dX3_comesBack_59 : decode cX3_comesBack 59 = .ok (.iaload, 1) := by decide +kernel
theorem dX3_comesBack_60 : decode cX3_comesBack 60 = .ok (.istore_n 2, 1) := by decide +kernel
theorem dX3_comesBack_61 : decode cX3_comesBack 61 = .ok (.iinc 3 1, 3) := by decide +kernel
theorem dX3_comesBack_64 : decode cX3_comesBack 64 = .ok (.goto (-51), 3) := by decide +kernel
theorem dX3_comesBack_67 : decode cX3_comesBack 67 = .ok (.iconst 0, 1) := by decide +kernel
theorem dX3_comesBack_68 : decode cX3_comesBack 68 = .ok (.ireturn, 1) := by decide +kernel
theorem dX3_listConflicts_0 : decode cX3_listConflicts 0 = .ok (.aload_n 0, 1) := by decide +kernel
theorem dX3_listConflicts_1 : decode cX3_listConflicts 1 = .ok (.getfield 64, 3) := by decide +kernel
theorem dX3_listConflicts_4 : decode cX3_listConflicts 4 = .ok (.iload_n 1, 1) := by decide +kernel
theorem dX3_listConflicts_5 : decode cX3_listConflicts 5 = .ok (.iconst 0, 1) := by decide +kernel
theorem dX3_listConflicts_6 : decode cX3_listConflicts 6 = .ok (.iastore, 1) := by decide +kernel
theorem dX3_listConflicts_7 : decode cX3_listConflicts 7 = .ok (.iconst 1, 1) := by decide +kernel
theorem dX3_listConflicts_8 : decode cX3_listConflicts 8 = .ok (.istore_n 2, 1) := by decide +kernel
theorem dX3_listConflicts_9 : decode cX3_listConflicts 9 = .ok (.iload_n 2, 1) := by decide +kernel
theorem dX3_listConflicts_10 : decode cX3_listConflicts 10 = .ok (.bipush 16, 2) := by decide +kernel
theorem dX3_listConflicts_12 : decode cX3_listConflicts 12 = .ok (.if_icmp .ge 211, 3) := by decide +kernel
theorem dX3_listConflicts_15 : decode cX3_listConflicts 15 = .ok (.aload_n 0, 1) := by decide +kernel
theorem dX3_listConflicts_16 : decode cX3_listConflicts 16 = .ok (.bipush 42, 2) := by decide +kernel
theorem dX3_listConflicts_18 : decode cX3_listConflicts 18 = .ok (.iload_n 2, 1) := by decide +kernel
theorem dX3_listConflicts_19 : decode cX3_listConflicts 19 = .ok (.invokevirtual 87, 3) := by decide +kernel
theorem dX3_listConflicts_22 : decode cX3_listConflicts 22 = .ok (.ifCond .eq 195, 3) := by decide +kernel
theorem dX3_listConflicts_25 : decode cX3_listConflicts 25 = .ok (.iconst 0, 1) := by decide +kernel
theorem dX3_listConflicts_26 : decode cX3_listConflicts 26 = .ok (.istore_n 3, 1) := by decide +kernel
theorem dX3_listConflicts_27 : decode cX3_listConflicts 27 = .ok (.iload_n 3, 1) := by decide +kernel
theorem dX3_listConflicts_28 : decode cX3_listConflicts 28 = .ok (.iconst 3, 1) := by decide +kernel
theorem dX3_listConflicts_29 : decode cX3_listConflicts 29 = .ok (.if_icmp .ge 30, 3) := by decide +kernel
theorem dX3_listConflicts_32 : decode cX3_listConflicts 32 = .ok (.aload_n 0, 1) := by decide +kernel
theorem dX3_listConflicts_33 : decode cX3_listConflicts 33 = .ok (.getfield 73, 3) := by decide +kernel
theorem dX3_listConflicts_36 : decode cX3_listConflicts 36 = .ok (.iload_n 2, 1) := by decide +kernel
theorem dX3_listConflicts_37 : decode cX3_listConflicts 37 = .ok (.iaload, 1) := by decide +kernel
theorem dX3_listConflicts_38 : decode cX3_listConflicts 38 = .ok (.iload_n 3, 1) := by decide +kernel
theorem dX3_listConflicts_39 : decode cX3_listConflicts 39 = .ok (.ishr, 1) := by decide +kernel
theorem dX3_listConflicts_40 : decode cX3_listConflicts 40 = .ok (.iconst 1, 1) := by decide +kernel
theorem dX3_listConflicts_41 : decode cX3_listConflicts 41 = .ok (.iand, 1) := by decide +kernel
theorem dX3_listConflicts_42 : decode cX3_listConflicts 42 = .ok (.iconst 1, 1) := by decide +kernel
theorem dX3_listConflicts_43 : decode cX3_listConflicts 43 = .ok (.if_icmp .ne 10, 3) := by decide +kernel
theorem dX3_listConflicts_46 : decode cX3_listConflicts 46 = .ok (.aload_n 0, 1) := by decide +kernel
theorem dX3_listConflicts_47 : decode cX3_listConflicts 47 = .ok (.iload_n 1, 1) := by decide +kernel
theorem dX3_listConflicts_48 : decode cX3_listConflicts 48 = .ok (.iload_n 2, 1) := by decide +kernel
theorem dX3_listConflicts_49 : decode cX3_listConflicts 49 = .ok (.iload_n 3, 1) := by decide +kernel
theorem dX3_listConflicts_50 : decode cX3_listConflicts 50 = .ok (.invokevirtual 143, 3) := by decide +kernel
theorem dX3_listConflicts_53 : decode cX3_listConflicts 53 = .ok (.iinc 3 1, 3) := by decide +kernel
theorem dX3_listConflicts_56 : decode cX3_listConflicts 56 = .ok (.goto (-29), 3) := by decide +kernel
theorem dX3_listConflicts_59 : decode cX3_listConflicts 59 = .ok (.iconst 0, 1) := by decide +kernel
theorem dX3_listConflicts_60 : decode cX3_listConflicts 60 = .ok (.istore_n 3, 1) := by decide +kernel
theorem dX3_listConflicts_61 : decode cX3_listConflicts 61 = .ok (.iconst 1, 1) := by decide +kernel
theorem dX3_listConflicts_62 : decode cX3_listConflicts 62 = .ok (.istore 4, 2) := by decide +kernel
theorem dX3_listConflicts_64 : decode cX3_listConflicts 64 = .ok (.iload 4, 2) := by decide +kernel
theorem dX3_listConflicts_66 : decode cX3_listConflicts 66 = .ok (.iload_n 2, 1) := by decide +kernel
theorem dX3_listConflicts_67 : decode cX3_listConflicts 67 = .ok (.if_icmp .ge 84, 3) := by decide +kernel
theorem dX3_listConflicts_70 : decode cX3_listConflicts 70 = .ok (.aload_n 0, 1) := by decide +kernel
theorem dX3_listConflicts_71 : decode cX3_listConflicts 71 = .ok (.bipush 42, 2) := by decide +kernel
theorem dX3_listConflicts_73 : decode cX3_listConflicts 73 = .ok (.iload 4, 2) := by decide +kernel
theorem dX3_listConflicts_75 : decode cX3_listConflicts 75 = .ok (.invokevirtual 87, 3) := by decide +kernel
theorem dX3_listConflicts_78 : decode cX3_listConflicts 78 = .ok (.ifCond .eq 65, 3) := by decide +kernel
theorem dX3_listConflicts_81 : decode cX3_listConflicts 81 = .ok (.aload_n 0, 1) := by decide +kernel
theorem dX3_listConflicts_82 : decode cX3_listConflicts 82 = .ok (.iload 4, 2) := by decide +kernel
theorem dX3_listConflicts_84 : decode cX3_listConflicts 84 = .ok (.invokevirtual 140, 3) := by decide +kernel
theorem dX3_listConflicts_87 : decode cX3_listConflicts 87 = .ok (.ifCond .eq 56, 3) := by decide +kernel
theorem dX3_listConflicts_90 : decode cX3_listConflicts 90 = .ok (.aload_n 0, 1) := by decide +kernel
theorem dX3_listConflicts_91 : decode cX3_listConflicts 91 = .ok (.getfield 31, 3) := by decide +kernel
theorem dX3_listConflicts_94 : decode cX3_listConflicts 94 = .ok (.sipush 672, 3) := by decide +kernel
theorem dX3_listConflicts_97 : decode cX3_listConflicts 97 = .ok (.iload 4, 2) := by decide +kernel
theorem dX3_listConflicts_99 : decode cX3_listConflicts 99 = .ok (.iadd, 1) := by decide +kernel
theorem dX3_listConflicts_100 : decode cX3_listConflicts 100 = .ok (.iaload, 1) := by decide +kernel
theorem dX3_listConflicts_101 : decode cX3_listConflicts 101 = .ok (.aload_n 0, 1) := by decide +kernel
theorem dX3_listConflicts_102 : decode cX3_listConflicts 102 = .ok (.getfield 31, 3) := by decide +kernel
theorem dX3_listConflicts_105 : decode cX3_listConflicts 105 = .ok (.sipush 672, 3) := by decide +kernel
theorem dX3_listConflicts_108 : decode cX3_listConflicts 108 = .ok (.iload_n 2, 1) := by decide +kernel
theorem dX3_listConflicts_109 : decode cX3_listConflicts 109 = .ok (.iadd, 1) := by decide +kernel
theorem dX3_listConflicts_110 : decode cX3_listConflicts 110 = .ok (.iaload, 1) := by decide +kernel
theorem dX3_listConflicts_111 : decode cX3_listConflicts 111 = .ok (.if_icmp .ne 32, 3) := by decide +kernel
theorem dX3_listConflicts_114 : decode cX3_listConflicts 114 = .ok (.aload_n 0, 1) := by decide +kernel
theorem dX3_listConflicts_115 : decode cX3_listConflicts 115 = .ok (.getfield 34, 3) := by decide +kernel
theorem dX3_listConflicts_118 : decode cX3_listConflicts 118 = .ok (.sipush 672, 3) := by decide +kernel
theorem dX3_listConflicts_121 : decode cX3_listConflicts 121 = .ok (.iload 4, 2) := by decide +kernel
theorem dX3_listConflicts_123 : decode cX3_listConflicts 123 = .ok (.iadd, 1) := by decide +kernel
theorem dX3_listConflicts_124 : decode cX3_listConflicts 124 = .ok (.iaload, 1) := by decide +kernel
theorem dX3_listConflicts_125 : decode cX3_listConflicts 125 = .ok (.aload_n 0, 1) := by decide +kernel
theorem dX3_listConflicts_126 : decode cX3_listConflicts 126 = .ok (.getfield 34, 3) := by decide +kernel
theorem dX3_listConflicts_129 : decode cX3_listConflicts 129 = .ok (.sipush 672, 3) := by decide +kernel
theorem dX3_listConflicts_132 : decode cX3_listConflicts 132 = .ok (.iload_n 2, 1) := by decide +kernel
theorem dX3_listConflicts_133 : decode cX3_listConflicts 133 = .ok (.iadd, 1) := by decide +kernel
theorem dX3_listConflicts_134 : decode cX3_listConflicts 134 = .ok (.iaload, 1) := by decide +kernel
theorem dX3_listConflicts_135 : decode cX3_listConflicts 135 = .ok (.if_icmp .ne 8, 3) := by decide +kernel
theorem dX3_listConflicts_138 : decode cX3_listConflicts 138 = .ok (.iload 4, 2) := by decide +kernel
theorem dX3_listConflicts_140 : decode cX3_listConflicts 140 = .ok (.goto 4, 3) := by decide +kernel
theorem dX3_listConflicts_143 : decode cX3_listConflicts 143 = .ok (.iload_n 3, 1) := by decide +kernel
theorem dX3_listConflicts_144 : decode cX3_listConflicts 144 = .ok (.istore_n 3, 1) := by decide +kernel
