theorem dX3_closed_35 : decode cX3_closed 35 = .ok (.lor, 1) := by decide +kernel
theorem dX3_closed_36 : decode cX3_closed 36 = .ok (.lstore_n 3, 1) := by decide +kernel
theorem dX3_closed_37 : decode cX3_closed 37 = .ok (.iinc 5 1, 3) := by decide +kernel
theorem dX3_closed_40 : decode cX3_closed 40 = .ok (.goto (-35), 3) := by decide +kernel
theorem dX3_closed_43 : decode cX3_closed 43 = .ok (.lload_n 3, 1) := by decide +kernel
theorem dX3_closed_44 : decode cX3_closed 44 = .ok (.lreturn, 1) := by decide +kernel
theorem dX3_bits_0 : decode cX3_bits 0 = .ok (.iconst 0, 1) := by decide +kernel
theorem dX3_bits_1 : decode cX3_bits 1 = .ok (.istore_n 2, 1) := by decide +kernel
theorem dX3_bits_2 : decode cX3_bits 2 = .ok (.iconst 0, 1) := by decide +kernel
theorem dX3_bits_3 : decode cX3_bits 3 = .ok (.istore_n 3, 1) := by decide +kernel
theorem dX3_bits_4 : decode cX3_bits 4 = .ok (.iload_n 3, 1) := by decide +kernel
theorem dX3_bits_5 : decode cX3_bits 5 = .ok (.bipush 64, 2) := by decide +kernel
theorem dX3_bits_7 : decode cX3_bits 7 = .ok (.if_icmp .ge 18, 3) := by decide +kernel
theorem dX3_bits_10 : decode cX3_bits 10 = .ok (.iload_n 2, 1) := by decide +kernel
theorem dX3_bits_11 : decode cX3_bits 11 = .ok (.lload_n 0, 1) := by decide +kernel
theorem dX3_bits_12 : decode cX3_bits 12 = .ok (.iload_n 3, 1) := by decide +kernel
theorem dX3_bits_13 : decode cX3_bits 13 = .ok (.lshr, 1) := by decide +kernel
theorem dX3_bits_14 : decode cX3_bits 14 = .ok (.lconst 1, 1) := by decide +kernel
theorem dX3_bits_15 : decode cX3_bits 15 = .ok (.land, 1) := by decide +kernel
theorem dX3_bits_16 : decode cX3_bits 16 = .ok (.l2i, 1) := by decide +kernel
theorem dX3_bits_17 : decode cX3_bits 17 = .ok (.iadd, 1) := by decide +kernel
theorem dX3_bits_18 : decode cX3_bits 18 = .ok (.istore_n 2, 1) := by decide +kernel
theorem dX3_bits_19 : decode cX3_bits 19 = .ok (.iinc 3 1, 3) := by decide +kernel
theorem dX3_bits_22 : decode cX3_bits 22 = .ok (.goto (-18), 3) := by decide +kernel
theorem dX3_bits_25 : decode cX3_bits 25 = .ok (.iload_n 2, 1) := by decide +kernel
theorem dX3_bits_26 : decode cX3_bits 26 = .ok (.ireturn, 1) := by decide +kernel
theorem dX3_exchange_0 : decode cX3_exchange 0 = .ok (.aload_n 0, 1) := by decide +kernel
theorem dX3_exchange_1 : decode cX3_exchange 1 = .ok (.iconst 0, 1) := by decide +kernel
theorem dX3_exchange_2 : decode cX3_exchange 2 = .ok (.putfield 76, 3) := by decide +kernel
theorem dX3_exchange_5 : decode cX3_exchange 5 = .ok (.iload_n 1, 1) := by decide +kernel
theorem dX3_exchange_6 : decode cX3_exchange 6 = .ok (.iconst 0, 1) := by decide +kernel
theorem dX3_exchange_7 : decode cX3_exchange 7 = .ok (.iconst 2, 1) := by decide +kernel
theorem dX3_exchange_8 : decode cX3_exchange 8 = .ok (.invokestatic 79, 3) := by decide +kernel
theorem dX3_exchange_11 : decode cX3_exchange 11 = .ok (.ifCond .ne 9, 3) := by decide +kernel
theorem dX3_exchange_14 : decode cX3_exchange 14 = .ok (.aload_n 0, 1) := by decide +kernel
theorem dX3_exchange_15 : decode cX3_exchange 15 = .ok (.iconst 1, 1) := by decide +kernel
theorem dX3_exchange_16 : decode cX3_exchange 16 = .ok (.invokevirtual 106, 3) := by decide +kernel
theorem dX3_exchange_19 : decode cX3_exchange 19 = .ok (.ireturn, 1) := by decide +kernel
theorem dX3_exchange_20 : decode cX3_exchange 20 = .ok (.aload_n 0, 1) := by decide +kernel
theorem dX3_exchange_21 : decode cX3_exchange 21 = .ok (.aload_n 0, 1) := by decide +kernel
theorem dX3_exchange_22 : decode cX3_exchange 22 = .ok (.iconst 0, 1) := by decide +kernel
theorem dX3_exchange_23 : decode cX3_exchange 23 = .ok (.iload_n 1, 1) := by decide +kernel
theorem dX3_exchange_24 : decode cX3_exchange 24 = .ok (.invokevirtual 161, 3) := by decide +kernel
theorem dX3_exchange_27 : decode cX3_exchange 27 = .ok (.invokevirtual 165, 3) := by decide +kernel
theorem dX3_exchange_30 : decode cX3_exchange 30 = .ok (.lstore_n 2, 1) := by decide +kernel
theorem dX3_exchange_31 : decode cX3_exchange 31 = .ok (.aload_n 0, 1) := by decide +kernel
theorem dX3_exchange_32 : decode cX3_exchange 32 = .ok (.aload_n 0, 1) := by decide +kernel
theorem dX3_exchange_33 : decode cX3_exchange 33 = .ok (.iconst 1, 1) := by decide +kernel
theorem dX3_exchange_34 : decode cX3_exchange 34 = .ok (.iload_n 1, 1) := by decide +kernel
theorem dX3_exchange_35 : decode cX3_exchange 35 = .ok (.invokevirtual 161, 3) := by decide +kernel
theorem dX3_exchange_38 : decode cX3_exchange 38 = .ok (.invokevirtual 165, 3) := by decide +kernel
theorem dX3_exchange_41 : decode cX3_exchange 41 = .ok (.lstore 4, 2) := by decide +kernel
theorem dX3_exchange_43 : decode cX3_exchange 43 = .ok (.lload_n 2, 1) := by decide +kernel
theorem dX3_exchange_44 : decode cX3_exchange 44 = .ok (.aload_n 0, 1) := by decide +kernel
theorem dX3_exchange_45 : decode cX3_exchange 45 = .ok (.getfield 46, 3) := by decide +kernel
theorem dX3_exchange_48 : decode cX3_exchange 48 = .ok (.iconst 1, 1) := by decide +kernel
theorem dX3_exchange_49 : decode cX3_exchange 49 = .ok (.laload, 1) := by decide +kernel
theorem dX3_exchange_50 : decode cX3_exchange 50 = .ok (.ldc2_w 120, 3) := by decide +kernel
theorem dX3_exchange_53 : decode cX3_exchange 53 = .ok (.lxor, 1) := by decide +kernel
theorem dX3_exchange_54 : decode cX3_exchange 54 = .ok (.land, 1) := by decide +kernel
theorem dX3_exchange_55 : decode cX3_exchange 55 = .ok (.invokestatic 168, 3) := by decide +kernel
theorem dX3_exchange_58 : decode cX3_exchange 58 = .ok (.lload 4, 2) := by decide +kernel
theorem dX3_exchange_60 : decode cX3_exchange 60 = .ok (.aload_n 0, 1) := by decide +kernel
theorem dX3_exchange_61 : decode cX3_exchange 61 = .ok (.getfield 46, 3) := by decide +kernel
theorem dX3_exchange_64 : decode cX3_exchange 64 = .ok (.iconst 0, 1) := by decide +kernel
theorem dX3_exchange_65 : decode cX3_exchange 65 = .ok (.laload, 1) := by decide +kernel
theorem dX3_exchange_66 : decode cX3_exchange 66 = .ok (.ldc2_w 120, 3) := by decide +kernel
theorem dX3_exchange_69 : decode cX3_exchange 69 = .ok (.lxor, 1) := by decide +kernel
theorem dX3_exchange_70 : decode cX3_exchange 70 = .ok (.land, 1) := by decide +kernel
theorem dX3_exchange_71 : decode cX3_exchange 71 = .ok (.invokestatic 168, 3) := by decide +kernel
theorem dX3_exchange_74 : decode cX3_exchange 74 = .ok (.iadd, 1) := by decide +kernel
theorem dX3_exchange_75 : decode cX3_exchange 75 = .ok (.istore 6, 2) := by decide +kernel
theorem dX3_exchange_77 : decode cX3_exchange 77 = .ok (.aload_n 0, 1) := by decide +kernel
theorem dX3_exchange_78 : decode cX3_exchange 78 = .ok (.getfield 46, 3) := by decide +kernel
theorem dX3_exchange_81 : decode cX3_exchange 81 = .ok (.iconst 1, 1) := by decide +kernel
theorem dX3_exchange_82 : decode cX3_exchange 82 = .ok (.dup2, 1) := by decide +kernel
theorem dX3_exchange_83 : decode cX3_exchange 83 = .ok (.laload, 1) := by decide +kernel
theorem dX3_exchange_84 : decode cX3_exchange 84 = .ok (.lload_n 2, 1) := by decide +kernel
theorem dX3_exchange_85 : decode cX3_exchange 85 = .ok (.lor, 1) := by decide +kernel
theorem dX3_exchange_86 : decode cX3_exchange 86 = .ok (.lastore, 1) := by decide +kernel
theorem dX3_exchange_87 : decode cX3_exchange 87 = .ok (.aload_n 0, 1) := by decide +kernel
theorem dX3_exchange_88 : decode cX3_exchange 88 = .ok (.getfield 46, 3) := by decide +kernel
theorem dX3_exchange_91 : decode cX3_exchange 91 = .ok (.iconst 0, 1) := by decide +kernel
theorem dX3_exchange_92 : decode cX3_exchange 92 = .ok (.dup2, 1) := by decide +kernel
theorem dX3_exchange_93 : decode cX3_exchange 93 = .ok (.laload, 1) := by decide +kernel
theorem dX3_exchange_94 : decode cX3_exchange 94 = .ok (.lload 4, 2) := by decide +kernel
theorem dX3_exchange_96 : decode cX3_exchange 96 = .ok (.lor, 1) := by decide +kernel
theorem dX3_exchange_97 : decode cX3_exchange 97 = .ok (.lastore, 1) := by decide +kernel
theorem dX3_exchange_98 : decode cX3_exchange 98 = .ok (.iconst 0, 1) := by decide +kernel
theorem dX3_exchange_99 : decode cX3_exchange 99 = .ok (.istore 7, 2) := by decide +kernel
theorem dX3_exchange_101 : decode cX3_exchange 101 = .ok (.iload 7, 2) := by decide +kernel
theorem dX3_exchange_103 : decode cX3_exchange 103 = .ok (.bipush 12, 2) := by decide +kernel
theorem dX3_exchange_105 : decode cX3_exchange 105 = .ok (.if_icmp .ge 105, 3) := by decide +kernel
theorem dX3_exchange_108 : decode cX3_exchange 108 = .ok (.aload_n 0, 1) := by decide +kernel
theorem dX3_exchange_109 : decode cX3_exchange 109 = .ok (.getfield 58, 3) := by decide +kernel
theorem dX3_exchange_112 : decode cX3_exchange 112 = .ok (.iload 7, 2) := by decide +kernel
theorem dX3_exchange_114 : decode cX3_exchange 114 = .ok (.laload, 1) := by decide +kernel
theorem dX3_exchange_115 : decode cX3_exchange 115 = .ok (.lload_n 2, 1) := by decide +kernel
theorem dX3_exchange_116 : decode cX3_exchange 116 = .ok (.land, 1) := by decide +kernel
theorem dX3_exchange_117 : decode cX3_exchange 117 = .ok (.lstore 8, 2) := by decide +kernel
theorem dX3_exchange_119 : decode cX3_exchange 119 = .ok (.aload_n 0, 1) := by decide +kernel
theorem dX3_exchange_120 : decode cX3_exchange 120 = .ok (.getfield 58, 3) := by decide +kernel
theorem dX3_exchange_123 : decode cX3_exchange 123 = .ok (.bipush 12, 2) := by decide +kernel
theorem dX3_exchange_125 : decode cX3_exchange 125 = .ok (.iload 7, 2) := by decide +kernel
theorem dX3_exchange_127 : decode cX3_exchange 127 = .ok (.iadd, 1) := by decide +kernel
theorem dX3_exchange_128 : decode cX3_exchange 128 = .ok (.laload, 1) := by decide +kernel
theorem dX3_exchange_129 : decode cX3_exchange 129 = .ok (.lload 4, 2) := by decide +kernel
theorem dX3_exchange_131 : decode cX3_exchange 131 = .ok (.land, 1) := by decide +kernel
theorem dX3_exchange_132 : decode cX3_exchange 132 = .ok (.lstore 10, 2) := by decide +kernel
theorem dX3_exchange_134 : decode cX3_exchange 134 = .ok (.iload 6, 2) := by decide +kernel
theorem dX3_exchange_136 : decode cX3_exchange 136 = .ok (.lload 8, 2) := by decide +kernel
theorem dX3_exchange_138 : decode cX3_exchange 138 = .ok (.aload_n 0, 1) := by decide +kernel
theorem dX3_exchange_139 : decode cX3_exchange 139 = .ok (.getfield 58, 3) := by decide +kernel
theorem dX3_exchange_142 : decode cX3_exchange 142 = .ok (.bipush 12, 2) := by decide +kernel
theorem dX3_exchange_144 : decode cX3_exchange 144 = .ok (.iload 7, 2) := by decide +kernel
theorem dX3_exchange_146 : decode cX3_exchange 146 = .ok (.iadd, 1) := by decide +kernel
theorem dX3_exchange_147 : decode cX3_exchange 147 = .ok (.laload, 1) := by decide +kernel
theorem dX3_exchange_148 : decode cX3_exchange 148 = .ok (.ldc2_w 120, 3) := by decide +kernel
theorem dX3_exchange_151 : decode cX3_exchange 151 = .ok (.lxor, 1) := by decide +kernel
theorem dX3_exchange_152 : decode cX3_exchange 152 = .ok (.land, 1) := by decide +kernel
theorem dX3_exchange_153 : decode cX3_exchange 153 = .ok (.invokestatic 168, 3) := by decide +kernel
theorem dX3_exchange_156 : decode cX3_exchange 156 = .ok (.lload 10, 2) := by decide +kernel
theorem dX3_exchange_158 : decode cX3_exchange 158 = .ok (.aload_n 0, 1) := by decide +kernel
theorem dX3_exchange_159 : decode cX3_exchange 159 = .ok (.getfield 58, 3) := by decide +kernel
theorem dX3_exchange_162 : decode cX3_exchange 162 = .ok (.iload 7, 2) := by decide +kernel
theorem dX3_exchange_164 : decode cX3_exchange 164 = .ok (.laload, 1) := by decide +kernel
theorem dX3_exchange_165 : decode cX3_exchange 165 = .ok (.ldc2_w 120, 3) := by decide +kernel
theorem dX3_exchange_168 : decode cX3_exchange 168 = .ok (.lxor, 1) := by decide +kernel
theorem dX3_exchange_169 : decode cX3_exchange 169 = .ok (.land, 1) := by decide +kernel
theorem dX3_exchange_170 : decode cX3_exchange 170 = .ok (.invokestatic 168, 3) := by decide +kernel
theorem dX3_exchange_173 : decode cX3_exchange 173 = .ok (.iadd, 1) := by decide +kernel
theorem dX3_exchange_174 : decode cX3_exchange 174 = .ok (.iadd, 1) := by decide +kernel
theorem dX3_exchange_175 : decode cX3_exchange 175 = .ok (.istore 6, 2) := by decide +kernel
theorem dX3_exchange_177 : decode cX3_exchange 177 = .ok (.aload_n 0, 1) := by decide +kernel
theorem dX3_exchange_178 : decode cX3_exchange 178 = .ok (.getfield 58, 3) := by decide +kernel
theorem dX3_exchange_181 : decode cX3_exchange 181 = .ok (.bipush 12, 2) := by decide +kernel
theorem dX3_exchange_183 : decode cX3_exchange 183 = .ok (.iload 7, 2) := by decide +kernel
theorem dX3_exchange_185 : decode cX3_exchange 185 = .ok (.iadd, 1) := by decide +kernel
theorem dX3_exchange_186 : decode cX3_exchange 186 = .ok (.dup2, 1) := by decide +kernel
theorem dX3_exchange_187 : decode cX3_exchange 187 = .ok (.laload, 1) := by decide +kernel
theorem dX3_exchange_188 : decode cX3_exchange 188 = .ok (.lload 8, 2) := by decide +kernel
theorem dX3_exchange_190 : decode cX3_exchange 190 = .ok (.lor, 1) := by decide +kernel
theorem dX3_exchange_191 : decode cX3_exchange 191 = .ok (.lastore, 1) := by decide +kernel
theorem dX3_exchange_192 : decode cX3_exchange 192 = .ok (.aload_n 0, 1) := by decide +kernel
theorem dX3_exchange_193 : decode cX3_exchange 193 = .ok (.getfield 58, 3) := by decide +kernel
theorem dX3_exchange_196 : decode cX3_exchange 196 = .ok (.iload 7, 2) := by decide +kernel
theorem dX3_exchange_198 : decode cX3_exchange 198 = .ok (.dup2, 1) := by decide +kernel
theorem dX3_exchange_199 : decode cX3_exchange 199 = .ok (.laload, 1) := by decide +kernel
theorem dX3_exchange_200 : decode cX3_exchange 200 = .ok (.lload 10, 2) := by decide +kernel
theorem dX3_exchange_202 : decode cX3_exchange 202 = .ok (.lor, 1) := by decide +kernel
theorem dX3_exchange_203 : decode cX3_exchange 203 = .ok (.lastore, 1) := by decide +kernel
theorem dX3_exchange_204 : decode cX3_exchange 204 = .ok (.iinc 7 1, 3) := by decide +kernel
theorem dX3_exchange_207 : decode cX3_exchange 207 = .ok (.goto (-106), 3) := by decide +kernel
theorem dX3_exchange_210 : decode cX3_exchange 210 = .ok (.iload 6, 2) := by decide +kernel
theorem dX3_exchange_212 : decode cX3_exchange 212 = .ok (.ireturn, 1) := by decide +kernel
theorem dX3_has_0 : decode cX3_has 0 = .ok (.aload_n 0, 1) := by decide +kernel
theorem dX3_has_1 : decode cX3_has 1 = .ok (.iconst 0, 1) := by decide +kernel
theorem dX3_has_2 : decode cX3_has 2 = .ok (.putfield 76, 3) := by decide +kernel
theorem dX3_has_5 : decode cX3_has 5 = .ok (.iload_n 1, 1) := by decide +kernel
theorem dX3_has_6 : decode cX3_has 6 = .ok (.invokestatic 95, 3) := by decide +kernel
theorem dX3_has_9 : decode cX3_has 9 = .ok (.ifCond .eq 12, 3) := by decide +kernel
theorem dX3_has_12 : decode cX3_has 12 = .ok (.aload_n 0, 1) := by decide +kernel
theorem dX3_has_13 : decode cX3_has 13 = .ok (.getfield 46, 3) := by decide +kernel
theorem dX3_has_16 : decode cX3_has 16 = .ok (.iload_n 1, 1) := by decide +kernel
theorem dX3_has_17 : decode cX3_has 17 = .ok (.laload, 1) := by decide +kernel
theorem dX3_has_18 : decode cX3_has 18 = .ok (.goto 9, 3) := by decide +kernel
theorem dX3_has_21 : decode cX3_has 21 = .ok (.aload_n 0, 1) := by decide +kernel
theorem dX3_has_22 : decode cX3_has 22 = .ok (.iconst 1, 1) := by decide +kernel
theorem dX3_has_23 : decode cX3_has 23 = .ok (.invokevirtual 106, 3) := by decide +kernel
theorem dX3_has_26 : decode cX3_has 26 = .ok (.i2l, 1) := by decide +kernel
theorem dX3_has_27 : decode cX3_has 27 = .ok (.lreturn, 1) := by decide +kernel
theorem dJ13_bitCount_95d88_0 : decode cJ13_bitCount_95d88 0 = .ok (.lload_n 0, 1) := by decide +kernel
theorem dJ13_bitCount_95d88_1 : decode cJ13_bitCount_95d88 1 = .ok (.lload_n 0, 1) := by decide +kernel
theorem dJ13_bitCount_95d88_2 : decode cJ13_bitCount_95d88 2 = .ok (.iconst 1, 1) := by decide +kernel
theorem dJ13_bitCount_95d88_3 : decode cJ13_bitCount_95d88 3 = .ok (.lushr, 1) := by decide +kernel
theorem dJ13_bitCount_95d88_4 : decode cJ13_bitCount_95d88 4 = .ok (.ldc2_w 314, 3) := by decide +kernel
theorem dJ13_bitCount_95d88_7 : decode cJ13_bitCount_95d88 7 = .ok (.land, 1) := by decide +kernel
theorem dJ13_bitCount_95d88_8 : decode cJ13_bitCount_95d88 8 = .ok (.lsub, 1) := by decide +kernel
theorem dJ13_bitCount_95d88_9 : decode cJ13_bitCount_95d88 9 = .ok (.lstore_n 0, 1) := by decide +kernel
theorem dJ13_bitCount_95d88_10 : decode cJ13_bitCount_95d88 10 = .ok (.lload_n 0, 1) := by decide +kernel
theorem dJ13_bitCount_95d88_11 : decode cJ13_bitCount_95d88 11 = .ok (.ldc2_w 316, 3) := by decide +kernel
theorem dJ13_bitCount_95d88_14 : decode cJ13_bitCount_95d88 14 = .ok (.land, 1) := by decide +kernel
theorem dJ13_bitCount_95d88_15 : decode cJ13_bitCount_95d88 15 = .ok (.lload_n 0, 1) := by decide +kernel
theorem dJ13_bitCount_95d88_16 : decode cJ13_bitCount_95d88 16 = .ok (.iconst 2, 1) := by decide +kernel
theorem dJ13_bitCount_95d88_17 : decode cJ13_bitCount_95d88 17 = .ok (.lushr, 1) := by decide +kernel
theorem dJ13_bitCount_95d88_18 : decode cJ13_bitCount_95d88 18 = .ok (.ldc2_w 316, 3) := by decide +kernel
theorem dJ13_bitCount_95d88_21 : decode cJ13_bitCount_95d88 21 = .ok (.land, 1) := by decide +kernel
theorem dJ13_bitCount_95d88_22 : decode cJ13_bitCount_95d88 22 = .ok (.ladd, 1) := by decide +kernel
theorem dJ13_bitCount_95d88_23 : decode cJ13_bitCount_95d88 23 = .ok (.lstore_n 0, 1) := by decide +kernel
theorem dJ13_bitCount_95d88_24 : decode cJ13_bitCount_95d88 24 = .ok (.lload_n 0, 1) := by decide +kernel
theorem dJ13_bitCount_95d88_25 : decode cJ13_bitCount_95d88 25 = .ok (.lload_n 0, 1) := by decide +kernel
theorem dJ13_bitCount_95d88_26 : decode cJ13_bitCount_95d88 26 = .ok (.iconst 4, 1) := by decide +kernel
theorem dJ13_bitCount_95d88_27 : decode cJ13_bitCount_95d88 27 = .ok (.lushr, 1) := by decide +kernel
theorem dJ13_bitCount_95d88_28 : decode cJ13_bitCount_95d88 28 = .ok (.ladd, 1) := by decide +kernel
theorem dJ13_bitCount_95d88_29 : decode cJ13_bitCount_95d88 29 = .ok (.ldc2_w 318, 3) := by decide +kernel
theorem dJ13_bitCount_95d88_32 : decode cJ13_bitCount_95d88 32 = .ok (.land, 1) := by decide +kernel
theorem dJ13_bitCount_95d88_33 : decode cJ13_bitCount_95d88 33 = .ok (.lstore_n 0, 1) := by decide +kernel
theorem dJ13_bitCount_95d88_34 : decode cJ13_bitCount_95d88 34 = .ok (.lload_n 0, 1) := by decide +kernel
theorem dJ13_bitCount_95d88_35 : decode cJ13_bitCount_95d88 35 = .ok (.lload_n 0, 1) := by decide +kernel
theorem dJ13_bitCount_95d88_36 : decode cJ13_bitCount_95d88 36 = .ok (.bipush 8, 2) := by decide +kernel
theorem dJ13_bitCount_95d88_38 : decode cJ13_bitCount_95d88 38 = .ok (.lushr, 1) := by decide +kernel
theorem dJ13_bitCount_95d88_39 : decode cJ13_bitCount_95d88 39 = .ok (.ladd, 1) := by decide +kernel
theorem dJ13_bitCount_95d88_40 : decode cJ13_bitCount_95d88 40 = .ok (.lstore_n 0, 1) := by decide +kernel
theorem dJ13_bitCount_95d88_41 : decode cJ13_bitCount_95d88 41 = .ok (.lload_n 0, 1) := by decide +kernel
theorem dJ13_bitCount_95d88_42 : decode cJ13_bitCount_95d88 42 = .ok (.lload_n 0, 1) := by decide +kernel
theorem dJ13_bitCount_95d88_43 : decode cJ13_bitCount_95d88 43 = .ok (.bipush 16, 2) := by decide +kernel
theorem dJ13_bitCount_95d88_45 : decode cJ13_bitCount_95d88 45 = .ok (.lushr, 1) := by decide +kernel
theorem dJ13_bitCount_95d88_46 : decode cJ13_bitCount_95d88 46 = .ok (.ladd, 1) := by decide +kernel
theorem dJ13_bitCount_95d88_47 : decode cJ13_bitCount_95d88 47 = .ok (.lstore_n 0, 1) := by decide +kernel
theorem dJ13_bitCount_95d88_48 : decode cJ13_bitCount_95d88 48 = .ok (.lload_n 0, 1) := by decide +kernel
theorem dJ13_bitCount_95d88_49 : decode cJ13_bitCount_95d88 49 = .ok (.lload_n 0, 1) := by decide +kernel
theorem dJ13_bitCount_95d88_50 : decode cJ13_bitCount_95d88 50 = .ok (.bipush 32, 2) := by decide +kernel
theorem dJ13_bitCount_95d88_52 : decode cJ13_bitCount_95d88 52 = .ok (.lushr, 1) := by decide +kernel
theorem dJ13_bitCount_95d88_53 : decode cJ13_bitCount_95d88 53 = .ok (.ladd, 1) := by decide +kernel
theorem dJ13_bitCount_95d88_54 : decode cJ13_bitCount_95d88 54 = .ok (.lstore_n 0, 1) := by decide +kernel
theorem dJ13_bitCount_95d88_55 : decode cJ13_bitCount_95d88 55 = .ok (.lload_n 0, 1) := by decide +kernel
theorem dJ13_bitCount_95d88_56 : decode cJ13_bitCount_95d88 56 = .ok (.l2i, 1) := by decide +kernel
theorem dJ13_bitCount_95d88_57 : decode cJ13_bitCount_95d88 57 = .ok (.bipush 127, 2) := by decide +kernel
theorem dJ13_bitCount_95d88_59 : decode cJ13_bitCount_95d88 59 = .ok (.iand, 1) := by decide +kernel
theorem dJ13_bitCount_95d88_60 : decode cJ13_bitCount_95d88 60 = .ok (.ireturn, 1) := by decide +kernel
theorem dJ7_fill_53178_0 : decode cJ7_fill_53178 0 = .ok (.iconst 0, 1) := by decide +kernel
theorem dJ7_fill_53178_1 : decode cJ7_fill_53178 1 = .ok (.istore_n 2, 1) := by decide +kernel
theorem dJ7_fill_53178_2 : decode cJ7_fill_53178 2 = .ok (.aload_n 0, 1) := by decide +kernel
theorem dJ7_fill_53178_3 : decode cJ7_fill_53178 3 = .ok (.arraylength, 1) := by decide +kernel
theorem dJ7_fill_53178_4 : decode cJ7_fill_53178 4 = .ok (.istore_n 3, 1) := by decide +kernel
theorem dJ7_fill_53178_5 : decode cJ7_fill_53178 5 = .ok (.iload_n 2, 1) := by decide +kernel
theorem dJ7_fill_53178_6 : decode cJ7_fill_53178 6 = .ok (.iload_n 3, 1) := by decide +kernel
theorem dJ7_fill_53178_7 : decode cJ7_fill_53178 7 = .ok (.if_icmp .ge 13, 3) := by decide +kernel
theorem dJ7_fill_53178_10 : decode cJ7_fill_53178 10 = .ok (.aload_n 0, 1) := by decide +kernel
theorem dJ7_fill_53178_11 : decode cJ7_fill_53178 11 = .ok (.iload_n 2, 1) := by decide +kernel
theorem dJ7_fill_53178_12 : decode cJ7_fill_53178 12 = .ok (.iload_n 1, 1) := by decide +kernel
theorem dJ7_fill_53178_13 : decode cJ7_fill_53178 13 = .ok (.iastore, 1) := by decide +kernel
theorem dJ7_fill_53178_14 : decode cJ7_fill_53178 14 = .ok (.iinc 2 1, 3) := by decide +kernel
theorem dJ7_fill_53178_17 : decode cJ7_fill_53178 17 = .ok (.goto (-12), 3) := by decide +kernel
theorem dJ7_fill_53178_20 : decode cJ7_fill_53178 20 = .ok (.return_, 1) := by decide +kernel
theorem dL_open_0 : decode cL_open 0 = .ok (.aload_n 0, 1) := by decide +kernel
theorem dL_open_1 : decode cL_open 1 = .ok (.iload_n 1, 1) := by decide +kernel
theorem dL_open_2 : decode cL_open 2 = .ok (.iload_n 2, 1) := by decide +kernel
theorem dL_open_3 : decode cL_open 3 = .ok (.invokevirtual 7, 3) := by decide +kernel
theorem dL_open_6 : decode cL_open 6 = .ok (.goto 6, 3) := by decide +kernel
theorem dL_open_9 : decode cL_open 9 = .ok (.astore_n 3, 1) := by decide +kernel
theorem dL_open_10 : decode cL_open 10 = .ok (.iconst 1, 1) := by decide +kernel
theorem dL_open_11 : decode cL_open 11 = .ok (.ireturn, 1) := by decide +kernel
theorem dL_open_12 : decode cL_open 12 = .ok (.iconst 0, 1) := by decide +kernel
theorem dL_open_13 : decode cL_open 13 = .ok (.ireturn, 1) := by decide +kernel
theorem dL_add_0 : decode cL_add 0 = .ok (.aload 5, 2) := by decide +kernel
theorem dL_add_2 : decode cL_add 2 = .ok (.iconst 0, 1) := by decide +kernel
theorem dL_add_3 : decode cL_add 3 = .ok (.aload_n 0, 1) := by decide +kernel
theorem dL_add_4 : decode cL_add 4 = .ok (.iload_n 1, 1) := by decide +kernel
theorem dL_add_5 : decode cL_add 5 = .ok (.iload_n 2, 1) := by decide +kernel
theorem dL_add_6 : decode cL_add 6 = .ok (.iload_n 3, 1) := by decide +kernel
theorem dL_add_7 : decode cL_add 7 = .ok (.iload 4, 2) := by decide +kernel
theorem dL_add_9 : decode cL_add 9 = .ok (.invokevirtual 15, 3) := by decide +kernel
theorem dL_add_12 : decode cL_add 12 = .ok (.i2l, 1) := by decide +kernel
theorem dL_add_13 : decode cL_add 13 = .ok (.lastore, 1) := by decide +kernel
theorem dL_add_14 : decode cL_add 14 = .ok (.goto 15, 3) := by decide +kernel
theorem dL_add_17 : decode cL_add 17 = .ok (.astore 6, 2) := by decide +kernel
theorem dL_add_19 : decode cL_add 19 = .ok (.iconst 1, 1) := by decide +kernel
theorem dL_add_20 : decode cL_add 20 = .ok (.ireturn, 1) := by decide +kernel
theorem dL_add_21 : decode cL_add 21 = .ok (.astore 6, 2) := by decide +kernel
theorem dL_add_23 : decode cL_add 23 = .ok (.iconst 2, 1) := by decide +kernel
theorem dL_add_24 : decode cL_add 24 = .ok (.ireturn, 1) := by decide +kernel
theorem dL_add_25 : decode cL_add 25 = .ok (.astore 6, 2) := by decide +kernel
theorem dL_add_27 : decode cL_add 27 = .ok (.iconst 3, 1) := by decide +kernel
theorem dL_add_28 : decode cL_add 28 = .ok (.ireturn, 1) := by decide +kernel
theorem dL_add_29 : decode cL_add 29 = .ok (.iconst 0, 1) := by decide +kernel
theorem dL_add_30 : decode cL_add 30 = .ok (.ireturn, 1) := by decide +kernel
theorem dL_drop_0 : decode cL_drop 0 = .ok (.aload_n 0, 1) := by decide +kernel
theorem dL_drop_1 : decode cL_drop 1 = .ok (.iload_n 1, 1) := by decide +kernel
theorem dL_drop_2 : decode cL_drop 2 = .ok (.iload_n 2, 1) := by decide +kernel
theorem dL_drop_3 : decode cL_drop 3 = .ok (.invokevirtual 23, 3) := by decide +kernel
theorem dL_drop_6 : decode cL_drop 6 = .ok (.goto 12, 3) := by decide +kernel
theorem dL_drop_9 : decode cL_drop 9 = .ok (.astore_n 3, 1) := by decide +kernel
theorem dL_drop_10 : decode cL_drop 10 = .ok (.iconst 1, 1) := by decide +kernel
theorem dL_drop_11 : decode cL_drop 11 = .ok (.ireturn, 1) := by decide +kernel
theorem dL_drop_12 : decode cL_drop 12 = .ok (.astore_n 3, 1) := by decide +kernel
theorem dL_drop_13 : decode cL_drop 13 = .ok (.iconst 2, 1) := by decide +kernel
theorem dL_drop_14 : decode cL_drop 14 = .ok (.ireturn, 1) := by decide +kernel
theorem dL_drop_15 : decode cL_drop 15 = .ok (.astore_n 3, 1) := by decide +kernel
theorem dL_drop_16 : decode cL_drop 16 = .ok (.iconst 3, 1) := by decide +kernel
theorem dL_drop_17 : decode cL_drop 17 = .ok (.ireturn, 1) := by decide +kernel
theorem dL_drop_18 : decode cL_drop 18 = .ok (.iconst 0, 1) := by decide +kernel
theorem dL_drop_19 : decode cL_drop 19 = .ok (.ireturn, 1) := by decide +kernel
theorem dL_move_0 : decode cL_move 0 = .ok (.aload_n 0, 1) := by decide +kernel
theorem dL_move_1 : decode cL_move 1 = .ok (.iload_n 1, 1) := by decide +kernel
theorem dL_move_2 : decode cL_move 2 = .ok (.iload_n 2, 1) := by decide +kernel
theorem dL_move_3 : decode cL_move 3 = .ok (.iload_n 3, 1) := by decide +kernel
theorem dL_move_4 : decode cL_move 4 = .ok (.iload 4, 2) := by decide +kernel
theorem dL_move_6 : decode cL_move 6 = .ok (.invokevirtual 26, 3) := by decide +kernel
theorem dL_move_9 : decode cL_move 9 = .ok (.goto 15, 3) := by decide +kernel
theorem dL_move_12 : decode cL_move 12 = .ok (.astore 5, 2) := by decide +kernel
theorem dL_move_14 : decode cL_move 14 = .ok (.iconst 1, 1) := by decide +kernel
theorem dL_move_15 : decode cL_move 15 = .ok (.ireturn, 1) := by decide +kernel
theorem dL_move_16 : decode cL_move 16 = .ok (.astore 5, 2) := by decide +kernel
theorem dL_move_18 : decode cL_move 18 = .ok (.iconst 2, 1) := by decide +kernel
theorem dL_move_19 : decode cL_move 19 = .ok (.ireturn, 1) := by decide +kernel
theorem dL_move_20 : decode cL_move 20 = .ok (.astore 5, 2) := by decide +kernel
theorem dL_move_22 : decode cL_move 22 = .ok (.iconst 3, 1) := by decide +kernel
theorem dL_move_23 : decode cL_move 23 = .ok (.ireturn, 1) := by decide +kernel
theorem dL_move_24 : decode cL_move 24 = .ok (.iconst 0, 1) := by decide +kernel
theorem dL_move_25 : decode cL_move 25 = .ok (.ireturn, 1) := by decide +kernel
theorem dL_write_0 : decode cL_write 0 = .ok (.aload_n 0, 1) := by decide +kernel
theorem dL_write_1 : decode cL_write 1 = .ok (.iload_n 1, 1) := by decide +kernel
theorem dL_write_2 : decode cL_write 2 = .ok (.iload_n 2, 1) := by decide +kernel
theorem dL_write_3 : decode cL_write 3 = .ok (.iload_n 3, 1) := by decide +kernel
theorem dL_write_4 : decode cL_write 4 = .ok (.iload 4, 2) := by decide +kernel
theorem dL_write_6 : decode cL_write 6 = .ok (.invokevirtual 30, 3) := by decide +kernel
theorem dL_write_9 : decode cL_write 9 = .ok (.goto 15, 3) := by decide +kernel
theorem dL_write_12 : decode cL_write 12 = .ok (.astore 5, 2) := by decide +kernel
theorem dL_write_14 : decode cL_write 14 = .ok (.iconst 1, 1) := by decide +kernel
theorem dL_write_15 : decode cL_write 15 = .ok (.ireturn, 1) := by decide +kernel
theorem dL_write_16 : decode cL_write 16 = .ok (.astore 5, 2) := by decide +kernel
theorem dL_write_18 : decode cL_write 18 = .ok (.iconst 2, 1) := by decide +kernel
theorem dL_write_19 : decode cL_write 19 = .ok (.ireturn, 1) := by decide +kernel
theorem dL_write_20 : decode cL_write 20 = .ok (.astore 5, 2) := by decide +kernel
theorem dL_write_22 : decode cL_write 22 = .ok (.iconst 3, 1) := by decide +kernel
theorem dL_write_23 : decode cL_write 23 = .ok (.ireturn, 1) := by decide +kernel
theorem dL_write_24 : decode cL_write 24 = .ok (.iconst 0, 1) := by decide +kernel
theorem dL_write_25 : decode cL_write 25 = .ok (.ireturn, 1) := by decide +kernel
theorem dL_commit_0 : decode cL_commit 0 = .ok (.aload_n 2, 1) := by decide +kernel
theorem dL_commit_1 : decode cL_commit 1 = .ok (.iconst 0, 1) := by decide +kernel
theorem dL_commit_2 : decode cL_commit 2 = .ok (.aload_n 0, 1) := by decide +kernel
theorem dL_commit_3 : decode cL_commit 3 = .ok (.iload_n 1, 1) := by decide +kernel
theorem dL_commit_4 : decode cL_commit 4 = .ok (.invokevirtual 33, 3) := by decide +kernel
theorem dL_commit_7 : decode cL_commit 7 = .ok (.i2l, 1) := by decide +kernel
theorem dL_commit_8 : decode cL_commit 8 = .ok (.lastore, 1) := by decide +kernel
theorem dL_commit_9 : decode cL_commit 9 = .ok (.goto 9, 3) := by decide +kernel
theorem dL_commit_12 : decode cL_commit 12 = .ok (.astore_n 3, 1) := by decide +kernel
theorem dL_commit_13 : decode cL_commit 13 = .ok (.iconst 1, 1) := by decide +kernel
theorem dL_commit_14 : decode cL_commit 14 = .ok (.ireturn, 1) := by decide +kernel
theorem dL_commit_15 : decode cL_commit 15 = .ok (.astore_n 3, 1) := by decide +kernel
theorem dL_commit_16 : decode cL_commit 16 = .ok (.iconst 2, 1) := by decide +kernel
theorem dL_commit_17 : decode cL_commit 17 = .ok (.ireturn, 1) := by decide +kernel
theorem dL_commit_18 : decode cL_commit 18 = .ok (.iconst 0, 1) := by decide +kernel
theorem dL_commit_19 : decode cL_commit 19 = .ok (.ireturn, 1) := by decide +kernel
theorem dL_decide_0 : decode cL_decide 0 = .ok (.aload_n 0, 1) := by decide +kernel
theorem dL_decide_1 : decode cL_decide 1 = .ok (.iload_n 1, 1) := by decide +kernel
theorem dL_decide_2 : decode cL_decide 2 = .ok (.iload_n 2, 1) := by decide +kernel
theorem dL_decide_3 : decode cL_decide 3 = .ok (.iload_n 3, 1) := by decide +kernel
theorem dL_decide_4 : decode cL_decide 4 = .ok (.iload 4, 2) := by decide +kernel
theorem dL_decide_6 : decode cL_decide 6 = .ok (.invokevirtual 37, 3) := by decide +kernel
theorem dL_decide_9 : decode cL_decide 9 = .ok (.goto 11, 3) := by decide +kernel
theorem dL_decide_12 : decode cL_decide 12 = .ok (.astore 5, 2) := by decide +kernel
theorem dL_decide_14 : decode cL_decide 14 = .ok (.iconst 1, 1) := by decide +kernel
theorem dL_decide_15 : decode cL_decide 15 = .ok (.ireturn, 1) := by decide +kernel
theorem dL_decide_16 : decode cL_decide 16 = .ok (.astore 5, 2) := by decide +kernel
theorem dL_decide_18 : decode cL_decide 18 = .ok (.iconst 2, 1) := by decide +kernel
theorem dL_decide_19 : decode cL_decide 19 = .ok (.ireturn, 1) := by decide +kernel
theorem dL_decide_20 : decode cL_decide 20 = .ok (.iconst 0, 1) := by decide +kernel
theorem dL_decide_21 : decode cL_decide 21 = .ok (.ireturn, 1) := by decide +kernel
theorem dL_bury_0 : decode cL_bury 0 = .ok (.aload_n 0, 1) := by decide +kernel
theorem dL_bury_1 : decode cL_bury 1 = .ok (.iload_n 1, 1) := by decide +kernel
theorem dL_bury_2 : decode cL_bury 2 = .ok (.iload_n 2, 1) := by decide +kernel
theorem dL_bury_3 : decode cL_bury 3 = .ok (.iload_n 3, 1) := by decide +kernel
theorem dL_bury_4 : decode cL_bury 4 = .ok (.invokevirtual 40, 3) := by decide +kernel
theorem dL_bury_7 : decode cL_bury 7 = .ok (.goto 11, 3) := by decide +kernel
theorem dL_bury_10 : decode cL_bury 10 = .ok (.astore 4, 2) := by decide +kernel
theorem dL_bury_12 : decode cL_bury 12 = .ok (.iconst 1, 1) := by decide +kernel
theorem dL_bury_13 : decode cL_bury 13 = .ok (.ireturn, 1) := by decide +kernel
theorem dL_bury_14 : decode cL_bury 14 = .ok (.astore 4, 2) := by decide +kernel
theorem dL_bury_16 : decode cL_bury 16 = .ok (.iconst 2, 1) := by decide +kernel
theorem dL_bury_17 : decode cL_bury 17 = .ok (.ireturn, 1) := by decide +kernel
theorem dL_bury_18 : decode cL_bury 18 = .ok (.iconst 0, 1) := by decide +kernel
theorem dL_bury_19 : decode cL_bury 19 = .ok (.ireturn, 1) := by decide +kernel
theorem dL_merge_0 : decode cL_merge 0 = .ok (.aload 4, 2) := by decide +kernel
theorem dL_merge_2 : decode cL_merge 2 = .ok (.iconst 0, 1) := by decide +kernel
theorem dL_merge_3 : decode cL_merge 3 = .ok (.aload_n 0, 1) := by decide +kernel
theorem dL_merge_4 : decode cL_merge 4 = .ok (.iload_n 1, 1) := by decide +kernel
theorem dL_merge_5 : decode cL_merge 5 = .ok (.iload_n 2, 1) := by decide +kernel
theorem dL_merge_6 : decode cL_merge 6 = .ok (.iload_n 3, 1) := by decide +kernel
theorem dL_merge_7 : decode cL_merge 7 = .ok (.invokevirtual 44, 3) := by decide +kernel
theorem dL_merge_10 : decode cL_merge 10 = .ok (.i2l, 1) := by decide +kernel
theorem dL_merge_11 : decode cL_merge 11 = .ok (.lastore, 1) := by decide +kernel
theorem dL_merge_12 : decode cL_merge 12 = .ok (.goto 15, 3) := by decide +kernel
theorem dL_merge_15 : decode cL_merge 15 = .ok (.astore 5, 2) := by decide +kernel
theorem dL_merge_17 : decode cL_merge 17 = .ok (.iconst 1, 1) := by decide +kernel
theorem dL_merge_18 : decode cL_merge 18 = .ok (.ireturn, 1) := by decide +kernel
theorem dL_merge_19 : decode cL_merge 19 = .ok (.astore 5, 2) := by decide +kernel
theorem dL_merge_21 : decode cL_merge 21 = .ok (.iconst 2, 1) := by decide +kernel
theorem dL_merge_22 : decode cL_merge 22 = .ok (.ireturn, 1) := by decide +kernel
theorem dL_merge_23 : decode cL_merge 23 = .ok (.astore 5, 2) := by decide +kernel
theorem dL_merge_25 : decode cL_merge 25 = .ok (.iconst 3, 1) := by decide +kernel
theorem dL_merge_26 : decode cL_merge 26 = .ok (.ireturn, 1) := by decide +kernel
theorem dL_merge_27 : decode cL_merge 27 = .ok (.iconst 0, 1) := by decide +kernel
theorem dL_merge_28 : decode cL_merge 28 = .ok (.ireturn, 1) := by decide +kernel
theorem dL_conflict_0 : decode cL_conflict 0 = .ok (.aload 4, 2) := by decide +kernel
theorem dL_conflict_2 : decode cL_conflict 2 = .ok (.iconst 0, 1) := by decide +kernel
theorem dL_conflict_3 : decode cL_conflict 3 = .ok (.aload_n 0, 1) := by decide +kernel
theorem dL_conflict_4 : decode cL_conflict 4 = .ok (.iload_n 1, 1) := by decide +kernel
theorem dL_conflict_5 : decode cL_conflict 5 = .ok (.iload_n 2, 1) := by decide +kernel
theorem dL_conflict_6 : decode cL_conflict 6 = .ok (.iload_n 3, 1) := by decide +kernel
theorem dL_conflict_7 : decode cL_conflict 7 = .ok (.invokevirtual 48, 3) := by decide +kernel
theorem dL_conflict_10 : decode cL_conflict 10 = .ok (.i2l, 1) := by decide +kernel
theorem dL_conflict_11 : decode cL_conflict 11 = .ok (.lastore, 1) := by decide +kernel
theorem dL_conflict_12 : decode cL_conflict 12 = .ok (.goto 11, 3) := by decide +kernel
theorem dL_conflict_15 : decode cL_conflict 15 = .ok (.astore 5, 2) := by decide +kernel
theorem dL_conflict_17 : decode cL_conflict 17 = .ok (.iconst 1, 1) := by decide +kernel
theorem dL_conflict_18 : decode cL_conflict 18 = .ok (.ireturn, 1) := by decide +kernel
theorem dL_conflict_19 : decode cL_conflict 19 = .ok (.astore 5, 2) := by decide +kernel
theorem dL_conflict_21 : decode cL_conflict 21 = .ok (.iconst 2, 1) := by decide +kernel
theorem dL_conflict_22 : decode cL_conflict 22 = .ok (.ireturn, 1) := by decide +kernel
theorem dL_conflict_23 : decode cL_conflict 23 = .ok (.iconst 0, 1) := by decide +kernel
theorem dL_conflict_24 : decode cL_conflict 24 = .ok (.ireturn, 1) := by decide +kernel
theorem dL_about_0 : decode cL_about 0 = .ok (.aload 4, 2) := by decide +kernel
theorem dL_about_2 : decode cL_about 2 = .ok (.iconst 0, 1) := by decide +kernel
theorem dL_about_3 : decode cL_about 3 = .ok (.aload_n 0, 1) := by decide +kernel
theorem dL_about_4 : decode cL_about 4 = .ok (.iload_n 1, 1) := by decide +kernel
theorem dL_about_5 : decode cL_about 5 = .ok (.iload_n 2, 1) := by decide +kernel
theorem dL_about_6 : decode cL_about 6 = .ok (.iload_n 3, 1) := by decide +kernel
theorem dL_about_7 : decode cL_about 7 = .ok (.invokevirtual 51, 3) := by decide +kernel
theorem dL_about_10 : decode cL_about 10 = .ok (.i2l, 1) := by decide +kernel
theorem dL_about_11 : decode cL_about 11 = .ok (.lastore, 1) := by decide +kernel
theorem dL_about_12 : decode cL_about 12 = .ok (.goto 11, 3) := by decide +kernel
theorem dL_about_15 : decode cL_about 15 = .ok (.astore 5, 2) := by decide +kernel
theorem dL_about_17 : decode cL_about 17 = .ok (.iconst 1, 1) := by decide +kernel
theorem dL_about_18 : decode cL_about 18 = .ok (.ireturn, 1) := by decide +kernel
theorem dL_about_19 : decode cL_about 19 = .ok (.astore 5, 2) := by decide +kernel
theorem dL_about_21 : decode cL_about 21 = .ok (.iconst 2, 1) := by decide +kernel
theorem dL_about_22 : decode cL_about 22 = .ok (.ireturn, 1) := by decide +kernel
theorem dL_about_23 : decode cL_about 23 = .ok (.iconst 0, 1) := by decide +kernel
theorem dL_about_24 : decode cL_about 24 = .ok (.ireturn, 1) := by decide +kernel
theorem dL_marks_0 : decode cL_marks 0 = .ok (.aload 4, 2) := by decide +kernel
theorem dL_marks_2 : decode cL_marks 2 = .ok (.iconst 0, 1) := by decide +kernel
theorem dL_marks_3 : decode cL_marks 3 = .ok (.aload_n 0, 1) := by decide +kernel
theorem dL_marks_4 : decode cL_marks 4 = .ok (.iload_n 1, 1) := by decide +kernel
theorem dL_marks_5 : decode cL_marks 5 = .ok (.iload_n 2, 1) := by decide +kernel
theorem dL_marks_6 : decode cL_marks 6 = .ok (.iload_n 3, 1) := by decide +kernel
theorem dL_marks_7 : decode cL_marks 7 = .ok (.invokevirtual 54, 3) := by decide +kernel
theorem dL_marks_10 : decode cL_marks 10 = .ok (.lastore, 1) := by decide +kernel
theorem dL_marks_11 : decode cL_marks 11 = .ok (.goto 11, 3) := by decide +kernel
theorem dL_marks_14 : decode cL_marks 14 = .ok (.astore 5, 2) := by decide +kernel
theorem dL_marks_16 : decode cL_marks 16 = .ok (.iconst 1, 1) := by decide +kernel
theorem dL_marks_17 : decode cL_marks 17 = .ok (.ireturn, 1) := by decide +kernel
theorem dL_marks_18 : decode cL_marks 18 = .ok (.astore 5, 2) := by decide +kernel
theorem dL_marks_20 : decode cL_marks 20 = .ok (.iconst 2, 1) := by decide +kernel
theorem dL_marks_21 : decode cL_marks 21 = .ok (.ireturn, 1) := by decide +kernel
theorem dL_marks_22 : decode cL_marks 22 = .ok (.iconst 0, 1) := by decide +kernel
theorem dL_marks_23 : decode cL_marks 23 = .ok (.ireturn, 1) := by decide +kernel
theorem dL_nodes_0 : decode cL_nodes 0 = .ok (.aload_n 3, 1) := by decide +kernel
theorem dL_nodes_1 : decode cL_nodes 1 = .ok (.iconst 0, 1) := by decide +kernel
theorem dL_nodes_2 : decode cL_nodes 2 = .ok (.aload_n 0, 1) := by decide +kernel
theorem dL_nodes_3 : decode cL_nodes 3 = .ok (.iload_n 1, 1) := by decide +kernel
theorem dL_nodes_4 : decode cL_nodes 4 = .ok (.iload_n 2, 1) := by decide +kernel
theorem dL_nodes_5 : decode cL_nodes 5 = .ok (.invokevirtual 58, 3) := by decide +kernel
theorem dL_nodes_8 : decode cL_nodes 8 = .ok (.lastore, 1) := by decide +kernel
theorem dL_nodes_9 : decode cL_nodes 9 = .ok (.goto 7, 3) := by decide +kernel
theorem dL_nodes_12 : decode cL_nodes 12 = .ok (.astore 4, 2) := by decide +kernel
theorem dL_nodes_14 : decode cL_nodes 14 = .ok (.iconst 1, 1) := by decide +kernel
theorem dL_nodes_15 : decode cL_nodes 15 = .ok (.ireturn, 1) := by decide +kernel
theorem dL_nodes_16 : decode cL_nodes 16 = .ok (.iconst 0, 1) := by decide +kernel
theorem dL_nodes_17 : decode cL_nodes 17 = .ok (.ireturn, 1) := by decide +kernel
theorem dL_ancestors_0 : decode cL_ancestors 0 = .ok (.aload_n 2, 1) := by decide +kernel
theorem dL_ancestors_1 : decode cL_ancestors 1 = .ok (.iconst 0, 1) := by decide +kernel
theorem dL_ancestors_2 : decode cL_ancestors 2 = .ok (.aload_n 0, 1) := by decide +kernel
theorem dL_ancestors_3 : decode cL_ancestors 3 = .ok (.iload_n 1, 1) := by decide +kernel
theorem dL_ancestors_4 : decode cL_ancestors 4 = .ok (.invokevirtual 62, 3) := by decide +kernel
theorem dL_ancestors_7 : decode cL_ancestors 7 = .ok (.lastore, 1) := by decide +kernel
theorem dL_ancestors_8 : decode cL_ancestors 8 = .ok (.goto 6, 3) := by decide +kernel
theorem dL_ancestors_11 : decode cL_ancestors 11 = .ok (.astore_n 3, 1) := by decide +kernel
theorem dL_ancestors_12 : decode cL_ancestors 12 = .ok (.iconst 1, 1) := by decide +kernel
theorem dL_ancestors_13 : decode cL_ancestors 13 = .ok (.ireturn, 1) := by decide +kernel
theorem dL_ancestors_14 : decode cL_ancestors 14 = .ok (.iconst 0, 1) := by decide +kernel
theorem dL_ancestors_15 : decode cL_ancestors 15 = .ok (.ireturn, 1) := by decide +kernel
theorem dL_certify_0 : decode cL_certify 0 = .ok (.aload 5, 2) := by decide +kernel
theorem dL_certify_2 : decode cL_certify 2 = .ok (.iconst 0, 1) := by decide +kernel
theorem dL_certify_3 : decode cL_certify 3 = .ok (.aload_n 0, 1) := by decide +kernel
theorem dL_certify_4 : decode cL_certify 4 = .ok (.iload_n 1, 1) := by decide +kernel
theorem dL_certify_5 : decode cL_certify 5 = .ok (.iload_n 2, 1) := by decide +kernel
theorem dL_certify_6 : decode cL_certify 6 = .ok (.iload_n 3, 1) := by decide +kernel
theorem dL_certify_7 : decode cL_certify 7 = .ok (.iload 4, 2) := by decide +kernel
theorem dL_certify_9 : decode cL_certify 9 = .ok (.invokevirtual 66, 3) := by decide +kernel
theorem dL_certify_12 : decode cL_certify 12 = .ok (.ifCond .eq 7, 3) := by decide +kernel
theorem dL_certify_15 : decode cL_certify 15 = .ok (.lconst 1, 1) := by decide +kernel
theorem dL_certify_16 : decode cL_certify 16 = .ok (.goto 4, 3) := by decide +kernel
theorem dL_certify_19 : decode cL_certify 19 = .ok (.lconst 0, 1) := by decide +kernel
theorem dL_certify_20 : decode cL_certify 20 = .ok (.lastore, 1) := by decide +kernel
theorem dL_certify_21 : decode cL_certify 21 = .ok (.goto 7, 3) := by decide +kernel
theorem dL_certify_24 : decode cL_certify 24 = .ok (.astore 6, 2) := by decide +kernel
theorem dL_certify_26 : decode cL_certify 26 = .ok (.iconst 1, 1) := by decide +kernel
theorem dL_certify_27 : decode cL_certify 27 = .ok (.ireturn, 1) := by decide +kernel
theorem dL_certify_28 : decode cL_certify 28 = .ok (.iconst 0, 1) := by decide +kernel
theorem dL_certify_29 : decode cL_certify 29 = .ok (.ireturn, 1) := by decide +kernel
theorem dL_trust_0 : decode cL_trust 0 = .ok (.aload 4, 2) := by decide +kernel
theorem dL_trust_2 : decode cL_trust 2 = .ok (.iconst 0, 1) := by decide +kernel
theorem dL_trust_3 : decode cL_trust 3 = .ok (.aload_n 0, 1) := by decide +kernel
theorem dL_trust_4 : decode cL_trust 4 = .ok (.iload_n 1, 1) := by decide +kernel
theorem dL_trust_5 : decode cL_trust 5 = .ok (.iload_n 2, 1) := by decide +kernel
theorem dL_trust_6 : decode cL_trust 6 = .ok (.iload_n 3, 1) := by decide +kernel
theorem dL_trust_7 : decode cL_trust 7 = .ok (.invokevirtual 70, 3) := by decide +kernel
theorem dL_trust_10 : decode cL_trust 10 = .ok (.ifCond .eq 7, 3) := by decide +kernel
theorem dL_trust_13 : decode cL_trust 13 = .ok (.lconst 1, 1) := by decide +kernel
theorem dL_trust_14 : decode cL_trust 14 = .ok (.goto 4, 3) := by decide +kernel
theorem dL_trust_17 : decode cL_trust 17 = .ok (.lconst 0, 1) := by decide +kernel
theorem dL_trust_18 : decode cL_trust 18 = .ok (.lastore, 1) := by decide +kernel
theorem dL_trust_19 : decode cL_trust 19 = .ok (.goto 7, 3) := by decide +kernel
theorem dL_trust_22 : decode cL_trust 22 = .ok (.astore 5, 2) := by decide +kernel
theorem dL_trust_24 : decode cL_trust 24 = .ok (.iconst 1, 1) := by decide +kernel
theorem dL_trust_25 : decode cL_trust 25 = .ok (.ireturn, 1) := by decide +kernel
theorem dL_trust_26 : decode cL_trust 26 = .ok (.iconst 0, 1) := by decide +kernel
theorem dL_trust_27 : decode cL_trust 27 = .ok (.ireturn, 1) := by decide +kernel
theorem dL_heads_0 : decode cL_heads 0 = .ok (.aload_n 3, 1) := by decide +kernel
theorem dL_heads_1 : decode cL_heads 1 = .ok (.iconst 0, 1) := by decide +kernel
theorem dL_heads_2 : decode cL_heads 2 = .ok (.aload_n 0, 1) := by decide +kernel
theorem dL_heads_3 : decode cL_heads 3 = .ok (.iload_n 1, 1) := by decide +kernel
theorem dL_heads_4 : decode cL_heads 4 = .ok (.iload_n 2, 1) := by decide +kernel
theorem dL_heads_5 : decode cL_heads 5 = .ok (.invokevirtual 74, 3) := by decide +kernel
theorem dL_heads_8 : decode cL_heads 8 = .ok (.lastore, 1) := by decide +kernel
theorem dL_heads_9 : decode cL_heads 9 = .ok (.goto 7, 3) := by decide +kernel
theorem dL_heads_12 : decode cL_heads 12 = .ok (.astore 4, 2) := by decide +kernel
theorem dL_heads_14 : decode cL_heads 14 = .ok (.iconst 1, 1) := by decide +kernel
theorem dL_heads_15 : decode cL_heads 15 = .ok (.ireturn, 1) := by decide +kernel
theorem dL_heads_16 : decode cL_heads 16 = .ok (.iconst 0, 1) := by decide +kernel
theorem dL_heads_17 : decode cL_heads 17 = .ok (.ireturn, 1) := by decide +kernel
theorem dL_exchange_0 : decode cL_exchange 0 = .ok (.aload_n 2, 1) := by decide +kernel
theorem dL_exchange_1 : decode cL_exchange 1 = .ok (.iconst 0, 1) := by decide +kernel
theorem dL_exchange_2 : decode cL_exchange 2 = .ok (.aload_n 0, 1) := by decide +kernel
theorem dL_exchange_3 : decode cL_exchange 3 = .ok (.iload_n 1, 1) := by decide +kernel
theorem dL_exchange_4 : decode cL_exchange 4 = .ok (.invokevirtual 77, 3) := by decide +kernel
theorem dL_exchange_7 : decode cL_exchange 7 = .ok (.i2l, 1) := by decide +kernel
theorem dL_exchange_8 : decode cL_exchange 8 = .ok (.lastore, 1) := by decide +kernel
theorem dL_exchange_9 : decode cL_exchange 9 = .ok (.goto 6, 3) := by decide +kernel
theorem dL_exchange_12 : decode cL_exchange 12 = .ok (.astore_n 3, 1) := by decide +kernel
theorem dL_exchange_13 : decode cL_exchange 13 = .ok (.iconst 1, 1) := by decide +kernel
theorem dL_exchange_14 : decode cL_exchange 14 = .ok (.ireturn, 1) := by decide +kernel
theorem dL_exchange_15 : decode cL_exchange 15 = .ok (.iconst 0, 1) := by decide +kernel
theorem dL_exchange_16 : decode cL_exchange 16 = .ok (.ireturn, 1) := by decide +kernel
theorem dL_has_0 : decode cL_has 0 = .ok (.aload_n 2, 1) := by decide +kernel
theorem dL_has_1 : decode cL_has 1 = .ok (.iconst 0, 1) := by decide +kernel
theorem dL_has_2 : decode cL_has 2 = .ok (.aload_n 0, 1) := by decide +kernel
theorem dL_has_3 : decode cL_has 3 = .ok (.iload_n 1, 1) := by decide +kernel
theorem dL_has_4 : decode cL_has 4 = .ok (.invokevirtual 80, 3) := by decide +kernel
theorem dL_has_7 : decode cL_has 7 = .ok (.lastore, 1) := by decide +kernel
theorem dL_has_8 : decode cL_has 8 = .ok (.goto 6, 3) := by decide +kernel
theorem dL_has_11 : decode cL_has 11 = .ok (.astore_n 3, 1) := by decide +kernel
theorem dL_has_12 : decode cL_has 12 = .ok (.iconst 1, 1) := by decide +kernel
theorem dL_has_13 : decode cL_has 13 = .ok (.ireturn, 1) := by decide +kernel
theorem dL_has_14 : decode cL_has 14 = .ok (.iconst 0, 1) := by decide +kernel
theorem dL_has_15 : decode cL_has 15 = .ok (.ireturn, 1) := by decide +kernel
theorem dL_law_0 : decode cL_law 0 = .ok (.new 8, 3) := by decide +kernel
theorem dL_law_3 : decode cL_law 3 = .ok (.dup, 1) := by decide +kernel
theorem dL_law_4 : decode cL_law 4 = .ok (.invokespecial 83, 3) := by decide +kernel
theorem dL_law_7 : decode cL_law 7 = .ok (.astore_n 1, 1) := by decide +kernel
theorem dL_law_8 : decode cL_law 8 = .ok (.new 84, 3) := by decide +kernel
theorem dL_law_11 : decode cL_law 11 = .ok (.dup, 1) := by decide +kernel
theorem dL_law_12 : decode cL_law 12 = .ok (.invokespecial 86, 3) := by decide +kernel
theorem dL_law_15 : decode cL_law 15 = .ok (.astore_n 2, 1) := by decide +kernel
theorem dL_law_16 : decode cL_law 16 = .ok (.iconst 1, 1) := by decide +kernel
theorem dL_law_17 : decode cL_law 17 = .ok (.newarray .long, 2) := by decide +kernel
theorem dL_law_19 : decode cL_law 19 = .ok (.astore_n 3, 1) := by decide +kernel
theorem dL_law_20 : decode cL_law 20 = .ok (.iconst 0, 1) := by decide +kernel
theorem dL_law_21 : decode cL_law 21 = .ok (.istore 4, 2) := by decide +kernel
theorem dL_law_23 : decode cL_law 23 = .ok (.iload 4, 2) := by decide +kernel
theorem dL_law_25 : decode cL_law 25 = .ok (.aload_n 0, 1) := by decide +kernel
theorem dL_law_26 : decode cL_law 26 = .ok (.arraylength, 1) := by decide +kernel
theorem dL_law_27 : decode cL_law 27 = .ok (.iconst 5, 1) := by decide +kernel
theorem dL_law_28 : decode cL_law 28 = .ok (.isub, 1) := by decide +kernel
theorem dL_law_29 : decode cL_law 29 = .ok (.if_icmp .gt 1478, 3) := by decide +kernel
theorem dL_law_32 : decode cL_law 32 = .ok (.aload_n 0, 1) := by decide +kernel
theorem dL_law_33 : decode cL_law 33 = .ok (.iload 4, 2) := by decide +kernel
theorem dL_law_35 : decode cL_law 35 = .ok (.iaload, 1) := by decide +kernel
theorem dL_law_36 : decode cL_law 36 = .ok (.bipush 31, 2) := by decide +kernel
theorem dL_law_38 : decode cL_law 38 = .ok (.iand, 1) := by decide +kernel
theorem dL_law_39 : decode cL_law 39 = .ok (.tableswitch 1462 0 18 #[89, 137, 245, 293, 365, 437, 493, 565, 641, 721, 801, 881, 960, 1027, 1082, 1181, 1284, 1351, 1407], 89) := by decide +kernel
theorem dL_law_128 : decode cL_law 128 = .ok (.aload_n 1, 1) := by decide +kernel
theorem dL_law_129 : decode cL_law 129 = .ok (.aload_n 0, 1) := by decide +kernel
theorem dL_law_130 : decode cL_law 130 = .ok (.iload 4, 2) := by decide +kernel
theorem dL_law_132 : decode cL_law 132 = .ok (.iconst 1, 1) := by decide +kernel
theorem dL_law_133 : decode cL_law 133 = .ok (.iadd, 1) := by decide +kernel
theorem dL_law_134 : decode cL_law 134 = .ok (.iaload, 1) := by decide +kernel
theorem dL_law_135 : decode cL_law 135 = .ok (.aload_n 0, 1) := by decide +kernel
theorem dL_law_136 : decode cL_law 136 = .ok (.iload 4, 2) := by decide +kernel
theorem dL_law_138 : decode cL_law 138 = .ok (.iconst 2, 1) := by decide +kernel
theorem dL_law_139 : decode cL_law 139 = .ok (.iadd, 1) := by decide +kernel
theorem dL_law_140 : decode cL_law 140 = .ok (.iaload, 1) := by decide +kernel
theorem dL_law_141 : decode cL_law 141 = .ok (.invokestatic 87, 3) := by decide +kernel
theorem dL_law_144 : decode cL_law 144 = .ok (.istore 5, 2) := by decide +kernel
theorem dL_law_146 : decode cL_law 146 = .ok (.aload_n 2, 1) := by decide +kernel
theorem dL_law_147 : decode cL_law 147 = .ok (.aload_n 0, 1) := by decide +kernel
theorem dL_law_148 : decode cL_law 148 = .ok (.iload 4, 2) := by decide +kernel
theorem dL_law_150 : decode cL_law 150 = .ok (.iconst 1, 1) := by decide +kernel
theorem dL_law_151 : decode cL_law 151 = .ok (.iadd, 1) := by decide +kernel
theorem dL_law_152 : decode cL_law 152 = .ok (.iaload, 1) := by decide +kernel
theorem dL_law_153 : decode cL_law 153 = .ok (.aload_n 0, 1) := by decide +kernel
theorem dL_law_154 : decode cL_law 154 = .ok (.iload 4, 2) := by decide +kernel
theorem dL_law_156 : decode cL_law 156 = .ok (.iconst 2, 1) := by decide +kernel
theorem dL_law_157 : decode cL_law 157 = .ok (.iadd, 1) := by decide +kernel
theorem dL_law_158 : decode cL_law 158 = .ok (.iaload, 1) := by decide +kernel
theorem dL_law_159 : decode cL_law 159 = .ok (.invokevirtual 92, 3) := by decide +kernel
theorem dL_law_162 : decode cL_law 162 = .ok (.aload_n 2, 1) := by decide +kernel
theorem dL_law_163 : decode cL_law 163 = .ok (.invokevirtual 93, 3) := by decide +kernel
theorem dL_law_166 : decode cL_law 166 = .ok (.iload 5, 2) := by decide +kernel
theorem dL_law_168 : decode cL_law 168 = .ok (.if_icmp .eq 5, 3) := by decide +kernel
theorem dL_law_171 : decode cL_law 171 = .ok (.iconst 0, 1) := by decide +kernel
theorem dL_law_172 : decode cL_law 172 = .ok (.ireturn, 1) := by decide +kernel
theorem dL_law_173 : decode cL_law 173 = .ok (.goto 1328, 3) := by decide +kernel
theorem dL_law_176 : decode cL_law 176 = .ok (.aload_n 1, 1) := by decide +kernel
theorem dL_law_177 : decode cL_law 177 = .ok (.aload_n 0, 1) := by decide +kernel
theorem dL_law_178 : decode cL_law 178 = .ok (.iload 4, 2) := by decide +kernel
theorem dL_law_180 : decode cL_law 180 = .ok (.iconst 1, 1) := by decide +kernel
theorem dL_law_181 : decode cL_law 181 = .ok (.iadd, 1) := by decide +kernel
theorem dL_law_182 : decode cL_law 182 = .ok (.iaload, 1) := by decide +kernel
theorem dL_law_183 : decode cL_law 183 = .ok (.aload_n 0, 1) := by decide +kernel
theorem dL_law_184 : decode cL_law 184 = .ok (.iload 4, 2) := by decide +kernel
theorem dL_law_186 : decode cL_law 186 = .ok (.iconst 2, 1) := by decide +kernel
theorem dL_law_187 : decode cL_law 187 = .ok (.iadd, 1) := by decide +kernel
theorem dL_law_188 : decode cL_law 188 = .ok (.iaload, 1) := by decide +kernel
theorem dL_law_189 : decode cL_law 189 = .ok (.aload_n 0, 1) := by decide +kernel
theorem dL_law_190 : decode cL_law 190 = .ok (.iload 4, 2) := by decide +kernel
theorem dL_law_192 : decode cL_law 192 = .ok (.iconst 3, 1) := by decide +kernel
theorem dL_law_193 : decode cL_law 193 = .ok (.iadd, 1) := by decide +kernel
theorem dL_law_194 : decode cL_law 194 = .ok (.iaload, 1) := by decide +kernel
theorem dL_law_195 : decode cL_law 195 = .ok (.aload_n 0, 1) := by decide +kernel
theorem dL_law_196 : decode cL_law 196 = .ok (.iload 4, 2) := by decide +kernel
theorem dL_law_198 : decode cL_law 198 = .ok (.iconst 4, 1) := by decide +kernel
theorem dL_law_199 : decode cL_law 199 = .ok (.iadd, 1) := by decide +kernel
theorem dL_law_200 : decode cL_law 200 = .ok (.iaload, 1) := by decide +kernel
theorem dL_law_201 : decode cL_law 201 = .ok (.ifCond .eq 7, 3) := by decide +kernel
theorem dL_law_204 : decode cL_law 204 = .ok (.iconst 1, 1) := by decide +kernel
theorem dL_law_205 : decode cL_law 205 = .ok (.goto 4, 3) := by decide +kernel
theorem dL_law_208 : decode cL_law 208 = .ok (.iconst 0, 1) := by decide +kernel
theorem dL_law_209 : decode cL_law 209 = .ok (.aload_n 3, 1) := by decide +kernel
theorem dL_law_210 : decode cL_law 210 = .ok (.invokestatic 97, 3) := by decide +kernel
theorem dL_law_213 : decode cL_law 213 = .ok (.istore 5, 2) := by decide +kernel
theorem dL_law_215 : decode cL_law 215 = .ok (.aload_n 2, 1) := by decide +kernel
theorem dL_law_216 : decode cL_law 216 = .ok (.aload_n 0, 1) := by decide +kernel
theorem dL_law_217 : decode cL_law 217 = .ok (.iload 4, 2) := by decide +kernel
theorem dL_law_219 : decode cL_law 219 = .ok (.iconst 1, 1) := by decide +kernel
theorem dL_law_220 : decode cL_law 220 = .ok (.iadd, 1) := by decide +kernel
theorem dL_law_221 : decode cL_law 221 = .ok (.iaload, 1) := by decide +kernel
theorem dL_law_222 : decode cL_law 222 = .ok (.aload_n 0, 1) := by decide +kernel
theorem dL_law_223 : decode cL_law 223 = .ok (.iload 4, 2) := by decide +kernel
theorem dL_law_225 : decode cL_law 225 = .ok (.iconst 2, 1) := by decide +kernel
theorem dL_law_226 : decode cL_law 226 = .ok (.iadd, 1) := by decide +kernel
theorem dL_law_227 : decode cL_law 227 = .ok (.iaload, 1) := by decide +kernel
theorem dL_law_228 : decode cL_law 228 = .ok (.aload_n 0, 1) := by decide +kernel
theorem dL_law_229 : decode cL_law 229 = .ok (.iload 4, 2) := by decide +kernel
theorem dL_law_231 : decode cL_law 231 = .ok (.iconst 3, 1) := by decide +kernel
theorem dL_law_232 : decode cL_law 232 = .ok (.iadd, 1) := by decide +kernel
theorem dL_law_233 : decode cL_law 233 = .ok (.iaload, 1) := by decide +kernel
theorem dL_law_234 : decode cL_law 234 = .ok (.aload_n 0, 1) := by decide +kernel
theorem dL_law_235 : decode cL_law 235 = .ok (.iload 4, 2) := by decide +kernel
theorem dL_law_237 : decode cL_law 237 = .ok (.iconst 4, 1) := by decide +kernel
theorem dL_law_238 : decode cL_law 238 = .ok (.iadd, 1) := by decide +kernel
theorem dL_law_239 : decode cL_law 239 = .ok (.iaload, 1) := by decide +kernel
theorem dL_law_240 : decode cL_law 240 = .ok (.ifCond .eq 7, 3) := by decide +kernel
theorem dL_law_243 : decode cL_law 243 = .ok (.iconst 1, 1) := by decide +kernel
theorem dL_law_244 : decode cL_law 244 = .ok (.goto 4, 3) := by decide +kernel
theorem dL_law_247 : decode cL_law 247 = .ok (.iconst 0, 1) := by decide +kernel
theorem dL_law_248 : decode cL_law 248 = .ok (.invokevirtual 100, 3) := by decide +kernel
theorem dL_law_251 : decode cL_law 251 = .ok (.istore 6, 2) := by decide +kernel
theorem dL_law_253 : decode cL_law 253 = .ok (.aload_n 2, 1) := by decide +kernel
theorem dL_law_254 : decode cL_law 254 = .ok (.invokevirtual 93, 3) := by decide +kernel
theorem dL_law_257 : decode cL_law 257 = .ok (.iload 5, 2) := by decide +kernel
theorem dL_law_259 : decode cL_law 259 = .ok (.if_icmp .eq 5, 3) := by decide +kernel
theorem dL_law_262 : decode cL_law 262 = .ok (.iconst 0, 1) := by decide +kernel
theorem dL_law_263 : decode cL_law 263 = .ok (.ireturn, 1) := by decide +kernel
theorem dL_law_264 : decode cL_law 264 = .ok (.iload 5, 2) := by decide +kernel
theorem dL_law_266 : decode cL_law 266 = .ok (.ifCond .ne 15, 3) := by decide +kernel
theorem dL_law_269 : decode cL_law 269 = .ok (.aload_n 3, 1) := by decide +kernel
theorem dL_law_270 : decode cL_law 270 = .ok (.iconst 0, 1) := by decide +kernel
theorem dL_law_271 : decode cL_law 271 = .ok (.laload, 1) := by decide +kernel
theorem dL_law_272 : decode cL_law 272 = .ok (.iload 6, 2) := by decide +kernel
theorem dL_law_274 : decode cL_law 274 = .ok (.i2l, 1) := by decide +kernel
theorem dL_law_275 : decode cL_law 275 = .ok (.lcmp, 1) := by decide +kernel
theorem dL_law_276 : decode cL_law 276 = .ok (.ifCond .eq 5, 3) := by decide +kernel
theorem dL_law_279 : decode cL_law 279 = .ok (.iconst 0, 1) := by decide +kernel
theorem dL_law_280 : decode cL_law 280 = .ok (.ireturn, 1) := by decide +kernel
theorem dL_law_281 : decode cL_law 281 = .ok (.goto 1220, 3) := by decide +kernel
theorem dL_law_284 : decode cL_law 284 = .ok (.aload_n 1, 1) := by decide +kernel
theorem dL_law_285 : decode cL_law 285 = .ok (.aload_n 0, 1) := by decide +kernel
theorem dL_law_286 : decode cL_law 286 = .ok (.iload 4, 2) := by decide +kernel
theorem dL_law_288 : decode cL_law 288 = .ok (.iconst 1, 1) := by decide +kernel
theorem dL_law_289 : decode cL_law 289 = .ok (.iadd, 1) := by decide +kernel
theorem dL_law_290 : decode cL_law 290 = .ok (.iaload, 1) := by decide +kernel
theorem dL_law_291 : decode cL_law 291 = .ok (.aload_n 0, 1) := by decide +kernel
theorem dL_law_292 : decode cL_law 292 = .ok (.iload 4, 2) := by decide +kernel
theorem dL_law_294 : decode cL_law 294 = .ok (.iconst 2, 1) := by decide +kernel
theorem dL_law_295 : decode cL_law 295 = .ok (.iadd, 1) := by decide +kernel
theorem dL_law_296 : decode cL_law 296 = .ok (.iaload, 1) := by decide +kernel
theorem dL_law_297 : decode cL_law 297 = .ok (.invokestatic 101, 3) := by decide +kernel
theorem dL_law_300 : decode cL_law 300 = .ok (.istore 5, 2) := by decide +kernel
theorem dL_law_302 : decode cL_law 302 = .ok (.aload_n 2, 1) := by decide +kernel
theorem dL_law_303 : decode cL_law 303 = .ok (.aload_n 0, 1) := by decide +kernel
theorem dL_law_304 : decode cL_law 304 = .ok (.iload 4, 2) := by decide +kernel
theorem dL_law_306 : decode cL_law 306 = .ok (.iconst 1, 1) := by decide +kernel
theorem dL_law_307 : decode cL_law 307 = .ok (.iadd, 1) := by decide +kernel
theorem dL_law_308 : decode cL_law 308 = .ok (.iaload, 1) := by decide +kernel
theorem dL_law_309 : decode cL_law 309 = .ok (.aload_n 0, 1) := by decide +kernel
theorem dL_law_310 : decode cL_law 310 = .ok (.iload 4, 2) := by decide +kernel
theorem dL_law_312 : decode cL_law 312 = .ok (.iconst 2, 1) := by decide +kernel
theorem dL_law_313 : decode cL_law 313 = .ok (.iadd, 1) := by decide +kernel
theorem dL_law_314 : decode cL_law 314 = .ok (.iaload, 1) := by decide +kernel
theorem dL_law_315 : decode cL_law 315 = .ok (.invokevirtual 103, 3) := by decide +kernel
theorem dL_law_318 : decode cL_law 318 = .ok (.aload_n 2, 1) := by decide +kernel
theorem dL_law_319 : decode cL_law 319 = .ok (.invokevirtual 93, 3) := by decide +kernel
theorem dL_law_322 : decode cL_law 322 = .ok (.iload 5, 2) := by decide +kernel
theorem dL_law_324 : decode cL_law 324 = .ok (.if_icmp .eq 5, 3) := by decide +kernel
theorem dL_law_327 : decode cL_law 327 = .ok (.iconst 0, 1) := by decide +kernel
theorem dL_law_328 : decode cL_law 328 = .ok (.ireturn, 1) := by decide +kernel
theorem dL_law_329 : decode cL_law 329 = .ok (.goto 1172, 3) := by decide +kernel
