theorem dX2_markChanges_15 : decode cX2_markChanges 15 = .ok (.iconst 1, 1) := by decide +kernel
theorem dX2_markChanges_16 : decode cX2_markChanges 16 = .ok (.istore 5, 2) := by decide +kernel
theorem dX2_markChanges_18 : decode cX2_markChanges 18 = .ok (.iload 5, 2) := by decide +kernel
theorem dX2_markChanges_20 : decode cX2_markChanges 20 = .ok (.aload_n 0, 1) := by decide +kernel
theorem dX2_markChanges_21 : decode cX2_markChanges 21 = .ok (.getfield 40, 3) := by decide +kernel
theorem dX2_markChanges_24 : decode cX2_markChanges 24 = .ok (.if_icmp .ge 126, 3) := by decide +kernel
theorem dX2_markChanges_27 : decode cX2_markChanges 27 = .ok (.aload 4, 2) := by decide +kernel
theorem dX2_markChanges_29 : decode cX2_markChanges 29 = .ok (.iload 5, 2) := by decide +kernel
theorem dX2_markChanges_31 : decode cX2_markChanges 31 = .ok (.invokevirtual 273, 3) := by decide +kernel
theorem dX2_markChanges_34 : decode cX2_markChanges 34 = .ok (.ifCond .ne 6, 3) := by decide +kernel
theorem dX2_markChanges_37 : decode cX2_markChanges 37 = .ok (.goto 107, 3) := by decide +kernel
theorem dX2_markChanges_40 : decode cX2_markChanges 40 = .ok (.aload_n 3, 1) := by decide +kernel
theorem dX2_markChanges_41 : decode cX2_markChanges 41 = .ok (.iload 5, 2) := by decide +kernel
theorem dX2_markChanges_43 : decode cX2_markChanges 43 = .ok (.invokevirtual 273, 3) := by decide +kernel
theorem dX2_markChanges_46 : decode cX2_markChanges 46 = .ok (.ifCond .ne 7, 3) := by decide +kernel
theorem dX2_markChanges_49 : decode cX2_markChanges 49 = .ok (.iconst 1, 1) := by decide +kernel
theorem dX2_markChanges_50 : decode cX2_markChanges 50 = .ok (.goto 4, 3) := by decide +kernel
theorem dX2_markChanges_53 : decode cX2_markChanges 53 = .ok (.iconst 0, 1) := by decide +kernel
theorem dX2_markChanges_54 : decode cX2_markChanges 54 = .ok (.istore 6, 2) := by decide +kernel
theorem dX2_markChanges_56 : decode cX2_markChanges 56 = .ok (.iload 6, 2) := by decide +kernel
theorem dX2_markChanges_58 : decode cX2_markChanges 58 = .ok (.ifCond .eq 11, 3) := by decide +kernel
theorem dX2_markChanges_61 : decode cX2_markChanges 61 = .ok (.aload_n 0, 1) := by decide +kernel
theorem dX2_markChanges_62 : decode cX2_markChanges 62 = .ok (.getfield 33, 3) := by decide +kernel
theorem dX2_markChanges_65 : decode cX2_markChanges 65 = .ok (.iload 5, 2) := by decide +kernel
theorem dX2_markChanges_67 : decode cX2_markChanges 67 = .ok (.iload_n 1, 1) := by decide +kernel
theorem dX2_markChanges_68 : decode cX2_markChanges 68 = .ok (.iastore, 1) := by decide +kernel
theorem dX2_markChanges_69 : decode cX2_markChanges 69 = .ok (.iconst 0, 1) := by decide +kernel
theorem dX2_markChanges_70 : decode cX2_markChanges 70 = .ok (.istore 7, 2) := by decide +kernel
theorem dX2_markChanges_72 : decode cX2_markChanges 72 = .ok (.iload 7, 2) := by decide +kernel
theorem dX2_markChanges_74 : decode cX2_markChanges 74 = .ok (.iconst 3, 1) := by decide +kernel
theorem dX2_markChanges_75 : decode cX2_markChanges 75 = .ok (.if_icmp .ge 69, 3) := by decide +kernel
theorem dX2_markChanges_78 : decode cX2_markChanges 78 = .ok (.iload 6, 2) := by decide +kernel
theorem dX2_markChanges_80 : decode cX2_markChanges 80 = .ok (.ifCond .ne 23, 3) := by decide +kernel
theorem dX2_markChanges_83 : decode cX2_markChanges 83 = .ok (.aload 4, 2) := by decide +kernel
theorem dX2_markChanges_85 : decode cX2_markChanges 85 = .ok (.iload 5, 2) := by decide +kernel
theorem dX2_markChanges_87 : decode cX2_markChanges 87 = .ok (.iload 7, 2) := by decide +kernel
theorem dX2_markChanges_89 : decode cX2_markChanges 89 = .ok (.invokevirtual 212, 3) := by decide +kernel
theorem dX2_markChanges_92 : decode cX2_markChanges 92 = .ok (.aload_n 3, 1) := by decide +kernel
theorem dX2_markChanges_93 : decode cX2_markChanges 93 = .ok (.iload 5, 2) := by decide +kernel
theorem dX2_markChanges_95 : decode cX2_markChanges 95 = .ok (.iload 7, 2) := by decide +kernel
theorem dX2_markChanges_97 : decode cX2_markChanges 97 = .ok (.invokevirtual 212, 3) := by decide +kernel
theorem dX2_markChanges_100 : decode cX2_markChanges 100 = .ok (.if_icmp .eq 7, 3) := by decide +kernel
theorem dX2_markChanges_103 : decode cX2_markChanges 103 = .ok (.iconst 1, 1) := by decide +kernel
theorem dX2_markChanges_104 : decode cX2_markChanges 104 = .ok (.goto 4, 3) := by decide +kernel
theorem dX2_markChanges_107 : decode cX2_markChanges 107 = .ok (.iconst 0, 1) := by decide +kernel
theorem dX2_markChanges_108 : decode cX2_markChanges 108 = .ok (.istore 8, 2) := by decide +kernel
theorem dX2_markChanges_110 : decode cX2_markChanges 110 = .ok (.aload 4, 2) := by decide +kernel
theorem dX2_markChanges_112 : decode cX2_markChanges 112 = .ok (.iload 5, 2) := by decide +kernel
theorem dX2_markChanges_114 : decode cX2_markChanges 114 = .ok (.iload 7, 2) := by decide +kernel
theorem dX2_markChanges_116 : decode cX2_markChanges 116 = .ok (.iload 8, 2) := by decide +kernel
theorem dX2_markChanges_118 : decode cX2_markChanges 118 = .ok (.ifCond .eq 9, 3) := by decide +kernel
theorem dX2_markChanges_121 : decode cX2_markChanges 121 = .ok (.lconst 1, 1) := by decide +kernel
theorem dX2_markChanges_122 : decode cX2_markChanges 122 = .ok (.iload_n 1, 1) := by decide +kernel
theorem dX2_markChanges_123 : decode cX2_markChanges 123 = .ok (.lshl, 1) := by decide +kernel
theorem dX2_markChanges_124 : decode cX2_markChanges 124 = .ok (.goto 11, 3) := by decide +kernel
theorem dX2_markChanges_127 : decode cX2_markChanges 127 = .ok (.aload_n 3, 1) := by decide +kernel
theorem dX2_markChanges_128 : decode cX2_markChanges 128 = .ok (.iload 5, 2) := by decide +kernel
theorem dX2_markChanges_130 : decode cX2_markChanges 130 = .ok (.iload 7, 2) := by decide +kernel
theorem dX2_markChanges_132 : decode cX2_markChanges 132 = .ok (.invokevirtual 217, 3) := by decide +kernel
theorem dX2_markChanges_135 : decode cX2_markChanges 135 = .ok (.invokevirtual 294, 3) := by decide +kernel
theorem dX2_markChanges_138 : decode cX2_markChanges 138 = .ok (.iinc 7 1, 3) := by decide +kernel
theorem dX2_markChanges_141 : decode cX2_markChanges 141 = .ok (.goto (-69), 3) := by decide +kernel
theorem dX2_markChanges_144 : decode cX2_markChanges 144 = .ok (.iinc 5 1, 3) := by decide +kernel
theorem dX2_markChanges_147 : decode cX2_markChanges 147 = .ok (.goto (-129), 3) := by decide +kernel
theorem dX2_markChanges_150 : decode cX2_markChanges 150 = .ok (.return_, 1) := by decide +kernel
theorem dX2_mergeTrees_0 : decode cX2_mergeTrees 0 = .ok (.aload_n 0, 1) := by decide +kernel
theorem dX2_mergeTrees_1 : decode cX2_mergeTrees 1 = .ok (.getfield 44, 3) := by decide +kernel
theorem dX2_mergeTrees_4 : decode cX2_mergeTrees 4 = .ok (.invokevirtual 298, 3) := by decide +kernel
theorem dX2_mergeTrees_7 : decode cX2_mergeTrees 7 = .ok (.aload_n 0, 1) := by decide +kernel
theorem dX2_mergeTrees_8 : decode cX2_mergeTrees 8 = .ok (.lconst 0, 1) := by decide +kernel
theorem dX2_mergeTrees_9 : decode cX2_mergeTrees 9 = .ok (.putfield 301, 3) := by decide +kernel
theorem dX2_mergeTrees_12 : decode cX2_mergeTrees 12 = .ok (.iconst 1, 1) := by decide +kernel
theorem dX2_mergeTrees_13 : decode cX2_mergeTrees 13 = .ok (.istore 4, 2) := by decide +kernel
theorem dX2_mergeTrees_15 : decode cX2_mergeTrees 15 = .ok (.iload 4, 2) := by decide +kernel
theorem dX2_mergeTrees_17 : decode cX2_mergeTrees 17 = .ok (.aload_n 0, 1) := by decide +kernel
theorem dX2_mergeTrees_18 : decode cX2_mergeTrees 18 = .ok (.getfield 40, 3) := by decide +kernel
theorem dX2_mergeTrees_21 : decode cX2_mergeTrees 21 = .ok (.if_icmp .ge 152, 3) := by decide +kernel
theorem dX2_mergeTrees_24 : decode cX2_mergeTrees 24 = .ok (.aload_n 1, 1) := by decide +kernel
theorem dX2_mergeTrees_25 : decode cX2_mergeTrees 25 = .ok (.getfield 171, 3) := by decide +kernel
theorem dX2_mergeTrees_28 : decode cX2_mergeTrees 28 = .ok (.i2l, 1) := by decide +kernel
theorem dX2_mergeTrees_29 : decode cX2_mergeTrees 29 = .ok (.iload 4, 2) := by decide +kernel
theorem dX2_mergeTrees_31 : decode cX2_mergeTrees 31 = .ok (.invokestatic 174, 3) := by decide +kernel
theorem dX2_mergeTrees_34 : decode cX2_mergeTrees 34 = .ok (.ifCond .eq 6, 3) := by decide +kernel
theorem dX2_mergeTrees_37 : decode cX2_mergeTrees 37 = .ok (.goto 130, 3) := by decide +kernel
theorem dX2_mergeTrees_40 : decode cX2_mergeTrees 40 = .ok (.aload_n 0, 1) := by decide +kernel
theorem dX2_mergeTrees_41 : decode cX2_mergeTrees 41 = .ok (.getfield 21, 3) := by decide +kernel
theorem dX2_mergeTrees_44 : decode cX2_mergeTrees 44 = .ok (.iload_n 2, 1) := by decide +kernel
theorem dX2_mergeTrees_45 : decode cX2_mergeTrees 45 = .ok (.aaload, 1) := by decide +kernel
theorem dX2_mergeTrees_46 : decode cX2_mergeTrees 46 = .ok (.iload 4, 2) := by decide +kernel
theorem dX2_mergeTrees_48 : decode cX2_mergeTrees 48 = .ok (.invokevirtual 273, 3) := by decide +kernel
theorem dX2_mergeTrees_51 : decode cX2_mergeTrees 51 = .ok (.istore 5, 2) := by decide +kernel
theorem dX2_mergeTrees_53 : decode cX2_mergeTrees 53 = .ok (.aload_n 0, 1) := by decide +kernel
theorem dX2_mergeTrees_54 : decode cX2_mergeTrees 54 = .ok (.getfield 21, 3) := by decide +kernel
theorem dX2_mergeTrees_57 : decode cX2_mergeTrees 57 = .ok (.iload_n 3, 1) := by decide +kernel
theorem dX2_mergeTrees_58 : decode cX2_mergeTrees 58 = .ok (.aaload, 1) := by decide +kernel
theorem dX2_mergeTrees_59 : decode cX2_mergeTrees 59 = .ok (.iload 4, 2) := by decide +kernel
theorem dX2_mergeTrees_61 : decode cX2_mergeTrees 61 = .ok (.invokevirtual 273, 3) := by decide +kernel
theorem dX2_mergeTrees_64 : decode cX2_mergeTrees 64 = .ok (.istore 6, 2) := by decide +kernel
theorem dX2_mergeTrees_66 : decode cX2_mergeTrees 66 = .ok (.iload 5, 2) := by decide +kernel
theorem dX2_mergeTrees_68 : decode cX2_mergeTrees 68 = .ok (.ifCond .eq 20, 3) := by decide +kernel
theorem dX2_mergeTrees_71 : decode cX2_mergeTrees 71 = .ok (.iload 6, 2) := by decide +kernel
theorem dX2_mergeTrees_73 : decode cX2_mergeTrees 73 = .ok (.ifCond .eq 15, 3) := by decide +kernel
theorem dX2_mergeTrees_76 : decode cX2_mergeTrees 76 = .ok (.aload_n 0, 1) := by decide +kernel
theorem dX2_mergeTrees_77 : decode cX2_mergeTrees 77 = .ok (.aload_n 1, 1) := by decide +kernel
theorem dX2_mergeTrees_78 : decode cX2_mergeTrees 78 = .ok (.iload 4, 2) := by decide +kernel
theorem dX2_mergeTrees_80 : decode cX2_mergeTrees 80 = .ok (.iload_n 2, 1) := by decide +kernel
theorem dX2_mergeTrees_81 : decode cX2_mergeTrees 81 = .ok (.iload_n 3, 1) := by decide +kernel
theorem dX2_mergeTrees_82 : decode cX2_mergeTrees 82 = .ok (.invokevirtual 304, 3) := by decide +kernel
theorem dX2_mergeTrees_85 : decode cX2_mergeTrees 85 = .ok (.goto 82, 3) := by decide +kernel
theorem dX2_mergeTrees_88 : decode cX2_mergeTrees 88 = .ok (.iload 5, 2) := by decide +kernel
theorem dX2_mergeTrees_90 : decode cX2_mergeTrees 90 = .ok (.ifCond .eq 39, 3) := by decide +kernel
theorem dX2_mergeTrees_93 : decode cX2_mergeTrees 93 = .ok (.aload_n 0, 1) := by decide +kernel
theorem dX2_mergeTrees_94 : decode cX2_mergeTrees 94 = .ok (.iload_n 3, 1) := by decide +kernel
theorem dX2_mergeTrees_95 : decode cX2_mergeTrees 95 = .ok (.invokevirtual 146, 3) := by decide +kernel
theorem dX2_mergeTrees_98 : decode cX2_mergeTrees 98 = .ok (.aload_n 0, 1) := by decide +kernel
theorem dX2_mergeTrees_99 : decode cX2_mergeTrees 99 = .ok (.getfield 33, 3) := by decide +kernel
theorem dX2_mergeTrees_102 : decode cX2_mergeTrees 102 = .ok (.iload 4, 2) := by decide +kernel
theorem dX2_mergeTrees_104 : decode cX2_mergeTrees 104 = .ok (.iaload, 1) := by decide +kernel
theorem dX2_mergeTrees_105 : decode cX2_mergeTrees 105 = .ok (.invokestatic 174, 3) := by decide +kernel
theorem dX2_mergeTrees_108 : decode cX2_mergeTrees 108 = .ok (.ifCond .ne 21, 3) := by decide +kernel
theorem dX2_mergeTrees_111 : decode cX2_mergeTrees 111 = .ok (.aload_n 0, 1) := by decide +kernel
theorem dX2_mergeTrees_112 : decode cX2_mergeTrees 112 = .ok (.getfield 44, 3) := by decide +kernel
theorem dX2_mergeTrees_115 : decode cX2_mergeTrees 115 = .ok (.aload_n 0, 1) := by decide +kernel
theorem dX2_mergeTrees_116 : decode cX2_mergeTrees 116 = .ok (.getfield 21, 3) := by decide +kernel
theorem dX2_mergeTrees_119 : decode cX2_mergeTrees 119 = .ok (.iload_n 2, 1) := by decide +kernel
theorem dX2_mergeTrees_120 : decode cX2_mergeTrees 120 = .ok (.aaload, 1) := by decide +kernel
theorem dX2_mergeTrees_121 : decode cX2_mergeTrees 121 = .ok (.iload 4, 2) := by decide +kernel
theorem dX2_mergeTrees_123 : decode cX2_mergeTrees 123 = .ok (.invokevirtual 308, 3) := by decide +kernel
theorem dX2_mergeTrees_126 : decode cX2_mergeTrees 126 = .ok (.goto 41, 3) := by decide +kernel
theorem dX2_mergeTrees_129 : decode cX2_mergeTrees 129 = .ok (.iload 6, 2) := by decide +kernel
theorem dX2_mergeTrees_131 : decode cX2_mergeTrees 131 = .ok (.ifCond .eq 36, 3) := by decide +kernel
theorem dX2_mergeTrees_134 : decode cX2_mergeTrees 134 = .ok (.aload_n 0, 1) := by decide +kernel
theorem dX2_mergeTrees_135 : decode cX2_mergeTrees 135 = .ok (.iload_n 2, 1) := by decide +kernel
theorem dX2_mergeTrees_136 : decode cX2_mergeTrees 136 = .ok (.invokevirtual 146, 3) := by decide +kernel
theorem dX2_mergeTrees_139 : decode cX2_mergeTrees 139 = .ok (.aload_n 0, 1) := by decide +kernel
theorem dX2_mergeTrees_140 : decode cX2_mergeTrees 140 = .ok (.getfield 33, 3) := by decide +kernel
theorem dX2_mergeTrees_143 : decode cX2_mergeTrees 143 = .ok (.iload 4, 2) := by decide +kernel
theorem dX2_mergeTrees_145 : decode cX2_mergeTrees 145 = .ok (.iaload, 1) := by decide +kernel
theorem dX2_mergeTrees_146 : decode cX2_mergeTrees 146 = .ok (.invokestatic 174, 3) := by decide +kernel
theorem dX2_mergeTrees_149 : decode cX2_mergeTrees 149 = .ok (.ifCond .ne 18, 3) := by decide +kernel
theorem dX2_mergeTrees_152 : decode cX2_mergeTrees 152 = .ok (.aload_n 0, 1) := by decide +kernel
theorem dX2_mergeTrees_153 : decode cX2_mergeTrees 153 = .ok (.getfield 44, 3) := by decide +kernel
theorem dX2_mergeTrees_156 : decode cX2_mergeTrees 156 = .ok (.aload_n 0, 1) := by decide +kernel
theorem dX2_mergeTrees_157 : decode cX2_mergeTrees 157 = .ok (.getfield 21, 3) := by decide +kernel
theorem dX2_mergeTrees_160 : decode cX2_mergeTrees 160 = .ok (.iload_n 3, 1) := by decide +kernel
theorem dX2_mergeTrees_161 : decode cX2_mergeTrees 161 = .ok (.aaload, 1) := by decide +kernel
theorem dX2_mergeTrees_162 : decode cX2_mergeTrees 162 = .ok (.iload 4, 2) := by decide +kernel
theorem dX2_mergeTrees_164 : decode cX2_mergeTrees 164 = .ok (.invokevirtual 308, 3) := by decide +kernel
theorem dX2_mergeTrees_167 : decode cX2_mergeTrees 167 = .ok (.iinc 4 1, 3) := by decide +kernel
theorem dX2_mergeTrees_170 : decode cX2_mergeTrees 170 = .ok (.goto (-155), 3) := by decide +kernel
theorem dX2_mergeTrees_173 : decode cX2_mergeTrees 173 = .ok (.return_, 1) := by decide +kernel
theorem dX2_mergeNode_0 : decode cX2_mergeNode 0 = .ok (.aload_n 0, 1) := by decide +kernel
theorem dX2_mergeNode_1 : decode cX2_mergeNode 1 = .ok (.getfield 44, 3) := by decide +kernel
theorem dX2_mergeNode_4 : decode cX2_mergeNode 4 = .ok (.iload_n 2, 1) := by decide +kernel
theorem dX2_mergeNode_5 : decode cX2_mergeNode 5 = .ok (.iconst (-1), 1) := by decide +kernel
theorem dX2_mergeNode_6 : decode cX2_mergeNode 6 = .ok (.invokevirtual 98, 3) := by decide +kernel
theorem dX2_mergeNode_9 : decode cX2_mergeNode 9 = .ok (.iconst 0, 1) := by decide +kernel
theorem dX2_mergeNode_10 : decode cX2_mergeNode 10 = .ok (.istore 5, 2) := by decide +kernel
theorem dX2_mergeNode_12 : decode cX2_mergeNode 12 = .ok (.iload 5, 2) := by decide +kernel
theorem dX2_mergeNode_14 : decode cX2_mergeNode 14 = .ok (.iconst 3, 1) := by decide +kernel
theorem dX2_mergeNode_15 : decode cX2_mergeNode 15 = .ok (.if_icmp .ge 141, 3) := by decide +kernel
theorem dX2_mergeNode_18 : decode cX2_mergeNode 18 = .ok (.aload_n 0, 1) := by decide +kernel
theorem dX2_mergeNode_19 : decode cX2_mergeNode 19 = .ok (.iload_n 2, 1) := by decide +kernel
theorem dX2_mergeNode_20 : decode cX2_mergeNode 20 = .ok (.iload 5, 2) := by decide +kernel
theorem dX2_mergeNode_22 : decode cX2_mergeNode 22 = .ok (.iload_n 3, 1) := by decide +kernel
theorem dX2_mergeNode_23 : decode cX2_mergeNode 23 = .ok (.iload 4, 2) := by decide +kernel
theorem dX2_mergeNode_25 : decode cX2_mergeNode 25 = .ok (.invokevirtual 311, 3) := by decide +kernel
theorem dX2_mergeNode_28 : decode cX2_mergeNode 28 = .ok (.istore 6, 2) := by decide +kernel
theorem dX2_mergeNode_30 : decode cX2_mergeNode 30 = .ok (.aload_n 1, 1) := by decide +kernel
theorem dX2_mergeNode_31 : decode cX2_mergeNode 31 = .ok (.getfield 165, 3) := by decide +kernel
theorem dX2_mergeNode_34 : decode cX2_mergeNode 34 = .ok (.iload_n 2, 1) := by decide +kernel
theorem dX2_mergeNode_35 : decode cX2_mergeNode 35 = .ok (.iload 5, 2) := by decide +kernel
theorem dX2_mergeNode_37 : decode cX2_mergeNode 37 = .ok (.invokestatic 168, 3) := by decide +kernel
theorem dX2_mergeNode_40 : decode cX2_mergeNode 40 = .ok (.iaload, 1) := by decide +kernel
theorem dX2_mergeNode_41 : decode cX2_mergeNode 41 = .ok (.istore 7, 2) := by decide +kernel
theorem dX2_mergeNode_43 : decode cX2_mergeNode 43 = .ok (.iload 7, 2) := by decide +kernel
theorem dX2_mergeNode_45 : decode cX2_mergeNode 45 = .ok (.iconst (-1), 1) := by decide +kernel
theorem dX2_mergeNode_46 : decode cX2_mergeNode 46 = .ok (.if_icmp .ne 8, 3) := by decide +kernel
theorem dX2_mergeNode_49 : decode cX2_mergeNode 49 = .ok (.iload 6, 2) := by decide +kernel
theorem dX2_mergeNode_51 : decode cX2_mergeNode 51 = .ok (.goto 5, 3) := by decide +kernel
theorem dX2_mergeNode_54 : decode cX2_mergeNode 54 = .ok (.iload 7, 2) := by decide +kernel
theorem dX2_mergeNode_56 : decode cX2_mergeNode 56 = .ok (.istore 8, 2) := by decide +kernel
theorem dX2_mergeNode_58 : decode cX2_mergeNode 58 = .ok (.iload 8, 2) := by decide +kernel
theorem dX2_mergeNode_60 : decode cX2_mergeNode 60 = .ok (.iconst (-1), 1) := by decide +kernel
theorem dX2_mergeNode_61 : decode cX2_mergeNode 61 = .ok (.if_icmp .ne 23, 3) := by decide +kernel
theorem dX2_mergeNode_64 : decode cX2_mergeNode 64 = .ok (.aload_n 0, 1) := by decide +kernel
theorem dX2_mergeNode_65 : decode cX2_mergeNode 65 = .ok (.dup, 1) := by decide +kernel
theorem dX2_mergeNode_66 : decode cX2_mergeNode 66 = .ok (.getfield 301, 3) := by decide +kernel
theorem dX2_mergeNode_69 : decode cX2_mergeNode 69 = .ok (.lconst 1, 1) := by decide +kernel
theorem dX2_mergeNode_70 : decode cX2_mergeNode 70 = .ok (.iload_n 2, 1) := by decide +kernel
theorem dX2_mergeNode_71 : decode cX2_mergeNode 71 = .ok (.iload 5, 2) := by decide +kernel
theorem dX2_mergeNode_73 : decode cX2_mergeNode 73 = .ok (.invokestatic 168, 3) := by decide +kernel
theorem dX2_mergeNode_76 : decode cX2_mergeNode 76 = .ok (.lshl, 1) := by decide +kernel
theorem dX2_mergeNode_77 : decode cX2_mergeNode 77 = .ok (.lor, 1) := by decide +kernel
theorem dX2_mergeNode_78 : decode cX2_mergeNode 78 = .ok (.putfield 301, 3) := by decide +kernel
theorem dX2_mergeNode_81 : decode cX2_mergeNode 81 = .ok (.goto 69, 3) := by decide +kernel
theorem dX2_mergeNode_84 : decode cX2_mergeNode 84 = .ok (.iload 8, 2) := by decide +kernel
theorem dX2_mergeNode_86 : decode cX2_mergeNode 86 = .ok (.iconst 1, 1) := by decide +kernel
theorem dX2_mergeNode_87 : decode cX2_mergeNode 87 = .ok (.if_icmp .ne 13, 3) := by decide +kernel
theorem dX2_mergeNode_90 : decode cX2_mergeNode 90 = .ok (.aload_n 0, 1) := by decide +kernel
theorem dX2_mergeNode_91 : decode cX2_mergeNode 91 = .ok (.getfield 21, 3) := by decide +kernel
theorem dX2_mergeNode_94 : decode cX2_mergeNode 94 = .ok (.iload 4, 2) := by decide +kernel
theorem dX2_mergeNode_96 : decode cX2_mergeNode 96 = .ok (.aaload, 1) := by decide +kernel
theorem dX2_mergeNode_97 : decode cX2_mergeNode 97 = .ok (.goto 9, 3) := by decide +kernel
theorem dX2_mergeNode_100 : decode cX2_mergeNode 100 = .ok (.aload_n 0, 1) := by decide +kernel
theorem dX2_mergeNode_101 : decode cX2_mergeNode 101 = .ok (.getfield 21, 3) := by decide +kernel
theorem dX2_mergeNode_104 : decode cX2_mergeNode 104 = .ok (.iload_n 3, 1) := by decide +kernel
theorem dX2_mergeNode_105 : decode cX2_mergeNode 105 = .ok (.aaload, 1) := by decide +kernel
theorem dX2_mergeNode_106 : decode cX2_mergeNode 106 = .ok (.astore 9, 2) := by decide +kernel
theorem dX2_mergeNode_108 : decode cX2_mergeNode 108 = .ok (.aload_n 0, 1) := by decide +kernel
theorem dX2_mergeNode_109 : decode cX2_mergeNode 109 = .ok (.getfield 44, 3) := by decide +kernel
theorem dX2_mergeNode_112 : decode cX2_mergeNode 112 = .ok (.iload_n 2, 1) := by decide +kernel
theorem dX2_mergeNode_113 : decode cX2_mergeNode 113 = .ok (.iload 5, 2) := by decide +kernel
theorem dX2_mergeNode_115 : decode cX2_mergeNode 115 = .ok (.aload 9, 2) := by decide +kernel
theorem dX2_mergeNode_117 : decode cX2_mergeNode 117 = .ok (.iload_n 2, 1) := by decide +kernel
theorem dX2_mergeNode_118 : decode cX2_mergeNode 118 = .ok (.iload 5, 2) := by decide +kernel
theorem dX2_mergeNode_120 : decode cX2_mergeNode 120 = .ok (.invokevirtual 212, 3) := by decide +kernel
theorem dX2_mergeNode_123 : decode cX2_mergeNode 123 = .ok (.invokevirtual 122, 3) := by decide +kernel
theorem dX2_mergeNode_126 : decode cX2_mergeNode 126 = .ok (.aload_n 0, 1) := by decide +kernel
theorem dX2_mergeNode_127 : decode cX2_mergeNode 127 = .ok (.getfield 44, 3) := by decide +kernel
theorem dX2_mergeNode_130 : decode cX2_mergeNode 130 = .ok (.iload_n 2, 1) := by decide +kernel
theorem dX2_mergeNode_131 : decode cX2_mergeNode 131 = .ok (.iload 5, 2) := by decide +kernel
theorem dX2_mergeNode_133 : decode cX2_mergeNode 133 = .ok (.aload_n 0, 1) := by decide +kernel
theorem dX2_mergeNode_134 : decode cX2_mergeNode 134 = .ok (.iload_n 2, 1) := by decide +kernel
theorem dX2_mergeNode_135 : decode cX2_mergeNode 135 = .ok (.iload 5, 2) := by decide +kernel
theorem dX2_mergeNode_137 : decode cX2_mergeNode 137 = .ok (.iload_n 3, 1) := by decide +kernel
theorem dX2_mergeNode_138 : decode cX2_mergeNode 138 = .ok (.iload 4, 2) := by decide +kernel
theorem dX2_mergeNode_140 : decode cX2_mergeNode 140 = .ok (.iload 6, 2) := by decide +kernel
theorem dX2_mergeNode_142 : decode cX2_mergeNode 142 = .ok (.iload 8, 2) := by decide +kernel
theorem dX2_mergeNode_144 : decode cX2_mergeNode 144 = .ok (.invokevirtual 315, 3) := by decide +kernel
theorem dX2_mergeNode_147 : decode cX2_mergeNode 147 = .ok (.invokevirtual 294, 3) := by decide +kernel
theorem dX2_mergeNode_150 : decode cX2_mergeNode 150 = .ok (.iinc 5 1, 3) := by decide +kernel
theorem dX2_mergeNode_153 : decode cX2_mergeNode 153 = .ok (.goto (-141), 3) := by decide +kernel
theorem dX2_mergeNode_156 : decode cX2_mergeNode 156 = .ok (.return_, 1) := by decide +kernel
theorem dX2_mergedMarks_0 : decode cX2_mergedMarks 0 = .ok (.aload_n 0, 1) := by decide +kernel
theorem dX2_mergedMarks_1 : decode cX2_mergedMarks 1 = .ok (.getfield 21, 3) := by decide +kernel
theorem dX2_mergedMarks_4 : decode cX2_mergedMarks 4 = .ok (.iload_n 3, 1) := by decide +kernel
theorem dX2_mergedMarks_5 : decode cX2_mergedMarks 5 = .ok (.aaload, 1) := by decide +kernel
theorem dX2_mergedMarks_6 : decode cX2_mergedMarks 6 = .ok (.iload_n 1, 1) := by decide +kernel
theorem dX2_mergedMarks_7 : decode cX2_mergedMarks 7 = .ok (.iload_n 2, 1) := by decide +kernel
theorem dX2_mergedMarks_8 : decode cX2_mergedMarks 8 = .ok (.invokevirtual 217, 3) := by decide +kernel
theorem dX2_mergedMarks_11 : decode cX2_mergedMarks 11 = .ok (.lstore 7, 2) := by decide +kernel
theorem dX2_mergedMarks_13 : decode cX2_mergedMarks 13 = .ok (.aload_n 0, 1) := by decide +kernel
theorem dX2_mergedMarks_14 : decode cX2_mergedMarks 14 = .ok (.getfield 21, 3) := by decide +kernel
theorem dX2_mergedMarks_17 : decode cX2_mergedMarks 17 = .ok (.iload 4, 2) := by decide +kernel
theorem dX2_mergedMarks_19 : decode cX2_mergedMarks 19 = .ok (.aaload, 1) := by decide +kernel
theorem dX2_mergedMarks_20 : decode cX2_mergedMarks 20 = .ok (.iload_n 1, 1) := by decide +kernel
theorem dX2_mergedMarks_21 : decode cX2_mergedMarks 21 = .ok (.iload_n 2, 1) := by decide +kernel
theorem dX2_mergedMarks_22 : decode cX2_mergedMarks 22 = .ok (.invokevirtual 217, 3) := by decide +kernel
theorem dX2_mergedMarks_25 : decode cX2_mergedMarks 25 = .ok (.lstore 9, 2) := by decide +kernel
theorem dX2_mergedMarks_27 : decode cX2_mergedMarks 27 = .ok (.iload 5, 2) := by decide +kernel
theorem dX2_mergedMarks_29 : decode cX2_mergedMarks 29 = .ok (.iconst 2, 1) := by decide +kernel
theorem dX2_mergedMarks_30 : decode cX2_mergedMarks 30 = .ok (.if_icmp .ne 13, 3) := by decide +kernel
theorem dX2_mergedMarks_33 : decode cX2_mergedMarks 33 = .ok (.aload_n 0, 1) := by decide +kernel
theorem dX2_mergedMarks_34 : decode cX2_mergedMarks 34 = .ok (.lload 7, 2) := by decide +kernel
theorem dX2_mergedMarks_36 : decode cX2_mergedMarks 36 = .ok (.lload 9, 2) := by decide +kernel
theorem dX2_mergedMarks_38 : decode cX2_mergedMarks 38 = .ok (.lor, 1) := by decide +kernel
theorem dX2_mergedMarks_39 : decode cX2_mergedMarks 39 = .ok (.invokevirtual 245, 3) := by decide +kernel
theorem dX2_mergedMarks_42 : decode cX2_mergedMarks 42 = .ok (.lreturn, 1) := by decide +kernel
theorem dX2_mergedMarks_43 : decode cX2_mergedMarks 43 = .ok (.iload 5, 2) := by decide +kernel
theorem dX2_mergedMarks_45 : decode cX2_mergedMarks 45 = .ok (.iload 6, 2) := by decide +kernel
theorem dX2_mergedMarks_47 : decode cX2_mergedMarks 47 = .ok (.if_icmp .eq 10, 3) := by decide +kernel
theorem dX2_mergedMarks_50 : decode cX2_mergedMarks 50 = .ok (.lconst 1, 1) := by decide +kernel
theorem dX2_mergedMarks_51 : decode cX2_mergedMarks 51 = .ok (.aload_n 0, 1) := by decide +kernel
theorem dX2_mergedMarks_52 : decode cX2_mergedMarks 52 = .ok (.getfield 29, 3) := by decide +kernel
theorem dX2_mergedMarks_55 : decode cX2_mergedMarks 55 = .ok (.lshl, 1) := by decide +kernel
theorem dX2_mergedMarks_56 : decode cX2_mergedMarks 56 = .ok (.lreturn, 1) := by decide +kernel
theorem dX2_mergedMarks_57 : decode cX2_mergedMarks 57 = .ok (.iload 6, 2) := by decide +kernel
theorem dX2_mergedMarks_59 : decode cX2_mergedMarks 59 = .ok (.iconst 1, 1) := by decide +kernel
theorem dX2_mergedMarks_60 : decode cX2_mergedMarks 60 = .ok (.if_icmp .ne 8, 3) := by decide +kernel
theorem dX2_mergedMarks_63 : decode cX2_mergedMarks 63 = .ok (.lload 9, 2) := by decide +kernel
theorem dX2_mergedMarks_65 : decode cX2_mergedMarks 65 = .ok (.goto 5, 3) := by decide +kernel
theorem dX2_mergedMarks_68 : decode cX2_mergedMarks 68 = .ok (.lload 7, 2) := by decide +kernel
theorem dX2_mergedMarks_70 : decode cX2_mergedMarks 70 = .ok (.lreturn, 1) := by decide +kernel
theorem dX2_ownSide_0 : decode cX2_ownSide 0 = .ok (.aload_n 0, 1) := by decide +kernel
theorem dX2_ownSide_1 : decode cX2_ownSide 1 = .ok (.getfield 21, 3) := by decide +kernel
theorem dX2_ownSide_4 : decode cX2_ownSide 4 = .ok (.iload_n 3, 1) := by decide +kernel
theorem dX2_ownSide_5 : decode cX2_ownSide 5 = .ok (.aaload, 1) := by decide +kernel
theorem dX2_ownSide_6 : decode cX2_ownSide 6 = .ok (.iload_n 1, 1) := by decide +kernel
theorem dX2_ownSide_7 : decode cX2_ownSide 7 = .ok (.iload_n 2, 1) := by decide +kernel
theorem dX2_ownSide_8 : decode cX2_ownSide 8 = .ok (.invokevirtual 212, 3) := by decide +kernel
theorem dX2_ownSide_11 : decode cX2_ownSide 11 = .ok (.aload_n 0, 1) := by decide +kernel
theorem dX2_ownSide_12 : decode cX2_ownSide 12 = .ok (.getfield 21, 3) := by decide +kernel
theorem dX2_ownSide_15 : decode cX2_ownSide 15 = .ok (.iload 4, 2) := by decide +kernel
theorem dX2_ownSide_17 : decode cX2_ownSide 17 = .ok (.aaload, 1) := by decide +kernel
theorem dX2_ownSide_18 : decode cX2_ownSide 18 = .ok (.iload_n 1, 1) := by decide +kernel
theorem dX2_ownSide_19 : decode cX2_ownSide 19 = .ok (.iload_n 2, 1) := by decide +kernel
theorem dX2_ownSide_20 : decode cX2_ownSide 20 = .ok (.invokevirtual 212, 3) := by decide +kernel
theorem dX2_ownSide_23 : decode cX2_ownSide 23 = .ok (.if_icmp .ne 5, 3) := by decide +kernel
theorem dX2_ownSide_26 : decode cX2_ownSide 26 = .ok (.iconst 2, 1) := by decide +kernel
theorem dX2_ownSide_27 : decode cX2_ownSide 27 = .ok (.ireturn, 1) := by decide +kernel
theorem dX2_ownSide_28 : decode cX2_ownSide 28 = .ok (.aload_n 0, 1) := by decide +kernel
theorem dX2_ownSide_29 : decode cX2_ownSide 29 = .ok (.getfield 21, 3) := by decide +kernel
theorem dX2_ownSide_32 : decode cX2_ownSide 32 = .ok (.iload_n 3, 1) := by decide +kernel
theorem dX2_ownSide_33 : decode cX2_ownSide 33 = .ok (.aaload, 1) := by decide +kernel
theorem dX2_ownSide_34 : decode cX2_ownSide 34 = .ok (.iload_n 1, 1) := by decide +kernel
theorem dX2_ownSide_35 : decode cX2_ownSide 35 = .ok (.iload_n 2, 1) := by decide +kernel
theorem dX2_ownSide_36 : decode cX2_ownSide 36 = .ok (.invokevirtual 217, 3) := by decide +kernel
theorem dX2_ownSide_39 : decode cX2_ownSide 39 = .ok (.aload_n 0, 1) := by decide +kernel
theorem dX2_ownSide_40 : decode cX2_ownSide 40 = .ok (.iload 4, 2) := by decide +kernel
theorem dX2_ownSide_42 : decode cX2_ownSide 42 = .ok (.invokevirtual 146, 3) := by decide +kernel
theorem dX2_ownSide_45 : decode cX2_ownSide 45 = .ok (.ldc2_w 292, 3) := by decide +kernel
theorem dX2_ownSide_48 : decode cX2_ownSide 48 = .ok (.lxor, 1) := by decide +kernel
theorem dX2_ownSide_49 : decode cX2_ownSide 49 = .ok (.land, 1) := by decide +kernel
theorem dX2_ownSide_50 : decode cX2_ownSide 50 = .ok (.lconst 0, 1) := by decide +kernel
theorem dX2_ownSide_51 : decode cX2_ownSide 51 = .ok (.lcmp, 1) := by decide +kernel
theorem dX2_ownSide_52 : decode cX2_ownSide 52 = .ok (.ifCond .ne 5, 3) := by decide +kernel
theorem dX2_ownSide_55 : decode cX2_ownSide 55 = .ok (.iconst 1, 1) := by decide +kernel
theorem dX2_ownSide_56 : decode cX2_ownSide 56 = .ok (.ireturn, 1) := by decide +kernel
theorem dX2_ownSide_57 : decode cX2_ownSide 57 = .ok (.aload_n 0, 1) := by decide +kernel
theorem dX2_ownSide_58 : decode cX2_ownSide 58 = .ok (.getfield 21, 3) := by decide +kernel
theorem dX2_ownSide_61 : decode cX2_ownSide 61 = .ok (.iload 4, 2) := by decide +kernel
theorem dX2_ownSide_63 : decode cX2_ownSide 63 = .ok (.aaload, 1) := by decide +kernel
theorem dX2_ownSide_64 : decode cX2_ownSide 64 = .ok (.iload_n 1, 1) := by decide +kernel
theorem dX2_ownSide_65 : decode cX2_ownSide 65 = .ok (.iload_n 2, 1) := by decide +kernel
theorem dX2_ownSide_66 : decode cX2_ownSide 66 = .ok (.invokevirtual 217, 3) := by decide +kernel
theorem dX2_ownSide_69 : decode cX2_ownSide 69 = .ok (.aload_n 0, 1) := by decide +kernel
theorem dX2_ownSide_70 : decode cX2_ownSide 70 = .ok (.iload_n 3, 1) := by decide +kernel
theorem dX2_ownSide_71 : decode cX2_ownSide 71 = .ok (.invokevirtual 146, 3) := by decide +kernel
theorem dX2_ownSide_74 : decode cX2_ownSide 74 = .ok (.ldc2_w 292, 3) := by decide +kernel
theorem dX2_ownSide_77 : decode cX2_ownSide 77 = .ok (.lxor, 1) := by decide +kernel
theorem dX2_ownSide_78 : decode cX2_ownSide 78 = .ok (.land, 1) := by decide +kernel
theorem dX2_ownSide_79 : decode cX2_ownSide 79 = .ok (.lconst 0, 1) := by decide +kernel
theorem dX2_ownSide_80 : decode cX2_ownSide 80 = .ok (.lcmp, 1) := by decide +kernel
theorem dX2_ownSide_81 : decode cX2_ownSide 81 = .ok (.ifCond .ne 5, 3) := by decide +kernel
theorem dX2_ownSide_84 : decode cX2_ownSide 84 = .ok (.iconst 0, 1) := by decide +kernel
theorem dX2_ownSide_85 : decode cX2_ownSide 85 = .ok (.ireturn, 1) := by decide +kernel
theorem dX2_ownSide_86 : decode cX2_ownSide 86 = .ok (.iconst (-1), 1) := by decide +kernel
theorem dX2_ownSide_87 : decode cX2_ownSide 87 = .ok (.ireturn, 1) := by decide +kernel
theorem dX2_listConflicts_0 : decode cX2_listConflicts 0 = .ok (.aload_n 1, 1) := by decide +kernel
theorem dX2_listConflicts_1 : decode cX2_listConflicts 1 = .ok (.iconst 0, 1) := by decide +kernel
theorem dX2_listConflicts_2 : decode cX2_listConflicts 2 = .ok (.putfield 187, 3) := by decide +kernel
theorem dX2_listConflicts_5 : decode cX2_listConflicts 5 = .ok (.iconst 1, 1) := by decide +kernel
theorem dX2_listConflicts_6 : decode cX2_listConflicts 6 = .ok (.istore_n 2, 1) := by decide +kernel
theorem dX2_listConflicts_7 : decode cX2_listConflicts 7 = .ok (.iload_n 2, 1) := by decide +kernel
theorem dX2_listConflicts_8 : decode cX2_listConflicts 8 = .ok (.aload_n 0, 1) := by decide +kernel
theorem dX2_listConflicts_9 : decode cX2_listConflicts 9 = .ok (.getfield 40, 3) := by decide +kernel
theorem dX2_listConflicts_12 : decode cX2_listConflicts 12 = .ok (.if_icmp .ge 78, 3) := by decide +kernel
theorem dX2_listConflicts_15 : decode cX2_listConflicts 15 = .ok (.aload_n 0, 1) := by decide +kernel
theorem dX2_listConflicts_16 : decode cX2_listConflicts 16 = .ok (.getfield 44, 3) := by decide +kernel
theorem dX2_listConflicts_19 : decode cX2_listConflicts 19 = .ok (.iload_n 2, 1) := by decide +kernel
theorem dX2_listConflicts_20 : decode cX2_listConflicts 20 = .ok (.invokevirtual 273, 3) := by decide +kernel
theorem dX2_listConflicts_23 : decode cX2_listConflicts 23 = .ok (.ifCond .ne 6, 3) := by decide +kernel
theorem dX2_listConflicts_26 : decode cX2_listConflicts 26 = .ok (.goto 58, 3) := by decide +kernel
theorem dX2_listConflicts_29 : decode cX2_listConflicts 29 = .ok (.iconst 0, 1) := by decide +kernel
theorem dX2_listConflicts_30 : decode cX2_listConflicts 30 = .ok (.istore_n 3, 1) := by decide +kernel
theorem dX2_listConflicts_31 : decode cX2_listConflicts 31 = .ok (.iload_n 3, 1) := by decide +kernel
theorem dX2_listConflicts_32 : decode cX2_listConflicts 32 = .ok (.iconst 3, 1) := by decide +kernel
theorem dX2_listConflicts_33 : decode cX2_listConflicts 33 = .ok (.if_icmp .ge 30, 3) := by decide +kernel
theorem dX2_listConflicts_36 : decode cX2_listConflicts 36 = .ok (.aload_n 0, 1) := by decide +kernel
theorem dX2_listConflicts_37 : decode cX2_listConflicts 37 = .ok (.getfield 301, 3) := by decide +kernel
theorem dX2_listConflicts_40 : decode cX2_listConflicts 40 = .ok (.iload_n 2, 1) := by decide +kernel
theorem dX2_listConflicts_41 : decode cX2_listConflicts 41 = .ok (.iload_n 3, 1) := by decide +kernel
theorem dX2_listConflicts_42 : decode cX2_listConflicts 42 = .ok (.invokestatic 168, 3) := by decide +kernel
theorem dX2_listConflicts_45 : decode cX2_listConflicts 45 = .ok (.invokestatic 174, 3) := by decide +kernel
theorem dX2_listConflicts_48 : decode cX2_listConflicts 48 = .ok (.ifCond .eq 9, 3) := by decide +kernel
theorem dX2_listConflicts_51 : decode cX2_listConflicts 51 = .ok (.aload_n 1, 1) := by decide +kernel
theorem dX2_listConflicts_52 : decode cX2_listConflicts 52 = .ok (.iload_n 2, 1) := by decide +kernel
theorem dX2_listConflicts_53 : decode cX2_listConflicts 53 = .ok (.iload_n 3, 1) := by decide +kernel
theorem dX2_listConflicts_54 : decode cX2_listConflicts 54 = .ok (.invokevirtual 319, 3) := by decide +kernel
theorem dX2_listConflicts_57 : decode cX2_listConflicts 57 = .ok (.iinc 3 1, 3) := by decide +kernel
theorem dX2_listConflicts_60 : decode cX2_listConflicts 60 = .ok (.goto (-29), 3) := by decide +kernel
theorem dX2_listConflicts_63 : decode cX2_listConflicts 63 = .ok (.aload_n 0, 1) := by decide +kernel
theorem dX2_listConflicts_64 : decode cX2_listConflicts 64 = .ok (.getfield 301, 3) := by decide +kernel
theorem dX2_listConflicts_67 : decode cX2_listConflicts 67 = .ok (.iload_n 2, 1) := by decide +kernel
theorem dX2_listConflicts_68 : decode cX2_listConflicts 68 = .ok (.iconst 0, 1) := by decide +kernel
theorem dX2_listConflicts_69 : decode cX2_listConflicts 69 = .ok (.invokestatic 168, 3) := by decide +kernel
theorem dX2_listConflicts_72 : decode cX2_listConflicts 72 = .ok (.invokestatic 174, 3) := by decide +kernel
theorem dX2_listConflicts_75 : decode cX2_listConflicts 75 = .ok (.ifCond .ne 9, 3) := by decide +kernel
theorem dX2_listConflicts_78 : decode cX2_listConflicts 78 = .ok (.aload_n 0, 1) := by decide +kernel
theorem dX2_listConflicts_79 : decode cX2_listConflicts 79 = .ok (.aload_n 1, 1) := by decide +kernel
theorem dX2_listConflicts_80 : decode cX2_listConflicts 80 = .ok (.iload_n 2, 1) := by decide +kernel
theorem dX2_listConflicts_81 : decode cX2_listConflicts 81 = .ok (.invokevirtual 322, 3) := by decide +kernel
theorem dX2_listConflicts_84 : decode cX2_listConflicts 84 = .ok (.iinc 2 1, 3) := by decide +kernel
theorem dX2_listConflicts_87 : decode cX2_listConflicts 87 = .ok (.goto (-80), 3) := by decide +kernel
theorem dX2_listConflicts_90 : decode cX2_listConflicts 90 = .ok (.return_, 1) := by decide +kernel
theorem dX2_listPlaceConflict_0 : decode cX2_listPlaceConflict 0 = .ok (.aload_n 0, 1) := by decide +kernel
theorem dX2_listPlaceConflict_1 : decode cX2_listPlaceConflict 1 = .ok (.getfield 44, 3) := by decide +kernel
theorem dX2_listPlaceConflict_4 : decode cX2_listPlaceConflict 4 = .ok (.iload_n 2, 1) := by decide +kernel
theorem dX2_listPlaceConflict_5 : decode cX2_listPlaceConflict 5 = .ok (.invokevirtual 206, 3) := by decide +kernel
theorem dX2_listPlaceConflict_8 : decode cX2_listPlaceConflict 8 = .ok (.istore_n 3, 1) := by decide +kernel
theorem dX2_listPlaceConflict_9 : decode cX2_listPlaceConflict 9 = .ok (.aload_n 0, 1) := by decide +kernel
theorem dX2_listPlaceConflict_10 : decode cX2_listPlaceConflict 10 = .ok (.getfield 44, 3) := by decide +kernel
theorem dX2_listPlaceConflict_13 : decode cX2_listPlaceConflict 13 = .ok (.iload_n 3, 1) := by decide +kernel
theorem dX2_listPlaceConflict_14 : decode cX2_listPlaceConflict 14 = .ok (.invokevirtual 273, 3) := by decide +kernel
theorem dX2_listPlaceConflict_17 : decode cX2_listPlaceConflict 17 = .ok (.ifCond .ne 12, 3) := by decide +kernel
theorem dX2_listPlaceConflict_20 : decode cX2_listPlaceConflict 20 = .ok (.aload_n 1, 1) := by decide +kernel
theorem dX2_listPlaceConflict_21 : decode cX2_listPlaceConflict 21 = .ok (.iload_n 2, 1) := by decide +kernel
theorem dX2_listPlaceConflict_22 : decode cX2_listPlaceConflict 22 = .ok (.iconst 3, 1) := by decide +kernel
theorem dX2_listPlaceConflict_23 : decode cX2_listPlaceConflict 23 = .ok (.invokevirtual 319, 3) := by decide +kernel
theorem dX2_listPlaceConflict_26 : decode cX2_listPlaceConflict 26 = .ok (.goto 50, 3) := by decide +kernel
theorem dX2_listPlaceConflict_29 : decode cX2_listPlaceConflict 29 = .ok (.aload_n 0, 1) := by decide +kernel
theorem dX2_listPlaceConflict_30 : decode cX2_listPlaceConflict 30 = .ok (.getfield 44, 3) := by decide +kernel
theorem dX2_listPlaceConflict_33 : decode cX2_listPlaceConflict 33 = .ok (.aload_n 0, 1) := by decide +kernel
theorem dX2_listPlaceConflict_34 : decode cX2_listPlaceConflict 34 = .ok (.getfield 44, 3) := by decide +kernel
theorem dX2_listPlaceConflict_37 : decode cX2_listPlaceConflict 37 = .ok (.iload_n 2, 1) := by decide +kernel
theorem dX2_listPlaceConflict_38 : decode cX2_listPlaceConflict 38 = .ok (.iconst 0, 1) := by decide +kernel
theorem dX2_listPlaceConflict_39 : decode cX2_listPlaceConflict 39 = .ok (.invokevirtual 212, 3) := by decide +kernel
theorem dX2_listPlaceConflict_42 : decode cX2_listPlaceConflict 42 = .ok (.invokevirtual 82, 3) := by decide +kernel
theorem dX2_listPlaceConflict_45 : decode cX2_listPlaceConflict 45 = .ok (.iload_n 2, 1) := by decide +kernel
theorem dX2_listPlaceConflict_46 : decode cX2_listPlaceConflict 46 = .ok (.if_icmp .eq 12, 3) := by decide +kernel
theorem dX2_listPlaceConflict_49 : decode cX2_listPlaceConflict 49 = .ok (.aload_n 1, 1) := by decide +kernel
theorem dX2_listPlaceConflict_50 : decode cX2_listPlaceConflict 50 = .ok (.iload_n 2, 1) := by decide +kernel
theorem dX2_listPlaceConflict_51 : decode cX2_listPlaceConflict 51 = .ok (.iconst 4, 1) := by decide +kernel
theorem dX2_listPlaceConflict_52 : decode cX2_listPlaceConflict 52 = .ok (.invokevirtual 319, 3) := by decide +kernel
theorem dX2_listPlaceConflict_55 : decode cX2_listPlaceConflict 55 = .ok (.goto 21, 3) := by decide +kernel
theorem dX2_listPlaceConflict_58 : decode cX2_listPlaceConflict 58 = .ok (.aload_n 0, 1) := by decide +kernel
theorem dX2_listPlaceConflict_59 : decode cX2_listPlaceConflict 59 = .ok (.getfield 44, 3) := by decide +kernel
theorem dX2_listPlaceConflict_62 : decode cX2_listPlaceConflict 62 = .ok (.iload_n 3, 1) := by decide +kernel
theorem dX2_listPlaceConflict_63 : decode cX2_listPlaceConflict 63 = .ok (.iload_n 2, 1) := by decide +kernel
theorem dX2_listPlaceConflict_64 : decode cX2_listPlaceConflict 64 = .ok (.invokevirtual 116, 3) := by decide +kernel
theorem dX2_listPlaceConflict_67 : decode cX2_listPlaceConflict 67 = .ok (.ifCond .eq 9, 3) := by decide +kernel
theorem dX2_listPlaceConflict_70 : decode cX2_listPlaceConflict 70 = .ok (.aload_n 1, 1) := by decide +kernel
theorem dX2_listPlaceConflict_71 : decode cX2_listPlaceConflict 71 = .ok (.iload_n 2, 1) := by decide +kernel
theorem dX2_listPlaceConflict_72 : decode cX2_listPlaceConflict 72 = .ok (.iconst 5, 1) := by decide +kernel
theorem dX2_listPlaceConflict_73 : decode cX2_listPlaceConflict 73 = .ok (.invokevirtual 319, 3) := by decide +kernel
theorem dX2_listPlaceConflict_76 : decode cX2_listPlaceConflict 76 = .ok (.return_, 1) := by decide +kernel
theorem dX3_init_0 : decode cX3_init 0 = .ok (.aload_n 0, 1) := by decide +kernel
theorem dX3_init_1 : decode cX3_init 1 = .ok (.invokespecial 1, 3) := by decide +kernel
theorem dX3_init_4 : decode cX3_init 4 = .ok (.aload_n 0, 1) := by decide +kernel
theorem dX3_init_5 : decode cX3_init 5 = .ok (.iconst 1, 1) := by decide +kernel
theorem dX3_init_6 : decode cX3_init 6 = .ok (.putfield 7, 3) := by decide +kernel
theorem dX3_init_9 : decode cX3_init 9 = .ok (.aload_n 0, 1) := by decide +kernel
theorem dX3_init_10 : decode cX3_init 10 = .ok (.bipush 40, 2) := by decide +kernel
theorem dX3_init_12 : decode cX3_init 12 = .ok (.newarray .long, 2) := by decide +kernel
theorem dX3_init_14 : decode cX3_init 14 = .ok (.putfield 13, 3) := by decide +kernel
theorem dX3_init_17 : decode cX3_init 17 = .ok (.aload_n 0, 1) := by decide +kernel
theorem dX3_init_18 : decode cX3_init 18 = .ok (.iconst 1, 1) := by decide +kernel
theorem dX3_init_19 : decode cX3_init 19 = .ok (.putfield 17, 3) := by decide +kernel
theorem dX3_init_22 : decode cX3_init 22 = .ok (.aload_n 0, 1) := by decide +kernel
theorem dX3_init_23 : decode cX3_init 23 = .ok (.bipush 16, 2) := by decide +kernel
theorem dX3_init_25 : decode cX3_init 25 = .ok (.newarray .boolean, 2) := by decide +kernel
theorem dX3_init_27 : decode cX3_init 27 = .ok (.putfield 20, 3) := by decide +kernel
theorem dX3_init_30 : decode cX3_init 30 = .ok (.aload_n 0, 1) := by decide +kernel
theorem dX3_init_31 : decode cX3_init 31 = .ok (.bipush 16, 2) := by decide +kernel
theorem dX3_init_33 : decode cX3_init 33 = .ok (.newarray .int, 2) := by decide +kernel
theorem dX3_init_35 : decode cX3_init 35 = .ok (.putfield 24, 3) := by decide +kernel
theorem dX3_init_38 : decode cX3_init 38 = .ok (.aload_n 0, 1) := by decide +kernel
theorem dX3_init_39 : decode cX3_init 39 = .ok (.bipush 43, 2) := by decide +kernel
theorem dX3_init_41 : decode cX3_init 41 = .ok (.newarray .int, 2) := by decide +kernel
theorem dX3_init_43 : decode cX3_init 43 = .ok (.putfield 28, 3) := by decide +kernel
theorem dX3_init_46 : decode cX3_init 46 = .ok (.aload_n 0, 1) := by decide +kernel
theorem dX3_init_47 : decode cX3_init 47 = .ok (.sipush 688, 3) := by decide +kernel
theorem dX3_init_50 : decode cX3_init 50 = .ok (.newarray .int, 2) := by decide +kernel
theorem dX3_init_52 : decode cX3_init 52 = .ok (.putfield 31, 3) := by decide +kernel
theorem dX3_init_55 : decode cX3_init 55 = .ok (.aload_n 0, 1) := by decide +kernel
theorem dX3_init_56 : decode cX3_init 56 = .ok (.sipush 688, 3) := by decide +kernel
theorem dX3_init_59 : decode cX3_init 59 = .ok (.newarray .int, 2) := by decide +kernel
theorem dX3_init_61 : decode cX3_init 61 = .ok (.putfield 34, 3) := by decide +kernel
theorem dX3_init_64 : decode cX3_init 64 = .ok (.aload_n 0, 1) := by decide +kernel
theorem dX3_init_65 : decode cX3_init 65 = .ok (.sipush 688, 3) := by decide +kernel
theorem dX3_init_68 : decode cX3_init 68 = .ok (.newarray .int, 2) := by decide +kernel
theorem dX3_init_70 : decode cX3_init 70 = .ok (.putfield 37, 3) := by decide +kernel
theorem dX3_init_73 : decode cX3_init 73 = .ok (.aload_n 0, 1) := by decide +kernel
theorem dX3_init_74 : decode cX3_init 74 = .ok (.sipush 688, 3) := by decide +kernel
theorem dX3_init_77 : decode cX3_init 77 = .ok (.newarray .int, 2) := by decide +kernel
theorem dX3_init_79 : decode cX3_init 79 = .ok (.putfield 40, 3) := by decide +kernel
theorem dX3_init_82 : decode cX3_init 82 = .ok (.aload_n 0, 1) := by decide +kernel
theorem dX3_init_83 : decode cX3_init 83 = .ok (.sipush 2064, 3) := by decide +kernel
theorem dX3_init_86 : decode cX3_init 86 = .ok (.newarray .long, 2) := by decide +kernel
theorem dX3_init_88 : decode cX3_init 88 = .ok (.putfield 43, 3) := by decide +kernel
theorem dX3_init_91 : decode cX3_init 91 = .ok (.aload_n 0, 1) := by decide +kernel
theorem dX3_init_92 : decode cX3_init 92 = .ok (.iconst 2, 1) := by decide +kernel
theorem dX3_init_93 : decode cX3_init 93 = .ok (.newarray .long, 2) := by decide +kernel
theorem dX3_init_95 : decode cX3_init 95 = .ok (.putfield 46, 3) := by decide +kernel
theorem dX3_init_98 : decode cX3_init 98 = .ok (.aload_n 0, 1) := by decide +kernel
theorem dX3_init_99 : decode cX3_init 99 = .ok (.iconst 2, 1) := by decide +kernel
theorem dX3_init_100 : decode cX3_init 100 = .ok (.newarray .int, 2) := by decide +kernel
theorem dX3_init_102 : decode cX3_init 102 = .ok (.putfield 49, 3) := by decide +kernel
theorem dX3_init_105 : decode cX3_init 105 = .ok (.aload_n 0, 1) := by decide +kernel
theorem dX3_init_106 : decode cX3_init 106 = .ok (.bipush 96, 2) := by decide +kernel
theorem dX3_init_108 : decode cX3_init 108 = .ok (.newarray .int, 2) := by decide +kernel
theorem dX3_init_110 : decode cX3_init 110 = .ok (.putfield 52, 3) := by decide +kernel
theorem dX3_init_113 : decode cX3_init 113 = .ok (.aload_n 0, 1) := by decide +kernel
theorem dX3_init_114 : decode cX3_init 114 = .ok (.iconst 2, 1) := by decide +kernel
theorem dX3_init_115 : decode cX3_init 115 = .ok (.newarray .int, 2) := by decide +kernel
theorem dX3_init_117 : decode cX3_init 117 = .ok (.putfield 55, 3) := by decide +kernel
theorem dX3_init_120 : decode cX3_init 120 = .ok (.aload_n 0, 1) := by decide +kernel
theorem dX3_init_121 : decode cX3_init 121 = .ok (.bipush 24, 2) := by decide +kernel
theorem dX3_init_123 : decode cX3_init 123 = .ok (.newarray .long, 2) := by decide +kernel
theorem dX3_init_125 : decode cX3_init 125 = .ok (.putfield 58, 3) := by decide +kernel
theorem dX3_init_128 : decode cX3_init 128 = .ok (.aload_n 0, 1) := by decide +kernel
theorem dX3_init_129 : decode cX3_init 129 = .ok (.iconst 2, 1) := by decide +kernel
theorem dX3_init_130 : decode cX3_init 130 = .ok (.newarray .int, 2) := by decide +kernel
theorem dX3_init_132 : decode cX3_init 132 = .ok (.putfield 61, 3) := by decide +kernel
theorem dX3_init_135 : decode cX3_init 135 = .ok (.aload_n 0, 1) := by decide +kernel
theorem dX3_init_136 : decode cX3_init 136 = .ok (.iconst 2, 1) := by decide +kernel
theorem dX3_init_137 : decode cX3_init 137 = .ok (.newarray .int, 2) := by decide +kernel
theorem dX3_init_139 : decode cX3_init 139 = .ok (.putfield 64, 3) := by decide +kernel
theorem dX3_init_142 : decode cX3_init 142 = .ok (.aload_n 0, 1) := by decide +kernel
theorem dX3_init_143 : decode cX3_init 143 = .ok (.sipush 128, 3) := by decide +kernel
theorem dX3_init_146 : decode cX3_init 146 = .ok (.newarray .int, 2) := by decide +kernel
theorem dX3_init_148 : decode cX3_init 148 = .ok (.putfield 67, 3) := by decide +kernel
theorem dX3_init_151 : decode cX3_init 151 = .ok (.aload_n 0, 1) := by decide +kernel
theorem dX3_init_152 : decode cX3_init 152 = .ok (.sipush 128, 3) := by decide +kernel
theorem dX3_init_155 : decode cX3_init 155 = .ok (.newarray .int, 2) := by decide +kernel
theorem dX3_init_157 : decode cX3_init 157 = .ok (.putfield 70, 3) := by decide +kernel
theorem dX3_init_160 : decode cX3_init 160 = .ok (.aload_n 0, 1) := by decide +kernel
theorem dX3_init_161 : decode cX3_init 161 = .ok (.bipush 16, 2) := by decide +kernel
theorem dX3_init_163 : decode cX3_init 163 = .ok (.newarray .int, 2) := by decide +kernel
theorem dX3_init_165 : decode cX3_init 165 = .ok (.putfield 73, 3) := by decide +kernel
theorem dX3_init_168 : decode cX3_init 168 = .ok (.iconst 0, 1) := by decide +kernel
theorem dX3_init_169 : decode cX3_init 169 = .ok (.istore_n 1, 1) := by decide +kernel
theorem dX3_init_170 : decode cX3_init 170 = .ok (.iload_n 1, 1) := by decide +kernel
theorem dX3_init_171 : decode cX3_init 171 = .ok (.iconst 2, 1) := by decide +kernel
theorem dX3_init_172 : decode cX3_init 172 = .ok (.if_icmp .ge 31, 3) := by decide +kernel
theorem dX3_init_175 : decode cX3_init 175 = .ok (.aload_n 0, 1) := by decide +kernel
theorem dX3_init_176 : decode cX3_init 176 = .ok (.getfield 46, 3) := by decide +kernel
theorem dX3_init_179 : decode cX3_init 179 = .ok (.iload_n 1, 1) := by decide +kernel
theorem dX3_init_180 : decode cX3_init 180 = .ok (.lconst 1, 1) := by decide +kernel
theorem dX3_init_181 : decode cX3_init 181 = .ok (.lastore, 1) := by decide +kernel
theorem dX3_init_182 : decode cX3_init 182 = .ok (.aload_n 0, 1) := by decide +kernel
theorem dX3_init_183 : decode cX3_init 183 = .ok (.getfield 49, 3) := by decide +kernel
theorem dX3_init_186 : decode cX3_init 186 = .ok (.iload_n 1, 1) := by decide +kernel
theorem dX3_init_187 : decode cX3_init 187 = .ok (.iconst (-1), 1) := by decide +kernel
theorem dX3_init_188 : decode cX3_init 188 = .ok (.iastore, 1) := by decide +kernel
theorem dX3_init_189 : decode cX3_init 189 = .ok (.aload_n 0, 1) := by decide +kernel
theorem dX3_init_190 : decode cX3_init 190 = .ok (.getfield 61, 3) := by decide +kernel
theorem dX3_init_193 : decode cX3_init 193 = .ok (.iload_n 1, 1) := by decide +kernel
theorem dX3_init_194 : decode cX3_init 194 = .ok (.bipush 15, 2) := by decide +kernel
theorem dX3_init_196 : decode cX3_init 196 = .ok (.iastore, 1) := by decide +kernel
theorem dX3_init_197 : decode cX3_init 197 = .ok (.iinc 1 1, 3) := by decide +kernel
theorem dX3_init_200 : decode cX3_init 200 = .ok (.goto (-30), 3) := by decide +kernel
theorem dX3_init_203 : decode cX3_init 203 = .ok (.iconst 0, 1) := by decide +kernel
theorem dX3_init_204 : decode cX3_init 204 = .ok (.istore_n 1, 1) := by decide +kernel
theorem dX3_init_205 : decode cX3_init 205 = .ok (.iload_n 1, 1) := by decide +kernel
theorem dX3_init_206 : decode cX3_init 206 = .ok (.bipush 43, 2) := by decide +kernel
theorem dX3_init_208 : decode cX3_init 208 = .ok (.if_icmp .ge 36, 3) := by decide +kernel
theorem dX3_init_211 : decode cX3_init 211 = .ok (.aload_n 0, 1) := by decide +kernel
theorem dX3_init_212 : decode cX3_init 212 = .ok (.getfield 28, 3) := by decide +kernel
theorem dX3_init_215 : decode cX3_init 215 = .ok (.iload_n 1, 1) := by decide +kernel
theorem dX3_init_216 : decode cX3_init 216 = .ok (.iconst 1, 1) := by decide +kernel
theorem dX3_init_217 : decode cX3_init 217 = .ok (.iastore, 1) := by decide +kernel
theorem dX3_init_218 : decode cX3_init 218 = .ok (.aload_n 0, 1) := by decide +kernel
theorem dX3_init_219 : decode cX3_init 219 = .ok (.getfield 31, 3) := by decide +kernel
theorem dX3_init_222 : decode cX3_init 222 = .ok (.bipush 16, 2) := by decide +kernel
theorem dX3_init_224 : decode cX3_init 224 = .ok (.iload_n 1, 1) := by decide +kernel
theorem dX3_init_225 : decode cX3_init 225 = .ok (.imul, 1) := by decide +kernel
theorem dX3_init_226 : decode cX3_init 226 = .ok (.iconst (-1), 1) := by decide +kernel
theorem dX3_init_227 : decode cX3_init 227 = .ok (.iastore, 1) := by decide +kernel
theorem dX3_init_228 : decode cX3_init 228 = .ok (.aload_n 0, 1) := by decide +kernel
theorem dX3_init_229 : decode cX3_init 229 = .ok (.getfield 34, 3) := by decide +kernel
theorem dX3_init_232 : decode cX3_init 232 = .ok (.bipush 16, 2) := by decide +kernel
theorem dX3_init_234 : decode cX3_init 234 = .ok (.iload_n 1, 1) := by decide +kernel
theorem dX3_init_235 : decode cX3_init 235 = .ok (.imul, 1) := by decide +kernel
theorem dX3_init_236 : decode cX3_init 236 = .ok (.iconst (-1), 1) := by decide +kernel
theorem dX3_init_237 : decode cX3_init 237 = .ok (.iastore, 1) := by decide +kernel
theorem dX3_init_238 : decode cX3_init 238 = .ok (.iinc 1 1, 3) := by decide +kernel
theorem dX3_init_241 : decode cX3_init 241 = .ok (.goto (-36), 3) := by decide +kernel
theorem dX3_init_244 : decode cX3_init 244 = .ok (.iconst 0, 1) := by decide +kernel
theorem dX3_init_245 : decode cX3_init 245 = .ok (.istore_n 1, 1) := by decide +kernel
theorem dX3_init_246 : decode cX3_init 246 = .ok (.iload_n 1, 1) := by decide +kernel
theorem dX3_init_247 : decode cX3_init 247 = .ok (.bipush 96, 2) := by decide +kernel
theorem dX3_init_249 : decode cX3_init 249 = .ok (.if_icmp .ge 16, 3) := by decide +kernel
theorem dX3_init_252 : decode cX3_init 252 = .ok (.aload_n 0, 1) := by decide +kernel
theorem dX3_init_253 : decode cX3_init 253 = .ok (.getfield 52, 3) := by decide +kernel
theorem dX3_init_256 : decode cX3_init 256 = .ok (.iload_n 1, 1) := by decide +kernel
theorem dX3_init_257 : decode cX3_init 257 = .ok (.iconst (-1), 1) := by decide +kernel
theorem dX3_init_258 : decode cX3_init 258 = .ok (.iastore, 1) := by decide +kernel
theorem dX3_init_259 : decode cX3_init 259 = .ok (.iinc 1 1, 3) := by decide +kernel
theorem dX3_init_262 : decode cX3_init 262 = .ok (.goto (-16), 3) := by decide +kernel
theorem dX3_init_265 : decode cX3_init 265 = .ok (.aload_n 0, 1) := by decide +kernel
theorem dX3_init_266 : decode cX3_init 266 = .ok (.getfield 20, 3) := by decide +kernel
theorem dX3_init_269 : decode cX3_init 269 = .ok (.iconst 0, 1) := by decide +kernel
theorem dX3_init_270 : decode cX3_init 270 = .ok (.iconst 1, 1) := by decide +kernel
theorem dX3_init_271 : decode cX3_init 271 = .ok (.bastore, 1) := by decide +kernel
theorem dX3_init_272 : decode cX3_init 272 = .ok (.return_, 1) := by decide +kernel
theorem dX3_thrown_0 : decode cX3_thrown 0 = .ok (.aload_n 0, 1) := by decide +kernel
theorem dX3_thrown_1 : decode cX3_thrown 1 = .ok (.getfield 76, 3) := by decide +kernel
theorem dX3_thrown_4 : decode cX3_thrown 4 = .ok (.ireturn, 1) := by decide +kernel
theorem dX3_fail_0 : decode cX3_fail 0 = .ok (.aload_n 0, 1) := by decide +kernel
theorem dX3_fail_1 : decode cX3_fail 1 = .ok (.iload_n 1, 1) := by decide +kernel
theorem dX3_fail_2 : decode cX3_fail 2 = .ok (.putfield 76, 3) := by decide +kernel
theorem dX3_fail_5 : decode cX3_fail 5 = .ok (.iconst 0, 1) := by decide +kernel
theorem dX3_fail_6 : decode cX3_fail 6 = .ok (.ireturn, 1) := by decide +kernel
theorem dX3_in_0 : decode cX3_in 0 = .ok (.iload_n 0, 1) := by decide +kernel
theorem dX3_in_1 : decode cX3_in 1 = .ok (.iload_n 1, 1) := by decide +kernel
theorem dX3_in_2 : decode cX3_in 2 = .ok (.if_icmp .lt 12, 3) := by decide +kernel
theorem dX3_in_5 : decode cX3_in 5 = .ok (.iload_n 0, 1) := by decide +kernel
theorem dX3_in_6 : decode cX3_in 6 = .ok (.iload_n 2, 1) := by decide +kernel
theorem dX3_in_7 : decode cX3_in 7 = .ok (.if_icmp .gt 7, 3) := by decide +kernel
theorem dX3_in_10 : decode cX3_in 10 = .ok (.iconst 1, 1) := by decide +kernel
theorem dX3_in_11 : decode cX3_in 11 = .ok (.goto 4, 3) := by decide +kernel
theorem dX3_in_14 : decode cX3_in 14 = .ok (.iconst 0, 1) := by decide +kernel
theorem dX3_in_15 : decode cX3_in 15 = .ok (.ireturn, 1) := by decide +kernel
theorem dX3_isPeer_0 : decode cX3_isPeer 0 = .ok (.iload_n 0, 1) := by decide +kernel
theorem dX3_isPeer_1 : decode cX3_isPeer 1 = .ok (.ifCond .eq 8, 3) := by decide +kernel
theorem dX3_isPeer_4 : decode cX3_isPeer 4 = .ok (.iload_n 0, 1) := by decide +kernel
theorem dX3_isPeer_5 : decode cX3_isPeer 5 = .ok (.iconst 1, 1) := by decide +kernel
theorem dX3_isPeer_6 : decode cX3_isPeer 6 = .ok (.if_icmp .ne 7, 3) := by decide +kernel
theorem dX3_isPeer_9 : decode cX3_isPeer 9 = .ok (.iconst 1, 1) := by decide +kernel
theorem dX3_isPeer_10 : decode cX3_isPeer 10 = .ok (.goto 4, 3) := by decide +kernel
theorem dX3_isPeer_13 : decode cX3_isPeer 13 = .ok (.iconst 0, 1) := by decide +kernel
theorem dX3_isPeer_14 : decode cX3_isPeer 14 = .ok (.ireturn, 1) := by decide +kernel
theorem dX3_isAlive_0 : decode cX3_isAlive 0 = .ok (.iload_n 2, 1) := by decide +kernel
theorem dX3_isAlive_1 : decode cX3_isAlive 1 = .ok (.iconst 0, 1) := by decide +kernel
theorem dX3_isAlive_2 : decode cX3_isAlive 2 = .ok (.bipush 15, 2) := by decide +kernel
theorem dX3_isAlive_4 : decode cX3_isAlive 4 = .ok (.invokestatic 79, 3) := by decide +kernel
theorem dX3_isAlive_7 : decode cX3_isAlive 7 = .ok (.ifCond .eq 21, 3) := by decide +kernel
theorem dX3_isAlive_10 : decode cX3_isAlive 10 = .ok (.aload_n 0, 1) := by decide +kernel
theorem dX3_isAlive_11 : decode cX3_isAlive 11 = .ok (.getfield 28, 3) := by decide +kernel
theorem dX3_isAlive_14 : decode cX3_isAlive 14 = .ok (.iload_n 1, 1) := by decide +kernel
theorem dX3_isAlive_15 : decode cX3_isAlive 15 = .ok (.iaload, 1) := by decide +kernel
theorem dX3_isAlive_16 : decode cX3_isAlive 16 = .ok (.iload_n 2, 1) := by decide +kernel
theorem dX3_isAlive_17 : decode cX3_isAlive 17 = .ok (.ishr, 1) := by decide +kernel
theorem dX3_isAlive_18 : decode cX3_isAlive 18 = .ok (.iconst 1, 1) := by decide +kernel
theorem dX3_isAlive_19 : decode cX3_isAlive 19 = .ok (.iand, 1) := by decide +kernel
theorem dX3_isAlive_20 : decode cX3_isAlive 20 = .ok (.iconst 1, 1) := by decide +kernel
theorem dX3_isAlive_21 : decode cX3_isAlive 21 = .ok (.if_icmp .ne 7, 3) := by decide +kernel
theorem dX3_isAlive_24 : decode cX3_isAlive 24 = .ok (.iconst 1, 1) := by decide +kernel
theorem dX3_isAlive_25 : decode cX3_isAlive 25 = .ok (.goto 4, 3) := by decide +kernel
theorem dX3_isAlive_28 : decode cX3_isAlive 28 = .ok (.iconst 0, 1) := by decide +kernel
theorem dX3_isAlive_29 : decode cX3_isAlive 29 = .ok (.ireturn, 1) := by decide +kernel
theorem dX3_hasRevision_0 : decode cX3_hasRevision 0 = .ok (.iload_n 2, 1) := by decide +kernel
theorem dX3_hasRevision_1 : decode cX3_hasRevision 1 = .ok (.iconst 0, 1) := by decide +kernel
theorem dX3_hasRevision_2 : decode cX3_hasRevision 2 = .ok (.aload_n 0, 1) := by decide +kernel
theorem dX3_hasRevision_3 : decode cX3_hasRevision 3 = .ok (.getfield 7, 3) := by decide +kernel
theorem dX3_hasRevision_6 : decode cX3_hasRevision 6 = .ok (.iconst 1, 1) := by decide +kernel
theorem dX3_hasRevision_7 : decode cX3_hasRevision 7 = .ok (.isub, 1) := by decide +kernel
theorem dX3_hasRevision_8 : decode cX3_hasRevision 8 = .ok (.invokestatic 79, 3) := by decide +kernel
theorem dX3_hasRevision_11 : decode cX3_hasRevision 11 = .ok (.ifCond .eq 22, 3) := by decide +kernel
theorem dX3_hasRevision_14 : decode cX3_hasRevision 14 = .ok (.aload_n 0, 1) := by decide +kernel
theorem dX3_hasRevision_15 : decode cX3_hasRevision 15 = .ok (.getfield 46, 3) := by decide +kernel
theorem dX3_hasRevision_18 : decode cX3_hasRevision 18 = .ok (.iload_n 1, 1) := by decide +kernel
theorem dX3_hasRevision_19 : decode cX3_hasRevision 19 = .ok (.laload, 1) := by decide +kernel
theorem dX3_hasRevision_20 : decode cX3_hasRevision 20 = .ok (.iload_n 2, 1) := by decide +kernel
theorem dX3_hasRevision_21 : decode cX3_hasRevision 21 = .ok (.lshr, 1) := by decide +kernel
theorem dX3_hasRevision_22 : decode cX3_hasRevision 22 = .ok (.lconst 1, 1) := by decide +kernel
theorem dX3_hasRevision_23 : decode cX3_hasRevision 23 = .ok (.land, 1) := by decide +kernel
theorem dX3_hasRevision_24 : decode cX3_hasRevision 24 = .ok (.lconst 1, 1) := by decide +kernel
theorem dX3_hasRevision_25 : decode cX3_hasRevision 25 = .ok (.lcmp, 1) := by decide +kernel
theorem dX3_hasRevision_26 : decode cX3_hasRevision 26 = .ok (.ifCond .ne 7, 3) := by decide +kernel
theorem dX3_hasRevision_29 : decode cX3_hasRevision 29 = .ok (.iconst 1, 1) := by decide +kernel
theorem dX3_hasRevision_30 : decode cX3_hasRevision 30 = .ok (.goto 4, 3) := by decide +kernel
theorem dX3_hasRevision_33 : decode cX3_hasRevision 33 = .ok (.iconst 0, 1) := by decide +kernel
theorem dX3_hasRevision_34 : decode cX3_hasRevision 34 = .ok (.ireturn, 1) := by decide +kernel
theorem dX3_known_0 : decode cX3_known 0 = .ok (.iload_n 1, 1) := by decide +kernel
theorem dX3_known_1 : decode cX3_known 1 = .ok (.iload_n 2, 1) := by decide +kernel
theorem dX3_known_2 : decode cX3_known 2 = .ok (.if_icmp .eq 18, 3) := by decide +kernel
theorem dX3_known_5 : decode cX3_known 5 = .ok (.aload_n 0, 1) := by decide +kernel
theorem dX3_known_6 : decode cX3_known 6 = .ok (.getfield 13, 3) := by decide +kernel
theorem dX3_known_9 : decode cX3_known 9 = .ok (.iload_n 2, 1) := by decide +kernel
theorem dX3_known_10 : decode cX3_known 10 = .ok (.laload, 1) := by decide +kernel
theorem dX3_known_11 : decode cX3_known 11 = .ok (.iload_n 1, 1) := by decide +kernel
theorem dX3_known_12 : decode cX3_known 12 = .ok (.lshr, 1) := by decide +kernel
theorem dX3_known_13 : decode cX3_known 13 = .ok (.lconst 1, 1) := by decide +kernel
theorem dX3_known_14 : decode cX3_known 14 = .ok (.land, 1) := by decide +kernel
theorem dX3_known_15 : decode cX3_known 15 = .ok (.lconst 1, 1) := by decide +kernel
theorem dX3_known_16 : decode cX3_known 16 = .ok (.lcmp, 1) := by decide +kernel
theorem dX3_known_17 : decode cX3_known 17 = .ok (.ifCond .ne 7, 3) := by decide +kernel
theorem dX3_known_20 : decode cX3_known 20 = .ok (.iconst 1, 1) := by decide +kernel
theorem dX3_known_21 : decode cX3_known 21 = .ok (.goto 4, 3) := by decide +kernel
theorem dX3_known_24 : decode cX3_known 24 = .ok (.iconst 0, 1) := by decide +kernel
theorem dX3_known_25 : decode cX3_known 25 = .ok (.ireturn, 1) := by decide +kernel
theorem dX3_copyNode_0 : decode cX3_copyNode 0 = .ok (.bipush 16, 2) := by decide +kernel
theorem dX3_copyNode_2 : decode cX3_copyNode 2 = .ok (.iload_n 1, 1) := by decide +kernel
theorem dX3_copyNode_3 : decode cX3_copyNode 3 = .ok (.imul, 1) := by decide +kernel
theorem dX3_copyNode_4 : decode cX3_copyNode 4 = .ok (.iload_n 3, 1) := by decide +kernel
theorem dX3_copyNode_5 : decode cX3_copyNode 5 = .ok (.iadd, 1) := by decide +kernel
theorem dX3_copyNode_6 : decode cX3_copyNode 6 = .ok (.istore 4, 2) := by decide +kernel
theorem dX3_copyNode_8 : decode cX3_copyNode 8 = .ok (.bipush 16, 2) := by decide +kernel
theorem dX3_copyNode_10 : decode cX3_copyNode 10 = .ok (.iload_n 2, 1) := by decide +kernel
theorem dX3_copyNode_11 : decode cX3_copyNode 11 = .ok (.imul, 1) := by decide +kernel
theorem dX3_copyNode_12 : decode cX3_copyNode 12 = .ok (.iload_n 3, 1) := by decide +kernel
theorem dX3_copyNode_13 : decode cX3_copyNode 13 = .ok (.iadd, 1) := by decide +kernel
theorem dX3_copyNode_14 : decode cX3_copyNode 14 = .ok (.istore 5, 2) := by decide +kernel
theorem dX3_copyNode_16 : decode cX3_copyNode 16 = .ok (.aload_n 0, 1) := by decide +kernel
theorem dX3_copyNode_17 : decode cX3_copyNode 17 = .ok (.getfield 31, 3) := by decide +kernel
theorem dX3_copyNode_20 : decode cX3_copyNode 20 = .ok (.iload 5, 2) := by decide +kernel
theorem dX3_copyNode_22 : decode cX3_copyNode 22 = .ok (.aload_n 0, 1) := by decide +kernel
theorem dX3_copyNode_23 : decode cX3_copyNode 23 = .ok (.getfield 31, 3) := by decide +kernel
theorem dX3_copyNode_26 : decode cX3_copyNode 26 = .ok (.iload 4, 2) := by decide +kernel
theorem dX3_copyNode_28 : decode cX3_copyNode 28 = .ok (.iaload, 1) := by decide +kernel
theorem dX3_copyNode_29 : decode cX3_copyNode 29 = .ok (.iastore, 1) := by decide +kernel
theorem dX3_copyNode_30 : decode cX3_copyNode 30 = .ok (.aload_n 0, 1) := by decide +kernel
theorem dX3_copyNode_31 : decode cX3_copyNode 31 = .ok (.getfield 34, 3) := by decide +kernel
theorem dX3_copyNode_34 : decode cX3_copyNode 34 = .ok (.iload 5, 2) := by decide +kernel
theorem dX3_copyNode_36 : decode cX3_copyNode 36 = .ok (.aload_n 0, 1) := by decide +kernel
theorem dX3_copyNode_37 : decode cX3_copyNode 37 = .ok (.getfield 34, 3) := by decide +kernel
theorem dX3_copyNode_40 : decode cX3_copyNode 40 = .ok (.iload 4, 2) := by decide +kernel
theorem dX3_copyNode_42 : decode cX3_copyNode 42 = .ok (.iaload, 1) := by decide +kernel
theorem dX3_copyNode_43 : decode cX3_copyNode 43 = .ok (.iastore, 1) := by decide +kernel
theorem dX3_copyNode_44 : decode cX3_copyNode 44 = .ok (.aload_n 0, 1) := by decide +kernel
theorem dX3_copyNode_45 : decode cX3_copyNode 45 = .ok (.getfield 37, 3) := by decide +kernel
theorem dX3_copyNode_48 : decode cX3_copyNode 48 = .ok (.iload 5, 2) := by decide +kernel
theorem dX3_copyNode_50 : decode cX3_copyNode 50 = .ok (.aload_n 0, 1) := by decide +kernel
theorem dX3_copyNode_51 : decode cX3_copyNode 51 = .ok (.getfield 37, 3) := by decide +kernel
theorem dX3_copyNode_54 : decode cX3_copyNode 54 = .ok (.iload 4, 2) := by decide +kernel
theorem dX3_copyNode_56 : decode cX3_copyNode 56 = .ok (.iaload, 1) := by decide +kernel
theorem dX3_copyNode_57 : decode cX3_copyNode 57 = .ok (.iastore, 1) := by decide +kernel
theorem dX3_copyNode_58 : decode cX3_copyNode 58 = .ok (.aload_n 0, 1) := by decide +kernel
theorem dX3_copyNode_59 : decode cX3_copyNode 59 = .ok (.getfield 40, 3) := by decide +kernel
theorem dX3_copyNode_62 : decode cX3_copyNode 62 = .ok (.iload 5, 2) := by decide +kernel
theorem dX3_copyNode_64 : decode cX3_copyNode 64 = .ok (.aload_n 0, 1) := by decide +kernel
theorem dX3_copyNode_65 : decode cX3_copyNode 65 = .ok (.getfield 40, 3) := by decide +kernel
theorem dX3_copyNode_68 : decode cX3_copyNode 68 = .ok (.iload 4, 2) := by decide +kernel
theorem dX3_copyNode_70 : decode cX3_copyNode 70 = .ok (.iaload, 1) := by decide +kernel
theorem dX3_copyNode_71 : decode cX3_copyNode 71 = .ok (.iastore, 1) := by decide +kernel
theorem dX3_copyNode_72 : decode cX3_copyNode 72 = .ok (.iconst 0, 1) := by decide +kernel
theorem dX3_copyNode_73 : decode cX3_copyNode 73 = .ok (.istore 6, 2) := by decide +kernel
