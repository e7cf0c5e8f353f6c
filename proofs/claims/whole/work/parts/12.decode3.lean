theorem dX3_copyNode_75 : decode cX3_copyNode 75 = .ok (.iload 6, 2) := by decide +kernel
theorem dX3_copyNode_77 : decode cX3_copyNode 77 = .ok (.iconst 3, 1) := by decide +kernel
theorem dX3_copyNode_78 : decode cX3_copyNode 78 = .ok (.if_icmp .ge 41, 3) := by decide +kernel
theorem dX3_copyNode_81 : decode cX3_copyNode 81 = .ok (.aload_n 0, 1) := by decide +kernel
theorem dX3_copyNode_82 : decode cX3_copyNode 82 = .ok (.getfield 43, 3) := by decide +kernel
theorem dX3_copyNode_85 : decode cX3_copyNode 85 = .ok (.bipush 48, 2) := by decide +kernel
theorem dX3_copyNode_87 : decode cX3_copyNode 87 = .ok (.iload_n 2, 1) := by decide +kernel
theorem dX3_copyNode_88 : decode cX3_copyNode 88 = .ok (.imul, 1) := by decide +kernel
theorem dX3_copyNode_89 : decode cX3_copyNode 89 = .ok (.iconst 3, 1) := by decide +kernel
theorem dX3_copyNode_90 : decode cX3_copyNode 90 = .ok (.iload_n 3, 1) := by decide +kernel
theorem dX3_copyNode_91 : decode cX3_copyNode 91 = .ok (.imul, 1) := by decide +kernel
theorem dX3_copyNode_92 : decode cX3_copyNode 92 = .ok (.iadd, 1) := by decide +kernel
theorem dX3_copyNode_93 : decode cX3_copyNode 93 = .ok (.iload 6, 2) := by decide +kernel
theorem dX3_copyNode_95 : decode cX3_copyNode 95 = .ok (.iadd, 1) := by decide +kernel
theorem dX3_copyNode_96 : decode cX3_copyNode 96 = .ok (.aload_n 0, 1) := by decide +kernel
theorem dX3_copyNode_97 : decode cX3_copyNode 97 = .ok (.getfield 43, 3) := by decide +kernel
theorem dX3_copyNode_100 : decode cX3_copyNode 100 = .ok (.bipush 48, 2) := by decide +kernel
theorem dX3_copyNode_102 : decode cX3_copyNode 102 = .ok (.iload_n 1, 1) := by decide +kernel
theorem dX3_copyNode_103 : decode cX3_copyNode 103 = .ok (.imul, 1) := by decide +kernel
theorem dX3_copyNode_104 : decode cX3_copyNode 104 = .ok (.iconst 3, 1) := by decide +kernel
theorem dX3_copyNode_105 : decode cX3_copyNode 105 = .ok (.iload_n 3, 1) := by decide +kernel
theorem dX3_copyNode_106 : decode cX3_copyNode 106 = .ok (.imul, 1) := by decide +kernel
theorem dX3_copyNode_107 : decode cX3_copyNode 107 = .ok (.iadd, 1) := by decide +kernel
theorem dX3_copyNode_108 : decode cX3_copyNode 108 = .ok (.iload 6, 2) := by decide +kernel
theorem dX3_copyNode_110 : decode cX3_copyNode 110 = .ok (.iadd, 1) := by decide +kernel
theorem dX3_copyNode_111 : decode cX3_copyNode 111 = .ok (.laload, 1) := by decide +kernel
theorem dX3_copyNode_112 : decode cX3_copyNode 112 = .ok (.lastore, 1) := by decide +kernel
theorem dX3_copyNode_113 : decode cX3_copyNode 113 = .ok (.iinc 6 1, 3) := by decide +kernel
theorem dX3_copyNode_116 : decode cX3_copyNode 116 = .ok (.goto (-41), 3) := by decide +kernel
theorem dX3_copyNode_119 : decode cX3_copyNode 119 = .ok (.return_, 1) := by decide +kernel
theorem dX3_copyTree_0 : decode cX3_copyTree 0 = .ok (.aload_n 0, 1) := by decide +kernel
theorem dX3_copyTree_1 : decode cX3_copyTree 1 = .ok (.getfield 28, 3) := by decide +kernel
theorem dX3_copyTree_4 : decode cX3_copyTree 4 = .ok (.iload_n 2, 1) := by decide +kernel
theorem dX3_copyTree_5 : decode cX3_copyTree 5 = .ok (.aload_n 0, 1) := by decide +kernel
theorem dX3_copyTree_6 : decode cX3_copyTree 6 = .ok (.getfield 28, 3) := by decide +kernel
theorem dX3_copyTree_9 : decode cX3_copyTree 9 = .ok (.iload_n 1, 1) := by decide +kernel
theorem dX3_copyTree_10 : decode cX3_copyTree 10 = .ok (.iaload, 1) := by decide +kernel
theorem dX3_copyTree_11 : decode cX3_copyTree 11 = .ok (.iastore, 1) := by decide +kernel
theorem dX3_copyTree_12 : decode cX3_copyTree 12 = .ok (.iconst 0, 1) := by decide +kernel
theorem dX3_copyTree_13 : decode cX3_copyTree 13 = .ok (.istore_n 3, 1) := by decide +kernel
theorem dX3_copyTree_14 : decode cX3_copyTree 14 = .ok (.iload_n 3, 1) := by decide +kernel
theorem dX3_copyTree_15 : decode cX3_copyTree 15 = .ok (.bipush 16, 2) := by decide +kernel
theorem dX3_copyTree_17 : decode cX3_copyTree 17 = .ok (.if_icmp .ge 16, 3) := by decide +kernel
theorem dX3_copyTree_20 : decode cX3_copyTree 20 = .ok (.aload_n 0, 1) := by decide +kernel
theorem dX3_copyTree_21 : decode cX3_copyTree 21 = .ok (.iload_n 1, 1) := by decide +kernel
theorem dX3_copyTree_22 : decode cX3_copyTree 22 = .ok (.iload_n 2, 1) := by decide +kernel
theorem dX3_copyTree_23 : decode cX3_copyTree 23 = .ok (.iload_n 3, 1) := by decide +kernel
theorem dX3_copyTree_24 : decode cX3_copyTree 24 = .ok (.invokevirtual 83, 3) := by decide +kernel
theorem dX3_copyTree_27 : decode cX3_copyTree 27 = .ok (.iinc 3 1, 3) := by decide +kernel
theorem dX3_copyTree_30 : decode cX3_copyTree 30 = .ok (.goto (-16), 3) := by decide +kernel
theorem dX3_copyTree_33 : decode cX3_copyTree 33 = .ok (.return_, 1) := by decide +kernel
theorem dX3_same_0 : decode cX3_same 0 = .ok (.bipush 16, 2) := by decide +kernel
theorem dX3_same_2 : decode cX3_same 2 = .ok (.iload_n 1, 1) := by decide +kernel
theorem dX3_same_3 : decode cX3_same 3 = .ok (.imul, 1) := by decide +kernel
theorem dX3_same_4 : decode cX3_same 4 = .ok (.iload_n 3, 1) := by decide +kernel
theorem dX3_same_5 : decode cX3_same 5 = .ok (.iadd, 1) := by decide +kernel
theorem dX3_same_6 : decode cX3_same 6 = .ok (.istore 5, 2) := by decide +kernel
theorem dX3_same_8 : decode cX3_same 8 = .ok (.bipush 16, 2) := by decide +kernel
theorem dX3_same_10 : decode cX3_same 10 = .ok (.iload_n 2, 1) := by decide +kernel
theorem dX3_same_11 : decode cX3_same 11 = .ok (.imul, 1) := by decide +kernel
theorem dX3_same_12 : decode cX3_same 12 = .ok (.iload_n 3, 1) := by decide +kernel
theorem dX3_same_13 : decode cX3_same 13 = .ok (.iadd, 1) := by decide +kernel
theorem dX3_same_14 : decode cX3_same 14 = .ok (.istore 6, 2) := by decide +kernel
theorem dX3_same_16 : decode cX3_same 16 = .ok (.iload 4, 2) := by decide +kernel
theorem dX3_same_18 : decode cX3_same 18 = .ok (.ifCond .ne 45, 3) := by decide +kernel
theorem dX3_same_21 : decode cX3_same 21 = .ok (.aload_n 0, 1) := by decide +kernel
theorem dX3_same_22 : decode cX3_same 22 = .ok (.getfield 31, 3) := by decide +kernel
theorem dX3_same_25 : decode cX3_same 25 = .ok (.iload 5, 2) := by decide +kernel
theorem dX3_same_27 : decode cX3_same 27 = .ok (.iaload, 1) := by decide +kernel
theorem dX3_same_28 : decode cX3_same 28 = .ok (.aload_n 0, 1) := by decide +kernel
theorem dX3_same_29 : decode cX3_same 29 = .ok (.getfield 31, 3) := by decide +kernel
theorem dX3_same_32 : decode cX3_same 32 = .ok (.iload 6, 2) := by decide +kernel
theorem dX3_same_34 : decode cX3_same 34 = .ok (.iaload, 1) := by decide +kernel
theorem dX3_same_35 : decode cX3_same 35 = .ok (.if_icmp .ne 24, 3) := by decide +kernel
theorem dX3_same_38 : decode cX3_same 38 = .ok (.aload_n 0, 1) := by decide +kernel
theorem dX3_same_39 : decode cX3_same 39 = .ok (.getfield 34, 3) := by decide +kernel
theorem dX3_same_42 : decode cX3_same 42 = .ok (.iload 5, 2) := by decide +kernel
theorem dX3_same_44 : decode cX3_same 44 = .ok (.iaload, 1) := by decide +kernel
theorem dX3_same_45 : decode cX3_same 45 = .ok (.aload_n 0, 1) := by decide +kernel
theorem dX3_same_46 : decode cX3_same 46 = .ok (.getfield 34, 3) := by decide +kernel
theorem dX3_same_49 : decode cX3_same 49 = .ok (.iload 6, 2) := by decide +kernel
theorem dX3_same_51 : decode cX3_same 51 = .ok (.iaload, 1) := by decide +kernel
theorem dX3_same_52 : decode cX3_same 52 = .ok (.if_icmp .ne 7, 3) := by decide +kernel
theorem dX3_same_55 : decode cX3_same 55 = .ok (.iconst 1, 1) := by decide +kernel
theorem dX3_same_56 : decode cX3_same 56 = .ok (.goto 60, 3) := by decide +kernel
theorem dX3_same_59 : decode cX3_same 59 = .ok (.iconst 0, 1) := by decide +kernel
theorem dX3_same_60 : decode cX3_same 60 = .ok (.goto 56, 3) := by decide +kernel
theorem dX3_same_63 : decode cX3_same 63 = .ok (.iload 4, 2) := by decide +kernel
theorem dX3_same_65 : decode cX3_same 65 = .ok (.iconst 1, 1) := by decide +kernel
theorem dX3_same_66 : decode cX3_same 66 = .ok (.if_icmp .ne 28, 3) := by decide +kernel
theorem dX3_same_69 : decode cX3_same 69 = .ok (.aload_n 0, 1) := by decide +kernel
theorem dX3_same_70 : decode cX3_same 70 = .ok (.getfield 37, 3) := by decide +kernel
theorem dX3_same_73 : decode cX3_same 73 = .ok (.iload 5, 2) := by decide +kernel
theorem dX3_same_75 : decode cX3_same 75 = .ok (.iaload, 1) := by decide +kernel
theorem dX3_same_76 : decode cX3_same 76 = .ok (.aload_n 0, 1) := by decide +kernel
theorem dX3_same_77 : decode cX3_same 77 = .ok (.getfield 37, 3) := by decide +kernel
theorem dX3_same_80 : decode cX3_same 80 = .ok (.iload 6, 2) := by decide +kernel
theorem dX3_same_82 : decode cX3_same 82 = .ok (.iaload, 1) := by decide +kernel
theorem dX3_same_83 : decode cX3_same 83 = .ok (.if_icmp .ne 7, 3) := by decide +kernel
theorem dX3_same_86 : decode cX3_same 86 = .ok (.iconst 1, 1) := by decide +kernel
theorem dX3_same_87 : decode cX3_same 87 = .ok (.goto 29, 3) := by decide +kernel
theorem dX3_same_90 : decode cX3_same 90 = .ok (.iconst 0, 1) := by decide +kernel
theorem dX3_same_91 : decode cX3_same 91 = .ok (.goto 25, 3) := by decide +kernel
theorem dX3_same_94 : decode cX3_same 94 = .ok (.aload_n 0, 1) := by decide +kernel
theorem dX3_same_95 : decode cX3_same 95 = .ok (.getfield 40, 3) := by decide +kernel
theorem dX3_same_98 : decode cX3_same 98 = .ok (.iload 5, 2) := by decide +kernel
theorem dX3_same_100 : decode cX3_same 100 = .ok (.iaload, 1) := by decide +kernel
theorem dX3_same_101 : decode cX3_same 101 = .ok (.aload_n 0, 1) := by decide +kernel
theorem dX3_same_102 : decode cX3_same 102 = .ok (.getfield 40, 3) := by decide +kernel
theorem dX3_same_105 : decode cX3_same 105 = .ok (.iload 6, 2) := by decide +kernel
theorem dX3_same_107 : decode cX3_same 107 = .ok (.iaload, 1) := by decide +kernel
theorem dX3_same_108 : decode cX3_same 108 = .ok (.if_icmp .ne 7, 3) := by decide +kernel
theorem dX3_same_111 : decode cX3_same 111 = .ok (.iconst 1, 1) := by decide +kernel
theorem dX3_same_112 : decode cX3_same 112 = .ok (.goto 4, 3) := by decide +kernel
theorem dX3_same_115 : decode cX3_same 115 = .ok (.iconst 0, 1) := by decide +kernel
theorem dX3_same_116 : decode cX3_same 116 = .ok (.ireturn, 1) := by decide +kernel
theorem dX3_copyValue_0 : decode cX3_copyValue 0 = .ok (.bipush 16, 2) := by decide +kernel
theorem dX3_copyValue_2 : decode cX3_copyValue 2 = .ok (.iload_n 1, 1) := by decide +kernel
theorem dX3_copyValue_3 : decode cX3_copyValue 3 = .ok (.imul, 1) := by decide +kernel
theorem dX3_copyValue_4 : decode cX3_copyValue 4 = .ok (.iload_n 3, 1) := by decide +kernel
theorem dX3_copyValue_5 : decode cX3_copyValue 5 = .ok (.iadd, 1) := by decide +kernel
theorem dX3_copyValue_6 : decode cX3_copyValue 6 = .ok (.istore 5, 2) := by decide +kernel
theorem dX3_copyValue_8 : decode cX3_copyValue 8 = .ok (.bipush 16, 2) := by decide +kernel
theorem dX3_copyValue_10 : decode cX3_copyValue 10 = .ok (.iload_n 2, 1) := by decide +kernel
theorem dX3_copyValue_11 : decode cX3_copyValue 11 = .ok (.imul, 1) := by decide +kernel
theorem dX3_copyValue_12 : decode cX3_copyValue 12 = .ok (.iload_n 3, 1) := by decide +kernel
theorem dX3_copyValue_13 : decode cX3_copyValue 13 = .ok (.iadd, 1) := by decide +kernel
theorem dX3_copyValue_14 : decode cX3_copyValue 14 = .ok (.istore 6, 2) := by decide +kernel
theorem dX3_copyValue_16 : decode cX3_copyValue 16 = .ok (.iload 4, 2) := by decide +kernel
theorem dX3_copyValue_18 : decode cX3_copyValue 18 = .ok (.ifCond .ne 34, 3) := by decide +kernel
theorem dX3_copyValue_21 : decode cX3_copyValue 21 = .ok (.aload_n 0, 1) := by decide +kernel
theorem dX3_copyValue_22 : decode cX3_copyValue 22 = .ok (.getfield 31, 3) := by decide +kernel
theorem dX3_copyValue_25 : decode cX3_copyValue 25 = .ok (.iload 6, 2) := by decide +kernel
theorem dX3_copyValue_27 : decode cX3_copyValue 27 = .ok (.aload_n 0, 1) := by decide +kernel
theorem dX3_copyValue_28 : decode cX3_copyValue 28 = .ok (.getfield 31, 3) := by decide +kernel
theorem dX3_copyValue_31 : decode cX3_copyValue 31 = .ok (.iload 5, 2) := by decide +kernel
theorem dX3_copyValue_33 : decode cX3_copyValue 33 = .ok (.iaload, 1) := by decide +kernel
theorem dX3_copyValue_34 : decode cX3_copyValue 34 = .ok (.iastore, 1) := by decide +kernel
theorem dX3_copyValue_35 : decode cX3_copyValue 35 = .ok (.aload_n 0, 1) := by decide +kernel
theorem dX3_copyValue_36 : decode cX3_copyValue 36 = .ok (.getfield 34, 3) := by decide +kernel
theorem dX3_copyValue_39 : decode cX3_copyValue 39 = .ok (.iload 6, 2) := by decide +kernel
theorem dX3_copyValue_41 : decode cX3_copyValue 41 = .ok (.aload_n 0, 1) := by decide +kernel
theorem dX3_copyValue_42 : decode cX3_copyValue 42 = .ok (.getfield 34, 3) := by decide +kernel
theorem dX3_copyValue_45 : decode cX3_copyValue 45 = .ok (.iload 5, 2) := by decide +kernel
theorem dX3_copyValue_47 : decode cX3_copyValue 47 = .ok (.iaload, 1) := by decide +kernel
theorem dX3_copyValue_48 : decode cX3_copyValue 48 = .ok (.iastore, 1) := by decide +kernel
theorem dX3_copyValue_49 : decode cX3_copyValue 49 = .ok (.goto 40, 3) := by decide +kernel
theorem dX3_copyValue_52 : decode cX3_copyValue 52 = .ok (.iload 4, 2) := by decide +kernel
theorem dX3_copyValue_54 : decode cX3_copyValue 54 = .ok (.iconst 1, 1) := by decide +kernel
theorem dX3_copyValue_55 : decode cX3_copyValue 55 = .ok (.if_icmp .ne 20, 3) := by decide +kernel
theorem dX3_copyValue_58 : decode cX3_copyValue 58 = .ok (.aload_n 0, 1) := by decide +kernel
theorem dX3_copyValue_59 : decode cX3_copyValue 59 = .ok (.getfield 37, 3) := by decide +kernel
theorem dX3_copyValue_62 : decode cX3_copyValue 62 = .ok (.iload 6, 2) := by decide +kernel
theorem dX3_copyValue_64 : decode cX3_copyValue 64 = .ok (.aload_n 0, 1) := by decide +kernel
theorem dX3_copyValue_65 : decode cX3_copyValue 65 = .ok (.getfield 37, 3) := by decide +kernel
theorem dX3_copyValue_68 : decode cX3_copyValue 68 = .ok (.iload 5, 2) := by decide +kernel
theorem dX3_copyValue_70 : decode cX3_copyValue 70 = .ok (.iaload, 1) := by decide +kernel
theorem dX3_copyValue_71 : decode cX3_copyValue 71 = .ok (.iastore, 1) := by decide +kernel
theorem dX3_copyValue_72 : decode cX3_copyValue 72 = .ok (.goto 17, 3) := by decide +kernel
theorem dX3_copyValue_75 : decode cX3_copyValue 75 = .ok (.aload_n 0, 1) := by decide +kernel
theorem dX3_copyValue_76 : decode cX3_copyValue 76 = .ok (.getfield 40, 3) := by decide +kernel
theorem dX3_copyValue_79 : decode cX3_copyValue 79 = .ok (.iload 6, 2) := by decide +kernel
theorem dX3_copyValue_81 : decode cX3_copyValue 81 = .ok (.aload_n 0, 1) := by decide +kernel
theorem dX3_copyValue_82 : decode cX3_copyValue 82 = .ok (.getfield 40, 3) := by decide +kernel
theorem dX3_copyValue_85 : decode cX3_copyValue 85 = .ok (.iload 5, 2) := by decide +kernel
theorem dX3_copyValue_87 : decode cX3_copyValue 87 = .ok (.iaload, 1) := by decide +kernel
theorem dX3_copyValue_88 : decode cX3_copyValue 88 = .ok (.iastore, 1) := by decide +kernel
theorem dX3_copyValue_89 : decode cX3_copyValue 89 = .ok (.return_, 1) := by decide +kernel
theorem dX3_equalTrees_0 : decode cX3_equalTrees 0 = .ok (.aload_n 0, 1) := by decide +kernel
theorem dX3_equalTrees_1 : decode cX3_equalTrees 1 = .ok (.getfield 28, 3) := by decide +kernel
theorem dX3_equalTrees_4 : decode cX3_equalTrees 4 = .ok (.iload_n 1, 1) := by decide +kernel
theorem dX3_equalTrees_5 : decode cX3_equalTrees 5 = .ok (.iaload, 1) := by decide +kernel
theorem dX3_equalTrees_6 : decode cX3_equalTrees 6 = .ok (.aload_n 0, 1) := by decide +kernel
theorem dX3_equalTrees_7 : decode cX3_equalTrees 7 = .ok (.getfield 28, 3) := by decide +kernel
theorem dX3_equalTrees_10 : decode cX3_equalTrees 10 = .ok (.iload_n 2, 1) := by decide +kernel
theorem dX3_equalTrees_11 : decode cX3_equalTrees 11 = .ok (.iaload, 1) := by decide +kernel
theorem dX3_equalTrees_12 : decode cX3_equalTrees 12 = .ok (.if_icmp .ne 7, 3) := by decide +kernel
theorem dX3_equalTrees_15 : decode cX3_equalTrees 15 = .ok (.iconst 1, 1) := by decide +kernel
theorem dX3_equalTrees_16 : decode cX3_equalTrees 16 = .ok (.goto 4, 3) := by decide +kernel
theorem dX3_equalTrees_19 : decode cX3_equalTrees 19 = .ok (.iconst 0, 1) := by decide +kernel
theorem dX3_equalTrees_20 : decode cX3_equalTrees 20 = .ok (.istore_n 3, 1) := by decide +kernel
theorem dX3_equalTrees_21 : decode cX3_equalTrees 21 = .ok (.iconst 1, 1) := by decide +kernel
theorem dX3_equalTrees_22 : decode cX3_equalTrees 22 = .ok (.istore 4, 2) := by decide +kernel
theorem dX3_equalTrees_24 : decode cX3_equalTrees 24 = .ok (.iload 4, 2) := by decide +kernel
theorem dX3_equalTrees_26 : decode cX3_equalTrees 26 = .ok (.bipush 16, 2) := by decide +kernel
theorem dX3_equalTrees_28 : decode cX3_equalTrees 28 = .ok (.if_icmp .ge 65, 3) := by decide +kernel
theorem dX3_equalTrees_31 : decode cX3_equalTrees 31 = .ok (.iload_n 3, 1) := by decide +kernel
theorem dX3_equalTrees_32 : decode cX3_equalTrees 32 = .ok (.ifCond .eq 61, 3) := by decide +kernel
theorem dX3_equalTrees_35 : decode cX3_equalTrees 35 = .ok (.aload_n 0, 1) := by decide +kernel
theorem dX3_equalTrees_36 : decode cX3_equalTrees 36 = .ok (.iload_n 1, 1) := by decide +kernel
theorem dX3_equalTrees_37 : decode cX3_equalTrees 37 = .ok (.iload 4, 2) := by decide +kernel
theorem dX3_equalTrees_39 : decode cX3_equalTrees 39 = .ok (.invokevirtual 87, 3) := by decide +kernel
theorem dX3_equalTrees_42 : decode cX3_equalTrees 42 = .ok (.ifCond .eq 45, 3) := by decide +kernel
theorem dX3_equalTrees_45 : decode cX3_equalTrees 45 = .ok (.aload_n 0, 1) := by decide +kernel
theorem dX3_equalTrees_46 : decode cX3_equalTrees 46 = .ok (.iload_n 1, 1) := by decide +kernel
theorem dX3_equalTrees_47 : decode cX3_equalTrees 47 = .ok (.iload_n 2, 1) := by decide +kernel
theorem dX3_equalTrees_48 : decode cX3_equalTrees 48 = .ok (.iload 4, 2) := by decide +kernel
theorem dX3_equalTrees_50 : decode cX3_equalTrees 50 = .ok (.iconst 0, 1) := by decide +kernel
theorem dX3_equalTrees_51 : decode cX3_equalTrees 51 = .ok (.invokevirtual 91, 3) := by decide +kernel
theorem dX3_equalTrees_54 : decode cX3_equalTrees 54 = .ok (.ifCond .eq 31, 3) := by decide +kernel
theorem dX3_equalTrees_57 : decode cX3_equalTrees 57 = .ok (.aload_n 0, 1) := by decide +kernel
theorem dX3_equalTrees_58 : decode cX3_equalTrees 58 = .ok (.iload_n 1, 1) := by decide +kernel
theorem dX3_equalTrees_59 : decode cX3_equalTrees 59 = .ok (.iload_n 2, 1) := by decide +kernel
theorem dX3_equalTrees_60 : decode cX3_equalTrees 60 = .ok (.iload 4, 2) := by decide +kernel
theorem dX3_equalTrees_62 : decode cX3_equalTrees 62 = .ok (.iconst 1, 1) := by decide +kernel
theorem dX3_equalTrees_63 : decode cX3_equalTrees 63 = .ok (.invokevirtual 91, 3) := by decide +kernel
theorem dX3_equalTrees_66 : decode cX3_equalTrees 66 = .ok (.ifCond .eq 19, 3) := by decide +kernel
theorem dX3_equalTrees_69 : decode cX3_equalTrees 69 = .ok (.aload_n 0, 1) := by decide +kernel
theorem dX3_equalTrees_70 : decode cX3_equalTrees 70 = .ok (.iload_n 1, 1) := by decide +kernel
theorem dX3_equalTrees_71 : decode cX3_equalTrees 71 = .ok (.iload_n 2, 1) := by decide +kernel
theorem dX3_equalTrees_72 : decode cX3_equalTrees 72 = .ok (.iload 4, 2) := by decide +kernel
theorem dX3_equalTrees_74 : decode cX3_equalTrees 74 = .ok (.iconst 2, 1) := by decide +kernel
theorem dX3_equalTrees_75 : decode cX3_equalTrees 75 = .ok (.invokevirtual 91, 3) := by decide +kernel
theorem dX3_equalTrees_78 : decode cX3_equalTrees 78 = .ok (.ifCond .eq 7, 3) := by decide +kernel
theorem dX3_equalTrees_81 : decode cX3_equalTrees 81 = .ok (.iconst 1, 1) := by decide +kernel
theorem dX3_equalTrees_82 : decode cX3_equalTrees 82 = .ok (.goto 4, 3) := by decide +kernel
theorem dX3_equalTrees_85 : decode cX3_equalTrees 85 = .ok (.iconst 0, 1) := by decide +kernel
theorem dX3_equalTrees_86 : decode cX3_equalTrees 86 = .ok (.istore_n 3, 1) := by decide +kernel
theorem dX3_equalTrees_87 : decode cX3_equalTrees 87 = .ok (.iinc 4 1, 3) := by decide +kernel
theorem dX3_equalTrees_90 : decode cX3_equalTrees 90 = .ok (.goto (-66), 3) := by decide +kernel
theorem dX3_equalTrees_93 : decode cX3_equalTrees 93 = .ok (.iload_n 3, 1) := by decide +kernel
theorem dX3_equalTrees_94 : decode cX3_equalTrees 94 = .ok (.ireturn, 1) := by decide +kernel
theorem dX3_nodeAt_0 : decode cX3_nodeAt 0 = .ok (.iconst (-1), 1) := by decide +kernel
theorem dX3_nodeAt_1 : decode cX3_nodeAt 1 = .ok (.istore 5, 2) := by decide +kernel
theorem dX3_nodeAt_3 : decode cX3_nodeAt 3 = .ok (.bipush 15, 2) := by decide +kernel
theorem dX3_nodeAt_5 : decode cX3_nodeAt 5 = .ok (.istore 6, 2) := by decide +kernel
theorem dX3_nodeAt_7 : decode cX3_nodeAt 7 = .ok (.iload 6, 2) := by decide +kernel
theorem dX3_nodeAt_9 : decode cX3_nodeAt 9 = .ok (.ifCond .le 67, 3) := by decide +kernel
theorem dX3_nodeAt_12 : decode cX3_nodeAt 12 = .ok (.iload 6, 2) := by decide +kernel
theorem dX3_nodeAt_14 : decode cX3_nodeAt 14 = .ok (.iload 4, 2) := by decide +kernel
theorem dX3_nodeAt_16 : decode cX3_nodeAt 16 = .ok (.if_icmp .eq 50, 3) := by decide +kernel
theorem dX3_nodeAt_19 : decode cX3_nodeAt 19 = .ok (.aload_n 0, 1) := by decide +kernel
theorem dX3_nodeAt_20 : decode cX3_nodeAt 20 = .ok (.iload_n 1, 1) := by decide +kernel
theorem dX3_nodeAt_21 : decode cX3_nodeAt 21 = .ok (.iload 6, 2) := by decide +kernel
theorem dX3_nodeAt_23 : decode cX3_nodeAt 23 = .ok (.invokevirtual 87, 3) := by decide +kernel
theorem dX3_nodeAt_26 : decode cX3_nodeAt 26 = .ok (.ifCond .eq 40, 3) := by decide +kernel
theorem dX3_nodeAt_29 : decode cX3_nodeAt 29 = .ok (.aload_n 0, 1) := by decide +kernel
theorem dX3_nodeAt_30 : decode cX3_nodeAt 30 = .ok (.getfield 31, 3) := by decide +kernel
theorem dX3_nodeAt_33 : decode cX3_nodeAt 33 = .ok (.bipush 16, 2) := by decide +kernel
theorem dX3_nodeAt_35 : decode cX3_nodeAt 35 = .ok (.iload_n 1, 1) := by decide +kernel
theorem dX3_nodeAt_36 : decode cX3_nodeAt 36 = .ok (.imul, 1) := by decide +kernel
theorem dX3_nodeAt_37 : decode cX3_nodeAt 37 = .ok (.iload 6, 2) := by decide +kernel
theorem dX3_nodeAt_39 : decode cX3_nodeAt 39 = .ok (.iadd, 1) := by decide +kernel
theorem dX3_nodeAt_40 : decode cX3_nodeAt 40 = .ok (.iaload, 1) := by decide +kernel
theorem dX3_nodeAt_41 : decode cX3_nodeAt 41 = .ok (.iload_n 2, 1) := by decide +kernel
theorem dX3_nodeAt_42 : decode cX3_nodeAt 42 = .ok (.if_icmp .ne 24, 3) := by decide +kernel
theorem dX3_nodeAt_45 : decode cX3_nodeAt 45 = .ok (.aload_n 0, 1) := by decide +kernel
theorem dX3_nodeAt_46 : decode cX3_nodeAt 46 = .ok (.getfield 34, 3) := by decide +kernel
theorem dX3_nodeAt_49 : decode cX3_nodeAt 49 = .ok (.bipush 16, 2) := by decide +kernel
theorem dX3_nodeAt_51 : decode cX3_nodeAt 51 = .ok (.iload_n 1, 1) := by decide +kernel
theorem dX3_nodeAt_52 : decode cX3_nodeAt 52 = .ok (.imul, 1) := by decide +kernel
theorem dX3_nodeAt_53 : decode cX3_nodeAt 53 = .ok (.iload 6, 2) := by decide +kernel
theorem dX3_nodeAt_55 : decode cX3_nodeAt 55 = .ok (.iadd, 1) := by decide +kernel
theorem dX3_nodeAt_56 : decode cX3_nodeAt 56 = .ok (.iaload, 1) := by decide +kernel
theorem dX3_nodeAt_57 : decode cX3_nodeAt 57 = .ok (.iload_n 3, 1) := by decide +kernel
theorem dX3_nodeAt_58 : decode cX3_nodeAt 58 = .ok (.if_icmp .ne 8, 3) := by decide +kernel
theorem dX3_nodeAt_61 : decode cX3_nodeAt 61 = .ok (.iload 6, 2) := by decide +kernel
theorem dX3_nodeAt_63 : decode cX3_nodeAt 63 = .ok (.goto 5, 3) := by decide +kernel
theorem dX3_nodeAt_66 : decode cX3_nodeAt 66 = .ok (.iload 5, 2) := by decide +kernel
theorem dX3_nodeAt_68 : decode cX3_nodeAt 68 = .ok (.istore 5, 2) := by decide +kernel
theorem dX3_nodeAt_70 : decode cX3_nodeAt 70 = .ok (.iinc 6 (-1), 3) := by decide +kernel
theorem dX3_nodeAt_73 : decode cX3_nodeAt 73 = .ok (.goto (-66), 3) := by decide +kernel
theorem dX3_nodeAt_76 : decode cX3_nodeAt 76 = .ok (.iload 5, 2) := by decide +kernel
theorem dX3_nodeAt_78 : decode cX3_nodeAt 78 = .ok (.ireturn, 1) := by decide +kernel
theorem dX3_within_0 : decode cX3_within 0 = .ok (.iload_n 2, 1) := by decide +kernel
theorem dX3_within_1 : decode cX3_within 1 = .ok (.istore 4, 2) := by decide +kernel
theorem dX3_within_3 : decode cX3_within 3 = .ok (.iload 4, 2) := by decide +kernel
theorem dX3_within_5 : decode cX3_within 5 = .ok (.ifCond .le 26, 3) := by decide +kernel
theorem dX3_within_8 : decode cX3_within 8 = .ok (.iload 4, 2) := by decide +kernel
theorem dX3_within_10 : decode cX3_within 10 = .ok (.iload_n 3, 1) := by decide +kernel
theorem dX3_within_11 : decode cX3_within 11 = .ok (.if_icmp .eq 20, 3) := by decide +kernel
theorem dX3_within_14 : decode cX3_within 14 = .ok (.aload_n 0, 1) := by decide +kernel
theorem dX3_within_15 : decode cX3_within 15 = .ok (.getfield 31, 3) := by decide +kernel
theorem dX3_within_18 : decode cX3_within 18 = .ok (.bipush 16, 2) := by decide +kernel
theorem dX3_within_20 : decode cX3_within 20 = .ok (.iload_n 1, 1) := by decide +kernel
theorem dX3_within_21 : decode cX3_within 21 = .ok (.imul, 1) := by decide +kernel
theorem dX3_within_22 : decode cX3_within 22 = .ok (.iload 4, 2) := by decide +kernel
theorem dX3_within_24 : decode cX3_within 24 = .ok (.iadd, 1) := by decide +kernel
theorem dX3_within_25 : decode cX3_within 25 = .ok (.iaload, 1) := by decide +kernel
theorem dX3_within_26 : decode cX3_within 26 = .ok (.istore 4, 2) := by decide +kernel
theorem dX3_within_28 : decode cX3_within 28 = .ok (.goto (-25), 3) := by decide +kernel
theorem dX3_within_31 : decode cX3_within 31 = .ok (.iload 4, 2) := by decide +kernel
theorem dX3_within_33 : decode cX3_within 33 = .ok (.iload_n 3, 1) := by decide +kernel
theorem dX3_within_34 : decode cX3_within 34 = .ok (.if_icmp .ne 7, 3) := by decide +kernel
theorem dX3_within_37 : decode cX3_within 37 = .ok (.iconst 1, 1) := by decide +kernel
theorem dX3_within_38 : decode cX3_within 38 = .ok (.goto 4, 3) := by decide +kernel
theorem dX3_within_41 : decode cX3_within 41 = .ok (.iconst 0, 1) := by decide +kernel
theorem dX3_within_42 : decode cX3_within 42 = .ok (.ireturn, 1) := by decide +kernel
theorem dX3_open_0 : decode cX3_open 0 = .ok (.aload_n 0, 1) := by decide +kernel
theorem dX3_open_1 : decode cX3_open 1 = .ok (.iconst 0, 1) := by decide +kernel
theorem dX3_open_2 : decode cX3_open 2 = .ok (.putfield 76, 3) := by decide +kernel
theorem dX3_open_5 : decode cX3_open 5 = .ok (.iload_n 1, 1) := by decide +kernel
theorem dX3_open_6 : decode cX3_open 6 = .ok (.invokestatic 95, 3) := by decide +kernel
theorem dX3_open_9 : decode cX3_open 9 = .ok (.ifCond .eq 12, 3) := by decide +kernel
theorem dX3_open_12 : decode cX3_open 12 = .ok (.aload_n 0, 1) := by decide +kernel
theorem dX3_open_13 : decode cX3_open 13 = .ok (.iload_n 1, 1) := by decide +kernel
theorem dX3_open_14 : decode cX3_open 14 = .ok (.iload_n 2, 1) := by decide +kernel
theorem dX3_open_15 : decode cX3_open 15 = .ok (.invokevirtual 99, 3) := by decide +kernel
theorem dX3_open_18 : decode cX3_open 18 = .ok (.ifCond .ne 9, 3) := by decide +kernel
theorem dX3_open_21 : decode cX3_open 21 = .ok (.aload_n 0, 1) := by decide +kernel
theorem dX3_open_22 : decode cX3_open 22 = .ok (.iconst 1, 1) := by decide +kernel
theorem dX3_open_23 : decode cX3_open 23 = .ok (.putfield 76, 3) := by decide +kernel
theorem dX3_open_26 : decode cX3_open 26 = .ok (.return_, 1) := by decide +kernel
theorem dX3_open_27 : decode cX3_open 27 = .ok (.aload_n 0, 1) := by decide +kernel
theorem dX3_open_28 : decode cX3_open 28 = .ok (.iload_n 2, 1) := by decide +kernel
theorem dX3_open_29 : decode cX3_open 29 = .ok (.bipush 40, 2) := by decide +kernel
theorem dX3_open_31 : decode cX3_open 31 = .ok (.iload_n 1, 1) := by decide +kernel
theorem dX3_open_32 : decode cX3_open 32 = .ok (.iadd, 1) := by decide +kernel
theorem dX3_open_33 : decode cX3_open 33 = .ok (.invokevirtual 102, 3) := by decide +kernel
theorem dX3_open_36 : decode cX3_open 36 = .ok (.aload_n 0, 1) := by decide +kernel
theorem dX3_open_37 : decode cX3_open 37 = .ok (.getfield 49, 3) := by decide +kernel
theorem dX3_open_40 : decode cX3_open 40 = .ok (.iload_n 1, 1) := by decide +kernel
theorem dX3_open_41 : decode cX3_open 41 = .ok (.iload_n 2, 1) := by decide +kernel
theorem dX3_open_42 : decode cX3_open 42 = .ok (.iastore, 1) := by decide +kernel
theorem dX3_open_43 : decode cX3_open 43 = .ok (.return_, 1) := by decide +kernel
theorem dX3_add_0 : decode cX3_add 0 = .ok (.aload_n 0, 1) := by decide +kernel
theorem dX3_add_1 : decode cX3_add 1 = .ok (.iconst 0, 1) := by decide +kernel
theorem dX3_add_2 : decode cX3_add 2 = .ok (.putfield 76, 3) := by decide +kernel
theorem dX3_add_5 : decode cX3_add 5 = .ok (.iload_n 1, 1) := by decide +kernel
theorem dX3_add_6 : decode cX3_add 6 = .ok (.invokestatic 95, 3) := by decide +kernel
theorem dX3_add_9 : decode cX3_add 9 = .ok (.ifCond .ne 9, 3) := by decide +kernel
theorem dX3_add_12 : decode cX3_add 12 = .ok (.aload_n 0, 1) := by decide +kernel
theorem dX3_add_13 : decode cX3_add 13 = .ok (.iconst 1, 1) := by decide +kernel
theorem dX3_add_14 : decode cX3_add 14 = .ok (.invokevirtual 106, 3) := by decide +kernel
theorem dX3_add_17 : decode cX3_add 17 = .ok (.ireturn, 1) := by decide +kernel
theorem dX3_add_18 : decode cX3_add 18 = .ok (.aload_n 0, 1) := by decide +kernel
theorem dX3_add_19 : decode cX3_add 19 = .ok (.getfield 49, 3) := by decide +kernel
theorem dX3_add_22 : decode cX3_add 22 = .ok (.iload_n 1, 1) := by decide +kernel
theorem dX3_add_23 : decode cX3_add 23 = .ok (.iaload, 1) := by decide +kernel
theorem dX3_add_24 : decode cX3_add 24 = .ok (.ifCond .ge 9, 3) := by decide +kernel
theorem dX3_add_27 : decode cX3_add 27 = .ok (.aload_n 0, 1) := by decide +kernel
theorem dX3_add_28 : decode cX3_add 28 = .ok (.iconst 3, 1) := by decide +kernel
theorem dX3_add_29 : decode cX3_add 29 = .ok (.invokevirtual 106, 3) := by decide +kernel
theorem dX3_add_32 : decode cX3_add 32 = .ok (.ireturn, 1) := by decide +kernel
theorem dX3_add_33 : decode cX3_add 33 = .ok (.bipush 40, 2) := by decide +kernel
theorem dX3_add_35 : decode cX3_add 35 = .ok (.iload_n 1, 1) := by decide +kernel
theorem dX3_add_36 : decode cX3_add 36 = .ok (.iadd, 1) := by decide +kernel
theorem dX3_add_37 : decode cX3_add 37 = .ok (.istore 5, 2) := by decide +kernel
theorem dX3_add_39 : decode cX3_add 39 = .ok (.aload_n 0, 1) := by decide +kernel
theorem dX3_add_40 : decode cX3_add 40 = .ok (.iload 5, 2) := by decide +kernel
theorem dX3_add_42 : decode cX3_add 42 = .ok (.iload_n 2, 1) := by decide +kernel
theorem dX3_add_43 : decode cX3_add 43 = .ok (.invokevirtual 87, 3) := by decide +kernel
theorem dX3_add_46 : decode cX3_add 46 = .ok (.ifCond .ne 9, 3) := by decide +kernel
theorem dX3_add_49 : decode cX3_add 49 = .ok (.aload_n 0, 1) := by decide +kernel
theorem dX3_add_50 : decode cX3_add 50 = .ok (.iconst 1, 1) := by decide +kernel
theorem dX3_add_51 : decode cX3_add 51 = .ok (.invokevirtual 106, 3) := by decide +kernel
theorem dX3_add_54 : decode cX3_add 54 = .ok (.ireturn, 1) := by decide +kernel
theorem dX3_add_55 : decode cX3_add 55 = .ok (.aload_n 0, 1) := by decide +kernel
theorem dX3_add_56 : decode cX3_add 56 = .ok (.getfield 20, 3) := by decide +kernel
theorem dX3_add_59 : decode cX3_add 59 = .ok (.iload_n 2, 1) := by decide +kernel
theorem dX3_add_60 : decode cX3_add 60 = .ok (.baload, 1) := by decide +kernel
theorem dX3_add_61 : decode cX3_add 61 = .ok (.ifCond .eq 25, 3) := by decide +kernel
theorem dX3_add_64 : decode cX3_add 64 = .ok (.iload_n 3, 1) := by decide +kernel
theorem dX3_add_65 : decode cX3_add 65 = .ok (.iconst 0, 1) := by decide +kernel
theorem dX3_add_66 : decode cX3_add 66 = .ok (.bipush 9, 2) := by decide +kernel
theorem dX3_add_68 : decode cX3_add 68 = .ok (.invokestatic 79, 3) := by decide +kernel
theorem dX3_add_71 : decode cX3_add 71 = .ok (.ifCond .eq 15, 3) := by decide +kernel
theorem dX3_add_74 : decode cX3_add 74 = .ok (.aload_n 0, 1) := by decide +kernel
theorem dX3_add_75 : decode cX3_add 75 = .ok (.iload 5, 2) := by decide +kernel
theorem dX3_add_77 : decode cX3_add 77 = .ok (.iload_n 2, 1) := by decide +kernel
theorem dX3_add_78 : decode cX3_add 78 = .ok (.iload_n 3, 1) := by decide +kernel
theorem dX3_add_79 : decode cX3_add 79 = .ok (.iconst (-1), 1) := by decide +kernel
theorem dX3_add_80 : decode cX3_add 80 = .ok (.invokevirtual 110, 3) := by decide +kernel
theorem dX3_add_83 : decode cX3_add 83 = .ok (.ifCond .lt 9, 3) := by decide +kernel
theorem dX3_add_86 : decode cX3_add 86 = .ok (.aload_n 0, 1) := by decide +kernel
theorem dX3_add_87 : decode cX3_add 87 = .ok (.iconst 2, 1) := by decide +kernel
theorem dX3_add_88 : decode cX3_add 88 = .ok (.invokevirtual 106, 3) := by decide +kernel
theorem dX3_add_91 : decode cX3_add 91 = .ok (.ireturn, 1) := by decide +kernel
theorem dX3_add_92 : decode cX3_add 92 = .ok (.aload_n 0, 1) := by decide +kernel
theorem dX3_add_93 : decode cX3_add 93 = .ok (.getfield 17, 3) := by decide +kernel
theorem dX3_add_96 : decode cX3_add 96 = .ok (.bipush 16, 2) := by decide +kernel
theorem dX3_add_98 : decode cX3_add 98 = .ok (.if_icmp .ne 9, 3) := by decide +kernel
theorem dX3_add_101 : decode cX3_add 101 = .ok (.aload_n 0, 1) := by decide +kernel
theorem dX3_add_102 : decode cX3_add 102 = .ok (.iconst 3, 1) := by decide +kernel
theorem dX3_add_103 : decode cX3_add 103 = .ok (.invokevirtual 106, 3) := by decide +kernel
theorem dX3_add_106 : decode cX3_add 106 = .ok (.ireturn, 1) := by decide +kernel
theorem dX3_add_107 : decode cX3_add 107 = .ok (.aload_n 0, 1) := by decide +kernel
theorem dX3_add_108 : decode cX3_add 108 = .ok (.getfield 17, 3) := by decide +kernel
theorem dX3_add_111 : decode cX3_add 111 = .ok (.istore 6, 2) := by decide +kernel
theorem dX3_add_113 : decode cX3_add 113 = .ok (.aload_n 0, 1) := by decide +kernel
theorem dX3_add_114 : decode cX3_add 114 = .ok (.dup, 1) := by decide +kernel
theorem dX3_add_115 : decode cX3_add 115 = .ok (.getfield 17, 3) := by decide +kernel
theorem dX3_add_118 : decode cX3_add 118 = .ok (.iconst 1, 1) := by decide +kernel
theorem dX3_add_119 : decode cX3_add 119 = .ok (.iadd, 1) := by decide +kernel
theorem dX3_add_120 : decode cX3_add 120 = .ok (.putfield 17, 3) := by decide +kernel
theorem dX3_add_123 : decode cX3_add 123 = .ok (.aload_n 0, 1) := by decide +kernel
theorem dX3_add_124 : decode cX3_add 124 = .ok (.getfield 20, 3) := by decide +kernel
theorem dX3_add_127 : decode cX3_add 127 = .ok (.iload 6, 2) := by decide +kernel
theorem dX3_add_129 : decode cX3_add 129 = .ok (.iload 4, 2) := by decide +kernel
theorem dX3_add_131 : decode cX3_add 131 = .ok (.bastore, 1) := by decide +kernel
theorem dX3_add_132 : decode cX3_add 132 = .ok (.aload_n 0, 1) := by decide +kernel
theorem dX3_add_133 : decode cX3_add 133 = .ok (.getfield 24, 3) := by decide +kernel
theorem dX3_add_136 : decode cX3_add 136 = .ok (.iload 6, 2) := by decide +kernel
theorem dX3_add_138 : decode cX3_add 138 = .ok (.iconst (-1), 1) := by decide +kernel
theorem dX3_add_139 : decode cX3_add 139 = .ok (.iastore, 1) := by decide +kernel
theorem dX3_add_140 : decode cX3_add 140 = .ok (.aload_n 0, 1) := by decide +kernel
theorem dX3_add_141 : decode cX3_add 141 = .ok (.getfield 28, 3) := by decide +kernel
theorem dX3_add_144 : decode cX3_add 144 = .ok (.iload 5, 2) := by decide +kernel
theorem dX3_add_146 : decode cX3_add 146 = .ok (.dup2, 1) := by decide +kernel
theorem dX3_add_147 : decode cX3_add 147 = .ok (.iaload, 1) := by decide +kernel
theorem dX3_add_148 : decode cX3_add 148 = .ok (.iconst 1, 1) := by decide +kernel
theorem dX3_add_149 : decode cX3_add 149 = .ok (.iload 6, 2) := by decide +kernel
theorem dX3_add_151 : decode cX3_add 151 = .ok (.ishl, 1) := by decide +kernel
theorem dX3_add_152 : decode cX3_add 152 = .ok (.ior, 1) := by decide +kernel
theorem dX3_add_153 : decode cX3_add 153 = .ok (.iastore, 1) := by decide +kernel
theorem dX3_add_154 : decode cX3_add 154 = .ok (.aload_n 0, 1) := by decide +kernel
theorem dX3_add_155 : decode cX3_add 155 = .ok (.getfield 31, 3) := by decide +kernel
theorem dX3_add_158 : decode cX3_add 158 = .ok (.bipush 16, 2) := by decide +kernel
theorem dX3_add_160 : decode cX3_add 160 = .ok (.iload 5, 2) := by decide +kernel
theorem dX3_add_162 : decode cX3_add 162 = .ok (.imul, 1) := by decide +kernel
theorem dX3_add_163 : decode cX3_add 163 = .ok (.iload 6, 2) := by decide +kernel
theorem dX3_add_165 : decode cX3_add 165 = .ok (.iadd, 1) := by decide +kernel
theorem dX3_add_166 : decode cX3_add 166 = .ok (.iload_n 2, 1) := by decide +kernel
theorem dX3_add_167 : decode cX3_add 167 = .ok (.iastore, 1) := by decide +kernel
theorem dX3_add_168 : decode cX3_add 168 = .ok (.aload_n 0, 1) := by decide +kernel
theorem dX3_add_169 : decode cX3_add 169 = .ok (.getfield 34, 3) := by decide +kernel
theorem dX3_add_172 : decode cX3_add 172 = .ok (.bipush 16, 2) := by decide +kernel
theorem dX3_add_174 : decode cX3_add 174 = .ok (.iload 5, 2) := by decide +kernel
theorem dX3_add_176 : decode cX3_add 176 = .ok (.imul, 1) := by decide +kernel
theorem dX3_add_177 : decode cX3_add 177 = .ok (.iload 6, 2) := by decide +kernel
theorem dX3_add_179 : decode cX3_add 179 = .ok (.iadd, 1) := by decide +kernel
theorem dX3_add_180 : decode cX3_add 180 = .ok (.iload_n 3, 1) := by decide +kernel
theorem dX3_add_181 : decode cX3_add 181 = .ok (.iastore, 1) := by decide +kernel
theorem dX3_add_182 : decode cX3_add 182 = .ok (.aload_n 0, 1) := by decide +kernel
theorem dX3_add_183 : decode cX3_add 183 = .ok (.getfield 37, 3) := by decide +kernel
theorem dX3_add_186 : decode cX3_add 186 = .ok (.bipush 16, 2) := by decide +kernel
theorem dX3_add_188 : decode cX3_add 188 = .ok (.iload 5, 2) := by decide +kernel
theorem dX3_add_190 : decode cX3_add 190 = .ok (.imul, 1) := by decide +kernel
theorem dX3_add_191 : decode cX3_add 191 = .ok (.iload 6, 2) := by decide +kernel
theorem dX3_add_193 : decode cX3_add 193 = .ok (.iadd, 1) := by decide +kernel
theorem dX3_add_194 : decode cX3_add 194 = .ok (.iconst 0, 1) := by decide +kernel
theorem dX3_add_195 : decode cX3_add 195 = .ok (.iastore, 1) := by decide +kernel
theorem dX3_add_196 : decode cX3_add 196 = .ok (.aload_n 0, 1) := by decide +kernel
theorem dX3_add_197 : decode cX3_add 197 = .ok (.getfield 40, 3) := by decide +kernel
theorem dX3_add_200 : decode cX3_add 200 = .ok (.bipush 16, 2) := by decide +kernel
theorem dX3_add_202 : decode cX3_add 202 = .ok (.iload 5, 2) := by decide +kernel
theorem dX3_add_204 : decode cX3_add 204 = .ok (.imul, 1) := by decide +kernel
theorem dX3_add_205 : decode cX3_add 205 = .ok (.iload 6, 2) := by decide +kernel
theorem dX3_add_207 : decode cX3_add 207 = .ok (.iadd, 1) := by decide +kernel
theorem dX3_add_208 : decode cX3_add 208 = .ok (.iconst 0, 1) := by decide +kernel
theorem dX3_add_209 : decode cX3_add 209 = .ok (.iastore, 1) := by decide +kernel
theorem dX3_add_210 : decode cX3_add 210 = .ok (.iload 6, 2) := by decide +kernel
theorem dX3_add_212 : decode cX3_add 212 = .ok (.ireturn, 1) := by decide +kernel
theorem dX3_drop_0 : decode cX3_drop 0 = .ok (.aload_n 0, 1) := by decide +kernel
theorem dX3_drop_1 : decode cX3_drop 1 = .ok (.iconst 0, 1) := by decide +kernel
theorem dX3_drop_2 : decode cX3_drop 2 = .ok (.putfield 76, 3) := by decide +kernel
theorem dX3_drop_5 : decode cX3_drop 5 = .ok (.iload_n 1, 1) := by decide +kernel
theorem dX3_drop_6 : decode cX3_drop 6 = .ok (.invokestatic 95, 3) := by decide +kernel
theorem dX3_drop_9 : decode cX3_drop 9 = .ok (.ifCond .ne 9, 3) := by decide +kernel
theorem dX3_drop_12 : decode cX3_drop 12 = .ok (.aload_n 0, 1) := by decide +kernel
theorem dX3_drop_13 : decode cX3_drop 13 = .ok (.iconst 1, 1) := by decide +kernel
theorem dX3_drop_14 : decode cX3_drop 14 = .ok (.putfield 76, 3) := by decide +kernel
theorem dX3_drop_17 : decode cX3_drop 17 = .ok (.return_, 1) := by decide +kernel
theorem dX3_drop_18 : decode cX3_drop 18 = .ok (.aload_n 0, 1) := by decide +kernel
theorem dX3_drop_19 : decode cX3_drop 19 = .ok (.getfield 49, 3) := by decide +kernel
theorem dX3_drop_22 : decode cX3_drop 22 = .ok (.iload_n 1, 1) := by decide +kernel
theorem dX3_drop_23 : decode cX3_drop 23 = .ok (.iaload, 1) := by decide +kernel
theorem dX3_drop_24 : decode cX3_drop 24 = .ok (.ifCond .ge 9, 3) := by decide +kernel
theorem dX3_drop_27 : decode cX3_drop 27 = .ok (.aload_n 0, 1) := by decide +kernel
theorem dX3_drop_28 : decode cX3_drop 28 = .ok (.iconst 3, 1) := by decide +kernel
theorem dX3_drop_29 : decode cX3_drop 29 = .ok (.putfield 76, 3) := by decide +kernel
theorem dX3_drop_32 : decode cX3_drop 32 = .ok (.return_, 1) := by decide +kernel
theorem dX3_drop_33 : decode cX3_drop 33 = .ok (.bipush 40, 2) := by decide +kernel
theorem dX3_drop_35 : decode cX3_drop 35 = .ok (.iload_n 1, 1) := by decide +kernel
theorem dX3_drop_36 : decode cX3_drop 36 = .ok (.iadd, 1) := by decide +kernel
theorem dX3_drop_37 : decode cX3_drop 37 = .ok (.istore_n 3, 1) := by decide +kernel
theorem dX3_drop_38 : decode cX3_drop 38 = .ok (.aload_n 0, 1) := by decide +kernel
theorem dX3_drop_39 : decode cX3_drop 39 = .ok (.iload_n 3, 1) := by decide +kernel
theorem dX3_drop_40 : decode cX3_drop 40 = .ok (.iload_n 2, 1) := by decide +kernel
theorem dX3_drop_41 : decode cX3_drop 41 = .ok (.invokevirtual 87, 3) := by decide +kernel
theorem dX3_drop_44 : decode cX3_drop 44 = .ok (.ifCond .ne 9, 3) := by decide +kernel
theorem dX3_drop_47 : decode cX3_drop 47 = .ok (.aload_n 0, 1) := by decide +kernel
theorem dX3_drop_48 : decode cX3_drop 48 = .ok (.iconst 1, 1) := by decide +kernel
theorem dX3_drop_49 : decode cX3_drop 49 = .ok (.putfield 76, 3) := by decide +kernel
theorem dX3_drop_52 : decode cX3_drop 52 = .ok (.return_, 1) := by decide +kernel
theorem dX3_drop_53 : decode cX3_drop 53 = .ok (.iload_n 2, 1) := by decide +kernel
theorem dX3_drop_54 : decode cX3_drop 54 = .ok (.ifCond .ne 7, 3) := by decide +kernel
theorem dX3_drop_57 : decode cX3_drop 57 = .ok (.iconst 1, 1) := by decide +kernel
theorem dX3_drop_58 : decode cX3_drop 58 = .ok (.goto 4, 3) := by decide +kernel
theorem dX3_drop_61 : decode cX3_drop 61 = .ok (.iconst 0, 1) := by decide +kernel
theorem dX3_drop_62 : decode cX3_drop 62 = .ok (.istore 4, 2) := by decide +kernel
theorem dX3_drop_64 : decode cX3_drop 64 = .ok (.iconst 1, 1) := by decide +kernel
theorem dX3_drop_65 : decode cX3_drop 65 = .ok (.istore 5, 2) := by decide +kernel
theorem dX3_drop_67 : decode cX3_drop 67 = .ok (.iload 5, 2) := by decide +kernel
theorem dX3_drop_69 : decode cX3_drop 69 = .ok (.bipush 16, 2) := by decide +kernel
theorem dX3_drop_71 : decode cX3_drop 71 = .ok (.if_icmp .ge 47, 3) := by decide +kernel
theorem dX3_drop_74 : decode cX3_drop 74 = .ok (.iload 4, 2) := by decide +kernel
theorem dX3_drop_76 : decode cX3_drop 76 = .ok (.ifCond .ne 29, 3) := by decide +kernel
theorem dX3_drop_79 : decode cX3_drop 79 = .ok (.aload_n 0, 1) := by decide +kernel
theorem dX3_drop_80 : decode cX3_drop 80 = .ok (.iload_n 3, 1) := by decide +kernel
theorem dX3_drop_81 : decode cX3_drop 81 = .ok (.iload 5, 2) := by decide +kernel
theorem dX3_drop_83 : decode cX3_drop 83 = .ok (.invokevirtual 87, 3) := by decide +kernel
theorem dX3_drop_86 : decode cX3_drop 86 = .ok (.ifCond .eq 23, 3) := by decide +kernel
theorem dX3_drop_89 : decode cX3_drop 89 = .ok (.aload_n 0, 1) := by decide +kernel
theorem dX3_drop_90 : decode cX3_drop 90 = .ok (.getfield 31, 3) := by decide +kernel
theorem dX3_drop_93 : decode cX3_drop 93 = .ok (.bipush 16, 2) := by decide +kernel
theorem dX3_drop_95 : decode cX3_drop 95 = .ok (.iload_n 3, 1) := by decide +kernel
theorem dX3_drop_96 : decode cX3_drop 96 = .ok (.imul, 1) := by decide +kernel
theorem dX3_drop_97 : decode cX3_drop 97 = .ok (.iload 5, 2) := by decide +kernel
theorem dX3_drop_99 : decode cX3_drop 99 = .ok (.iadd, 1) := by decide +kernel
theorem dX3_drop_100 : decode cX3_drop 100 = .ok (.iaload, 1) := by decide +kernel
theorem dX3_drop_101 : decode cX3_drop 101 = .ok (.iload_n 2, 1) := by decide +kernel
theorem dX3_drop_102 : decode cX3_drop 102 = .ok (.if_icmp .ne 7, 3) := by decide +kernel
theorem dX3_drop_105 : decode cX3_drop 105 = .ok (.iconst 1, 1) := by decide +kernel
theorem dX3_drop_106 : decode cX3_drop 106 = .ok (.goto 4, 3) := by decide +kernel
theorem dX3_drop_109 : decode cX3_drop 109 = .ok (.iconst 0, 1) := by decide +kernel
theorem dX3_drop_110 : decode cX3_drop 110 = .ok (.istore 4, 2) := by decide +kernel
theorem dX3_drop_112 : decode cX3_drop 112 = .ok (.iinc 5 1, 3) := by decide +kernel
theorem dX3_drop_115 : decode cX3_drop 115 = .ok (.goto (-48), 3) := by decide +kernel
theorem dX3_drop_118 : decode cX3_drop 118 = .ok (.iload 4, 2) := by decide +kernel
theorem dX3_drop_120 : decode cX3_drop 120 = .ok (.ifCond .eq 9, 3) := by decide +kernel
theorem dX3_drop_123 : decode cX3_drop 123 = .ok (.aload_n 0, 1) := by decide +kernel
theorem dX3_drop_124 : decode cX3_drop 124 = .ok (.iconst 2, 1) := by decide +kernel
theorem dX3_drop_125 : decode cX3_drop 125 = .ok (.putfield 76, 3) := by decide +kernel
theorem dX3_drop_128 : decode cX3_drop 128 = .ok (.return_, 1) := by decide +kernel
theorem dX3_drop_129 : decode cX3_drop 129 = .ok (.aload_n 0, 1) := by decide +kernel
theorem dX3_drop_130 : decode cX3_drop 130 = .ok (.getfield 28, 3) := by decide +kernel
theorem dX3_drop_133 : decode cX3_drop 133 = .ok (.iload_n 3, 1) := by decide +kernel
theorem dX3_drop_134 : decode cX3_drop 134 = .ok (.dup2, 1) := by decide +kernel
theorem dX3_drop_135 : decode cX3_drop 135 = .ok (.iaload, 1) := by decide +kernel
theorem dX3_drop_136 : decode cX3_drop 136 = .ok (.iconst 1, 1) := by decide +kernel
theorem dX3_drop_137 : decode cX3_drop 137 = .ok (.iload_n 2, 1) := by decide +kernel
theorem dX3_drop_138 : decode cX3_drop 138 = .ok (.ishl, 1) := by decide +kernel
theorem dX3_drop_139 : decode cX3_drop 139 = .ok (.iconst (-1), 1) := by decide +kernel
theorem dX3_drop_140 : decode cX3_drop 140 = .ok (.ixor, 1) := by decide +kernel
theorem dX3_drop_141 : decode cX3_drop 141 = .ok (.iand, 1) := by decide +kernel
theorem dX3_drop_142 : decode cX3_drop 142 = .ok (.iastore, 1) := by decide +kernel
theorem dX3_drop_143 : decode cX3_drop 143 = .ok (.return_, 1) := by decide +kernel
theorem dX3_move_0 : decode cX3_move 0 = .ok (.aload_n 0, 1) := by decide +kernel
theorem dX3_move_1 : decode cX3_move 1 = .ok (.iconst 0, 1) := by decide +kernel
theorem dX3_move_2 : decode cX3_move 2 = .ok (.putfield 76, 3) := by decide +kernel
theorem dX3_move_5 : decode cX3_move 5 = .ok (.iload_n 1, 1) := by decide +kernel
theorem dX3_move_6 : decode cX3_move 6 = .ok (.invokestatic 95, 3) := by decide +kernel
theorem dX3_move_9 : decode cX3_move 9 = .ok (.ifCond .ne 9, 3) := by decide +kernel
theorem dX3_move_12 : decode cX3_move 12 = .ok (.aload_n 0, 1) := by decide +kernel
theorem dX3_move_13 : decode cX3_move 13 = .ok (.iconst 1, 1) := by decide +kernel
theorem dX3_move_14 : decode cX3_move 14 = .ok (.putfield 76, 3) := by decide +kernel
theorem dX3_move_17 : decode cX3_move 17 = .ok (.return_, 1) := by decide +kernel
theorem dX3_move_18 : decode cX3_move 18 = .ok (.aload_n 0, 1) := by decide +kernel
theorem dX3_move_19 : decode cX3_move 19 = .ok (.getfield 49, 3) := by decide +kernel
theorem dX3_move_22 : decode cX3_move 22 = .ok (.iload_n 1, 1) := by decide +kernel
theorem dX3_move_23 : decode cX3_move 23 = .ok (.iaload, 1) := by decide +kernel
theorem dX3_move_24 : decode cX3_move 24 = .ok (.ifCond .ge 9, 3) := by decide +kernel
theorem dX3_move_27 : decode cX3_move 27 = .ok (.aload_n 0, 1) := by decide +kernel
theorem dX3_move_28 : decode cX3_move 28 = .ok (.iconst 3, 1) := by decide +kernel
theorem dX3_move_29 : decode cX3_move 29 = .ok (.putfield 76, 3) := by decide +kernel
theorem dX3_move_32 : decode cX3_move 32 = .ok (.return_, 1) := by decide +kernel
theorem dX3_move_33 : decode cX3_move 33 = .ok (.bipush 40, 2) := by decide +kernel
theorem dX3_move_35 : decode cX3_move 35 = .ok (.iload_n 1, 1) := by decide +kernel
theorem dX3_move_36 : decode cX3_move 36 = .ok (.iadd, 1) := by decide +kernel
theorem dX3_move_37 : decode cX3_move 37 = .ok (.istore 5, 2) := by decide +kernel
theorem dX3_move_39 : decode cX3_move 39 = .ok (.aload_n 0, 1) := by decide +kernel
theorem dX3_move_40 : decode cX3_move 40 = .ok (.iload 5, 2) := by decide +kernel
theorem dX3_move_42 : decode cX3_move 42 = .ok (.iload_n 2, 1) := by decide +kernel
theorem dX3_move_43 : decode cX3_move 43 = .ok (.invokevirtual 87, 3) := by decide +kernel
theorem dX3_move_46 : decode cX3_move 46 = .ok (.ifCond .eq 13, 3) := by decide +kernel
theorem dX3_move_49 : decode cX3_move 49 = .ok (.aload_n 0, 1) := by decide +kernel
theorem dX3_move_50 : decode cX3_move 50 = .ok (.iload 5, 2) := by decide +kernel
theorem dX3_move_52 : decode cX3_move 52 = .ok (.iload_n 3, 1) := by decide +kernel
theorem dX3_move_53 : decode cX3_move 53 = .ok (.invokevirtual 87, 3) := by decide +kernel
theorem dX3_move_56 : decode cX3_move 56 = .ok (.ifCond .ne 9, 3) := by decide +kernel
theorem dX3_move_59 : decode cX3_move 59 = .ok (.aload_n 0, 1) := by decide +kernel
theorem dX3_move_60 : decode cX3_move 60 = .ok (.iconst 1, 1) := by decide +kernel
theorem dX3_move_61 : decode cX3_move 61 = .ok (.putfield 76, 3) := by decide +kernel
theorem dX3_move_64 : decode cX3_move 64 = .ok (.return_, 1) := by decide +kernel
theorem dX3_move_65 : decode cX3_move 65 = .ok (.iload_n 2, 1) := by decide +kernel
theorem dX3_move_66 : decode cX3_move 66 = .ok (.ifCond .eq 47, 3) := by decide +kernel
theorem dX3_move_69 : decode cX3_move 69 = .ok (.aload_n 0, 1) := by decide +kernel
theorem dX3_move_70 : decode cX3_move 70 = .ok (.getfield 20, 3) := by decide +kernel
theorem dX3_move_73 : decode cX3_move 73 = .ok (.iload_n 3, 1) := by decide +kernel
theorem dX3_move_74 : decode cX3_move 74 = .ok (.baload, 1) := by decide +kernel
theorem dX3_move_75 : decode cX3_move 75 = .ok (.ifCond .eq 38, 3) := by decide +kernel
theorem dX3_move_78 : decode cX3_move 78 = .ok (.iload 4, 2) := by decide +kernel
theorem dX3_move_80 : decode cX3_move 80 = .ok (.iconst 0, 1) := by decide +kernel
theorem dX3_move_81 : decode cX3_move 81 = .ok (.bipush 9, 2) := by decide +kernel
theorem dX3_move_83 : decode cX3_move 83 = .ok (.invokestatic 79, 3) := by decide +kernel
theorem dX3_move_86 : decode cX3_move 86 = .ok (.ifCond .eq 27, 3) := by decide +kernel
theorem dX3_move_89 : decode cX3_move 89 = .ok (.aload_n 0, 1) := by decide +kernel
theorem dX3_move_90 : decode cX3_move 90 = .ok (.iload 5, 2) := by decide +kernel
theorem dX3_move_92 : decode cX3_move 92 = .ok (.iload_n 3, 1) := by decide +kernel
theorem dX3_move_93 : decode cX3_move 93 = .ok (.iload 4, 2) := by decide +kernel
theorem dX3_move_95 : decode cX3_move 95 = .ok (.iload_n 2, 1) := by decide +kernel
theorem dX3_move_96 : decode cX3_move 96 = .ok (.invokevirtual 110, 3) := by decide +kernel
theorem dX3_move_99 : decode cX3_move 99 = .ok (.ifCond .ge 14, 3) := by decide +kernel
theorem dX3_move_102 : decode cX3_move 102 = .ok (.aload_n 0, 1) := by decide +kernel
theorem dX3_move_103 : decode cX3_move 103 = .ok (.iload 5, 2) := by decide +kernel
theorem dX3_move_105 : decode cX3_move 105 = .ok (.iload_n 3, 1) := by decide +kernel
theorem dX3_move_106 : decode cX3_move 106 = .ok (.iload_n 2, 1) := by decide +kernel
theorem dX3_move_107 : decode cX3_move 107 = .ok (.invokevirtual 114, 3) := by decide +kernel
theorem dX3_move_110 : decode cX3_move 110 = .ok (.ifCond .eq 9, 3) := by decide +kernel
theorem dX3_move_113 : decode cX3_move 113 = .ok (.aload_n 0, 1) := by decide +kernel
theorem dX3_move_114 : decode cX3_move 114 = .ok (.iconst 2, 1) := by decide +kernel
theorem dX3_move_115 : decode cX3_move 115 = .ok (.putfield 76, 3) := by decide +kernel
theorem dX3_move_118 : decode cX3_move 118 = .ok (.return_, 1) := by decide +kernel
theorem dX3_move_119 : decode cX3_move 119 = .ok (.aload_n 0, 1) := by decide +kernel
theorem dX3_move_120 : decode cX3_move 120 = .ok (.getfield 31, 3) := by decide +kernel
theorem dX3_move_123 : decode cX3_move 123 = .ok (.bipush 16, 2) := by decide +kernel
theorem dX3_move_125 : decode cX3_move 125 = .ok (.iload 5, 2) := by decide +kernel
theorem dX3_move_127 : decode cX3_move 127 = .ok (.imul, 1) := by decide +kernel
theorem dX3_move_128 : decode cX3_move 128 = .ok (.iload_n 2, 1) := by decide +kernel
theorem dX3_move_129 : decode cX3_move 129 = .ok (.iadd, 1) := by decide +kernel
theorem dX3_move_130 : decode cX3_move 130 = .ok (.iload_n 3, 1) := by decide +kernel
theorem dX3_move_131 : decode cX3_move 131 = .ok (.iastore, 1) := by decide +kernel
theorem dX3_move_132 : decode cX3_move 132 = .ok (.aload_n 0, 1) := by decide +kernel
theorem dX3_move_133 : decode cX3_move 133 = .ok (.getfield 34, 3) := by decide +kernel
theorem dX3_move_136 : decode cX3_move 136 = .ok (.bipush 16, 2) := by decide +kernel
theorem dX3_move_138 : decode cX3_move 138 = .ok (.iload 5, 2) := by decide +kernel
theorem dX3_move_140 : decode cX3_move 140 = .ok (.imul, 1) := by decide +kernel
theorem dX3_move_141 : decode cX3_move 141 = .ok (.iload_n 2, 1) := by decide +kernel
theorem dX3_move_142 : decode cX3_move 142 = .ok (.iadd, 1) := by decide +kernel
theorem dX3_move_143 : decode cX3_move 143 = .ok (.iload 4, 2) := by decide +kernel
theorem dX3_move_145 : decode cX3_move 145 = .ok (.iastore, 1) := by decide +kernel
theorem dX3_move_146 : decode cX3_move 146 = .ok (.return_, 1) := by decide +kernel
theorem dX3_write_0 : decode cX3_write 0 = .ok (.aload_n 0, 1) := by decide +kernel
theorem dX3_write_1 : decode cX3_write 1 = .ok (.iconst 0, 1) := by decide +kernel
theorem dX3_write_2 : decode cX3_write 2 = .ok (.putfield 76, 3) := by decide +kernel
theorem dX3_write_5 : decode cX3_write 5 = .ok (.iload_n 1, 1) := by decide +kernel
theorem dX3_write_6 : decode cX3_write 6 = .ok (.invokestatic 95, 3) := by decide +kernel
theorem dX3_write_9 : decode cX3_write 9 = .ok (.ifCond .ne 9, 3) := by decide +kernel
theorem dX3_write_12 : decode cX3_write 12 = .ok (.aload_n 0, 1) := by decide +kernel
theorem dX3_write_13 : decode cX3_write 13 = .ok (.iconst 1, 1) := by decide +kernel
theorem dX3_write_14 : decode cX3_write 14 = .ok (.putfield 76, 3) := by decide +kernel
theorem dX3_write_17 : decode cX3_write 17 = .ok (.return_, 1) := by decide +kernel
theorem dX3_write_18 : decode cX3_write 18 = .ok (.aload_n 0, 1) := by decide +kernel
theorem dX3_write_19 : decode cX3_write 19 = .ok (.getfield 49, 3) := by decide +kernel
theorem dX3_write_22 : decode cX3_write 22 = .ok (.iload_n 1, 1) := by decide +kernel
theorem dX3_write_23 : decode cX3_write 23 = .ok (.iaload, 1) := by decide +kernel
theorem dX3_write_24 : decode cX3_write 24 = .ok (.ifCond .ge 9, 3) := by decide +kernel
theorem dX3_write_27 : decode cX3_write 27 = .ok (.aload_n 0, 1) := by decide +kernel
theorem dX3_write_28 : decode cX3_write 28 = .ok (.iconst 3, 1) := by decide +kernel
theorem dX3_write_29 : decode cX3_write 29 = .ok (.putfield 76, 3) := by decide +kernel
theorem dX3_write_32 : decode cX3_write 32 = .ok (.return_, 1) := by decide +kernel
theorem dX3_write_33 : decode cX3_write 33 = .ok (.bipush 40, 2) := by decide +kernel
theorem dX3_write_35 : decode cX3_write 35 = .ok (.iload_n 1, 1) := by decide +kernel
theorem dX3_write_36 : decode cX3_write 36 = .ok (.iadd, 1) := by decide +kernel
theorem dX3_write_37 : decode cX3_write 37 = .ok (.istore 5, 2) := by decide +kernel
theorem dX3_write_39 : decode cX3_write 39 = .ok (.aload_n 0, 1) := by decide +kernel
theorem dX3_write_40 : decode cX3_write 40 = .ok (.iload 5, 2) := by decide +kernel
theorem dX3_write_42 : decode cX3_write 42 = .ok (.iload_n 2, 1) := by decide +kernel
theorem dX3_write_43 : decode cX3_write 43 = .ok (.invokevirtual 87, 3) := by decide +kernel
theorem dX3_write_46 : decode cX3_write 46 = .ok (.ifCond .ne 9, 3) := by decide +kernel
theorem dX3_write_49 : decode cX3_write 49 = .ok (.aload_n 0, 1) := by decide +kernel
theorem dX3_write_50 : decode cX3_write 50 = .ok (.iconst 1, 1) := by decide +kernel
theorem dX3_write_51 : decode cX3_write 51 = .ok (.putfield 76, 3) := by decide +kernel
theorem dX3_write_54 : decode cX3_write 54 = .ok (.return_, 1) := by decide +kernel
theorem dX3_write_55 : decode cX3_write 55 = .ok (.iload_n 3, 1) := by decide +kernel
theorem dX3_write_56 : decode cX3_write 56 = .ok (.iconst 1, 1) := by decide +kernel
theorem dX3_write_57 : decode cX3_write 57 = .ok (.if_icmp .eq 8, 3) := by decide +kernel
theorem dX3_write_60 : decode cX3_write 60 = .ok (.iload_n 3, 1) := by decide +kernel
theorem dX3_write_61 : decode cX3_write 61 = .ok (.iconst 2, 1) := by decide +kernel
theorem dX3_write_62 : decode cX3_write 62 = .ok (.if_icmp .ne 21, 3) := by decide +kernel
theorem dX3_write_65 : decode cX3_write 65 = .ok (.iload_n 2, 1) := by decide +kernel
theorem dX3_write_66 : decode cX3_write 66 = .ok (.ifCond .eq 17, 3) := by decide +kernel
theorem dX3_write_69 : decode cX3_write 69 = .ok (.aload_n 0, 1) := by decide +kernel
theorem dX3_write_70 : decode cX3_write 70 = .ok (.getfield 20, 3) := by decide +kernel
theorem dX3_write_73 : decode cX3_write 73 = .ok (.iload_n 2, 1) := by decide +kernel
theorem dX3_write_74 : decode cX3_write 74 = .ok (.baload, 1) := by decide +kernel
theorem dX3_write_75 : decode cX3_write 75 = .ok (.ifCond .eq 14, 3) := by decide +kernel
theorem dX3_write_78 : decode cX3_write 78 = .ok (.iload_n 3, 1) := by decide +kernel
theorem dX3_write_79 : decode cX3_write 79 = .ok (.iconst 1, 1) := by decide +kernel
theorem dX3_write_80 : decode cX3_write 80 = .ok (.if_icmp .ne 9, 3) := by decide +kernel
theorem dX3_write_83 : decode cX3_write 83 = .ok (.aload_n 0, 1) := by decide +kernel
theorem dX3_write_84 : decode cX3_write 84 = .ok (.iconst 2, 1) := by decide +kernel
theorem dX3_write_85 : decode cX3_write 85 = .ok (.putfield 76, 3) := by decide +kernel
theorem dX3_write_88 : decode cX3_write 88 = .ok (.return_, 1) := by decide +kernel
theorem dX3_write_89 : decode cX3_write 89 = .ok (.iload_n 3, 1) := by decide +kernel
theorem dX3_write_90 : decode cX3_write 90 = .ok (.iconst 1, 1) := by decide +kernel
theorem dX3_write_91 : decode cX3_write 91 = .ok (.if_icmp .ne 20, 3) := by decide +kernel
theorem dX3_write_94 : decode cX3_write 94 = .ok (.aload_n 0, 1) := by decide +kernel
theorem dX3_write_95 : decode cX3_write 95 = .ok (.getfield 37, 3) := by decide +kernel
theorem dX3_write_98 : decode cX3_write 98 = .ok (.bipush 16, 2) := by decide +kernel
theorem dX3_write_100 : decode cX3_write 100 = .ok (.iload 5, 2) := by decide +kernel
theorem dX3_write_102 : decode cX3_write 102 = .ok (.imul, 1) := by decide +kernel
theorem dX3_write_103 : decode cX3_write 103 = .ok (.iload_n 2, 1) := by decide +kernel
theorem dX3_write_104 : decode cX3_write 104 = .ok (.iadd, 1) := by decide +kernel
theorem dX3_write_105 : decode cX3_write 105 = .ok (.iload 4, 2) := by decide +kernel
theorem dX3_write_107 : decode cX3_write 107 = .ok (.iastore, 1) := by decide +kernel
theorem dX3_write_108 : decode cX3_write 108 = .ok (.goto 17, 3) := by decide +kernel
theorem dX3_write_111 : decode cX3_write 111 = .ok (.aload_n 0, 1) := by decide +kernel
theorem dX3_write_112 : decode cX3_write 112 = .ok (.getfield 40, 3) := by decide +kernel
theorem dX3_write_115 : decode cX3_write 115 = .ok (.bipush 16, 2) := by decide +kernel
theorem dX3_write_117 : decode cX3_write 117 = .ok (.iload 5, 2) := by decide +kernel
theorem dX3_write_119 : decode cX3_write 119 = .ok (.imul, 1) := by decide +kernel
theorem dX3_write_120 : decode cX3_write 120 = .ok (.iload_n 2, 1) := by decide +kernel
theorem dX3_write_121 : decode cX3_write 121 = .ok (.iadd, 1) := by decide +kernel
theorem dX3_write_122 : decode cX3_write 122 = .ok (.iload 4, 2) := by decide +kernel
theorem dX3_write_124 : decode cX3_write 124 = .ok (.iastore, 1) := by decide +kernel
theorem dX3_write_125 : decode cX3_write 125 = .ok (.return_, 1) := by decide +kernel
theorem dX3_commit_0 : decode cX3_commit 0 = .ok (.aload_n 0, 1) := by decide +kernel
theorem dX3_commit_1 : decode cX3_commit 1 = .ok (.iconst 0, 1) := by decide +kernel
theorem dX3_commit_2 : decode cX3_commit 2 = .ok (.putfield 76, 3) := by decide +kernel
theorem dX3_commit_5 : decode cX3_commit 5 = .ok (.iload_n 1, 1) := by decide +kernel
theorem dX3_commit_6 : decode cX3_commit 6 = .ok (.invokestatic 95, 3) := by decide +kernel
theorem dX3_commit_9 : decode cX3_commit 9 = .ok (.ifCond .ne 9, 3) := by decide +kernel
theorem dX3_commit_12 : decode cX3_commit 12 = .ok (.aload_n 0, 1) := by decide +kernel
theorem dX3_commit_13 : decode cX3_commit 13 = .ok (.iconst 1, 1) := by decide +kernel
theorem dX3_commit_14 : decode cX3_commit 14 = .ok (.invokevirtual 106, 3) := by decide +kernel
theorem dX3_commit_17 : decode cX3_commit 17 = .ok (.ireturn, 1) := by decide +kernel
theorem dX3_commit_18 : decode cX3_commit 18 = .ok (.bipush 40, 2) := by decide +kernel
theorem dX3_commit_20 : decode cX3_commit 20 = .ok (.iload_n 1, 1) := by decide +kernel
