theorem dX2_commit_23 : decode cX2_commit 23 = .ok (.iload_n 3, 1) := by decide +kernel
theorem dX2_commit_24 : decode cX2_commit 24 = .ok (.aaload, 1) := by decide +kernel
theorem dX2_commit_25 : decode cX2_commit 25 = .ok (.invokevirtual 137, 3) := by decide +kernel
theorem dX2_commit_28 : decode cX2_commit 28 = .ok (.ifCond .eq 13, 3) := by decide +kernel
theorem dX2_commit_31 : decode cX2_commit 31 = .ok (.new 93, 3) := by decide +kernel
theorem dX2_commit_34 : decode cX2_commit 34 = .ok (.dup, 1) := by decide +kernel
theorem dX2_commit_35 : decode cX2_commit 35 = .ok (.ldc 141, 2) := by decide +kernel
theorem dX2_commit_37 : decode cX2_commit 37 = .ok (.invokespecial 97, 3) := by decide +kernel
theorem dX2_commit_40 : decode cX2_commit 40 = .ok (.athrow, 1) := by decide +kernel
theorem dX2_commit_41 : decode cX2_commit 41 = .ok (.aload_n 0, 1) := by decide +kernel
theorem dX2_commit_42 : decode cX2_commit 42 = .ok (.invokevirtual 143, 3) := by decide +kernel
theorem dX2_commit_45 : decode cX2_commit 45 = .ok (.aload_n 0, 1) := by decide +kernel
theorem dX2_commit_46 : decode cX2_commit 46 = .ok (.aload_n 2, 1) := by decide +kernel
theorem dX2_commit_47 : decode cX2_commit 47 = .ok (.aload_n 0, 1) := by decide +kernel
theorem dX2_commit_48 : decode cX2_commit 48 = .ok (.iload_n 3, 1) := by decide +kernel
theorem dX2_commit_49 : decode cX2_commit 49 = .ok (.invokevirtual 146, 3) := by decide +kernel
theorem dX2_commit_52 : decode cX2_commit 52 = .ok (.aload_n 2, 1) := by decide +kernel
theorem dX2_commit_53 : decode cX2_commit 53 = .ok (.getfield 56, 3) := by decide +kernel
theorem dX2_commit_56 : decode cX2_commit 56 = .ok (.invokevirtual 150, 3) := by decide +kernel
theorem dX2_commit_59 : decode cX2_commit 59 = .ok (.istore 4, 2) := by decide +kernel
theorem dX2_commit_61 : decode cX2_commit 61 = .ok (.aload_n 0, 1) := by decide +kernel
theorem dX2_commit_62 : decode cX2_commit 62 = .ok (.iload 4, 2) := by decide +kernel
theorem dX2_commit_64 : decode cX2_commit 64 = .ok (.iload_n 3, 1) := by decide +kernel
theorem dX2_commit_65 : decode cX2_commit 65 = .ok (.invokevirtual 154, 3) := by decide +kernel
theorem dX2_commit_68 : decode cX2_commit 68 = .ok (.aload_n 2, 1) := by decide +kernel
theorem dX2_commit_69 : decode cX2_commit 69 = .ok (.iload 4, 2) := by decide +kernel
theorem dX2_commit_71 : decode cX2_commit 71 = .ok (.putfield 63, 3) := by decide +kernel
theorem dX2_commit_74 : decode cX2_commit 74 = .ok (.iload 4, 2) := by decide +kernel
theorem dX2_commit_76 : decode cX2_commit 76 = .ok (.ireturn, 1) := by decide +kernel
theorem dX2_decide_0 : decode cX2_decide 0 = .ok (.aload_n 0, 1) := by decide +kernel
theorem dX2_decide_1 : decode cX2_decide 1 = .ok (.iload_n 1, 1) := by decide +kernel
theorem dX2_decide_2 : decode cX2_decide 2 = .ok (.invokevirtual 48, 3) := by decide +kernel
theorem dX2_decide_5 : decode cX2_decide 5 = .ok (.astore 5, 2) := by decide +kernel
theorem dX2_decide_7 : decode cX2_decide 7 = .ok (.aload_n 0, 1) := by decide +kernel
theorem dX2_decide_8 : decode cX2_decide 8 = .ok (.iload_n 2, 1) := by decide +kernel
theorem dX2_decide_9 : decode cX2_decide 9 = .ok (.invokevirtual 157, 3) := by decide +kernel
theorem dX2_decide_12 : decode cX2_decide 12 = .ok (.iload_n 2, 1) := by decide +kernel
theorem dX2_decide_13 : decode cX2_decide 13 = .ok (.invokestatic 101, 3) := by decide +kernel
theorem dX2_decide_16 : decode cX2_decide 16 = .ok (.iload_n 3, 1) := by decide +kernel
theorem dX2_decide_17 : decode cX2_decide 17 = .ok (.invokestatic 160, 3) := by decide +kernel
theorem dX2_decide_20 : decode cX2_decide 20 = .ok (.iload 4, 2) := by decide +kernel
theorem dX2_decide_22 : decode cX2_decide 22 = .ok (.ifCond .eq 25, 3) := by decide +kernel
theorem dX2_decide_25 : decode cX2_decide 25 = .ok (.iload 4, 2) := by decide +kernel
theorem dX2_decide_27 : decode cX2_decide 27 = .ok (.iconst 1, 1) := by decide +kernel
theorem dX2_decide_28 : decode cX2_decide 28 = .ok (.if_icmp .eq 19, 3) := by decide +kernel
theorem dX2_decide_31 : decode cX2_decide 31 = .ok (.iload 4, 2) := by decide +kernel
theorem dX2_decide_33 : decode cX2_decide 33 = .ok (.iconst (-1), 1) := by decide +kernel
theorem dX2_decide_34 : decode cX2_decide 34 = .ok (.if_icmp .eq 13, 3) := by decide +kernel
theorem dX2_decide_37 : decode cX2_decide 37 = .ok (.new 86, 3) := by decide +kernel
theorem dX2_decide_40 : decode cX2_decide 40 = .ok (.dup, 1) := by decide +kernel
theorem dX2_decide_41 : decode cX2_decide 41 = .ok (.ldc 163, 2) := by decide +kernel
theorem dX2_decide_43 : decode cX2_decide 43 = .ok (.invokespecial 90, 3) := by decide +kernel
theorem dX2_decide_46 : decode cX2_decide 46 = .ok (.athrow, 1) := by decide +kernel
theorem dX2_decide_47 : decode cX2_decide 47 = .ok (.aload 5, 2) := by decide +kernel
theorem dX2_decide_49 : decode cX2_decide 49 = .ok (.getfield 165, 3) := by decide +kernel
theorem dX2_decide_52 : decode cX2_decide 52 = .ok (.iload_n 2, 1) := by decide +kernel
theorem dX2_decide_53 : decode cX2_decide 53 = .ok (.iload_n 3, 1) := by decide +kernel
theorem dX2_decide_54 : decode cX2_decide 54 = .ok (.invokestatic 168, 3) := by decide +kernel
theorem dX2_decide_57 : decode cX2_decide 57 = .ok (.iload 4, 2) := by decide +kernel
theorem dX2_decide_59 : decode cX2_decide 59 = .ok (.iastore, 1) := by decide +kernel
theorem dX2_decide_60 : decode cX2_decide 60 = .ok (.return_, 1) := by decide +kernel
theorem dX2_bury_0 : decode cX2_bury 0 = .ok (.aload_n 0, 1) := by decide +kernel
theorem dX2_bury_1 : decode cX2_bury 1 = .ok (.iload_n 1, 1) := by decide +kernel
theorem dX2_bury_2 : decode cX2_bury 2 = .ok (.invokevirtual 48, 3) := by decide +kernel
theorem dX2_bury_5 : decode cX2_bury 5 = .ok (.astore 4, 2) := by decide +kernel
theorem dX2_bury_7 : decode cX2_bury 7 = .ok (.aload_n 0, 1) := by decide +kernel
theorem dX2_bury_8 : decode cX2_bury 8 = .ok (.iload_n 2, 1) := by decide +kernel
theorem dX2_bury_9 : decode cX2_bury 9 = .ok (.invokevirtual 157, 3) := by decide +kernel
theorem dX2_bury_12 : decode cX2_bury 12 = .ok (.iload_n 2, 1) := by decide +kernel
theorem dX2_bury_13 : decode cX2_bury 13 = .ok (.invokestatic 101, 3) := by decide +kernel
theorem dX2_bury_16 : decode cX2_bury 16 = .ok (.iload_n 3, 1) := by decide +kernel
theorem dX2_bury_17 : decode cX2_bury 17 = .ok (.ifCond .eq 19, 3) := by decide +kernel
theorem dX2_bury_20 : decode cX2_bury 20 = .ok (.aload 4, 2) := by decide +kernel
theorem dX2_bury_22 : decode cX2_bury 22 = .ok (.dup, 1) := by decide +kernel
theorem dX2_bury_23 : decode cX2_bury 23 = .ok (.getfield 171, 3) := by decide +kernel
theorem dX2_bury_26 : decode cX2_bury 26 = .ok (.iconst 1, 1) := by decide +kernel
theorem dX2_bury_27 : decode cX2_bury 27 = .ok (.iload_n 2, 1) := by decide +kernel
theorem dX2_bury_28 : decode cX2_bury 28 = .ok (.ishl, 1) := by decide +kernel
theorem dX2_bury_29 : decode cX2_bury 29 = .ok (.ior, 1) := by decide +kernel
theorem dX2_bury_30 : decode cX2_bury 30 = .ok (.putfield 171, 3) := by decide +kernel
theorem dX2_bury_33 : decode cX2_bury 33 = .ok (.goto 18, 3) := by decide +kernel
theorem dX2_bury_36 : decode cX2_bury 36 = .ok (.aload 4, 2) := by decide +kernel
theorem dX2_bury_38 : decode cX2_bury 38 = .ok (.dup, 1) := by decide +kernel
theorem dX2_bury_39 : decode cX2_bury 39 = .ok (.getfield 171, 3) := by decide +kernel
theorem dX2_bury_42 : decode cX2_bury 42 = .ok (.iconst 1, 1) := by decide +kernel
theorem dX2_bury_43 : decode cX2_bury 43 = .ok (.iload_n 2, 1) := by decide +kernel
theorem dX2_bury_44 : decode cX2_bury 44 = .ok (.ishl, 1) := by decide +kernel
theorem dX2_bury_45 : decode cX2_bury 45 = .ok (.iconst (-1), 1) := by decide +kernel
theorem dX2_bury_46 : decode cX2_bury 46 = .ok (.ixor, 1) := by decide +kernel
theorem dX2_bury_47 : decode cX2_bury 47 = .ok (.iand, 1) := by decide +kernel
theorem dX2_bury_48 : decode cX2_bury 48 = .ok (.putfield 171, 3) := by decide +kernel
theorem dX2_bury_51 : decode cX2_bury 51 = .ok (.return_, 1) := by decide +kernel
theorem dX2_merge_0 : decode cX2_merge 0 = .ok (.aload_n 0, 1) := by decide +kernel
theorem dX2_merge_1 : decode cX2_merge 1 = .ok (.iload_n 1, 1) := by decide +kernel
theorem dX2_merge_2 : decode cX2_merge 2 = .ok (.invokevirtual 48, 3) := by decide +kernel
theorem dX2_merge_5 : decode cX2_merge 5 = .ok (.astore 4, 2) := by decide +kernel
theorem dX2_merge_7 : decode cX2_merge 7 = .ok (.aload_n 0, 1) := by decide +kernel
theorem dX2_merge_8 : decode cX2_merge 8 = .ok (.aload 4, 2) := by decide +kernel
theorem dX2_merge_10 : decode cX2_merge 10 = .ok (.iload_n 2, 1) := by decide +kernel
theorem dX2_merge_11 : decode cX2_merge 11 = .ok (.invokevirtual 52, 3) := by decide +kernel
theorem dX2_merge_14 : decode cX2_merge 14 = .ok (.aload_n 0, 1) := by decide +kernel
theorem dX2_merge_15 : decode cX2_merge 15 = .ok (.aload 4, 2) := by decide +kernel
theorem dX2_merge_17 : decode cX2_merge 17 = .ok (.iload_n 3, 1) := by decide +kernel
theorem dX2_merge_18 : decode cX2_merge 18 = .ok (.invokevirtual 52, 3) := by decide +kernel
theorem dX2_merge_21 : decode cX2_merge 21 = .ok (.aload_n 0, 1) := by decide +kernel
theorem dX2_merge_22 : decode cX2_merge 22 = .ok (.iload_n 2, 1) := by decide +kernel
theorem dX2_merge_23 : decode cX2_merge 23 = .ok (.invokevirtual 146, 3) := by decide +kernel
theorem dX2_merge_26 : decode cX2_merge 26 = .ok (.iload_n 3, 1) := by decide +kernel
theorem dX2_merge_27 : decode cX2_merge 27 = .ok (.invokestatic 174, 3) := by decide +kernel
theorem dX2_merge_30 : decode cX2_merge 30 = .ok (.ifCond .ne 15, 3) := by decide +kernel
theorem dX2_merge_33 : decode cX2_merge 33 = .ok (.aload_n 0, 1) := by decide +kernel
theorem dX2_merge_34 : decode cX2_merge 34 = .ok (.iload_n 3, 1) := by decide +kernel
theorem dX2_merge_35 : decode cX2_merge 35 = .ok (.invokevirtual 146, 3) := by decide +kernel
theorem dX2_merge_38 : decode cX2_merge 38 = .ok (.iload_n 2, 1) := by decide +kernel
theorem dX2_merge_39 : decode cX2_merge 39 = .ok (.invokestatic 174, 3) := by decide +kernel
theorem dX2_merge_42 : decode cX2_merge 42 = .ok (.ifCond .eq 13, 3) := by decide +kernel
theorem dX2_merge_45 : decode cX2_merge 45 = .ok (.new 86, 3) := by decide +kernel
theorem dX2_merge_48 : decode cX2_merge 48 = .ok (.dup, 1) := by decide +kernel
theorem dX2_merge_49 : decode cX2_merge 49 = .ok (.ldc 178, 2) := by decide +kernel
theorem dX2_merge_51 : decode cX2_merge 51 = .ok (.invokespecial 90, 3) := by decide +kernel
theorem dX2_merge_54 : decode cX2_merge 54 = .ok (.athrow, 1) := by decide +kernel
theorem dX2_merge_55 : decode cX2_merge 55 = .ok (.aload_n 0, 1) := by decide +kernel
theorem dX2_merge_56 : decode cX2_merge 56 = .ok (.invokevirtual 143, 3) := by decide +kernel
theorem dX2_merge_59 : decode cX2_merge 59 = .ok (.aload_n 0, 1) := by decide +kernel
theorem dX2_merge_60 : decode cX2_merge 60 = .ok (.aload 4, 2) := by decide +kernel
theorem dX2_merge_62 : decode cX2_merge 62 = .ok (.iload_n 2, 1) := by decide +kernel
theorem dX2_merge_63 : decode cX2_merge 63 = .ok (.iload_n 3, 1) := by decide +kernel
theorem dX2_merge_64 : decode cX2_merge 64 = .ok (.invokevirtual 180, 3) := by decide +kernel
theorem dX2_merge_67 : decode cX2_merge 67 = .ok (.aload_n 0, 1) := by decide +kernel
theorem dX2_merge_68 : decode cX2_merge 68 = .ok (.aload 4, 2) := by decide +kernel
theorem dX2_merge_70 : decode cX2_merge 70 = .ok (.invokevirtual 184, 3) := by decide +kernel
theorem dX2_merge_73 : decode cX2_merge 73 = .ok (.aload 4, 2) := by decide +kernel
theorem dX2_merge_75 : decode cX2_merge 75 = .ok (.getfield 187, 3) := by decide +kernel
theorem dX2_merge_78 : decode cX2_merge 78 = .ok (.ifCond .le 10, 3) := by decide +kernel
theorem dX2_merge_81 : decode cX2_merge 81 = .ok (.aload 4, 2) := by decide +kernel
theorem dX2_merge_83 : decode cX2_merge 83 = .ok (.getfield 187, 3) := by decide +kernel
theorem dX2_merge_86 : decode cX2_merge 86 = .ok (.ineg, 1) := by decide +kernel
theorem dX2_merge_87 : decode cX2_merge 87 = .ok (.ireturn, 1) := by decide +kernel
theorem dX2_merge_88 : decode cX2_merge 88 = .ok (.aload 4, 2) := by decide +kernel
theorem dX2_merge_90 : decode cX2_merge 90 = .ok (.invokevirtual 190, 3) := by decide +kernel
theorem dX2_merge_93 : decode cX2_merge 93 = .ok (.aload_n 0, 1) := by decide +kernel
theorem dX2_merge_94 : decode cX2_merge 94 = .ok (.aload 4, 2) := by decide +kernel
theorem dX2_merge_96 : decode cX2_merge 96 = .ok (.aload_n 0, 1) := by decide +kernel
theorem dX2_merge_97 : decode cX2_merge 97 = .ok (.iload_n 2, 1) := by decide +kernel
theorem dX2_merge_98 : decode cX2_merge 98 = .ok (.invokevirtual 146, 3) := by decide +kernel
theorem dX2_merge_101 : decode cX2_merge 101 = .ok (.aload_n 0, 1) := by decide +kernel
theorem dX2_merge_102 : decode cX2_merge 102 = .ok (.iload_n 3, 1) := by decide +kernel
theorem dX2_merge_103 : decode cX2_merge 103 = .ok (.invokevirtual 146, 3) := by decide +kernel
theorem dX2_merge_106 : decode cX2_merge 106 = .ok (.lor, 1) := by decide +kernel
theorem dX2_merge_107 : decode cX2_merge 107 = .ok (.aload_n 0, 1) := by decide +kernel
theorem dX2_merge_108 : decode cX2_merge 108 = .ok (.getfield 44, 3) := by decide +kernel
theorem dX2_merge_111 : decode cX2_merge 111 = .ok (.invokevirtual 150, 3) := by decide +kernel
theorem dX2_merge_114 : decode cX2_merge 114 = .ok (.ireturn, 1) := by decide +kernel
theorem dX2_conflict_0 : decode cX2_conflict 0 = .ok (.aload_n 0, 1) := by decide +kernel
theorem dX2_conflict_1 : decode cX2_conflict 1 = .ok (.iload_n 1, 1) := by decide +kernel
theorem dX2_conflict_2 : decode cX2_conflict 2 = .ok (.invokevirtual 48, 3) := by decide +kernel
theorem dX2_conflict_5 : decode cX2_conflict 5 = .ok (.astore 4, 2) := by decide +kernel
theorem dX2_conflict_7 : decode cX2_conflict 7 = .ok (.iload_n 2, 1) := by decide +kernel
theorem dX2_conflict_8 : decode cX2_conflict 8 = .ok (.ifCond .lt 12, 3) := by decide +kernel
theorem dX2_conflict_11 : decode cX2_conflict 11 = .ok (.iload_n 2, 1) := by decide +kernel
theorem dX2_conflict_12 : decode cX2_conflict 12 = .ok (.aload 4, 2) := by decide +kernel
theorem dX2_conflict_14 : decode cX2_conflict 14 = .ok (.getfield 187, 3) := by decide +kernel
theorem dX2_conflict_17 : decode cX2_conflict 17 = .ok (.if_icmp .lt 13, 3) := by decide +kernel
theorem dX2_conflict_20 : decode cX2_conflict 20 = .ok (.new 86, 3) := by decide +kernel
theorem dX2_conflict_23 : decode cX2_conflict 23 = .ok (.dup, 1) := by decide +kernel
theorem dX2_conflict_24 : decode cX2_conflict 24 = .ok (.ldc 193, 2) := by decide +kernel
theorem dX2_conflict_26 : decode cX2_conflict 26 = .ok (.invokespecial 90, 3) := by decide +kernel
theorem dX2_conflict_29 : decode cX2_conflict 29 = .ok (.athrow, 1) := by decide +kernel
theorem dX2_conflict_30 : decode cX2_conflict 30 = .ok (.iload_n 3, 1) := by decide +kernel
theorem dX2_conflict_31 : decode cX2_conflict 31 = .ok (.lookupswitch 41 #[(0, 25), (1, 33)], 25) := by decide +kernel
theorem dX2_conflict_56 : decode cX2_conflict 56 = .ok (.aload 4, 2) := by decide +kernel
theorem dX2_conflict_58 : decode cX2_conflict 58 = .ok (.getfield 195, 3) := by decide +kernel
theorem dX2_conflict_61 : decode cX2_conflict 61 = .ok (.iload_n 2, 1) := by decide +kernel
theorem dX2_conflict_62 : decode cX2_conflict 62 = .ok (.iaload, 1) := by decide +kernel
theorem dX2_conflict_63 : decode cX2_conflict 63 = .ok (.ireturn, 1) := by decide +kernel
theorem dX2_conflict_64 : decode cX2_conflict 64 = .ok (.aload 4, 2) := by decide +kernel
theorem dX2_conflict_66 : decode cX2_conflict 66 = .ok (.getfield 198, 3) := by decide +kernel
theorem dX2_conflict_69 : decode cX2_conflict 69 = .ok (.iload_n 2, 1) := by decide +kernel
theorem dX2_conflict_70 : decode cX2_conflict 70 = .ok (.iaload, 1) := by decide +kernel
theorem dX2_conflict_71 : decode cX2_conflict 71 = .ok (.ireturn, 1) := by decide +kernel
theorem dX2_conflict_72 : decode cX2_conflict 72 = .ok (.new 86, 3) := by decide +kernel
theorem dX2_conflict_75 : decode cX2_conflict 75 = .ok (.dup, 1) := by decide +kernel
theorem dX2_conflict_76 : decode cX2_conflict 76 = .ok (.ldc 201, 2) := by decide +kernel
theorem dX2_conflict_78 : decode cX2_conflict 78 = .ok (.invokespecial 90, 3) := by decide +kernel
theorem dX2_conflict_81 : decode cX2_conflict 81 = .ok (.athrow, 1) := by decide +kernel
theorem dX2_about_0 : decode cX2_about 0 = .ok (.aload_n 0, 1) := by decide +kernel
theorem dX2_about_1 : decode cX2_about 1 = .ok (.iload_n 1, 1) := by decide +kernel
theorem dX2_about_2 : decode cX2_about 2 = .ok (.invokevirtual 203, 3) := by decide +kernel
theorem dX2_about_5 : decode cX2_about 5 = .ok (.aload_n 0, 1) := by decide +kernel
theorem dX2_about_6 : decode cX2_about 6 = .ok (.getfield 21, 3) := by decide +kernel
theorem dX2_about_9 : decode cX2_about 9 = .ok (.iload_n 1, 1) := by decide +kernel
theorem dX2_about_10 : decode cX2_about 10 = .ok (.aaload, 1) := by decide +kernel
theorem dX2_about_11 : decode cX2_about 11 = .ok (.astore 4, 2) := by decide +kernel
theorem dX2_about_13 : decode cX2_about 13 = .ok (.aload 4, 2) := by decide +kernel
theorem dX2_about_15 : decode cX2_about 15 = .ok (.iload_n 2, 1) := by decide +kernel
theorem dX2_about_16 : decode cX2_about 16 = .ok (.invokestatic 70, 3) := by decide +kernel
theorem dX2_about_19 : decode cX2_about 19 = .ok (.iload_n 3, 1) := by decide +kernel
theorem dX2_about_20 : decode cX2_about 20 = .ok (.tableswitch 91 0 5 #[40, 47, 54, 62, 70, 77], 40) := by decide +kernel
theorem dX2_about_60 : decode cX2_about 60 = .ok (.aload 4, 2) := by decide +kernel
theorem dX2_about_62 : decode cX2_about 62 = .ok (.iload_n 2, 1) := by decide +kernel
theorem dX2_about_63 : decode cX2_about 63 = .ok (.invokevirtual 206, 3) := by decide +kernel
theorem dX2_about_66 : decode cX2_about 66 = .ok (.ireturn, 1) := by decide +kernel
theorem dX2_about_67 : decode cX2_about 67 = .ok (.aload 4, 2) := by decide +kernel
theorem dX2_about_69 : decode cX2_about 69 = .ok (.iload_n 2, 1) := by decide +kernel
theorem dX2_about_70 : decode cX2_about 70 = .ok (.invokevirtual 209, 3) := by decide +kernel
theorem dX2_about_73 : decode cX2_about 73 = .ok (.ireturn, 1) := by decide +kernel
theorem dX2_about_74 : decode cX2_about 74 = .ok (.aload 4, 2) := by decide +kernel
theorem dX2_about_76 : decode cX2_about 76 = .ok (.iload_n 2, 1) := by decide +kernel
theorem dX2_about_77 : decode cX2_about 77 = .ok (.iconst 1, 1) := by decide +kernel
theorem dX2_about_78 : decode cX2_about 78 = .ok (.invokevirtual 212, 3) := by decide +kernel
theorem dX2_about_81 : decode cX2_about 81 = .ok (.ireturn, 1) := by decide +kernel
theorem dX2_about_82 : decode cX2_about 82 = .ok (.aload 4, 2) := by decide +kernel
theorem dX2_about_84 : decode cX2_about 84 = .ok (.iload_n 2, 1) := by decide +kernel
theorem dX2_about_85 : decode cX2_about 85 = .ok (.iconst 2, 1) := by decide +kernel
theorem dX2_about_86 : decode cX2_about 86 = .ok (.invokevirtual 212, 3) := by decide +kernel
theorem dX2_about_89 : decode cX2_about 89 = .ok (.ireturn, 1) := by decide +kernel
theorem dX2_about_90 : decode cX2_about 90 = .ok (.aload_n 0, 1) := by decide +kernel
theorem dX2_about_91 : decode cX2_about 91 = .ok (.getfield 33, 3) := by decide +kernel
theorem dX2_about_94 : decode cX2_about 94 = .ok (.iload_n 2, 1) := by decide +kernel
theorem dX2_about_95 : decode cX2_about 95 = .ok (.iaload, 1) := by decide +kernel
theorem dX2_about_96 : decode cX2_about 96 = .ok (.ireturn, 1) := by decide +kernel
theorem dX2_about_97 : decode cX2_about 97 = .ok (.aload_n 0, 1) := by decide +kernel
theorem dX2_about_98 : decode cX2_about 98 = .ok (.iload_n 2, 1) := by decide +kernel
theorem dX2_about_99 : decode cX2_about 99 = .ok (.invokevirtual 128, 3) := by decide +kernel
theorem dX2_about_102 : decode cX2_about 102 = .ok (.ifCond .eq 7, 3) := by decide +kernel
theorem dX2_about_105 : decode cX2_about 105 = .ok (.iconst 1, 1) := by decide +kernel
theorem dX2_about_106 : decode cX2_about 106 = .ok (.goto 4, 3) := by decide +kernel
theorem dX2_about_109 : decode cX2_about 109 = .ok (.iconst 0, 1) := by decide +kernel
theorem dX2_about_110 : decode cX2_about 110 = .ok (.ireturn, 1) := by decide +kernel
theorem dX2_about_111 : decode cX2_about 111 = .ok (.new 86, 3) := by decide +kernel
theorem dX2_about_114 : decode cX2_about 114 = .ok (.dup, 1) := by decide +kernel
theorem dX2_about_115 : decode cX2_about 115 = .ok (.ldc 215, 2) := by decide +kernel
theorem dX2_about_117 : decode cX2_about 117 = .ok (.invokespecial 90, 3) := by decide +kernel
theorem dX2_about_120 : decode cX2_about 120 = .ok (.athrow, 1) := by decide +kernel
theorem dX2_marks_0 : decode cX2_marks 0 = .ok (.aload_n 0, 1) := by decide +kernel
theorem dX2_marks_1 : decode cX2_marks 1 = .ok (.iload_n 1, 1) := by decide +kernel
theorem dX2_marks_2 : decode cX2_marks 2 = .ok (.invokevirtual 203, 3) := by decide +kernel
theorem dX2_marks_5 : decode cX2_marks 5 = .ok (.aload_n 0, 1) := by decide +kernel
theorem dX2_marks_6 : decode cX2_marks 6 = .ok (.getfield 21, 3) := by decide +kernel
theorem dX2_marks_9 : decode cX2_marks 9 = .ok (.iload_n 1, 1) := by decide +kernel
theorem dX2_marks_10 : decode cX2_marks 10 = .ok (.aaload, 1) := by decide +kernel
theorem dX2_marks_11 : decode cX2_marks 11 = .ok (.iload_n 2, 1) := by decide +kernel
theorem dX2_marks_12 : decode cX2_marks 12 = .ok (.invokestatic 70, 3) := by decide +kernel
theorem dX2_marks_15 : decode cX2_marks 15 = .ok (.iload_n 2, 1) := by decide +kernel
theorem dX2_marks_16 : decode cX2_marks 16 = .ok (.invokestatic 101, 3) := by decide +kernel
theorem dX2_marks_19 : decode cX2_marks 19 = .ok (.iload_n 3, 1) := by decide +kernel
theorem dX2_marks_20 : decode cX2_marks 20 = .ok (.invokestatic 160, 3) := by decide +kernel
theorem dX2_marks_23 : decode cX2_marks 23 = .ok (.aload_n 0, 1) := by decide +kernel
theorem dX2_marks_24 : decode cX2_marks 24 = .ok (.getfield 21, 3) := by decide +kernel
theorem dX2_marks_27 : decode cX2_marks 27 = .ok (.iload_n 1, 1) := by decide +kernel
theorem dX2_marks_28 : decode cX2_marks 28 = .ok (.aaload, 1) := by decide +kernel
theorem dX2_marks_29 : decode cX2_marks 29 = .ok (.iload_n 2, 1) := by decide +kernel
theorem dX2_marks_30 : decode cX2_marks 30 = .ok (.iload_n 3, 1) := by decide +kernel
theorem dX2_marks_31 : decode cX2_marks 31 = .ok (.invokevirtual 217, 3) := by decide +kernel
theorem dX2_marks_34 : decode cX2_marks 34 = .ok (.lreturn, 1) := by decide +kernel
theorem dX2_nodes_0 : decode cX2_nodes 0 = .ok (.aload_n 0, 1) := by decide +kernel
theorem dX2_nodes_1 : decode cX2_nodes 1 = .ok (.iload_n 1, 1) := by decide +kernel
theorem dX2_nodes_2 : decode cX2_nodes 2 = .ok (.invokevirtual 48, 3) := by decide +kernel
theorem dX2_nodes_5 : decode cX2_nodes 5 = .ok (.astore_n 3, 1) := by decide +kernel
theorem dX2_nodes_6 : decode cX2_nodes 6 = .ok (.iload_n 2, 1) := by decide +kernel
theorem dX2_nodes_7 : decode cX2_nodes 7 = .ok (.iconst (-1), 1) := by decide +kernel
theorem dX2_nodes_8 : decode cX2_nodes 8 = .ok (.if_icmp .ne 24, 3) := by decide +kernel
theorem dX2_nodes_11 : decode cX2_nodes 11 = .ok (.aload_n 3, 1) := by decide +kernel
theorem dX2_nodes_12 : decode cX2_nodes 12 = .ok (.getfield 63, 3) := by decide +kernel
theorem dX2_nodes_15 : decode cX2_nodes 15 = .ok (.iconst (-1), 1) := by decide +kernel
theorem dX2_nodes_16 : decode cX2_nodes 16 = .ok (.if_icmp .ne 7, 3) := by decide +kernel
theorem dX2_nodes_19 : decode cX2_nodes 19 = .ok (.lconst 0, 1) := by decide +kernel
theorem dX2_nodes_20 : decode cX2_nodes 20 = .ok (.goto 11, 3) := by decide +kernel
theorem dX2_nodes_23 : decode cX2_nodes 23 = .ok (.aload_n 3, 1) := by decide +kernel
theorem dX2_nodes_24 : decode cX2_nodes 24 = .ok (.getfield 56, 3) := by decide +kernel
theorem dX2_nodes_27 : decode cX2_nodes 27 = .ok (.getfield 221, 3) := by decide +kernel
theorem dX2_nodes_30 : decode cX2_nodes 30 = .ok (.i2l, 1) := by decide +kernel
theorem dX2_nodes_31 : decode cX2_nodes 31 = .ok (.lreturn, 1) := by decide +kernel
theorem dX2_nodes_32 : decode cX2_nodes 32 = .ok (.aload_n 0, 1) := by decide +kernel
theorem dX2_nodes_33 : decode cX2_nodes 33 = .ok (.aload_n 3, 1) := by decide +kernel
theorem dX2_nodes_34 : decode cX2_nodes 34 = .ok (.iload_n 2, 1) := by decide +kernel
theorem dX2_nodes_35 : decode cX2_nodes 35 = .ok (.invokevirtual 52, 3) := by decide +kernel
theorem dX2_nodes_38 : decode cX2_nodes 38 = .ok (.aload_n 0, 1) := by decide +kernel
theorem dX2_nodes_39 : decode cX2_nodes 39 = .ok (.getfield 21, 3) := by decide +kernel
theorem dX2_nodes_42 : decode cX2_nodes 42 = .ok (.iload_n 2, 1) := by decide +kernel
theorem dX2_nodes_43 : decode cX2_nodes 43 = .ok (.aaload, 1) := by decide +kernel
theorem dX2_nodes_44 : decode cX2_nodes 44 = .ok (.getfield 221, 3) := by decide +kernel
theorem dX2_nodes_47 : decode cX2_nodes 47 = .ok (.i2l, 1) := by decide +kernel
theorem dX2_nodes_48 : decode cX2_nodes 48 = .ok (.lreturn, 1) := by decide +kernel
theorem dX2_ancestors_0 : decode cX2_ancestors 0 = .ok (.aload_n 0, 1) := by decide +kernel
theorem dX2_ancestors_1 : decode cX2_ancestors 1 = .ok (.iload_n 1, 1) := by decide +kernel
theorem dX2_ancestors_2 : decode cX2_ancestors 2 = .ok (.invokevirtual 203, 3) := by decide +kernel
theorem dX2_ancestors_5 : decode cX2_ancestors 5 = .ok (.aload_n 0, 1) := by decide +kernel
theorem dX2_ancestors_6 : decode cX2_ancestors 6 = .ok (.getfield 25, 3) := by decide +kernel
theorem dX2_ancestors_9 : decode cX2_ancestors 9 = .ok (.iload_n 1, 1) := by decide +kernel
theorem dX2_ancestors_10 : decode cX2_ancestors 10 = .ok (.laload, 1) := by decide +kernel
theorem dX2_ancestors_11 : decode cX2_ancestors 11 = .ok (.lreturn, 1) := by decide +kernel
theorem dX2_certify_0 : decode cX2_certify 0 = .ok (.aload_n 0, 1) := by decide +kernel
theorem dX2_certify_1 : decode cX2_certify 1 = .ok (.iload_n 1, 1) := by decide +kernel
theorem dX2_certify_2 : decode cX2_certify 2 = .ok (.invokevirtual 48, 3) := by decide +kernel
theorem dX2_certify_5 : decode cX2_certify 5 = .ok (.astore 5, 2) := by decide +kernel
theorem dX2_certify_7 : decode cX2_certify 7 = .ok (.aload_n 0, 1) := by decide +kernel
theorem dX2_certify_8 : decode cX2_certify 8 = .ok (.aload 5, 2) := by decide +kernel
theorem dX2_certify_10 : decode cX2_certify 10 = .ok (.iload_n 2, 1) := by decide +kernel
theorem dX2_certify_11 : decode cX2_certify 11 = .ok (.invokevirtual 52, 3) := by decide +kernel
theorem dX2_certify_14 : decode cX2_certify 14 = .ok (.iload_n 3, 1) := by decide +kernel
theorem dX2_certify_15 : decode cX2_certify 15 = .ok (.invokestatic 224, 3) := by decide +kernel
theorem dX2_certify_18 : decode cX2_certify 18 = .ok (.iload 4, 2) := by decide +kernel
theorem dX2_certify_20 : decode cX2_certify 20 = .ok (.invokestatic 227, 3) := by decide +kernel
theorem dX2_certify_23 : decode cX2_certify 23 = .ok (.iload_n 3, 1) := by decide +kernel
theorem dX2_certify_24 : decode cX2_certify 24 = .ok (.iload 4, 2) := by decide +kernel
theorem dX2_certify_26 : decode cX2_certify 26 = .ok (.invokestatic 230, 3) := by decide +kernel
theorem dX2_certify_29 : decode cX2_certify 29 = .ok (.istore 6, 2) := by decide +kernel
theorem dX2_certify_31 : decode cX2_certify 31 = .ok (.aload 5, 2) := by decide +kernel
theorem dX2_certify_33 : decode cX2_certify 33 = .ok (.getfield 233, 3) := by decide +kernel
theorem dX2_certify_36 : decode cX2_certify 36 = .ok (.iload 6, 2) := by decide +kernel
theorem dX2_certify_38 : decode cX2_certify 38 = .ok (.laload, 1) := by decide +kernel
theorem dX2_certify_39 : decode cX2_certify 39 = .ok (.iload_n 2, 1) := by decide +kernel
theorem dX2_certify_40 : decode cX2_certify 40 = .ok (.invokestatic 174, 3) := by decide +kernel
theorem dX2_certify_43 : decode cX2_certify 43 = .ok (.ifCond .ne 7, 3) := by decide +kernel
theorem dX2_certify_46 : decode cX2_certify 46 = .ok (.iconst 1, 1) := by decide +kernel
theorem dX2_certify_47 : decode cX2_certify 47 = .ok (.goto 4, 3) := by decide +kernel
theorem dX2_certify_50 : decode cX2_certify 50 = .ok (.iconst 0, 1) := by decide +kernel
theorem dX2_certify_51 : decode cX2_certify 51 = .ok (.istore 7, 2) := by decide +kernel
theorem dX2_certify_53 : decode cX2_certify 53 = .ok (.aload 5, 2) := by decide +kernel
theorem dX2_certify_55 : decode cX2_certify 55 = .ok (.getfield 233, 3) := by decide +kernel
theorem dX2_certify_58 : decode cX2_certify 58 = .ok (.iload 6, 2) := by decide +kernel
theorem dX2_certify_60 : decode cX2_certify 60 = .ok (.dup2, 1) := by decide +kernel
theorem dX2_certify_61 : decode cX2_certify 61 = .ok (.laload, 1) := by decide +kernel
theorem dX2_certify_62 : decode cX2_certify 62 = .ok (.lconst 1, 1) := by decide +kernel
theorem dX2_certify_63 : decode cX2_certify 63 = .ok (.iload_n 2, 1) := by decide +kernel
theorem dX2_certify_64 : decode cX2_certify 64 = .ok (.lshl, 1) := by decide +kernel
theorem dX2_certify_65 : decode cX2_certify 65 = .ok (.lor, 1) := by decide +kernel
theorem dX2_certify_66 : decode cX2_certify 66 = .ok (.lastore, 1) := by decide +kernel
theorem dX2_certify_67 : decode cX2_certify 67 = .ok (.iload 7, 2) := by decide +kernel
theorem dX2_certify_69 : decode cX2_certify 69 = .ok (.ireturn, 1) := by decide +kernel
theorem dX2_trust_0 : decode cX2_trust 0 = .ok (.aload_n 0, 1) := by decide +kernel
theorem dX2_trust_1 : decode cX2_trust 1 = .ok (.iload_n 1, 1) := by decide +kernel
theorem dX2_trust_2 : decode cX2_trust 2 = .ok (.invokevirtual 48, 3) := by decide +kernel
theorem dX2_trust_5 : decode cX2_trust 5 = .ok (.astore 4, 2) := by decide +kernel
theorem dX2_trust_7 : decode cX2_trust 7 = .ok (.iload_n 2, 1) := by decide +kernel
theorem dX2_trust_8 : decode cX2_trust 8 = .ok (.invokestatic 224, 3) := by decide +kernel
theorem dX2_trust_11 : decode cX2_trust 11 = .ok (.aload 4, 2) := by decide +kernel
theorem dX2_trust_13 : decode cX2_trust 13 = .ok (.iload_n 2, 1) := by decide +kernel
theorem dX2_trust_14 : decode cX2_trust 14 = .ok (.invokevirtual 236, 3) := by decide +kernel
theorem dX2_trust_17 : decode cX2_trust 17 = .ok (.istore 5, 2) := by decide +kernel
theorem dX2_trust_19 : decode cX2_trust 19 = .ok (.iload_n 3, 1) := by decide +kernel
theorem dX2_trust_20 : decode cX2_trust 20 = .ok (.ifCond .eq 19, 3) := by decide +kernel
theorem dX2_trust_23 : decode cX2_trust 23 = .ok (.aload 4, 2) := by decide +kernel
theorem dX2_trust_25 : decode cX2_trust 25 = .ok (.dup, 1) := by decide +kernel
theorem dX2_trust_26 : decode cX2_trust 26 = .ok (.getfield 239, 3) := by decide +kernel
theorem dX2_trust_29 : decode cX2_trust 29 = .ok (.iconst 1, 1) := by decide +kernel
theorem dX2_trust_30 : decode cX2_trust 30 = .ok (.iload_n 2, 1) := by decide +kernel
theorem dX2_trust_31 : decode cX2_trust 31 = .ok (.ishl, 1) := by decide +kernel
theorem dX2_trust_32 : decode cX2_trust 32 = .ok (.ior, 1) := by decide +kernel
theorem dX2_trust_33 : decode cX2_trust 33 = .ok (.putfield 239, 3) := by decide +kernel
theorem dX2_trust_36 : decode cX2_trust 36 = .ok (.goto 18, 3) := by decide +kernel
theorem dX2_trust_39 : decode cX2_trust 39 = .ok (.aload 4, 2) := by decide +kernel
theorem dX2_trust_41 : decode cX2_trust 41 = .ok (.dup, 1) := by decide +kernel
theorem dX2_trust_42 : decode cX2_trust 42 = .ok (.getfield 239, 3) := by decide +kernel
theorem dX2_trust_45 : decode cX2_trust 45 = .ok (.iconst 1, 1) := by decide +kernel
theorem dX2_trust_46 : decode cX2_trust 46 = .ok (.iload_n 2, 1) := by decide +kernel
theorem dX2_trust_47 : decode cX2_trust 47 = .ok (.ishl, 1) := by decide +kernel
theorem dX2_trust_48 : decode cX2_trust 48 = .ok (.iconst (-1), 1) := by decide +kernel
theorem dX2_trust_49 : decode cX2_trust 49 = .ok (.ixor, 1) := by decide +kernel
theorem dX2_trust_50 : decode cX2_trust 50 = .ok (.iand, 1) := by decide +kernel
theorem dX2_trust_51 : decode cX2_trust 51 = .ok (.putfield 239, 3) := by decide +kernel
theorem dX2_trust_54 : decode cX2_trust 54 = .ok (.iload 5, 2) := by decide +kernel
theorem dX2_trust_56 : decode cX2_trust 56 = .ok (.ireturn, 1) := by decide +kernel
theorem dX2_heads_0 : decode cX2_heads 0 = .ok (.aload_n 0, 1) := by decide +kernel
theorem dX2_heads_1 : decode cX2_heads 1 = .ok (.iload_n 1, 1) := by decide +kernel
theorem dX2_heads_2 : decode cX2_heads 2 = .ok (.invokevirtual 48, 3) := by decide +kernel
theorem dX2_heads_5 : decode cX2_heads 5 = .ok (.astore_n 3, 1) := by decide +kernel
theorem dX2_heads_6 : decode cX2_heads 6 = .ok (.iload_n 2, 1) := by decide +kernel
theorem dX2_heads_7 : decode cX2_heads 7 = .ok (.invokestatic 227, 3) := by decide +kernel
theorem dX2_heads_10 : decode cX2_heads 10 = .ok (.aload_n 0, 1) := by decide +kernel
theorem dX2_heads_11 : decode cX2_heads 11 = .ok (.aload_n 3, 1) := by decide +kernel
theorem dX2_heads_12 : decode cX2_heads 12 = .ok (.iload_n 2, 1) := by decide +kernel
theorem dX2_heads_13 : decode cX2_heads 13 = .ok (.invokevirtual 242, 3) := by decide +kernel
theorem dX2_heads_16 : decode cX2_heads 16 = .ok (.invokevirtual 245, 3) := by decide +kernel
theorem dX2_heads_19 : decode cX2_heads 19 = .ok (.lreturn, 1) := by decide +kernel
theorem dX2_exchange_0 : decode cX2_exchange 0 = .ok (.iload_n 1, 1) := by decide +kernel
theorem dX2_exchange_1 : decode cX2_exchange 1 = .ok (.invokestatic 227, 3) := by decide +kernel
theorem dX2_exchange_4 : decode cX2_exchange 4 = .ok (.aload_n 0, 1) := by decide +kernel
theorem dX2_exchange_5 : decode cX2_exchange 5 = .ok (.aload_n 0, 1) := by decide +kernel
theorem dX2_exchange_6 : decode cX2_exchange 6 = .ok (.getfield 10, 3) := by decide +kernel
theorem dX2_exchange_9 : decode cX2_exchange 9 = .ok (.iload_n 1, 1) := by decide +kernel
theorem dX2_exchange_10 : decode cX2_exchange 10 = .ok (.invokevirtual 242, 3) := by decide +kernel
theorem dX2_exchange_13 : decode cX2_exchange 13 = .ok (.invokevirtual 249, 3) := by decide +kernel
theorem dX2_exchange_16 : decode cX2_exchange 16 = .ok (.lstore_n 2, 1) := by decide +kernel
theorem dX2_exchange_17 : decode cX2_exchange 17 = .ok (.aload_n 0, 1) := by decide +kernel
theorem dX2_exchange_18 : decode cX2_exchange 18 = .ok (.aload_n 0, 1) := by decide +kernel
theorem dX2_exchange_19 : decode cX2_exchange 19 = .ok (.getfield 16, 3) := by decide +kernel
theorem dX2_exchange_22 : decode cX2_exchange 22 = .ok (.iload_n 1, 1) := by decide +kernel
theorem dX2_exchange_23 : decode cX2_exchange 23 = .ok (.invokevirtual 242, 3) := by decide +kernel
theorem dX2_exchange_26 : decode cX2_exchange 26 = .ok (.invokevirtual 249, 3) := by decide +kernel
theorem dX2_exchange_29 : decode cX2_exchange 29 = .ok (.lstore 4, 2) := by decide +kernel
theorem dX2_exchange_31 : decode cX2_exchange 31 = .ok (.aload_n 0, 1) := by decide +kernel
theorem dX2_exchange_32 : decode cX2_exchange 32 = .ok (.getfield 16, 3) := by decide +kernel
theorem dX2_exchange_35 : decode cX2_exchange 35 = .ok (.aload_n 0, 1) := by decide +kernel
theorem dX2_exchange_36 : decode cX2_exchange 36 = .ok (.getfield 10, 3) := by decide +kernel
theorem dX2_exchange_39 : decode cX2_exchange 39 = .ok (.lload_n 2, 1) := by decide +kernel
theorem dX2_exchange_40 : decode cX2_exchange 40 = .ok (.invokevirtual 252, 3) := by decide +kernel
theorem dX2_exchange_43 : decode cX2_exchange 43 = .ok (.aload_n 0, 1) := by decide +kernel
theorem dX2_exchange_44 : decode cX2_exchange 44 = .ok (.getfield 10, 3) := by decide +kernel
theorem dX2_exchange_47 : decode cX2_exchange 47 = .ok (.aload_n 0, 1) := by decide +kernel
theorem dX2_exchange_48 : decode cX2_exchange 48 = .ok (.getfield 16, 3) := by decide +kernel
theorem dX2_exchange_51 : decode cX2_exchange 51 = .ok (.lload 4, 2) := by decide +kernel
theorem dX2_exchange_53 : decode cX2_exchange 53 = .ok (.invokevirtual 252, 3) := by decide +kernel
theorem dX2_exchange_56 : decode cX2_exchange 56 = .ok (.iadd, 1) := by decide +kernel
theorem dX2_exchange_57 : decode cX2_exchange 57 = .ok (.ireturn, 1) := by decide +kernel
theorem dX2_has_0 : decode cX2_has 0 = .ok (.aload_n 0, 1) := by decide +kernel
theorem dX2_has_1 : decode cX2_has 1 = .ok (.iload_n 1, 1) := by decide +kernel
theorem dX2_has_2 : decode cX2_has 2 = .ok (.invokevirtual 48, 3) := by decide +kernel
theorem dX2_has_5 : decode cX2_has 5 = .ok (.getfield 256, 3) := by decide +kernel
theorem dX2_has_8 : decode cX2_has 8 = .ok (.lreturn, 1) := by decide +kernel
theorem dX2_peerOf_0 : decode cX2_peerOf 0 = .ok (.iload_n 1, 1) := by decide +kernel
theorem dX2_peerOf_1 : decode cX2_peerOf 1 = .ok (.ifCond .eq 19, 3) := by decide +kernel
theorem dX2_peerOf_4 : decode cX2_peerOf 4 = .ok (.iload_n 1, 1) := by decide +kernel
theorem dX2_peerOf_5 : decode cX2_peerOf 5 = .ok (.iconst 1, 1) := by decide +kernel
theorem dX2_peerOf_6 : decode cX2_peerOf 6 = .ok (.if_icmp .eq 14, 3) := by decide +kernel
theorem dX2_peerOf_9 : decode cX2_peerOf 9 = .ok (.new 260, 3) := by decide +kernel
theorem dX2_peerOf_12 : decode cX2_peerOf 12 = .ok (.dup, 1) := by decide +kernel
theorem dX2_peerOf_13 : decode cX2_peerOf 13 = .ok (.ldc_w 262, 3) := by decide +kernel
theorem dX2_peerOf_16 : decode cX2_peerOf 16 = .ok (.invokespecial 264, 3) := by decide +kernel
theorem dX2_peerOf_19 : decode cX2_peerOf 19 = .ok (.athrow, 1) := by decide +kernel
theorem dX2_peerOf_20 : decode cX2_peerOf 20 = .ok (.iload_n 1, 1) := by decide +kernel
theorem dX2_peerOf_21 : decode cX2_peerOf 21 = .ok (.ifCond .ne 10, 3) := by decide +kernel
theorem dX2_peerOf_24 : decode cX2_peerOf 24 = .ok (.aload_n 0, 1) := by decide +kernel
theorem dX2_peerOf_25 : decode cX2_peerOf 25 = .ok (.getfield 10, 3) := by decide +kernel
theorem dX2_peerOf_28 : decode cX2_peerOf 28 = .ok (.goto 7, 3) := by decide +kernel
theorem dX2_peerOf_31 : decode cX2_peerOf 31 = .ok (.aload_n 0, 1) := by decide +kernel
theorem dX2_peerOf_32 : decode cX2_peerOf 32 = .ok (.getfield 16, 3) := by decide +kernel
theorem dX2_peerOf_35 : decode cX2_peerOf 35 = .ok (.areturn, 1) := by decide +kernel
theorem dX2_workspaceOf_0 : decode cX2_workspaceOf 0 = .ok (.aload_n 0, 1) := by decide +kernel
theorem dX2_workspaceOf_1 : decode cX2_workspaceOf 1 = .ok (.iload_n 1, 1) := by decide +kernel
theorem dX2_workspaceOf_2 : decode cX2_workspaceOf 2 = .ok (.invokevirtual 48, 3) := by decide +kernel
theorem dX2_workspaceOf_5 : decode cX2_workspaceOf 5 = .ok (.astore_n 2, 1) := by decide +kernel
theorem dX2_workspaceOf_6 : decode cX2_workspaceOf 6 = .ok (.aload_n 2, 1) := by decide +kernel
theorem dX2_workspaceOf_7 : decode cX2_workspaceOf 7 = .ok (.invokestatic 133, 3) := by decide +kernel
theorem dX2_workspaceOf_10 : decode cX2_workspaceOf 10 = .ok (.aload_n 2, 1) := by decide +kernel
theorem dX2_workspaceOf_11 : decode cX2_workspaceOf 11 = .ok (.getfield 56, 3) := by decide +kernel
theorem dX2_workspaceOf_14 : decode cX2_workspaceOf 14 = .ok (.areturn, 1) := by decide +kernel
theorem dX2_requireWorkspace_0 : decode cX2_requireWorkspace 0 = .ok (.aload_n 0, 1) := by decide +kernel
theorem dX2_requireWorkspace_1 : decode cX2_requireWorkspace 1 = .ok (.getfield 63, 3) := by decide +kernel
theorem dX2_requireWorkspace_4 : decode cX2_requireWorkspace 4 = .ok (.iconst (-1), 1) := by decide +kernel
theorem dX2_requireWorkspace_5 : decode cX2_requireWorkspace 5 = .ok (.if_icmp .ne 14, 3) := by decide +kernel
theorem dX2_requireWorkspace_8 : decode cX2_requireWorkspace 8 = .ok (.new 93, 3) := by decide +kernel
theorem dX2_requireWorkspace_11 : decode cX2_requireWorkspace 11 = .ok (.dup, 1) := by decide +kernel
theorem dX2_requireWorkspace_12 : decode cX2_requireWorkspace 12 = .ok (.ldc_w 265, 3) := by decide +kernel
theorem dX2_requireWorkspace_15 : decode cX2_requireWorkspace 15 = .ok (.invokespecial 97, 3) := by decide +kernel
theorem dX2_requireWorkspace_18 : decode cX2_requireWorkspace 18 = .ok (.athrow, 1) := by decide +kernel
theorem dX2_requireWorkspace_19 : decode cX2_requireWorkspace 19 = .ok (.return_, 1) := by decide +kernel
theorem dX2_requireRevision_0 : decode cX2_requireRevision 0 = .ok (.iload_n 1, 1) := by decide +kernel
theorem dX2_requireRevision_1 : decode cX2_requireRevision 1 = .ok (.ifCond .lt 11, 3) := by decide +kernel
theorem dX2_requireRevision_4 : decode cX2_requireRevision 4 = .ok (.iload_n 1, 1) := by decide +kernel
theorem dX2_requireRevision_5 : decode cX2_requireRevision 5 = .ok (.aload_n 0, 1) := by decide +kernel
theorem dX2_requireRevision_6 : decode cX2_requireRevision 6 = .ok (.getfield 29, 3) := by decide +kernel
theorem dX2_requireRevision_9 : decode cX2_requireRevision 9 = .ok (.if_icmp .lt 14, 3) := by decide +kernel
theorem dX2_requireRevision_12 : decode cX2_requireRevision 12 = .ok (.new 260, 3) := by decide +kernel
theorem dX2_requireRevision_15 : decode cX2_requireRevision 15 = .ok (.dup, 1) := by decide +kernel
theorem dX2_requireRevision_16 : decode cX2_requireRevision 16 = .ok (.ldc_w 267, 3) := by decide +kernel
theorem dX2_requireRevision_19 : decode cX2_requireRevision 19 = .ok (.invokespecial 264, 3) := by decide +kernel
theorem dX2_requireRevision_22 : decode cX2_requireRevision 22 = .ok (.athrow, 1) := by decide +kernel
theorem dX2_requireRevision_23 : decode cX2_requireRevision 23 = .ok (.return_, 1) := by decide +kernel
theorem dX2_requireHeld_0 : decode cX2_requireHeld 0 = .ok (.aload_n 0, 1) := by decide +kernel
theorem dX2_requireHeld_1 : decode cX2_requireHeld 1 = .ok (.iload_n 2, 1) := by decide +kernel
theorem dX2_requireHeld_2 : decode cX2_requireHeld 2 = .ok (.invokevirtual 203, 3) := by decide +kernel
theorem dX2_requireHeld_5 : decode cX2_requireHeld 5 = .ok (.aload_n 1, 1) := by decide +kernel
theorem dX2_requireHeld_6 : decode cX2_requireHeld 6 = .ok (.getfield 256, 3) := by decide +kernel
theorem dX2_requireHeld_9 : decode cX2_requireHeld 9 = .ok (.iload_n 2, 1) := by decide +kernel
theorem dX2_requireHeld_10 : decode cX2_requireHeld 10 = .ok (.invokestatic 174, 3) := by decide +kernel
theorem dX2_requireHeld_13 : decode cX2_requireHeld 13 = .ok (.ifCond .ne 14, 3) := by decide +kernel
theorem dX2_requireHeld_16 : decode cX2_requireHeld 16 = .ok (.new 260, 3) := by decide +kernel
theorem dX2_requireHeld_19 : decode cX2_requireHeld 19 = .ok (.dup, 1) := by decide +kernel
theorem dX2_requireHeld_20 : decode cX2_requireHeld 20 = .ok (.ldc_w 269, 3) := by decide +kernel
theorem dX2_requireHeld_23 : decode cX2_requireHeld 23 = .ok (.invokespecial 264, 3) := by decide +kernel
theorem dX2_requireHeld_26 : decode cX2_requireHeld 26 = .ok (.athrow, 1) := by decide +kernel
theorem dX2_requireHeld_27 : decode cX2_requireHeld 27 = .ok (.return_, 1) := by decide +kernel
theorem dX2_requireRoomForRevision_0 : decode cX2_requireRoomForRevision 0 = .ok (.aload_n 0, 1) := by decide +kernel
theorem dX2_requireRoomForRevision_1 : decode cX2_requireRoomForRevision 1 = .ok (.getfield 29, 3) := by decide +kernel
theorem dX2_requireRoomForRevision_4 : decode cX2_requireRoomForRevision 4 = .ok (.bipush 40, 2) := by decide +kernel
theorem dX2_requireRoomForRevision_6 : decode cX2_requireRoomForRevision 6 = .ok (.if_icmp .lt 14, 3) := by decide +kernel
theorem dX2_requireRoomForRevision_9 : decode cX2_requireRoomForRevision 9 = .ok (.new 93, 3) := by decide +kernel
theorem dX2_requireRoomForRevision_12 : decode cX2_requireRoomForRevision 12 = .ok (.dup, 1) := by decide +kernel
theorem dX2_requireRoomForRevision_13 : decode cX2_requireRoomForRevision 13 = .ok (.ldc_w 271, 3) := by decide +kernel
theorem dX2_requireRoomForRevision_16 : decode cX2_requireRoomForRevision 16 = .ok (.invokespecial 97, 3) := by decide +kernel
theorem dX2_requireRoomForRevision_19 : decode cX2_requireRoomForRevision 19 = .ok (.athrow, 1) := by decide +kernel
theorem dX2_requireRoomForRevision_20 : decode cX2_requireRoomForRevision 20 = .ok (.return_, 1) := by decide +kernel
theorem dX2_requireAlive_0 : decode cX2_requireAlive 0 = .ok (.aload_n 0, 1) := by decide +kernel
theorem dX2_requireAlive_1 : decode cX2_requireAlive 1 = .ok (.iload_n 1, 1) := by decide +kernel
theorem dX2_requireAlive_2 : decode cX2_requireAlive 2 = .ok (.invokevirtual 273, 3) := by decide +kernel
theorem dX2_requireAlive_5 : decode cX2_requireAlive 5 = .ok (.ifCond .ne 14, 3) := by decide +kernel
theorem dX2_requireAlive_8 : decode cX2_requireAlive 8 = .ok (.new 260, 3) := by decide +kernel
theorem dX2_requireAlive_11 : decode cX2_requireAlive 11 = .ok (.dup, 1) := by decide +kernel
theorem dX2_requireAlive_12 : decode cX2_requireAlive 12 = .ok (.ldc_w 276, 3) := by decide +kernel
theorem dX2_requireAlive_15 : decode cX2_requireAlive 15 = .ok (.invokespecial 264, 3) := by decide +kernel
theorem dX2_requireAlive_18 : decode cX2_requireAlive 18 = .ok (.athrow, 1) := by decide +kernel
theorem dX2_requireAlive_19 : decode cX2_requireAlive 19 = .ok (.return_, 1) := by decide +kernel
theorem dX2_requireAdded_0 : decode cX2_requireAdded 0 = .ok (.iload_n 1, 1) := by decide +kernel
theorem dX2_requireAdded_1 : decode cX2_requireAdded 1 = .ok (.ifCond .lt 11, 3) := by decide +kernel
theorem dX2_requireAdded_4 : decode cX2_requireAdded 4 = .ok (.iload_n 1, 1) := by decide +kernel
theorem dX2_requireAdded_5 : decode cX2_requireAdded 5 = .ok (.aload_n 0, 1) := by decide +kernel
theorem dX2_requireAdded_6 : decode cX2_requireAdded 6 = .ok (.getfield 40, 3) := by decide +kernel
theorem dX2_requireAdded_9 : decode cX2_requireAdded 9 = .ok (.if_icmp .lt 14, 3) := by decide +kernel
theorem dX2_requireAdded_12 : decode cX2_requireAdded 12 = .ok (.new 260, 3) := by decide +kernel
theorem dX2_requireAdded_15 : decode cX2_requireAdded 15 = .ok (.dup, 1) := by decide +kernel
theorem dX2_requireAdded_16 : decode cX2_requireAdded 16 = .ok (.ldc_w 278, 3) := by decide +kernel
theorem dX2_requireAdded_19 : decode cX2_requireAdded 19 = .ok (.invokespecial 264, 3) := by decide +kernel
theorem dX2_requireAdded_22 : decode cX2_requireAdded 22 = .ok (.athrow, 1) := by decide +kernel
theorem dX2_requireAdded_23 : decode cX2_requireAdded 23 = .ok (.return_, 1) := by decide +kernel
theorem dX2_requireNotRoot_0 : decode cX2_requireNotRoot 0 = .ok (.iload_n 0, 1) := by decide +kernel
theorem dX2_requireNotRoot_1 : decode cX2_requireNotRoot 1 = .ok (.ifCond .ne 14, 3) := by decide +kernel
theorem dX2_requireNotRoot_4 : decode cX2_requireNotRoot 4 = .ok (.new 86, 3) := by decide +kernel
theorem dX2_requireNotRoot_7 : decode cX2_requireNotRoot 7 = .ok (.dup, 1) := by decide +kernel
theorem dX2_requireNotRoot_8 : decode cX2_requireNotRoot 8 = .ok (.ldc_w 280, 3) := by decide +kernel
theorem dX2_requireNotRoot_11 : decode cX2_requireNotRoot 11 = .ok (.invokespecial 90, 3) := by decide +kernel
theorem dX2_requireNotRoot_14 : decode cX2_requireNotRoot 14 = .ok (.athrow, 1) := by decide +kernel
theorem dX2_requireNotRoot_15 : decode cX2_requireNotRoot 15 = .ok (.return_, 1) := by decide +kernel
theorem dX2_requireScalar_0 : decode cX2_requireScalar 0 = .ok (.iload_n 0, 1) := by decide +kernel
theorem dX2_requireScalar_1 : decode cX2_requireScalar 1 = .ok (.ifCond .lt 8, 3) := by decide +kernel
theorem dX2_requireScalar_4 : decode cX2_requireScalar 4 = .ok (.iload_n 0, 1) := by decide +kernel
theorem dX2_requireScalar_5 : decode cX2_requireScalar 5 = .ok (.iconst 3, 1) := by decide +kernel
theorem dX2_requireScalar_6 : decode cX2_requireScalar 6 = .ok (.if_icmp .lt 14, 3) := by decide +kernel
theorem dX2_requireScalar_9 : decode cX2_requireScalar 9 = .ok (.new 86, 3) := by decide +kernel
theorem dX2_requireScalar_12 : decode cX2_requireScalar 12 = .ok (.dup, 1) := by decide +kernel
theorem dX2_requireScalar_13 : decode cX2_requireScalar 13 = .ok (.ldc_w 282, 3) := by decide +kernel
theorem dX2_requireScalar_16 : decode cX2_requireScalar 16 = .ok (.invokespecial 90, 3) := by decide +kernel
theorem dX2_requireScalar_19 : decode cX2_requireScalar 19 = .ok (.athrow, 1) := by decide +kernel
theorem dX2_requireScalar_20 : decode cX2_requireScalar 20 = .ok (.return_, 1) := by decide +kernel
theorem dX2_requirePlace_0 : decode cX2_requirePlace 0 = .ok (.aload_n 0, 1) := by decide +kernel
theorem dX2_requirePlace_1 : decode cX2_requirePlace 1 = .ok (.iload_n 1, 1) := by decide +kernel
theorem dX2_requirePlace_2 : decode cX2_requirePlace 2 = .ok (.invokevirtual 128, 3) := by decide +kernel
theorem dX2_requirePlace_5 : decode cX2_requirePlace 5 = .ok (.ifCond .ne 14, 3) := by decide +kernel
theorem dX2_requirePlace_8 : decode cX2_requirePlace 8 = .ok (.new 86, 3) := by decide +kernel
theorem dX2_requirePlace_11 : decode cX2_requirePlace 11 = .ok (.dup, 1) := by decide +kernel
theorem dX2_requirePlace_12 : decode cX2_requirePlace 12 = .ok (.ldc_w 284, 3) := by decide +kernel
theorem dX2_requirePlace_15 : decode cX2_requirePlace 15 = .ok (.invokespecial 90, 3) := by decide +kernel
theorem dX2_requirePlace_18 : decode cX2_requirePlace 18 = .ok (.athrow, 1) := by decide +kernel
theorem dX2_requirePlace_19 : decode cX2_requirePlace 19 = .ok (.iload_n 2, 1) := by decide +kernel
theorem dX2_requirePlace_20 : decode cX2_requirePlace 20 = .ok (.ifCond .lt 9, 3) := by decide +kernel
theorem dX2_requirePlace_23 : decode cX2_requirePlace 23 = .ok (.iload_n 2, 1) := by decide +kernel
theorem dX2_requirePlace_24 : decode cX2_requirePlace 24 = .ok (.bipush 10, 2) := by decide +kernel
theorem dX2_requirePlace_26 : decode cX2_requirePlace 26 = .ok (.if_icmp .lt 14, 3) := by decide +kernel
theorem dX2_requirePlace_29 : decode cX2_requirePlace 29 = .ok (.new 86, 3) := by decide +kernel
theorem dX2_requirePlace_32 : decode cX2_requirePlace 32 = .ok (.dup, 1) := by decide +kernel
theorem dX2_requirePlace_33 : decode cX2_requirePlace 33 = .ok (.ldc_w 286, 3) := by decide +kernel
theorem dX2_requirePlace_36 : decode cX2_requirePlace 36 = .ok (.invokespecial 90, 3) := by decide +kernel
theorem dX2_requirePlace_39 : decode cX2_requirePlace 39 = .ok (.athrow, 1) := by decide +kernel
theorem dX2_requirePlace_40 : decode cX2_requirePlace 40 = .ok (.return_, 1) := by decide +kernel
theorem dX2_requireKey_0 : decode cX2_requireKey 0 = .ok (.iload_n 0, 1) := by decide +kernel
theorem dX2_requireKey_1 : decode cX2_requireKey 1 = .ok (.ifCond .lt 8, 3) := by decide +kernel
theorem dX2_requireKey_4 : decode cX2_requireKey 4 = .ok (.iload_n 0, 1) := by decide +kernel
theorem dX2_requireKey_5 : decode cX2_requireKey 5 = .ok (.iconst 4, 1) := by decide +kernel
theorem dX2_requireKey_6 : decode cX2_requireKey 6 = .ok (.if_icmp .lt 14, 3) := by decide +kernel
theorem dX2_requireKey_9 : decode cX2_requireKey 9 = .ok (.new 260, 3) := by decide +kernel
theorem dX2_requireKey_12 : decode cX2_requireKey 12 = .ok (.dup, 1) := by decide +kernel
theorem dX2_requireKey_13 : decode cX2_requireKey 13 = .ok (.ldc_w 288, 3) := by decide +kernel
theorem dX2_requireKey_16 : decode cX2_requireKey 16 = .ok (.invokespecial 264, 3) := by decide +kernel
theorem dX2_requireKey_19 : decode cX2_requireKey 19 = .ok (.athrow, 1) := by decide +kernel
theorem dX2_requireKey_20 : decode cX2_requireKey 20 = .ok (.return_, 1) := by decide +kernel
theorem dX2_requireBranch_0 : decode cX2_requireBranch 0 = .ok (.iload_n 0, 1) := by decide +kernel
theorem dX2_requireBranch_1 : decode cX2_requireBranch 1 = .ok (.ifCond .lt 8, 3) := by decide +kernel
theorem dX2_requireBranch_4 : decode cX2_requireBranch 4 = .ok (.iload_n 0, 1) := by decide +kernel
theorem dX2_requireBranch_5 : decode cX2_requireBranch 5 = .ok (.iconst 3, 1) := by decide +kernel
theorem dX2_requireBranch_6 : decode cX2_requireBranch 6 = .ok (.if_icmp .lt 14, 3) := by decide +kernel
theorem dX2_requireBranch_9 : decode cX2_requireBranch 9 = .ok (.new 260, 3) := by decide +kernel
theorem dX2_requireBranch_12 : decode cX2_requireBranch 12 = .ok (.dup, 1) := by decide +kernel
theorem dX2_requireBranch_13 : decode cX2_requireBranch 13 = .ok (.ldc_w 290, 3) := by decide +kernel
theorem dX2_requireBranch_16 : decode cX2_requireBranch 16 = .ok (.invokespecial 264, 3) := by decide +kernel
theorem dX2_requireBranch_19 : decode cX2_requireBranch 19 = .ok (.athrow, 1) := by decide +kernel
theorem dX2_requireBranch_20 : decode cX2_requireBranch 20 = .ok (.return_, 1) := by decide +kernel
theorem dX2_isDirectory_0 : decode cX2_isDirectory 0 = .ok (.aload_n 0, 1) := by decide +kernel
theorem dX2_isDirectory_1 : decode cX2_isDirectory 1 = .ok (.getfield 37, 3) := by decide +kernel
theorem dX2_isDirectory_4 : decode cX2_isDirectory 4 = .ok (.i2l, 1) := by decide +kernel
theorem dX2_isDirectory_5 : decode cX2_isDirectory 5 = .ok (.iload_n 1, 1) := by decide +kernel
theorem dX2_isDirectory_6 : decode cX2_isDirectory 6 = .ok (.invokestatic 174, 3) := by decide +kernel
theorem dX2_isDirectory_9 : decode cX2_isDirectory 9 = .ok (.ireturn, 1) := by decide +kernel
theorem dX2_isIn_0 : decode cX2_isIn 0 = .ok (.lload_n 0, 1) := by decide +kernel
theorem dX2_isIn_1 : decode cX2_isIn 1 = .ok (.iload_n 2, 1) := by decide +kernel
theorem dX2_isIn_2 : decode cX2_isIn 2 = .ok (.lshr, 1) := by decide +kernel
theorem dX2_isIn_3 : decode cX2_isIn 3 = .ok (.lconst 1, 1) := by decide +kernel
theorem dX2_isIn_4 : decode cX2_isIn 4 = .ok (.land, 1) := by decide +kernel
theorem dX2_isIn_5 : decode cX2_isIn 5 = .ok (.lconst 0, 1) := by decide +kernel
theorem dX2_isIn_6 : decode cX2_isIn 6 = .ok (.lcmp, 1) := by decide +kernel
theorem dX2_isIn_7 : decode cX2_isIn 7 = .ok (.ifCond .eq 7, 3) := by decide +kernel
theorem dX2_isIn_10 : decode cX2_isIn 10 = .ok (.iconst 1, 1) := by decide +kernel
theorem dX2_isIn_11 : decode cX2_isIn 11 = .ok (.goto 4, 3) := by decide +kernel
theorem dX2_isIn_14 : decode cX2_isIn 14 = .ok (.iconst 0, 1) := by decide +kernel
theorem dX2_isIn_15 : decode cX2_isIn 15 = .ok (.ireturn, 1) := by decide +kernel
theorem dX2_slot_0 : decode cX2_slot 0 = .ok (.iload_n 0, 1) := by decide +kernel
theorem dX2_slot_1 : decode cX2_slot 1 = .ok (.iconst 3, 1) := by decide +kernel
theorem dX2_slot_2 : decode cX2_slot 2 = .ok (.imul, 1) := by decide +kernel
theorem dX2_slot_3 : decode cX2_slot 3 = .ok (.iload_n 1, 1) := by decide +kernel
theorem dX2_slot_4 : decode cX2_slot 4 = .ok (.iadd, 1) := by decide +kernel
theorem dX2_slot_5 : decode cX2_slot 5 = .ok (.ireturn, 1) := by decide +kernel
theorem dX2_placeOf_0 : decode cX2_placeOf 0 = .ok (.iload_n 0, 1) := by decide +kernel
theorem dX2_placeOf_1 : decode cX2_placeOf 1 = .ok (.bipush 10, 2) := by decide +kernel
theorem dX2_placeOf_3 : decode cX2_placeOf 3 = .ok (.imul, 1) := by decide +kernel
theorem dX2_placeOf_4 : decode cX2_placeOf 4 = .ok (.iload_n 1, 1) := by decide +kernel
theorem dX2_placeOf_5 : decode cX2_placeOf 5 = .ok (.iadd, 1) := by decide +kernel
theorem dX2_placeOf_6 : decode cX2_placeOf 6 = .ok (.ireturn, 1) := by decide +kernel
theorem dX2_certificateKind_0 : decode cX2_certificateKind 0 = .ok (.iload_n 0, 1) := by decide +kernel
theorem dX2_certificateKind_1 : decode cX2_certificateKind 1 = .ok (.iconst 3, 1) := by decide +kernel
theorem dX2_certificateKind_2 : decode cX2_certificateKind 2 = .ok (.imul, 1) := by decide +kernel
theorem dX2_certificateKind_3 : decode cX2_certificateKind 3 = .ok (.iload_n 1, 1) := by decide +kernel
theorem dX2_certificateKind_4 : decode cX2_certificateKind 4 = .ok (.iadd, 1) := by decide +kernel
theorem dX2_certificateKind_5 : decode cX2_certificateKind 5 = .ok (.ireturn, 1) := by decide +kernel
theorem dX2_upTo_0 : decode cX2_upTo 0 = .ok (.aload_n 0, 1) := by decide +kernel
theorem dX2_upTo_1 : decode cX2_upTo 1 = .ok (.getfield 25, 3) := by decide +kernel
theorem dX2_upTo_4 : decode cX2_upTo 4 = .ok (.iload_n 1, 1) := by decide +kernel
theorem dX2_upTo_5 : decode cX2_upTo 5 = .ok (.laload, 1) := by decide +kernel
theorem dX2_upTo_6 : decode cX2_upTo 6 = .ok (.lconst 1, 1) := by decide +kernel
theorem dX2_upTo_7 : decode cX2_upTo 7 = .ok (.iload_n 1, 1) := by decide +kernel
theorem dX2_upTo_8 : decode cX2_upTo 8 = .ok (.lshl, 1) := by decide +kernel
theorem dX2_upTo_9 : decode cX2_upTo 9 = .ok (.lor, 1) := by decide +kernel
theorem dX2_upTo_10 : decode cX2_upTo 10 = .ok (.lreturn, 1) := by decide +kernel
theorem dX2_withAncestors_0 : decode cX2_withAncestors 0 = .ok (.lload_n 1, 1) := by decide +kernel
theorem dX2_withAncestors_1 : decode cX2_withAncestors 1 = .ok (.lstore_n 3, 1) := by decide +kernel
theorem dX2_withAncestors_2 : decode cX2_withAncestors 2 = .ok (.iconst 0, 1) := by decide +kernel
theorem dX2_withAncestors_3 : decode cX2_withAncestors 3 = .ok (.istore 5, 2) := by decide +kernel
theorem dX2_withAncestors_5 : decode cX2_withAncestors 5 = .ok (.iload 5, 2) := by decide +kernel
theorem dX2_withAncestors_7 : decode cX2_withAncestors 7 = .ok (.aload_n 0, 1) := by decide +kernel
theorem dX2_withAncestors_8 : decode cX2_withAncestors 8 = .ok (.getfield 29, 3) := by decide +kernel
theorem dX2_withAncestors_11 : decode cX2_withAncestors 11 = .ok (.if_icmp .ge 28, 3) := by decide +kernel
theorem dX2_withAncestors_14 : decode cX2_withAncestors 14 = .ok (.lload_n 1, 1) := by decide +kernel
theorem dX2_withAncestors_15 : decode cX2_withAncestors 15 = .ok (.iload 5, 2) := by decide +kernel
theorem dX2_withAncestors_17 : decode cX2_withAncestors 17 = .ok (.invokestatic 174, 3) := by decide +kernel
theorem dX2_withAncestors_20 : decode cX2_withAncestors 20 = .ok (.ifCond .eq 13, 3) := by decide +kernel
theorem dX2_withAncestors_23 : decode cX2_withAncestors 23 = .ok (.lload_n 3, 1) := by decide +kernel
theorem dX2_withAncestors_24 : decode cX2_withAncestors 24 = .ok (.aload_n 0, 1) := by decide +kernel
theorem dX2_withAncestors_25 : decode cX2_withAncestors 25 = .ok (.getfield 25, 3) := by decide +kernel
theorem dX2_withAncestors_28 : decode cX2_withAncestors 28 = .ok (.iload 5, 2) := by decide +kernel
theorem dX2_withAncestors_30 : decode cX2_withAncestors 30 = .ok (.laload, 1) := by decide +kernel
theorem dX2_withAncestors_31 : decode cX2_withAncestors 31 = .ok (.lor, 1) := by decide +kernel
theorem dX2_withAncestors_32 : decode cX2_withAncestors 32 = .ok (.lstore_n 3, 1) := by decide +kernel
theorem dX2_withAncestors_33 : decode cX2_withAncestors 33 = .ok (.iinc 5 1, 3) := by decide +kernel
theorem dX2_withAncestors_36 : decode cX2_withAncestors 36 = .ok (.goto (-31), 3) := by decide +kernel
theorem dX2_withAncestors_39 : decode cX2_withAncestors 39 = .ok (.lload_n 3, 1) := by decide +kernel
theorem dX2_withAncestors_40 : decode cX2_withAncestors 40 = .ok (.lreturn, 1) := by decide +kernel
theorem dX2_latestOf_0 : decode cX2_latestOf 0 = .ok (.lload_n 1, 1) := by decide +kernel
theorem dX2_latestOf_1 : decode cX2_latestOf 1 = .ok (.lstore_n 3, 1) := by decide +kernel
theorem dX2_latestOf_2 : decode cX2_latestOf 2 = .ok (.iconst 0, 1) := by decide +kernel
theorem dX2_latestOf_3 : decode cX2_latestOf 3 = .ok (.istore 5, 2) := by decide +kernel
theorem dX2_latestOf_5 : decode cX2_latestOf 5 = .ok (.iload 5, 2) := by decide +kernel
theorem dX2_latestOf_7 : decode cX2_latestOf 7 = .ok (.aload_n 0, 1) := by decide +kernel
theorem dX2_latestOf_8 : decode cX2_latestOf 8 = .ok (.getfield 29, 3) := by decide +kernel
theorem dX2_latestOf_11 : decode cX2_latestOf 11 = .ok (.if_icmp .ge 32, 3) := by decide +kernel
theorem dX2_latestOf_14 : decode cX2_latestOf 14 = .ok (.lload_n 1, 1) := by decide +kernel
theorem dX2_latestOf_15 : decode cX2_latestOf 15 = .ok (.iload 5, 2) := by decide +kernel
theorem dX2_latestOf_17 : decode cX2_latestOf 17 = .ok (.invokestatic 174, 3) := by decide +kernel
theorem dX2_latestOf_20 : decode cX2_latestOf 20 = .ok (.ifCond .eq 17, 3) := by decide +kernel
theorem dX2_latestOf_23 : decode cX2_latestOf 23 = .ok (.lload_n 3, 1) := by decide +kernel
theorem dX2_latestOf_24 : decode cX2_latestOf 24 = .ok (.aload_n 0, 1) := by decide +kernel
theorem dX2_latestOf_25 : decode cX2_latestOf 25 = .ok (.getfield 25, 3) := by decide +kernel
theorem dX2_latestOf_28 : decode cX2_latestOf 28 = .ok (.iload 5, 2) := by decide +kernel
theorem dX2_latestOf_30 : decode cX2_latestOf 30 = .ok (.laload, 1) := by decide +kernel
theorem dX2_latestOf_31 : decode cX2_latestOf 31 = .ok (.ldc2_w 292, 3) := by decide +kernel
theorem dX2_latestOf_34 : decode cX2_latestOf 34 = .ok (.lxor, 1) := by decide +kernel
theorem dX2_latestOf_35 : decode cX2_latestOf 35 = .ok (.land, 1) := by decide +kernel
theorem dX2_latestOf_36 : decode cX2_latestOf 36 = .ok (.lstore_n 3, 1) := by decide +kernel
theorem dX2_latestOf_37 : decode cX2_latestOf 37 = .ok (.iinc 5 1, 3) := by decide +kernel
theorem dX2_latestOf_40 : decode cX2_latestOf 40 = .ok (.goto (-35), 3) := by decide +kernel
theorem dX2_latestOf_43 : decode cX2_latestOf 43 = .ok (.lload_n 3, 1) := by decide +kernel
theorem dX2_latestOf_44 : decode cX2_latestOf 44 = .ok (.lreturn, 1) := by decide +kernel
theorem dX2_makeRevision_0 : decode cX2_makeRevision 0 = .ok (.aload_n 0, 1) := by decide +kernel
theorem dX2_makeRevision_1 : decode cX2_makeRevision 1 = .ok (.getfield 29, 3) := by decide +kernel
theorem dX2_makeRevision_4 : decode cX2_makeRevision 4 = .ok (.istore 5, 2) := by decide +kernel
theorem dX2_makeRevision_6 : decode cX2_makeRevision 6 = .ok (.aload_n 0, 1) := by decide +kernel
theorem dX2_makeRevision_7 : decode cX2_makeRevision 7 = .ok (.dup, 1) := by decide +kernel
theorem dX2_makeRevision_8 : decode cX2_makeRevision 8 = .ok (.getfield 29, 3) := by decide +kernel
theorem dX2_makeRevision_11 : decode cX2_makeRevision 11 = .ok (.iconst 1, 1) := by decide +kernel
theorem dX2_makeRevision_12 : decode cX2_makeRevision 12 = .ok (.iadd, 1) := by decide +kernel
theorem dX2_makeRevision_13 : decode cX2_makeRevision 13 = .ok (.putfield 29, 3) := by decide +kernel
theorem dX2_makeRevision_16 : decode cX2_makeRevision 16 = .ok (.aload_n 0, 1) := by decide +kernel
theorem dX2_makeRevision_17 : decode cX2_makeRevision 17 = .ok (.getfield 25, 3) := by decide +kernel
theorem dX2_makeRevision_20 : decode cX2_makeRevision 20 = .ok (.iload 5, 2) := by decide +kernel
theorem dX2_makeRevision_22 : decode cX2_makeRevision 22 = .ok (.lload_n 2, 1) := by decide +kernel
theorem dX2_makeRevision_23 : decode cX2_makeRevision 23 = .ok (.lastore, 1) := by decide +kernel
theorem dX2_makeRevision_24 : decode cX2_makeRevision 24 = .ok (.aload_n 0, 1) := by decide +kernel
theorem dX2_makeRevision_25 : decode cX2_makeRevision 25 = .ok (.getfield 21, 3) := by decide +kernel
theorem dX2_makeRevision_28 : decode cX2_makeRevision 28 = .ok (.iload 5, 2) := by decide +kernel
theorem dX2_makeRevision_30 : decode cX2_makeRevision 30 = .ok (.aaload, 1) := by decide +kernel
theorem dX2_makeRevision_31 : decode cX2_makeRevision 31 = .ok (.aload 4, 2) := by decide +kernel
theorem dX2_makeRevision_33 : decode cX2_makeRevision 33 = .ok (.invokevirtual 59, 3) := by decide +kernel
theorem dX2_makeRevision_36 : decode cX2_makeRevision 36 = .ok (.aload_n 1, 1) := by decide +kernel
theorem dX2_makeRevision_37 : decode cX2_makeRevision 37 = .ok (.dup, 1) := by decide +kernel
theorem dX2_makeRevision_38 : decode cX2_makeRevision 38 = .ok (.getfield 256, 3) := by decide +kernel
theorem dX2_makeRevision_41 : decode cX2_makeRevision 41 = .ok (.lconst 1, 1) := by decide +kernel
theorem dX2_makeRevision_42 : decode cX2_makeRevision 42 = .ok (.iload 5, 2) := by decide +kernel
theorem dX2_makeRevision_44 : decode cX2_makeRevision 44 = .ok (.lshl, 1) := by decide +kernel
theorem dX2_makeRevision_45 : decode cX2_makeRevision 45 = .ok (.lor, 1) := by decide +kernel
theorem dX2_makeRevision_46 : decode cX2_makeRevision 46 = .ok (.putfield 256, 3) := by decide +kernel
theorem dX2_makeRevision_49 : decode cX2_makeRevision 49 = .ok (.iload 5, 2) := by decide +kernel
theorem dX2_makeRevision_51 : decode cX2_makeRevision 51 = .ok (.ireturn, 1) := by decide +kernel
theorem dX2_markChanges_0 : decode cX2_markChanges 0 = .ok (.aload_n 0, 1) := by decide +kernel
theorem dX2_markChanges_1 : decode cX2_markChanges 1 = .ok (.getfield 21, 3) := by decide +kernel
theorem dX2_markChanges_4 : decode cX2_markChanges 4 = .ok (.iload_n 2, 1) := by decide +kernel
theorem dX2_markChanges_5 : decode cX2_markChanges 5 = .ok (.aaload, 1) := by decide +kernel
theorem dX2_markChanges_6 : decode cX2_markChanges 6 = .ok (.astore_n 3, 1) := by decide +kernel
theorem dX2_markChanges_7 : decode cX2_markChanges 7 = .ok (.aload_n 0, 1) := by decide +kernel
theorem dX2_markChanges_8 : decode cX2_markChanges 8 = .ok (.getfield 21, 3) := by decide +kernel
theorem dX2_markChanges_11 : decode cX2_markChanges 11 = .ok (.iload_n 1, 1) := by decide +kernel
theorem dX2_markChanges_12 : decode cX2_markChanges 12 = .ok (.aaload, 1) := by decide +kernel
theorem dX2_markChanges_13 : decode cX2_markChanges 13 = .ok (.astore 4, 2) := by decide +kernel
