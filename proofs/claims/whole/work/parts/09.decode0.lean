theorem dX0_init_0 : decode cX0_init 0 = .ok (.aload_n 0, 1) := by decide +kernel
theorem dX0_init_1 : decode cX0_init 1 = .ok (.invokespecial 3, 3) := by decide +kernel
theorem dX0_init_4 : decode cX0_init 4 = .ok (.aload_n 0, 1) := by decide +kernel
theorem dX0_init_5 : decode cX0_init 5 = .ok (.lconst 1, 1) := by decide +kernel
theorem dX0_init_6 : decode cX0_init 6 = .ok (.putfield 9, 3) := by decide +kernel
theorem dX0_init_9 : decode cX0_init 9 = .ok (.aload_n 0, 1) := by decide +kernel
theorem dX0_init_10 : decode cX0_init 10 = .ok (.bipush 12, 2) := by decide +kernel
theorem dX0_init_12 : decode cX0_init 12 = .ok (.newarray .long, 2) := by decide +kernel
theorem dX0_init_14 : decode cX0_init 14 = .ok (.putfield 15, 3) := by decide +kernel
theorem dX0_init_17 : decode cX0_init 17 = .ok (.aload_n 0, 1) := by decide +kernel
theorem dX0_init_18 : decode cX0_init 18 = .ok (.bipush 15, 2) := by decide +kernel
theorem dX0_init_20 : decode cX0_init 20 = .ok (.putfield 19, 3) := by decide +kernel
theorem dX0_init_23 : decode cX0_init 23 = .ok (.aload_n 0, 1) := by decide +kernel
theorem dX0_init_24 : decode cX0_init 24 = .ok (.new 23, 3) := by decide +kernel
theorem dX0_init_27 : decode cX0_init 27 = .ok (.dup, 1) := by decide +kernel
theorem dX0_init_28 : decode cX0_init 28 = .ok (.invokespecial 25, 3) := by decide +kernel
theorem dX0_init_31 : decode cX0_init 31 = .ok (.putfield 26, 3) := by decide +kernel
theorem dX0_init_34 : decode cX0_init 34 = .ok (.aload_n 0, 1) := by decide +kernel
theorem dX0_init_35 : decode cX0_init 35 = .ok (.iconst (-1), 1) := by decide +kernel
theorem dX0_init_36 : decode cX0_init 36 = .ok (.putfield 30, 3) := by decide +kernel
theorem dX0_init_39 : decode cX0_init 39 = .ok (.aload_n 0, 1) := by decide +kernel
theorem dX0_init_40 : decode cX0_init 40 = .ok (.bipush 48, 2) := by decide +kernel
theorem dX0_init_42 : decode cX0_init 42 = .ok (.newarray .int, 2) := by decide +kernel
theorem dX0_init_44 : decode cX0_init 44 = .ok (.putfield 33, 3) := by decide +kernel
theorem dX0_init_47 : decode cX0_init 47 = .ok (.aload_n 0, 1) := by decide +kernel
theorem dX0_init_48 : decode cX0_init 48 = .ok (.bipush 48, 2) := by decide +kernel
theorem dX0_init_50 : decode cX0_init 50 = .ok (.newarray .int, 2) := by decide +kernel
theorem dX0_init_52 : decode cX0_init 52 = .ok (.putfield 37, 3) := by decide +kernel
theorem dX0_init_55 : decode cX0_init 55 = .ok (.aload_n 0, 1) := by decide +kernel
theorem dX0_init_56 : decode cX0_init 56 = .ok (.bipush 48, 2) := by decide +kernel
theorem dX0_init_58 : decode cX0_init 58 = .ok (.newarray .int, 2) := by decide +kernel
theorem dX0_init_60 : decode cX0_init 60 = .ok (.putfield 40, 3) := by decide +kernel
theorem dX0_init_63 : decode cX0_init 63 = .ok (.aload_n 0, 1) := by decide +kernel
theorem dX0_init_64 : decode cX0_init 64 = .ok (.getfield 33, 3) := by decide +kernel
theorem dX0_init_67 : decode cX0_init 67 = .ok (.iconst (-1), 1) := by decide +kernel
theorem dX0_init_68 : decode cX0_init 68 = .ok (.invokestatic 43, 3) := by decide +kernel
theorem dX0_init_71 : decode cX0_init 71 = .ok (.return_, 1) := by decide +kernel
theorem dX0_forgetDecisions_0 : decode cX0_forgetDecisions 0 = .ok (.aload_n 0, 1) := by decide +kernel
theorem dX0_forgetDecisions_1 : decode cX0_forgetDecisions 1 = .ok (.getfield 33, 3) := by decide +kernel
theorem dX0_forgetDecisions_4 : decode cX0_forgetDecisions 4 = .ok (.iconst (-1), 1) := by decide +kernel
theorem dX0_forgetDecisions_5 : decode cX0_forgetDecisions 5 = .ok (.invokestatic 43, 3) := by decide +kernel
theorem dX0_forgetDecisions_8 : decode cX0_forgetDecisions 8 = .ok (.aload_n 0, 1) := by decide +kernel
theorem dX0_forgetDecisions_9 : decode cX0_forgetDecisions 9 = .ok (.iconst 0, 1) := by decide +kernel
theorem dX0_forgetDecisions_10 : decode cX0_forgetDecisions 10 = .ok (.putfield 49, 3) := by decide +kernel
theorem dX0_forgetDecisions_13 : decode cX0_forgetDecisions 13 = .ok (.return_, 1) := by decide +kernel
theorem dX0_list_0 : decode cX0_list 0 = .ok (.aload_n 0, 1) := by decide +kernel
theorem dX0_list_1 : decode cX0_list 1 = .ok (.getfield 52, 3) := by decide +kernel
theorem dX0_list_4 : decode cX0_list 4 = .ok (.aload_n 0, 1) := by decide +kernel
theorem dX0_list_5 : decode cX0_list 5 = .ok (.getfield 37, 3) := by decide +kernel
theorem dX0_list_8 : decode cX0_list 8 = .ok (.arraylength, 1) := by decide +kernel
theorem dX0_list_9 : decode cX0_list 9 = .ok (.if_icmp .ge 33, 3) := by decide +kernel
theorem dX0_list_12 : decode cX0_list 12 = .ok (.aload_n 0, 1) := by decide +kernel
theorem dX0_list_13 : decode cX0_list 13 = .ok (.getfield 37, 3) := by decide +kernel
theorem dX0_list_16 : decode cX0_list 16 = .ok (.aload_n 0, 1) := by decide +kernel
theorem dX0_list_17 : decode cX0_list 17 = .ok (.getfield 52, 3) := by decide +kernel
theorem dX0_list_20 : decode cX0_list 20 = .ok (.iload_n 1, 1) := by decide +kernel
theorem dX0_list_21 : decode cX0_list 21 = .ok (.iastore, 1) := by decide +kernel
theorem dX0_list_22 : decode cX0_list 22 = .ok (.aload_n 0, 1) := by decide +kernel
theorem dX0_list_23 : decode cX0_list 23 = .ok (.getfield 40, 3) := by decide +kernel
theorem dX0_list_26 : decode cX0_list 26 = .ok (.aload_n 0, 1) := by decide +kernel
theorem dX0_list_27 : decode cX0_list 27 = .ok (.getfield 52, 3) := by decide +kernel
theorem dX0_list_30 : decode cX0_list 30 = .ok (.iload_n 2, 1) := by decide +kernel
theorem dX0_list_31 : decode cX0_list 31 = .ok (.iastore, 1) := by decide +kernel
theorem dX0_list_32 : decode cX0_list 32 = .ok (.aload_n 0, 1) := by decide +kernel
theorem dX0_list_33 : decode cX0_list 33 = .ok (.dup, 1) := by decide +kernel
theorem dX0_list_34 : decode cX0_list 34 = .ok (.getfield 52, 3) := by decide +kernel
theorem dX0_list_37 : decode cX0_list 37 = .ok (.iconst 1, 1) := by decide +kernel
theorem dX0_list_38 : decode cX0_list 38 = .ok (.iadd, 1) := by decide +kernel
theorem dX0_list_39 : decode cX0_list 39 = .ok (.putfield 52, 3) := by decide +kernel
theorem dX0_list_42 : decode cX0_list 42 = .ok (.return_, 1) := by decide +kernel
theorem dX0_trusts_0 : decode cX0_trusts 0 = .ok (.aload_n 0, 1) := by decide +kernel
theorem dX0_trusts_1 : decode cX0_trusts 1 = .ok (.getfield 19, 3) := by decide +kernel
theorem dX0_trusts_4 : decode cX0_trusts 4 = .ok (.i2l, 1) := by decide +kernel
theorem dX0_trusts_5 : decode cX0_trusts 5 = .ok (.iload_n 1, 1) := by decide +kernel
theorem dX0_trusts_6 : decode cX0_trusts 6 = .ok (.invokestatic 55, 3) := by decide +kernel
theorem dX0_trusts_9 : decode cX0_trusts 9 = .ok (.ireturn, 1) := by decide +kernel
theorem dX0_membersOf_0 : decode cX0_membersOf 0 = .ok (.lconst 0, 1) := by decide +kernel
theorem dX0_membersOf_1 : decode cX0_membersOf 1 = .ok (.lstore_n 2, 1) := by decide +kernel
theorem dX0_membersOf_2 : decode cX0_membersOf 2 = .ok (.iconst 0, 1) := by decide +kernel
theorem dX0_membersOf_3 : decode cX0_membersOf 3 = .ok (.istore 4, 2) := by decide +kernel
theorem dX0_membersOf_5 : decode cX0_membersOf 5 = .ok (.iload 4, 2) := by decide +kernel
theorem dX0_membersOf_7 : decode cX0_membersOf 7 = .ok (.iconst 4, 1) := by decide +kernel
theorem dX0_membersOf_8 : decode cX0_membersOf 8 = .ok (.if_icmp .ge 32, 3) := by decide +kernel
theorem dX0_membersOf_11 : decode cX0_membersOf 11 = .ok (.aload_n 0, 1) := by decide +kernel
theorem dX0_membersOf_12 : decode cX0_membersOf 12 = .ok (.iload 4, 2) := by decide +kernel
theorem dX0_membersOf_14 : decode cX0_membersOf 14 = .ok (.invokevirtual 59, 3) := by decide +kernel
theorem dX0_membersOf_17 : decode cX0_membersOf 17 = .ok (.ifCond .eq 17, 3) := by decide +kernel
theorem dX0_membersOf_20 : decode cX0_membersOf 20 = .ok (.lload_n 2, 1) := by decide +kernel
theorem dX0_membersOf_21 : decode cX0_membersOf 21 = .ok (.aload_n 0, 1) := by decide +kernel
theorem dX0_membersOf_22 : decode cX0_membersOf 22 = .ok (.getfield 15, 3) := by decide +kernel
theorem dX0_membersOf_25 : decode cX0_membersOf 25 = .ok (.iload 4, 2) := by decide +kernel
theorem dX0_membersOf_27 : decode cX0_membersOf 27 = .ok (.iload_n 1, 1) := by decide +kernel
theorem dX0_membersOf_28 : decode cX0_membersOf 28 = .ok (.invokestatic 63, 3) := by decide +kernel
theorem dX0_membersOf_31 : decode cX0_membersOf 31 = .ok (.laload, 1) := by decide +kernel
theorem dX0_membersOf_32 : decode cX0_membersOf 32 = .ok (.lor, 1) := by decide +kernel
theorem dX0_membersOf_33 : decode cX0_membersOf 33 = .ok (.lstore_n 2, 1) := by decide +kernel
theorem dX0_membersOf_34 : decode cX0_membersOf 34 = .ok (.iinc 4 1, 3) := by decide +kernel
theorem dX0_membersOf_37 : decode cX0_membersOf 37 = .ok (.goto (-32), 3) := by decide +kernel
theorem dX0_membersOf_40 : decode cX0_membersOf 40 = .ok (.lload_n 2, 1) := by decide +kernel
theorem dX0_membersOf_41 : decode cX0_membersOf 41 = .ok (.lreturn, 1) := by decide +kernel
theorem dX0_receive_0 : decode cX0_receive 0 = .ok (.lload_n 2, 1) := by decide +kernel
theorem dX0_receive_1 : decode cX0_receive 1 = .ok (.aload_n 0, 1) := by decide +kernel
theorem dX0_receive_2 : decode cX0_receive 2 = .ok (.getfield 9, 3) := by decide +kernel
theorem dX0_receive_5 : decode cX0_receive 5 = .ok (.ldc2_w 67, 3) := by decide +kernel
theorem dX0_receive_8 : decode cX0_receive 8 = .ok (.lxor, 1) := by decide +kernel
theorem dX0_receive_9 : decode cX0_receive 9 = .ok (.land, 1) := by decide +kernel
theorem dX0_receive_10 : decode cX0_receive 10 = .ok (.invokestatic 69, 3) := by decide +kernel
theorem dX0_receive_13 : decode cX0_receive 13 = .ok (.istore 4, 2) := by decide +kernel
theorem dX0_receive_15 : decode cX0_receive 15 = .ok (.aload_n 0, 1) := by decide +kernel
theorem dX0_receive_16 : decode cX0_receive 16 = .ok (.dup, 1) := by decide +kernel
theorem dX0_receive_17 : decode cX0_receive 17 = .ok (.getfield 9, 3) := by decide +kernel
theorem dX0_receive_20 : decode cX0_receive 20 = .ok (.lload_n 2, 1) := by decide +kernel
theorem dX0_receive_21 : decode cX0_receive 21 = .ok (.lor, 1) := by decide +kernel
theorem dX0_receive_22 : decode cX0_receive 22 = .ok (.putfield 9, 3) := by decide +kernel
theorem dX0_receive_25 : decode cX0_receive 25 = .ok (.iconst 0, 1) := by decide +kernel
theorem dX0_receive_26 : decode cX0_receive 26 = .ok (.istore 5, 2) := by decide +kernel
theorem dX0_receive_28 : decode cX0_receive 28 = .ok (.iload 5, 2) := by decide +kernel
theorem dX0_receive_30 : decode cX0_receive 30 = .ok (.aload_n 0, 1) := by decide +kernel
theorem dX0_receive_31 : decode cX0_receive 31 = .ok (.getfield 15, 3) := by decide +kernel
theorem dX0_receive_34 : decode cX0_receive 34 = .ok (.arraylength, 1) := by decide +kernel
theorem dX0_receive_35 : decode cX0_receive 35 = .ok (.if_icmp .ge 54, 3) := by decide +kernel
theorem dX0_receive_38 : decode cX0_receive 38 = .ok (.aload_n 1, 1) := by decide +kernel
theorem dX0_receive_39 : decode cX0_receive 39 = .ok (.getfield 15, 3) := by decide +kernel
theorem dX0_receive_42 : decode cX0_receive 42 = .ok (.iload 5, 2) := by decide +kernel
theorem dX0_receive_44 : decode cX0_receive 44 = .ok (.laload, 1) := by decide +kernel
theorem dX0_receive_45 : decode cX0_receive 45 = .ok (.lload_n 2, 1) := by decide +kernel
theorem dX0_receive_46 : decode cX0_receive 46 = .ok (.land, 1) := by decide +kernel
theorem dX0_receive_47 : decode cX0_receive 47 = .ok (.lstore 6, 2) := by decide +kernel
theorem dX0_receive_49 : decode cX0_receive 49 = .ok (.iload 4, 2) := by decide +kernel
theorem dX0_receive_51 : decode cX0_receive 51 = .ok (.lload 6, 2) := by decide +kernel
theorem dX0_receive_53 : decode cX0_receive 53 = .ok (.aload_n 0, 1) := by decide +kernel
theorem dX0_receive_54 : decode cX0_receive 54 = .ok (.getfield 15, 3) := by decide +kernel
theorem dX0_receive_57 : decode cX0_receive 57 = .ok (.iload 5, 2) := by decide +kernel
theorem dX0_receive_59 : decode cX0_receive 59 = .ok (.laload, 1) := by decide +kernel
theorem dX0_receive_60 : decode cX0_receive 60 = .ok (.ldc2_w 67, 3) := by decide +kernel
theorem dX0_receive_63 : decode cX0_receive 63 = .ok (.lxor, 1) := by decide +kernel
theorem dX0_receive_64 : decode cX0_receive 64 = .ok (.land, 1) := by decide +kernel
theorem dX0_receive_65 : decode cX0_receive 65 = .ok (.invokestatic 69, 3) := by decide +kernel
theorem dX0_receive_68 : decode cX0_receive 68 = .ok (.iadd, 1) := by decide +kernel
theorem dX0_receive_69 : decode cX0_receive 69 = .ok (.istore 4, 2) := by decide +kernel
theorem dX0_receive_71 : decode cX0_receive 71 = .ok (.aload_n 0, 1) := by decide +kernel
theorem dX0_receive_72 : decode cX0_receive 72 = .ok (.getfield 15, 3) := by decide +kernel
theorem dX0_receive_75 : decode cX0_receive 75 = .ok (.iload 5, 2) := by decide +kernel
theorem dX0_receive_77 : decode cX0_receive 77 = .ok (.dup2, 1) := by decide +kernel
theorem dX0_receive_78 : decode cX0_receive 78 = .ok (.laload, 1) := by decide +kernel
theorem dX0_receive_79 : decode cX0_receive 79 = .ok (.lload 6, 2) := by decide +kernel
theorem dX0_receive_81 : decode cX0_receive 81 = .ok (.lor, 1) := by decide +kernel
theorem dX0_receive_82 : decode cX0_receive 82 = .ok (.lastore, 1) := by decide +kernel
theorem dX0_receive_83 : decode cX0_receive 83 = .ok (.iinc 5 1, 3) := by decide +kernel
theorem dX0_receive_86 : decode cX0_receive 86 = .ok (.goto (-58), 3) := by decide +kernel
theorem dX0_receive_89 : decode cX0_receive 89 = .ok (.iload 4, 2) := by decide +kernel
theorem dX0_receive_91 : decode cX0_receive 91 = .ok (.ireturn, 1) := by decide +kernel
theorem dX1_init_0 : decode cX1_init 0 = .ok (.aload_n 0, 1) := by decide +kernel
theorem dX1_init_1 : decode cX1_init 1 = .ok (.invokespecial 3, 3) := by decide +kernel
theorem dX1_init_4 : decode cX1_init 4 = .ok (.aload_n 0, 1) := by decide +kernel
theorem dX1_init_5 : decode cX1_init 5 = .ok (.iconst 1, 1) := by decide +kernel
theorem dX1_init_6 : decode cX1_init 6 = .ok (.putfield 9, 3) := by decide +kernel
theorem dX1_init_9 : decode cX1_init 9 = .ok (.aload_n 0, 1) := by decide +kernel
theorem dX1_init_10 : decode cX1_init 10 = .ok (.bipush 48, 2) := by decide +kernel
theorem dX1_init_12 : decode cX1_init 12 = .ok (.newarray .int, 2) := by decide +kernel
theorem dX1_init_14 : decode cX1_init 14 = .ok (.putfield 15, 3) := by decide +kernel
theorem dX1_init_17 : decode cX1_init 17 = .ok (.aload_n 0, 1) := by decide +kernel
theorem dX1_init_18 : decode cX1_init 18 = .ok (.bipush 48, 2) := by decide +kernel
theorem dX1_init_20 : decode cX1_init 20 = .ok (.newarray .long, 2) := by decide +kernel
theorem dX1_init_22 : decode cX1_init 22 = .ok (.putfield 19, 3) := by decide +kernel
theorem dX1_init_25 : decode cX1_init 25 = .ok (.aload_n 0, 1) := by decide +kernel
theorem dX1_init_26 : decode cX1_init 26 = .ok (.getfield 15, 3) := by decide +kernel
theorem dX1_init_29 : decode cX1_init 29 = .ok (.iconst 0, 1) := by decide +kernel
theorem dX1_init_30 : decode cX1_init 30 = .ok (.iconst 0, 1) := by decide +kernel
theorem dX1_init_31 : decode cX1_init 31 = .ok (.invokestatic 23, 3) := by decide +kernel
theorem dX1_init_34 : decode cX1_init 34 = .ok (.iconst (-1), 1) := by decide +kernel
theorem dX1_init_35 : decode cX1_init 35 = .ok (.iastore, 1) := by decide +kernel
theorem dX1_init_36 : decode cX1_init 36 = .ok (.return_, 1) := by decide +kernel
theorem dX1_isAlive_0 : decode cX1_isAlive 0 = .ok (.iload_n 1, 1) := by decide +kernel
theorem dX1_isAlive_1 : decode cX1_isAlive 1 = .ok (.ifCond .lt 25, 3) := by decide +kernel
theorem dX1_isAlive_4 : decode cX1_isAlive 4 = .ok (.iload_n 1, 1) := by decide +kernel
theorem dX1_isAlive_5 : decode cX1_isAlive 5 = .ok (.bipush 16, 2) := by decide +kernel
theorem dX1_isAlive_7 : decode cX1_isAlive 7 = .ok (.if_icmp .ge 19, 3) := by decide +kernel
theorem dX1_isAlive_10 : decode cX1_isAlive 10 = .ok (.aload_n 0, 1) := by decide +kernel
theorem dX1_isAlive_11 : decode cX1_isAlive 11 = .ok (.getfield 9, 3) := by decide +kernel
theorem dX1_isAlive_14 : decode cX1_isAlive 14 = .ok (.i2l, 1) := by decide +kernel
theorem dX1_isAlive_15 : decode cX1_isAlive 15 = .ok (.iload_n 1, 1) := by decide +kernel
theorem dX1_isAlive_16 : decode cX1_isAlive 16 = .ok (.invokestatic 27, 3) := by decide +kernel
theorem dX1_isAlive_19 : decode cX1_isAlive 19 = .ok (.ifCond .eq 7, 3) := by decide +kernel
theorem dX1_isAlive_22 : decode cX1_isAlive 22 = .ok (.iconst 1, 1) := by decide +kernel
theorem dX1_isAlive_23 : decode cX1_isAlive 23 = .ok (.goto 4, 3) := by decide +kernel
theorem dX1_isAlive_26 : decode cX1_isAlive 26 = .ok (.iconst 0, 1) := by decide +kernel
theorem dX1_isAlive_27 : decode cX1_isAlive 27 = .ok (.ireturn, 1) := by decide +kernel
theorem dX1_valueOf_0 : decode cX1_valueOf 0 = .ok (.aload_n 0, 1) := by decide +kernel
theorem dX1_valueOf_1 : decode cX1_valueOf 1 = .ok (.getfield 15, 3) := by decide +kernel
theorem dX1_valueOf_4 : decode cX1_valueOf 4 = .ok (.iload_n 1, 1) := by decide +kernel
theorem dX1_valueOf_5 : decode cX1_valueOf 5 = .ok (.iload_n 2, 1) := by decide +kernel
theorem dX1_valueOf_6 : decode cX1_valueOf 6 = .ok (.invokestatic 23, 3) := by decide +kernel
theorem dX1_valueOf_9 : decode cX1_valueOf 9 = .ok (.iaload, 1) := by decide +kernel
theorem dX1_valueOf_10 : decode cX1_valueOf 10 = .ok (.ireturn, 1) := by decide +kernel
theorem dX1_setValue_0 : decode cX1_setValue 0 = .ok (.aload_n 0, 1) := by decide +kernel
theorem dX1_setValue_1 : decode cX1_setValue 1 = .ok (.getfield 15, 3) := by decide +kernel
theorem dX1_setValue_4 : decode cX1_setValue 4 = .ok (.iload_n 1, 1) := by decide +kernel
theorem dX1_setValue_5 : decode cX1_setValue 5 = .ok (.iload_n 2, 1) := by decide +kernel
theorem dX1_setValue_6 : decode cX1_setValue 6 = .ok (.invokestatic 23, 3) := by decide +kernel
theorem dX1_setValue_9 : decode cX1_setValue 9 = .ok (.iload_n 3, 1) := by decide +kernel
theorem dX1_setValue_10 : decode cX1_setValue 10 = .ok (.iastore, 1) := by decide +kernel
theorem dX1_setValue_11 : decode cX1_setValue 11 = .ok (.return_, 1) := by decide +kernel
theorem dX1_marksOf_0 : decode cX1_marksOf 0 = .ok (.aload_n 0, 1) := by decide +kernel
theorem dX1_marksOf_1 : decode cX1_marksOf 1 = .ok (.getfield 19, 3) := by decide +kernel
theorem dX1_marksOf_4 : decode cX1_marksOf 4 = .ok (.iload_n 1, 1) := by decide +kernel
theorem dX1_marksOf_5 : decode cX1_marksOf 5 = .ok (.iload_n 2, 1) := by decide +kernel
theorem dX1_marksOf_6 : decode cX1_marksOf 6 = .ok (.invokestatic 23, 3) := by decide +kernel
theorem dX1_marksOf_9 : decode cX1_marksOf 9 = .ok (.laload, 1) := by decide +kernel
theorem dX1_marksOf_10 : decode cX1_marksOf 10 = .ok (.lreturn, 1) := by decide +kernel
theorem dX1_setMarks_0 : decode cX1_setMarks 0 = .ok (.aload_n 0, 1) := by decide +kernel
theorem dX1_setMarks_1 : decode cX1_setMarks 1 = .ok (.getfield 19, 3) := by decide +kernel
theorem dX1_setMarks_4 : decode cX1_setMarks 4 = .ok (.iload_n 1, 1) := by decide +kernel
theorem dX1_setMarks_5 : decode cX1_setMarks 5 = .ok (.iload_n 2, 1) := by decide +kernel
theorem dX1_setMarks_6 : decode cX1_setMarks 6 = .ok (.invokestatic 23, 3) := by decide +kernel
theorem dX1_setMarks_9 : decode cX1_setMarks 9 = .ok (.lload_n 3, 1) := by decide +kernel
theorem dX1_setMarks_10 : decode cX1_setMarks 10 = .ok (.lastore, 1) := by decide +kernel
theorem dX1_setMarks_11 : decode cX1_setMarks 11 = .ok (.return_, 1) := by decide +kernel
theorem dX1_parentOf_0 : decode cX1_parentOf 0 = .ok (.aload_n 0, 1) := by decide +kernel
theorem dX1_parentOf_1 : decode cX1_parentOf 1 = .ok (.iload_n 1, 1) := by decide +kernel
theorem dX1_parentOf_2 : decode cX1_parentOf 2 = .ok (.iconst 0, 1) := by decide +kernel
theorem dX1_parentOf_3 : decode cX1_parentOf 3 = .ok (.invokevirtual 31, 3) := by decide +kernel
theorem dX1_parentOf_6 : decode cX1_parentOf 6 = .ok (.istore_n 2, 1) := by decide +kernel
theorem dX1_parentOf_7 : decode cX1_parentOf 7 = .ok (.iload_n 2, 1) := by decide +kernel
theorem dX1_parentOf_8 : decode cX1_parentOf 8 = .ok (.iconst (-1), 1) := by decide +kernel
theorem dX1_parentOf_9 : decode cX1_parentOf 9 = .ok (.if_icmp .ne 7, 3) := by decide +kernel
theorem dX1_parentOf_12 : decode cX1_parentOf 12 = .ok (.iconst (-1), 1) := by decide +kernel
theorem dX1_parentOf_13 : decode cX1_parentOf 13 = .ok (.goto 7, 3) := by decide +kernel
theorem dX1_parentOf_16 : decode cX1_parentOf 16 = .ok (.iload_n 2, 1) := by decide +kernel
theorem dX1_parentOf_17 : decode cX1_parentOf 17 = .ok (.bipush 10, 2) := by decide +kernel
theorem dX1_parentOf_19 : decode cX1_parentOf 19 = .ok (.idiv, 1) := by decide +kernel
theorem dX1_parentOf_20 : decode cX1_parentOf 20 = .ok (.ireturn, 1) := by decide +kernel
theorem dX1_nameOf_0 : decode cX1_nameOf 0 = .ok (.aload_n 0, 1) := by decide +kernel
theorem dX1_nameOf_1 : decode cX1_nameOf 1 = .ok (.iload_n 1, 1) := by decide +kernel
theorem dX1_nameOf_2 : decode cX1_nameOf 2 = .ok (.iconst 0, 1) := by decide +kernel
theorem dX1_nameOf_3 : decode cX1_nameOf 3 = .ok (.invokevirtual 31, 3) := by decide +kernel
theorem dX1_nameOf_6 : decode cX1_nameOf 6 = .ok (.istore_n 2, 1) := by decide +kernel
theorem dX1_nameOf_7 : decode cX1_nameOf 7 = .ok (.iload_n 2, 1) := by decide +kernel
theorem dX1_nameOf_8 : decode cX1_nameOf 8 = .ok (.iconst (-1), 1) := by decide +kernel
theorem dX1_nameOf_9 : decode cX1_nameOf 9 = .ok (.if_icmp .ne 7, 3) := by decide +kernel
theorem dX1_nameOf_12 : decode cX1_nameOf 12 = .ok (.iconst (-1), 1) := by decide +kernel
theorem dX1_nameOf_13 : decode cX1_nameOf 13 = .ok (.goto 7, 3) := by decide +kernel
theorem dX1_nameOf_16 : decode cX1_nameOf 16 = .ok (.iload_n 2, 1) := by decide +kernel
theorem dX1_nameOf_17 : decode cX1_nameOf 17 = .ok (.bipush 10, 2) := by decide +kernel
theorem dX1_nameOf_19 : decode cX1_nameOf 19 = .ok (.irem, 1) := by decide +kernel
theorem dX1_nameOf_20 : decode cX1_nameOf 20 = .ok (.ireturn, 1) := by decide +kernel
theorem dX1_lowestAt_0 : decode cX1_lowestAt 0 = .ok (.iconst 1, 1) := by decide +kernel
theorem dX1_lowestAt_1 : decode cX1_lowestAt 1 = .ok (.istore_n 2, 1) := by decide +kernel
theorem dX1_lowestAt_2 : decode cX1_lowestAt 2 = .ok (.iload_n 2, 1) := by decide +kernel
theorem dX1_lowestAt_3 : decode cX1_lowestAt 3 = .ok (.bipush 16, 2) := by decide +kernel
theorem dX1_lowestAt_5 : decode cX1_lowestAt 5 = .ok (.if_icmp .ge 29, 3) := by decide +kernel
theorem dX1_lowestAt_8 : decode cX1_lowestAt 8 = .ok (.aload_n 0, 1) := by decide +kernel
theorem dX1_lowestAt_9 : decode cX1_lowestAt 9 = .ok (.iload_n 2, 1) := by decide +kernel
theorem dX1_lowestAt_10 : decode cX1_lowestAt 10 = .ok (.invokevirtual 34, 3) := by decide +kernel
theorem dX1_lowestAt_13 : decode cX1_lowestAt 13 = .ok (.ifCond .eq 15, 3) := by decide +kernel
theorem dX1_lowestAt_16 : decode cX1_lowestAt 16 = .ok (.aload_n 0, 1) := by decide +kernel
theorem dX1_lowestAt_17 : decode cX1_lowestAt 17 = .ok (.iload_n 2, 1) := by decide +kernel
theorem dX1_lowestAt_18 : decode cX1_lowestAt 18 = .ok (.iconst 0, 1) := by decide +kernel
theorem dX1_lowestAt_19 : decode cX1_lowestAt 19 = .ok (.invokevirtual 31, 3) := by decide +kernel
theorem dX1_lowestAt_22 : decode cX1_lowestAt 22 = .ok (.iload_n 1, 1) := by decide +kernel
theorem dX1_lowestAt_23 : decode cX1_lowestAt 23 = .ok (.if_icmp .ne 5, 3) := by decide +kernel
theorem dX1_lowestAt_26 : decode cX1_lowestAt 26 = .ok (.iload_n 2, 1) := by decide +kernel
theorem dX1_lowestAt_27 : decode cX1_lowestAt 27 = .ok (.ireturn, 1) := by decide +kernel
theorem dX1_lowestAt_28 : decode cX1_lowestAt 28 = .ok (.iinc 2 1, 3) := by decide +kernel
theorem dX1_lowestAt_31 : decode cX1_lowestAt 31 = .ok (.goto (-29), 3) := by decide +kernel
theorem dX1_lowestAt_34 : decode cX1_lowestAt 34 = .ok (.iconst (-1), 1) := by decide +kernel
theorem dX1_lowestAt_35 : decode cX1_lowestAt 35 = .ok (.ireturn, 1) := by decide +kernel
theorem dX1_isParent_0 : decode cX1_isParent 0 = .ok (.iconst 1, 1) := by decide +kernel
theorem dX1_isParent_1 : decode cX1_isParent 1 = .ok (.istore_n 2, 1) := by decide +kernel
theorem dX1_isParent_2 : decode cX1_isParent 2 = .ok (.iload_n 2, 1) := by decide +kernel
theorem dX1_isParent_3 : decode cX1_isParent 3 = .ok (.bipush 16, 2) := by decide +kernel
theorem dX1_isParent_5 : decode cX1_isParent 5 = .ok (.if_icmp .ge 28, 3) := by decide +kernel
theorem dX1_isParent_8 : decode cX1_isParent 8 = .ok (.aload_n 0, 1) := by decide +kernel
theorem dX1_isParent_9 : decode cX1_isParent 9 = .ok (.iload_n 2, 1) := by decide +kernel
theorem dX1_isParent_10 : decode cX1_isParent 10 = .ok (.invokevirtual 34, 3) := by decide +kernel
theorem dX1_isParent_13 : decode cX1_isParent 13 = .ok (.ifCond .eq 14, 3) := by decide +kernel
theorem dX1_isParent_16 : decode cX1_isParent 16 = .ok (.aload_n 0, 1) := by decide +kernel
theorem dX1_isParent_17 : decode cX1_isParent 17 = .ok (.iload_n 2, 1) := by decide +kernel
theorem dX1_isParent_18 : decode cX1_isParent 18 = .ok (.invokevirtual 38, 3) := by decide +kernel
theorem dX1_isParent_21 : decode cX1_isParent 21 = .ok (.iload_n 1, 1) := by decide +kernel
theorem dX1_isParent_22 : decode cX1_isParent 22 = .ok (.if_icmp .ne 5, 3) := by decide +kernel
theorem dX1_isParent_25 : decode cX1_isParent 25 = .ok (.iconst 1, 1) := by decide +kernel
theorem dX1_isParent_26 : decode cX1_isParent 26 = .ok (.ireturn, 1) := by decide +kernel
theorem dX1_isParent_27 : decode cX1_isParent 27 = .ok (.iinc 2 1, 3) := by decide +kernel
theorem dX1_isParent_30 : decode cX1_isParent 30 = .ok (.goto (-28), 3) := by decide +kernel
theorem dX1_isParent_33 : decode cX1_isParent 33 = .ok (.iconst 0, 1) := by decide +kernel
theorem dX1_isParent_34 : decode cX1_isParent 34 = .ok (.ireturn, 1) := by decide +kernel
theorem dX1_leadsTo_0 : decode cX1_leadsTo 0 = .ok (.iload_n 1, 1) := by decide +kernel
theorem dX1_leadsTo_1 : decode cX1_leadsTo 1 = .ok (.istore_n 3, 1) := by decide +kernel
theorem dX1_leadsTo_2 : decode cX1_leadsTo 2 = .ok (.iconst 0, 1) := by decide +kernel
theorem dX1_leadsTo_3 : decode cX1_leadsTo 3 = .ok (.istore 4, 2) := by decide +kernel
theorem dX1_leadsTo_5 : decode cX1_leadsTo 5 = .ok (.iload 4, 2) := by decide +kernel
theorem dX1_leadsTo_7 : decode cX1_leadsTo 7 = .ok (.bipush 16, 2) := by decide +kernel
theorem dX1_leadsTo_9 : decode cX1_leadsTo 9 = .ok (.if_icmp .ge 30, 3) := by decide +kernel
theorem dX1_leadsTo_12 : decode cX1_leadsTo 12 = .ok (.aload_n 0, 1) := by decide +kernel
theorem dX1_leadsTo_13 : decode cX1_leadsTo 13 = .ok (.iload_n 3, 1) := by decide +kernel
theorem dX1_leadsTo_14 : decode cX1_leadsTo 14 = .ok (.invokevirtual 34, 3) := by decide +kernel
theorem dX1_leadsTo_17 : decode cX1_leadsTo 17 = .ok (.ifCond .eq 22, 3) := by decide +kernel
theorem dX1_leadsTo_20 : decode cX1_leadsTo 20 = .ok (.iload_n 3, 1) := by decide +kernel
theorem dX1_leadsTo_21 : decode cX1_leadsTo 21 = .ok (.iload_n 2, 1) := by decide +kernel
theorem dX1_leadsTo_22 : decode cX1_leadsTo 22 = .ok (.if_icmp .ne 5, 3) := by decide +kernel
theorem dX1_leadsTo_25 : decode cX1_leadsTo 25 = .ok (.iconst 1, 1) := by decide +kernel
theorem dX1_leadsTo_26 : decode cX1_leadsTo 26 = .ok (.ireturn, 1) := by decide +kernel
theorem dX1_leadsTo_27 : decode cX1_leadsTo 27 = .ok (.aload_n 0, 1) := by decide +kernel
theorem dX1_leadsTo_28 : decode cX1_leadsTo 28 = .ok (.iload_n 3, 1) := by decide +kernel
theorem dX1_leadsTo_29 : decode cX1_leadsTo 29 = .ok (.invokevirtual 38, 3) := by decide +kernel
theorem dX1_leadsTo_32 : decode cX1_leadsTo 32 = .ok (.istore_n 3, 1) := by decide +kernel
theorem dX1_leadsTo_33 : decode cX1_leadsTo 33 = .ok (.iinc 4 1, 3) := by decide +kernel
theorem dX1_leadsTo_36 : decode cX1_leadsTo 36 = .ok (.goto (-31), 3) := by decide +kernel
theorem dX1_leadsTo_39 : decode cX1_leadsTo 39 = .ok (.iconst 0, 1) := by decide +kernel
theorem dX1_leadsTo_40 : decode cX1_leadsTo 40 = .ok (.ireturn, 1) := by decide +kernel
theorem dX1_plant_0 : decode cX1_plant 0 = .ok (.aload_n 0, 1) := by decide +kernel
theorem dX1_plant_1 : decode cX1_plant 1 = .ok (.dup, 1) := by decide +kernel
theorem dX1_plant_2 : decode cX1_plant 2 = .ok (.getfield 9, 3) := by decide +kernel
theorem dX1_plant_5 : decode cX1_plant 5 = .ok (.iconst 1, 1) := by decide +kernel
theorem dX1_plant_6 : decode cX1_plant 6 = .ok (.iload_n 1, 1) := by decide +kernel
theorem dX1_plant_7 : decode cX1_plant 7 = .ok (.ishl, 1) := by decide +kernel
theorem dX1_plant_8 : decode cX1_plant 8 = .ok (.ior, 1) := by decide +kernel
theorem dX1_plant_9 : decode cX1_plant 9 = .ok (.putfield 9, 3) := by decide +kernel
theorem dX1_plant_12 : decode cX1_plant 12 = .ok (.aload_n 0, 1) := by decide +kernel
theorem dX1_plant_13 : decode cX1_plant 13 = .ok (.iload_n 1, 1) := by decide +kernel
theorem dX1_plant_14 : decode cX1_plant 14 = .ok (.iconst 0, 1) := by decide +kernel
theorem dX1_plant_15 : decode cX1_plant 15 = .ok (.iload_n 2, 1) := by decide +kernel
theorem dX1_plant_16 : decode cX1_plant 16 = .ok (.invokevirtual 42, 3) := by decide +kernel
theorem dX1_plant_19 : decode cX1_plant 19 = .ok (.aload_n 0, 1) := by decide +kernel
theorem dX1_plant_20 : decode cX1_plant 20 = .ok (.iload_n 1, 1) := by decide +kernel
theorem dX1_plant_21 : decode cX1_plant 21 = .ok (.iconst 1, 1) := by decide +kernel
theorem dX1_plant_22 : decode cX1_plant 22 = .ok (.iconst 0, 1) := by decide +kernel
theorem dX1_plant_23 : decode cX1_plant 23 = .ok (.invokevirtual 42, 3) := by decide +kernel
theorem dX1_plant_26 : decode cX1_plant 26 = .ok (.aload_n 0, 1) := by decide +kernel
theorem dX1_plant_27 : decode cX1_plant 27 = .ok (.iload_n 1, 1) := by decide +kernel
theorem dX1_plant_28 : decode cX1_plant 28 = .ok (.iconst 2, 1) := by decide +kernel
theorem dX1_plant_29 : decode cX1_plant 29 = .ok (.iconst 0, 1) := by decide +kernel
theorem dX1_plant_30 : decode cX1_plant 30 = .ok (.invokevirtual 42, 3) := by decide +kernel
theorem dX1_plant_33 : decode cX1_plant 33 = .ok (.return_, 1) := by decide +kernel
theorem dX1_takeOut_0 : decode cX1_takeOut 0 = .ok (.aload_n 0, 1) := by decide +kernel
theorem dX1_takeOut_1 : decode cX1_takeOut 1 = .ok (.dup, 1) := by decide +kernel
theorem dX1_takeOut_2 : decode cX1_takeOut 2 = .ok (.getfield 9, 3) := by decide +kernel
theorem dX1_takeOut_5 : decode cX1_takeOut 5 = .ok (.iconst 1, 1) := by decide +kernel
theorem dX1_takeOut_6 : decode cX1_takeOut 6 = .ok (.iload_n 1, 1) := by decide +kernel
theorem dX1_takeOut_7 : decode cX1_takeOut 7 = .ok (.ishl, 1) := by decide +kernel
theorem dX1_takeOut_8 : decode cX1_takeOut 8 = .ok (.iconst (-1), 1) := by decide +kernel
theorem dX1_takeOut_9 : decode cX1_takeOut 9 = .ok (.ixor, 1) := by decide +kernel
theorem dX1_takeOut_10 : decode cX1_takeOut 10 = .ok (.iand, 1) := by decide +kernel
theorem dX1_takeOut_11 : decode cX1_takeOut 11 = .ok (.putfield 9, 3) := by decide +kernel
theorem dX1_takeOut_14 : decode cX1_takeOut 14 = .ok (.return_, 1) := by decide +kernel
theorem dX1_clear_0 : decode cX1_clear 0 = .ok (.aload_n 0, 1) := by decide +kernel
theorem dX1_clear_1 : decode cX1_clear 1 = .ok (.iconst 1, 1) := by decide +kernel
theorem dX1_clear_2 : decode cX1_clear 2 = .ok (.putfield 9, 3) := by decide +kernel
theorem dX1_clear_5 : decode cX1_clear 5 = .ok (.return_, 1) := by decide +kernel
theorem dX1_copyNode_0 : decode cX1_copyNode 0 = .ok (.aload_n 0, 1) := by decide +kernel
theorem dX1_copyNode_1 : decode cX1_copyNode 1 = .ok (.dup, 1) := by decide +kernel
theorem dX1_copyNode_2 : decode cX1_copyNode 2 = .ok (.getfield 9, 3) := by decide +kernel
theorem dX1_copyNode_5 : decode cX1_copyNode 5 = .ok (.iconst 1, 1) := by decide +kernel
theorem dX1_copyNode_6 : decode cX1_copyNode 6 = .ok (.iload_n 2, 1) := by decide +kernel
theorem dX1_copyNode_7 : decode cX1_copyNode 7 = .ok (.ishl, 1) := by decide +kernel
theorem dX1_copyNode_8 : decode cX1_copyNode 8 = .ok (.ior, 1) := by decide +kernel
theorem dX1_copyNode_9 : decode cX1_copyNode 9 = .ok (.putfield 9, 3) := by decide +kernel
theorem dX1_copyNode_12 : decode cX1_copyNode 12 = .ok (.iconst 0, 1) := by decide +kernel
theorem dX1_copyNode_13 : decode cX1_copyNode 13 = .ok (.istore_n 3, 1) := by decide +kernel
theorem dX1_copyNode_14 : decode cX1_copyNode 14 = .ok (.iload_n 3, 1) := by decide +kernel
theorem dX1_copyNode_15 : decode cX1_copyNode 15 = .ok (.iconst 3, 1) := by decide +kernel
theorem dX1_copyNode_16 : decode cX1_copyNode 16 = .ok (.if_icmp .ge 33, 3) := by decide +kernel
theorem dX1_copyNode_19 : decode cX1_copyNode 19 = .ok (.aload_n 0, 1) := by decide +kernel
theorem dX1_copyNode_20 : decode cX1_copyNode 20 = .ok (.iload_n 2, 1) := by decide +kernel
theorem dX1_copyNode_21 : decode cX1_copyNode 21 = .ok (.iload_n 3, 1) := by decide +kernel
theorem dX1_copyNode_22 : decode cX1_copyNode 22 = .ok (.aload_n 1, 1) := by decide +kernel
theorem dX1_copyNode_23 : decode cX1_copyNode 23 = .ok (.iload_n 2, 1) := by decide +kernel
theorem dX1_copyNode_24 : decode cX1_copyNode 24 = .ok (.iload_n 3, 1) := by decide +kernel
theorem dX1_copyNode_25 : decode cX1_copyNode 25 = .ok (.invokevirtual 31, 3) := by decide +kernel
theorem dX1_copyNode_28 : decode cX1_copyNode 28 = .ok (.invokevirtual 42, 3) := by decide +kernel
theorem dX1_copyNode_31 : decode cX1_copyNode 31 = .ok (.aload_n 0, 1) := by decide +kernel
theorem dX1_copyNode_32 : decode cX1_copyNode 32 = .ok (.iload_n 2, 1) := by decide +kernel
theorem dX1_copyNode_33 : decode cX1_copyNode 33 = .ok (.iload_n 3, 1) := by decide +kernel
theorem dX1_copyNode_34 : decode cX1_copyNode 34 = .ok (.aload_n 1, 1) := by decide +kernel
theorem dX1_copyNode_35 : decode cX1_copyNode 35 = .ok (.iload_n 2, 1) := by decide +kernel
theorem dX1_copyNode_36 : decode cX1_copyNode 36 = .ok (.iload_n 3, 1) := by decide +kernel
theorem dX1_copyNode_37 : decode cX1_copyNode 37 = .ok (.invokevirtual 46, 3) := by decide +kernel
theorem dX1_copyNode_40 : decode cX1_copyNode 40 = .ok (.invokevirtual 50, 3) := by decide +kernel
theorem dX1_copyNode_43 : decode cX1_copyNode 43 = .ok (.iinc 3 1, 3) := by decide +kernel
theorem dX1_copyNode_46 : decode cX1_copyNode 46 = .ok (.goto (-32), 3) := by decide +kernel
theorem dX1_copyNode_49 : decode cX1_copyNode 49 = .ok (.return_, 1) := by decide +kernel
theorem dX1_copyFrom_0 : decode cX1_copyFrom 0 = .ok (.aload_n 0, 1) := by decide +kernel
theorem dX1_copyFrom_1 : decode cX1_copyFrom 1 = .ok (.aload_n 1, 1) := by decide +kernel
theorem dX1_copyFrom_2 : decode cX1_copyFrom 2 = .ok (.getfield 9, 3) := by decide +kernel
theorem dX1_copyFrom_5 : decode cX1_copyFrom 5 = .ok (.putfield 9, 3) := by decide +kernel
theorem dX1_copyFrom_8 : decode cX1_copyFrom 8 = .ok (.aload_n 1, 1) := by decide +kernel
theorem dX1_copyFrom_9 : decode cX1_copyFrom 9 = .ok (.getfield 15, 3) := by decide +kernel
theorem dX1_copyFrom_12 : decode cX1_copyFrom 12 = .ok (.iconst 0, 1) := by decide +kernel
theorem dX1_copyFrom_13 : decode cX1_copyFrom 13 = .ok (.aload_n 0, 1) := by decide +kernel
theorem dX1_copyFrom_14 : decode cX1_copyFrom 14 = .ok (.getfield 15, 3) := by decide +kernel
theorem dX1_copyFrom_17 : decode cX1_copyFrom 17 = .ok (.iconst 0, 1) := by decide +kernel
theorem dX1_copyFrom_18 : decode cX1_copyFrom 18 = .ok (.aload_n 0, 1) := by decide +kernel
theorem dX1_copyFrom_19 : decode cX1_copyFrom 19 = .ok (.getfield 15, 3) := by decide +kernel
theorem dX1_copyFrom_22 : decode cX1_copyFrom 22 = .ok (.arraylength, 1) := by decide +kernel
theorem dX1_copyFrom_23 : decode cX1_copyFrom 23 = .ok (.invokestatic 54, 3) := by decide +kernel
theorem dX1_copyFrom_26 : decode cX1_copyFrom 26 = .ok (.aload_n 1, 1) := by decide +kernel
theorem dX1_copyFrom_27 : decode cX1_copyFrom 27 = .ok (.getfield 19, 3) := by decide +kernel
theorem dX1_copyFrom_30 : decode cX1_copyFrom 30 = .ok (.iconst 0, 1) := by decide +kernel
theorem dX1_copyFrom_31 : decode cX1_copyFrom 31 = .ok (.aload_n 0, 1) := by decide +kernel
theorem dX1_copyFrom_32 : decode cX1_copyFrom 32 = .ok (.getfield 19, 3) := by decide +kernel
theorem dX1_copyFrom_35 : decode cX1_copyFrom 35 = .ok (.iconst 0, 1) := by decide +kernel
theorem dX1_copyFrom_36 : decode cX1_copyFrom 36 = .ok (.aload_n 0, 1) := by decide +kernel
theorem dX1_copyFrom_37 : decode cX1_copyFrom 37 = .ok (.getfield 19, 3) := by decide +kernel
theorem dX1_copyFrom_40 : decode cX1_copyFrom 40 = .ok (.arraylength, 1) := by decide +kernel
theorem dX1_copyFrom_41 : decode cX1_copyFrom 41 = .ok (.invokestatic 54, 3) := by decide +kernel
theorem dX1_copyFrom_44 : decode cX1_copyFrom 44 = .ok (.return_, 1) := by decide +kernel
theorem dX1_sameAs_0 : decode cX1_sameAs 0 = .ok (.aload_n 0, 1) := by decide +kernel
theorem dX1_sameAs_1 : decode cX1_sameAs 1 = .ok (.getfield 9, 3) := by decide +kernel
theorem dX1_sameAs_4 : decode cX1_sameAs 4 = .ok (.aload_n 1, 1) := by decide +kernel
theorem dX1_sameAs_5 : decode cX1_sameAs 5 = .ok (.getfield 9, 3) := by decide +kernel
theorem dX1_sameAs_8 : decode cX1_sameAs 8 = .ok (.if_icmp .eq 5, 3) := by decide +kernel
theorem dX1_sameAs_11 : decode cX1_sameAs 11 = .ok (.iconst 0, 1) := by decide +kernel
theorem dX1_sameAs_12 : decode cX1_sameAs 12 = .ok (.ireturn, 1) := by decide +kernel
theorem dX1_sameAs_13 : decode cX1_sameAs 13 = .ok (.iconst 1, 1) := by decide +kernel
theorem dX1_sameAs_14 : decode cX1_sameAs 14 = .ok (.istore_n 2, 1) := by decide +kernel
theorem dX1_sameAs_15 : decode cX1_sameAs 15 = .ok (.iload_n 2, 1) := by decide +kernel
theorem dX1_sameAs_16 : decode cX1_sameAs 16 = .ok (.bipush 16, 2) := by decide +kernel
theorem dX1_sameAs_18 : decode cX1_sameAs 18 = .ok (.if_icmp .ge 47, 3) := by decide +kernel
theorem dX1_sameAs_21 : decode cX1_sameAs 21 = .ok (.iconst 0, 1) := by decide +kernel
theorem dX1_sameAs_22 : decode cX1_sameAs 22 = .ok (.istore_n 3, 1) := by decide +kernel
theorem dX1_sameAs_23 : decode cX1_sameAs 23 = .ok (.iload_n 3, 1) := by decide +kernel
theorem dX1_sameAs_24 : decode cX1_sameAs 24 = .ok (.iconst 3, 1) := by decide +kernel
theorem dX1_sameAs_25 : decode cX1_sameAs 25 = .ok (.if_icmp .ge 34, 3) := by decide +kernel
theorem dX1_sameAs_28 : decode cX1_sameAs 28 = .ok (.aload_n 0, 1) := by decide +kernel
theorem dX1_sameAs_29 : decode cX1_sameAs 29 = .ok (.iload_n 2, 1) := by decide +kernel
theorem dX1_sameAs_30 : decode cX1_sameAs 30 = .ok (.invokevirtual 34, 3) := by decide +kernel
theorem dX1_sameAs_33 : decode cX1_sameAs 33 = .ok (.ifCond .eq 20, 3) := by decide +kernel
theorem dX1_sameAs_36 : decode cX1_sameAs 36 = .ok (.aload_n 0, 1) := by decide +kernel
theorem dX1_sameAs_37 : decode cX1_sameAs 37 = .ok (.iload_n 2, 1) := by decide +kernel
theorem dX1_sameAs_38 : decode cX1_sameAs 38 = .ok (.iload_n 3, 1) := by decide +kernel
theorem dX1_sameAs_39 : decode cX1_sameAs 39 = .ok (.invokevirtual 31, 3) := by decide +kernel
theorem dX1_sameAs_42 : decode cX1_sameAs 42 = .ok (.aload_n 1, 1) := by decide +kernel
theorem dX1_sameAs_43 : decode cX1_sameAs 43 = .ok (.iload_n 2, 1) := by decide +kernel
theorem dX1_sameAs_44 : decode cX1_sameAs 44 = .ok (.iload_n 3, 1) := by decide +kernel
theorem dX1_sameAs_45 : decode cX1_sameAs 45 = .ok (.invokevirtual 31, 3) := by decide +kernel
theorem dX1_sameAs_48 : decode cX1_sameAs 48 = .ok (.if_icmp .eq 5, 3) := by decide +kernel
theorem dX1_sameAs_51 : decode cX1_sameAs 51 = .ok (.iconst 0, 1) := by decide +kernel
theorem dX1_sameAs_52 : decode cX1_sameAs 52 = .ok (.ireturn, 1) := by decide +kernel
theorem dX1_sameAs_53 : decode cX1_sameAs 53 = .ok (.iinc 3 1, 3) := by decide +kernel
theorem dX1_sameAs_56 : decode cX1_sameAs 56 = .ok (.goto (-33), 3) := by decide +kernel
theorem dX1_sameAs_59 : decode cX1_sameAs 59 = .ok (.iinc 2 1, 3) := by decide +kernel
theorem dX1_sameAs_62 : decode cX1_sameAs 62 = .ok (.goto (-47), 3) := by decide +kernel
theorem dX1_sameAs_65 : decode cX1_sameAs 65 = .ok (.iconst 1, 1) := by decide +kernel
theorem dX1_sameAs_66 : decode cX1_sameAs 66 = .ok (.ireturn, 1) := by decide +kernel
theorem dX2_init_0 : decode cX2_init 0 = .ok (.aload_n 0, 1) := by decide +kernel
theorem dX2_init_1 : decode cX2_init 1 = .ok (.invokespecial 1, 3) := by decide +kernel
theorem dX2_init_4 : decode cX2_init 4 = .ok (.aload_n 0, 1) := by decide +kernel
theorem dX2_init_5 : decode cX2_init 5 = .ok (.new 7, 3) := by decide +kernel
theorem dX2_init_8 : decode cX2_init 8 = .ok (.dup, 1) := by decide +kernel
theorem dX2_init_9 : decode cX2_init 9 = .ok (.invokespecial 9, 3) := by decide +kernel
theorem dX2_init_12 : decode cX2_init 12 = .ok (.putfield 10, 3) := by decide +kernel
theorem dX2_init_15 : decode cX2_init 15 = .ok (.aload_n 0, 1) := by decide +kernel
theorem dX2_init_16 : decode cX2_init 16 = .ok (.new 7, 3) := by decide +kernel
theorem dX2_init_19 : decode cX2_init 19 = .ok (.dup, 1) := by decide +kernel
theorem dX2_init_20 : decode cX2_init 20 = .ok (.invokespecial 9, 3) := by decide +kernel
theorem dX2_init_23 : decode cX2_init 23 = .ok (.putfield 16, 3) := by decide +kernel
theorem dX2_init_26 : decode cX2_init 26 = .ok (.aload_n 0, 1) := by decide +kernel
theorem dX2_init_27 : decode cX2_init 27 = .ok (.bipush 40, 2) := by decide +kernel
theorem dX2_init_29 : decode cX2_init 29 = .ok (.anewarray 19, 3) := by decide +kernel
theorem dX2_init_32 : decode cX2_init 32 = .ok (.putfield 21, 3) := by decide +kernel
theorem dX2_init_35 : decode cX2_init 35 = .ok (.aload_n 0, 1) := by decide +kernel
theorem dX2_init_36 : decode cX2_init 36 = .ok (.bipush 40, 2) := by decide +kernel
theorem dX2_init_38 : decode cX2_init 38 = .ok (.newarray .long, 2) := by decide +kernel
theorem dX2_init_40 : decode cX2_init 40 = .ok (.putfield 25, 3) := by decide +kernel
theorem dX2_init_43 : decode cX2_init 43 = .ok (.aload_n 0, 1) := by decide +kernel
theorem dX2_init_44 : decode cX2_init 44 = .ok (.iconst 1, 1) := by decide +kernel
theorem dX2_init_45 : decode cX2_init 45 = .ok (.putfield 29, 3) := by decide +kernel
theorem dX2_init_48 : decode cX2_init 48 = .ok (.aload_n 0, 1) := by decide +kernel
theorem dX2_init_49 : decode cX2_init 49 = .ok (.bipush 16, 2) := by decide +kernel
theorem dX2_init_51 : decode cX2_init 51 = .ok (.newarray .int, 2) := by decide +kernel
theorem dX2_init_53 : decode cX2_init 53 = .ok (.putfield 33, 3) := by decide +kernel
theorem dX2_init_56 : decode cX2_init 56 = .ok (.aload_n 0, 1) := by decide +kernel
theorem dX2_init_57 : decode cX2_init 57 = .ok (.iconst 1, 1) := by decide +kernel
theorem dX2_init_58 : decode cX2_init 58 = .ok (.putfield 37, 3) := by decide +kernel
theorem dX2_init_61 : decode cX2_init 61 = .ok (.aload_n 0, 1) := by decide +kernel
theorem dX2_init_62 : decode cX2_init 62 = .ok (.iconst 1, 1) := by decide +kernel
theorem dX2_init_63 : decode cX2_init 63 = .ok (.putfield 40, 3) := by decide +kernel
theorem dX2_init_66 : decode cX2_init 66 = .ok (.aload_n 0, 1) := by decide +kernel
theorem dX2_init_67 : decode cX2_init 67 = .ok (.new 19, 3) := by decide +kernel
theorem dX2_init_70 : decode cX2_init 70 = .ok (.dup, 1) := by decide +kernel
theorem dX2_init_71 : decode cX2_init 71 = .ok (.invokespecial 43, 3) := by decide +kernel
theorem dX2_init_74 : decode cX2_init 74 = .ok (.putfield 44, 3) := by decide +kernel
theorem dX2_init_77 : decode cX2_init 77 = .ok (.iconst 0, 1) := by decide +kernel
theorem dX2_init_78 : decode cX2_init 78 = .ok (.istore_n 1, 1) := by decide +kernel
theorem dX2_init_79 : decode cX2_init 79 = .ok (.iload_n 1, 1) := by decide +kernel
theorem dX2_init_80 : decode cX2_init 80 = .ok (.bipush 40, 2) := by decide +kernel
theorem dX2_init_82 : decode cX2_init 82 = .ok (.if_icmp .ge 22, 3) := by decide +kernel
theorem dX2_init_85 : decode cX2_init 85 = .ok (.aload_n 0, 1) := by decide +kernel
theorem dX2_init_86 : decode cX2_init 86 = .ok (.getfield 21, 3) := by decide +kernel
theorem dX2_init_89 : decode cX2_init 89 = .ok (.iload_n 1, 1) := by decide +kernel
theorem dX2_init_90 : decode cX2_init 90 = .ok (.new 19, 3) := by decide +kernel
theorem dX2_init_93 : decode cX2_init 93 = .ok (.dup, 1) := by decide +kernel
theorem dX2_init_94 : decode cX2_init 94 = .ok (.invokespecial 43, 3) := by decide +kernel
theorem dX2_init_97 : decode cX2_init 97 = .ok (.aastore, 1) := by decide +kernel
theorem dX2_init_98 : decode cX2_init 98 = .ok (.iinc 1 1, 3) := by decide +kernel
theorem dX2_init_101 : decode cX2_init 101 = .ok (.goto (-22), 3) := by decide +kernel
theorem dX2_init_104 : decode cX2_init 104 = .ok (.return_, 1) := by decide +kernel
theorem dX2_open_0 : decode cX2_open 0 = .ok (.aload_n 0, 1) := by decide +kernel
theorem dX2_open_1 : decode cX2_open 1 = .ok (.iload_n 1, 1) := by decide +kernel
theorem dX2_open_2 : decode cX2_open 2 = .ok (.invokevirtual 48, 3) := by decide +kernel
theorem dX2_open_5 : decode cX2_open 5 = .ok (.astore_n 3, 1) := by decide +kernel
theorem dX2_open_6 : decode cX2_open 6 = .ok (.aload_n 0, 1) := by decide +kernel
theorem dX2_open_7 : decode cX2_open 7 = .ok (.aload_n 3, 1) := by decide +kernel
theorem dX2_open_8 : decode cX2_open 8 = .ok (.iload_n 2, 1) := by decide +kernel
theorem dX2_open_9 : decode cX2_open 9 = .ok (.invokevirtual 52, 3) := by decide +kernel
theorem dX2_open_12 : decode cX2_open 12 = .ok (.aload_n 3, 1) := by decide +kernel
theorem dX2_open_13 : decode cX2_open 13 = .ok (.getfield 56, 3) := by decide +kernel
theorem dX2_open_16 : decode cX2_open 16 = .ok (.aload_n 0, 1) := by decide +kernel
theorem dX2_open_17 : decode cX2_open 17 = .ok (.getfield 21, 3) := by decide +kernel
theorem dX2_open_20 : decode cX2_open 20 = .ok (.iload_n 2, 1) := by decide +kernel
theorem dX2_open_21 : decode cX2_open 21 = .ok (.aaload, 1) := by decide +kernel
theorem dX2_open_22 : decode cX2_open 22 = .ok (.invokevirtual 59, 3) := by decide +kernel
theorem dX2_open_25 : decode cX2_open 25 = .ok (.aload_n 3, 1) := by decide +kernel
theorem dX2_open_26 : decode cX2_open 26 = .ok (.iload_n 2, 1) := by decide +kernel
theorem dX2_open_27 : decode cX2_open 27 = .ok (.putfield 63, 3) := by decide +kernel
theorem dX2_open_30 : decode cX2_open 30 = .ok (.return_, 1) := by decide +kernel
theorem dX2_add_0 : decode cX2_add 0 = .ok (.aload_n 0, 1) := by decide +kernel
theorem dX2_add_1 : decode cX2_add 1 = .ok (.iload_n 1, 1) := by decide +kernel
theorem dX2_add_2 : decode cX2_add 2 = .ok (.invokevirtual 66, 3) := by decide +kernel
theorem dX2_add_5 : decode cX2_add 5 = .ok (.astore 5, 2) := by decide +kernel
theorem dX2_add_7 : decode cX2_add 7 = .ok (.aload 5, 2) := by decide +kernel
theorem dX2_add_9 : decode cX2_add 9 = .ok (.iload_n 2, 1) := by decide +kernel
theorem dX2_add_10 : decode cX2_add 10 = .ok (.invokestatic 70, 3) := by decide +kernel
theorem dX2_add_13 : decode cX2_add 13 = .ok (.aload_n 0, 1) := by decide +kernel
theorem dX2_add_14 : decode cX2_add 14 = .ok (.iload_n 2, 1) := by decide +kernel
theorem dX2_add_15 : decode cX2_add 15 = .ok (.iload_n 3, 1) := by decide +kernel
theorem dX2_add_16 : decode cX2_add 16 = .ok (.invokevirtual 74, 3) := by decide +kernel
theorem dX2_add_19 : decode cX2_add 19 = .ok (.iload_n 2, 1) := by decide +kernel
theorem dX2_add_20 : decode cX2_add 20 = .ok (.iload_n 3, 1) := by decide +kernel
theorem dX2_add_21 : decode cX2_add 21 = .ok (.invokestatic 78, 3) := by decide +kernel
theorem dX2_add_24 : decode cX2_add 24 = .ok (.istore 6, 2) := by decide +kernel
theorem dX2_add_26 : decode cX2_add 26 = .ok (.aload 5, 2) := by decide +kernel
theorem dX2_add_28 : decode cX2_add 28 = .ok (.iload 6, 2) := by decide +kernel
theorem dX2_add_30 : decode cX2_add 30 = .ok (.invokevirtual 82, 3) := by decide +kernel
theorem dX2_add_33 : decode cX2_add 33 = .ok (.iconst (-1), 1) := by decide +kernel
theorem dX2_add_34 : decode cX2_add 34 = .ok (.if_icmp .eq 13, 3) := by decide +kernel
theorem dX2_add_37 : decode cX2_add 37 = .ok (.new 86, 3) := by decide +kernel
theorem dX2_add_40 : decode cX2_add 40 = .ok (.dup, 1) := by decide +kernel
theorem dX2_add_41 : decode cX2_add 41 = .ok (.ldc 88, 2) := by decide +kernel
theorem dX2_add_43 : decode cX2_add 43 = .ok (.invokespecial 90, 3) := by decide +kernel
theorem dX2_add_46 : decode cX2_add 46 = .ok (.athrow, 1) := by decide +kernel
theorem dX2_add_47 : decode cX2_add 47 = .ok (.aload_n 0, 1) := by decide +kernel
theorem dX2_add_48 : decode cX2_add 48 = .ok (.getfield 40, 3) := by decide +kernel
theorem dX2_add_51 : decode cX2_add 51 = .ok (.bipush 16, 2) := by decide +kernel
theorem dX2_add_53 : decode cX2_add 53 = .ok (.if_icmp .lt 13, 3) := by decide +kernel
theorem dX2_add_56 : decode cX2_add 56 = .ok (.new 93, 3) := by decide +kernel
theorem dX2_add_59 : decode cX2_add 59 = .ok (.dup, 1) := by decide +kernel
theorem dX2_add_60 : decode cX2_add 60 = .ok (.ldc 95, 2) := by decide +kernel
theorem dX2_add_62 : decode cX2_add 62 = .ok (.invokespecial 97, 3) := by decide +kernel
theorem dX2_add_65 : decode cX2_add 65 = .ok (.athrow, 1) := by decide +kernel
theorem dX2_add_66 : decode cX2_add 66 = .ok (.aload_n 0, 1) := by decide +kernel
theorem dX2_add_67 : decode cX2_add 67 = .ok (.getfield 40, 3) := by decide +kernel
theorem dX2_add_70 : decode cX2_add 70 = .ok (.istore 7, 2) := by decide +kernel
theorem dX2_add_72 : decode cX2_add 72 = .ok (.aload_n 0, 1) := by decide +kernel
theorem dX2_add_73 : decode cX2_add 73 = .ok (.dup, 1) := by decide +kernel
theorem dX2_add_74 : decode cX2_add 74 = .ok (.getfield 40, 3) := by decide +kernel
theorem dX2_add_77 : decode cX2_add 77 = .ok (.iconst 1, 1) := by decide +kernel
theorem dX2_add_78 : decode cX2_add 78 = .ok (.iadd, 1) := by decide +kernel
theorem dX2_add_79 : decode cX2_add 79 = .ok (.putfield 40, 3) := by decide +kernel
theorem dX2_add_82 : decode cX2_add 82 = .ok (.iload 4, 2) := by decide +kernel
theorem dX2_add_84 : decode cX2_add 84 = .ok (.ifCond .eq 16, 3) := by decide +kernel
theorem dX2_add_87 : decode cX2_add 87 = .ok (.aload_n 0, 1) := by decide +kernel
theorem dX2_add_88 : decode cX2_add 88 = .ok (.dup, 1) := by decide +kernel
theorem dX2_add_89 : decode cX2_add 89 = .ok (.getfield 37, 3) := by decide +kernel
theorem dX2_add_92 : decode cX2_add 92 = .ok (.iconst 1, 1) := by decide +kernel
theorem dX2_add_93 : decode cX2_add 93 = .ok (.iload 7, 2) := by decide +kernel
theorem dX2_add_95 : decode cX2_add 95 = .ok (.ishl, 1) := by decide +kernel
theorem dX2_add_96 : decode cX2_add 96 = .ok (.ior, 1) := by decide +kernel
theorem dX2_add_97 : decode cX2_add 97 = .ok (.putfield 37, 3) := by decide +kernel
theorem dX2_add_100 : decode cX2_add 100 = .ok (.aload 5, 2) := by decide +kernel
theorem dX2_add_102 : decode cX2_add 102 = .ok (.iload 7, 2) := by decide +kernel
theorem dX2_add_104 : decode cX2_add 104 = .ok (.iload 6, 2) := by decide +kernel
theorem dX2_add_106 : decode cX2_add 106 = .ok (.invokevirtual 98, 3) := by decide +kernel
theorem dX2_add_109 : decode cX2_add 109 = .ok (.iload 7, 2) := by decide +kernel
theorem dX2_add_111 : decode cX2_add 111 = .ok (.ireturn, 1) := by decide +kernel
theorem dX2_drop_0 : decode cX2_drop 0 = .ok (.aload_n 0, 1) := by decide +kernel
theorem dX2_drop_1 : decode cX2_drop 1 = .ok (.iload_n 1, 1) := by decide +kernel
theorem dX2_drop_2 : decode cX2_drop 2 = .ok (.invokevirtual 66, 3) := by decide +kernel
theorem dX2_drop_5 : decode cX2_drop 5 = .ok (.astore_n 3, 1) := by decide +kernel
theorem dX2_drop_6 : decode cX2_drop 6 = .ok (.aload_n 3, 1) := by decide +kernel
theorem dX2_drop_7 : decode cX2_drop 7 = .ok (.iload_n 2, 1) := by decide +kernel
theorem dX2_drop_8 : decode cX2_drop 8 = .ok (.invokestatic 70, 3) := by decide +kernel
theorem dX2_drop_11 : decode cX2_drop 11 = .ok (.iload_n 2, 1) := by decide +kernel
theorem dX2_drop_12 : decode cX2_drop 12 = .ok (.invokestatic 101, 3) := by decide +kernel
theorem dX2_drop_15 : decode cX2_drop 15 = .ok (.aload_n 3, 1) := by decide +kernel
theorem dX2_drop_16 : decode cX2_drop 16 = .ok (.iload_n 2, 1) := by decide +kernel
theorem dX2_drop_17 : decode cX2_drop 17 = .ok (.invokevirtual 105, 3) := by decide +kernel
theorem dX2_drop_20 : decode cX2_drop 20 = .ok (.ifCond .eq 13, 3) := by decide +kernel
theorem dX2_drop_23 : decode cX2_drop 23 = .ok (.new 86, 3) := by decide +kernel
theorem dX2_drop_26 : decode cX2_drop 26 = .ok (.dup, 1) := by decide +kernel
theorem dX2_drop_27 : decode cX2_drop 27 = .ok (.ldc 109, 2) := by decide +kernel
theorem dX2_drop_29 : decode cX2_drop 29 = .ok (.invokespecial 90, 3) := by decide +kernel
theorem dX2_drop_32 : decode cX2_drop 32 = .ok (.athrow, 1) := by decide +kernel
theorem dX2_drop_33 : decode cX2_drop 33 = .ok (.aload_n 3, 1) := by decide +kernel
theorem dX2_drop_34 : decode cX2_drop 34 = .ok (.iload_n 2, 1) := by decide +kernel
theorem dX2_drop_35 : decode cX2_drop 35 = .ok (.invokevirtual 111, 3) := by decide +kernel
theorem dX2_drop_38 : decode cX2_drop 38 = .ok (.return_, 1) := by decide +kernel
theorem dX2_move_0 : decode cX2_move 0 = .ok (.aload_n 0, 1) := by decide +kernel
theorem dX2_move_1 : decode cX2_move 1 = .ok (.iload_n 1, 1) := by decide +kernel
theorem dX2_move_2 : decode cX2_move 2 = .ok (.invokevirtual 66, 3) := by decide +kernel
theorem dX2_move_5 : decode cX2_move 5 = .ok (.astore 5, 2) := by decide +kernel
theorem dX2_move_7 : decode cX2_move 7 = .ok (.aload 5, 2) := by decide +kernel
theorem dX2_move_9 : decode cX2_move 9 = .ok (.iload_n 2, 1) := by decide +kernel
theorem dX2_move_10 : decode cX2_move 10 = .ok (.invokestatic 70, 3) := by decide +kernel
theorem dX2_move_13 : decode cX2_move 13 = .ok (.aload 5, 2) := by decide +kernel
theorem dX2_move_15 : decode cX2_move 15 = .ok (.iload_n 3, 1) := by decide +kernel
theorem dX2_move_16 : decode cX2_move 16 = .ok (.invokestatic 70, 3) := by decide +kernel
theorem dX2_move_19 : decode cX2_move 19 = .ok (.iload_n 2, 1) := by decide +kernel
theorem dX2_move_20 : decode cX2_move 20 = .ok (.invokestatic 101, 3) := by decide +kernel
theorem dX2_move_23 : decode cX2_move 23 = .ok (.aload_n 0, 1) := by decide +kernel
theorem dX2_move_24 : decode cX2_move 24 = .ok (.iload_n 3, 1) := by decide +kernel
theorem dX2_move_25 : decode cX2_move 25 = .ok (.iload 4, 2) := by decide +kernel
theorem dX2_move_27 : decode cX2_move 27 = .ok (.invokevirtual 74, 3) := by decide +kernel
theorem dX2_move_30 : decode cX2_move 30 = .ok (.iload_n 3, 1) := by decide +kernel
theorem dX2_move_31 : decode cX2_move 31 = .ok (.iload 4, 2) := by decide +kernel
theorem dX2_move_33 : decode cX2_move 33 = .ok (.invokestatic 78, 3) := by decide +kernel
theorem dX2_move_36 : decode cX2_move 36 = .ok (.istore 6, 2) := by decide +kernel
theorem dX2_move_38 : decode cX2_move 38 = .ok (.aload 5, 2) := by decide +kernel
theorem dX2_move_40 : decode cX2_move 40 = .ok (.iload 6, 2) := by decide +kernel
theorem dX2_move_42 : decode cX2_move 42 = .ok (.invokevirtual 82, 3) := by decide +kernel
theorem dX2_move_45 : decode cX2_move 45 = .ok (.istore 7, 2) := by decide +kernel
theorem dX2_move_47 : decode cX2_move 47 = .ok (.iload 7, 2) := by decide +kernel
theorem dX2_move_49 : decode cX2_move 49 = .ok (.iconst (-1), 1) := by decide +kernel
theorem dX2_move_50 : decode cX2_move 50 = .ok (.if_icmp .eq 19, 3) := by decide +kernel
theorem dX2_move_53 : decode cX2_move 53 = .ok (.iload 7, 2) := by decide +kernel
theorem dX2_move_55 : decode cX2_move 55 = .ok (.iload_n 2, 1) := by decide +kernel
theorem dX2_move_56 : decode cX2_move 56 = .ok (.if_icmp .eq 13, 3) := by decide +kernel
theorem dX2_move_59 : decode cX2_move 59 = .ok (.new 86, 3) := by decide +kernel
theorem dX2_move_62 : decode cX2_move 62 = .ok (.dup, 1) := by decide +kernel
theorem dX2_move_63 : decode cX2_move 63 = .ok (.ldc 114, 2) := by decide +kernel
theorem dX2_move_65 : decode cX2_move 65 = .ok (.invokespecial 90, 3) := by decide +kernel
theorem dX2_move_68 : decode cX2_move 68 = .ok (.athrow, 1) := by decide +kernel
theorem dX2_move_69 : decode cX2_move 69 = .ok (.aload 5, 2) := by decide +kernel
theorem dX2_move_71 : decode cX2_move 71 = .ok (.iload_n 3, 1) := by decide +kernel
theorem dX2_move_72 : decode cX2_move 72 = .ok (.iload_n 2, 1) := by decide +kernel
theorem dX2_move_73 : decode cX2_move 73 = .ok (.invokevirtual 116, 3) := by decide +kernel
theorem dX2_move_76 : decode cX2_move 76 = .ok (.ifCond .eq 13, 3) := by decide +kernel
theorem dX2_move_79 : decode cX2_move 79 = .ok (.new 86, 3) := by decide +kernel
theorem dX2_move_82 : decode cX2_move 82 = .ok (.dup, 1) := by decide +kernel
theorem dX2_move_83 : decode cX2_move 83 = .ok (.ldc 120, 2) := by decide +kernel
theorem dX2_move_85 : decode cX2_move 85 = .ok (.invokespecial 90, 3) := by decide +kernel
theorem dX2_move_88 : decode cX2_move 88 = .ok (.athrow, 1) := by decide +kernel
theorem dX2_move_89 : decode cX2_move 89 = .ok (.aload 5, 2) := by decide +kernel
theorem dX2_move_91 : decode cX2_move 91 = .ok (.iload_n 2, 1) := by decide +kernel
theorem dX2_move_92 : decode cX2_move 92 = .ok (.iconst 0, 1) := by decide +kernel
theorem dX2_move_93 : decode cX2_move 93 = .ok (.iload 6, 2) := by decide +kernel
theorem dX2_move_95 : decode cX2_move 95 = .ok (.invokevirtual 122, 3) := by decide +kernel
theorem dX2_move_98 : decode cX2_move 98 = .ok (.return_, 1) := by decide +kernel
theorem dX2_write_0 : decode cX2_write 0 = .ok (.aload_n 0, 1) := by decide +kernel
theorem dX2_write_1 : decode cX2_write 1 = .ok (.iload_n 1, 1) := by decide +kernel
theorem dX2_write_2 : decode cX2_write 2 = .ok (.invokevirtual 66, 3) := by decide +kernel
theorem dX2_write_5 : decode cX2_write 5 = .ok (.astore 5, 2) := by decide +kernel
theorem dX2_write_7 : decode cX2_write 7 = .ok (.aload 5, 2) := by decide +kernel
theorem dX2_write_9 : decode cX2_write 9 = .ok (.iload_n 2, 1) := by decide +kernel
theorem dX2_write_10 : decode cX2_write 10 = .ok (.invokestatic 70, 3) := by decide +kernel
theorem dX2_write_13 : decode cX2_write 13 = .ok (.iload_n 2, 1) := by decide +kernel
theorem dX2_write_14 : decode cX2_write 14 = .ok (.invokestatic 101, 3) := by decide +kernel
theorem dX2_write_17 : decode cX2_write 17 = .ok (.iload_n 3, 1) := by decide +kernel
theorem dX2_write_18 : decode cX2_write 18 = .ok (.iconst 1, 1) := by decide +kernel
theorem dX2_write_19 : decode cX2_write 19 = .ok (.if_icmp .eq 18, 3) := by decide +kernel
theorem dX2_write_22 : decode cX2_write 22 = .ok (.iload_n 3, 1) := by decide +kernel
theorem dX2_write_23 : decode cX2_write 23 = .ok (.iconst 2, 1) := by decide +kernel
theorem dX2_write_24 : decode cX2_write 24 = .ok (.if_icmp .eq 13, 3) := by decide +kernel
theorem dX2_write_27 : decode cX2_write 27 = .ok (.new 86, 3) := by decide +kernel
theorem dX2_write_30 : decode cX2_write 30 = .ok (.dup, 1) := by decide +kernel
theorem dX2_write_31 : decode cX2_write 31 = .ok (.ldc 126, 2) := by decide +kernel
theorem dX2_write_33 : decode cX2_write 33 = .ok (.invokespecial 90, 3) := by decide +kernel
theorem dX2_write_36 : decode cX2_write 36 = .ok (.athrow, 1) := by decide +kernel
theorem dX2_write_37 : decode cX2_write 37 = .ok (.iload_n 3, 1) := by decide +kernel
theorem dX2_write_38 : decode cX2_write 38 = .ok (.iconst 1, 1) := by decide +kernel
theorem dX2_write_39 : decode cX2_write 39 = .ok (.if_icmp .ne 21, 3) := by decide +kernel
theorem dX2_write_42 : decode cX2_write 42 = .ok (.aload_n 0, 1) := by decide +kernel
theorem dX2_write_43 : decode cX2_write 43 = .ok (.iload_n 2, 1) := by decide +kernel
theorem dX2_write_44 : decode cX2_write 44 = .ok (.invokevirtual 128, 3) := by decide +kernel
theorem dX2_write_47 : decode cX2_write 47 = .ok (.ifCond .eq 13, 3) := by decide +kernel
theorem dX2_write_50 : decode cX2_write 50 = .ok (.new 86, 3) := by decide +kernel
theorem dX2_write_53 : decode cX2_write 53 = .ok (.dup, 1) := by decide +kernel
theorem dX2_write_54 : decode cX2_write 54 = .ok (.ldc 131, 2) := by decide +kernel
theorem dX2_write_56 : decode cX2_write 56 = .ok (.invokespecial 90, 3) := by decide +kernel
theorem dX2_write_59 : decode cX2_write 59 = .ok (.athrow, 1) := by decide +kernel
theorem dX2_write_60 : decode cX2_write 60 = .ok (.aload 5, 2) := by decide +kernel
theorem dX2_write_62 : decode cX2_write 62 = .ok (.iload_n 2, 1) := by decide +kernel
theorem dX2_write_63 : decode cX2_write 63 = .ok (.iload_n 3, 1) := by decide +kernel
theorem dX2_write_64 : decode cX2_write 64 = .ok (.iload 4, 2) := by decide +kernel
theorem dX2_write_66 : decode cX2_write 66 = .ok (.invokevirtual 122, 3) := by decide +kernel
theorem dX2_write_69 : decode cX2_write 69 = .ok (.return_, 1) := by decide +kernel
theorem dX2_commit_0 : decode cX2_commit 0 = .ok (.aload_n 0, 1) := by decide +kernel
theorem dX2_commit_1 : decode cX2_commit 1 = .ok (.iload_n 1, 1) := by decide +kernel
theorem dX2_commit_2 : decode cX2_commit 2 = .ok (.invokevirtual 48, 3) := by decide +kernel
theorem dX2_commit_5 : decode cX2_commit 5 = .ok (.astore_n 2, 1) := by decide +kernel
theorem dX2_commit_6 : decode cX2_commit 6 = .ok (.aload_n 2, 1) := by decide +kernel
theorem dX2_commit_7 : decode cX2_commit 7 = .ok (.invokestatic 133, 3) := by decide +kernel
theorem dX2_commit_10 : decode cX2_commit 10 = .ok (.aload_n 2, 1) := by decide +kernel
theorem dX2_commit_11 : decode cX2_commit 11 = .ok (.getfield 63, 3) := by decide +kernel
theorem dX2_commit_14 : decode cX2_commit 14 = .ok (.istore_n 3, 1) := by decide +kernel
theorem dX2_commit_15 : decode cX2_commit 15 = .ok (.aload_n 2, 1) := by decide +kernel
theorem dX2_commit_16 : decode cX2_commit 16 = .ok (.getfield 56, 3) := by decide +kernel
theorem dX2_commit_19 : decode cX2_commit 19 = .ok (.aload_n 0, 1) := by decide +kernel
theorem dX2_commit_20 : decode cX2_commit 20 = .ok (.getfield 21, 3) := by decide +kernel
