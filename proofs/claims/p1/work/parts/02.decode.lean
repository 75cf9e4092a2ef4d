theorem dX0_init_0 : decode cX0_init 0 = .ok (.aload_n 0, 1) := by decide +kernel
theorem dX0_init_1 : decode cX0_init 1 = .ok (.invokespecial 5, 3) := by decide +kernel
theorem dX0_init_4 : decode cX0_init 4 = .ok (.aload_n 0, 1) := by decide +kernel
theorem dX0_init_5 : decode cX0_init 5 = .ok (.bipush 6, 2) := by decide +kernel
theorem dX0_init_7 : decode cX0_init 7 = .ok (.newarray .int, 2) := by decide +kernel
theorem dX0_init_9 : decode cX0_init 9 = .ok (.putfield 11, 3) := by decide +kernel
theorem dX0_init_12 : decode cX0_init 12 = .ok (.aload_n 0, 1) := by decide +kernel
theorem dX0_init_13 : decode cX0_init 13 = .ok (.bipush 6, 2) := by decide +kernel
theorem dX0_init_15 : decode cX0_init 15 = .ok (.newarray .int, 2) := by decide +kernel
theorem dX0_init_17 : decode cX0_init 17 = .ok (.putfield 15, 3) := by decide +kernel
theorem dX0_init_20 : decode cX0_init 20 = .ok (.aload_n 0, 1) := by decide +kernel
theorem dX0_init_21 : decode cX0_init 21 = .ok (.bipush 6, 2) := by decide +kernel
theorem dX0_init_23 : decode cX0_init 23 = .ok (.newarray .int, 2) := by decide +kernel
theorem dX0_init_25 : decode cX0_init 25 = .ok (.putfield 18, 3) := by decide +kernel
theorem dX0_init_28 : decode cX0_init 28 = .ok (.aload_n 0, 1) := by decide +kernel
theorem dX0_init_29 : decode cX0_init 29 = .ok (.sipush 1681, 3) := by decide +kernel
theorem dX0_init_32 : decode cX0_init 32 = .ok (.newarray .int, 2) := by decide +kernel
theorem dX0_init_34 : decode cX0_init 34 = .ok (.putfield 21, 3) := by decide +kernel
theorem dX0_init_37 : decode cX0_init 37 = .ok (.aload_n 0, 1) := by decide +kernel
theorem dX0_init_38 : decode cX0_init 38 = .ok (.iconst 0, 1) := by decide +kernel
theorem dX0_init_39 : decode cX0_init 39 = .ok (.putfield 24, 3) := by decide +kernel
theorem dX0_init_42 : decode cX0_init 42 = .ok (.return_, 1) := by decide +kernel
theorem dX0_addKind_0 : decode cX0_addKind 0 = .ok (.iload_n 1, 1) := by decide +kernel
theorem dX0_addKind_1 : decode cX0_addKind 1 = .ok (.iconst 1, 1) := by decide +kernel
theorem dX0_addKind_2 : decode cX0_addKind 2 = .ok (.bipush 40, 2) := by decide +kernel
theorem dX0_addKind_4 : decode cX0_addKind 4 = .ok (.invokestatic 28, 3) := by decide +kernel
theorem dX0_addKind_7 : decode cX0_addKind 7 = .ok (.ifCond .eq 33, 3) := by decide +kernel
theorem dX0_addKind_10 : decode cX0_addKind 10 = .ok (.iload_n 2, 1) := by decide +kernel
theorem dX0_addKind_11 : decode cX0_addKind 11 = .ok (.iconst 1, 1) := by decide +kernel
theorem dX0_addKind_12 : decode cX0_addKind 12 = .ok (.bipush 40, 2) := by decide +kernel
theorem dX0_addKind_14 : decode cX0_addKind 14 = .ok (.invokestatic 28, 3) := by decide +kernel
theorem dX0_addKind_17 : decode cX0_addKind 17 = .ok (.ifCond .eq 23, 3) := by decide +kernel
theorem dX0_addKind_20 : decode cX0_addKind 20 = .ok (.iload_n 3, 1) := by decide +kernel
theorem dX0_addKind_21 : decode cX0_addKind 21 = .ok (.iconst 0, 1) := by decide +kernel
theorem dX0_addKind_22 : decode cX0_addKind 22 = .ok (.sipush 999, 3) := by decide +kernel
theorem dX0_addKind_25 : decode cX0_addKind 25 = .ok (.invokestatic 28, 3) := by decide +kernel
theorem dX0_addKind_28 : decode cX0_addKind 28 = .ok (.ifCond .eq 12, 3) := by decide +kernel
theorem dX0_addKind_31 : decode cX0_addKind 31 = .ok (.aload_n 0, 1) := by decide +kernel
theorem dX0_addKind_32 : decode cX0_addKind 32 = .ok (.getfield 24, 3) := by decide +kernel
theorem dX0_addKind_35 : decode cX0_addKind 35 = .ok (.bipush 6, 2) := by decide +kernel
theorem dX0_addKind_37 : decode cX0_addKind 37 = .ok (.if_icmp .lt 5, 3) := by decide +kernel
theorem dX0_addKind_40 : decode cX0_addKind 40 = .ok (.iconst (-1), 1) := by decide +kernel
theorem dX0_addKind_41 : decode cX0_addKind 41 = .ok (.ireturn, 1) := by decide +kernel
theorem dX0_addKind_42 : decode cX0_addKind 42 = .ok (.aload_n 0, 1) := by decide +kernel
theorem dX0_addKind_43 : decode cX0_addKind 43 = .ok (.getfield 11, 3) := by decide +kernel
theorem dX0_addKind_46 : decode cX0_addKind 46 = .ok (.aload_n 0, 1) := by decide +kernel
theorem dX0_addKind_47 : decode cX0_addKind 47 = .ok (.getfield 24, 3) := by decide +kernel
theorem dX0_addKind_50 : decode cX0_addKind 50 = .ok (.iload_n 1, 1) := by decide +kernel
theorem dX0_addKind_51 : decode cX0_addKind 51 = .ok (.iastore, 1) := by decide +kernel
theorem dX0_addKind_52 : decode cX0_addKind 52 = .ok (.aload_n 0, 1) := by decide +kernel
theorem dX0_addKind_53 : decode cX0_addKind 53 = .ok (.getfield 15, 3) := by decide +kernel
theorem dX0_addKind_56 : decode cX0_addKind 56 = .ok (.aload_n 0, 1) := by decide +kernel
theorem dX0_addKind_57 : decode cX0_addKind 57 = .ok (.getfield 24, 3) := by decide +kernel
theorem dX0_addKind_60 : decode cX0_addKind 60 = .ok (.iload_n 2, 1) := by decide +kernel
theorem dX0_addKind_61 : decode cX0_addKind 61 = .ok (.iastore, 1) := by decide +kernel
theorem dX0_addKind_62 : decode cX0_addKind 62 = .ok (.aload_n 0, 1) := by decide +kernel
theorem dX0_addKind_63 : decode cX0_addKind 63 = .ok (.getfield 18, 3) := by decide +kernel
theorem dX0_addKind_66 : decode cX0_addKind 66 = .ok (.aload_n 0, 1) := by decide +kernel
theorem dX0_addKind_67 : decode cX0_addKind 67 = .ok (.getfield 24, 3) := by decide +kernel
theorem dX0_addKind_70 : decode cX0_addKind 70 = .ok (.iload_n 3, 1) := by decide +kernel
theorem dX0_addKind_71 : decode cX0_addKind 71 = .ok (.iastore, 1) := by decide +kernel
theorem dX0_addKind_72 : decode cX0_addKind 72 = .ok (.aload_n 0, 1) := by decide +kernel
theorem dX0_addKind_73 : decode cX0_addKind 73 = .ok (.dup, 1) := by decide +kernel
theorem dX0_addKind_74 : decode cX0_addKind 74 = .ok (.getfield 24, 3) := by decide +kernel
theorem dX0_addKind_77 : decode cX0_addKind 77 = .ok (.iconst 1, 1) := by decide +kernel
theorem dX0_addKind_78 : decode cX0_addKind 78 = .ok (.iadd, 1) := by decide +kernel
theorem dX0_addKind_79 : decode cX0_addKind 79 = .ok (.putfield 24, 3) := by decide +kernel
theorem dX0_addKind_82 : decode cX0_addKind 82 = .ok (.aload_n 0, 1) := by decide +kernel
theorem dX0_addKind_83 : decode cX0_addKind 83 = .ok (.invokevirtual 32, 3) := by decide +kernel
theorem dX0_addKind_86 : decode cX0_addKind 86 = .ok (.aload_n 0, 1) := by decide +kernel
theorem dX0_addKind_87 : decode cX0_addKind 87 = .ok (.getfield 24, 3) := by decide +kernel
theorem dX0_addKind_90 : decode cX0_addKind 90 = .ok (.iconst 1, 1) := by decide +kernel
theorem dX0_addKind_91 : decode cX0_addKind 91 = .ok (.isub, 1) := by decide +kernel
theorem dX0_addKind_92 : decode cX0_addKind 92 = .ok (.ireturn, 1) := by decide +kernel
theorem dX0_greatestWorth_0 : decode cX0_greatestWorth 0 = .ok (.iload_n 1, 1) := by decide +kernel
theorem dX0_greatestWorth_1 : decode cX0_greatestWorth 1 = .ok (.iconst 0, 1) := by decide +kernel
theorem dX0_greatestWorth_2 : decode cX0_greatestWorth 2 = .ok (.bipush 40, 2) := by decide +kernel
theorem dX0_greatestWorth_4 : decode cX0_greatestWorth 4 = .ok (.invokestatic 28, 3) := by decide +kernel
theorem dX0_greatestWorth_7 : decode cX0_greatestWorth 7 = .ok (.ifCond .eq 13, 3) := by decide +kernel
theorem dX0_greatestWorth_10 : decode cX0_greatestWorth 10 = .ok (.iload_n 2, 1) := by decide +kernel
theorem dX0_greatestWorth_11 : decode cX0_greatestWorth 11 = .ok (.iconst 0, 1) := by decide +kernel
theorem dX0_greatestWorth_12 : decode cX0_greatestWorth 12 = .ok (.bipush 40, 2) := by decide +kernel
theorem dX0_greatestWorth_14 : decode cX0_greatestWorth 14 = .ok (.invokestatic 28, 3) := by decide +kernel
theorem dX0_greatestWorth_17 : decode cX0_greatestWorth 17 = .ok (.ifCond .ne 5, 3) := by decide +kernel
theorem dX0_greatestWorth_20 : decode cX0_greatestWorth 20 = .ok (.iconst (-1), 1) := by decide +kernel
theorem dX0_greatestWorth_21 : decode cX0_greatestWorth 21 = .ok (.ireturn, 1) := by decide +kernel
theorem dX0_greatestWorth_22 : decode cX0_greatestWorth 22 = .ok (.aload_n 0, 1) := by decide +kernel
theorem dX0_greatestWorth_23 : decode cX0_greatestWorth 23 = .ok (.getfield 21, 3) := by decide +kernel
theorem dX0_greatestWorth_26 : decode cX0_greatestWorth 26 = .ok (.iload_n 1, 1) := by decide +kernel
theorem dX0_greatestWorth_27 : decode cX0_greatestWorth 27 = .ok (.bipush 41, 2) := by decide +kernel
theorem dX0_greatestWorth_29 : decode cX0_greatestWorth 29 = .ok (.imul, 1) := by decide +kernel
theorem dX0_greatestWorth_30 : decode cX0_greatestWorth 30 = .ok (.iload_n 2, 1) := by decide +kernel
theorem dX0_greatestWorth_31 : decode cX0_greatestWorth 31 = .ok (.iadd, 1) := by decide +kernel
theorem dX0_greatestWorth_32 : decode cX0_greatestWorth 32 = .ok (.iaload, 1) := by decide +kernel
theorem dX0_greatestWorth_33 : decode cX0_greatestWorth 33 = .ok (.ireturn, 1) := by decide +kernel
theorem dX0_fillAll_0 : decode cX0_fillAll 0 = .ok (.iconst 1, 1) := by decide +kernel
theorem dX0_fillAll_1 : decode cX0_fillAll 1 = .ok (.istore_n 1, 1) := by decide +kernel
theorem dX0_fillAll_2 : decode cX0_fillAll 2 = .ok (.iload_n 1, 1) := by decide +kernel
theorem dX0_fillAll_3 : decode cX0_fillAll 3 = .ok (.bipush 40, 2) := by decide +kernel
theorem dX0_fillAll_5 : decode cX0_fillAll 5 = .ok (.if_icmp .gt 49, 3) := by decide +kernel
theorem dX0_fillAll_8 : decode cX0_fillAll 8 = .ok (.iconst 1, 1) := by decide +kernel
theorem dX0_fillAll_9 : decode cX0_fillAll 9 = .ok (.istore_n 2, 1) := by decide +kernel
theorem dX0_fillAll_10 : decode cX0_fillAll 10 = .ok (.iload_n 2, 1) := by decide +kernel
theorem dX0_fillAll_11 : decode cX0_fillAll 11 = .ok (.bipush 40, 2) := by decide +kernel
theorem dX0_fillAll_13 : decode cX0_fillAll 13 = .ok (.if_icmp .gt 35, 3) := by decide +kernel
theorem dX0_fillAll_16 : decode cX0_fillAll 16 = .ok (.aload_n 0, 1) := by decide +kernel
theorem dX0_fillAll_17 : decode cX0_fillAll 17 = .ok (.getfield 21, 3) := by decide +kernel
theorem dX0_fillAll_20 : decode cX0_fillAll 20 = .ok (.iload_n 1, 1) := by decide +kernel
theorem dX0_fillAll_21 : decode cX0_fillAll 21 = .ok (.bipush 41, 2) := by decide +kernel
theorem dX0_fillAll_23 : decode cX0_fillAll 23 = .ok (.imul, 1) := by decide +kernel
theorem dX0_fillAll_24 : decode cX0_fillAll 24 = .ok (.iload_n 2, 1) := by decide +kernel
theorem dX0_fillAll_25 : decode cX0_fillAll 25 = .ok (.iadd, 1) := by decide +kernel
theorem dX0_fillAll_26 : decode cX0_fillAll 26 = .ok (.aload_n 0, 1) := by decide +kernel
theorem dX0_fillAll_27 : decode cX0_fillAll 27 = .ok (.iload_n 1, 1) := by decide +kernel
theorem dX0_fillAll_28 : decode cX0_fillAll 28 = .ok (.iload_n 2, 1) := by decide +kernel
theorem dX0_fillAll_29 : decode cX0_fillAll 29 = .ok (.invokevirtual 35, 3) := by decide +kernel
theorem dX0_fillAll_32 : decode cX0_fillAll 32 = .ok (.aload_n 0, 1) := by decide +kernel
theorem dX0_fillAll_33 : decode cX0_fillAll 33 = .ok (.iload_n 1, 1) := by decide +kernel
theorem dX0_fillAll_34 : decode cX0_fillAll 34 = .ok (.iload_n 2, 1) := by decide +kernel
theorem dX0_fillAll_35 : decode cX0_fillAll 35 = .ok (.invokevirtual 39, 3) := by decide +kernel
theorem dX0_fillAll_38 : decode cX0_fillAll 38 = .ok (.invokestatic 42, 3) := by decide +kernel
theorem dX0_fillAll_41 : decode cX0_fillAll 41 = .ok (.iastore, 1) := by decide +kernel
theorem dX0_fillAll_42 : decode cX0_fillAll 42 = .ok (.iinc 2 1, 3) := by decide +kernel
theorem dX0_fillAll_45 : decode cX0_fillAll 45 = .ok (.goto (-35), 3) := by decide +kernel
theorem dX0_fillAll_48 : decode cX0_fillAll 48 = .ok (.iinc 1 1, 3) := by decide +kernel
theorem dX0_fillAll_51 : decode cX0_fillAll 51 = .ok (.goto (-49), 3) := by decide +kernel
theorem dX0_fillAll_54 : decode cX0_fillAll 54 = .ok (.return_, 1) := by decide +kernel
theorem dX0_bestKind_0 : decode cX0_bestKind 0 = .ok (.iconst 0, 1) := by decide +kernel
theorem dX0_bestKind_1 : decode cX0_bestKind 1 = .ok (.istore_n 3, 1) := by decide +kernel
theorem dX0_bestKind_2 : decode cX0_bestKind 2 = .ok (.iconst 0, 1) := by decide +kernel
theorem dX0_bestKind_3 : decode cX0_bestKind 3 = .ok (.istore 4, 2) := by decide +kernel
theorem dX0_bestKind_5 : decode cX0_bestKind 5 = .ok (.iload 4, 2) := by decide +kernel
theorem dX0_bestKind_7 : decode cX0_bestKind 7 = .ok (.aload_n 0, 1) := by decide +kernel
theorem dX0_bestKind_8 : decode cX0_bestKind 8 = .ok (.getfield 24, 3) := by decide +kernel
theorem dX0_bestKind_11 : decode cX0_bestKind 11 = .ok (.if_icmp .ge 89, 3) := by decide +kernel
theorem dX0_bestKind_14 : decode cX0_bestKind 14 = .ok (.aload_n 0, 1) := by decide +kernel
theorem dX0_bestKind_15 : decode cX0_bestKind 15 = .ok (.getfield 11, 3) := by decide +kernel
theorem dX0_bestKind_18 : decode cX0_bestKind 18 = .ok (.iload 4, 2) := by decide +kernel
theorem dX0_bestKind_20 : decode cX0_bestKind 20 = .ok (.iaload, 1) := by decide +kernel
theorem dX0_bestKind_21 : decode cX0_bestKind 21 = .ok (.iload_n 1, 1) := by decide +kernel
theorem dX0_bestKind_22 : decode cX0_bestKind 22 = .ok (.if_icmp .ne 18, 3) := by decide +kernel
theorem dX0_bestKind_25 : decode cX0_bestKind 25 = .ok (.aload_n 0, 1) := by decide +kernel
theorem dX0_bestKind_26 : decode cX0_bestKind 26 = .ok (.getfield 15, 3) := by decide +kernel
theorem dX0_bestKind_29 : decode cX0_bestKind 29 = .ok (.iload 4, 2) := by decide +kernel
theorem dX0_bestKind_31 : decode cX0_bestKind 31 = .ok (.iaload, 1) := by decide +kernel
theorem dX0_bestKind_32 : decode cX0_bestKind 32 = .ok (.iload_n 2, 1) := by decide +kernel
theorem dX0_bestKind_33 : decode cX0_bestKind 33 = .ok (.if_icmp .ne 7, 3) := by decide +kernel
theorem dX0_bestKind_36 : decode cX0_bestKind 36 = .ok (.iconst 1, 1) := by decide +kernel
theorem dX0_bestKind_37 : decode cX0_bestKind 37 = .ok (.goto 4, 3) := by decide +kernel
theorem dX0_bestKind_40 : decode cX0_bestKind 40 = .ok (.iconst 0, 1) := by decide +kernel
theorem dX0_bestKind_41 : decode cX0_bestKind 41 = .ok (.istore 5, 2) := by decide +kernel
theorem dX0_bestKind_43 : decode cX0_bestKind 43 = .ok (.aload_n 0, 1) := by decide +kernel
theorem dX0_bestKind_44 : decode cX0_bestKind 44 = .ok (.getfield 11, 3) := by decide +kernel
theorem dX0_bestKind_47 : decode cX0_bestKind 47 = .ok (.iload 4, 2) := by decide +kernel
theorem dX0_bestKind_49 : decode cX0_bestKind 49 = .ok (.iaload, 1) := by decide +kernel
theorem dX0_bestKind_50 : decode cX0_bestKind 50 = .ok (.iload_n 2, 1) := by decide +kernel
theorem dX0_bestKind_51 : decode cX0_bestKind 51 = .ok (.if_icmp .ne 18, 3) := by decide +kernel
theorem dX0_bestKind_54 : decode cX0_bestKind 54 = .ok (.aload_n 0, 1) := by decide +kernel
theorem dX0_bestKind_55 : decode cX0_bestKind 55 = .ok (.getfield 15, 3) := by decide +kernel
theorem dX0_bestKind_58 : decode cX0_bestKind 58 = .ok (.iload 4, 2) := by decide +kernel
theorem dX0_bestKind_60 : decode cX0_bestKind 60 = .ok (.iaload, 1) := by decide +kernel
theorem dX0_bestKind_61 : decode cX0_bestKind 61 = .ok (.iload_n 1, 1) := by decide +kernel
theorem dX0_bestKind_62 : decode cX0_bestKind 62 = .ok (.if_icmp .ne 7, 3) := by decide +kernel
theorem dX0_bestKind_65 : decode cX0_bestKind 65 = .ok (.iconst 1, 1) := by decide +kernel
theorem dX0_bestKind_66 : decode cX0_bestKind 66 = .ok (.goto 4, 3) := by decide +kernel
theorem dX0_bestKind_69 : decode cX0_bestKind 69 = .ok (.iconst 0, 1) := by decide +kernel
theorem dX0_bestKind_70 : decode cX0_bestKind 70 = .ok (.istore 6, 2) := by decide +kernel
theorem dX0_bestKind_72 : decode cX0_bestKind 72 = .ok (.iload 5, 2) := by decide +kernel
theorem dX0_bestKind_74 : decode cX0_bestKind 74 = .ok (.ifCond .ne 8, 3) := by decide +kernel
theorem dX0_bestKind_77 : decode cX0_bestKind 77 = .ok (.iload 6, 2) := by decide +kernel
theorem dX0_bestKind_79 : decode cX0_bestKind 79 = .ok (.ifCond .eq 15, 3) := by decide +kernel
theorem dX0_bestKind_82 : decode cX0_bestKind 82 = .ok (.iload_n 3, 1) := by decide +kernel
theorem dX0_bestKind_83 : decode cX0_bestKind 83 = .ok (.aload_n 0, 1) := by decide +kernel
theorem dX0_bestKind_84 : decode cX0_bestKind 84 = .ok (.getfield 18, 3) := by decide +kernel
theorem dX0_bestKind_87 : decode cX0_bestKind 87 = .ok (.iload 4, 2) := by decide +kernel
theorem dX0_bestKind_89 : decode cX0_bestKind 89 = .ok (.iaload, 1) := by decide +kernel
theorem dX0_bestKind_90 : decode cX0_bestKind 90 = .ok (.invokestatic 42, 3) := by decide +kernel
theorem dX0_bestKind_93 : decode cX0_bestKind 93 = .ok (.istore_n 3, 1) := by decide +kernel
theorem dX0_bestKind_94 : decode cX0_bestKind 94 = .ok (.iinc 4 1, 3) := by decide +kernel
theorem dX0_bestKind_97 : decode cX0_bestKind 97 = .ok (.goto (-92), 3) := by decide +kernel
theorem dX0_bestKind_100 : decode cX0_bestKind 100 = .ok (.iload_n 3, 1) := by decide +kernel
theorem dX0_bestKind_101 : decode cX0_bestKind 101 = .ok (.ireturn, 1) := by decide +kernel
theorem dX0_bestCut_0 : decode cX0_bestCut 0 = .ok (.iconst 0, 1) := by decide +kernel
theorem dX0_bestCut_1 : decode cX0_bestCut 1 = .ok (.istore_n 3, 1) := by decide +kernel
theorem dX0_bestCut_2 : decode cX0_bestCut 2 = .ok (.iconst 1, 1) := by decide +kernel
theorem dX0_bestCut_3 : decode cX0_bestCut 3 = .ok (.istore 4, 2) := by decide +kernel
theorem dX0_bestCut_5 : decode cX0_bestCut 5 = .ok (.iload 4, 2) := by decide +kernel
theorem dX0_bestCut_7 : decode cX0_bestCut 7 = .ok (.iload_n 1, 1) := by decide +kernel
theorem dX0_bestCut_8 : decode cX0_bestCut 8 = .ok (.iconst 2, 1) := by decide +kernel
theorem dX0_bestCut_9 : decode cX0_bestCut 9 = .ok (.idiv, 1) := by decide +kernel
theorem dX0_bestCut_10 : decode cX0_bestCut 10 = .ok (.if_icmp .gt 41, 3) := by decide +kernel
theorem dX0_bestCut_13 : decode cX0_bestCut 13 = .ok (.iload_n 3, 1) := by decide +kernel
theorem dX0_bestCut_14 : decode cX0_bestCut 14 = .ok (.aload_n 0, 1) := by decide +kernel
theorem dX0_bestCut_15 : decode cX0_bestCut 15 = .ok (.getfield 21, 3) := by decide +kernel
theorem dX0_bestCut_18 : decode cX0_bestCut 18 = .ok (.iload 4, 2) := by decide +kernel
theorem dX0_bestCut_20 : decode cX0_bestCut 20 = .ok (.bipush 41, 2) := by decide +kernel
theorem dX0_bestCut_22 : decode cX0_bestCut 22 = .ok (.imul, 1) := by decide +kernel
theorem dX0_bestCut_23 : decode cX0_bestCut 23 = .ok (.iload_n 2, 1) := by decide +kernel
theorem dX0_bestCut_24 : decode cX0_bestCut 24 = .ok (.iadd, 1) := by decide +kernel
theorem dX0_bestCut_25 : decode cX0_bestCut 25 = .ok (.iaload, 1) := by decide +kernel
theorem dX0_bestCut_26 : decode cX0_bestCut 26 = .ok (.aload_n 0, 1) := by decide +kernel
theorem dX0_bestCut_27 : decode cX0_bestCut 27 = .ok (.getfield 21, 3) := by decide +kernel
theorem dX0_bestCut_30 : decode cX0_bestCut 30 = .ok (.iload_n 1, 1) := by decide +kernel
theorem dX0_bestCut_31 : decode cX0_bestCut 31 = .ok (.iload 4, 2) := by decide +kernel
theorem dX0_bestCut_33 : decode cX0_bestCut 33 = .ok (.isub, 1) := by decide +kernel
theorem dX0_bestCut_34 : decode cX0_bestCut 34 = .ok (.bipush 41, 2) := by decide +kernel
theorem dX0_bestCut_36 : decode cX0_bestCut 36 = .ok (.imul, 1) := by decide +kernel
theorem dX0_bestCut_37 : decode cX0_bestCut 37 = .ok (.iload_n 2, 1) := by decide +kernel
theorem dX0_bestCut_38 : decode cX0_bestCut 38 = .ok (.iadd, 1) := by decide +kernel
theorem dX0_bestCut_39 : decode cX0_bestCut 39 = .ok (.iaload, 1) := by decide +kernel
theorem dX0_bestCut_40 : decode cX0_bestCut 40 = .ok (.iadd, 1) := by decide +kernel
theorem dX0_bestCut_41 : decode cX0_bestCut 41 = .ok (.invokestatic 42, 3) := by decide +kernel
theorem dX0_bestCut_44 : decode cX0_bestCut 44 = .ok (.istore_n 3, 1) := by decide +kernel
theorem dX0_bestCut_45 : decode cX0_bestCut 45 = .ok (.iinc 4 1, 3) := by decide +kernel
theorem dX0_bestCut_48 : decode cX0_bestCut 48 = .ok (.goto (-43), 3) := by decide +kernel
theorem dX0_bestCut_51 : decode cX0_bestCut 51 = .ok (.iconst 1, 1) := by decide +kernel
theorem dX0_bestCut_52 : decode cX0_bestCut 52 = .ok (.istore 4, 2) := by decide +kernel
theorem dX0_bestCut_54 : decode cX0_bestCut 54 = .ok (.iload 4, 2) := by decide +kernel
theorem dX0_bestCut_56 : decode cX0_bestCut 56 = .ok (.iload_n 2, 1) := by decide +kernel
theorem dX0_bestCut_57 : decode cX0_bestCut 57 = .ok (.iconst 2, 1) := by decide +kernel
theorem dX0_bestCut_58 : decode cX0_bestCut 58 = .ok (.idiv, 1) := by decide +kernel
theorem dX0_bestCut_59 : decode cX0_bestCut 59 = .ok (.if_icmp .gt 41, 3) := by decide +kernel
theorem dX0_bestCut_62 : decode cX0_bestCut 62 = .ok (.iload_n 3, 1) := by decide +kernel
theorem dX0_bestCut_63 : decode cX0_bestCut 63 = .ok (.aload_n 0, 1) := by decide +kernel
theorem dX0_bestCut_64 : decode cX0_bestCut 64 = .ok (.getfield 21, 3) := by decide +kernel
theorem dX0_bestCut_67 : decode cX0_bestCut 67 = .ok (.iload_n 1, 1) := by decide +kernel
theorem dX0_bestCut_68 : decode cX0_bestCut 68 = .ok (.bipush 41, 2) := by decide +kernel
theorem dX0_bestCut_70 : decode cX0_bestCut 70 = .ok (.imul, 1) := by decide +kernel
theorem dX0_bestCut_71 : decode cX0_bestCut 71 = .ok (.iload 4, 2) := by decide +kernel
theorem dX0_bestCut_73 : decode cX0_bestCut 73 = .ok (.iadd, 1) := by decide +kernel
theorem dX0_bestCut_74 : decode cX0_bestCut 74 = .ok (.iaload, 1) := by decide +kernel
theorem dX0_bestCut_75 : decode cX0_bestCut 75 = .ok (.aload_n 0, 1) := by decide +kernel
theorem dX0_bestCut_76 : decode cX0_bestCut 76 = .ok (.getfield 21, 3) := by decide +kernel
theorem dX0_bestCut_79 : decode cX0_bestCut 79 = .ok (.iload_n 1, 1) := by decide +kernel
theorem dX0_bestCut_80 : decode cX0_bestCut 80 = .ok (.bipush 41, 2) := by decide +kernel
theorem dX0_bestCut_82 : decode cX0_bestCut 82 = .ok (.imul, 1) := by decide +kernel
theorem dX0_bestCut_83 : decode cX0_bestCut 83 = .ok (.iload_n 2, 1) := by decide +kernel
theorem dX0_bestCut_84 : decode cX0_bestCut 84 = .ok (.iadd, 1) := by decide +kernel
theorem dX0_bestCut_85 : decode cX0_bestCut 85 = .ok (.iload 4, 2) := by decide +kernel
theorem dX0_bestCut_87 : decode cX0_bestCut 87 = .ok (.isub, 1) := by decide +kernel
theorem dX0_bestCut_88 : decode cX0_bestCut 88 = .ok (.iaload, 1) := by decide +kernel
theorem dX0_bestCut_89 : decode cX0_bestCut 89 = .ok (.iadd, 1) := by decide +kernel
theorem dX0_bestCut_90 : decode cX0_bestCut 90 = .ok (.invokestatic 42, 3) := by decide +kernel
theorem dX0_bestCut_93 : decode cX0_bestCut 93 = .ok (.istore_n 3, 1) := by decide +kernel
theorem dX0_bestCut_94 : decode cX0_bestCut 94 = .ok (.iinc 4 1, 3) := by decide +kernel
theorem dX0_bestCut_97 : decode cX0_bestCut 97 = .ok (.goto (-43), 3) := by decide +kernel
theorem dX0_bestCut_100 : decode cX0_bestCut 100 = .ok (.iload_n 3, 1) := by decide +kernel
theorem dX0_bestCut_101 : decode cX0_bestCut 101 = .ok (.ireturn, 1) := by decide +kernel
theorem dX1_init_0 : decode cX1_init 0 = .ok (.aload_n 0, 1) := by decide +kernel
theorem dX1_init_1 : decode cX1_init 1 = .ok (.invokespecial 1, 3) := by decide +kernel
theorem dX1_init_4 : decode cX1_init 4 = .ok (.aload_n 0, 1) := by decide +kernel
theorem dX1_init_5 : decode cX1_init 5 = .ok (.iconst 0, 1) := by decide +kernel
theorem dX1_init_6 : decode cX1_init 6 = .ok (.putfield 7, 3) := by decide +kernel
theorem dX1_init_9 : decode cX1_init 9 = .ok (.aload_n 0, 1) := by decide +kernel
theorem dX1_init_10 : decode cX1_init 10 = .ok (.iconst 0, 1) := by decide +kernel
theorem dX1_init_11 : decode cX1_init 11 = .ok (.putfield 13, 3) := by decide +kernel
theorem dX1_init_14 : decode cX1_init 14 = .ok (.aload_n 0, 1) := by decide +kernel
theorem dX1_init_15 : decode cX1_init 15 = .ok (.iconst 0, 1) := by decide +kernel
theorem dX1_init_16 : decode cX1_init 16 = .ok (.putfield 16, 3) := by decide +kernel
theorem dX1_init_19 : decode cX1_init 19 = .ok (.aload_n 0, 1) := by decide +kernel
theorem dX1_init_20 : decode cX1_init 20 = .ok (.iconst 5, 1) := by decide +kernel
theorem dX1_init_21 : decode cX1_init 21 = .ok (.putfield 20, 3) := by decide +kernel
theorem dX1_init_24 : decode cX1_init 24 = .ok (.aload_n 0, 1) := by decide +kernel
theorem dX1_init_25 : decode cX1_init 25 = .ok (.iconst 0, 1) := by decide +kernel
theorem dX1_init_26 : decode cX1_init 26 = .ok (.putfield 23, 3) := by decide +kernel
theorem dX1_init_29 : decode cX1_init 29 = .ok (.return_, 1) := by decide +kernel
theorem dX1_renew_0 : decode cX1_renew 0 = .ok (.aload_n 0, 1) := by decide +kernel
theorem dX1_renew_1 : decode cX1_renew 1 = .ok (.iconst 0, 1) := by decide +kernel
theorem dX1_renew_2 : decode cX1_renew 2 = .ok (.putfield 7, 3) := by decide +kernel
theorem dX1_renew_5 : decode cX1_renew 5 = .ok (.aload_n 0, 1) := by decide +kernel
theorem dX1_renew_6 : decode cX1_renew 6 = .ok (.iconst 0, 1) := by decide +kernel
theorem dX1_renew_7 : decode cX1_renew 7 = .ok (.putfield 13, 3) := by decide +kernel
theorem dX1_renew_10 : decode cX1_renew 10 = .ok (.aload_n 0, 1) := by decide +kernel
theorem dX1_renew_11 : decode cX1_renew 11 = .ok (.iconst 0, 1) := by decide +kernel
theorem dX1_renew_12 : decode cX1_renew 12 = .ok (.putfield 16, 3) := by decide +kernel
theorem dX1_renew_15 : decode cX1_renew 15 = .ok (.aload_n 0, 1) := by decide +kernel
theorem dX1_renew_16 : decode cX1_renew 16 = .ok (.iconst 5, 1) := by decide +kernel
theorem dX1_renew_17 : decode cX1_renew 17 = .ok (.putfield 20, 3) := by decide +kernel
theorem dX1_renew_20 : decode cX1_renew 20 = .ok (.aload_n 0, 1) := by decide +kernel
theorem dX1_renew_21 : decode cX1_renew 21 = .ok (.iconst 0, 1) := by decide +kernel
theorem dX1_renew_22 : decode cX1_renew 22 = .ok (.putfield 23, 3) := by decide +kernel
theorem dX1_renew_25 : decode cX1_renew 25 = .ok (.return_, 1) := by decide +kernel
theorem dX2_init_0 : decode cX2_init 0 = .ok (.aload_n 0, 1) := by decide +kernel
theorem dX2_init_1 : decode cX2_init 1 = .ok (.invokespecial 1, 3) := by decide +kernel
theorem dX2_init_4 : decode cX2_init 4 = .ok (.aload_n 0, 1) := by decide +kernel
theorem dX2_init_5 : decode cX2_init 5 = .ok (.sipush 192, 3) := by decide +kernel
theorem dX2_init_8 : decode cX2_init 8 = .ok (.newarray .int, 2) := by decide +kernel
theorem dX2_init_10 : decode cX2_init 10 = .ok (.putfield 9, 3) := by decide +kernel
theorem dX2_init_13 : decode cX2_init 13 = .ok (.aload_n 0, 1) := by decide +kernel
theorem dX2_init_14 : decode cX2_init 14 = .ok (.sipush 192, 3) := by decide +kernel
theorem dX2_init_17 : decode cX2_init 17 = .ok (.newarray .int, 2) := by decide +kernel
theorem dX2_init_19 : decode cX2_init 19 = .ok (.putfield 15, 3) := by decide +kernel
theorem dX2_init_22 : decode cX2_init 22 = .ok (.aload_n 0, 1) := by decide +kernel
theorem dX2_init_23 : decode cX2_init 23 = .ok (.iconst 0, 1) := by decide +kernel
theorem dX2_init_24 : decode cX2_init 24 = .ok (.putfield 18, 3) := by decide +kernel
theorem dX2_init_27 : decode cX2_init 27 = .ok (.aload_n 0, 1) := by decide +kernel
theorem dX2_init_28 : decode cX2_init 28 = .ok (.iconst 0, 1) := by decide +kernel
theorem dX2_init_29 : decode cX2_init 29 = .ok (.putfield 22, 3) := by decide +kernel
theorem dX2_init_32 : decode cX2_init 32 = .ok (.aload_n 0, 1) := by decide +kernel
theorem dX2_init_33 : decode cX2_init 33 = .ok (.iconst 0, 1) := by decide +kernel
theorem dX2_init_34 : decode cX2_init 34 = .ok (.putfield 25, 3) := by decide +kernel
theorem dX2_init_37 : decode cX2_init 37 = .ok (.return_, 1) := by decide +kernel
theorem dX3_init_0 : decode cX3_init 0 = .ok (.aload_n 0, 1) := by decide +kernel
theorem dX3_init_1 : decode cX3_init 1 = .ok (.invokespecial 5, 3) := by decide +kernel
theorem dX3_init_4 : decode cX3_init 4 = .ok (.aload_n 0, 1) := by decide +kernel
theorem dX3_init_5 : decode cX3_init 5 = .ok (.iconst 0, 1) := by decide +kernel
theorem dX3_init_6 : decode cX3_init 6 = .ok (.putfield 11, 3) := by decide +kernel
theorem dX3_init_9 : decode cX3_init 9 = .ok (.aload_n 0, 1) := by decide +kernel
theorem dX3_init_10 : decode cX3_init 10 = .ok (.iconst 0, 1) := by decide +kernel
theorem dX3_init_11 : decode cX3_init 11 = .ok (.putfield 15, 3) := by decide +kernel
theorem dX3_init_14 : decode cX3_init 14 = .ok (.aload_n 0, 1) := by decide +kernel
theorem dX3_init_15 : decode cX3_init 15 = .ok (.iconst 0, 1) := by decide +kernel
theorem dX3_init_16 : decode cX3_init 16 = .ok (.putfield 18, 3) := by decide +kernel
theorem dX3_init_19 : decode cX3_init 19 = .ok (.aload_n 0, 1) := by decide +kernel
theorem dX3_init_20 : decode cX3_init 20 = .ok (.iconst 0, 1) := by decide +kernel
theorem dX3_init_21 : decode cX3_init 21 = .ok (.putfield 21, 3) := by decide +kernel
theorem dX3_init_24 : decode cX3_init 24 = .ok (.aload_n 0, 1) := by decide +kernel
theorem dX3_init_25 : decode cX3_init 25 = .ok (.iconst 1, 1) := by decide +kernel
theorem dX3_init_26 : decode cX3_init 26 = .ok (.putfield 24, 3) := by decide +kernel
theorem dX3_init_29 : decode cX3_init 29 = .ok (.aload_n 0, 1) := by decide +kernel
theorem dX3_init_30 : decode cX3_init 30 = .ok (.iconst 0, 1) := by decide +kernel
theorem dX3_init_31 : decode cX3_init 31 = .ok (.putfield 27, 3) := by decide +kernel
theorem dX3_init_34 : decode cX3_init 34 = .ok (.aload_n 0, 1) := by decide +kernel
theorem dX3_init_35 : decode cX3_init 35 = .ok (.iconst 0, 1) := by decide +kernel
theorem dX3_init_36 : decode cX3_init 36 = .ok (.putfield 30, 3) := by decide +kernel
theorem dX3_init_39 : decode cX3_init 39 = .ok (.aload_n 0, 1) := by decide +kernel
theorem dX3_init_40 : decode cX3_init 40 = .ok (.lconst 0, 1) := by decide +kernel
theorem dX3_init_41 : decode cX3_init 41 = .ok (.putfield 33, 3) := by decide +kernel
theorem dX3_init_44 : decode cX3_init 44 = .ok (.aload_n 0, 1) := by decide +kernel
theorem dX3_init_45 : decode cX3_init 45 = .ok (.lconst 0, 1) := by decide +kernel
theorem dX3_init_46 : decode cX3_init 46 = .ok (.putfield 37, 3) := by decide +kernel
theorem dX3_init_49 : decode cX3_init 49 = .ok (.aload_n 0, 1) := by decide +kernel
theorem dX3_init_50 : decode cX3_init 50 = .ok (.lconst 0, 1) := by decide +kernel
theorem dX3_init_51 : decode cX3_init 51 = .ok (.putfield 40, 3) := by decide +kernel
theorem dX3_init_54 : decode cX3_init 54 = .ok (.aload_n 0, 1) := by decide +kernel
theorem dX3_init_55 : decode cX3_init 55 = .ok (.new 43, 3) := by decide +kernel
theorem dX3_init_58 : decode cX3_init 58 = .ok (.dup, 1) := by decide +kernel
theorem dX3_init_59 : decode cX3_init 59 = .ok (.invokespecial 45, 3) := by decide +kernel
theorem dX3_init_62 : decode cX3_init 62 = .ok (.putfield 46, 3) := by decide +kernel
theorem dX3_init_65 : decode cX3_init 65 = .ok (.aload_n 0, 1) := by decide +kernel
theorem dX3_init_66 : decode cX3_init 66 = .ok (.sipush 192, 3) := by decide +kernel
theorem dX3_init_69 : decode cX3_init 69 = .ok (.newarray .int, 2) := by decide +kernel
theorem dX3_init_71 : decode cX3_init 71 = .ok (.putfield 50, 3) := by decide +kernel
theorem dX3_init_74 : decode cX3_init 74 = .ok (.aload_n 0, 1) := by decide +kernel
theorem dX3_init_75 : decode cX3_init 75 = .ok (.sipush 192, 3) := by decide +kernel
theorem dX3_init_78 : decode cX3_init 78 = .ok (.newarray .int, 2) := by decide +kernel
theorem dX3_init_80 : decode cX3_init 80 = .ok (.putfield 54, 3) := by decide +kernel
theorem dX3_init_83 : decode cX3_init 83 = .ok (.aload_n 0, 1) := by decide +kernel
theorem dX3_init_84 : decode cX3_init 84 = .ok (.sipush 192, 3) := by decide +kernel
theorem dX3_init_87 : decode cX3_init 87 = .ok (.newarray .int, 2) := by decide +kernel
theorem dX3_init_89 : decode cX3_init 89 = .ok (.putfield 57, 3) := by decide +kernel
theorem dX3_init_92 : decode cX3_init 92 = .ok (.aload_n 0, 1) := by decide +kernel
theorem dX3_init_93 : decode cX3_init 93 = .ok (.sipush 192, 3) := by decide +kernel
theorem dX3_init_96 : decode cX3_init 96 = .ok (.newarray .int, 2) := by decide +kernel
theorem dX3_init_98 : decode cX3_init 98 = .ok (.putfield 60, 3) := by decide +kernel
theorem dX3_init_101 : decode cX3_init 101 = .ok (.aload_n 0, 1) := by decide +kernel
theorem dX3_init_102 : decode cX3_init 102 = .ok (.sipush 192, 3) := by decide +kernel
theorem dX3_init_105 : decode cX3_init 105 = .ok (.newarray .int, 2) := by decide +kernel
theorem dX3_init_107 : decode cX3_init 107 = .ok (.putfield 63, 3) := by decide +kernel
theorem dX3_init_110 : decode cX3_init 110 = .ok (.aload_n 0, 1) := by decide +kernel
theorem dX3_init_111 : decode cX3_init 111 = .ok (.sipush 192, 3) := by decide +kernel
theorem dX3_init_114 : decode cX3_init 114 = .ok (.newarray .int, 2) := by decide +kernel
theorem dX3_init_116 : decode cX3_init 116 = .ok (.putfield 66, 3) := by decide +kernel
theorem dX3_init_119 : decode cX3_init 119 = .ok (.aload_n 0, 1) := by decide +kernel
theorem dX3_init_120 : decode cX3_init 120 = .ok (.new 69, 3) := by decide +kernel
theorem dX3_init_123 : decode cX3_init 123 = .ok (.dup, 1) := by decide +kernel
theorem dX3_init_124 : decode cX3_init 124 = .ok (.invokespecial 71, 3) := by decide +kernel
theorem dX3_init_127 : decode cX3_init 127 = .ok (.putfield 72, 3) := by decide +kernel
theorem dX3_init_130 : decode cX3_init 130 = .ok (.return_, 1) := by decide +kernel
theorem dX3_renew_0 : decode cX3_renew 0 = .ok (.aload_n 0, 1) := by decide +kernel
theorem dX3_renew_1 : decode cX3_renew 1 = .ok (.iload_n 1, 1) := by decide +kernel
theorem dX3_renew_2 : decode cX3_renew 2 = .ok (.putfield 11, 3) := by decide +kernel
theorem dX3_renew_5 : decode cX3_renew 5 = .ok (.aload_n 0, 1) := by decide +kernel
theorem dX3_renew_6 : decode cX3_renew 6 = .ok (.iload_n 2, 1) := by decide +kernel
theorem dX3_renew_7 : decode cX3_renew 7 = .ok (.putfield 15, 3) := by decide +kernel
theorem dX3_renew_10 : decode cX3_renew 10 = .ok (.aload_n 0, 1) := by decide +kernel
theorem dX3_renew_11 : decode cX3_renew 11 = .ok (.iload_n 1, 1) := by decide +kernel
theorem dX3_renew_12 : decode cX3_renew 12 = .ok (.iload_n 2, 1) := by decide +kernel
theorem dX3_renew_13 : decode cX3_renew 13 = .ok (.imul, 1) := by decide +kernel
theorem dX3_renew_14 : decode cX3_renew 14 = .ok (.sipush 192, 3) := by decide +kernel
theorem dX3_renew_17 : decode cX3_renew 17 = .ok (.invokestatic 76, 3) := by decide +kernel
theorem dX3_renew_20 : decode cX3_renew 20 = .ok (.putfield 18, 3) := by decide +kernel
theorem dX3_renew_23 : decode cX3_renew 23 = .ok (.aload_n 0, 1) := by decide +kernel
theorem dX3_renew_24 : decode cX3_renew 24 = .ok (.iload_n 3, 1) := by decide +kernel
theorem dX3_renew_25 : decode cX3_renew 25 = .ok (.putfield 21, 3) := by decide +kernel
theorem dX3_renew_28 : decode cX3_renew 28 = .ok (.aload_n 0, 1) := by decide +kernel
theorem dX3_renew_29 : decode cX3_renew 29 = .ok (.iload 4, 2) := by decide +kernel
theorem dX3_renew_31 : decode cX3_renew 31 = .ok (.putfield 24, 3) := by decide +kernel
theorem dX3_renew_34 : decode cX3_renew 34 = .ok (.aload_n 0, 1) := by decide +kernel
theorem dX3_renew_35 : decode cX3_renew 35 = .ok (.iconst 0, 1) := by decide +kernel
theorem dX3_renew_36 : decode cX3_renew 36 = .ok (.putfield 27, 3) := by decide +kernel
theorem dX3_renew_39 : decode cX3_renew 39 = .ok (.aload_n 0, 1) := by decide +kernel
theorem dX3_renew_40 : decode cX3_renew 40 = .ok (.iconst 0, 1) := by decide +kernel
theorem dX3_renew_41 : decode cX3_renew 41 = .ok (.putfield 30, 3) := by decide +kernel
theorem dX3_renew_44 : decode cX3_renew 44 = .ok (.aload_n 0, 1) := by decide +kernel
theorem dX3_renew_45 : decode cX3_renew 45 = .ok (.lconst 0, 1) := by decide +kernel
theorem dX3_renew_46 : decode cX3_renew 46 = .ok (.putfield 33, 3) := by decide +kernel
theorem dX3_renew_49 : decode cX3_renew 49 = .ok (.aload_n 0, 1) := by decide +kernel
theorem dX3_renew_50 : decode cX3_renew 50 = .ok (.lconst 0, 1) := by decide +kernel
theorem dX3_renew_51 : decode cX3_renew 51 = .ok (.putfield 37, 3) := by decide +kernel
theorem dX3_renew_54 : decode cX3_renew 54 = .ok (.aload_n 0, 1) := by decide +kernel
theorem dX3_renew_55 : decode cX3_renew 55 = .ok (.lconst 0, 1) := by decide +kernel
theorem dX3_renew_56 : decode cX3_renew 56 = .ok (.putfield 40, 3) := by decide +kernel
theorem dX3_renew_59 : decode cX3_renew 59 = .ok (.aload_n 0, 1) := by decide +kernel
theorem dX3_renew_60 : decode cX3_renew 60 = .ok (.getfield 46, 3) := by decide +kernel
theorem dX3_renew_63 : decode cX3_renew 63 = .ok (.invokevirtual 82, 3) := by decide +kernel
theorem dX3_renew_66 : decode cX3_renew 66 = .ok (.aload_n 0, 1) := by decide +kernel
theorem dX3_renew_67 : decode cX3_renew 67 = .ok (.getfield 50, 3) := by decide +kernel
theorem dX3_renew_70 : decode cX3_renew 70 = .ok (.iconst 0, 1) := by decide +kernel
theorem dX3_renew_71 : decode cX3_renew 71 = .ok (.invokestatic 85, 3) := by decide +kernel
theorem dX3_renew_74 : decode cX3_renew 74 = .ok (.aload_n 0, 1) := by decide +kernel
theorem dX3_renew_75 : decode cX3_renew 75 = .ok (.getfield 54, 3) := by decide +kernel
theorem dX3_renew_78 : decode cX3_renew 78 = .ok (.iconst 0, 1) := by decide +kernel
theorem dX3_renew_79 : decode cX3_renew 79 = .ok (.invokestatic 85, 3) := by decide +kernel
theorem dX3_renew_82 : decode cX3_renew 82 = .ok (.aload_n 0, 1) := by decide +kernel
theorem dX3_renew_83 : decode cX3_renew 83 = .ok (.getfield 57, 3) := by decide +kernel
theorem dX3_renew_86 : decode cX3_renew 86 = .ok (.iconst 0, 1) := by decide +kernel
theorem dX3_renew_87 : decode cX3_renew 87 = .ok (.invokestatic 85, 3) := by decide +kernel
theorem dX3_renew_90 : decode cX3_renew 90 = .ok (.aload_n 0, 1) := by decide +kernel
theorem dX3_renew_91 : decode cX3_renew 91 = .ok (.getfield 60, 3) := by decide +kernel
theorem dX3_renew_94 : decode cX3_renew 94 = .ok (.iconst 0, 1) := by decide +kernel
theorem dX3_renew_95 : decode cX3_renew 95 = .ok (.invokestatic 85, 3) := by decide +kernel
theorem dX3_renew_98 : decode cX3_renew 98 = .ok (.return_, 1) := by decide +kernel
theorem dX3_isLaid_0 : decode cX3_isLaid 0 = .ok (.aload_n 0, 1) := by decide +kernel
theorem dX3_isLaid_1 : decode cX3_isLaid 1 = .ok (.getfield 18, 3) := by decide +kernel
theorem dX3_isLaid_4 : decode cX3_isLaid 4 = .ok (.ifCond .le 7, 3) := by decide +kernel
theorem dX3_isLaid_7 : decode cX3_isLaid 7 = .ok (.iconst 1, 1) := by decide +kernel
theorem dX3_isLaid_8 : decode cX3_isLaid 8 = .ok (.goto 4, 3) := by decide +kernel
theorem dX3_isLaid_11 : decode cX3_isLaid 11 = .ok (.iconst 0, 1) := by decide +kernel
theorem dX3_isLaid_12 : decode cX3_isLaid 12 = .ok (.ireturn, 1) := by decide +kernel
theorem dX3_has_0 : decode cX3_has 0 = .ok (.iload_n 1, 1) := by decide +kernel
theorem dX3_has_1 : decode cX3_has 1 = .ok (.ifCond .lt 27, 3) := by decide +kernel
theorem dX3_has_4 : decode cX3_has 4 = .ok (.iload_n 1, 1) := by decide +kernel
theorem dX3_has_5 : decode cX3_has 5 = .ok (.aload_n 0, 1) := by decide +kernel
theorem dX3_has_6 : decode cX3_has 6 = .ok (.getfield 11, 3) := by decide +kernel
theorem dX3_has_9 : decode cX3_has 9 = .ok (.if_icmp .ge 19, 3) := by decide +kernel
theorem dX3_has_12 : decode cX3_has 12 = .ok (.iload_n 2, 1) := by decide +kernel
theorem dX3_has_13 : decode cX3_has 13 = .ok (.ifCond .lt 15, 3) := by decide +kernel
theorem dX3_has_16 : decode cX3_has 16 = .ok (.iload_n 2, 1) := by decide +kernel
theorem dX3_has_17 : decode cX3_has 17 = .ok (.aload_n 0, 1) := by decide +kernel
theorem dX3_has_18 : decode cX3_has 18 = .ok (.getfield 15, 3) := by decide +kernel
theorem dX3_has_21 : decode cX3_has 21 = .ok (.if_icmp .ge 7, 3) := by decide +kernel
theorem dX3_has_24 : decode cX3_has 24 = .ok (.iconst 1, 1) := by decide +kernel
theorem dX3_has_25 : decode cX3_has 25 = .ok (.goto 4, 3) := by decide +kernel
theorem dX3_has_28 : decode cX3_has 28 = .ok (.iconst 0, 1) := by decide +kernel
theorem dX3_has_29 : decode cX3_has 29 = .ok (.ireturn, 1) := by decide +kernel
theorem dX3_heatInAll_0 : decode cX3_heatInAll 0 = .ok (.lconst 0, 1) := by decide +kernel
theorem dX3_heatInAll_1 : decode cX3_heatInAll 1 = .ok (.lstore_n 1, 1) := by decide +kernel
theorem dX3_heatInAll_2 : decode cX3_heatInAll 2 = .ok (.iconst 0, 1) := by decide +kernel
theorem dX3_heatInAll_3 : decode cX3_heatInAll 3 = .ok (.istore_n 3, 1) := by decide +kernel
theorem dX3_heatInAll_4 : decode cX3_heatInAll 4 = .ok (.iload_n 3, 1) := by decide +kernel
theorem dX3_heatInAll_5 : decode cX3_heatInAll 5 = .ok (.aload_n 0, 1) := by decide +kernel
theorem dX3_heatInAll_6 : decode cX3_heatInAll 6 = .ok (.getfield 18, 3) := by decide +kernel
theorem dX3_heatInAll_9 : decode cX3_heatInAll 9 = .ok (.if_icmp .ge 19, 3) := by decide +kernel
theorem dX3_heatInAll_12 : decode cX3_heatInAll 12 = .ok (.lload_n 1, 1) := by decide +kernel
theorem dX3_heatInAll_13 : decode cX3_heatInAll 13 = .ok (.aload_n 0, 1) := by decide +kernel
theorem dX3_heatInAll_14 : decode cX3_heatInAll 14 = .ok (.getfield 50, 3) := by decide +kernel
theorem dX3_heatInAll_17 : decode cX3_heatInAll 17 = .ok (.iload_n 3, 1) := by decide +kernel
theorem dX3_heatInAll_18 : decode cX3_heatInAll 18 = .ok (.iaload, 1) := by decide +kernel
theorem dX3_heatInAll_19 : decode cX3_heatInAll 19 = .ok (.i2l, 1) := by decide +kernel
theorem dX3_heatInAll_20 : decode cX3_heatInAll 20 = .ok (.ladd, 1) := by decide +kernel
theorem dX3_heatInAll_21 : decode cX3_heatInAll 21 = .ok (.lstore_n 1, 1) := by decide +kernel
theorem dX3_heatInAll_22 : decode cX3_heatInAll 22 = .ok (.iinc 3 1, 3) := by decide +kernel
theorem dX3_heatInAll_25 : decode cX3_heatInAll 25 = .ok (.goto (-21), 3) := by decide +kernel
theorem dX3_heatInAll_28 : decode cX3_heatInAll 28 = .ok (.lload_n 1, 1) := by decide +kernel
theorem dX3_heatInAll_29 : decode cX3_heatInAll 29 = .ok (.lreturn, 1) := by decide +kernel
theorem dX4_init_0 : decode cX4_init 0 = .ok (.aload_n 0, 1) := by decide +kernel
theorem dX4_init_1 : decode cX4_init 1 = .ok (.invokespecial 3, 3) := by decide +kernel
theorem dX4_init_4 : decode cX4_init 4 = .ok (.aload_n 0, 1) := by decide +kernel
theorem dX4_init_5 : decode cX4_init 5 = .ok (.new 9, 3) := by decide +kernel
theorem dX4_init_8 : decode cX4_init 8 = .ok (.dup, 1) := by decide +kernel
theorem dX4_init_9 : decode cX4_init 9 = .ok (.sipush 800, 3) := by decide +kernel
theorem dX4_init_12 : decode cX4_init 12 = .ok (.invokespecial 13, 3) := by decide +kernel
theorem dX4_init_15 : decode cX4_init 15 = .ok (.putfield 16, 3) := by decide +kernel
theorem dX4_init_18 : decode cX4_init 18 = .ok (.aload_n 0, 1) := by decide +kernel
theorem dX4_init_19 : decode cX4_init 19 = .ok (.iconst 0, 1) := by decide +kernel
theorem dX4_init_20 : decode cX4_init 20 = .ok (.putfield 20, 3) := by decide +kernel
theorem dX4_init_23 : decode cX4_init 23 = .ok (.aload_n 0, 1) := by decide +kernel
theorem dX4_init_24 : decode cX4_init 24 = .ok (.iconst (-1), 1) := by decide +kernel
theorem dX4_init_25 : decode cX4_init 25 = .ok (.putfield 24, 3) := by decide +kernel
theorem dX4_init_28 : decode cX4_init 28 = .ok (.aload_n 0, 1) := by decide +kernel
theorem dX4_init_29 : decode cX4_init 29 = .ok (.new 27, 3) := by decide +kernel
theorem dX4_init_32 : decode cX4_init 32 = .ok (.dup, 1) := by decide +kernel
theorem dX4_init_33 : decode cX4_init 33 = .ok (.invokespecial 29, 3) := by decide +kernel
theorem dX4_init_36 : decode cX4_init 36 = .ok (.putfield 30, 3) := by decide +kernel
theorem dX4_init_39 : decode cX4_init 39 = .ok (.aload_n 0, 1) := by decide +kernel
theorem dX4_init_40 : decode cX4_init 40 = .ok (.iconst 0, 1) := by decide +kernel
theorem dX4_init_41 : decode cX4_init 41 = .ok (.putfield 34, 3) := by decide +kernel
theorem dX4_init_44 : decode cX4_init 44 = .ok (.aload_n 0, 1) := by decide +kernel
theorem dX4_init_45 : decode cX4_init 45 = .ok (.iconst 0, 1) := by decide +kernel
theorem dX4_init_46 : decode cX4_init 46 = .ok (.putfield 37, 3) := by decide +kernel
theorem dX4_init_49 : decode cX4_init 49 = .ok (.aload_n 0, 1) := by decide +kernel
theorem dX4_init_50 : decode cX4_init 50 = .ok (.new 9, 3) := by decide +kernel
theorem dX4_init_53 : decode cX4_init 53 = .ok (.dup, 1) := by decide +kernel
theorem dX4_init_54 : decode cX4_init 54 = .ok (.iconst 4, 1) := by decide +kernel
theorem dX4_init_55 : decode cX4_init 55 = .ok (.invokespecial 13, 3) := by decide +kernel
theorem dX4_init_58 : decode cX4_init 58 = .ok (.putfield 40, 3) := by decide +kernel
theorem dX4_init_61 : decode cX4_init 61 = .ok (.aload_n 0, 1) := by decide +kernel
theorem dX4_init_62 : decode cX4_init 62 = .ok (.new 9, 3) := by decide +kernel
theorem dX4_init_65 : decode cX4_init 65 = .ok (.dup, 1) := by decide +kernel
theorem dX4_init_66 : decode cX4_init 66 = .ok (.iconst 4, 1) := by decide +kernel
theorem dX4_init_67 : decode cX4_init 67 = .ok (.invokespecial 13, 3) := by decide +kernel
theorem dX4_init_70 : decode cX4_init 70 = .ok (.putfield 43, 3) := by decide +kernel
theorem dX4_init_73 : decode cX4_init 73 = .ok (.return_, 1) := by decide +kernel
theorem dX4_read_0 : decode cX4_read 0 = .ok (.aload_n 0, 1) := by decide +kernel
theorem dX4_read_1 : decode cX4_read 1 = .ok (.getfield 30, 3) := by decide +kernel
theorem dX4_read_4 : decode cX4_read 4 = .ok (.aload_n 1, 1) := by decide +kernel
theorem dX4_read_5 : decode cX4_read 5 = .ok (.invokevirtual 46, 3) := by decide +kernel
theorem dX4_read_8 : decode cX4_read 8 = .ok (.aload_n 0, 1) := by decide +kernel
theorem dX4_read_9 : decode cX4_read 9 = .ok (.getfield 16, 3) := by decide +kernel
theorem dX4_read_12 : decode cX4_read 12 = .ok (.iconst 0, 1) := by decide +kernel
theorem dX4_read_13 : decode cX4_read 13 = .ok (.putfield 50, 3) := by decide +kernel
theorem dX4_read_16 : decode cX4_read 16 = .ok (.aload_n 0, 1) := by decide +kernel
theorem dX4_read_17 : decode cX4_read 17 = .ok (.getfield 40, 3) := by decide +kernel
theorem dX4_read_20 : decode cX4_read 20 = .ok (.iconst 0, 1) := by decide +kernel
theorem dX4_read_21 : decode cX4_read 21 = .ok (.putfield 50, 3) := by decide +kernel
theorem dX4_read_24 : decode cX4_read 24 = .ok (.aload_n 0, 1) := by decide +kernel
theorem dX4_read_25 : decode cX4_read 25 = .ok (.getfield 43, 3) := by decide +kernel
theorem dX4_read_28 : decode cX4_read 28 = .ok (.iconst 0, 1) := by decide +kernel
theorem dX4_read_29 : decode cX4_read 29 = .ok (.putfield 50, 3) := by decide +kernel
theorem dX4_read_32 : decode cX4_read 32 = .ok (.aload_n 0, 1) := by decide +kernel
theorem dX4_read_33 : decode cX4_read 33 = .ok (.iconst 0, 1) := by decide +kernel
theorem dX4_read_34 : decode cX4_read 34 = .ok (.putfield 20, 3) := by decide +kernel
theorem dX4_read_37 : decode cX4_read 37 = .ok (.aload_n 0, 1) := by decide +kernel
theorem dX4_read_38 : decode cX4_read 38 = .ok (.iconst (-1), 1) := by decide +kernel
theorem dX4_read_39 : decode cX4_read 39 = .ok (.putfield 24, 3) := by decide +kernel
theorem dX4_read_42 : decode cX4_read 42 = .ok (.aload_n 0, 1) := by decide +kernel
theorem dX4_read_43 : decode cX4_read 43 = .ok (.iconst 0, 1) := by decide +kernel
theorem dX4_read_44 : decode cX4_read 44 = .ok (.putfield 34, 3) := by decide +kernel
theorem dX4_read_47 : decode cX4_read 47 = .ok (.aload_n 0, 1) := by decide +kernel
theorem dX4_read_48 : decode cX4_read 48 = .ok (.aload_n 0, 1) := by decide +kernel
theorem dX4_read_49 : decode cX4_read 49 = .ok (.getfield 30, 3) := by decide +kernel
theorem dX4_read_52 : decode cX4_read 52 = .ok (.getfield 53, 3) := by decide +kernel
theorem dX4_read_55 : decode cX4_read 55 = .ok (.iconst 0, 1) := by decide +kernel
theorem dX4_read_56 : decode cX4_read 56 = .ok (.invokevirtual 56, 3) := by decide +kernel
theorem dX4_read_59 : decode cX4_read 59 = .ok (.putfield 37, 3) := by decide +kernel
theorem dX4_read_62 : decode cX4_read 62 = .ok (.iconst 0, 1) := by decide +kernel
theorem dX4_read_63 : decode cX4_read 63 = .ok (.istore_n 2, 1) := by decide +kernel
theorem dX4_read_64 : decode cX4_read 64 = .ok (.iconst 0, 1) := by decide +kernel
theorem dX4_read_65 : decode cX4_read 65 = .ok (.istore_n 3, 1) := by decide +kernel
theorem dX4_read_66 : decode cX4_read 66 = .ok (.iload_n 3, 1) := by decide +kernel
theorem dX4_read_67 : decode cX4_read 67 = .ok (.sipush 400, 3) := by decide +kernel
theorem dX4_read_70 : decode cX4_read 70 = .ok (.if_icmp .gt 92, 3) := by decide +kernel
theorem dX4_read_73 : decode cX4_read 73 = .ok (.aload_n 0, 1) := by decide +kernel
theorem dX4_read_74 : decode cX4_read 74 = .ok (.getfield 20, 3) := by decide +kernel
theorem dX4_read_77 : decode cX4_read 77 = .ok (.ifCond .ne 85, 3) := by decide +kernel
theorem dX4_read_80 : decode cX4_read 80 = .ok (.iload_n 2, 1) := by decide +kernel
theorem dX4_read_81 : decode cX4_read 81 = .ok (.ifCond .ne 81, 3) := by decide +kernel
theorem dX4_read_84 : decode cX4_read 84 = .ok (.aload_n 0, 1) := by decide +kernel
theorem dX4_read_85 : decode cX4_read 85 = .ok (.getfield 37, 3) := by decide +kernel
theorem dX4_read_88 : decode cX4_read 88 = .ok (.bipush 9, 2) := by decide +kernel
theorem dX4_read_90 : decode cX4_read 90 = .ok (.bipush 16, 2) := by decide +kernel
theorem dX4_read_92 : decode cX4_read 92 = .ok (.invokestatic 60, 3) := by decide +kernel
theorem dX4_read_95 : decode cX4_read 95 = .ok (.ifCond .eq 10, 3) := by decide +kernel
theorem dX4_read_98 : decode cX4_read 98 = .ok (.aload_n 0, 1) := by decide +kernel
theorem dX4_read_99 : decode cX4_read 99 = .ok (.invokevirtual 64, 3) := by decide +kernel
theorem dX4_read_102 : decode cX4_read 102 = .ok (.goto 54, 3) := by decide +kernel
theorem dX4_read_105 : decode cX4_read 105 = .ok (.aload_n 0, 1) := by decide +kernel
theorem dX4_read_106 : decode cX4_read 106 = .ok (.getfield 37, 3) := by decide +kernel
theorem dX4_read_109 : decode cX4_read 109 = .ok (.bipush 18, 2) := by decide +kernel
theorem dX4_read_111 : decode cX4_read 111 = .ok (.if_icmp .ne 19, 3) := by decide +kernel
theorem dX4_read_114 : decode cX4_read 114 = .ok (.aload_n 0, 1) := by decide +kernel
theorem dX4_read_115 : decode cX4_read 115 = .ok (.invokevirtual 67, 3) := by decide +kernel
theorem dX4_read_118 : decode cX4_read 118 = .ok (.bipush 15, 2) := by decide +kernel
theorem dX4_read_120 : decode cX4_read 120 = .ok (.if_icmp .ne 10, 3) := by decide +kernel
theorem dX4_read_123 : decode cX4_read 123 = .ok (.aload_n 0, 1) := by decide +kernel
theorem dX4_read_124 : decode cX4_read 124 = .ok (.invokevirtual 71, 3) := by decide +kernel
theorem dX4_read_127 : decode cX4_read 127 = .ok (.goto 29, 3) := by decide +kernel
theorem dX4_read_130 : decode cX4_read 130 = .ok (.aload_n 0, 1) := by decide +kernel
theorem dX4_read_131 : decode cX4_read 131 = .ok (.getfield 37, 3) := by decide +kernel
theorem dX4_read_134 : decode cX4_read 134 = .ok (.iconst 1, 1) := by decide +kernel
theorem dX4_read_135 : decode cX4_read 135 = .ok (.if_icmp .ne 16, 3) := by decide +kernel
theorem dX4_read_138 : decode cX4_read 138 = .ok (.aload_n 0, 1) := by decide +kernel
theorem dX4_read_139 : decode cX4_read 139 = .ok (.invokevirtual 67, 3) := by decide +kernel
theorem dX4_read_142 : decode cX4_read 142 = .ok (.iconst (-1), 1) := by decide +kernel
theorem dX4_read_143 : decode cX4_read 143 = .ok (.if_icmp .ne 8, 3) := by decide +kernel
theorem dX4_read_146 : decode cX4_read 146 = .ok (.iconst 1, 1) := by decide +kernel
theorem dX4_read_147 : decode cX4_read 147 = .ok (.istore_n 2, 1) := by decide +kernel
theorem dX4_read_148 : decode cX4_read 148 = .ok (.goto 8, 3) := by decide +kernel
theorem dX4_read_151 : decode cX4_read 151 = .ok (.aload_n 0, 1) := by decide +kernel
theorem dX4_read_152 : decode cX4_read 152 = .ok (.iconst 1, 1) := by decide +kernel
theorem dX4_read_153 : decode cX4_read 153 = .ok (.invokevirtual 74, 3) := by decide +kernel
theorem dX4_read_156 : decode cX4_read 156 = .ok (.iinc 3 1, 3) := by decide +kernel
theorem dX4_read_159 : decode cX4_read 159 = .ok (.goto (-93), 3) := by decide +kernel
theorem dX4_read_162 : decode cX4_read 162 = .ok (.iload_n 2, 1) := by decide +kernel
theorem dX4_read_163 : decode cX4_read 163 = .ok (.ireturn, 1) := by decide +kernel
theorem dX5_init_0 : decode cX5_init 0 = .ok (.aload_n 0, 1) := by decide +kernel
theorem dX5_init_1 : decode cX5_init 1 = .ok (.invokespecial 3, 3) := by decide +kernel
theorem dX5_init_4 : decode cX5_init 4 = .ok (.aload_n 0, 1) := by decide +kernel
theorem dX5_init_5 : decode cX5_init 5 = .ok (.iconst 0, 1) := by decide +kernel
theorem dX5_init_6 : decode cX5_init 6 = .ok (.putfield 9, 3) := by decide +kernel
theorem dX5_init_9 : decode cX5_init 9 = .ok (.aload_n 0, 1) := by decide +kernel
theorem dX5_init_10 : decode cX5_init 10 = .ok (.iconst 0, 1) := by decide +kernel
theorem dX5_init_11 : decode cX5_init 11 = .ok (.iload_n 1, 1) := by decide +kernel
theorem dX5_init_12 : decode cX5_init 12 = .ok (.invokestatic 15, 3) := by decide +kernel
theorem dX5_init_15 : decode cX5_init 15 = .ok (.newarray .int, 2) := by decide +kernel
theorem dX5_init_17 : decode cX5_init 17 = .ok (.putfield 21, 3) := by decide +kernel
theorem dX5_init_20 : decode cX5_init 20 = .ok (.return_, 1) := by decide +kernel
theorem dX5_add_0 : decode cX5_add 0 = .ok (.aload_n 0, 1) := by decide +kernel
theorem dX5_add_1 : decode cX5_add 1 = .ok (.getfield 9, 3) := by decide +kernel
theorem dX5_add_4 : decode cX5_add 4 = .ok (.aload_n 0, 1) := by decide +kernel
theorem dX5_add_5 : decode cX5_add 5 = .ok (.getfield 21, 3) := by decide +kernel
theorem dX5_add_8 : decode cX5_add 8 = .ok (.arraylength, 1) := by decide +kernel
theorem dX5_add_9 : decode cX5_add 9 = .ok (.if_icmp .ge 23, 3) := by decide +kernel
theorem dX5_add_12 : decode cX5_add 12 = .ok (.aload_n 0, 1) := by decide +kernel
theorem dX5_add_13 : decode cX5_add 13 = .ok (.getfield 21, 3) := by decide +kernel
theorem dX5_add_16 : decode cX5_add 16 = .ok (.aload_n 0, 1) := by decide +kernel
theorem dX5_add_17 : decode cX5_add 17 = .ok (.getfield 9, 3) := by decide +kernel
theorem dX5_add_20 : decode cX5_add 20 = .ok (.iload_n 1, 1) := by decide +kernel
theorem dX5_add_21 : decode cX5_add 21 = .ok (.iastore, 1) := by decide +kernel
theorem dX5_add_22 : decode cX5_add 22 = .ok (.aload_n 0, 1) := by decide +kernel
theorem dX5_add_23 : decode cX5_add 23 = .ok (.dup, 1) := by decide +kernel
theorem dX5_add_24 : decode cX5_add 24 = .ok (.getfield 9, 3) := by decide +kernel
theorem dX5_add_27 : decode cX5_add 27 = .ok (.iconst 1, 1) := by decide +kernel
theorem dX5_add_28 : decode cX5_add 28 = .ok (.iadd, 1) := by decide +kernel
theorem dX5_add_29 : decode cX5_add 29 = .ok (.putfield 9, 3) := by decide +kernel
theorem dX5_add_32 : decode cX5_add 32 = .ok (.return_, 1) := by decide +kernel
theorem dX5_addBytes_0 : decode cX5_addBytes 0 = .ok (.bipush 24, 2) := by decide +kernel
theorem dX5_addBytes_2 : decode cX5_addBytes 2 = .ok (.istore_n 2, 1) := by decide +kernel
theorem dX5_addBytes_3 : decode cX5_addBytes 3 = .ok (.iload_n 2, 1) := by decide +kernel
theorem dX5_addBytes_4 : decode cX5_addBytes 4 = .ok (.ifCond .lt 20, 3) := by decide +kernel
theorem dX5_addBytes_7 : decode cX5_addBytes 7 = .ok (.aload_n 0, 1) := by decide +kernel
theorem dX5_addBytes_8 : decode cX5_addBytes 8 = .ok (.iload_n 1, 1) := by decide +kernel
theorem dX5_addBytes_9 : decode cX5_addBytes 9 = .ok (.iload_n 2, 1) := by decide +kernel
theorem dX5_addBytes_10 : decode cX5_addBytes 10 = .ok (.iushr, 1) := by decide +kernel
theorem dX5_addBytes_11 : decode cX5_addBytes 11 = .ok (.sipush 255, 3) := by decide +kernel
theorem dX5_addBytes_14 : decode cX5_addBytes 14 = .ok (.iand, 1) := by decide +kernel
theorem dX5_addBytes_15 : decode cX5_addBytes 15 = .ok (.invokevirtual 25, 3) := by decide +kernel
theorem dX5_addBytes_18 : decode cX5_addBytes 18 = .ok (.iinc 2 (-8), 3) := by decide +kernel
theorem dX5_addBytes_21 : decode cX5_addBytes 21 = .ok (.goto (-18), 3) := by decide +kernel
theorem dX5_addBytes_24 : decode cX5_addBytes 24 = .ok (.return_, 1) := by decide +kernel
theorem dX5_at_0 : decode cX5_at 0 = .ok (.iload_n 1, 1) := by decide +kernel
theorem dX5_at_1 : decode cX5_at 1 = .ok (.ifCond .lt 20, 3) := by decide +kernel
theorem dX5_at_4 : decode cX5_at 4 = .ok (.iload_n 1, 1) := by decide +kernel
theorem dX5_at_5 : decode cX5_at 5 = .ok (.aload_n 0, 1) := by decide +kernel
theorem dX5_at_6 : decode cX5_at 6 = .ok (.getfield 9, 3) := by decide +kernel
theorem dX5_at_9 : decode cX5_at 9 = .ok (.if_icmp .ge 12, 3) := by decide +kernel
theorem dX5_at_12 : decode cX5_at 12 = .ok (.aload_n 0, 1) := by decide +kernel
theorem dX5_at_13 : decode cX5_at 13 = .ok (.getfield 21, 3) := by decide +kernel
theorem dX5_at_16 : decode cX5_at 16 = .ok (.iload_n 1, 1) := by decide +kernel
theorem dX5_at_17 : decode cX5_at 17 = .ok (.iaload, 1) := by decide +kernel
theorem dX5_at_18 : decode cX5_at 18 = .ok (.goto 4, 3) := by decide +kernel
theorem dX5_at_21 : decode cX5_at 21 = .ok (.iconst (-1), 1) := by decide +kernel
theorem dX5_at_22 : decode cX5_at 22 = .ok (.ireturn, 1) := by decide +kernel
theorem dX5_copyFrom_0 : decode cX5_copyFrom 0 = .ok (.aload_n 0, 1) := by decide +kernel
theorem dX5_copyFrom_1 : decode cX5_copyFrom 1 = .ok (.aload_n 1, 1) := by decide +kernel
theorem dX5_copyFrom_2 : decode cX5_copyFrom 2 = .ok (.getfield 9, 3) := by decide +kernel
theorem dX5_copyFrom_5 : decode cX5_copyFrom 5 = .ok (.aload_n 0, 1) := by decide +kernel
theorem dX5_copyFrom_6 : decode cX5_copyFrom 6 = .ok (.getfield 21, 3) := by decide +kernel
theorem dX5_copyFrom_9 : decode cX5_copyFrom 9 = .ok (.arraylength, 1) := by decide +kernel
theorem dX5_copyFrom_10 : decode cX5_copyFrom 10 = .ok (.invokestatic 29, 3) := by decide +kernel
theorem dX5_copyFrom_13 : decode cX5_copyFrom 13 = .ok (.putfield 9, 3) := by decide +kernel
theorem dX5_copyFrom_16 : decode cX5_copyFrom 16 = .ok (.aload_n 1, 1) := by decide +kernel
theorem dX5_copyFrom_17 : decode cX5_copyFrom 17 = .ok (.getfield 21, 3) := by decide +kernel
theorem dX5_copyFrom_20 : decode cX5_copyFrom 20 = .ok (.iconst 0, 1) := by decide +kernel
theorem dX5_copyFrom_21 : decode cX5_copyFrom 21 = .ok (.aload_n 0, 1) := by decide +kernel
theorem dX5_copyFrom_22 : decode cX5_copyFrom 22 = .ok (.getfield 21, 3) := by decide +kernel
theorem dX5_copyFrom_25 : decode cX5_copyFrom 25 = .ok (.iconst 0, 1) := by decide +kernel
theorem dX5_copyFrom_26 : decode cX5_copyFrom 26 = .ok (.aload_n 0, 1) := by decide +kernel
theorem dX5_copyFrom_27 : decode cX5_copyFrom 27 = .ok (.getfield 9, 3) := by decide +kernel
theorem dX5_copyFrom_30 : decode cX5_copyFrom 30 = .ok (.invokestatic 32, 3) := by decide +kernel
theorem dX5_copyFrom_33 : decode cX5_copyFrom 33 = .ok (.return_, 1) := by decide +kernel
theorem dX5_firstRunBelow_0 : decode cX5_firstRunBelow 0 = .ok (.iconst 0, 1) := by decide +kernel
theorem dX5_firstRunBelow_1 : decode cX5_firstRunBelow 1 = .ok (.istore_n 3, 1) := by decide +kernel
theorem dX5_firstRunBelow_2 : decode cX5_firstRunBelow 2 = .ok (.iconst 0, 1) := by decide +kernel
theorem dX5_firstRunBelow_3 : decode cX5_firstRunBelow 3 = .ok (.istore 4, 2) := by decide +kernel
theorem dX5_firstRunBelow_5 : decode cX5_firstRunBelow 5 = .ok (.iload 4, 2) := by decide +kernel
theorem dX5_firstRunBelow_7 : decode cX5_firstRunBelow 7 = .ok (.aload_n 0, 1) := by decide +kernel
theorem dX5_firstRunBelow_8 : decode cX5_firstRunBelow 8 = .ok (.getfield 9, 3) := by decide +kernel
theorem dX5_firstRunBelow_11 : decode cX5_firstRunBelow 11 = .ok (.if_icmp .ge 40, 3) := by decide +kernel
theorem dX5_firstRunBelow_14 : decode cX5_firstRunBelow 14 = .ok (.aload_n 0, 1) := by decide +kernel
theorem dX5_firstRunBelow_15 : decode cX5_firstRunBelow 15 = .ok (.getfield 21, 3) := by decide +kernel
theorem dX5_firstRunBelow_18 : decode cX5_firstRunBelow 18 = .ok (.iload 4, 2) := by decide +kernel
theorem dX5_firstRunBelow_20 : decode cX5_firstRunBelow 20 = .ok (.iaload, 1) := by decide +kernel
theorem dX5_firstRunBelow_21 : decode cX5_firstRunBelow 21 = .ok (.iload_n 1, 1) := by decide +kernel
theorem dX5_firstRunBelow_22 : decode cX5_firstRunBelow 22 = .ok (.if_icmp .ge 9, 3) := by decide +kernel
theorem dX5_firstRunBelow_25 : decode cX5_firstRunBelow 25 = .ok (.iload_n 3, 1) := by decide +kernel
theorem dX5_firstRunBelow_26 : decode cX5_firstRunBelow 26 = .ok (.iconst 1, 1) := by decide +kernel
theorem dX5_firstRunBelow_27 : decode cX5_firstRunBelow 27 = .ok (.iadd, 1) := by decide +kernel
theorem dX5_firstRunBelow_28 : decode cX5_firstRunBelow 28 = .ok (.goto 4, 3) := by decide +kernel
theorem dX5_firstRunBelow_31 : decode cX5_firstRunBelow 31 = .ok (.iconst 0, 1) := by decide +kernel
theorem dX5_firstRunBelow_32 : decode cX5_firstRunBelow 32 = .ok (.istore_n 3, 1) := by decide +kernel
theorem dX5_firstRunBelow_33 : decode cX5_firstRunBelow 33 = .ok (.iload_n 3, 1) := by decide +kernel
theorem dX5_firstRunBelow_34 : decode cX5_firstRunBelow 34 = .ok (.iload_n 2, 1) := by decide +kernel
theorem dX5_firstRunBelow_35 : decode cX5_firstRunBelow 35 = .ok (.if_icmp .ne 10, 3) := by decide +kernel
theorem dX5_firstRunBelow_38 : decode cX5_firstRunBelow 38 = .ok (.iload 4, 2) := by decide +kernel
theorem dX5_firstRunBelow_40 : decode cX5_firstRunBelow 40 = .ok (.iload_n 2, 1) := by decide +kernel
theorem dX5_firstRunBelow_41 : decode cX5_firstRunBelow 41 = .ok (.isub, 1) := by decide +kernel
theorem dX5_firstRunBelow_42 : decode cX5_firstRunBelow 42 = .ok (.iconst 1, 1) := by decide +kernel
theorem dX5_firstRunBelow_43 : decode cX5_firstRunBelow 43 = .ok (.iadd, 1) := by decide +kernel
theorem dX5_firstRunBelow_44 : decode cX5_firstRunBelow 44 = .ok (.ireturn, 1) := by decide +kernel
theorem dX5_firstRunBelow_45 : decode cX5_firstRunBelow 45 = .ok (.iinc 4 1, 3) := by decide +kernel
theorem dX5_firstRunBelow_48 : decode cX5_firstRunBelow 48 = .ok (.goto (-43), 3) := by decide +kernel
theorem dX5_firstRunBelow_51 : decode cX5_firstRunBelow 51 = .ok (.iconst (-1), 1) := by decide +kernel
theorem dX5_firstRunBelow_52 : decode cX5_firstRunBelow 52 = .ok (.ireturn, 1) := by decide +kernel
theorem dX6_init_0 : decode cX6_init 0 = .ok (.aload_n 0, 1) := by decide +kernel
theorem dX6_init_1 : decode cX6_init 1 = .ok (.invokespecial 3, 3) := by decide +kernel
theorem dX6_init_4 : decode cX6_init 4 = .ok (.aload_n 0, 1) := by decide +kernel
theorem dX6_init_5 : decode cX6_init 5 = .ok (.iconst 5, 1) := by decide +kernel
theorem dX6_init_6 : decode cX6_init 6 = .ok (.newarray .int, 2) := by decide +kernel
theorem dX6_init_8 : decode cX6_init 8 = .ok (.putfield 11, 3) := by decide +kernel
theorem dX6_init_11 : decode cX6_init 11 = .ok (.aload_n 0, 1) := by decide +kernel
theorem dX6_init_12 : decode cX6_init 12 = .ok (.iconst 0, 1) := by decide +kernel
theorem dX6_init_13 : decode cX6_init 13 = .ok (.putfield 15, 3) := by decide +kernel
theorem dX6_init_16 : decode cX6_init 16 = .ok (.aload_n 0, 1) := by decide +kernel
theorem dX6_init_17 : decode cX6_init 17 = .ok (.iconst 0, 1) := by decide +kernel
theorem dX6_init_18 : decode cX6_init 18 = .ok (.putfield 19, 3) := by decide +kernel
theorem dX6_init_21 : decode cX6_init 21 = .ok (.return_, 1) := by decide +kernel
theorem dX7_init_0 : decode cX7_init 0 = .ok (.aload_n 0, 1) := by decide +kernel
theorem dX7_init_1 : decode cX7_init 1 = .ok (.invokespecial 3, 3) := by decide +kernel
theorem dX7_init_4 : decode cX7_init 4 = .ok (.aload_n 0, 1) := by decide +kernel
theorem dX7_init_5 : decode cX7_init 5 = .ok (.sipush 200, 3) := by decide +kernel
theorem dX7_init_8 : decode cX7_init 8 = .ok (.newarray .int, 2) := by decide +kernel
theorem dX7_init_10 : decode cX7_init 10 = .ok (.putfield 11, 3) := by decide +kernel
theorem dX7_init_13 : decode cX7_init 13 = .ok (.aload_n 0, 1) := by decide +kernel
theorem dX7_init_14 : decode cX7_init 14 = .ok (.sipush 200, 3) := by decide +kernel
theorem dX7_init_17 : decode cX7_init 17 = .ok (.newarray .int, 2) := by decide +kernel
theorem dX7_init_19 : decode cX7_init 19 = .ok (.putfield 15, 3) := by decide +kernel
theorem dX7_init_22 : decode cX7_init 22 = .ok (.aload_n 0, 1) := by decide +kernel
theorem dX7_init_23 : decode cX7_init 23 = .ok (.sipush 200, 3) := by decide +kernel
theorem dX7_init_26 : decode cX7_init 26 = .ok (.newarray .int, 2) := by decide +kernel
theorem dX7_init_28 : decode cX7_init 28 = .ok (.putfield 18, 3) := by decide +kernel
theorem dX7_init_31 : decode cX7_init 31 = .ok (.aload_n 0, 1) := by decide +kernel
theorem dX7_init_32 : decode cX7_init 32 = .ok (.sipush 200, 3) := by decide +kernel
theorem dX7_init_35 : decode cX7_init 35 = .ok (.newarray .boolean, 2) := by decide +kernel
theorem dX7_init_37 : decode cX7_init 37 = .ok (.putfield 21, 3) := by decide +kernel
theorem dX7_init_40 : decode cX7_init 40 = .ok (.aload_n 0, 1) := by decide +kernel
theorem dX7_init_41 : decode cX7_init 41 = .ok (.iconst 0, 1) := by decide +kernel
theorem dX7_init_42 : decode cX7_init 42 = .ok (.putfield 25, 3) := by decide +kernel
theorem dX7_init_45 : decode cX7_init 45 = .ok (.aload_n 0, 1) := by decide +kernel
theorem dX7_init_46 : decode cX7_init 46 = .ok (.iconst 0, 1) := by decide +kernel
theorem dX7_init_47 : decode cX7_init 47 = .ok (.putfield 29, 3) := by decide +kernel
theorem dX7_init_50 : decode cX7_init 50 = .ok (.return_, 1) := by decide +kernel
theorem dX7_tell_0 : decode cX7_tell 0 = .ok (.iload_n 1, 1) := by decide +kernel
theorem dX7_tell_1 : decode cX7_tell 1 = .ok (.iconst 0, 1) := by decide +kernel
theorem dX7_tell_2 : decode cX7_tell 2 = .ok (.iconst 3, 1) := by decide +kernel
theorem dX7_tell_3 : decode cX7_tell 3 = .ok (.invokestatic 32, 3) := by decide +kernel
theorem dX7_tell_6 : decode cX7_tell 6 = .ok (.ifCond .eq 39, 3) := by decide +kernel
theorem dX7_tell_9 : decode cX7_tell 9 = .ok (.iload_n 2, 1) := by decide +kernel
theorem dX7_tell_10 : decode cX7_tell 10 = .ok (.iconst 1, 1) := by decide +kernel
theorem dX7_tell_11 : decode cX7_tell 11 = .ok (.sipush 9999, 3) := by decide +kernel
theorem dX7_tell_14 : decode cX7_tell 14 = .ok (.invokestatic 32, 3) := by decide +kernel
theorem dX7_tell_17 : decode cX7_tell 17 = .ok (.ifCond .eq 28, 3) := by decide +kernel
theorem dX7_tell_20 : decode cX7_tell 20 = .ok (.iload 4, 2) := by decide +kernel
theorem dX7_tell_22 : decode cX7_tell 22 = .ok (.aload_n 0, 1) := by decide +kernel
theorem dX7_tell_23 : decode cX7_tell 23 = .ok (.getfield 29, 3) := by decide +kernel
theorem dX7_tell_26 : decode cX7_tell 26 = .ok (.sipush 999, 3) := by decide +kernel
theorem dX7_tell_29 : decode cX7_tell 29 = .ok (.invokestatic 32, 3) := by decide +kernel
theorem dX7_tell_32 : decode cX7_tell 32 = .ok (.ifCond .eq 13, 3) := by decide +kernel
theorem dX7_tell_35 : decode cX7_tell 35 = .ok (.aload_n 0, 1) := by decide +kernel
theorem dX7_tell_36 : decode cX7_tell 36 = .ok (.getfield 25, 3) := by decide +kernel
theorem dX7_tell_39 : decode cX7_tell 39 = .ok (.sipush 200, 3) := by decide +kernel
theorem dX7_tell_42 : decode cX7_tell 42 = .ok (.if_icmp .lt 5, 3) := by decide +kernel
theorem dX7_tell_45 : decode cX7_tell 45 = .ok (.iconst 0, 1) := by decide +kernel
theorem dX7_tell_46 : decode cX7_tell 46 = .ok (.ireturn, 1) := by decide +kernel
theorem dX7_tell_47 : decode cX7_tell 47 = .ok (.aload_n 0, 1) := by decide +kernel
theorem dX7_tell_48 : decode cX7_tell 48 = .ok (.getfield 11, 3) := by decide +kernel
theorem dX7_tell_51 : decode cX7_tell 51 = .ok (.aload_n 0, 1) := by decide +kernel
theorem dX7_tell_52 : decode cX7_tell 52 = .ok (.getfield 25, 3) := by decide +kernel
theorem dX7_tell_55 : decode cX7_tell 55 = .ok (.iload_n 1, 1) := by decide +kernel
theorem dX7_tell_56 : decode cX7_tell 56 = .ok (.iastore, 1) := by decide +kernel
theorem dX7_tell_57 : decode cX7_tell 57 = .ok (.aload_n 0, 1) := by decide +kernel
theorem dX7_tell_58 : decode cX7_tell 58 = .ok (.getfield 15, 3) := by decide +kernel
theorem dX7_tell_61 : decode cX7_tell 61 = .ok (.aload_n 0, 1) := by decide +kernel
theorem dX7_tell_62 : decode cX7_tell 62 = .ok (.getfield 25, 3) := by decide +kernel
theorem dX7_tell_65 : decode cX7_tell 65 = .ok (.iload_n 2, 1) := by decide +kernel
theorem dX7_tell_66 : decode cX7_tell 66 = .ok (.iastore, 1) := by decide +kernel
theorem dX7_tell_67 : decode cX7_tell 67 = .ok (.aload_n 0, 1) := by decide +kernel
theorem dX7_tell_68 : decode cX7_tell 68 = .ok (.getfield 21, 3) := by decide +kernel
theorem dX7_tell_71 : decode cX7_tell 71 = .ok (.aload_n 0, 1) := by decide +kernel
theorem dX7_tell_72 : decode cX7_tell 72 = .ok (.getfield 25, 3) := by decide +kernel
theorem dX7_tell_75 : decode cX7_tell 75 = .ok (.iload_n 3, 1) := by decide +kernel
theorem dX7_tell_76 : decode cX7_tell 76 = .ok (.bastore, 1) := by decide +kernel
theorem dX7_tell_77 : decode cX7_tell 77 = .ok (.aload_n 0, 1) := by decide +kernel
theorem dX7_tell_78 : decode cX7_tell 78 = .ok (.getfield 18, 3) := by decide +kernel
theorem dX7_tell_81 : decode cX7_tell 81 = .ok (.aload_n 0, 1) := by decide +kernel
theorem dX7_tell_82 : decode cX7_tell 82 = .ok (.getfield 25, 3) := by decide +kernel
theorem dX7_tell_85 : decode cX7_tell 85 = .ok (.iload 4, 2) := by decide +kernel
theorem dX7_tell_87 : decode cX7_tell 87 = .ok (.iastore, 1) := by decide +kernel
theorem dX7_tell_88 : decode cX7_tell 88 = .ok (.aload_n 0, 1) := by decide +kernel
theorem dX7_tell_89 : decode cX7_tell 89 = .ok (.dup, 1) := by decide +kernel
theorem dX7_tell_90 : decode cX7_tell 90 = .ok (.getfield 25, 3) := by decide +kernel
theorem dX7_tell_93 : decode cX7_tell 93 = .ok (.iconst 1, 1) := by decide +kernel
theorem dX7_tell_94 : decode cX7_tell 94 = .ok (.iadd, 1) := by decide +kernel
theorem dX7_tell_95 : decode cX7_tell 95 = .ok (.putfield 25, 3) := by decide +kernel
theorem dX7_tell_98 : decode cX7_tell 98 = .ok (.aload_n 0, 1) := by decide +kernel
theorem dX7_tell_99 : decode cX7_tell 99 = .ok (.iload 4, 2) := by decide +kernel
theorem dX7_tell_101 : decode cX7_tell 101 = .ok (.putfield 29, 3) := by decide +kernel
theorem dX7_tell_104 : decode cX7_tell 104 = .ok (.iconst 1, 1) := by decide +kernel
theorem dX7_tell_105 : decode cX7_tell 105 = .ok (.ireturn, 1) := by decide +kernel
theorem dX7_leastMelt_0 : decode cX7_leastMelt 0 = .ok (.iconst 1, 1) := by decide +kernel
theorem dX7_leastMelt_1 : decode cX7_leastMelt 1 = .ok (.istore_n 3, 1) := by decide +kernel
theorem dX7_leastMelt_2 : decode cX7_leastMelt 2 = .ok (.iconst 0, 1) := by decide +kernel
theorem dX7_leastMelt_3 : decode cX7_leastMelt 3 = .ok (.istore 4, 2) := by decide +kernel
theorem dX7_leastMelt_5 : decode cX7_leastMelt 5 = .ok (.iload 4, 2) := by decide +kernel
theorem dX7_leastMelt_7 : decode cX7_leastMelt 7 = .ok (.aload_n 0, 1) := by decide +kernel
theorem dX7_leastMelt_8 : decode cX7_leastMelt 8 = .ok (.getfield 25, 3) := by decide +kernel
theorem dX7_leastMelt_11 : decode cX7_leastMelt 11 = .ok (.if_icmp .ge 55, 3) := by decide +kernel
theorem dX7_leastMelt_14 : decode cX7_leastMelt 14 = .ok (.aload_n 0, 1) := by decide +kernel
theorem dX7_leastMelt_15 : decode cX7_leastMelt 15 = .ok (.getfield 11, 3) := by decide +kernel
theorem dX7_leastMelt_18 : decode cX7_leastMelt 18 = .ok (.iload 4, 2) := by decide +kernel
theorem dX7_leastMelt_20 : decode cX7_leastMelt 20 = .ok (.iaload, 1) := by decide +kernel
theorem dX7_leastMelt_21 : decode cX7_leastMelt 21 = .ok (.iload_n 1, 1) := by decide +kernel
theorem dX7_leastMelt_22 : decode cX7_leastMelt 22 = .ok (.if_icmp .ne 38, 3) := by decide +kernel
theorem dX7_leastMelt_25 : decode cX7_leastMelt 25 = .ok (.aload_n 0, 1) := by decide +kernel
theorem dX7_leastMelt_26 : decode cX7_leastMelt 26 = .ok (.getfield 18, 3) := by decide +kernel
theorem dX7_leastMelt_29 : decode cX7_leastMelt 29 = .ok (.iload 4, 2) := by decide +kernel
theorem dX7_leastMelt_31 : decode cX7_leastMelt 31 = .ok (.iaload, 1) := by decide +kernel
theorem dX7_leastMelt_32 : decode cX7_leastMelt 32 = .ok (.iload_n 2, 1) := by decide +kernel
theorem dX7_leastMelt_33 : decode cX7_leastMelt 33 = .ok (.if_icmp .gt 27, 3) := by decide +kernel
theorem dX7_leastMelt_36 : decode cX7_leastMelt 36 = .ok (.aload_n 0, 1) := by decide +kernel
theorem dX7_leastMelt_37 : decode cX7_leastMelt 37 = .ok (.getfield 21, 3) := by decide +kernel
theorem dX7_leastMelt_40 : decode cX7_leastMelt 40 = .ok (.iload 4, 2) := by decide +kernel
theorem dX7_leastMelt_42 : decode cX7_leastMelt 42 = .ok (.baload, 1) := by decide +kernel
theorem dX7_leastMelt_43 : decode cX7_leastMelt 43 = .ok (.ifCond .ne 17, 3) := by decide +kernel
theorem dX7_leastMelt_46 : decode cX7_leastMelt 46 = .ok (.iload_n 3, 1) := by decide +kernel
theorem dX7_leastMelt_47 : decode cX7_leastMelt 47 = .ok (.aload_n 0, 1) := by decide +kernel
theorem dX7_leastMelt_48 : decode cX7_leastMelt 48 = .ok (.getfield 15, 3) := by decide +kernel
theorem dX7_leastMelt_51 : decode cX7_leastMelt 51 = .ok (.iload 4, 2) := by decide +kernel
theorem dX7_leastMelt_53 : decode cX7_leastMelt 53 = .ok (.iaload, 1) := by decide +kernel
theorem dX7_leastMelt_54 : decode cX7_leastMelt 54 = .ok (.iconst 1, 1) := by decide +kernel
theorem dX7_leastMelt_55 : decode cX7_leastMelt 55 = .ok (.iadd, 1) := by decide +kernel
theorem dX7_leastMelt_56 : decode cX7_leastMelt 56 = .ok (.invokestatic 36, 3) := by decide +kernel
theorem dX7_leastMelt_59 : decode cX7_leastMelt 59 = .ok (.istore_n 3, 1) := by decide +kernel
theorem dX7_leastMelt_60 : decode cX7_leastMelt 60 = .ok (.iinc 4 1, 3) := by decide +kernel
theorem dX7_leastMelt_63 : decode cX7_leastMelt 63 = .ok (.goto (-58), 3) := by decide +kernel
theorem dX7_leastMelt_66 : decode cX7_leastMelt 66 = .ok (.iload_n 3, 1) := by decide +kernel
theorem dX7_leastMelt_67 : decode cX7_leastMelt 67 = .ok (.ireturn, 1) := by decide +kernel
theorem dX7_greatestMelt_0 : decode cX7_greatestMelt 0 = .ok (.sipush 999, 3) := by decide +kernel
theorem dX7_greatestMelt_3 : decode cX7_greatestMelt 3 = .ok (.istore_n 3, 1) := by decide +kernel
theorem dX7_greatestMelt_4 : decode cX7_greatestMelt 4 = .ok (.iconst 0, 1) := by decide +kernel
theorem dX7_greatestMelt_5 : decode cX7_greatestMelt 5 = .ok (.istore 4, 2) := by decide +kernel
theorem dX7_greatestMelt_7 : decode cX7_greatestMelt 7 = .ok (.iload 4, 2) := by decide +kernel
theorem dX7_greatestMelt_9 : decode cX7_greatestMelt 9 = .ok (.aload_n 0, 1) := by decide +kernel
theorem dX7_greatestMelt_10 : decode cX7_greatestMelt 10 = .ok (.getfield 25, 3) := by decide +kernel
theorem dX7_greatestMelt_13 : decode cX7_greatestMelt 13 = .ok (.if_icmp .ge 53, 3) := by decide +kernel
theorem dX7_greatestMelt_16 : decode cX7_greatestMelt 16 = .ok (.aload_n 0, 1) := by decide +kernel
theorem dX7_greatestMelt_17 : decode cX7_greatestMelt 17 = .ok (.getfield 11, 3) := by decide +kernel
theorem dX7_greatestMelt_20 : decode cX7_greatestMelt 20 = .ok (.iload 4, 2) := by decide +kernel
theorem dX7_greatestMelt_22 : decode cX7_greatestMelt 22 = .ok (.iaload, 1) := by decide +kernel
theorem dX7_greatestMelt_23 : decode cX7_greatestMelt 23 = .ok (.iload_n 1, 1) := by decide +kernel
theorem dX7_greatestMelt_24 : decode cX7_greatestMelt 24 = .ok (.if_icmp .ne 36, 3) := by decide +kernel
theorem dX7_greatestMelt_27 : decode cX7_greatestMelt 27 = .ok (.aload_n 0, 1) := by decide +kernel
theorem dX7_greatestMelt_28 : decode cX7_greatestMelt 28 = .ok (.getfield 18, 3) := by decide +kernel
theorem dX7_greatestMelt_31 : decode cX7_greatestMelt 31 = .ok (.iload 4, 2) := by decide +kernel
theorem dX7_greatestMelt_33 : decode cX7_greatestMelt 33 = .ok (.iaload, 1) := by decide +kernel
theorem dX7_greatestMelt_34 : decode cX7_greatestMelt 34 = .ok (.iload_n 2, 1) := by decide +kernel
theorem dX7_greatestMelt_35 : decode cX7_greatestMelt 35 = .ok (.if_icmp .gt 25, 3) := by decide +kernel
theorem dX7_greatestMelt_38 : decode cX7_greatestMelt 38 = .ok (.aload_n 0, 1) := by decide +kernel
theorem dX7_greatestMelt_39 : decode cX7_greatestMelt 39 = .ok (.getfield 21, 3) := by decide +kernel
theorem dX7_greatestMelt_42 : decode cX7_greatestMelt 42 = .ok (.iload 4, 2) := by decide +kernel
theorem dX7_greatestMelt_44 : decode cX7_greatestMelt 44 = .ok (.baload, 1) := by decide +kernel
theorem dX7_greatestMelt_45 : decode cX7_greatestMelt 45 = .ok (.ifCond .eq 15, 3) := by decide +kernel
theorem dX7_greatestMelt_48 : decode cX7_greatestMelt 48 = .ok (.iload_n 3, 1) := by decide +kernel
theorem dX7_greatestMelt_49 : decode cX7_greatestMelt 49 = .ok (.aload_n 0, 1) := by decide +kernel
theorem dX7_greatestMelt_50 : decode cX7_greatestMelt 50 = .ok (.getfield 15, 3) := by decide +kernel
theorem dX7_greatestMelt_53 : decode cX7_greatestMelt 53 = .ok (.iload 4, 2) := by decide +kernel
theorem dX7_greatestMelt_55 : decode cX7_greatestMelt 55 = .ok (.iaload, 1) := by decide +kernel
theorem dX7_greatestMelt_56 : decode cX7_greatestMelt 56 = .ok (.invokestatic 42, 3) := by decide +kernel
theorem dX7_greatestMelt_59 : decode cX7_greatestMelt 59 = .ok (.istore_n 3, 1) := by decide +kernel
theorem dX7_greatestMelt_60 : decode cX7_greatestMelt 60 = .ok (.iinc 4 1, 3) := by decide +kernel
theorem dX7_greatestMelt_63 : decode cX7_greatestMelt 63 = .ok (.goto (-56), 3) := by decide +kernel
theorem dX7_greatestMelt_66 : decode cX7_greatestMelt 66 = .ok (.iload_n 3, 1) := by decide +kernel
theorem dX7_greatestMelt_67 : decode cX7_greatestMelt 67 = .ok (.ireturn, 1) := by decide +kernel
theorem dX8_init_0 : decode cX8_init 0 = .ok (.aload_n 0, 1) := by decide +kernel
theorem dX8_init_1 : decode cX8_init 1 = .ok (.invokespecial 3, 3) := by decide +kernel
theorem dX8_init_4 : decode cX8_init 4 = .ok (.aload_n 0, 1) := by decide +kernel
theorem dX8_init_5 : decode cX8_init 5 = .ok (.new 9, 3) := by decide +kernel
theorem dX8_init_8 : decode cX8_init 8 = .ok (.dup, 1) := by decide +kernel
theorem dX8_init_9 : decode cX8_init 9 = .ok (.sipush 401, 3) := by decide +kernel
theorem dX8_init_12 : decode cX8_init 12 = .ok (.invokespecial 11, 3) := by decide +kernel
theorem dX8_init_15 : decode cX8_init 15 = .ok (.putfield 14, 3) := by decide +kernel
theorem dX8_init_18 : decode cX8_init 18 = .ok (.aload_n 0, 1) := by decide +kernel
theorem dX8_init_19 : decode cX8_init 19 = .ok (.new 9, 3) := by decide +kernel
theorem dX8_init_22 : decode cX8_init 22 = .ok (.dup, 1) := by decide +kernel
theorem dX8_init_23 : decode cX8_init 23 = .ok (.sipush 401, 3) := by decide +kernel
theorem dX8_init_26 : decode cX8_init 26 = .ok (.invokespecial 11, 3) := by decide +kernel
theorem dX8_init_29 : decode cX8_init 29 = .ok (.putfield 20, 3) := by decide +kernel
theorem dX8_init_32 : decode cX8_init 32 = .ok (.aload_n 0, 1) := by decide +kernel
theorem dX8_init_33 : decode cX8_init 33 = .ok (.new 9, 3) := by decide +kernel
theorem dX8_init_36 : decode cX8_init 36 = .ok (.dup, 1) := by decide +kernel
theorem dX8_init_37 : decode cX8_init 37 = .ok (.sipush 401, 3) := by decide +kernel
theorem dX8_init_40 : decode cX8_init 40 = .ok (.invokespecial 11, 3) := by decide +kernel
theorem dX8_init_43 : decode cX8_init 43 = .ok (.putfield 23, 3) := by decide +kernel
theorem dX8_init_46 : decode cX8_init 46 = .ok (.return_, 1) := by decide +kernel
theorem dX8_takeApart_0 : decode cX8_takeApart 0 = .ok (.aload_n 0, 1) := by decide +kernel
theorem dX8_takeApart_1 : decode cX8_takeApart 1 = .ok (.getfield 14, 3) := by decide +kernel
theorem dX8_takeApart_4 : decode cX8_takeApart 4 = .ok (.iconst 0, 1) := by decide +kernel
theorem dX8_takeApart_5 : decode cX8_takeApart 5 = .ok (.putfield 26, 3) := by decide +kernel
theorem dX8_takeApart_8 : decode cX8_takeApart 8 = .ok (.aload_n 0, 1) := by decide +kernel
theorem dX8_takeApart_9 : decode cX8_takeApart 9 = .ok (.getfield 20, 3) := by decide +kernel
theorem dX8_takeApart_12 : decode cX8_takeApart 12 = .ok (.iconst 0, 1) := by decide +kernel
theorem dX8_takeApart_13 : decode cX8_takeApart 13 = .ok (.putfield 26, 3) := by decide +kernel
theorem dX8_takeApart_16 : decode cX8_takeApart 16 = .ok (.aload_n 0, 1) := by decide +kernel
theorem dX8_takeApart_17 : decode cX8_takeApart 17 = .ok (.getfield 23, 3) := by decide +kernel
theorem dX8_takeApart_20 : decode cX8_takeApart 20 = .ok (.iconst 0, 1) := by decide +kernel
theorem dX8_takeApart_21 : decode cX8_takeApart 21 = .ok (.putfield 26, 3) := by decide +kernel
theorem dX8_takeApart_24 : decode cX8_takeApart 24 = .ok (.iconst 0, 1) := by decide +kernel
theorem dX8_takeApart_25 : decode cX8_takeApart 25 = .ok (.istore_n 2, 1) := by decide +kernel
theorem dX8_takeApart_26 : decode cX8_takeApart 26 = .ok (.iconst 0, 1) := by decide +kernel
theorem dX8_takeApart_27 : decode cX8_takeApart 27 = .ok (.istore_n 3, 1) := by decide +kernel
theorem dX8_takeApart_28 : decode cX8_takeApart 28 = .ok (.iload_n 3, 1) := by decide +kernel
theorem dX8_takeApart_29 : decode cX8_takeApart 29 = .ok (.sipush 400, 3) := by decide +kernel
theorem dX8_takeApart_32 : decode cX8_takeApart 32 = .ok (.if_icmp .ge 83, 3) := by decide +kernel
theorem dX8_takeApart_35 : decode cX8_takeApart 35 = .ok (.iload_n 2, 1) := by decide +kernel
theorem dX8_takeApart_36 : decode cX8_takeApart 36 = .ok (.aload_n 1, 1) := by decide +kernel
theorem dX8_takeApart_37 : decode cX8_takeApart 37 = .ok (.getfield 26, 3) := by decide +kernel
theorem dX8_takeApart_40 : decode cX8_takeApart 40 = .ok (.if_icmp .ge 75, 3) := by decide +kernel
theorem dX8_takeApart_43 : decode cX8_takeApart 43 = .ok (.aload_n 1, 1) := by decide +kernel
theorem dX8_takeApart_44 : decode cX8_takeApart 44 = .ok (.getfield 30, 3) := by decide +kernel
theorem dX8_takeApart_47 : decode cX8_takeApart 47 = .ok (.iload_n 2, 1) := by decide +kernel
theorem dX8_takeApart_48 : decode cX8_takeApart 48 = .ok (.iaload, 1) := by decide +kernel
theorem dX8_takeApart_49 : decode cX8_takeApart 49 = .ok (.istore 4, 2) := by decide +kernel
theorem dX8_takeApart_51 : decode cX8_takeApart 51 = .ok (.iload 4, 2) := by decide +kernel
theorem dX8_takeApart_53 : decode cX8_takeApart 53 = .ok (.invokestatic 34, 3) := by decide +kernel
theorem dX8_takeApart_56 : decode cX8_takeApart 56 = .ok (.ifCond .eq 13, 3) := by decide +kernel
theorem dX8_takeApart_59 : decode cX8_takeApart 59 = .ok (.aload_n 0, 1) := by decide +kernel
theorem dX8_takeApart_60 : decode cX8_takeApart 60 = .ok (.aload_n 1, 1) := by decide +kernel
theorem dX8_takeApart_61 : decode cX8_takeApart 61 = .ok (.iload_n 2, 1) := by decide +kernel
theorem dX8_takeApart_62 : decode cX8_takeApart 62 = .ok (.invokevirtual 38, 3) := by decide +kernel
theorem dX8_takeApart_65 : decode cX8_takeApart 65 = .ok (.istore_n 2, 1) := by decide +kernel
theorem dX8_takeApart_66 : decode cX8_takeApart 66 = .ok (.goto 43, 3) := by decide +kernel
theorem dX8_takeApart_69 : decode cX8_takeApart 69 = .ok (.iload 4, 2) := by decide +kernel
theorem dX8_takeApart_71 : decode cX8_takeApart 71 = .ok (.invokestatic 42, 3) := by decide +kernel
theorem dX8_takeApart_74 : decode cX8_takeApart 74 = .ok (.ifCond .eq 13, 3) := by decide +kernel
theorem dX8_takeApart_77 : decode cX8_takeApart 77 = .ok (.aload_n 0, 1) := by decide +kernel
theorem dX8_takeApart_78 : decode cX8_takeApart 78 = .ok (.aload_n 1, 1) := by decide +kernel
theorem dX8_takeApart_79 : decode cX8_takeApart 79 = .ok (.iload_n 2, 1) := by decide +kernel
theorem dX8_takeApart_80 : decode cX8_takeApart 80 = .ok (.invokevirtual 45, 3) := by decide +kernel
theorem dX8_takeApart_83 : decode cX8_takeApart 83 = .ok (.istore_n 2, 1) := by decide +kernel
theorem dX8_takeApart_84 : decode cX8_takeApart 84 = .ok (.goto 25, 3) := by decide +kernel
theorem dX8_takeApart_87 : decode cX8_takeApart 87 = .ok (.iload 4, 2) := by decide +kernel
theorem dX8_takeApart_89 : decode cX8_takeApart 89 = .ok (.invokestatic 48, 3) := by decide +kernel
theorem dX8_takeApart_92 : decode cX8_takeApart 92 = .ok (.ifCond .ne 14, 3) := by decide +kernel
theorem dX8_takeApart_95 : decode cX8_takeApart 95 = .ok (.aload_n 0, 1) := by decide +kernel
theorem dX8_takeApart_96 : decode cX8_takeApart 96 = .ok (.iload 4, 2) := by decide +kernel
theorem dX8_takeApart_98 : decode cX8_takeApart 98 = .ok (.invokestatic 51, 3) := by decide +kernel
theorem dX8_takeApart_101 : decode cX8_takeApart 101 = .ok (.iload_n 2, 1) := by decide +kernel
theorem dX8_takeApart_102 : decode cX8_takeApart 102 = .ok (.iconst 0, 1) := by decide +kernel
theorem dX8_takeApart_103 : decode cX8_takeApart 103 = .ok (.invokevirtual 55, 3) := by decide +kernel
theorem dX8_takeApart_106 : decode cX8_takeApart 106 = .ok (.iinc 2 1, 3) := by decide +kernel
theorem dX8_takeApart_109 : decode cX8_takeApart 109 = .ok (.iinc 3 1, 3) := by decide +kernel
theorem dX8_takeApart_112 : decode cX8_takeApart 112 = .ok (.goto (-84), 3) := by decide +kernel
theorem dX8_takeApart_115 : decode cX8_takeApart 115 = .ok (.aload_n 0, 1) := by decide +kernel
theorem dX8_takeApart_116 : decode cX8_takeApart 116 = .ok (.iconst 1, 1) := by decide +kernel
theorem dX8_takeApart_117 : decode cX8_takeApart 117 = .ok (.aload_n 1, 1) := by decide +kernel
theorem dX8_takeApart_118 : decode cX8_takeApart 118 = .ok (.getfield 26, 3) := by decide +kernel
theorem dX8_takeApart_121 : decode cX8_takeApart 121 = .ok (.iconst 0, 1) := by decide +kernel
theorem dX8_takeApart_122 : decode cX8_takeApart 122 = .ok (.invokevirtual 55, 3) := by decide +kernel
theorem dX8_takeApart_125 : decode cX8_takeApart 125 = .ok (.return_, 1) := by decide +kernel
theorem dX8_keep_0 : decode cX8_keep 0 = .ok (.aload_n 0, 1) := by decide +kernel
theorem dX8_keep_1 : decode cX8_keep 1 = .ok (.getfield 14, 3) := by decide +kernel
theorem dX8_keep_4 : decode cX8_keep 4 = .ok (.iload_n 1, 1) := by decide +kernel
theorem dX8_keep_5 : decode cX8_keep 5 = .ok (.invokevirtual 59, 3) := by decide +kernel
theorem dX8_keep_8 : decode cX8_keep 8 = .ok (.aload_n 0, 1) := by decide +kernel
theorem dX8_keep_9 : decode cX8_keep 9 = .ok (.getfield 20, 3) := by decide +kernel
theorem dX8_keep_12 : decode cX8_keep 12 = .ok (.iload_n 2, 1) := by decide +kernel
theorem dX8_keep_13 : decode cX8_keep 13 = .ok (.invokevirtual 59, 3) := by decide +kernel
theorem dX8_keep_16 : decode cX8_keep 16 = .ok (.aload_n 0, 1) := by decide +kernel
theorem dX8_keep_17 : decode cX8_keep 17 = .ok (.getfield 23, 3) := by decide +kernel
theorem dX8_keep_20 : decode cX8_keep 20 = .ok (.iload_n 3, 1) := by decide +kernel
theorem dX8_keep_21 : decode cX8_keep 21 = .ok (.invokevirtual 59, 3) := by decide +kernel
theorem dX8_keep_24 : decode cX8_keep 24 = .ok (.return_, 1) := by decide +kernel
theorem dX9_init_0 : decode cX9_init 0 = .ok (.aload_n 0, 1) := by decide +kernel
theorem dX9_init_1 : decode cX9_init 1 = .ok (.invokespecial 3, 3) := by decide +kernel
theorem dX9_init_4 : decode cX9_init 4 = .ok (.aload_n 0, 1) := by decide +kernel
theorem dX9_init_5 : decode cX9_init 5 = .ok (.iconst 0, 1) := by decide +kernel
theorem dX9_init_6 : decode cX9_init 6 = .ok (.putfield 9, 3) := by decide +kernel
theorem dX9_init_9 : decode cX9_init 9 = .ok (.aload_n 0, 1) := by decide +kernel
theorem dX9_init_10 : decode cX9_init 10 = .ok (.iconst 0, 1) := by decide +kernel
theorem dX9_init_11 : decode cX9_init 11 = .ok (.putfield 15, 3) := by decide +kernel
theorem dX9_init_14 : decode cX9_init 14 = .ok (.aload_n 0, 1) := by decide +kernel
theorem dX9_init_15 : decode cX9_init 15 = .ok (.iconst (-1), 1) := by decide +kernel
theorem dX9_init_16 : decode cX9_init 16 = .ok (.putfield 18, 3) := by decide +kernel
theorem dX9_init_19 : decode cX9_init 19 = .ok (.aload_n 0, 1) := by decide +kernel
theorem dX9_init_20 : decode cX9_init 20 = .ok (.new 21, 3) := by decide +kernel
theorem dX9_init_23 : decode cX9_init 23 = .ok (.dup, 1) := by decide +kernel
theorem dX9_init_24 : decode cX9_init 24 = .ok (.invokespecial 23, 3) := by decide +kernel
theorem dX9_init_27 : decode cX9_init 27 = .ok (.putfield 24, 3) := by decide +kernel
theorem dX9_init_30 : decode cX9_init 30 = .ok (.aload_n 0, 1) := by decide +kernel
theorem dX9_init_31 : decode cX9_init 31 = .ok (.new 28, 3) := by decide +kernel
theorem dX9_init_34 : decode cX9_init 34 = .ok (.dup, 1) := by decide +kernel
theorem dX9_init_35 : decode cX9_init 35 = .ok (.iconst 4, 1) := by decide +kernel
theorem dX9_init_36 : decode cX9_init 36 = .ok (.invokespecial 30, 3) := by decide +kernel
theorem dX9_init_39 : decode cX9_init 39 = .ok (.putfield 33, 3) := by decide +kernel
theorem dX9_init_42 : decode cX9_init 42 = .ok (.aload_n 0, 1) := by decide +kernel
theorem dX9_init_43 : decode cX9_init 43 = .ok (.new 37, 3) := by decide +kernel
theorem dX9_init_46 : decode cX9_init 46 = .ok (.dup, 1) := by decide +kernel
theorem dX9_init_47 : decode cX9_init 47 = .ok (.invokespecial 39, 3) := by decide +kernel
theorem dX9_init_50 : decode cX9_init 50 = .ok (.putfield 40, 3) := by decide +kernel
theorem dX9_init_53 : decode cX9_init 53 = .ok (.aload_n 0, 1) := by decide +kernel
theorem dX9_init_54 : decode cX9_init 54 = .ok (.iconst 3, 1) := by decide +kernel
theorem dX9_init_55 : decode cX9_init 55 = .ok (.newarray .int, 2) := by decide +kernel
theorem dX9_init_57 : decode cX9_init 57 = .ok (.putfield 44, 3) := by decide +kernel
theorem dX9_init_60 : decode cX9_init 60 = .ok (.return_, 1) := by decide +kernel
theorem dX10_init_0 : decode cX10_init 0 = .ok (.aload_n 0, 1) := by decide +kernel
theorem dX10_init_1 : decode cX10_init 1 = .ok (.invokespecial 3, 3) := by decide +kernel
theorem dX10_init_4 : decode cX10_init 4 = .ok (.aload_n 0, 1) := by decide +kernel
theorem dX10_init_5 : decode cX10_init 5 = .ok (.iconst 4, 1) := by decide +kernel
theorem dX10_init_6 : decode cX10_init 6 = .ok (.newarray .int, 2) := by decide +kernel
theorem dX10_init_8 : decode cX10_init 8 = .ok (.dup, 1) := by decide +kernel
theorem dX10_init_9 : decode cX10_init 9 = .ok (.iconst 0, 1) := by decide +kernel
theorem dX10_init_10 : decode cX10_init 10 = .ok (.bipush 100, 2) := by decide +kernel
theorem dX10_init_12 : decode cX10_init 12 = .ok (.iastore, 1) := by decide +kernel
theorem dX10_init_13 : decode cX10_init 13 = .ok (.dup, 1) := by decide +kernel
theorem dX10_init_14 : decode cX10_init 14 = .ok (.iconst 1, 1) := by decide +kernel
theorem dX10_init_15 : decode cX10_init 15 = .ok (.bipush 100, 2) := by decide +kernel
theorem dX10_init_17 : decode cX10_init 17 = .ok (.iastore, 1) := by decide +kernel
theorem dX10_init_18 : decode cX10_init 18 = .ok (.dup, 1) := by decide +kernel
theorem dX10_init_19 : decode cX10_init 19 = .ok (.iconst 2, 1) := by decide +kernel
theorem dX10_init_20 : decode cX10_init 20 = .ok (.bipush 100, 2) := by decide +kernel
theorem dX10_init_22 : decode cX10_init 22 = .ok (.iastore, 1) := by decide +kernel
theorem dX10_init_23 : decode cX10_init 23 = .ok (.dup, 1) := by decide +kernel
theorem dX10_init_24 : decode cX10_init 24 = .ok (.iconst 3, 1) := by decide +kernel
theorem dX10_init_25 : decode cX10_init 25 = .ok (.bipush 100, 2) := by decide +kernel
theorem dX10_init_27 : decode cX10_init 27 = .ok (.iastore, 1) := by decide +kernel
theorem dX10_init_28 : decode cX10_init 28 = .ok (.putfield 9, 3) := by decide +kernel
theorem dX10_init_31 : decode cX10_init 31 = .ok (.aload_n 0, 1) := by decide +kernel
theorem dX10_init_32 : decode cX10_init 32 = .ok (.iconst 4, 1) := by decide +kernel
theorem dX10_init_33 : decode cX10_init 33 = .ok (.newarray .int, 2) := by decide +kernel
theorem dX10_init_35 : decode cX10_init 35 = .ok (.dup, 1) := by decide +kernel
theorem dX10_init_36 : decode cX10_init 36 = .ok (.iconst 0, 1) := by decide +kernel
theorem dX10_init_37 : decode cX10_init 37 = .ok (.bipush 10, 2) := by decide +kernel
theorem dX10_init_39 : decode cX10_init 39 = .ok (.iastore, 1) := by decide +kernel
theorem dX10_init_40 : decode cX10_init 40 = .ok (.dup, 1) := by decide +kernel
theorem dX10_init_41 : decode cX10_init 41 = .ok (.iconst 1, 1) := by decide +kernel
theorem dX10_init_42 : decode cX10_init 42 = .ok (.bipush 10, 2) := by decide +kernel
theorem dX10_init_44 : decode cX10_init 44 = .ok (.iastore, 1) := by decide +kernel
theorem dX10_init_45 : decode cX10_init 45 = .ok (.dup, 1) := by decide +kernel
theorem dX10_init_46 : decode cX10_init 46 = .ok (.iconst 2, 1) := by decide +kernel
theorem dX10_init_47 : decode cX10_init 47 = .ok (.bipush 10, 2) := by decide +kernel
theorem dX10_init_49 : decode cX10_init 49 = .ok (.iastore, 1) := by decide +kernel
theorem dX10_init_50 : decode cX10_init 50 = .ok (.dup, 1) := by decide +kernel
theorem dX10_init_51 : decode cX10_init 51 = .ok (.iconst 3, 1) := by decide +kernel
theorem dX10_init_52 : decode cX10_init 52 = .ok (.bipush 10, 2) := by decide +kernel
theorem dX10_init_54 : decode cX10_init 54 = .ok (.iastore, 1) := by decide +kernel
theorem dX10_init_55 : decode cX10_init 55 = .ok (.putfield 15, 3) := by decide +kernel
theorem dX10_init_58 : decode cX10_init 58 = .ok (.aload_n 0, 1) := by decide +kernel
theorem dX10_init_59 : decode cX10_init 59 = .ok (.iconst 4, 1) := by decide +kernel
theorem dX10_init_60 : decode cX10_init 60 = .ok (.newarray .int, 2) := by decide +kernel
theorem dX10_init_62 : decode cX10_init 62 = .ok (.dup, 1) := by decide +kernel
theorem dX10_init_63 : decode cX10_init 63 = .ok (.iconst 0, 1) := by decide +kernel
theorem dX10_init_64 : decode cX10_init 64 = .ok (.iconst 2, 1) := by decide +kernel
theorem dX10_init_65 : decode cX10_init 65 = .ok (.iastore, 1) := by decide +kernel
theorem dX10_init_66 : decode cX10_init 66 = .ok (.dup, 1) := by decide +kernel
theorem dX10_init_67 : decode cX10_init 67 = .ok (.iconst 1, 1) := by decide +kernel
theorem dX10_init_68 : decode cX10_init 68 = .ok (.iconst 2, 1) := by decide +kernel
theorem dX10_init_69 : decode cX10_init 69 = .ok (.iastore, 1) := by decide +kernel
theorem dX10_init_70 : decode cX10_init 70 = .ok (.dup, 1) := by decide +kernel
theorem dX10_init_71 : decode cX10_init 71 = .ok (.iconst 2, 1) := by decide +kernel
theorem dX10_init_72 : decode cX10_init 72 = .ok (.iconst 2, 1) := by decide +kernel
theorem dX10_init_73 : decode cX10_init 73 = .ok (.iastore, 1) := by decide +kernel
theorem dX10_init_74 : decode cX10_init 74 = .ok (.dup, 1) := by decide +kernel
theorem dX10_init_75 : decode cX10_init 75 = .ok (.iconst 3, 1) := by decide +kernel
theorem dX10_init_76 : decode cX10_init 76 = .ok (.iconst 2, 1) := by decide +kernel
theorem dX10_init_77 : decode cX10_init 77 = .ok (.iastore, 1) := by decide +kernel
theorem dX10_init_78 : decode cX10_init 78 = .ok (.putfield 18, 3) := by decide +kernel
theorem dX10_init_81 : decode cX10_init 81 = .ok (.aload_n 0, 1) := by decide +kernel
theorem dX10_init_82 : decode cX10_init 82 = .ok (.iconst 4, 1) := by decide +kernel
theorem dX10_init_83 : decode cX10_init 83 = .ok (.newarray .int, 2) := by decide +kernel
theorem dX10_init_85 : decode cX10_init 85 = .ok (.dup, 1) := by decide +kernel
theorem dX10_init_86 : decode cX10_init 86 = .ok (.iconst 0, 1) := by decide +kernel
theorem dX10_init_87 : decode cX10_init 87 = .ok (.bipush 60, 2) := by decide +kernel
theorem dX10_init_89 : decode cX10_init 89 = .ok (.iastore, 1) := by decide +kernel
theorem dX10_init_90 : decode cX10_init 90 = .ok (.dup, 1) := by decide +kernel
theorem dX10_init_91 : decode cX10_init 91 = .ok (.iconst 1, 1) := by decide +kernel
theorem dX10_init_92 : decode cX10_init 92 = .ok (.bipush 60, 2) := by decide +kernel
theorem dX10_init_94 : decode cX10_init 94 = .ok (.iastore, 1) := by decide +kernel
theorem dX10_init_95 : decode cX10_init 95 = .ok (.dup, 1) := by decide +kernel
theorem dX10_init_96 : decode cX10_init 96 = .ok (.iconst 2, 1) := by decide +kernel
theorem dX10_init_97 : decode cX10_init 97 = .ok (.bipush 60, 2) := by decide +kernel
theorem dX10_init_99 : decode cX10_init 99 = .ok (.iastore, 1) := by decide +kernel
theorem dX10_init_100 : decode cX10_init 100 = .ok (.dup, 1) := by decide +kernel
theorem dX10_init_101 : decode cX10_init 101 = .ok (.iconst 3, 1) := by decide +kernel
theorem dX10_init_102 : decode cX10_init 102 = .ok (.bipush 60, 2) := by decide +kernel
theorem dX10_init_104 : decode cX10_init 104 = .ok (.iastore, 1) := by decide +kernel
theorem dX10_init_105 : decode cX10_init 105 = .ok (.putfield 21, 3) := by decide +kernel
theorem dX10_init_108 : decode cX10_init 108 = .ok (.aload_n 0, 1) := by decide +kernel
theorem dX10_init_109 : decode cX10_init 109 = .ok (.bipush 100, 2) := by decide +kernel
theorem dX10_init_111 : decode cX10_init 111 = .ok (.putfield 24, 3) := by decide +kernel
theorem dX10_init_114 : decode cX10_init 114 = .ok (.aload_n 0, 1) := by decide +kernel
theorem dX10_init_115 : decode cX10_init 115 = .ok (.iconst 1, 1) := by decide +kernel
theorem dX10_init_116 : decode cX10_init 116 = .ok (.putfield 28, 3) := by decide +kernel
theorem dX10_init_119 : decode cX10_init 119 = .ok (.aload_n 0, 1) := by decide +kernel
theorem dX10_init_120 : decode cX10_init 120 = .ok (.iconst 4, 1) := by decide +kernel
theorem dX10_init_121 : decode cX10_init 121 = .ok (.putfield 32, 3) := by decide +kernel
theorem dX10_init_124 : decode cX10_init 124 = .ok (.aload_n 0, 1) := by decide +kernel
theorem dX10_init_125 : decode cX10_init 125 = .ok (.bipush 8, 2) := by decide +kernel
theorem dX10_init_127 : decode cX10_init 127 = .ok (.anewarray 35, 3) := by decide +kernel
theorem dX10_init_130 : decode cX10_init 130 = .ok (.putfield 37, 3) := by decide +kernel
theorem dX10_init_133 : decode cX10_init 133 = .ok (.iconst 0, 1) := by decide +kernel
theorem dX10_init_134 : decode cX10_init 134 = .ok (.istore_n 1, 1) := by decide +kernel
theorem dX10_init_135 : decode cX10_init 135 = .ok (.iload_n 1, 1) := by decide +kernel
theorem dX10_init_136 : decode cX10_init 136 = .ok (.bipush 8, 2) := by decide +kernel
theorem dX10_init_138 : decode cX10_init 138 = .ok (.if_icmp .ge 25, 3) := by decide +kernel
theorem dX10_init_141 : decode cX10_init 141 = .ok (.aload_n 0, 1) := by decide +kernel
theorem dX10_init_142 : decode cX10_init 142 = .ok (.getfield 37, 3) := by decide +kernel
theorem dX10_init_145 : decode cX10_init 145 = .ok (.iload_n 1, 1) := by decide +kernel
theorem dX10_init_146 : decode cX10_init 146 = .ok (.new 35, 3) := by decide +kernel
theorem dX10_init_149 : decode cX10_init 149 = .ok (.dup, 1) := by decide +kernel
theorem dX10_init_150 : decode cX10_init 150 = .ok (.sipush 800, 3) := by decide +kernel
theorem dX10_init_153 : decode cX10_init 153 = .ok (.invokespecial 43, 3) := by decide +kernel
theorem dX10_init_156 : decode cX10_init 156 = .ok (.aastore, 1) := by decide +kernel
theorem dX10_init_157 : decode cX10_init 157 = .ok (.iinc 1 1, 3) := by decide +kernel
theorem dX10_init_160 : decode cX10_init 160 = .ok (.goto (-25), 3) := by decide +kernel
theorem dX10_init_163 : decode cX10_init 163 = .ok (.return_, 1) := by decide +kernel
theorem dX10_setStuff_0 : decode cX10_setStuff 0 = .ok (.iload_n 1, 1) := by decide +kernel
theorem dX10_setStuff_1 : decode cX10_setStuff 1 = .ok (.iconst 0, 1) := by decide +kernel
theorem dX10_setStuff_2 : decode cX10_setStuff 2 = .ok (.iconst 3, 1) := by decide +kernel
theorem dX10_setStuff_3 : decode cX10_setStuff 3 = .ok (.invokestatic 46, 3) := by decide +kernel
theorem dX10_setStuff_6 : decode cX10_setStuff 6 = .ok (.ifCond .eq 47, 3) := by decide +kernel
theorem dX10_setStuff_9 : decode cX10_setStuff 9 = .ok (.iload_n 2, 1) := by decide +kernel
theorem dX10_setStuff_10 : decode cX10_setStuff 10 = .ok (.iconst 1, 1) := by decide +kernel
theorem dX10_setStuff_11 : decode cX10_setStuff 11 = .ok (.sipush 999, 3) := by decide +kernel
theorem dX10_setStuff_14 : decode cX10_setStuff 14 = .ok (.invokestatic 46, 3) := by decide +kernel
theorem dX10_setStuff_17 : decode cX10_setStuff 17 = .ok (.ifCond .eq 36, 3) := by decide +kernel
theorem dX10_setStuff_20 : decode cX10_setStuff 20 = .ok (.iload_n 3, 1) := by decide +kernel
theorem dX10_setStuff_21 : decode cX10_setStuff 21 = .ok (.iconst 0, 1) := by decide +kernel
theorem dX10_setStuff_22 : decode cX10_setStuff 22 = .ok (.bipush 20, 2) := by decide +kernel
theorem dX10_setStuff_24 : decode cX10_setStuff 24 = .ok (.invokestatic 46, 3) := by decide +kernel
theorem dX10_setStuff_27 : decode cX10_setStuff 27 = .ok (.ifCond .eq 26, 3) := by decide +kernel
theorem dX10_setStuff_30 : decode cX10_setStuff 30 = .ok (.iload 4, 2) := by decide +kernel
theorem dX10_setStuff_32 : decode cX10_setStuff 32 = .ok (.iconst 0, 1) := by decide +kernel
theorem dX10_setStuff_33 : decode cX10_setStuff 33 = .ok (.bipush 20, 2) := by decide +kernel
theorem dX10_setStuff_35 : decode cX10_setStuff 35 = .ok (.invokestatic 46, 3) := by decide +kernel
theorem dX10_setStuff_38 : decode cX10_setStuff 38 = .ok (.ifCond .eq 15, 3) := by decide +kernel
theorem dX10_setStuff_41 : decode cX10_setStuff 41 = .ok (.iload 5, 2) := by decide +kernel
theorem dX10_setStuff_43 : decode cX10_setStuff 43 = .ok (.iconst 1, 1) := by decide +kernel
theorem dX10_setStuff_44 : decode cX10_setStuff 44 = .ok (.sipush 9999, 3) := by decide +kernel
theorem dX10_setStuff_47 : decode cX10_setStuff 47 = .ok (.invokestatic 46, 3) := by decide +kernel
theorem dX10_setStuff_50 : decode cX10_setStuff 50 = .ok (.ifCond .ne 5, 3) := by decide +kernel
theorem dX10_setStuff_53 : decode cX10_setStuff 53 = .ok (.iconst 0, 1) := by decide +kernel
theorem dX10_setStuff_54 : decode cX10_setStuff 54 = .ok (.ireturn, 1) := by decide +kernel
theorem dX10_setStuff_55 : decode cX10_setStuff 55 = .ok (.aload_n 0, 1) := by decide +kernel
theorem dX10_setStuff_56 : decode cX10_setStuff 56 = .ok (.getfield 9, 3) := by decide +kernel
theorem dX10_setStuff_59 : decode cX10_setStuff 59 = .ok (.iload_n 1, 1) := by decide +kernel
theorem dX10_setStuff_60 : decode cX10_setStuff 60 = .ok (.iload_n 2, 1) := by decide +kernel
theorem dX10_setStuff_61 : decode cX10_setStuff 61 = .ok (.iastore, 1) := by decide +kernel
theorem dX10_setStuff_62 : decode cX10_setStuff 62 = .ok (.aload_n 0, 1) := by decide +kernel
theorem dX10_setStuff_63 : decode cX10_setStuff 63 = .ok (.getfield 15, 3) := by decide +kernel
theorem dX10_setStuff_66 : decode cX10_setStuff 66 = .ok (.iload_n 1, 1) := by decide +kernel
theorem dX10_setStuff_67 : decode cX10_setStuff 67 = .ok (.iload_n 3, 1) := by decide +kernel
theorem dX10_setStuff_68 : decode cX10_setStuff 68 = .ok (.iastore, 1) := by decide +kernel
theorem dX10_setStuff_69 : decode cX10_setStuff 69 = .ok (.aload_n 0, 1) := by decide +kernel
theorem dX10_setStuff_70 : decode cX10_setStuff 70 = .ok (.getfield 18, 3) := by decide +kernel
theorem dX10_setStuff_73 : decode cX10_setStuff 73 = .ok (.iload_n 1, 1) := by decide +kernel
theorem dX10_setStuff_74 : decode cX10_setStuff 74 = .ok (.iload 4, 2) := by decide +kernel
theorem dX10_setStuff_76 : decode cX10_setStuff 76 = .ok (.iastore, 1) := by decide +kernel
theorem dX10_setStuff_77 : decode cX10_setStuff 77 = .ok (.aload_n 0, 1) := by decide +kernel
theorem dX10_setStuff_78 : decode cX10_setStuff 78 = .ok (.getfield 21, 3) := by decide +kernel
theorem dX10_setStuff_81 : decode cX10_setStuff 81 = .ok (.iload_n 1, 1) := by decide +kernel
theorem dX10_setStuff_82 : decode cX10_setStuff 82 = .ok (.iload 5, 2) := by decide +kernel
theorem dX10_setStuff_84 : decode cX10_setStuff 84 = .ok (.iastore, 1) := by decide +kernel
theorem dX10_setStuff_85 : decode cX10_setStuff 85 = .ok (.iconst 1, 1) := by decide +kernel
theorem dX10_setStuff_86 : decode cX10_setStuff 86 = .ok (.ireturn, 1) := by decide +kernel
theorem dX10_programOf_0 : decode cX10_programOf 0 = .ok (.iload_n 1, 1) := by decide +kernel
theorem dX10_programOf_1 : decode cX10_programOf 1 = .ok (.iconst 0, 1) := by decide +kernel
theorem dX10_programOf_2 : decode cX10_programOf 2 = .ok (.bipush 7, 2) := by decide +kernel
theorem dX10_programOf_4 : decode cX10_programOf 4 = .ok (.invokestatic 46, 3) := by decide +kernel
theorem dX10_programOf_7 : decode cX10_programOf 7 = .ok (.ifCond .eq 12, 3) := by decide +kernel
theorem dX10_programOf_10 : decode cX10_programOf 10 = .ok (.aload_n 0, 1) := by decide +kernel
theorem dX10_programOf_11 : decode cX10_programOf 11 = .ok (.getfield 37, 3) := by decide +kernel
theorem dX10_programOf_14 : decode cX10_programOf 14 = .ok (.iload_n 1, 1) := by decide +kernel
theorem dX10_programOf_15 : decode cX10_programOf 15 = .ok (.aaload, 1) := by decide +kernel
theorem dX10_programOf_16 : decode cX10_programOf 16 = .ok (.goto 4, 3) := by decide +kernel
theorem dX10_programOf_19 : decode cX10_programOf 19 = .ok (.aconst_null, 1) := by decide +kernel
theorem dX10_programOf_20 : decode cX10_programOf 20 = .ok (.areturn, 1) := by decide +kernel
theorem dX11_init_0 : decode cX11_init 0 = .ok (.aload_n 0, 1) := by decide +kernel
theorem dX11_init_1 : decode cX11_init 1 = .ok (.invokespecial 1, 3) := by decide +kernel
theorem dX11_init_4 : decode cX11_init 4 = .ok (.aload_n 0, 1) := by decide +kernel
theorem dX11_init_5 : decode cX11_init 5 = .ok (.new 7, 3) := by decide +kernel
theorem dX11_init_8 : decode cX11_init 8 = .ok (.dup, 1) := by decide +kernel
theorem dX11_init_9 : decode cX11_init 9 = .ok (.invokespecial 9, 3) := by decide +kernel
theorem dX11_init_12 : decode cX11_init 12 = .ok (.putfield 10, 3) := by decide +kernel
theorem dX11_init_15 : decode cX11_init 15 = .ok (.aload_n 0, 1) := by decide +kernel
theorem dX11_init_16 : decode cX11_init 16 = .ok (.new 16, 3) := by decide +kernel
theorem dX11_init_19 : decode cX11_init 19 = .ok (.dup, 1) := by decide +kernel
theorem dX11_init_20 : decode cX11_init 20 = .ok (.sipush 400, 3) := by decide +kernel
theorem dX11_init_23 : decode cX11_init 23 = .ok (.invokespecial 18, 3) := by decide +kernel
theorem dX11_init_26 : decode cX11_init 26 = .ok (.putfield 21, 3) := by decide +kernel
theorem dX11_init_29 : decode cX11_init 29 = .ok (.aload_n 0, 1) := by decide +kernel
theorem dX11_init_30 : decode cX11_init 30 = .ok (.new 16, 3) := by decide +kernel
theorem dX11_init_33 : decode cX11_init 33 = .ok (.dup, 1) := by decide +kernel
theorem dX11_init_34 : decode cX11_init 34 = .ok (.sipush 400, 3) := by decide +kernel
theorem dX11_init_37 : decode cX11_init 37 = .ok (.invokespecial 18, 3) := by decide +kernel
theorem dX11_init_40 : decode cX11_init 40 = .ok (.putfield 25, 3) := by decide +kernel
theorem dX11_init_43 : decode cX11_init 43 = .ok (.aload_n 0, 1) := by decide +kernel
theorem dX11_init_44 : decode cX11_init 44 = .ok (.new 28, 3) := by decide +kernel
theorem dX11_init_47 : decode cX11_init 47 = .ok (.dup, 1) := by decide +kernel
theorem dX11_init_48 : decode cX11_init 48 = .ok (.invokespecial 30, 3) := by decide +kernel
theorem dX11_init_51 : decode cX11_init 51 = .ok (.putfield 31, 3) := by decide +kernel
theorem dX11_init_54 : decode cX11_init 54 = .ok (.aload_n 0, 1) := by decide +kernel
theorem dX11_init_55 : decode cX11_init 55 = .ok (.new 35, 3) := by decide +kernel
theorem dX11_init_58 : decode cX11_init 58 = .ok (.dup, 1) := by decide +kernel
theorem dX11_init_59 : decode cX11_init 59 = .ok (.invokespecial 37, 3) := by decide +kernel
theorem dX11_init_62 : decode cX11_init 62 = .ok (.putfield 38, 3) := by decide +kernel
theorem dX11_init_65 : decode cX11_init 65 = .ok (.aload_n 0, 1) := by decide +kernel
theorem dX11_init_66 : decode cX11_init 66 = .ok (.new 42, 3) := by decide +kernel
theorem dX11_init_69 : decode cX11_init 69 = .ok (.dup, 1) := by decide +kernel
theorem dX11_init_70 : decode cX11_init 70 = .ok (.invokespecial 44, 3) := by decide +kernel
theorem dX11_init_73 : decode cX11_init 73 = .ok (.putfield 45, 3) := by decide +kernel
theorem dX11_init_76 : decode cX11_init 76 = .ok (.aload_n 0, 1) := by decide +kernel
theorem dX11_init_77 : decode cX11_init 77 = .ok (.new 49, 3) := by decide +kernel
theorem dX11_init_80 : decode cX11_init 80 = .ok (.dup, 1) := by decide +kernel
theorem dX11_init_81 : decode cX11_init 81 = .ok (.invokespecial 51, 3) := by decide +kernel
theorem dX11_init_84 : decode cX11_init 84 = .ok (.putfield 52, 3) := by decide +kernel
theorem dX11_init_87 : decode cX11_init 87 = .ok (.aload_n 0, 1) := by decide +kernel
theorem dX11_init_88 : decode cX11_init 88 = .ok (.new 56, 3) := by decide +kernel
theorem dX11_init_91 : decode cX11_init 91 = .ok (.dup, 1) := by decide +kernel
theorem dX11_init_92 : decode cX11_init 92 = .ok (.invokespecial 58, 3) := by decide +kernel
theorem dX11_init_95 : decode cX11_init 95 = .ok (.putfield 59, 3) := by decide +kernel
theorem dX11_init_98 : decode cX11_init 98 = .ok (.aload_n 0, 1) := by decide +kernel
theorem dX11_init_99 : decode cX11_init 99 = .ok (.new 63, 3) := by decide +kernel
theorem dX11_init_102 : decode cX11_init 102 = .ok (.dup, 1) := by decide +kernel
theorem dX11_init_103 : decode cX11_init 103 = .ok (.invokespecial 65, 3) := by decide +kernel
theorem dX11_init_106 : decode cX11_init 106 = .ok (.putfield 66, 3) := by decide +kernel
theorem dX11_init_109 : decode cX11_init 109 = .ok (.aload_n 0, 1) := by decide +kernel
theorem dX11_init_110 : decode cX11_init 110 = .ok (.iconst 0, 1) := by decide +kernel
theorem dX11_init_111 : decode cX11_init 111 = .ok (.putfield 70, 3) := by decide +kernel
theorem dX11_init_114 : decode cX11_init 114 = .ok (.aload_n 0, 1) := by decide +kernel
theorem dX11_init_115 : decode cX11_init 115 = .ok (.iconst (-1), 1) := by decide +kernel
theorem dX11_init_116 : decode cX11_init 116 = .ok (.putfield 74, 3) := by decide +kernel
theorem dX11_init_119 : decode cX11_init 119 = .ok (.return_, 1) := by decide +kernel
theorem dX11_stuff_0 : decode cX11_stuff 0 = .ok (.aload_n 0, 1) := by decide +kernel
theorem dX11_stuff_1 : decode cX11_stuff 1 = .ok (.getfield 10, 3) := by decide +kernel
theorem dX11_stuff_4 : decode cX11_stuff 4 = .ok (.iload_n 1, 1) := by decide +kernel
theorem dX11_stuff_5 : decode cX11_stuff 5 = .ok (.iload_n 2, 1) := by decide +kernel
theorem dX11_stuff_6 : decode cX11_stuff 6 = .ok (.iload_n 3, 1) := by decide +kernel
theorem dX11_stuff_7 : decode cX11_stuff 7 = .ok (.iload 4, 2) := by decide +kernel
theorem dX11_stuff_9 : decode cX11_stuff 9 = .ok (.iload 5, 2) := by decide +kernel
theorem dX11_stuff_11 : decode cX11_stuff 11 = .ok (.invokevirtual 77, 3) := by decide +kernel
theorem dX11_stuff_14 : decode cX11_stuff 14 = .ok (.ireturn, 1) := by decide +kernel
theorem dX11_plate_0 : decode cX11_plate 0 = .ok (.iload_n 1, 1) := by decide +kernel
theorem dX11_plate_1 : decode cX11_plate 1 = .ok (.iconst 1, 1) := by decide +kernel
theorem dX11_plate_2 : decode cX11_plate 2 = .ok (.bipush 16, 2) := by decide +kernel
theorem dX11_plate_4 : decode cX11_plate 4 = .ok (.invokestatic 81, 3) := by decide +kernel
theorem dX11_plate_7 : decode cX11_plate 7 = .ok (.ifCond .eq 33, 3) := by decide +kernel
theorem dX11_plate_10 : decode cX11_plate 10 = .ok (.iload_n 2, 1) := by decide +kernel
theorem dX11_plate_11 : decode cX11_plate 11 = .ok (.iconst 1, 1) := by decide +kernel
theorem dX11_plate_12 : decode cX11_plate 12 = .ok (.bipush 12, 2) := by decide +kernel
theorem dX11_plate_14 : decode cX11_plate 14 = .ok (.invokestatic 81, 3) := by decide +kernel
theorem dX11_plate_17 : decode cX11_plate 17 = .ok (.ifCond .eq 23, 3) := by decide +kernel
theorem dX11_plate_20 : decode cX11_plate 20 = .ok (.iload_n 3, 1) := by decide +kernel
theorem dX11_plate_21 : decode cX11_plate 21 = .ok (.iconst 0, 1) := by decide +kernel
theorem dX11_plate_22 : decode cX11_plate 22 = .ok (.iconst 3, 1) := by decide +kernel
theorem dX11_plate_23 : decode cX11_plate 23 = .ok (.invokestatic 81, 3) := by decide +kernel
theorem dX11_plate_26 : decode cX11_plate 26 = .ok (.ifCond .eq 14, 3) := by decide +kernel
theorem dX11_plate_29 : decode cX11_plate 29 = .ok (.iload 4, 2) := by decide +kernel
theorem dX11_plate_31 : decode cX11_plate 31 = .ok (.iconst 1, 1) := by decide +kernel
theorem dX11_plate_32 : decode cX11_plate 32 = .ok (.bipush 9, 2) := by decide +kernel
theorem dX11_plate_34 : decode cX11_plate 34 = .ok (.invokestatic 81, 3) := by decide +kernel
theorem dX11_plate_37 : decode cX11_plate 37 = .ok (.ifCond .ne 5, 3) := by decide +kernel
theorem dX11_plate_40 : decode cX11_plate 40 = .ok (.iconst 0, 1) := by decide +kernel
theorem dX11_plate_41 : decode cX11_plate 41 = .ok (.ireturn, 1) := by decide +kernel
theorem dX11_plate_42 : decode cX11_plate 42 = .ok (.aload_n 0, 1) := by decide +kernel
theorem dX11_plate_43 : decode cX11_plate 43 = .ok (.getfield 38, 3) := by decide +kernel
theorem dX11_plate_46 : decode cX11_plate 46 = .ok (.iload_n 1, 1) := by decide +kernel
theorem dX11_plate_47 : decode cX11_plate 47 = .ok (.iload_n 2, 1) := by decide +kernel
theorem dX11_plate_48 : decode cX11_plate 48 = .ok (.iload_n 3, 1) := by decide +kernel
theorem dX11_plate_49 : decode cX11_plate 49 = .ok (.iload 4, 2) := by decide +kernel
theorem dX11_plate_51 : decode cX11_plate 51 = .ok (.invokevirtual 85, 3) := by decide +kernel
theorem dX11_plate_54 : decode cX11_plate 54 = .ok (.iconst 1, 1) := by decide +kernel
theorem dX11_plate_55 : decode cX11_plate 55 = .ok (.ireturn, 1) := by decide +kernel
theorem dX11_beam_0 : decode cX11_beam 0 = .ok (.iload_n 1, 1) := by decide +kernel
theorem dX11_beam_1 : decode cX11_beam 1 = .ok (.iconst 0, 1) := by decide +kernel
theorem dX11_beam_2 : decode cX11_beam 2 = .ok (.sipush 9999, 3) := by decide +kernel
theorem dX11_beam_5 : decode cX11_beam 5 = .ok (.invokestatic 81, 3) := by decide +kernel
theorem dX11_beam_8 : decode cX11_beam 8 = .ok (.ifCond .ne 5, 3) := by decide +kernel
theorem dX11_beam_11 : decode cX11_beam 11 = .ok (.iconst 0, 1) := by decide +kernel
theorem dX11_beam_12 : decode cX11_beam 12 = .ok (.ireturn, 1) := by decide +kernel
theorem dX11_beam_13 : decode cX11_beam 13 = .ok (.aload_n 0, 1) := by decide +kernel
theorem dX11_beam_14 : decode cX11_beam 14 = .ok (.getfield 10, 3) := by decide +kernel
theorem dX11_beam_17 : decode cX11_beam 17 = .ok (.iload_n 1, 1) := by decide +kernel
theorem dX11_beam_18 : decode cX11_beam 18 = .ok (.putfield 89, 3) := by decide +kernel
theorem dX11_beam_21 : decode cX11_beam 21 = .ok (.aload_n 0, 1) := by decide +kernel
theorem dX11_beam_22 : decode cX11_beam 22 = .ok (.getfield 10, 3) := by decide +kernel
theorem dX11_beam_25 : decode cX11_beam 25 = .ok (.iload_n 2, 1) := by decide +kernel
theorem dX11_beam_26 : decode cX11_beam 26 = .ok (.putfield 92, 3) := by decide +kernel
theorem dX11_beam_29 : decode cX11_beam 29 = .ok (.iconst 1, 1) := by decide +kernel
theorem dX11_beam_30 : decode cX11_beam 30 = .ok (.ireturn, 1) := by decide +kernel
theorem dX11_pitch_0 : decode cX11_pitch 0 = .ok (.iload_n 1, 1) := by decide +kernel
theorem dX11_pitch_1 : decode cX11_pitch 1 = .ok (.iconst 2, 1) := by decide +kernel
theorem dX11_pitch_2 : decode cX11_pitch 2 = .ok (.bipush 9, 2) := by decide +kernel
theorem dX11_pitch_4 : decode cX11_pitch 4 = .ok (.invokestatic 81, 3) := by decide +kernel
theorem dX11_pitch_7 : decode cX11_pitch 7 = .ok (.ifCond .ne 5, 3) := by decide +kernel
theorem dX11_pitch_10 : decode cX11_pitch 10 = .ok (.iconst 0, 1) := by decide +kernel
theorem dX11_pitch_11 : decode cX11_pitch 11 = .ok (.ireturn, 1) := by decide +kernel
theorem dX11_pitch_12 : decode cX11_pitch 12 = .ok (.aload_n 0, 1) := by decide +kernel
theorem dX11_pitch_13 : decode cX11_pitch 13 = .ok (.getfield 10, 3) := by decide +kernel
theorem dX11_pitch_16 : decode cX11_pitch 16 = .ok (.iload_n 1, 1) := by decide +kernel
theorem dX11_pitch_17 : decode cX11_pitch 17 = .ok (.putfield 96, 3) := by decide +kernel
theorem dX11_pitch_20 : decode cX11_pitch 20 = .ok (.iconst 1, 1) := by decide +kernel
theorem dX11_pitch_21 : decode cX11_pitch 21 = .ok (.ireturn, 1) := by decide +kernel
theorem dX11_feed_0 : decode cX11_feed 0 = .ok (.aload_n 0, 1) := by decide +kernel
theorem dX11_feed_1 : decode cX11_feed 1 = .ok (.getfield 21, 3) := by decide +kernel
theorem dX11_feed_4 : decode cX11_feed 4 = .ok (.getfield 99, 3) := by decide +kernel
theorem dX11_feed_7 : decode cX11_feed 7 = .ok (.bipush 20, 2) := by decide +kernel
theorem dX11_feed_9 : decode cX11_feed 9 = .ok (.iadd, 1) := by decide +kernel
theorem dX11_feed_10 : decode cX11_feed 10 = .ok (.sipush 400, 3) := by decide +kernel
theorem dX11_feed_13 : decode cX11_feed 13 = .ok (.if_icmp .le 5, 3) := by decide +kernel
theorem dX11_feed_16 : decode cX11_feed 16 = .ok (.iconst (-1), 1) := by decide +kernel
theorem dX11_feed_17 : decode cX11_feed 17 = .ok (.ireturn, 1) := by decide +kernel
theorem dX11_feed_18 : decode cX11_feed 18 = .ok (.aload_n 0, 1) := by decide +kernel
theorem dX11_feed_19 : decode cX11_feed 19 = .ok (.getfield 21, 3) := by decide +kernel
theorem dX11_feed_22 : decode cX11_feed 22 = .ok (.iload_n 1, 1) := by decide +kernel
theorem dX11_feed_23 : decode cX11_feed 23 = .ok (.invokevirtual 102, 3) := by decide +kernel
theorem dX11_feed_26 : decode cX11_feed 26 = .ok (.aload_n 0, 1) := by decide +kernel
theorem dX11_feed_27 : decode cX11_feed 27 = .ok (.getfield 21, 3) := by decide +kernel
theorem dX11_feed_30 : decode cX11_feed 30 = .ok (.iload_n 2, 1) := by decide +kernel
theorem dX11_feed_31 : decode cX11_feed 31 = .ok (.invokevirtual 102, 3) := by decide +kernel
theorem dX11_feed_34 : decode cX11_feed 34 = .ok (.aload_n 0, 1) := by decide +kernel
theorem dX11_feed_35 : decode cX11_feed 35 = .ok (.getfield 21, 3) := by decide +kernel
theorem dX11_feed_38 : decode cX11_feed 38 = .ok (.iload_n 3, 1) := by decide +kernel
theorem dX11_feed_39 : decode cX11_feed 39 = .ok (.invokevirtual 102, 3) := by decide +kernel
theorem dX11_feed_42 : decode cX11_feed 42 = .ok (.aload_n 0, 1) := by decide +kernel
theorem dX11_feed_43 : decode cX11_feed 43 = .ok (.getfield 21, 3) := by decide +kernel
theorem dX11_feed_46 : decode cX11_feed 46 = .ok (.iload 4, 2) := by decide +kernel
theorem dX11_feed_48 : decode cX11_feed 48 = .ok (.invokevirtual 102, 3) := by decide +kernel
theorem dX11_feed_51 : decode cX11_feed 51 = .ok (.aload_n 0, 1) := by decide +kernel
theorem dX11_feed_52 : decode cX11_feed 52 = .ok (.getfield 21, 3) := by decide +kernel
theorem dX11_feed_55 : decode cX11_feed 55 = .ok (.iload 5, 2) := by decide +kernel
theorem dX11_feed_57 : decode cX11_feed 57 = .ok (.invokevirtual 102, 3) := by decide +kernel
theorem dX11_feed_60 : decode cX11_feed 60 = .ok (.aload_n 0, 1) := by decide +kernel
theorem dX11_feed_61 : decode cX11_feed 61 = .ok (.getfield 21, 3) := by decide +kernel
theorem dX11_feed_64 : decode cX11_feed 64 = .ok (.getfield 99, 3) := by decide +kernel
theorem dX11_feed_67 : decode cX11_feed 67 = .ok (.ireturn, 1) := by decide +kernel
theorem dX11_end_0 : decode cX11_end 0 = .ok (.iload_n 1, 1) := by decide +kernel
theorem dX11_end_1 : decode cX11_end 1 = .ok (.iconst 0, 1) := by decide +kernel
theorem dX11_end_2 : decode cX11_end 2 = .ok (.aload_n 0, 1) := by decide +kernel
theorem dX11_end_3 : decode cX11_end 3 = .ok (.getfield 21, 3) := by decide +kernel
theorem dX11_end_6 : decode cX11_end 6 = .ok (.getfield 99, 3) := by decide +kernel
theorem dX11_end_9 : decode cX11_end 9 = .ok (.invokestatic 81, 3) := by decide +kernel
theorem dX11_end_12 : decode cX11_end 12 = .ok (.ifCond .ne 5, 3) := by decide +kernel
theorem dX11_end_15 : decode cX11_end 15 = .ok (.iconst 0, 1) := by decide +kernel
theorem dX11_end_16 : decode cX11_end 16 = .ok (.ireturn, 1) := by decide +kernel
theorem dX11_end_17 : decode cX11_end 17 = .ok (.aload_n 0, 1) := by decide +kernel
theorem dX11_end_18 : decode cX11_end 18 = .ok (.getfield 21, 3) := by decide +kernel
theorem dX11_end_21 : decode cX11_end 21 = .ok (.iload_n 1, 1) := by decide +kernel
theorem dX11_end_22 : decode cX11_end 22 = .ok (.putfield 99, 3) := by decide +kernel
theorem dX11_end_25 : decode cX11_end 25 = .ok (.iconst 1, 1) := by decide +kernel
theorem dX11_end_26 : decode cX11_end 26 = .ok (.ireturn, 1) := by decide +kernel
theorem dX11_way_0 : decode cX11_way 0 = .ok (.aload_n 0, 1) := by decide +kernel
theorem dX11_way_1 : decode cX11_way 1 = .ok (.iconst 0, 1) := by decide +kernel
theorem dX11_way_2 : decode cX11_way 2 = .ok (.putfield 70, 3) := by decide +kernel
theorem dX11_way_5 : decode cX11_way 5 = .ok (.aload_n 0, 1) := by decide +kernel
theorem dX11_way_6 : decode cX11_way 6 = .ok (.iconst (-1), 1) := by decide +kernel
theorem dX11_way_7 : decode cX11_way 7 = .ok (.putfield 74, 3) := by decide +kernel
theorem dX11_way_10 : decode cX11_way 10 = .ok (.iconst 0, 1) := by decide +kernel
theorem dX11_way_11 : decode cX11_way 11 = .ok (.istore_n 2, 1) := by decide +kernel
theorem dX11_way_12 : decode cX11_way 12 = .ok (.aload_n 0, 1) := by decide +kernel
theorem dX11_way_13 : decode cX11_way 13 = .ok (.getfield 10, 3) := by decide +kernel
theorem dX11_way_16 : decode cX11_way 16 = .ok (.iload_n 1, 1) := by decide +kernel
theorem dX11_way_17 : decode cX11_way 17 = .ok (.invokevirtual 105, 3) := by decide +kernel
theorem dX11_way_20 : decode cX11_way 20 = .ok (.astore_n 3, 1) := by decide +kernel
theorem dX11_way_21 : decode cX11_way 21 = .ok (.aload_n 3, 1) := by decide +kernel
theorem dX11_way_22 : decode cX11_way 22 = .ok (.ifnull 52, 3) := by decide +kernel
theorem dX11_way_25 : decode cX11_way 25 = .ok (.aload_n 0, 1) := by decide +kernel
theorem dX11_way_26 : decode cX11_way 26 = .ok (.getfield 31, 3) := by decide +kernel
theorem dX11_way_29 : decode cX11_way 29 = .ok (.aload_n 0, 1) := by decide +kernel
theorem dX11_way_30 : decode cX11_way 30 = .ok (.getfield 21, 3) := by decide +kernel
theorem dX11_way_33 : decode cX11_way 33 = .ok (.invokevirtual 109, 3) := by decide +kernel
theorem dX11_way_36 : decode cX11_way 36 = .ok (.istore_n 2, 1) := by decide +kernel
theorem dX11_way_37 : decode cX11_way 37 = .ok (.aload_n 0, 1) := by decide +kernel
theorem dX11_way_38 : decode cX11_way 38 = .ok (.aload_n 0, 1) := by decide +kernel
theorem dX11_way_39 : decode cX11_way 39 = .ok (.getfield 31, 3) := by decide +kernel
theorem dX11_way_42 : decode cX11_way 42 = .ok (.getfield 113, 3) := by decide +kernel
theorem dX11_way_45 : decode cX11_way 45 = .ok (.putfield 70, 3) := by decide +kernel
theorem dX11_way_48 : decode cX11_way 48 = .ok (.aload_n 0, 1) := by decide +kernel
theorem dX11_way_49 : decode cX11_way 49 = .ok (.aload_n 0, 1) := by decide +kernel
theorem dX11_way_50 : decode cX11_way 50 = .ok (.getfield 31, 3) := by decide +kernel
theorem dX11_way_53 : decode cX11_way 53 = .ok (.getfield 116, 3) := by decide +kernel
theorem dX11_way_56 : decode cX11_way 56 = .ok (.putfield 74, 3) := by decide +kernel
theorem dX11_way_59 : decode cX11_way 59 = .ok (.iload_n 2, 1) := by decide +kernel
theorem dX11_way_60 : decode cX11_way 60 = .ok (.ifCond .eq 14, 3) := by decide +kernel
theorem dX11_way_63 : decode cX11_way 63 = .ok (.aload_n 3, 1) := by decide +kernel
theorem dX11_way_64 : decode cX11_way 64 = .ok (.aload_n 0, 1) := by decide +kernel
theorem dX11_way_65 : decode cX11_way 65 = .ok (.getfield 31, 3) := by decide +kernel
theorem dX11_way_68 : decode cX11_way 68 = .ok (.getfield 117, 3) := by decide +kernel
theorem dX11_way_71 : decode cX11_way 71 = .ok (.invokevirtual 120, 3) := by decide +kernel
theorem dX11_way_74 : decode cX11_way 74 = .ok (.aload_n 0, 1) := by decide +kernel
theorem dX11_way_75 : decode cX11_way 75 = .ok (.getfield 21, 3) := by decide +kernel
theorem dX11_way_78 : decode cX11_way 78 = .ok (.iconst 0, 1) := by decide +kernel
theorem dX11_way_79 : decode cX11_way 79 = .ok (.putfield 99, 3) := by decide +kernel
theorem dX11_way_82 : decode cX11_way 82 = .ok (.iload_n 2, 1) := by decide +kernel
theorem dX11_way_83 : decode cX11_way 83 = .ok (.ireturn, 1) := by decide +kernel
theorem dX11_fault_0 : decode cX11_fault 0 = .ok (.iload_n 1, 1) := by decide +kernel
theorem dX11_fault_1 : decode cX11_fault 1 = .ok (.lookupswitch 37 #[(0, 27), (1, 32)], 27) := by decide +kernel
theorem dX11_fault_28 : decode cX11_fault 28 = .ok (.aload_n 0, 1) := by decide +kernel
theorem dX11_fault_29 : decode cX11_fault 29 = .ok (.getfield 70, 3) := by decide +kernel
theorem dX11_fault_32 : decode cX11_fault 32 = .ok (.ireturn, 1) := by decide +kernel
theorem dX11_fault_33 : decode cX11_fault 33 = .ok (.aload_n 0, 1) := by decide +kernel
theorem dX11_fault_34 : decode cX11_fault 34 = .ok (.getfield 74, 3) := by decide +kernel
theorem dX11_fault_37 : decode cX11_fault 37 = .ok (.ireturn, 1) := by decide +kernel
theorem dX11_fault_38 : decode cX11_fault 38 = .ok (.iconst (-1), 1) := by decide +kernel
theorem dX11_fault_39 : decode cX11_fault 39 = .ok (.ireturn, 1) := by decide +kernel
theorem dX11_run_0 : decode cX11_run 0 = .ok (.aload_n 0, 1) := by decide +kernel
theorem dX11_run_1 : decode cX11_run 1 = .ok (.getfield 10, 3) := by decide +kernel
theorem dX11_run_4 : decode cX11_run 4 = .ok (.iload_n 1, 1) := by decide +kernel
theorem dX11_run_5 : decode cX11_run 5 = .ok (.invokevirtual 105, 3) := by decide +kernel
theorem dX11_run_8 : decode cX11_run 8 = .ok (.astore_n 2, 1) := by decide +kernel
theorem dX11_run_9 : decode cX11_run 9 = .ok (.aload_n 2, 1) := by decide +kernel
theorem dX11_run_10 : decode cX11_run 10 = .ok (.ifnull 13, 3) := by decide +kernel
theorem dX11_run_13 : decode cX11_run 13 = .ok (.aload_n 0, 1) := by decide +kernel
theorem dX11_run_14 : decode cX11_run 14 = .ok (.getfield 38, 3) := by decide +kernel
theorem dX11_run_17 : decode cX11_run 17 = .ok (.invokevirtual 124, 3) := by decide +kernel
theorem dX11_run_20 : decode cX11_run 20 = .ok (.ifCond .ne 5, 3) := by decide +kernel
theorem dX11_run_23 : decode cX11_run 23 = .ok (.iconst (-1), 1) := by decide +kernel
theorem dX11_run_24 : decode cX11_run 24 = .ok (.ireturn, 1) := by decide +kernel
theorem dX11_run_25 : decode cX11_run 25 = .ok (.aload_n 0, 1) := by decide +kernel
theorem dX11_run_26 : decode cX11_run 26 = .ok (.getfield 45, 3) := by decide +kernel
theorem dX11_run_29 : decode cX11_run 29 = .ok (.aload_n 2, 1) := by decide +kernel
theorem dX11_run_30 : decode cX11_run 30 = .ok (.aload_n 0, 1) := by decide +kernel
theorem dX11_run_31 : decode cX11_run 31 = .ok (.getfield 38, 3) := by decide +kernel
theorem dX11_run_34 : decode cX11_run 34 = .ok (.aload_n 0, 1) := by decide +kernel
theorem dX11_run_35 : decode cX11_run 35 = .ok (.getfield 10, 3) := by decide +kernel
theorem dX11_run_38 : decode cX11_run 38 = .ok (.invokevirtual 128, 3) := by decide +kernel
theorem dX11_run_41 : decode cX11_run 41 = .ok (.ireturn, 1) := by decide +kernel
theorem dX11_cell_0 : decode cX11_cell 0 = .ok (.aload_n 0, 1) := by decide +kernel
theorem dX11_cell_1 : decode cX11_cell 1 = .ok (.getfield 38, 3) := by decide +kernel
theorem dX11_cell_4 : decode cX11_cell 4 = .ok (.iload_n 1, 1) := by decide +kernel
theorem dX11_cell_5 : decode cX11_cell 5 = .ok (.iload_n 2, 1) := by decide +kernel
theorem dX11_cell_6 : decode cX11_cell 6 = .ok (.invokevirtual 132, 3) := by decide +kernel
theorem dX11_cell_9 : decode cX11_cell 9 = .ok (.ifCond .ne 5, 3) := by decide +kernel
theorem dX11_cell_12 : decode cX11_cell 12 = .ok (.iconst (-1), 1) := by decide +kernel
theorem dX11_cell_13 : decode cX11_cell 13 = .ok (.ireturn, 1) := by decide +kernel
theorem dX11_cell_14 : decode cX11_cell 14 = .ok (.aload_n 0, 1) := by decide +kernel
theorem dX11_cell_15 : decode cX11_cell 15 = .ok (.getfield 38, 3) := by decide +kernel
theorem dX11_cell_18 : decode cX11_cell 18 = .ok (.iload_n 1, 1) := by decide +kernel
theorem dX11_cell_19 : decode cX11_cell 19 = .ok (.iload_n 2, 1) := by decide +kernel
theorem dX11_cell_20 : decode cX11_cell 20 = .ok (.invokevirtual 136, 3) := by decide +kernel
theorem dX11_cell_23 : decode cX11_cell 23 = .ok (.istore 4, 2) := by decide +kernel
theorem dX11_cell_25 : decode cX11_cell 25 = .ok (.iload_n 3, 1) := by decide +kernel
theorem dX11_cell_26 : decode cX11_cell 26 = .ok (.tableswitch 130 0 5 #[38, 49, 59, 70, 83, 104], 38) := by decide +kernel
theorem dX11_cell_64 : decode cX11_cell 64 = .ok (.aload_n 0, 1) := by decide +kernel
theorem dX11_cell_65 : decode cX11_cell 65 = .ok (.getfield 38, 3) := by decide +kernel
theorem dX11_cell_68 : decode cX11_cell 68 = .ok (.getfield 140, 3) := by decide +kernel
theorem dX11_cell_71 : decode cX11_cell 71 = .ok (.iload 4, 2) := by decide +kernel
theorem dX11_cell_73 : decode cX11_cell 73 = .ok (.iaload, 1) := by decide +kernel
theorem dX11_cell_74 : decode cX11_cell 74 = .ok (.ireturn, 1) := by decide +kernel
theorem dX11_cell_75 : decode cX11_cell 75 = .ok (.aload_n 0, 1) := by decide +kernel
theorem dX11_cell_76 : decode cX11_cell 76 = .ok (.getfield 38, 3) := by decide +kernel
theorem dX11_cell_79 : decode cX11_cell 79 = .ok (.iload 4, 2) := by decide +kernel
theorem dX11_cell_81 : decode cX11_cell 81 = .ok (.invokevirtual 144, 3) := by decide +kernel
theorem dX11_cell_84 : decode cX11_cell 84 = .ok (.ireturn, 1) := by decide +kernel
theorem dX11_cell_85 : decode cX11_cell 85 = .ok (.aload_n 0, 1) := by decide +kernel
theorem dX11_cell_86 : decode cX11_cell 86 = .ok (.getfield 38, 3) := by decide +kernel
theorem dX11_cell_89 : decode cX11_cell 89 = .ok (.getfield 148, 3) := by decide +kernel
theorem dX11_cell_92 : decode cX11_cell 92 = .ok (.iload 4, 2) := by decide +kernel
theorem dX11_cell_94 : decode cX11_cell 94 = .ok (.iaload, 1) := by decide +kernel
theorem dX11_cell_95 : decode cX11_cell 95 = .ok (.ireturn, 1) := by decide +kernel
theorem dX11_cell_96 : decode cX11_cell 96 = .ok (.aload_n 0, 1) := by decide +kernel
theorem dX11_cell_97 : decode cX11_cell 97 = .ok (.getfield 38, 3) := by decide +kernel
theorem dX11_cell_100 : decode cX11_cell 100 = .ok (.iload 4, 2) := by decide +kernel
theorem dX11_cell_102 : decode cX11_cell 102 = .ok (.invokevirtual 151, 3) := by decide +kernel
theorem dX11_cell_105 : decode cX11_cell 105 = .ok (.getfield 155, 3) := by decide +kernel
theorem dX11_cell_108 : decode cX11_cell 108 = .ok (.ireturn, 1) := by decide +kernel
theorem dX11_cell_109 : decode cX11_cell 109 = .ok (.aload_n 0, 1) := by decide +kernel
theorem dX11_cell_110 : decode cX11_cell 110 = .ok (.getfield 38, 3) := by decide +kernel
theorem dX11_cell_113 : decode cX11_cell 113 = .ok (.iload 4, 2) := by decide +kernel
theorem dX11_cell_115 : decode cX11_cell 115 = .ok (.invokevirtual 151, 3) := by decide +kernel
theorem dX11_cell_118 : decode cX11_cell 118 = .ok (.getfield 158, 3) := by decide +kernel
theorem dX11_cell_121 : decode cX11_cell 121 = .ok (.ifCond .eq 7, 3) := by decide +kernel
theorem dX11_cell_124 : decode cX11_cell 124 = .ok (.iconst 1, 1) := by decide +kernel
theorem dX11_cell_125 : decode cX11_cell 125 = .ok (.goto 4, 3) := by decide +kernel
theorem dX11_cell_128 : decode cX11_cell 128 = .ok (.iconst 0, 1) := by decide +kernel
theorem dX11_cell_129 : decode cX11_cell 129 = .ok (.ireturn, 1) := by decide +kernel
theorem dX11_cell_130 : decode cX11_cell 130 = .ok (.aload_n 0, 1) := by decide +kernel
theorem dX11_cell_131 : decode cX11_cell 131 = .ok (.getfield 38, 3) := by decide +kernel
theorem dX11_cell_134 : decode cX11_cell 134 = .ok (.iload 4, 2) := by decide +kernel
theorem dX11_cell_136 : decode cX11_cell 136 = .ok (.invokevirtual 161, 3) := by decide +kernel
theorem dX11_cell_139 : decode cX11_cell 139 = .ok (.ifCond .eq 15, 3) := by decide +kernel
theorem dX11_cell_142 : decode cX11_cell 142 = .ok (.aload_n 0, 1) := by decide +kernel
theorem dX11_cell_143 : decode cX11_cell 143 = .ok (.getfield 38, 3) := by decide +kernel
theorem dX11_cell_146 : decode cX11_cell 146 = .ok (.iload 4, 2) := by decide +kernel
theorem dX11_cell_148 : decode cX11_cell 148 = .ok (.invokevirtual 165, 3) := by decide +kernel
theorem dX11_cell_151 : decode cX11_cell 151 = .ok (.goto 4, 3) := by decide +kernel
theorem dX11_cell_154 : decode cX11_cell 154 = .ok (.iconst (-1), 1) := by decide +kernel
theorem dX11_cell_155 : decode cX11_cell 155 = .ok (.ireturn, 1) := by decide +kernel
theorem dX11_cell_156 : decode cX11_cell 156 = .ok (.iconst (-1), 1) := by decide +kernel
theorem dX11_cell_157 : decode cX11_cell 157 = .ok (.ireturn, 1) := by decide +kernel
theorem dX11_look_0 : decode cX11_look 0 = .ok (.iload_n 1, 1) := by decide +kernel
theorem dX11_look_1 : decode cX11_look 1 = .ok (.iconst 0, 1) := by decide +kernel
theorem dX11_look_2 : decode cX11_look 2 = .ok (.bipush 13, 2) := by decide +kernel
theorem dX11_look_4 : decode cX11_look 4 = .ok (.invokestatic 81, 3) := by decide +kernel
theorem dX11_look_7 : decode cX11_look 7 = .ok (.ifCond .ne 5, 3) := by decide +kernel
theorem dX11_look_10 : decode cX11_look 10 = .ok (.iconst (-1), 1) := by decide +kernel
theorem dX11_look_11 : decode cX11_look 11 = .ok (.ireturn, 1) := by decide +kernel
theorem dX11_look_12 : decode cX11_look 12 = .ok (.aload_n 0, 1) := by decide +kernel
theorem dX11_look_13 : decode cX11_look 13 = .ok (.getfield 38, 3) := by decide +kernel
theorem dX11_look_16 : decode cX11_look 16 = .ok (.invokevirtual 124, 3) := by decide +kernel
theorem dX11_look_19 : decode cX11_look 19 = .ok (.ifCond .ne 5, 3) := by decide +kernel
theorem dX11_look_22 : decode cX11_look 22 = .ok (.iconst 0, 1) := by decide +kernel
theorem dX11_look_23 : decode cX11_look 23 = .ok (.ireturn, 1) := by decide +kernel
theorem dX11_look_24 : decode cX11_look 24 = .ok (.iload_n 1, 1) := by decide +kernel
theorem dX11_look_25 : decode cX11_look 25 = .ok (.tableswitch 199 0 12 #[67, 75, 86, 97, 116, 127, 138, 147, 156, 165, 173, 181, 190], 67) := by decide +kernel
theorem dX11_look_92 : decode cX11_look 92 = .ok (.aload_n 0, 1) := by decide +kernel
theorem dX11_look_93 : decode cX11_look 93 = .ok (.getfield 38, 3) := by decide +kernel
theorem dX11_look_96 : decode cX11_look 96 = .ok (.getfield 168, 3) := by decide +kernel
theorem dX11_look_99 : decode cX11_look 99 = .ok (.ireturn, 1) := by decide +kernel
theorem dX11_look_100 : decode cX11_look 100 = .ok (.aload_n 0, 1) := by decide +kernel
theorem dX11_look_101 : decode cX11_look 101 = .ok (.getfield 38, 3) := by decide +kernel
theorem dX11_look_104 : decode cX11_look 104 = .ok (.getfield 171, 3) := by decide +kernel
theorem dX11_look_107 : decode cX11_look 107 = .ok (.getfield 175, 3) := by decide +kernel
theorem dX11_look_110 : decode cX11_look 110 = .ok (.ireturn, 1) := by decide +kernel
theorem dX11_look_111 : decode cX11_look 111 = .ok (.aload_n 0, 1) := by decide +kernel
theorem dX11_look_112 : decode cX11_look 112 = .ok (.getfield 38, 3) := by decide +kernel
theorem dX11_look_115 : decode cX11_look 115 = .ok (.getfield 171, 3) := by decide +kernel
theorem dX11_look_118 : decode cX11_look 118 = .ok (.getfield 180, 3) := by decide +kernel
theorem dX11_look_121 : decode cX11_look 121 = .ok (.ireturn, 1) := by decide +kernel
theorem dX11_look_122 : decode cX11_look 122 = .ok (.aload_n 0, 1) := by decide +kernel
theorem dX11_look_123 : decode cX11_look 123 = .ok (.getfield 38, 3) := by decide +kernel
theorem dX11_look_126 : decode cX11_look 126 = .ok (.getfield 171, 3) := by decide +kernel
theorem dX11_look_129 : decode cX11_look 129 = .ok (.getfield 183, 3) := by decide +kernel
theorem dX11_look_132 : decode cX11_look 132 = .ok (.ifCond .eq 7, 3) := by decide +kernel
theorem dX11_look_135 : decode cX11_look 135 = .ok (.iconst 1, 1) := by decide +kernel
theorem dX11_look_136 : decode cX11_look 136 = .ok (.goto 4, 3) := by decide +kernel
theorem dX11_look_139 : decode cX11_look 139 = .ok (.iconst 0, 1) := by decide +kernel
theorem dX11_look_140 : decode cX11_look 140 = .ok (.ireturn, 1) := by decide +kernel
theorem dX11_look_141 : decode cX11_look 141 = .ok (.aload_n 0, 1) := by decide +kernel
theorem dX11_look_142 : decode cX11_look 142 = .ok (.getfield 38, 3) := by decide +kernel
theorem dX11_look_145 : decode cX11_look 145 = .ok (.getfield 171, 3) := by decide +kernel
theorem dX11_look_148 : decode cX11_look 148 = .ok (.getfield 186, 3) := by decide +kernel
theorem dX11_look_151 : decode cX11_look 151 = .ok (.ireturn, 1) := by decide +kernel
theorem dX11_look_152 : decode cX11_look 152 = .ok (.aload_n 0, 1) := by decide +kernel
theorem dX11_look_153 : decode cX11_look 153 = .ok (.getfield 38, 3) := by decide +kernel
theorem dX11_look_156 : decode cX11_look 156 = .ok (.getfield 171, 3) := by decide +kernel
theorem dX11_look_159 : decode cX11_look 159 = .ok (.getfield 189, 3) := by decide +kernel
theorem dX11_look_162 : decode cX11_look 162 = .ok (.ireturn, 1) := by decide +kernel
theorem dX11_look_163 : decode cX11_look 163 = .ok (.aload_n 0, 1) := by decide +kernel
theorem dX11_look_164 : decode cX11_look 164 = .ok (.getfield 38, 3) := by decide +kernel
theorem dX11_look_167 : decode cX11_look 167 = .ok (.iconst 0, 1) := by decide +kernel
theorem dX11_look_168 : decode cX11_look 168 = .ok (.invokevirtual 192, 3) := by decide +kernel
theorem dX11_look_171 : decode cX11_look 171 = .ok (.ireturn, 1) := by decide +kernel
theorem dX11_look_172 : decode cX11_look 172 = .ok (.aload_n 0, 1) := by decide +kernel
theorem dX11_look_173 : decode cX11_look 173 = .ok (.getfield 38, 3) := by decide +kernel
theorem dX11_look_176 : decode cX11_look 176 = .ok (.iconst 1, 1) := by decide +kernel
theorem dX11_look_177 : decode cX11_look 177 = .ok (.invokevirtual 192, 3) := by decide +kernel
theorem dX11_look_180 : decode cX11_look 180 = .ok (.ireturn, 1) := by decide +kernel
theorem dX11_look_181 : decode cX11_look 181 = .ok (.aload_n 0, 1) := by decide +kernel
theorem dX11_look_182 : decode cX11_look 182 = .ok (.getfield 38, 3) := by decide +kernel
theorem dX11_look_185 : decode cX11_look 185 = .ok (.iconst 2, 1) := by decide +kernel
theorem dX11_look_186 : decode cX11_look 186 = .ok (.invokevirtual 192, 3) := by decide +kernel
theorem dX11_look_189 : decode cX11_look 189 = .ok (.ireturn, 1) := by decide +kernel
theorem dX11_look_190 : decode cX11_look 190 = .ok (.aload_n 0, 1) := by decide +kernel
theorem dX11_look_191 : decode cX11_look 191 = .ok (.getfield 38, 3) := by decide +kernel
theorem dX11_look_194 : decode cX11_look 194 = .ok (.invokevirtual 195, 3) := by decide +kernel
theorem dX11_look_197 : decode cX11_look 197 = .ok (.ireturn, 1) := by decide +kernel
theorem dX11_look_198 : decode cX11_look 198 = .ok (.aload_n 0, 1) := by decide +kernel
theorem dX11_look_199 : decode cX11_look 199 = .ok (.getfield 38, 3) := by decide +kernel
theorem dX11_look_202 : decode cX11_look 202 = .ok (.invokevirtual 199, 3) := by decide +kernel
theorem dX11_look_205 : decode cX11_look 205 = .ok (.ireturn, 1) := by decide +kernel
theorem dX11_look_206 : decode cX11_look 206 = .ok (.aload_n 0, 1) := by decide +kernel
theorem dX11_look_207 : decode cX11_look 207 = .ok (.getfield 38, 3) := by decide +kernel
theorem dX11_look_210 : decode cX11_look 210 = .ok (.iconst 0, 1) := by decide +kernel
theorem dX11_look_211 : decode cX11_look 211 = .ok (.invokevirtual 202, 3) := by decide +kernel
theorem dX11_look_214 : decode cX11_look 214 = .ok (.ireturn, 1) := by decide +kernel
theorem dX11_look_215 : decode cX11_look 215 = .ok (.aload_n 0, 1) := by decide +kernel
theorem dX11_look_216 : decode cX11_look 216 = .ok (.getfield 38, 3) := by decide +kernel
theorem dX11_look_219 : decode cX11_look 219 = .ok (.iconst 1, 1) := by decide +kernel
theorem dX11_look_220 : decode cX11_look 220 = .ok (.invokevirtual 202, 3) := by decide +kernel
theorem dX11_look_223 : decode cX11_look 223 = .ok (.ireturn, 1) := by decide +kernel
theorem dX11_look_224 : decode cX11_look 224 = .ok (.aload_n 0, 1) := by decide +kernel
theorem dX11_look_225 : decode cX11_look 225 = .ok (.getfield 38, 3) := by decide +kernel
theorem dX11_look_228 : decode cX11_look 228 = .ok (.getfield 206, 3) := by decide +kernel
theorem dX11_look_231 : decode cX11_look 231 = .ok (.ireturn, 1) := by decide +kernel
theorem dX11_heat_0 : decode cX11_heat 0 = .ok (.iload_n 1, 1) := by decide +kernel
theorem dX11_heat_1 : decode cX11_heat 1 = .ok (.tableswitch 63 0 3 #[31, 39, 47, 55], 31) := by decide +kernel
theorem dX11_heat_32 : decode cX11_heat 32 = .ok (.aload_n 0, 1) := by decide +kernel
theorem dX11_heat_33 : decode cX11_heat 33 = .ok (.getfield 38, 3) := by decide +kernel
theorem dX11_heat_36 : decode cX11_heat 36 = .ok (.getfield 209, 3) := by decide +kernel
theorem dX11_heat_39 : decode cX11_heat 39 = .ok (.lreturn, 1) := by decide +kernel
theorem dX11_heat_40 : decode cX11_heat 40 = .ok (.aload_n 0, 1) := by decide +kernel
theorem dX11_heat_41 : decode cX11_heat 41 = .ok (.getfield 38, 3) := by decide +kernel
theorem dX11_heat_44 : decode cX11_heat 44 = .ok (.invokevirtual 213, 3) := by decide +kernel
theorem dX11_heat_47 : decode cX11_heat 47 = .ok (.lreturn, 1) := by decide +kernel
theorem dX11_heat_48 : decode cX11_heat 48 = .ok (.aload_n 0, 1) := by decide +kernel
theorem dX11_heat_49 : decode cX11_heat 49 = .ok (.getfield 38, 3) := by decide +kernel
theorem dX11_heat_52 : decode cX11_heat 52 = .ok (.getfield 217, 3) := by decide +kernel
theorem dX11_heat_55 : decode cX11_heat 55 = .ok (.lreturn, 1) := by decide +kernel
theorem dX11_heat_56 : decode cX11_heat 56 = .ok (.aload_n 0, 1) := by decide +kernel
theorem dX11_heat_57 : decode cX11_heat 57 = .ok (.getfield 38, 3) := by decide +kernel
theorem dX11_heat_60 : decode cX11_heat 60 = .ok (.getfield 220, 3) := by decide +kernel
theorem dX11_heat_63 : decode cX11_heat 63 = .ok (.lreturn, 1) := by decide +kernel
theorem dX11_heat_64 : decode cX11_heat 64 = .ok (.ldc2_w 223, 3) := by decide +kernel
theorem dX11_heat_67 : decode cX11_heat 67 = .ok (.lreturn, 1) := by decide +kernel
theorem dX11_order_0 : decode cX11_order 0 = .ok (.iload_n 1, 1) := by decide +kernel
theorem dX11_order_1 : decode cX11_order 1 = .ok (.iconst 1, 1) := by decide +kernel
theorem dX11_order_2 : decode cX11_order 2 = .ok (.sipush 255, 3) := by decide +kernel
theorem dX11_order_5 : decode cX11_order 5 = .ok (.invokestatic 81, 3) := by decide +kernel
theorem dX11_order_8 : decode cX11_order 8 = .ok (.ifCond .eq 15, 3) := by decide +kernel
theorem dX11_order_11 : decode cX11_order 11 = .ok (.iload_n 1, 1) := by decide +kernel
theorem dX11_order_12 : decode cX11_order 12 = .ok (.invokestatic 225, 3) := by decide +kernel
theorem dX11_order_15 : decode cX11_order 15 = .ok (.iconst 3, 1) := by decide +kernel
theorem dX11_order_16 : decode cX11_order 16 = .ok (.if_icmp .gt 7, 3) := by decide +kernel
theorem dX11_order_19 : decode cX11_order 19 = .ok (.iconst 1, 1) := by decide +kernel
theorem dX11_order_20 : decode cX11_order 20 = .ok (.goto 4, 3) := by decide +kernel
theorem dX11_order_23 : decode cX11_order 23 = .ok (.iconst 0, 1) := by decide +kernel
theorem dX11_order_24 : decode cX11_order 24 = .ok (.istore_n 3, 1) := by decide +kernel
theorem dX11_order_25 : decode cX11_order 25 = .ok (.iload_n 3, 1) := by decide +kernel
theorem dX11_order_26 : decode cX11_order 26 = .ok (.ifCond .eq 22, 3) := by decide +kernel
theorem dX11_order_29 : decode cX11_order 29 = .ok (.aload_n 0, 1) := by decide +kernel
theorem dX11_order_30 : decode cX11_order 30 = .ok (.getfield 38, 3) := by decide +kernel
theorem dX11_order_33 : decode cX11_order 33 = .ok (.invokevirtual 124, 3) := by decide +kernel
theorem dX11_order_36 : decode cX11_order 36 = .ok (.ifCond .eq 12, 3) := by decide +kernel
theorem dX11_order_39 : decode cX11_order 39 = .ok (.iload_n 2, 1) := by decide +kernel
theorem dX11_order_40 : decode cX11_order 40 = .ok (.iconst 0, 1) := by decide +kernel
theorem dX11_order_41 : decode cX11_order 41 = .ok (.iconst 2, 1) := by decide +kernel
theorem dX11_order_42 : decode cX11_order 42 = .ok (.invokestatic 81, 3) := by decide +kernel
theorem dX11_order_45 : decode cX11_order 45 = .ok (.ifCond .ne 5, 3) := by decide +kernel
theorem dX11_order_48 : decode cX11_order 48 = .ok (.iconst (-1), 1) := by decide +kernel
theorem dX11_order_49 : decode cX11_order 49 = .ok (.ireturn, 1) := by decide +kernel
theorem dX11_order_50 : decode cX11_order 50 = .ok (.aload_n 0, 1) := by decide +kernel
theorem dX11_order_51 : decode cX11_order 51 = .ok (.getfield 52, 3) := by decide +kernel
theorem dX11_order_54 : decode cX11_order 54 = .ok (.aload_n 0, 1) := by decide +kernel
theorem dX11_order_55 : decode cX11_order 55 = .ok (.getfield 10, 3) := by decide +kernel
theorem dX11_order_58 : decode cX11_order 58 = .ok (.aload_n 0, 1) := by decide +kernel
theorem dX11_order_59 : decode cX11_order 59 = .ok (.getfield 38, 3) := by decide +kernel
theorem dX11_order_62 : decode cX11_order 62 = .ok (.iload_n 1, 1) := by decide +kernel
theorem dX11_order_63 : decode cX11_order 63 = .ok (.invokevirtual 230, 3) := by decide +kernel
theorem dX11_order_66 : decode cX11_order 66 = .ok (.iload_n 2, 1) := by decide +kernel
theorem dX11_order_67 : decode cX11_order 67 = .ok (.lookupswitch 41 #[(0, 25), (1, 33)], 25) := by decide +kernel
theorem dX11_order_92 : decode cX11_order 92 = .ok (.aload_n 0, 1) := by decide +kernel
theorem dX11_order_93 : decode cX11_order 93 = .ok (.getfield 52, 3) := by decide +kernel
theorem dX11_order_96 : decode cX11_order 96 = .ok (.getfield 234, 3) := by decide +kernel
theorem dX11_order_99 : decode cX11_order 99 = .ok (.ireturn, 1) := by decide +kernel
theorem dX11_order_100 : decode cX11_order 100 = .ok (.aload_n 0, 1) := by decide +kernel
theorem dX11_order_101 : decode cX11_order 101 = .ok (.getfield 52, 3) := by decide +kernel
theorem dX11_order_104 : decode cX11_order 104 = .ok (.getfield 237, 3) := by decide +kernel
theorem dX11_order_107 : decode cX11_order 107 = .ok (.ireturn, 1) := by decide +kernel
theorem dX11_order_108 : decode cX11_order 108 = .ok (.aload_n 0, 1) := by decide +kernel
theorem dX11_order_109 : decode cX11_order 109 = .ok (.getfield 52, 3) := by decide +kernel
theorem dX11_order_112 : decode cX11_order 112 = .ok (.getfield 240, 3) := by decide +kernel
theorem dX11_order_115 : decode cX11_order 115 = .ok (.ireturn, 1) := by decide +kernel
theorem dX11_speed_0 : decode cX11_speed 0 = .ok (.iload_n 1, 1) := by decide +kernel
theorem dX11_speed_1 : decode cX11_speed 1 = .ok (.iconst 0, 1) := by decide +kernel
theorem dX11_speed_2 : decode cX11_speed 2 = .ok (.iconst 3, 1) := by decide +kernel
theorem dX11_speed_3 : decode cX11_speed 3 = .ok (.invokestatic 81, 3) := by decide +kernel
theorem dX11_speed_6 : decode cX11_speed 6 = .ok (.ifCond .eq 23, 3) := by decide +kernel
theorem dX11_speed_9 : decode cX11_speed 9 = .ok (.iload_n 2, 1) := by decide +kernel
theorem dX11_speed_10 : decode cX11_speed 10 = .ok (.iconst 1, 1) := by decide +kernel
theorem dX11_speed_11 : decode cX11_speed 11 = .ok (.bipush 15, 2) := by decide +kernel
theorem dX11_speed_13 : decode cX11_speed 13 = .ok (.invokestatic 81, 3) := by decide +kernel
theorem dX11_speed_16 : decode cX11_speed 16 = .ok (.ifCond .eq 13, 3) := by decide +kernel
theorem dX11_speed_19 : decode cX11_speed 19 = .ok (.aload_n 0, 1) := by decide +kernel
theorem dX11_speed_20 : decode cX11_speed 20 = .ok (.getfield 38, 3) := by decide +kernel
theorem dX11_speed_23 : decode cX11_speed 23 = .ok (.invokevirtual 124, 3) := by decide +kernel
theorem dX11_speed_26 : decode cX11_speed 26 = .ok (.ifCond .ne 5, 3) := by decide +kernel
theorem dX11_speed_29 : decode cX11_speed 29 = .ok (.iconst (-1), 1) := by decide +kernel
theorem dX11_speed_30 : decode cX11_speed 30 = .ok (.ireturn, 1) := by decide +kernel
theorem dX11_speed_31 : decode cX11_speed 31 = .ok (.aload_n 0, 1) := by decide +kernel
theorem dX11_speed_32 : decode cX11_speed 32 = .ok (.getfield 52, 3) := by decide +kernel
theorem dX11_speed_35 : decode cX11_speed 35 = .ok (.aload_n 0, 1) := by decide +kernel
theorem dX11_speed_36 : decode cX11_speed 36 = .ok (.getfield 10, 3) := by decide +kernel
theorem dX11_speed_39 : decode cX11_speed 39 = .ok (.aload_n 0, 1) := by decide +kernel
theorem dX11_speed_40 : decode cX11_speed 40 = .ok (.getfield 38, 3) := by decide +kernel
theorem dX11_speed_43 : decode cX11_speed 43 = .ok (.iload_n 1, 1) := by decide +kernel
theorem dX11_speed_44 : decode cX11_speed 44 = .ok (.iload_n 2, 1) := by decide +kernel
theorem dX11_speed_45 : decode cX11_speed 45 = .ok (.invokevirtual 243, 3) := by decide +kernel
theorem dX11_speed_48 : decode cX11_speed 48 = .ok (.ireturn, 1) := by decide +kernel
theorem dX11_kind_0 : decode cX11_kind 0 = .ok (.aload_n 0, 1) := by decide +kernel
theorem dX11_kind_1 : decode cX11_kind 1 = .ok (.getfield 59, 3) := by decide +kernel
theorem dX11_kind_4 : decode cX11_kind 4 = .ok (.iload_n 1, 1) := by decide +kernel
theorem dX11_kind_5 : decode cX11_kind 5 = .ok (.iload_n 2, 1) := by decide +kernel
theorem dX11_kind_6 : decode cX11_kind 6 = .ok (.iload_n 3, 1) := by decide +kernel
theorem dX11_kind_7 : decode cX11_kind 7 = .ok (.invokevirtual 247, 3) := by decide +kernel
theorem dX11_kind_10 : decode cX11_kind 10 = .ok (.ireturn, 1) := by decide +kernel
theorem dX11_fill_0 : decode cX11_fill 0 = .ok (.aload_n 0, 1) := by decide +kernel
theorem dX11_fill_1 : decode cX11_fill 1 = .ok (.getfield 59, 3) := by decide +kernel
theorem dX11_fill_4 : decode cX11_fill 4 = .ok (.iload_n 1, 1) := by decide +kernel
theorem dX11_fill_5 : decode cX11_fill 5 = .ok (.iload_n 2, 1) := by decide +kernel
theorem dX11_fill_6 : decode cX11_fill 6 = .ok (.invokevirtual 251, 3) := by decide +kernel
theorem dX11_fill_9 : decode cX11_fill 9 = .ok (.ireturn, 1) := by decide +kernel
theorem dX11_test_0 : decode cX11_test 0 = .ok (.aload_n 0, 1) := by decide +kernel
theorem dX11_test_1 : decode cX11_test 1 = .ok (.getfield 66, 3) := by decide +kernel
theorem dX11_test_4 : decode cX11_test 4 = .ok (.iload_n 1, 1) := by decide +kernel
theorem dX11_test_5 : decode cX11_test 5 = .ok (.iload_n 2, 1) := by decide +kernel
theorem dX11_test_6 : decode cX11_test 6 = .ok (.iload_n 3, 1) := by decide +kernel
theorem dX11_test_7 : decode cX11_test 7 = .ok (.iload 4, 2) := by decide +kernel
theorem dX11_test_9 : decode cX11_test 9 = .ok (.invokevirtual 254, 3) := by decide +kernel
theorem dX11_test_12 : decode cX11_test 12 = .ok (.ireturn, 1) := by decide +kernel
theorem dX11_known_0 : decode cX11_known 0 = .ok (.iload_n 1, 1) := by decide +kernel
theorem dX11_known_1 : decode cX11_known 1 = .ok (.iconst 0, 1) := by decide +kernel
theorem dX11_known_2 : decode cX11_known 2 = .ok (.iconst 3, 1) := by decide +kernel
theorem dX11_known_3 : decode cX11_known 3 = .ok (.invokestatic 81, 3) := by decide +kernel
theorem dX11_known_6 : decode cX11_known 6 = .ok (.ifCond .eq 14, 3) := by decide +kernel
theorem dX11_known_9 : decode cX11_known 9 = .ok (.iload_n 2, 1) := by decide +kernel
theorem dX11_known_10 : decode cX11_known 10 = .ok (.iconst 0, 1) := by decide +kernel
theorem dX11_known_11 : decode cX11_known 11 = .ok (.sipush 999, 3) := by decide +kernel
theorem dX11_known_14 : decode cX11_known 14 = .ok (.invokestatic 81, 3) := by decide +kernel
theorem dX11_known_17 : decode cX11_known 17 = .ok (.ifCond .ne 5, 3) := by decide +kernel
theorem dX11_known_20 : decode cX11_known 20 = .ok (.iconst (-1), 1) := by decide +kernel
theorem dX11_known_21 : decode cX11_known 21 = .ok (.ireturn, 1) := by decide +kernel
theorem dX11_known_22 : decode cX11_known 22 = .ok (.aload_n 0, 1) := by decide +kernel
theorem dX11_known_23 : decode cX11_known 23 = .ok (.getfield 66, 3) := by decide +kernel
theorem dX11_known_26 : decode cX11_known 26 = .ok (.iload_n 1, 1) := by decide +kernel
theorem dX11_known_27 : decode cX11_known 27 = .ok (.iload_n 2, 1) := by decide +kernel
theorem dX11_known_28 : decode cX11_known 28 = .ok (.invokevirtual 258, 3) := by decide +kernel
theorem dX11_known_31 : decode cX11_known 31 = .ok (.istore 4, 2) := by decide +kernel
theorem dX11_known_33 : decode cX11_known 33 = .ok (.aload_n 0, 1) := by decide +kernel
theorem dX11_known_34 : decode cX11_known 34 = .ok (.getfield 66, 3) := by decide +kernel
theorem dX11_known_37 : decode cX11_known 37 = .ok (.iload_n 1, 1) := by decide +kernel
theorem dX11_known_38 : decode cX11_known 38 = .ok (.iload_n 2, 1) := by decide +kernel
theorem dX11_known_39 : decode cX11_known 39 = .ok (.invokevirtual 261, 3) := by decide +kernel
theorem dX11_known_42 : decode cX11_known 42 = .ok (.istore 5, 2) := by decide +kernel
theorem dX11_known_44 : decode cX11_known 44 = .ok (.iload_n 3, 1) := by decide +kernel
theorem dX11_known_45 : decode cX11_known 45 = .ok (.tableswitch 69 0 3 #[31, 34, 37, 50], 31) := by decide +kernel
theorem dX11_known_76 : decode cX11_known 76 = .ok (.iload 4, 2) := by decide +kernel
theorem dX11_known_78 : decode cX11_known 78 = .ok (.ireturn, 1) := by decide +kernel
theorem dX11_known_79 : decode cX11_known 79 = .ok (.iload 5, 2) := by decide +kernel
theorem dX11_known_81 : decode cX11_known 81 = .ok (.ireturn, 1) := by decide +kernel
theorem dX11_known_82 : decode cX11_known 82 = .ok (.iload 4, 2) := by decide +kernel
theorem dX11_known_84 : decode cX11_known 84 = .ok (.iload 5, 2) := by decide +kernel
theorem dX11_known_86 : decode cX11_known 86 = .ok (.if_icmp .le 7, 3) := by decide +kernel
theorem dX11_known_89 : decode cX11_known 89 = .ok (.iconst 1, 1) := by decide +kernel
theorem dX11_known_90 : decode cX11_known 90 = .ok (.goto 4, 3) := by decide +kernel
theorem dX11_known_93 : decode cX11_known 93 = .ok (.iconst 0, 1) := by decide +kernel
theorem dX11_known_94 : decode cX11_known 94 = .ok (.ireturn, 1) := by decide +kernel
theorem dX11_known_95 : decode cX11_known 95 = .ok (.iload 4, 2) := by decide +kernel
theorem dX11_known_97 : decode cX11_known 97 = .ok (.iload 5, 2) := by decide +kernel
theorem dX11_known_99 : decode cX11_known 99 = .ok (.if_icmp .ge 13, 3) := by decide +kernel
theorem dX11_known_102 : decode cX11_known 102 = .ok (.iload 4, 2) := by decide +kernel
theorem dX11_known_104 : decode cX11_known 104 = .ok (.iload 5, 2) := by decide +kernel
theorem dX11_known_106 : decode cX11_known 106 = .ok (.iadd, 1) := by decide +kernel
theorem dX11_known_107 : decode cX11_known 107 = .ok (.iconst 2, 1) := by decide +kernel
theorem dX11_known_108 : decode cX11_known 108 = .ok (.idiv, 1) := by decide +kernel
theorem dX11_known_109 : decode cX11_known 109 = .ok (.goto 4, 3) := by decide +kernel
theorem dX11_known_112 : decode cX11_known 112 = .ok (.iconst (-1), 1) := by decide +kernel
theorem dX11_known_113 : decode cX11_known 113 = .ok (.ireturn, 1) := by decide +kernel
theorem dX11_known_114 : decode cX11_known 114 = .ok (.iconst (-1), 1) := by decide +kernel
theorem dX11_known_115 : decode cX11_known 115 = .ok (.ireturn, 1) := by decide +kernel
theorem dX11_sparks_0 : decode cX11_sparks 0 = .ok (.aload_n 0, 1) := by decide +kernel
theorem dX11_sparks_1 : decode cX11_sparks 1 = .ok (.getfield 25, 3) := by decide +kernel
theorem dX11_sparks_4 : decode cX11_sparks 4 = .ok (.aload_n 0, 1) := by decide +kernel
theorem dX11_sparks_5 : decode cX11_sparks 5 = .ok (.getfield 21, 3) := by decide +kernel
theorem dX11_sparks_8 : decode cX11_sparks 8 = .ok (.invokevirtual 120, 3) := by decide +kernel
theorem dX11_sparks_11 : decode cX11_sparks 11 = .ok (.aload_n 0, 1) := by decide +kernel
theorem dX11_sparks_12 : decode cX11_sparks 12 = .ok (.getfield 21, 3) := by decide +kernel
theorem dX11_sparks_15 : decode cX11_sparks 15 = .ok (.iconst 0, 1) := by decide +kernel
theorem dX11_sparks_16 : decode cX11_sparks 16 = .ok (.putfield 99, 3) := by decide +kernel
theorem dX11_sparks_19 : decode cX11_sparks 19 = .ok (.aload_n 0, 1) := by decide +kernel
theorem dX11_sparks_20 : decode cX11_sparks 20 = .ok (.getfield 25, 3) := by decide +kernel
theorem dX11_sparks_23 : decode cX11_sparks 23 = .ok (.getfield 99, 3) := by decide +kernel
theorem dX11_sparks_26 : decode cX11_sparks 26 = .ok (.ireturn, 1) := by decide +kernel
theorem dX11_lost_0 : decode cX11_lost 0 = .ok (.iload_n 1, 1) := by decide +kernel
theorem dX11_lost_1 : decode cX11_lost 1 = .ok (.iconst 0, 1) := by decide +kernel
theorem dX11_lost_2 : decode cX11_lost 2 = .ok (.sipush 256, 3) := by decide +kernel
theorem dX11_lost_5 : decode cX11_lost 5 = .ok (.invokestatic 81, 3) := by decide +kernel
theorem dX11_lost_8 : decode cX11_lost 8 = .ok (.ifCond .eq 13, 3) := by decide +kernel
theorem dX11_lost_11 : decode cX11_lost 11 = .ok (.iload_n 2, 1) := by decide +kernel
theorem dX11_lost_12 : decode cX11_lost 12 = .ok (.iconst 1, 1) := by decide +kernel
theorem dX11_lost_13 : decode cX11_lost 13 = .ok (.bipush 99, 2) := by decide +kernel
theorem dX11_lost_15 : decode cX11_lost 15 = .ok (.invokestatic 81, 3) := by decide +kernel
theorem dX11_lost_18 : decode cX11_lost 18 = .ok (.ifCond .ne 5, 3) := by decide +kernel
theorem dX11_lost_21 : decode cX11_lost 21 = .ok (.iconst (-1), 1) := by decide +kernel
theorem dX11_lost_22 : decode cX11_lost 22 = .ok (.ireturn, 1) := by decide +kernel
theorem dX11_lost_23 : decode cX11_lost 23 = .ok (.aload_n 0, 1) := by decide +kernel
theorem dX11_lost_24 : decode cX11_lost 24 = .ok (.getfield 25, 3) := by decide +kernel
theorem dX11_lost_27 : decode cX11_lost 27 = .ok (.iload_n 1, 1) := by decide +kernel
theorem dX11_lost_28 : decode cX11_lost 28 = .ok (.iload_n 2, 1) := by decide +kernel
theorem dX11_lost_29 : decode cX11_lost 29 = .ok (.invokevirtual 264, 3) := by decide +kernel
theorem dX11_lost_32 : decode cX11_lost 32 = .ok (.ireturn, 1) := by decide +kernel
theorem dX11_within_0 : decode cX11_within 0 = .ok (.iload_n 0, 1) := by decide +kernel
theorem dX11_within_1 : decode cX11_within 1 = .ok (.iload_n 1, 1) := by decide +kernel
theorem dX11_within_2 : decode cX11_within 2 = .ok (.if_icmp .lt 12, 3) := by decide +kernel
theorem dX11_within_5 : decode cX11_within 5 = .ok (.iload_n 0, 1) := by decide +kernel
theorem dX11_within_6 : decode cX11_within 6 = .ok (.iload_n 2, 1) := by decide +kernel
theorem dX11_within_7 : decode cX11_within 7 = .ok (.if_icmp .gt 7, 3) := by decide +kernel
theorem dX11_within_10 : decode cX11_within 10 = .ok (.iconst 1, 1) := by decide +kernel
theorem dX11_within_11 : decode cX11_within 11 = .ok (.goto 4, 3) := by decide +kernel
theorem dX11_within_14 : decode cX11_within 14 = .ok (.iconst 0, 1) := by decide +kernel
theorem dX11_within_15 : decode cX11_within 15 = .ok (.ireturn, 1) := by decide +kernel
theorem dX12_init_0 : decode cX12_init 0 = .ok (.aload_n 0, 1) := by decide +kernel
theorem dX12_init_1 : decode cX12_init 1 = .ok (.invokespecial 1, 3) := by decide +kernel
theorem dX12_init_4 : decode cX12_init 4 = .ok (.aload_n 0, 1) := by decide +kernel
theorem dX12_init_5 : decode cX12_init 5 = .ok (.iconst 4, 1) := by decide +kernel
theorem dX12_init_6 : decode cX12_init 6 = .ok (.newarray .int, 2) := by decide +kernel
theorem dX12_init_8 : decode cX12_init 8 = .ok (.dup, 1) := by decide +kernel
theorem dX12_init_9 : decode cX12_init 9 = .ok (.iconst 0, 1) := by decide +kernel
theorem dX12_init_10 : decode cX12_init 10 = .ok (.bipush 100, 2) := by decide +kernel
theorem dX12_init_12 : decode cX12_init 12 = .ok (.iastore, 1) := by decide +kernel
theorem dX12_init_13 : decode cX12_init 13 = .ok (.dup, 1) := by decide +kernel
theorem dX12_init_14 : decode cX12_init 14 = .ok (.iconst 1, 1) := by decide +kernel
theorem dX12_init_15 : decode cX12_init 15 = .ok (.bipush 100, 2) := by decide +kernel
theorem dX12_init_17 : decode cX12_init 17 = .ok (.iastore, 1) := by decide +kernel
theorem dX12_init_18 : decode cX12_init 18 = .ok (.dup, 1) := by decide +kernel
theorem dX12_init_19 : decode cX12_init 19 = .ok (.iconst 2, 1) := by decide +kernel
theorem dX12_init_20 : decode cX12_init 20 = .ok (.bipush 100, 2) := by decide +kernel
theorem dX12_init_22 : decode cX12_init 22 = .ok (.iastore, 1) := by decide +kernel
theorem dX12_init_23 : decode cX12_init 23 = .ok (.dup, 1) := by decide +kernel
theorem dX12_init_24 : decode cX12_init 24 = .ok (.iconst 3, 1) := by decide +kernel
theorem dX12_init_25 : decode cX12_init 25 = .ok (.bipush 100, 2) := by decide +kernel
theorem dX12_init_27 : decode cX12_init 27 = .ok (.iastore, 1) := by decide +kernel
theorem dX12_init_28 : decode cX12_init 28 = .ok (.putfield 7, 3) := by decide +kernel
theorem dX12_init_31 : decode cX12_init 31 = .ok (.aload_n 0, 1) := by decide +kernel
theorem dX12_init_32 : decode cX12_init 32 = .ok (.iconst 4, 1) := by decide +kernel
theorem dX12_init_33 : decode cX12_init 33 = .ok (.newarray .int, 2) := by decide +kernel
theorem dX12_init_35 : decode cX12_init 35 = .ok (.dup, 1) := by decide +kernel
theorem dX12_init_36 : decode cX12_init 36 = .ok (.iconst 0, 1) := by decide +kernel
theorem dX12_init_37 : decode cX12_init 37 = .ok (.bipush 10, 2) := by decide +kernel
theorem dX12_init_39 : decode cX12_init 39 = .ok (.iastore, 1) := by decide +kernel
theorem dX12_init_40 : decode cX12_init 40 = .ok (.dup, 1) := by decide +kernel
theorem dX12_init_41 : decode cX12_init 41 = .ok (.iconst 1, 1) := by decide +kernel
theorem dX12_init_42 : decode cX12_init 42 = .ok (.bipush 10, 2) := by decide +kernel
theorem dX12_init_44 : decode cX12_init 44 = .ok (.iastore, 1) := by decide +kernel
theorem dX12_init_45 : decode cX12_init 45 = .ok (.dup, 1) := by decide +kernel
theorem dX12_init_46 : decode cX12_init 46 = .ok (.iconst 2, 1) := by decide +kernel
theorem dX12_init_47 : decode cX12_init 47 = .ok (.bipush 10, 2) := by decide +kernel
theorem dX12_init_49 : decode cX12_init 49 = .ok (.iastore, 1) := by decide +kernel
theorem dX12_init_50 : decode cX12_init 50 = .ok (.dup, 1) := by decide +kernel
theorem dX12_init_51 : decode cX12_init 51 = .ok (.iconst 3, 1) := by decide +kernel
theorem dX12_init_52 : decode cX12_init 52 = .ok (.bipush 10, 2) := by decide +kernel
theorem dX12_init_54 : decode cX12_init 54 = .ok (.iastore, 1) := by decide +kernel
theorem dX12_init_55 : decode cX12_init 55 = .ok (.putfield 13, 3) := by decide +kernel
theorem dX12_init_58 : decode cX12_init 58 = .ok (.aload_n 0, 1) := by decide +kernel
theorem dX12_init_59 : decode cX12_init 59 = .ok (.iconst 4, 1) := by decide +kernel
theorem dX12_init_60 : decode cX12_init 60 = .ok (.newarray .int, 2) := by decide +kernel
theorem dX12_init_62 : decode cX12_init 62 = .ok (.dup, 1) := by decide +kernel
theorem dX12_init_63 : decode cX12_init 63 = .ok (.iconst 0, 1) := by decide +kernel
theorem dX12_init_64 : decode cX12_init 64 = .ok (.iconst 2, 1) := by decide +kernel
theorem dX12_init_65 : decode cX12_init 65 = .ok (.iastore, 1) := by decide +kernel
theorem dX12_init_66 : decode cX12_init 66 = .ok (.dup, 1) := by decide +kernel
theorem dX12_init_67 : decode cX12_init 67 = .ok (.iconst 1, 1) := by decide +kernel
theorem dX12_init_68 : decode cX12_init 68 = .ok (.iconst 2, 1) := by decide +kernel
theorem dX12_init_69 : decode cX12_init 69 = .ok (.iastore, 1) := by decide +kernel
theorem dX12_init_70 : decode cX12_init 70 = .ok (.dup, 1) := by decide +kernel
theorem dX12_init_71 : decode cX12_init 71 = .ok (.iconst 2, 1) := by decide +kernel
theorem dX12_init_72 : decode cX12_init 72 = .ok (.iconst 2, 1) := by decide +kernel
theorem dX12_init_73 : decode cX12_init 73 = .ok (.iastore, 1) := by decide +kernel
theorem dX12_init_74 : decode cX12_init 74 = .ok (.dup, 1) := by decide +kernel
theorem dX12_init_75 : decode cX12_init 75 = .ok (.iconst 3, 1) := by decide +kernel
theorem dX12_init_76 : decode cX12_init 76 = .ok (.iconst 2, 1) := by decide +kernel
theorem dX12_init_77 : decode cX12_init 77 = .ok (.iastore, 1) := by decide +kernel
theorem dX12_init_78 : decode cX12_init 78 = .ok (.putfield 16, 3) := by decide +kernel
theorem dX12_init_81 : decode cX12_init 81 = .ok (.aload_n 0, 1) := by decide +kernel
theorem dX12_init_82 : decode cX12_init 82 = .ok (.iconst 4, 1) := by decide +kernel
theorem dX12_init_83 : decode cX12_init 83 = .ok (.newarray .int, 2) := by decide +kernel
theorem dX12_init_85 : decode cX12_init 85 = .ok (.dup, 1) := by decide +kernel
theorem dX12_init_86 : decode cX12_init 86 = .ok (.iconst 0, 1) := by decide +kernel
theorem dX12_init_87 : decode cX12_init 87 = .ok (.bipush 60, 2) := by decide +kernel
theorem dX12_init_89 : decode cX12_init 89 = .ok (.iastore, 1) := by decide +kernel
theorem dX12_init_90 : decode cX12_init 90 = .ok (.dup, 1) := by decide +kernel
theorem dX12_init_91 : decode cX12_init 91 = .ok (.iconst 1, 1) := by decide +kernel
theorem dX12_init_92 : decode cX12_init 92 = .ok (.bipush 60, 2) := by decide +kernel
theorem dX12_init_94 : decode cX12_init 94 = .ok (.iastore, 1) := by decide +kernel
theorem dX12_init_95 : decode cX12_init 95 = .ok (.dup, 1) := by decide +kernel
theorem dX12_init_96 : decode cX12_init 96 = .ok (.iconst 2, 1) := by decide +kernel
theorem dX12_init_97 : decode cX12_init 97 = .ok (.bipush 60, 2) := by decide +kernel
theorem dX12_init_99 : decode cX12_init 99 = .ok (.iastore, 1) := by decide +kernel
theorem dX12_init_100 : decode cX12_init 100 = .ok (.dup, 1) := by decide +kernel
theorem dX12_init_101 : decode cX12_init 101 = .ok (.iconst 3, 1) := by decide +kernel
theorem dX12_init_102 : decode cX12_init 102 = .ok (.bipush 60, 2) := by decide +kernel
theorem dX12_init_104 : decode cX12_init 104 = .ok (.iastore, 1) := by decide +kernel
theorem dX12_init_105 : decode cX12_init 105 = .ok (.putfield 19, 3) := by decide +kernel
theorem dX12_init_108 : decode cX12_init 108 = .ok (.aload_n 0, 1) := by decide +kernel
theorem dX12_init_109 : decode cX12_init 109 = .ok (.bipush 100, 2) := by decide +kernel
theorem dX12_init_111 : decode cX12_init 111 = .ok (.putfield 22, 3) := by decide +kernel
theorem dX12_init_114 : decode cX12_init 114 = .ok (.aload_n 0, 1) := by decide +kernel
theorem dX12_init_115 : decode cX12_init 115 = .ok (.iconst 1, 1) := by decide +kernel
theorem dX12_init_116 : decode cX12_init 116 = .ok (.putfield 26, 3) := by decide +kernel
theorem dX12_init_119 : decode cX12_init 119 = .ok (.aload_n 0, 1) := by decide +kernel
theorem dX12_init_120 : decode cX12_init 120 = .ok (.iconst 4, 1) := by decide +kernel
theorem dX12_init_121 : decode cX12_init 121 = .ok (.putfield 30, 3) := by decide +kernel
theorem dX12_init_124 : decode cX12_init 124 = .ok (.aload_n 0, 1) := by decide +kernel
theorem dX12_init_125 : decode cX12_init 125 = .ok (.sipush 384, 3) := by decide +kernel
theorem dX12_init_128 : decode cX12_init 128 = .ok (.newarray .int, 2) := by decide +kernel
theorem dX12_init_130 : decode cX12_init 130 = .ok (.putfield 33, 3) := by decide +kernel
theorem dX12_init_133 : decode cX12_init 133 = .ok (.aload_n 0, 1) := by decide +kernel
theorem dX12_init_134 : decode cX12_init 134 = .ok (.sipush 192, 3) := by decide +kernel
theorem dX12_init_137 : decode cX12_init 137 = .ok (.newarray .int, 2) := by decide +kernel
theorem dX12_init_139 : decode cX12_init 139 = .ok (.putfield 36, 3) := by decide +kernel
theorem dX12_init_142 : decode cX12_init 142 = .ok (.aload_n 0, 1) := by decide +kernel
theorem dX12_init_143 : decode cX12_init 143 = .ok (.sipush 384, 3) := by decide +kernel
theorem dX12_init_146 : decode cX12_init 146 = .ok (.newarray .int, 2) := by decide +kernel
theorem dX12_init_148 : decode cX12_init 148 = .ok (.putfield 39, 3) := by decide +kernel
theorem dX12_init_151 : decode cX12_init 151 = .ok (.aload_n 0, 1) := by decide +kernel
theorem dX12_init_152 : decode cX12_init 152 = .ok (.sipush 384, 3) := by decide +kernel
theorem dX12_init_155 : decode cX12_init 155 = .ok (.newarray .boolean, 2) := by decide +kernel
theorem dX12_init_157 : decode cX12_init 157 = .ok (.putfield 42, 3) := by decide +kernel
theorem dX12_init_160 : decode cX12_init 160 = .ok (.aload_n 0, 1) := by decide +kernel
theorem dX12_init_161 : decode cX12_init 161 = .ok (.sipush 384, 3) := by decide +kernel
theorem dX12_init_164 : decode cX12_init 164 = .ok (.newarray .boolean, 2) := by decide +kernel
theorem dX12_init_166 : decode cX12_init 166 = .ok (.putfield 46, 3) := by decide +kernel
theorem dX12_init_169 : decode cX12_init 169 = .ok (.aload_n 0, 1) := by decide +kernel
theorem dX12_init_170 : decode cX12_init 170 = .ok (.iconst 2, 1) := by decide +kernel
theorem dX12_init_171 : decode cX12_init 171 = .ok (.newarray .int, 2) := by decide +kernel
theorem dX12_init_173 : decode cX12_init 173 = .ok (.putfield 49, 3) := by decide +kernel
theorem dX12_init_176 : decode cX12_init 176 = .ok (.aload_n 0, 1) := by decide +kernel
theorem dX12_init_177 : decode cX12_init 177 = .ok (.iconst 2, 1) := by decide +kernel
theorem dX12_init_178 : decode cX12_init 178 = .ok (.newarray .int, 2) := by decide +kernel
theorem dX12_init_180 : decode cX12_init 180 = .ok (.putfield 52, 3) := by decide +kernel
theorem dX12_init_183 : decode cX12_init 183 = .ok (.aload_n 0, 1) := by decide +kernel
theorem dX12_init_184 : decode cX12_init 184 = .ok (.iconst 2, 1) := by decide +kernel
theorem dX12_init_185 : decode cX12_init 185 = .ok (.newarray .boolean, 2) := by decide +kernel
theorem dX12_init_187 : decode cX12_init 187 = .ok (.putfield 55, 3) := by decide +kernel
theorem dX12_init_190 : decode cX12_init 190 = .ok (.aload_n 0, 1) := by decide +kernel
theorem dX12_init_191 : decode cX12_init 191 = .ok (.iconst 2, 1) := by decide +kernel
theorem dX12_init_192 : decode cX12_init 192 = .ok (.newarray .int, 2) := by decide +kernel
theorem dX12_init_194 : decode cX12_init 194 = .ok (.putfield 58, 3) := by decide +kernel
theorem dX12_init_197 : decode cX12_init 197 = .ok (.aload_n 0, 1) := by decide +kernel
theorem dX12_init_198 : decode cX12_init 198 = .ok (.iconst 2, 1) := by decide +kernel
theorem dX12_init_199 : decode cX12_init 199 = .ok (.newarray .int, 2) := by decide +kernel
theorem dX12_init_201 : decode cX12_init 201 = .ok (.putfield 61, 3) := by decide +kernel
theorem dX12_init_204 : decode cX12_init 204 = .ok (.aload_n 0, 1) := by decide +kernel
theorem dX12_init_205 : decode cX12_init 205 = .ok (.iconst 2, 1) := by decide +kernel
theorem dX12_init_206 : decode cX12_init 206 = .ok (.newarray .int, 2) := by decide +kernel
theorem dX12_init_208 : decode cX12_init 208 = .ok (.putfield 64, 3) := by decide +kernel
theorem dX12_init_211 : decode cX12_init 211 = .ok (.aload_n 0, 1) := by decide +kernel
theorem dX12_init_212 : decode cX12_init 212 = .ok (.iconst 2, 1) := by decide +kernel
theorem dX12_init_213 : decode cX12_init 213 = .ok (.newarray .int, 2) := by decide +kernel
theorem dX12_init_215 : decode cX12_init 215 = .ok (.putfield 67, 3) := by decide +kernel
theorem dX12_init_218 : decode cX12_init 218 = .ok (.aload_n 0, 1) := by decide +kernel
theorem dX12_init_219 : decode cX12_init 219 = .ok (.iconst 2, 1) := by decide +kernel
theorem dX12_init_220 : decode cX12_init 220 = .ok (.newarray .long, 2) := by decide +kernel
theorem dX12_init_222 : decode cX12_init 222 = .ok (.putfield 70, 3) := by decide +kernel
theorem dX12_init_225 : decode cX12_init 225 = .ok (.aload_n 0, 1) := by decide +kernel
theorem dX12_init_226 : decode cX12_init 226 = .ok (.iconst 2, 1) := by decide +kernel
theorem dX12_init_227 : decode cX12_init 227 = .ok (.newarray .long, 2) := by decide +kernel
theorem dX12_init_229 : decode cX12_init 229 = .ok (.putfield 74, 3) := by decide +kernel
theorem dX12_init_232 : decode cX12_init 232 = .ok (.aload_n 0, 1) := by decide +kernel
theorem dX12_init_233 : decode cX12_init 233 = .ok (.iconst 2, 1) := by decide +kernel
theorem dX12_init_234 : decode cX12_init 234 = .ok (.newarray .long, 2) := by decide +kernel
theorem dX12_init_236 : decode cX12_init 236 = .ok (.putfield 77, 3) := by decide +kernel
theorem dX12_init_239 : decode cX12_init 239 = .ok (.aload_n 0, 1) := by decide +kernel
theorem dX12_init_240 : decode cX12_init 240 = .ok (.sipush 192, 3) := by decide +kernel
theorem dX12_init_243 : decode cX12_init 243 = .ok (.newarray .int, 2) := by decide +kernel
theorem dX12_init_245 : decode cX12_init 245 = .ok (.putfield 80, 3) := by decide +kernel
theorem dX12_init_248 : decode cX12_init 248 = .ok (.aload_n 0, 1) := by decide +kernel
theorem dX12_init_249 : decode cX12_init 249 = .ok (.sipush 192, 3) := by decide +kernel
theorem dX12_init_252 : decode cX12_init 252 = .ok (.newarray .int, 2) := by decide +kernel
theorem dX12_init_254 : decode cX12_init 254 = .ok (.putfield 83, 3) := by decide +kernel
theorem dX12_init_257 : decode cX12_init 257 = .ok (.aload_n 0, 1) := by decide +kernel
theorem dX12_init_258 : decode cX12_init 258 = .ok (.sipush 193, 3) := by decide +kernel
theorem dX12_init_261 : decode cX12_init 261 = .ok (.newarray .int, 2) := by decide +kernel
theorem dX12_init_263 : decode cX12_init 263 = .ok (.putfield 86, 3) := by decide +kernel
theorem dX12_init_266 : decode cX12_init 266 = .ok (.aload_n 0, 1) := by decide +kernel
theorem dX12_init_267 : decode cX12_init 267 = .ok (.sipush 193, 3) := by decide +kernel
theorem dX12_init_270 : decode cX12_init 270 = .ok (.newarray .int, 2) := by decide +kernel
theorem dX12_init_272 : decode cX12_init 272 = .ok (.putfield 89, 3) := by decide +kernel
theorem dX12_init_275 : decode cX12_init 275 = .ok (.aload_n 0, 1) := by decide +kernel
theorem dX12_init_276 : decode cX12_init 276 = .ok (.sipush 193, 3) := by decide +kernel
theorem dX12_init_279 : decode cX12_init 279 = .ok (.newarray .boolean, 2) := by decide +kernel
theorem dX12_init_281 : decode cX12_init 281 = .ok (.putfield 92, 3) := by decide +kernel
theorem dX12_init_284 : decode cX12_init 284 = .ok (.aload_n 0, 1) := by decide +kernel
theorem dX12_init_285 : decode cX12_init 285 = .ok (.sipush 400, 3) := by decide +kernel
theorem dX12_init_288 : decode cX12_init 288 = .ok (.newarray .int, 2) := by decide +kernel
theorem dX12_init_290 : decode cX12_init 290 = .ok (.putfield 95, 3) := by decide +kernel
theorem dX12_init_293 : decode cX12_init 293 = .ok (.aload_n 0, 1) := by decide +kernel
theorem dX12_init_294 : decode cX12_init 294 = .ok (.bipush 83, 2) := by decide +kernel
theorem dX12_init_296 : decode cX12_init 296 = .ok (.newarray .int, 2) := by decide +kernel
theorem dX12_init_298 : decode cX12_init 298 = .ok (.dup, 1) := by decide +kernel
theorem dX12_init_299 : decode cX12_init 299 = .ok (.iconst 0, 1) := by decide +kernel
theorem dX12_init_300 : decode cX12_init 300 = .ok (.bipush 32, 2) := by decide +kernel
theorem dX12_init_302 : decode cX12_init 302 = .ok (.iastore, 1) := by decide +kernel
theorem dX12_init_303 : decode cX12_init 303 = .ok (.dup, 1) := by decide +kernel
theorem dX12_init_304 : decode cX12_init 304 = .ok (.iconst 1, 1) := by decide +kernel
theorem dX12_init_305 : decode cX12_init 305 = .ok (.bipush 111, 2) := by decide +kernel
theorem dX12_init_307 : decode cX12_init 307 = .ok (.iastore, 1) := by decide +kernel
theorem dX12_init_308 : decode cX12_init 308 = .ok (.dup, 1) := by decide +kernel
theorem dX12_init_309 : decode cX12_init 309 = .ok (.iconst 2, 1) := by decide +kernel
theorem dX12_init_310 : decode cX12_init 310 = .ok (.bipush 110, 2) := by decide +kernel
theorem dX12_init_312 : decode cX12_init 312 = .ok (.iastore, 1) := by decide +kernel
theorem dX12_init_313 : decode cX12_init 313 = .ok (.dup, 1) := by decide +kernel
theorem dX12_init_314 : decode cX12_init 314 = .ok (.iconst 3, 1) := by decide +kernel
theorem dX12_init_315 : decode cX12_init 315 = .ok (.bipush 32, 2) := by decide +kernel
theorem dX12_init_317 : decode cX12_init 317 = .ok (.iastore, 1) := by decide +kernel
theorem dX12_init_318 : decode cX12_init 318 = .ok (.dup, 1) := by decide +kernel
theorem dX12_init_319 : decode cX12_init 319 = .ok (.iconst 4, 1) := by decide +kernel
theorem dX12_init_320 : decode cX12_init 320 = .ok (.bipush 111, 2) := by decide +kernel
theorem dX12_init_322 : decode cX12_init 322 = .ok (.iastore, 1) := by decide +kernel
theorem dX12_init_323 : decode cX12_init 323 = .ok (.dup, 1) := by decide +kernel
theorem dX12_init_324 : decode cX12_init 324 = .ok (.iconst 5, 1) := by decide +kernel
theorem dX12_init_325 : decode cX12_init 325 = .ok (.bipush 102, 2) := by decide +kernel
theorem dX12_init_327 : decode cX12_init 327 = .ok (.iastore, 1) := by decide +kernel
theorem dX12_init_328 : decode cX12_init 328 = .ok (.dup, 1) := by decide +kernel
theorem dX12_init_329 : decode cX12_init 329 = .ok (.bipush 6, 2) := by decide +kernel
theorem dX12_init_331 : decode cX12_init 331 = .ok (.bipush 102, 2) := by decide +kernel
theorem dX12_init_333 : decode cX12_init 333 = .ok (.iastore, 1) := by decide +kernel
theorem dX12_init_334 : decode cX12_init 334 = .ok (.dup, 1) := by decide +kernel
theorem dX12_init_335 : decode cX12_init 335 = .ok (.bipush 7, 2) := by decide +kernel
theorem dX12_init_337 : decode cX12_init 337 = .ok (.bipush 32, 2) := by decide +kernel
theorem dX12_init_339 : decode cX12_init 339 = .ok (.iastore, 1) := by decide +kernel
theorem dX12_init_340 : decode cX12_init 340 = .ok (.dup, 1) := by decide +kernel
theorem dX12_init_341 : decode cX12_init 341 = .ok (.bipush 8, 2) := by decide +kernel
theorem dX12_init_343 : decode cX12_init 343 = .ok (.bipush 116, 2) := by decide +kernel
theorem dX12_init_345 : decode cX12_init 345 = .ok (.iastore, 1) := by decide +kernel
theorem dX12_init_346 : decode cX12_init 346 = .ok (.dup, 1) := by decide +kernel
theorem dX12_init_347 : decode cX12_init 347 = .ok (.bipush 9, 2) := by decide +kernel
theorem dX12_init_349 : decode cX12_init 349 = .ok (.bipush 111, 2) := by decide +kernel
theorem dX12_init_351 : decode cX12_init 351 = .ok (.iastore, 1) := by decide +kernel
theorem dX12_init_352 : decode cX12_init 352 = .ok (.dup, 1) := by decide +kernel
theorem dX12_init_353 : decode cX12_init 353 = .ok (.bipush 10, 2) := by decide +kernel
theorem dX12_init_355 : decode cX12_init 355 = .ok (.bipush 32, 2) := by decide +kernel
theorem dX12_init_357 : decode cX12_init 357 = .ok (.iastore, 1) := by decide +kernel
theorem dX12_init_358 : decode cX12_init 358 = .ok (.dup, 1) := by decide +kernel
theorem dX12_init_359 : decode cX12_init 359 = .ok (.bipush 11, 2) := by decide +kernel
theorem dX12_init_361 : decode cX12_init 361 = .ok (.bipush 103, 2) := by decide +kernel
theorem dX12_init_363 : decode cX12_init 363 = .ok (.iastore, 1) := by decide +kernel
theorem dX12_init_364 : decode cX12_init 364 = .ok (.dup, 1) := by decide +kernel
theorem dX12_init_365 : decode cX12_init 365 = .ok (.bipush 12, 2) := by decide +kernel
theorem dX12_init_367 : decode cX12_init 367 = .ok (.bipush 111, 2) := by decide +kernel
theorem dX12_init_369 : decode cX12_init 369 = .ok (.iastore, 1) := by decide +kernel
theorem dX12_init_370 : decode cX12_init 370 = .ok (.dup, 1) := by decide +kernel
theorem dX12_init_371 : decode cX12_init 371 = .ok (.bipush 13, 2) := by decide +kernel
theorem dX12_init_373 : decode cX12_init 373 = .ok (.bipush 32, 2) := by decide +kernel
theorem dX12_init_375 : decode cX12_init 375 = .ok (.iastore, 1) := by decide +kernel
theorem dX12_init_376 : decode cX12_init 376 = .ok (.dup, 1) := by decide +kernel
theorem dX12_init_377 : decode cX12_init 377 = .ok (.bipush 14, 2) := by decide +kernel
theorem dX12_init_379 : decode cX12_init 379 = .ok (.bipush 104, 2) := by decide +kernel
theorem dX12_init_381 : decode cX12_init 381 = .ok (.iastore, 1) := by decide +kernel
theorem dX12_init_382 : decode cX12_init 382 = .ok (.dup, 1) := by decide +kernel
theorem dX12_init_383 : decode cX12_init 383 = .ok (.bipush 15, 2) := by decide +kernel
theorem dX12_init_385 : decode cX12_init 385 = .ok (.bipush 111, 2) := by decide +kernel
theorem dX12_init_387 : decode cX12_init 387 = .ok (.iastore, 1) := by decide +kernel
theorem dX12_init_388 : decode cX12_init 388 = .ok (.dup, 1) := by decide +kernel
theorem dX12_init_389 : decode cX12_init 389 = .ok (.bipush 16, 2) := by decide +kernel
theorem dX12_init_391 : decode cX12_init 391 = .ok (.bipush 108, 2) := by decide +kernel
theorem dX12_init_393 : decode cX12_init 393 = .ok (.iastore, 1) := by decide +kernel
theorem dX12_init_394 : decode cX12_init 394 = .ok (.dup, 1) := by decide +kernel
theorem dX12_init_395 : decode cX12_init 395 = .ok (.bipush 17, 2) := by decide +kernel
theorem dX12_init_397 : decode cX12_init 397 = .ok (.bipush 100, 2) := by decide +kernel
theorem dX12_init_399 : decode cX12_init 399 = .ok (.iastore, 1) := by decide +kernel
theorem dX12_init_400 : decode cX12_init 400 = .ok (.dup, 1) := by decide +kernel
theorem dX12_init_401 : decode cX12_init 401 = .ok (.bipush 18, 2) := by decide +kernel
theorem dX12_init_403 : decode cX12_init 403 = .ok (.bipush 32, 2) := by decide +kernel
theorem dX12_init_405 : decode cX12_init 405 = .ok (.iastore, 1) := by decide +kernel
theorem dX12_init_406 : decode cX12_init 406 = .ok (.dup, 1) := by decide +kernel
theorem dX12_init_407 : decode cX12_init 407 = .ok (.bipush 19, 2) := by decide +kernel
theorem dX12_init_409 : decode cX12_init 409 = .ok (.bipush 115, 2) := by decide +kernel
theorem dX12_init_411 : decode cX12_init 411 = .ok (.iastore, 1) := by decide +kernel
theorem dX12_init_412 : decode cX12_init 412 = .ok (.dup, 1) := by decide +kernel
theorem dX12_init_413 : decode cX12_init 413 = .ok (.bipush 20, 2) := by decide +kernel
theorem dX12_init_415 : decode cX12_init 415 = .ok (.bipush 112, 2) := by decide +kernel
theorem dX12_init_417 : decode cX12_init 417 = .ok (.iastore, 1) := by decide +kernel
theorem dX12_init_418 : decode cX12_init 418 = .ok (.dup, 1) := by decide +kernel
theorem dX12_init_419 : decode cX12_init 419 = .ok (.bipush 21, 2) := by decide +kernel
theorem dX12_init_421 : decode cX12_init 421 = .ok (.bipush 101, 2) := by decide +kernel
theorem dX12_init_423 : decode cX12_init 423 = .ok (.iastore, 1) := by decide +kernel
theorem dX12_init_424 : decode cX12_init 424 = .ok (.dup, 1) := by decide +kernel
theorem dX12_init_425 : decode cX12_init 425 = .ok (.bipush 22, 2) := by decide +kernel
theorem dX12_init_427 : decode cX12_init 427 = .ok (.bipush 101, 2) := by decide +kernel
theorem dX12_init_429 : decode cX12_init 429 = .ok (.iastore, 1) := by decide +kernel
theorem dX12_init_430 : decode cX12_init 430 = .ok (.dup, 1) := by decide +kernel
theorem dX12_init_431 : decode cX12_init 431 = .ok (.bipush 23, 2) := by decide +kernel
theorem dX12_init_433 : decode cX12_init 433 = .ok (.bipush 100, 2) := by decide +kernel
theorem dX12_init_435 : decode cX12_init 435 = .ok (.iastore, 1) := by decide +kernel
theorem dX12_init_436 : decode cX12_init 436 = .ok (.dup, 1) := by decide +kernel
theorem dX12_init_437 : decode cX12_init 437 = .ok (.bipush 24, 2) := by decide +kernel
theorem dX12_init_439 : decode cX12_init 439 = .ok (.bipush 32, 2) := by decide +kernel
theorem dX12_init_441 : decode cX12_init 441 = .ok (.iastore, 1) := by decide +kernel
theorem dX12_init_442 : decode cX12_init 442 = .ok (.dup, 1) := by decide +kernel
theorem dX12_init_443 : decode cX12_init 443 = .ok (.bipush 25, 2) := by decide +kernel
theorem dX12_init_445 : decode cX12_init 445 = .ok (.bipush 97, 2) := by decide +kernel
theorem dX12_init_447 : decode cX12_init 447 = .ok (.iastore, 1) := by decide +kernel
theorem dX12_init_448 : decode cX12_init 448 = .ok (.dup, 1) := by decide +kernel
theorem dX12_init_449 : decode cX12_init 449 = .ok (.bipush 26, 2) := by decide +kernel
theorem dX12_init_451 : decode cX12_init 451 = .ok (.bipush 103, 2) := by decide +kernel
theorem dX12_init_453 : decode cX12_init 453 = .ok (.iastore, 1) := by decide +kernel
theorem dX12_init_454 : decode cX12_init 454 = .ok (.dup, 1) := by decide +kernel
theorem dX12_init_455 : decode cX12_init 455 = .ok (.bipush 27, 2) := by decide +kernel
theorem dX12_init_457 : decode cX12_init 457 = .ok (.bipush 97, 2) := by decide +kernel
theorem dX12_init_459 : decode cX12_init 459 = .ok (.iastore, 1) := by decide +kernel
theorem dX12_init_460 : decode cX12_init 460 = .ok (.dup, 1) := by decide +kernel
theorem dX12_init_461 : decode cX12_init 461 = .ok (.bipush 28, 2) := by decide +kernel
theorem dX12_init_463 : decode cX12_init 463 = .ok (.bipush 105, 2) := by decide +kernel
theorem dX12_init_465 : decode cX12_init 465 = .ok (.iastore, 1) := by decide +kernel
theorem dX12_init_466 : decode cX12_init 466 = .ok (.dup, 1) := by decide +kernel
theorem dX12_init_467 : decode cX12_init 467 = .ok (.bipush 29, 2) := by decide +kernel
theorem dX12_init_469 : decode cX12_init 469 = .ok (.bipush 110, 2) := by decide +kernel
theorem dX12_init_471 : decode cX12_init 471 = .ok (.iastore, 1) := by decide +kernel
theorem dX12_init_472 : decode cX12_init 472 = .ok (.dup, 1) := by decide +kernel
theorem dX12_init_473 : decode cX12_init 473 = .ok (.bipush 30, 2) := by decide +kernel
theorem dX12_init_475 : decode cX12_init 475 = .ok (.bipush 32, 2) := by decide +kernel
theorem dX12_init_477 : decode cX12_init 477 = .ok (.iastore, 1) := by decide +kernel
theorem dX12_init_478 : decode cX12_init 478 = .ok (.dup, 1) := by decide +kernel
theorem dX12_init_479 : decode cX12_init 479 = .ok (.bipush 31, 2) := by decide +kernel
theorem dX12_init_481 : decode cX12_init 481 = .ok (.bipush 98, 2) := by decide +kernel
theorem dX12_init_483 : decode cX12_init 483 = .ok (.iastore, 1) := by decide +kernel
theorem dX12_init_484 : decode cX12_init 484 = .ok (.dup, 1) := by decide +kernel
theorem dX12_init_485 : decode cX12_init 485 = .ok (.bipush 32, 2) := by decide +kernel
theorem dX12_init_487 : decode cX12_init 487 = .ok (.bipush 101, 2) := by decide +kernel
theorem dX12_init_489 : decode cX12_init 489 = .ok (.iastore, 1) := by decide +kernel
theorem dX12_init_490 : decode cX12_init 490 = .ok (.dup, 1) := by decide +kernel
theorem dX12_init_491 : decode cX12_init 491 = .ok (.bipush 33, 2) := by decide +kernel
theorem dX12_init_493 : decode cX12_init 493 = .ok (.bipush 103, 2) := by decide +kernel
theorem dX12_init_495 : decode cX12_init 495 = .ok (.iastore, 1) := by decide +kernel
theorem dX12_init_496 : decode cX12_init 496 = .ok (.dup, 1) := by decide +kernel
theorem dX12_init_497 : decode cX12_init 497 = .ok (.bipush 34, 2) := by decide +kernel
theorem dX12_init_499 : decode cX12_init 499 = .ok (.bipush 105, 2) := by decide +kernel
theorem dX12_init_501 : decode cX12_init 501 = .ok (.iastore, 1) := by decide +kernel
theorem dX12_init_502 : decode cX12_init 502 = .ok (.dup, 1) := by decide +kernel
theorem dX12_init_503 : decode cX12_init 503 = .ok (.bipush 35, 2) := by decide +kernel
theorem dX12_init_505 : decode cX12_init 505 = .ok (.bipush 110, 2) := by decide +kernel
theorem dX12_init_507 : decode cX12_init 507 = .ok (.iastore, 1) := by decide +kernel
theorem dX12_init_508 : decode cX12_init 508 = .ok (.dup, 1) := by decide +kernel
theorem dX12_init_509 : decode cX12_init 509 = .ok (.bipush 36, 2) := by decide +kernel
theorem dX12_init_511 : decode cX12_init 511 = .ok (.bipush 32, 2) := by decide +kernel
theorem dX12_init_513 : decode cX12_init 513 = .ok (.iastore, 1) := by decide +kernel
theorem dX12_init_514 : decode cX12_init 514 = .ok (.dup, 1) := by decide +kernel
theorem dX12_init_515 : decode cX12_init 515 = .ok (.bipush 37, 2) := by decide +kernel
theorem dX12_init_517 : decode cX12_init 517 = .ok (.bipush 101, 2) := by decide +kernel
theorem dX12_init_519 : decode cX12_init 519 = .ok (.iastore, 1) := by decide +kernel
theorem dX12_init_520 : decode cX12_init 520 = .ok (.dup, 1) := by decide +kernel
theorem dX12_init_521 : decode cX12_init 521 = .ok (.bipush 38, 2) := by decide +kernel
theorem dX12_init_523 : decode cX12_init 523 = .ok (.bipush 110, 2) := by decide +kernel
theorem dX12_init_525 : decode cX12_init 525 = .ok (.iastore, 1) := by decide +kernel
theorem dX12_init_526 : decode cX12_init 526 = .ok (.dup, 1) := by decide +kernel
theorem dX12_init_527 : decode cX12_init 527 = .ok (.bipush 39, 2) := by decide +kernel
theorem dX12_init_529 : decode cX12_init 529 = .ok (.bipush 100, 2) := by decide +kernel
theorem dX12_init_531 : decode cX12_init 531 = .ok (.iastore, 1) := by decide +kernel
theorem dX12_init_532 : decode cX12_init 532 = .ok (.dup, 1) := by decide +kernel
theorem dX12_init_533 : decode cX12_init 533 = .ok (.bipush 40, 2) := by decide +kernel
theorem dX12_init_535 : decode cX12_init 535 = .ok (.bipush 32, 2) := by decide +kernel
theorem dX12_init_537 : decode cX12_init 537 = .ok (.iastore, 1) := by decide +kernel
theorem dX12_init_538 : decode cX12_init 538 = .ok (.dup, 1) := by decide +kernel
theorem dX12_init_539 : decode cX12_init 539 = .ok (.bipush 41, 2) := by decide +kernel
theorem dX12_init_541 : decode cX12_init 541 = .ok (.bipush 105, 2) := by decide +kernel
theorem dX12_init_543 : decode cX12_init 543 = .ok (.iastore, 1) := by decide +kernel
theorem dX12_init_544 : decode cX12_init 544 = .ok (.dup, 1) := by decide +kernel
theorem dX12_init_545 : decode cX12_init 545 = .ok (.bipush 42, 2) := by decide +kernel
theorem dX12_init_547 : decode cX12_init 547 = .ok (.bipush 102, 2) := by decide +kernel
theorem dX12_init_549 : decode cX12_init 549 = .ok (.iastore, 1) := by decide +kernel
theorem dX12_init_550 : decode cX12_init 550 = .ok (.dup, 1) := by decide +kernel
theorem dX12_init_551 : decode cX12_init 551 = .ok (.bipush 43, 2) := by decide +kernel
theorem dX12_init_553 : decode cX12_init 553 = .ok (.bipush 32, 2) := by decide +kernel
theorem dX12_init_555 : decode cX12_init 555 = .ok (.iastore, 1) := by decide +kernel
theorem dX12_init_556 : decode cX12_init 556 = .ok (.dup, 1) := by decide +kernel
theorem dX12_init_557 : decode cX12_init 557 = .ok (.bipush 44, 2) := by decide +kernel
theorem dX12_init_559 : decode cX12_init 559 = .ok (.bipush 101, 2) := by decide +kernel
theorem dX12_init_561 : decode cX12_init 561 = .ok (.iastore, 1) := by decide +kernel
theorem dX12_init_562 : decode cX12_init 562 = .ok (.dup, 1) := by decide +kernel
theorem dX12_init_563 : decode cX12_init 563 = .ok (.bipush 45, 2) := by decide +kernel
theorem dX12_init_565 : decode cX12_init 565 = .ok (.bipush 97, 2) := by decide +kernel
theorem dX12_init_567 : decode cX12_init 567 = .ok (.iastore, 1) := by decide +kernel
theorem dX12_init_568 : decode cX12_init 568 = .ok (.dup, 1) := by decide +kernel
theorem dX12_init_569 : decode cX12_init 569 = .ok (.bipush 46, 2) := by decide +kernel
theorem dX12_init_571 : decode cX12_init 571 = .ok (.bipush 115, 2) := by decide +kernel
theorem dX12_init_573 : decode cX12_init 573 = .ok (.iastore, 1) := by decide +kernel
theorem dX12_init_574 : decode cX12_init 574 = .ok (.dup, 1) := by decide +kernel
theorem dX12_init_575 : decode cX12_init 575 = .ok (.bipush 47, 2) := by decide +kernel
theorem dX12_init_577 : decode cX12_init 577 = .ok (.bipush 116, 2) := by decide +kernel
theorem dX12_init_579 : decode cX12_init 579 = .ok (.iastore, 1) := by decide +kernel
theorem dX12_init_580 : decode cX12_init 580 = .ok (.dup, 1) := by decide +kernel
theorem dX12_init_581 : decode cX12_init 581 = .ok (.bipush 48, 2) := by decide +kernel
theorem dX12_init_583 : decode cX12_init 583 = .ok (.bipush 32, 2) := by decide +kernel
theorem dX12_init_585 : decode cX12_init 585 = .ok (.iastore, 1) := by decide +kernel
theorem dX12_init_586 : decode cX12_init 586 = .ok (.dup, 1) := by decide +kernel
theorem dX12_init_587 : decode cX12_init 587 = .ok (.bipush 49, 2) := by decide +kernel
theorem dX12_init_589 : decode cX12_init 589 = .ok (.bipush 110, 2) := by decide +kernel
theorem dX12_init_591 : decode cX12_init 591 = .ok (.iastore, 1) := by decide +kernel
theorem dX12_init_592 : decode cX12_init 592 = .ok (.dup, 1) := by decide +kernel
theorem dX12_init_593 : decode cX12_init 593 = .ok (.bipush 50, 2) := by decide +kernel
theorem dX12_init_595 : decode cX12_init 595 = .ok (.bipush 111, 2) := by decide +kernel
theorem dX12_init_597 : decode cX12_init 597 = .ok (.iastore, 1) := by decide +kernel
theorem dX12_init_598 : decode cX12_init 598 = .ok (.dup, 1) := by decide +kernel
theorem dX12_init_599 : decode cX12_init 599 = .ok (.bipush 51, 2) := by decide +kernel
theorem dX12_init_601 : decode cX12_init 601 = .ok (.bipush 114, 2) := by decide +kernel
theorem dX12_init_603 : decode cX12_init 603 = .ok (.iastore, 1) := by decide +kernel
theorem dX12_init_604 : decode cX12_init 604 = .ok (.dup, 1) := by decide +kernel
theorem dX12_init_605 : decode cX12_init 605 = .ok (.bipush 52, 2) := by decide +kernel
theorem dX12_init_607 : decode cX12_init 607 = .ok (.bipush 116, 2) := by decide +kernel
theorem dX12_init_609 : decode cX12_init 609 = .ok (.iastore, 1) := by decide +kernel
theorem dX12_init_610 : decode cX12_init 610 = .ok (.dup, 1) := by decide +kernel
theorem dX12_init_611 : decode cX12_init 611 = .ok (.bipush 53, 2) := by decide +kernel
theorem dX12_init_613 : decode cX12_init 613 = .ok (.bipush 104, 2) := by decide +kernel
theorem dX12_init_615 : decode cX12_init 615 = .ok (.iastore, 1) := by decide +kernel
theorem dX12_init_616 : decode cX12_init 616 = .ok (.dup, 1) := by decide +kernel
theorem dX12_init_617 : decode cX12_init 617 = .ok (.bipush 54, 2) := by decide +kernel
theorem dX12_init_619 : decode cX12_init 619 = .ok (.bipush 32, 2) := by decide +kernel
theorem dX12_init_621 : decode cX12_init 621 = .ok (.iastore, 1) := by decide +kernel
theorem dX12_init_622 : decode cX12_init 622 = .ok (.dup, 1) := by decide +kernel
theorem dX12_init_623 : decode cX12_init 623 = .ok (.bipush 55, 2) := by decide +kernel
theorem dX12_init_625 : decode cX12_init 625 = .ok (.bipush 119, 2) := by decide +kernel
theorem dX12_init_627 : decode cX12_init 627 = .ok (.iastore, 1) := by decide +kernel
theorem dX12_init_628 : decode cX12_init 628 = .ok (.dup, 1) := by decide +kernel
theorem dX12_init_629 : decode cX12_init 629 = .ok (.bipush 56, 2) := by decide +kernel
theorem dX12_init_631 : decode cX12_init 631 = .ok (.bipush 101, 2) := by decide +kernel
theorem dX12_init_633 : decode cX12_init 633 = .ok (.iastore, 1) := by decide +kernel
theorem dX12_init_634 : decode cX12_init 634 = .ok (.dup, 1) := by decide +kernel
theorem dX12_init_635 : decode cX12_init 635 = .ok (.bipush 57, 2) := by decide +kernel
theorem dX12_init_637 : decode cX12_init 637 = .ok (.bipush 115, 2) := by decide +kernel
theorem dX12_init_639 : decode cX12_init 639 = .ok (.iastore, 1) := by decide +kernel
theorem dX12_init_640 : decode cX12_init 640 = .ok (.dup, 1) := by decide +kernel
theorem dX12_init_641 : decode cX12_init 641 = .ok (.bipush 58, 2) := by decide +kernel
theorem dX12_init_643 : decode cX12_init 643 = .ok (.bipush 116, 2) := by decide +kernel
theorem dX12_init_645 : decode cX12_init 645 = .ok (.iastore, 1) := by decide +kernel
theorem dX12_init_646 : decode cX12_init 646 = .ok (.dup, 1) := by decide +kernel
theorem dX12_init_647 : decode cX12_init 647 = .ok (.bipush 59, 2) := by decide +kernel
theorem dX12_init_649 : decode cX12_init 649 = .ok (.bipush 32, 2) := by decide +kernel
theorem dX12_init_651 : decode cX12_init 651 = .ok (.iastore, 1) := by decide +kernel
theorem dX12_init_652 : decode cX12_init 652 = .ok (.dup, 1) := by decide +kernel
theorem dX12_init_653 : decode cX12_init 653 = .ok (.bipush 60, 2) := by decide +kernel
theorem dX12_init_655 : decode cX12_init 655 = .ok (.bipush 115, 2) := by decide +kernel
theorem dX12_init_657 : decode cX12_init 657 = .ok (.iastore, 1) := by decide +kernel
theorem dX12_init_658 : decode cX12_init 658 = .ok (.dup, 1) := by decide +kernel
theorem dX12_init_659 : decode cX12_init 659 = .ok (.bipush 61, 2) := by decide +kernel
theorem dX12_init_661 : decode cX12_init 661 = .ok (.bipush 111, 2) := by decide +kernel
theorem dX12_init_663 : decode cX12_init 663 = .ok (.iastore, 1) := by decide +kernel
theorem dX12_init_664 : decode cX12_init 664 = .ok (.dup, 1) := by decide +kernel
theorem dX12_init_665 : decode cX12_init 665 = .ok (.bipush 62, 2) := by decide +kernel
theorem dX12_init_667 : decode cX12_init 667 = .ok (.bipush 117, 2) := by decide +kernel
theorem dX12_init_669 : decode cX12_init 669 = .ok (.iastore, 1) := by decide +kernel
theorem dX12_init_670 : decode cX12_init 670 = .ok (.dup, 1) := by decide +kernel
theorem dX12_init_671 : decode cX12_init 671 = .ok (.bipush 63, 2) := by decide +kernel
theorem dX12_init_673 : decode cX12_init 673 = .ok (.bipush 116, 2) := by decide +kernel
theorem dX12_init_675 : decode cX12_init 675 = .ok (.iastore, 1) := by decide +kernel
theorem dX12_init_676 : decode cX12_init 676 = .ok (.dup, 1) := by decide +kernel
theorem dX12_init_677 : decode cX12_init 677 = .ok (.bipush 64, 2) := by decide +kernel
theorem dX12_init_679 : decode cX12_init 679 = .ok (.bipush 104, 2) := by decide +kernel
theorem dX12_init_681 : decode cX12_init 681 = .ok (.iastore, 1) := by decide +kernel
theorem dX12_init_682 : decode cX12_init 682 = .ok (.dup, 1) := by decide +kernel
theorem dX12_init_683 : decode cX12_init 683 = .ok (.bipush 65, 2) := by decide +kernel
theorem dX12_init_685 : decode cX12_init 685 = .ok (.bipush 32, 2) := by decide +kernel
theorem dX12_init_687 : decode cX12_init 687 = .ok (.iastore, 1) := by decide +kernel
theorem dX12_init_688 : decode cX12_init 688 = .ok (.dup, 1) := by decide +kernel
theorem dX12_init_689 : decode cX12_init 689 = .ok (.bipush 66, 2) := by decide +kernel
theorem dX12_init_691 : decode cX12_init 691 = .ok (.bipush 104, 2) := by decide +kernel
theorem dX12_init_693 : decode cX12_init 693 = .ok (.iastore, 1) := by decide +kernel
theorem dX12_init_694 : decode cX12_init 694 = .ok (.dup, 1) := by decide +kernel
theorem dX12_init_695 : decode cX12_init 695 = .ok (.bipush 67, 2) := by decide +kernel
theorem dX12_init_697 : decode cX12_init 697 = .ok (.bipush 111, 2) := by decide +kernel
theorem dX12_init_699 : decode cX12_init 699 = .ok (.iastore, 1) := by decide +kernel
theorem dX12_init_700 : decode cX12_init 700 = .ok (.dup, 1) := by decide +kernel
theorem dX12_init_701 : decode cX12_init 701 = .ok (.bipush 68, 2) := by decide +kernel
theorem dX12_init_703 : decode cX12_init 703 = .ok (.bipush 116, 2) := by decide +kernel
theorem dX12_init_705 : decode cX12_init 705 = .ok (.iastore, 1) := by decide +kernel
theorem dX12_init_706 : decode cX12_init 706 = .ok (.dup, 1) := by decide +kernel
theorem dX12_init_707 : decode cX12_init 707 = .ok (.bipush 69, 2) := by decide +kernel
theorem dX12_init_709 : decode cX12_init 709 = .ok (.bipush 32, 2) := by decide +kernel
theorem dX12_init_711 : decode cX12_init 711 = .ok (.iastore, 1) := by decide +kernel
theorem dX12_init_712 : decode cX12_init 712 = .ok (.dup, 1) := by decide +kernel
theorem dX12_init_713 : decode cX12_init 713 = .ok (.bipush 70, 2) := by decide +kernel
theorem dX12_init_715 : decode cX12_init 715 = .ok (.bipush 120, 2) := by decide +kernel
theorem dX12_init_717 : decode cX12_init 717 = .ok (.iastore, 1) := by decide +kernel
theorem dX12_init_718 : decode cX12_init 718 = .ok (.dup, 1) := by decide +kernel
theorem dX12_init_719 : decode cX12_init 719 = .ok (.bipush 71, 2) := by decide +kernel
theorem dX12_init_721 : decode cX12_init 721 = .ok (.bipush 32, 2) := by decide +kernel
theorem dX12_init_723 : decode cX12_init 723 = .ok (.iastore, 1) := by decide +kernel
theorem dX12_init_724 : decode cX12_init 724 = .ok (.dup, 1) := by decide +kernel
theorem dX12_init_725 : decode cX12_init 725 = .ok (.bipush 72, 2) := by decide +kernel
theorem dX12_init_727 : decode cX12_init 727 = .ok (.bipush 121, 2) := by decide +kernel
theorem dX12_init_729 : decode cX12_init 729 = .ok (.iastore, 1) := by decide +kernel
theorem dX12_init_730 : decode cX12_init 730 = .ok (.dup, 1) := by decide +kernel
theorem dX12_init_731 : decode cX12_init 731 = .ok (.bipush 73, 2) := by decide +kernel
theorem dX12_init_733 : decode cX12_init 733 = .ok (.bipush 32, 2) := by decide +kernel
theorem dX12_init_735 : decode cX12_init 735 = .ok (.iastore, 1) := by decide +kernel
theorem dX12_init_736 : decode cX12_init 736 = .ok (.dup, 1) := by decide +kernel
theorem dX12_init_737 : decode cX12_init 737 = .ok (.bipush 74, 2) := by decide +kernel
theorem dX12_init_739 : decode cX12_init 739 = .ok (.bipush 116, 2) := by decide +kernel
theorem dX12_init_741 : decode cX12_init 741 = .ok (.iastore, 1) := by decide +kernel
theorem dX12_init_742 : decode cX12_init 742 = .ok (.dup, 1) := by decide +kernel
theorem dX12_init_743 : decode cX12_init 743 = .ok (.bipush 75, 2) := by decide +kernel
theorem dX12_init_745 : decode cX12_init 745 = .ok (.bipush 105, 2) := by decide +kernel
theorem dX12_init_747 : decode cX12_init 747 = .ok (.iastore, 1) := by decide +kernel
theorem dX12_init_748 : decode cX12_init 748 = .ok (.dup, 1) := by decide +kernel
theorem dX12_init_749 : decode cX12_init 749 = .ok (.bipush 76, 2) := by decide +kernel
theorem dX12_init_751 : decode cX12_init 751 = .ok (.bipush 99, 2) := by decide +kernel
theorem dX12_init_753 : decode cX12_init 753 = .ok (.iastore, 1) := by decide +kernel
theorem dX12_init_754 : decode cX12_init 754 = .ok (.dup, 1) := by decide +kernel
theorem dX12_init_755 : decode cX12_init 755 = .ok (.bipush 77, 2) := by decide +kernel
theorem dX12_init_757 : decode cX12_init 757 = .ok (.bipush 107, 2) := by decide +kernel
theorem dX12_init_759 : decode cX12_init 759 = .ok (.iastore, 1) := by decide +kernel
theorem dX12_init_760 : decode cX12_init 760 = .ok (.dup, 1) := by decide +kernel
theorem dX12_init_761 : decode cX12_init 761 = .ok (.bipush 78, 2) := by decide +kernel
theorem dX12_init_763 : decode cX12_init 763 = .ok (.bipush 32, 2) := by decide +kernel
theorem dX12_init_765 : decode cX12_init 765 = .ok (.iastore, 1) := by decide +kernel
theorem dX12_init_766 : decode cX12_init 766 = .ok (.dup, 1) := by decide +kernel
theorem dX12_init_767 : decode cX12_init 767 = .ok (.bipush 79, 2) := by decide +kernel
theorem dX12_init_769 : decode cX12_init 769 = .ok (.bipush 99, 2) := by decide +kernel
theorem dX12_init_771 : decode cX12_init 771 = .ok (.iastore, 1) := by decide +kernel
theorem dX12_init_772 : decode cX12_init 772 = .ok (.dup, 1) := by decide +kernel
theorem dX12_init_773 : decode cX12_init 773 = .ok (.bipush 80, 2) := by decide +kernel
theorem dX12_init_775 : decode cX12_init 775 = .ok (.bipush 117, 2) := by decide +kernel
theorem dX12_init_777 : decode cX12_init 777 = .ok (.iastore, 1) := by decide +kernel
theorem dX12_init_778 : decode cX12_init 778 = .ok (.dup, 1) := by decide +kernel
theorem dX12_init_779 : decode cX12_init 779 = .ok (.bipush 81, 2) := by decide +kernel
theorem dX12_init_781 : decode cX12_init 781 = .ok (.bipush 116, 2) := by decide +kernel
theorem dX12_init_783 : decode cX12_init 783 = .ok (.iastore, 1) := by decide +kernel
theorem dX12_init_784 : decode cX12_init 784 = .ok (.dup, 1) := by decide +kernel
theorem dX12_init_785 : decode cX12_init 785 = .ok (.bipush 82, 2) := by decide +kernel
theorem dX12_init_787 : decode cX12_init 787 = .ok (.bipush 32, 2) := by decide +kernel
theorem dX12_init_789 : decode cX12_init 789 = .ok (.iastore, 1) := by decide +kernel
theorem dX12_init_790 : decode cX12_init 790 = .ok (.putfield 98, 3) := by decide +kernel
theorem dX12_init_793 : decode cX12_init 793 = .ok (.aload_n 0, 1) := by decide +kernel
theorem dX12_init_794 : decode cX12_init 794 = .ok (.sipush 3600, 3) := by decide +kernel
theorem dX12_init_797 : decode cX12_init 797 = .ok (.newarray .int, 2) := by decide +kernel
theorem dX12_init_799 : decode cX12_init 799 = .ok (.putfield 101, 3) := by decide +kernel
theorem dX12_init_802 : decode cX12_init 802 = .ok (.aload_n 0, 1) := by decide +kernel
theorem dX12_init_803 : decode cX12_init 803 = .ok (.sipush 3600, 3) := by decide +kernel
theorem dX12_init_806 : decode cX12_init 806 = .ok (.newarray .int, 2) := by decide +kernel
theorem dX12_init_808 : decode cX12_init 808 = .ok (.putfield 104, 3) := by decide +kernel
theorem dX12_init_811 : decode cX12_init 811 = .ok (.aload_n 0, 1) := by decide +kernel
theorem dX12_init_812 : decode cX12_init 812 = .ok (.sipush 3600, 3) := by decide +kernel
theorem dX12_init_815 : decode cX12_init 815 = .ok (.newarray .int, 2) := by decide +kernel
theorem dX12_init_817 : decode cX12_init 817 = .ok (.putfield 107, 3) := by decide +kernel
theorem dX12_init_820 : decode cX12_init 820 = .ok (.aload_n 0, 1) := by decide +kernel
theorem dX12_init_821 : decode cX12_init 821 = .ok (.bipush 9, 2) := by decide +kernel
theorem dX12_init_823 : decode cX12_init 823 = .ok (.newarray .int, 2) := by decide +kernel
theorem dX12_init_825 : decode cX12_init 825 = .ok (.putfield 110, 3) := by decide +kernel
theorem dX12_init_828 : decode cX12_init 828 = .ok (.aload_n 0, 1) := by decide +kernel
theorem dX12_init_829 : decode cX12_init 829 = .ok (.sipush 3600, 3) := by decide +kernel
theorem dX12_init_832 : decode cX12_init 832 = .ok (.newarray .int, 2) := by decide +kernel
theorem dX12_init_834 : decode cX12_init 834 = .ok (.putfield 113, 3) := by decide +kernel
theorem dX12_init_837 : decode cX12_init 837 = .ok (.aload_n 0, 1) := by decide +kernel
theorem dX12_init_838 : decode cX12_init 838 = .ok (.sipush 3600, 3) := by decide +kernel
theorem dX12_init_841 : decode cX12_init 841 = .ok (.newarray .int, 2) := by decide +kernel
theorem dX12_init_843 : decode cX12_init 843 = .ok (.putfield 116, 3) := by decide +kernel
theorem dX12_init_846 : decode cX12_init 846 = .ok (.aload_n 0, 1) := by decide +kernel
theorem dX12_init_847 : decode cX12_init 847 = .ok (.sipush 3600, 3) := by decide +kernel
theorem dX12_init_850 : decode cX12_init 850 = .ok (.newarray .int, 2) := by decide +kernel
theorem dX12_init_852 : decode cX12_init 852 = .ok (.putfield 119, 3) := by decide +kernel
theorem dX12_init_855 : decode cX12_init 855 = .ok (.aload_n 0, 1) := by decide +kernel
theorem dX12_init_856 : decode cX12_init 856 = .ok (.sipush 3600, 3) := by decide +kernel
theorem dX12_init_859 : decode cX12_init 859 = .ok (.newarray .int, 2) := by decide +kernel
theorem dX12_init_861 : decode cX12_init 861 = .ok (.putfield 122, 3) := by decide +kernel
theorem dX12_init_864 : decode cX12_init 864 = .ok (.aload_n 0, 1) := by decide +kernel
theorem dX12_init_865 : decode cX12_init 865 = .ok (.sipush 3600, 3) := by decide +kernel
theorem dX12_init_868 : decode cX12_init 868 = .ok (.newarray .int, 2) := by decide +kernel
theorem dX12_init_870 : decode cX12_init 870 = .ok (.putfield 125, 3) := by decide +kernel
theorem dX12_init_873 : decode cX12_init 873 = .ok (.aload_n 0, 1) := by decide +kernel
theorem dX12_init_874 : decode cX12_init 874 = .ok (.sipush 3600, 3) := by decide +kernel
theorem dX12_init_877 : decode cX12_init 877 = .ok (.newarray .int, 2) := by decide +kernel
theorem dX12_init_879 : decode cX12_init 879 = .ok (.putfield 128, 3) := by decide +kernel
theorem dX12_init_882 : decode cX12_init 882 = .ok (.aload_n 0, 1) := by decide +kernel
theorem dX12_init_883 : decode cX12_init 883 = .ok (.iconst 4, 1) := by decide +kernel
theorem dX12_init_884 : decode cX12_init 884 = .ok (.newarray .int, 2) := by decide +kernel
theorem dX12_init_886 : decode cX12_init 886 = .ok (.putfield 131, 3) := by decide +kernel
theorem dX12_init_889 : decode cX12_init 889 = .ok (.aload_n 0, 1) := by decide +kernel
theorem dX12_init_890 : decode cX12_init 890 = .ok (.iconst (-1), 1) := by decide +kernel
theorem dX12_init_891 : decode cX12_init 891 = .ok (.putfield 134, 3) := by decide +kernel
theorem dX12_init_894 : decode cX12_init 894 = .ok (.aload_n 0, 1) := by decide +kernel
theorem dX12_init_895 : decode cX12_init 895 = .ok (.iconst 4, 1) := by decide +kernel
theorem dX12_init_896 : decode cX12_init 896 = .ok (.newarray .int, 2) := by decide +kernel
theorem dX12_init_898 : decode cX12_init 898 = .ok (.putfield 137, 3) := by decide +kernel
theorem dX12_init_901 : decode cX12_init 901 = .ok (.aload_n 0, 1) := by decide +kernel
theorem dX12_init_902 : decode cX12_init 902 = .ok (.bipush 6, 2) := by decide +kernel
theorem dX12_init_904 : decode cX12_init 904 = .ok (.newarray .int, 2) := by decide +kernel
theorem dX12_init_906 : decode cX12_init 906 = .ok (.putfield 140, 3) := by decide +kernel
theorem dX12_init_909 : decode cX12_init 909 = .ok (.aload_n 0, 1) := by decide +kernel
theorem dX12_init_910 : decode cX12_init 910 = .ok (.bipush 6, 2) := by decide +kernel
theorem dX12_init_912 : decode cX12_init 912 = .ok (.newarray .int, 2) := by decide +kernel
theorem dX12_init_914 : decode cX12_init 914 = .ok (.putfield 143, 3) := by decide +kernel
theorem dX12_init_917 : decode cX12_init 917 = .ok (.aload_n 0, 1) := by decide +kernel
theorem dX12_init_918 : decode cX12_init 918 = .ok (.bipush 6, 2) := by decide +kernel
theorem dX12_init_920 : decode cX12_init 920 = .ok (.newarray .int, 2) := by decide +kernel
theorem dX12_init_922 : decode cX12_init 922 = .ok (.putfield 146, 3) := by decide +kernel
theorem dX12_init_925 : decode cX12_init 925 = .ok (.aload_n 0, 1) := by decide +kernel
theorem dX12_init_926 : decode cX12_init 926 = .ok (.sipush 1681, 3) := by decide +kernel
theorem dX12_init_929 : decode cX12_init 929 = .ok (.newarray .int, 2) := by decide +kernel
theorem dX12_init_931 : decode cX12_init 931 = .ok (.putfield 149, 3) := by decide +kernel
theorem dX12_init_934 : decode cX12_init 934 = .ok (.aload_n 0, 1) := by decide +kernel
theorem dX12_init_935 : decode cX12_init 935 = .ok (.sipush 200, 3) := by decide +kernel
theorem dX12_init_938 : decode cX12_init 938 = .ok (.newarray .int, 2) := by decide +kernel
theorem dX12_init_940 : decode cX12_init 940 = .ok (.putfield 152, 3) := by decide +kernel
theorem dX12_init_943 : decode cX12_init 943 = .ok (.aload_n 0, 1) := by decide +kernel
theorem dX12_init_944 : decode cX12_init 944 = .ok (.sipush 200, 3) := by decide +kernel
theorem dX12_init_947 : decode cX12_init 947 = .ok (.newarray .int, 2) := by decide +kernel
theorem dX12_init_949 : decode cX12_init 949 = .ok (.putfield 155, 3) := by decide +kernel
theorem dX12_init_952 : decode cX12_init 952 = .ok (.aload_n 0, 1) := by decide +kernel
theorem dX12_init_953 : decode cX12_init 953 = .ok (.sipush 200, 3) := by decide +kernel
theorem dX12_init_956 : decode cX12_init 956 = .ok (.newarray .boolean, 2) := by decide +kernel
theorem dX12_init_958 : decode cX12_init 958 = .ok (.putfield 158, 3) := by decide +kernel
theorem dX12_init_961 : decode cX12_init 961 = .ok (.aload_n 0, 1) := by decide +kernel
theorem dX12_init_962 : decode cX12_init 962 = .ok (.sipush 200, 3) := by decide +kernel
theorem dX12_init_965 : decode cX12_init 965 = .ok (.newarray .int, 2) := by decide +kernel
theorem dX12_init_967 : decode cX12_init 967 = .ok (.putfield 161, 3) := by decide +kernel
theorem dX12_init_970 : decode cX12_init 970 = .ok (.aload_n 0, 1) := by decide +kernel
theorem dX12_init_971 : decode cX12_init 971 = .ok (.sipush 400, 3) := by decide +kernel
theorem dX12_init_974 : decode cX12_init 974 = .ok (.newarray .int, 2) := by decide +kernel
theorem dX12_init_976 : decode cX12_init 976 = .ok (.putfield 164, 3) := by decide +kernel
theorem dX12_init_979 : decode cX12_init 979 = .ok (.return_, 1) := by decide +kernel
theorem dX12_isIn_0 : decode cX12_isIn 0 = .ok (.iload_n 1, 1) := by decide +kernel
theorem dX12_isIn_1 : decode cX12_isIn 1 = .ok (.iload_n 2, 1) := by decide +kernel
theorem dX12_isIn_2 : decode cX12_isIn 2 = .ok (.if_icmp .lt 12, 3) := by decide +kernel
theorem dX12_isIn_5 : decode cX12_isIn 5 = .ok (.iload_n 1, 1) := by decide +kernel
theorem dX12_isIn_6 : decode cX12_isIn 6 = .ok (.iload_n 3, 1) := by decide +kernel
theorem dX12_isIn_7 : decode cX12_isIn 7 = .ok (.if_icmp .gt 7, 3) := by decide +kernel
theorem dX12_isIn_10 : decode cX12_isIn 10 = .ok (.iconst 1, 1) := by decide +kernel
theorem dX12_isIn_11 : decode cX12_isIn 11 = .ok (.goto 4, 3) := by decide +kernel
theorem dX12_isIn_14 : decode cX12_isIn 14 = .ok (.iconst 0, 1) := by decide +kernel
theorem dX12_isIn_15 : decode cX12_isIn 15 = .ok (.ireturn, 1) := by decide +kernel
theorem dX12_stuff_0 : decode cX12_stuff 0 = .ok (.aload_n 0, 1) := by decide +kernel
theorem dX12_stuff_1 : decode cX12_stuff 1 = .ok (.iconst 0, 1) := by decide +kernel
theorem dX12_stuff_2 : decode cX12_stuff 2 = .ok (.putfield 167, 3) := by decide +kernel
theorem dX12_stuff_5 : decode cX12_stuff 5 = .ok (.aload_n 0, 1) := by decide +kernel
theorem dX12_stuff_6 : decode cX12_stuff 6 = .ok (.iload_n 1, 1) := by decide +kernel
theorem dX12_stuff_7 : decode cX12_stuff 7 = .ok (.iconst 0, 1) := by decide +kernel
theorem dX12_stuff_8 : decode cX12_stuff 8 = .ok (.iconst 3, 1) := by decide +kernel
theorem dX12_stuff_9 : decode cX12_stuff 9 = .ok (.invokevirtual 170, 3) := by decide +kernel
theorem dX12_stuff_12 : decode cX12_stuff 12 = .ok (.ifCond .eq 51, 3) := by decide +kernel
theorem dX12_stuff_15 : decode cX12_stuff 15 = .ok (.aload_n 0, 1) := by decide +kernel
theorem dX12_stuff_16 : decode cX12_stuff 16 = .ok (.iload_n 2, 1) := by decide +kernel
theorem dX12_stuff_17 : decode cX12_stuff 17 = .ok (.iconst 1, 1) := by decide +kernel
theorem dX12_stuff_18 : decode cX12_stuff 18 = .ok (.sipush 999, 3) := by decide +kernel
theorem dX12_stuff_21 : decode cX12_stuff 21 = .ok (.invokevirtual 170, 3) := by decide +kernel
theorem dX12_stuff_24 : decode cX12_stuff 24 = .ok (.ifCond .eq 39, 3) := by decide +kernel
theorem dX12_stuff_27 : decode cX12_stuff 27 = .ok (.aload_n 0, 1) := by decide +kernel
theorem dX12_stuff_28 : decode cX12_stuff 28 = .ok (.iload_n 3, 1) := by decide +kernel
theorem dX12_stuff_29 : decode cX12_stuff 29 = .ok (.iconst 0, 1) := by decide +kernel
theorem dX12_stuff_30 : decode cX12_stuff 30 = .ok (.bipush 20, 2) := by decide +kernel
theorem dX12_stuff_32 : decode cX12_stuff 32 = .ok (.invokevirtual 170, 3) := by decide +kernel
theorem dX12_stuff_35 : decode cX12_stuff 35 = .ok (.ifCond .eq 28, 3) := by decide +kernel
theorem dX12_stuff_38 : decode cX12_stuff 38 = .ok (.aload_n 0, 1) := by decide +kernel
theorem dX12_stuff_39 : decode cX12_stuff 39 = .ok (.iload 4, 2) := by decide +kernel
theorem dX12_stuff_41 : decode cX12_stuff 41 = .ok (.iconst 0, 1) := by decide +kernel
theorem dX12_stuff_42 : decode cX12_stuff 42 = .ok (.bipush 20, 2) := by decide +kernel
theorem dX12_stuff_44 : decode cX12_stuff 44 = .ok (.invokevirtual 170, 3) := by decide +kernel
theorem dX12_stuff_47 : decode cX12_stuff 47 = .ok (.ifCond .eq 16, 3) := by decide +kernel
theorem dX12_stuff_50 : decode cX12_stuff 50 = .ok (.aload_n 0, 1) := by decide +kernel
theorem dX12_stuff_51 : decode cX12_stuff 51 = .ok (.iload 5, 2) := by decide +kernel
theorem dX12_stuff_53 : decode cX12_stuff 53 = .ok (.iconst 1, 1) := by decide +kernel
theorem dX12_stuff_54 : decode cX12_stuff 54 = .ok (.sipush 9999, 3) := by decide +kernel
theorem dX12_stuff_57 : decode cX12_stuff 57 = .ok (.invokevirtual 170, 3) := by decide +kernel
theorem dX12_stuff_60 : decode cX12_stuff 60 = .ok (.ifCond .ne 5, 3) := by decide +kernel
theorem dX12_stuff_63 : decode cX12_stuff 63 = .ok (.iconst 0, 1) := by decide +kernel
theorem dX12_stuff_64 : decode cX12_stuff 64 = .ok (.ireturn, 1) := by decide +kernel
theorem dX12_stuff_65 : decode cX12_stuff 65 = .ok (.aload_n 0, 1) := by decide +kernel
theorem dX12_stuff_66 : decode cX12_stuff 66 = .ok (.getfield 7, 3) := by decide +kernel
theorem dX12_stuff_69 : decode cX12_stuff 69 = .ok (.iload_n 1, 1) := by decide +kernel
theorem dX12_stuff_70 : decode cX12_stuff 70 = .ok (.iload_n 2, 1) := by decide +kernel
theorem dX12_stuff_71 : decode cX12_stuff 71 = .ok (.iastore, 1) := by decide +kernel
theorem dX12_stuff_72 : decode cX12_stuff 72 = .ok (.aload_n 0, 1) := by decide +kernel
theorem dX12_stuff_73 : decode cX12_stuff 73 = .ok (.getfield 13, 3) := by decide +kernel
theorem dX12_stuff_76 : decode cX12_stuff 76 = .ok (.iload_n 1, 1) := by decide +kernel
theorem dX12_stuff_77 : decode cX12_stuff 77 = .ok (.iload_n 3, 1) := by decide +kernel
theorem dX12_stuff_78 : decode cX12_stuff 78 = .ok (.iastore, 1) := by decide +kernel
theorem dX12_stuff_79 : decode cX12_stuff 79 = .ok (.aload_n 0, 1) := by decide +kernel
theorem dX12_stuff_80 : decode cX12_stuff 80 = .ok (.getfield 16, 3) := by decide +kernel
theorem dX12_stuff_83 : decode cX12_stuff 83 = .ok (.iload_n 1, 1) := by decide +kernel
theorem dX12_stuff_84 : decode cX12_stuff 84 = .ok (.iload 4, 2) := by decide +kernel
theorem dX12_stuff_86 : decode cX12_stuff 86 = .ok (.iastore, 1) := by decide +kernel
theorem dX12_stuff_87 : decode cX12_stuff 87 = .ok (.aload_n 0, 1) := by decide +kernel
theorem dX12_stuff_88 : decode cX12_stuff 88 = .ok (.getfield 19, 3) := by decide +kernel
theorem dX12_stuff_91 : decode cX12_stuff 91 = .ok (.iload_n 1, 1) := by decide +kernel
theorem dX12_stuff_92 : decode cX12_stuff 92 = .ok (.iload 5, 2) := by decide +kernel
theorem dX12_stuff_94 : decode cX12_stuff 94 = .ok (.iastore, 1) := by decide +kernel
theorem dX12_stuff_95 : decode cX12_stuff 95 = .ok (.iconst 1, 1) := by decide +kernel
theorem dX12_stuff_96 : decode cX12_stuff 96 = .ok (.ireturn, 1) := by decide +kernel
theorem dX12_plate_0 : decode cX12_plate 0 = .ok (.aload_n 0, 1) := by decide +kernel
theorem dX12_plate_1 : decode cX12_plate 1 = .ok (.iconst 0, 1) := by decide +kernel
theorem dX12_plate_2 : decode cX12_plate 2 = .ok (.putfield 167, 3) := by decide +kernel
theorem dX12_plate_5 : decode cX12_plate 5 = .ok (.aload_n 0, 1) := by decide +kernel
theorem dX12_plate_6 : decode cX12_plate 6 = .ok (.iload_n 1, 1) := by decide +kernel
theorem dX12_plate_7 : decode cX12_plate 7 = .ok (.iconst 1, 1) := by decide +kernel
theorem dX12_plate_8 : decode cX12_plate 8 = .ok (.bipush 16, 2) := by decide +kernel
theorem dX12_plate_10 : decode cX12_plate 10 = .ok (.invokevirtual 170, 3) := by decide +kernel
theorem dX12_plate_13 : decode cX12_plate 13 = .ok (.ifCond .eq 36, 3) := by decide +kernel
theorem dX12_plate_16 : decode cX12_plate 16 = .ok (.aload_n 0, 1) := by decide +kernel
theorem dX12_plate_17 : decode cX12_plate 17 = .ok (.iload_n 2, 1) := by decide +kernel
theorem dX12_plate_18 : decode cX12_plate 18 = .ok (.iconst 1, 1) := by decide +kernel
theorem dX12_plate_19 : decode cX12_plate 19 = .ok (.bipush 12, 2) := by decide +kernel
theorem dX12_plate_21 : decode cX12_plate 21 = .ok (.invokevirtual 170, 3) := by decide +kernel
theorem dX12_plate_24 : decode cX12_plate 24 = .ok (.ifCond .eq 25, 3) := by decide +kernel
theorem dX12_plate_27 : decode cX12_plate 27 = .ok (.aload_n 0, 1) := by decide +kernel
theorem dX12_plate_28 : decode cX12_plate 28 = .ok (.iload_n 3, 1) := by decide +kernel
theorem dX12_plate_29 : decode cX12_plate 29 = .ok (.iconst 0, 1) := by decide +kernel
theorem dX12_plate_30 : decode cX12_plate 30 = .ok (.iconst 3, 1) := by decide +kernel
theorem dX12_plate_31 : decode cX12_plate 31 = .ok (.invokevirtual 170, 3) := by decide +kernel
theorem dX12_plate_34 : decode cX12_plate 34 = .ok (.ifCond .eq 15, 3) := by decide +kernel
theorem dX12_plate_37 : decode cX12_plate 37 = .ok (.aload_n 0, 1) := by decide +kernel
theorem dX12_plate_38 : decode cX12_plate 38 = .ok (.iload 4, 2) := by decide +kernel
theorem dX12_plate_40 : decode cX12_plate 40 = .ok (.iconst 1, 1) := by decide +kernel
theorem dX12_plate_41 : decode cX12_plate 41 = .ok (.bipush 9, 2) := by decide +kernel
theorem dX12_plate_43 : decode cX12_plate 43 = .ok (.invokevirtual 170, 3) := by decide +kernel
theorem dX12_plate_46 : decode cX12_plate 46 = .ok (.ifCond .ne 5, 3) := by decide +kernel
theorem dX12_plate_49 : decode cX12_plate 49 = .ok (.iconst 0, 1) := by decide +kernel
theorem dX12_plate_50 : decode cX12_plate 50 = .ok (.ireturn, 1) := by decide +kernel
theorem dX12_plate_51 : decode cX12_plate 51 = .ok (.aload_n 0, 1) := by decide +kernel
theorem dX12_plate_52 : decode cX12_plate 52 = .ok (.iconst 1, 1) := by decide +kernel
theorem dX12_plate_53 : decode cX12_plate 53 = .ok (.putfield 174, 3) := by decide +kernel
theorem dX12_plate_56 : decode cX12_plate 56 = .ok (.aload_n 0, 1) := by decide +kernel
theorem dX12_plate_57 : decode cX12_plate 57 = .ok (.iload_n 1, 1) := by decide +kernel
theorem dX12_plate_58 : decode cX12_plate 58 = .ok (.putfield 177, 3) := by decide +kernel
theorem dX12_plate_61 : decode cX12_plate 61 = .ok (.aload_n 0, 1) := by decide +kernel
theorem dX12_plate_62 : decode cX12_plate 62 = .ok (.iload_n 2, 1) := by decide +kernel
theorem dX12_plate_63 : decode cX12_plate 63 = .ok (.putfield 180, 3) := by decide +kernel
theorem dX12_plate_66 : decode cX12_plate 66 = .ok (.aload_n 0, 1) := by decide +kernel
theorem dX12_plate_67 : decode cX12_plate 67 = .ok (.iload_n 3, 1) := by decide +kernel
theorem dX12_plate_68 : decode cX12_plate 68 = .ok (.putfield 183, 3) := by decide +kernel
theorem dX12_plate_71 : decode cX12_plate 71 = .ok (.aload_n 0, 1) := by decide +kernel
theorem dX12_plate_72 : decode cX12_plate 72 = .ok (.iload 4, 2) := by decide +kernel
theorem dX12_plate_74 : decode cX12_plate 74 = .ok (.putfield 186, 3) := by decide +kernel
theorem dX12_plate_77 : decode cX12_plate 77 = .ok (.iconst 0, 1) := by decide +kernel
theorem dX12_plate_78 : decode cX12_plate 78 = .ok (.istore 5, 2) := by decide +kernel
theorem dX12_plate_80 : decode cX12_plate 80 = .ok (.iload 5, 2) := by decide +kernel
theorem dX12_plate_82 : decode cX12_plate 82 = .ok (.sipush 192, 3) := by decide +kernel
theorem dX12_plate_85 : decode cX12_plate 85 = .ok (.if_icmp .ge 41, 3) := by decide +kernel
theorem dX12_plate_88 : decode cX12_plate 88 = .ok (.aload_n 0, 1) := by decide +kernel
theorem dX12_plate_89 : decode cX12_plate 89 = .ok (.getfield 33, 3) := by decide +kernel
theorem dX12_plate_92 : decode cX12_plate 92 = .ok (.iload 5, 2) := by decide +kernel
theorem dX12_plate_94 : decode cX12_plate 94 = .ok (.iconst 0, 1) := by decide +kernel
theorem dX12_plate_95 : decode cX12_plate 95 = .ok (.iastore, 1) := by decide +kernel
theorem dX12_plate_96 : decode cX12_plate 96 = .ok (.aload_n 0, 1) := by decide +kernel
theorem dX12_plate_97 : decode cX12_plate 97 = .ok (.getfield 39, 3) := by decide +kernel
theorem dX12_plate_100 : decode cX12_plate 100 = .ok (.iload 5, 2) := by decide +kernel
theorem dX12_plate_102 : decode cX12_plate 102 = .ok (.iconst 0, 1) := by decide +kernel
theorem dX12_plate_103 : decode cX12_plate 103 = .ok (.iastore, 1) := by decide +kernel
theorem dX12_plate_104 : decode cX12_plate 104 = .ok (.aload_n 0, 1) := by decide +kernel
theorem dX12_plate_105 : decode cX12_plate 105 = .ok (.getfield 42, 3) := by decide +kernel
theorem dX12_plate_108 : decode cX12_plate 108 = .ok (.iload 5, 2) := by decide +kernel
theorem dX12_plate_110 : decode cX12_plate 110 = .ok (.iconst 0, 1) := by decide +kernel
theorem dX12_plate_111 : decode cX12_plate 111 = .ok (.bastore, 1) := by decide +kernel
theorem dX12_plate_112 : decode cX12_plate 112 = .ok (.aload_n 0, 1) := by decide +kernel
theorem dX12_plate_113 : decode cX12_plate 113 = .ok (.getfield 46, 3) := by decide +kernel
theorem dX12_plate_116 : decode cX12_plate 116 = .ok (.iload 5, 2) := by decide +kernel
theorem dX12_plate_118 : decode cX12_plate 118 = .ok (.iconst 0, 1) := by decide +kernel
theorem dX12_plate_119 : decode cX12_plate 119 = .ok (.bastore, 1) := by decide +kernel
theorem dX12_plate_120 : decode cX12_plate 120 = .ok (.iinc 5 1, 3) := by decide +kernel
theorem dX12_plate_123 : decode cX12_plate 123 = .ok (.goto (-43), 3) := by decide +kernel
theorem dX12_plate_126 : decode cX12_plate 126 = .ok (.aload_n 0, 1) := by decide +kernel
theorem dX12_plate_127 : decode cX12_plate 127 = .ok (.getfield 49, 3) := by decide +kernel
theorem dX12_plate_130 : decode cX12_plate 130 = .ok (.iconst 0, 1) := by decide +kernel
theorem dX12_plate_131 : decode cX12_plate 131 = .ok (.iconst 0, 1) := by decide +kernel
theorem dX12_plate_132 : decode cX12_plate 132 = .ok (.iastore, 1) := by decide +kernel
theorem dX12_plate_133 : decode cX12_plate 133 = .ok (.aload_n 0, 1) := by decide +kernel
theorem dX12_plate_134 : decode cX12_plate 134 = .ok (.getfield 52, 3) := by decide +kernel
theorem dX12_plate_137 : decode cX12_plate 137 = .ok (.iconst 0, 1) := by decide +kernel
theorem dX12_plate_138 : decode cX12_plate 138 = .ok (.iconst 0, 1) := by decide +kernel
theorem dX12_plate_139 : decode cX12_plate 139 = .ok (.iastore, 1) := by decide +kernel
theorem dX12_plate_140 : decode cX12_plate 140 = .ok (.aload_n 0, 1) := by decide +kernel
theorem dX12_plate_141 : decode cX12_plate 141 = .ok (.getfield 55, 3) := by decide +kernel
theorem dX12_plate_144 : decode cX12_plate 144 = .ok (.iconst 0, 1) := by decide +kernel
theorem dX12_plate_145 : decode cX12_plate 145 = .ok (.iconst 0, 1) := by decide +kernel
theorem dX12_plate_146 : decode cX12_plate 146 = .ok (.bastore, 1) := by decide +kernel
theorem dX12_plate_147 : decode cX12_plate 147 = .ok (.aload_n 0, 1) := by decide +kernel
theorem dX12_plate_148 : decode cX12_plate 148 = .ok (.getfield 58, 3) := by decide +kernel
theorem dX12_plate_151 : decode cX12_plate 151 = .ok (.iconst 0, 1) := by decide +kernel
theorem dX12_plate_152 : decode cX12_plate 152 = .ok (.iconst 5, 1) := by decide +kernel
theorem dX12_plate_153 : decode cX12_plate 153 = .ok (.iastore, 1) := by decide +kernel
theorem dX12_plate_154 : decode cX12_plate 154 = .ok (.aload_n 0, 1) := by decide +kernel
theorem dX12_plate_155 : decode cX12_plate 155 = .ok (.getfield 61, 3) := by decide +kernel
theorem dX12_plate_158 : decode cX12_plate 158 = .ok (.iconst 0, 1) := by decide +kernel
theorem dX12_plate_159 : decode cX12_plate 159 = .ok (.iconst 0, 1) := by decide +kernel
theorem dX12_plate_160 : decode cX12_plate 160 = .ok (.iastore, 1) := by decide +kernel
theorem dX12_plate_161 : decode cX12_plate 161 = .ok (.aload_n 0, 1) := by decide +kernel
theorem dX12_plate_162 : decode cX12_plate 162 = .ok (.getfield 64, 3) := by decide +kernel
theorem dX12_plate_165 : decode cX12_plate 165 = .ok (.iconst 0, 1) := by decide +kernel
theorem dX12_plate_166 : decode cX12_plate 166 = .ok (.iconst 0, 1) := by decide +kernel
theorem dX12_plate_167 : decode cX12_plate 167 = .ok (.iastore, 1) := by decide +kernel
theorem dX12_plate_168 : decode cX12_plate 168 = .ok (.aload_n 0, 1) := by decide +kernel
theorem dX12_plate_169 : decode cX12_plate 169 = .ok (.getfield 67, 3) := by decide +kernel
theorem dX12_plate_172 : decode cX12_plate 172 = .ok (.iconst 0, 1) := by decide +kernel
theorem dX12_plate_173 : decode cX12_plate 173 = .ok (.iconst 0, 1) := by decide +kernel
theorem dX12_plate_174 : decode cX12_plate 174 = .ok (.iastore, 1) := by decide +kernel
theorem dX12_plate_175 : decode cX12_plate 175 = .ok (.aload_n 0, 1) := by decide +kernel
theorem dX12_plate_176 : decode cX12_plate 176 = .ok (.getfield 70, 3) := by decide +kernel
theorem dX12_plate_179 : decode cX12_plate 179 = .ok (.iconst 0, 1) := by decide +kernel
theorem dX12_plate_180 : decode cX12_plate 180 = .ok (.lconst 0, 1) := by decide +kernel
theorem dX12_plate_181 : decode cX12_plate 181 = .ok (.lastore, 1) := by decide +kernel
theorem dX12_plate_182 : decode cX12_plate 182 = .ok (.aload_n 0, 1) := by decide +kernel
theorem dX12_plate_183 : decode cX12_plate 183 = .ok (.getfield 74, 3) := by decide +kernel
theorem dX12_plate_186 : decode cX12_plate 186 = .ok (.iconst 0, 1) := by decide +kernel
theorem dX12_plate_187 : decode cX12_plate 187 = .ok (.lconst 0, 1) := by decide +kernel
theorem dX12_plate_188 : decode cX12_plate 188 = .ok (.lastore, 1) := by decide +kernel
theorem dX12_plate_189 : decode cX12_plate 189 = .ok (.aload_n 0, 1) := by decide +kernel
theorem dX12_plate_190 : decode cX12_plate 190 = .ok (.getfield 77, 3) := by decide +kernel
theorem dX12_plate_193 : decode cX12_plate 193 = .ok (.iconst 0, 1) := by decide +kernel
theorem dX12_plate_194 : decode cX12_plate 194 = .ok (.lconst 0, 1) := by decide +kernel
theorem dX12_plate_195 : decode cX12_plate 195 = .ok (.lastore, 1) := by decide +kernel
theorem dX12_plate_196 : decode cX12_plate 196 = .ok (.iconst 1, 1) := by decide +kernel
theorem dX12_plate_197 : decode cX12_plate 197 = .ok (.ireturn, 1) := by decide +kernel
theorem dX12_beam_0 : decode cX12_beam 0 = .ok (.aload_n 0, 1) := by decide +kernel
theorem dX12_beam_1 : decode cX12_beam 1 = .ok (.iconst 0, 1) := by decide +kernel
theorem dX12_beam_2 : decode cX12_beam 2 = .ok (.putfield 167, 3) := by decide +kernel
theorem dX12_beam_5 : decode cX12_beam 5 = .ok (.aload_n 0, 1) := by decide +kernel
theorem dX12_beam_6 : decode cX12_beam 6 = .ok (.iload_n 1, 1) := by decide +kernel
theorem dX12_beam_7 : decode cX12_beam 7 = .ok (.iconst 0, 1) := by decide +kernel
theorem dX12_beam_8 : decode cX12_beam 8 = .ok (.sipush 9999, 3) := by decide +kernel
theorem dX12_beam_11 : decode cX12_beam 11 = .ok (.invokevirtual 170, 3) := by decide +kernel
theorem dX12_beam_14 : decode cX12_beam 14 = .ok (.ifCond .ne 5, 3) := by decide +kernel
theorem dX12_beam_17 : decode cX12_beam 17 = .ok (.iconst 0, 1) := by decide +kernel
theorem dX12_beam_18 : decode cX12_beam 18 = .ok (.ireturn, 1) := by decide +kernel
theorem dX12_beam_19 : decode cX12_beam 19 = .ok (.aload_n 0, 1) := by decide +kernel
theorem dX12_beam_20 : decode cX12_beam 20 = .ok (.iload_n 1, 1) := by decide +kernel
theorem dX12_beam_21 : decode cX12_beam 21 = .ok (.putfield 22, 3) := by decide +kernel
theorem dX12_beam_24 : decode cX12_beam 24 = .ok (.aload_n 0, 1) := by decide +kernel
theorem dX12_beam_25 : decode cX12_beam 25 = .ok (.iload_n 2, 1) := by decide +kernel
theorem dX12_beam_26 : decode cX12_beam 26 = .ok (.putfield 26, 3) := by decide +kernel
theorem dX12_beam_29 : decode cX12_beam 29 = .ok (.iconst 1, 1) := by decide +kernel
theorem dX12_beam_30 : decode cX12_beam 30 = .ok (.ireturn, 1) := by decide +kernel
theorem dX12_pitch_0 : decode cX12_pitch 0 = .ok (.aload_n 0, 1) := by decide +kernel
theorem dX12_pitch_1 : decode cX12_pitch 1 = .ok (.iconst 0, 1) := by decide +kernel
theorem dX12_pitch_2 : decode cX12_pitch 2 = .ok (.putfield 167, 3) := by decide +kernel
theorem dX12_pitch_5 : decode cX12_pitch 5 = .ok (.aload_n 0, 1) := by decide +kernel
theorem dX12_pitch_6 : decode cX12_pitch 6 = .ok (.iload_n 1, 1) := by decide +kernel
theorem dX12_pitch_7 : decode cX12_pitch 7 = .ok (.iconst 2, 1) := by decide +kernel
theorem dX12_pitch_8 : decode cX12_pitch 8 = .ok (.bipush 9, 2) := by decide +kernel
theorem dX12_pitch_10 : decode cX12_pitch 10 = .ok (.invokevirtual 170, 3) := by decide +kernel
theorem dX12_pitch_13 : decode cX12_pitch 13 = .ok (.ifCond .ne 5, 3) := by decide +kernel
theorem dX12_pitch_16 : decode cX12_pitch 16 = .ok (.iconst 0, 1) := by decide +kernel
theorem dX12_pitch_17 : decode cX12_pitch 17 = .ok (.ireturn, 1) := by decide +kernel
theorem dX12_pitch_18 : decode cX12_pitch 18 = .ok (.aload_n 0, 1) := by decide +kernel
theorem dX12_pitch_19 : decode cX12_pitch 19 = .ok (.iload_n 1, 1) := by decide +kernel
theorem dX12_pitch_20 : decode cX12_pitch 20 = .ok (.putfield 30, 3) := by decide +kernel
theorem dX12_pitch_23 : decode cX12_pitch 23 = .ok (.iconst 1, 1) := by decide +kernel
theorem dX12_pitch_24 : decode cX12_pitch 24 = .ok (.ireturn, 1) := by decide +kernel
theorem dX12_isOnPlate_0 : decode cX12_isOnPlate 0 = .ok (.iload_n 1, 1) := by decide +kernel
theorem dX12_isOnPlate_1 : decode cX12_isOnPlate 1 = .ok (.ifCond .lt 27, 3) := by decide +kernel
theorem dX12_isOnPlate_4 : decode cX12_isOnPlate 4 = .ok (.iload_n 1, 1) := by decide +kernel
theorem dX12_isOnPlate_5 : decode cX12_isOnPlate 5 = .ok (.aload_n 0, 1) := by decide +kernel
theorem dX12_isOnPlate_6 : decode cX12_isOnPlate 6 = .ok (.getfield 177, 3) := by decide +kernel
theorem dX12_isOnPlate_9 : decode cX12_isOnPlate 9 = .ok (.if_icmp .ge 19, 3) := by decide +kernel
theorem dX12_isOnPlate_12 : decode cX12_isOnPlate 12 = .ok (.iload_n 2, 1) := by decide +kernel
theorem dX12_isOnPlate_13 : decode cX12_isOnPlate 13 = .ok (.ifCond .lt 15, 3) := by decide +kernel
theorem dX12_isOnPlate_16 : decode cX12_isOnPlate 16 = .ok (.iload_n 2, 1) := by decide +kernel
theorem dX12_isOnPlate_17 : decode cX12_isOnPlate 17 = .ok (.aload_n 0, 1) := by decide +kernel
theorem dX12_isOnPlate_18 : decode cX12_isOnPlate 18 = .ok (.getfield 180, 3) := by decide +kernel
theorem dX12_isOnPlate_21 : decode cX12_isOnPlate 21 = .ok (.if_icmp .ge 7, 3) := by decide +kernel
theorem dX12_isOnPlate_24 : decode cX12_isOnPlate 24 = .ok (.iconst 1, 1) := by decide +kernel
theorem dX12_isOnPlate_25 : decode cX12_isOnPlate 25 = .ok (.goto 4, 3) := by decide +kernel
theorem dX12_isOnPlate_28 : decode cX12_isOnPlate 28 = .ok (.iconst 0, 1) := by decide +kernel
theorem dX12_isOnPlate_29 : decode cX12_isOnPlate 29 = .ok (.ireturn, 1) := by decide +kernel
theorem dX12_puts_0 : decode cX12_puts 0 = .ok (.bipush 24, 2) := by decide +kernel
theorem dX12_puts_2 : decode cX12_puts 2 = .ok (.istore_n 2, 1) := by decide +kernel
theorem dX12_puts_3 : decode cX12_puts 3 = .ok (.iload_n 2, 1) := by decide +kernel
theorem dX12_puts_4 : decode cX12_puts 4 = .ok (.ifCond .lt 35, 3) := by decide +kernel
theorem dX12_puts_7 : decode cX12_puts 7 = .ok (.aload_n 0, 1) := by decide +kernel
theorem dX12_puts_8 : decode cX12_puts 8 = .ok (.getfield 95, 3) := by decide +kernel
theorem dX12_puts_11 : decode cX12_puts 11 = .ok (.aload_n 0, 1) := by decide +kernel
theorem dX12_puts_12 : decode cX12_puts 12 = .ok (.getfield 239, 3) := by decide +kernel
theorem dX12_puts_15 : decode cX12_puts 15 = .ok (.iload_n 1, 1) := by decide +kernel
theorem dX12_puts_16 : decode cX12_puts 16 = .ok (.iload_n 2, 1) := by decide +kernel
theorem dX12_puts_17 : decode cX12_puts 17 = .ok (.ishr, 1) := by decide +kernel
theorem dX12_puts_18 : decode cX12_puts 18 = .ok (.sipush 255, 3) := by decide +kernel
theorem dX12_puts_21 : decode cX12_puts 21 = .ok (.iand, 1) := by decide +kernel
theorem dX12_puts_22 : decode cX12_puts 22 = .ok (.iastore, 1) := by decide +kernel
theorem dX12_puts_23 : decode cX12_puts 23 = .ok (.aload_n 0, 1) := by decide +kernel
theorem dX12_puts_24 : decode cX12_puts 24 = .ok (.aload_n 0, 1) := by decide +kernel
theorem dX12_puts_25 : decode cX12_puts 25 = .ok (.getfield 239, 3) := by decide +kernel
theorem dX12_puts_28 : decode cX12_puts 28 = .ok (.iconst 1, 1) := by decide +kernel
theorem dX12_puts_29 : decode cX12_puts 29 = .ok (.iadd, 1) := by decide +kernel
theorem dX12_puts_30 : decode cX12_puts 30 = .ok (.putfield 239, 3) := by decide +kernel
theorem dX12_puts_33 : decode cX12_puts 33 = .ok (.iinc 2 (-8), 3) := by decide +kernel
theorem dX12_puts_36 : decode cX12_puts 36 = .ok (.goto (-33), 3) := by decide +kernel
theorem dX12_puts_39 : decode cX12_puts 39 = .ok (.return_, 1) := by decide +kernel
theorem dX12_feed_0 : decode cX12_feed 0 = .ok (.aload_n 0, 1) := by decide +kernel
theorem dX12_feed_1 : decode cX12_feed 1 = .ok (.iconst 0, 1) := by decide +kernel
theorem dX12_feed_2 : decode cX12_feed 2 = .ok (.putfield 167, 3) := by decide +kernel
theorem dX12_feed_5 : decode cX12_feed 5 = .ok (.aload_n 0, 1) := by decide +kernel
theorem dX12_feed_6 : decode cX12_feed 6 = .ok (.getfield 239, 3) := by decide +kernel
theorem dX12_feed_9 : decode cX12_feed 9 = .ok (.sipush 380, 3) := by decide +kernel
theorem dX12_feed_12 : decode cX12_feed 12 = .ok (.if_icmp .le 5, 3) := by decide +kernel
theorem dX12_feed_15 : decode cX12_feed 15 = .ok (.iconst (-1), 1) := by decide +kernel
theorem dX12_feed_16 : decode cX12_feed 16 = .ok (.ireturn, 1) := by decide +kernel
theorem dX12_feed_17 : decode cX12_feed 17 = .ok (.aload_n 0, 1) := by decide +kernel
theorem dX12_feed_18 : decode cX12_feed 18 = .ok (.iload_n 1, 1) := by decide +kernel
theorem dX12_feed_19 : decode cX12_feed 19 = .ok (.invokevirtual 242, 3) := by decide +kernel
theorem dX12_feed_22 : decode cX12_feed 22 = .ok (.aload_n 0, 1) := by decide +kernel
theorem dX12_feed_23 : decode cX12_feed 23 = .ok (.iload_n 2, 1) := by decide +kernel
theorem dX12_feed_24 : decode cX12_feed 24 = .ok (.invokevirtual 242, 3) := by decide +kernel
theorem dX12_feed_27 : decode cX12_feed 27 = .ok (.aload_n 0, 1) := by decide +kernel
theorem dX12_feed_28 : decode cX12_feed 28 = .ok (.iload_n 3, 1) := by decide +kernel
theorem dX12_feed_29 : decode cX12_feed 29 = .ok (.invokevirtual 242, 3) := by decide +kernel
theorem dX12_feed_32 : decode cX12_feed 32 = .ok (.aload_n 0, 1) := by decide +kernel
theorem dX12_feed_33 : decode cX12_feed 33 = .ok (.iload 4, 2) := by decide +kernel
theorem dX12_feed_35 : decode cX12_feed 35 = .ok (.invokevirtual 242, 3) := by decide +kernel
theorem dX12_feed_38 : decode cX12_feed 38 = .ok (.aload_n 0, 1) := by decide +kernel
theorem dX12_feed_39 : decode cX12_feed 39 = .ok (.iload 5, 2) := by decide +kernel
theorem dX12_feed_41 : decode cX12_feed 41 = .ok (.invokevirtual 242, 3) := by decide +kernel
theorem dX12_feed_44 : decode cX12_feed 44 = .ok (.aload_n 0, 1) := by decide +kernel
theorem dX12_feed_45 : decode cX12_feed 45 = .ok (.getfield 239, 3) := by decide +kernel
theorem dX12_feed_48 : decode cX12_feed 48 = .ok (.ireturn, 1) := by decide +kernel
theorem dX12_end_0 : decode cX12_end 0 = .ok (.aload_n 0, 1) := by decide +kernel
theorem dX12_end_1 : decode cX12_end 1 = .ok (.iconst 0, 1) := by decide +kernel
theorem dX12_end_2 : decode cX12_end 2 = .ok (.putfield 167, 3) := by decide +kernel
theorem dX12_end_5 : decode cX12_end 5 = .ok (.aload_n 0, 1) := by decide +kernel
theorem dX12_end_6 : decode cX12_end 6 = .ok (.iload_n 1, 1) := by decide +kernel
theorem dX12_end_7 : decode cX12_end 7 = .ok (.iconst 0, 1) := by decide +kernel
theorem dX12_end_8 : decode cX12_end 8 = .ok (.aload_n 0, 1) := by decide +kernel
theorem dX12_end_9 : decode cX12_end 9 = .ok (.getfield 239, 3) := by decide +kernel
theorem dX12_end_12 : decode cX12_end 12 = .ok (.invokevirtual 170, 3) := by decide +kernel
theorem dX12_end_15 : decode cX12_end 15 = .ok (.ifCond .ne 5, 3) := by decide +kernel
theorem dX12_end_18 : decode cX12_end 18 = .ok (.iconst 0, 1) := by decide +kernel
theorem dX12_end_19 : decode cX12_end 19 = .ok (.ireturn, 1) := by decide +kernel
theorem dX12_end_20 : decode cX12_end 20 = .ok (.aload_n 0, 1) := by decide +kernel
theorem dX12_end_21 : decode cX12_end 21 = .ok (.iload_n 1, 1) := by decide +kernel
theorem dX12_end_22 : decode cX12_end 22 = .ok (.putfield 239, 3) := by decide +kernel
theorem dX12_end_25 : decode cX12_end 25 = .ok (.iconst 1, 1) := by decide +kernel
theorem dX12_end_26 : decode cX12_end 26 = .ok (.ireturn, 1) := by decide +kernel
theorem dX12_raw_0 : decode cX12_raw 0 = .ok (.iload_n 1, 1) := by decide +kernel
theorem dX12_raw_1 : decode cX12_raw 1 = .ok (.aload_n 0, 1) := by decide +kernel
theorem dX12_raw_2 : decode cX12_raw 2 = .ok (.getfield 239, 3) := by decide +kernel
theorem dX12_raw_5 : decode cX12_raw 5 = .ok (.if_icmp .ge 12, 3) := by decide +kernel
theorem dX12_raw_8 : decode cX12_raw 8 = .ok (.aload_n 0, 1) := by decide +kernel
theorem dX12_raw_9 : decode cX12_raw 9 = .ok (.getfield 95, 3) := by decide +kernel
theorem dX12_raw_12 : decode cX12_raw 12 = .ok (.iload_n 1, 1) := by decide +kernel
theorem dX12_raw_13 : decode cX12_raw 13 = .ok (.iaload, 1) := by decide +kernel
theorem dX12_raw_14 : decode cX12_raw 14 = .ok (.goto 4, 3) := by decide +kernel
theorem dX12_raw_17 : decode cX12_raw 17 = .ok (.iconst (-1), 1) := by decide +kernel
theorem dX12_raw_18 : decode cX12_raw 18 = .ok (.ireturn, 1) := by decide +kernel
theorem dX12_reads_0 : decode cX12_reads 0 = .ok (.aload_n 0, 1) := by decide +kernel
theorem dX12_reads_1 : decode cX12_reads 1 = .ok (.aload_n 0, 1) := by decide +kernel
theorem dX12_reads_2 : decode cX12_reads 2 = .ok (.getfield 245, 3) := by decide +kernel
theorem dX12_reads_5 : decode cX12_reads 5 = .ok (.invokevirtual 248, 3) := by decide +kernel
theorem dX12_reads_8 : decode cX12_reads 8 = .ok (.bipush 32, 2) := by decide +kernel
theorem dX12_reads_10 : decode cX12_reads 10 = .ok (.if_icmp .eq 16, 3) := by decide +kernel
theorem dX12_reads_13 : decode cX12_reads 13 = .ok (.aload_n 0, 1) := by decide +kernel
theorem dX12_reads_14 : decode cX12_reads 14 = .ok (.aload_n 0, 1) := by decide +kernel
theorem dX12_reads_15 : decode cX12_reads 15 = .ok (.getfield 245, 3) := by decide +kernel
theorem dX12_reads_18 : decode cX12_reads 18 = .ok (.invokevirtual 248, 3) := by decide +kernel
theorem dX12_reads_21 : decode cX12_reads 21 = .ok (.bipush 10, 2) := by decide +kernel
theorem dX12_reads_23 : decode cX12_reads 23 = .ok (.if_icmp .ne 16, 3) := by decide +kernel
theorem dX12_reads_26 : decode cX12_reads 26 = .ok (.aload_n 0, 1) := by decide +kernel
theorem dX12_reads_27 : decode cX12_reads 27 = .ok (.aload_n 0, 1) := by decide +kernel
theorem dX12_reads_28 : decode cX12_reads 28 = .ok (.getfield 245, 3) := by decide +kernel
theorem dX12_reads_31 : decode cX12_reads 31 = .ok (.iconst 1, 1) := by decide +kernel
theorem dX12_reads_32 : decode cX12_reads 32 = .ok (.iadd, 1) := by decide +kernel
theorem dX12_reads_33 : decode cX12_reads 33 = .ok (.putfield 245, 3) := by decide +kernel
theorem dX12_reads_36 : decode cX12_reads 36 = .ok (.goto (-36), 3) := by decide +kernel
theorem dX12_reads_39 : decode cX12_reads 39 = .ok (.aload_n 0, 1) := by decide +kernel
theorem dX12_reads_40 : decode cX12_reads 40 = .ok (.aload_n 0, 1) := by decide +kernel
theorem dX12_reads_41 : decode cX12_reads 41 = .ok (.getfield 245, 3) := by decide +kernel
theorem dX12_reads_44 : decode cX12_reads 44 = .ok (.putfield 251, 3) := by decide +kernel
theorem dX12_reads_47 : decode cX12_reads 47 = .ok (.aload_n 0, 1) := by decide +kernel
theorem dX12_reads_48 : decode cX12_reads 48 = .ok (.iconst 1, 1) := by decide +kernel
theorem dX12_reads_49 : decode cX12_reads 49 = .ok (.putfield 254, 3) := by decide +kernel
theorem dX12_reads_52 : decode cX12_reads 52 = .ok (.aload_n 0, 1) := by decide +kernel
theorem dX12_reads_53 : decode cX12_reads 53 = .ok (.aload_n 0, 1) := by decide +kernel
theorem dX12_reads_54 : decode cX12_reads 54 = .ok (.getfield 245, 3) := by decide +kernel
theorem dX12_reads_57 : decode cX12_reads 57 = .ok (.invokevirtual 248, 3) := by decide +kernel
theorem dX12_reads_60 : decode cX12_reads 60 = .ok (.istore_n 1, 1) := by decide +kernel
theorem dX12_reads_61 : decode cX12_reads 61 = .ok (.iload_n 1, 1) := by decide +kernel
theorem dX12_reads_62 : decode cX12_reads 62 = .ok (.iconst (-1), 1) := by decide +kernel
theorem dX12_reads_63 : decode cX12_reads 63 = .ok (.if_icmp .ne 9, 3) := by decide +kernel
theorem dX12_reads_66 : decode cX12_reads 66 = .ok (.aload_n 0, 1) := by decide +kernel
theorem dX12_reads_67 : decode cX12_reads 67 = .ok (.iconst 0, 1) := by decide +kernel
theorem dX12_reads_68 : decode cX12_reads 68 = .ok (.putfield 254, 3) := by decide +kernel
theorem dX12_reads_71 : decode cX12_reads 71 = .ok (.return_, 1) := by decide +kernel
theorem dX12_reads_72 : decode cX12_reads 72 = .ok (.aload_n 0, 1) := by decide +kernel
theorem dX12_reads_73 : decode cX12_reads 73 = .ok (.aload_n 0, 1) := by decide +kernel
theorem dX12_reads_74 : decode cX12_reads 74 = .ok (.getfield 245, 3) := by decide +kernel
theorem dX12_reads_77 : decode cX12_reads 77 = .ok (.iconst 1, 1) := by decide +kernel
theorem dX12_reads_78 : decode cX12_reads 78 = .ok (.iadd, 1) := by decide +kernel
theorem dX12_reads_79 : decode cX12_reads 79 = .ok (.putfield 245, 3) := by decide +kernel
theorem dX12_reads_82 : decode cX12_reads 82 = .ok (.aload_n 0, 1) := by decide +kernel
theorem dX12_reads_83 : decode cX12_reads 83 = .ok (.iload_n 1, 1) := by decide +kernel
theorem dX12_reads_84 : decode cX12_reads 84 = .ok (.putfield 257, 3) := by decide +kernel
theorem dX12_reads_87 : decode cX12_reads 87 = .ok (.aload_n 0, 1) := by decide +kernel
theorem dX12_reads_88 : decode cX12_reads 88 = .ok (.iload_n 1, 1) := by decide +kernel
theorem dX12_reads_89 : decode cX12_reads 89 = .ok (.invokevirtual 260, 3) := by decide +kernel
theorem dX12_reads_92 : decode cX12_reads 92 = .ok (.ifCond .eq 63, 3) := by decide +kernel
theorem dX12_reads_95 : decode cX12_reads 95 = .ok (.aload_n 0, 1) := by decide +kernel
theorem dX12_reads_96 : decode cX12_reads 96 = .ok (.aload_n 0, 1) := by decide +kernel
theorem dX12_reads_97 : decode cX12_reads 97 = .ok (.aload_n 0, 1) := by decide +kernel
theorem dX12_reads_98 : decode cX12_reads 98 = .ok (.getfield 245, 3) := by decide +kernel
theorem dX12_reads_101 : decode cX12_reads 101 = .ok (.invokevirtual 248, 3) := by decide +kernel
theorem dX12_reads_104 : decode cX12_reads 104 = .ok (.invokevirtual 260, 3) := by decide +kernel
theorem dX12_reads_107 : decode cX12_reads 107 = .ok (.ifCond .eq 16, 3) := by decide +kernel
theorem dX12_reads_110 : decode cX12_reads 110 = .ok (.aload_n 0, 1) := by decide +kernel
theorem dX12_reads_111 : decode cX12_reads 111 = .ok (.aload_n 0, 1) := by decide +kernel
theorem dX12_reads_112 : decode cX12_reads 112 = .ok (.getfield 245, 3) := by decide +kernel
theorem dX12_reads_115 : decode cX12_reads 115 = .ok (.iconst 1, 1) := by decide +kernel
theorem dX12_reads_116 : decode cX12_reads 116 = .ok (.iadd, 1) := by decide +kernel
theorem dX12_reads_117 : decode cX12_reads 117 = .ok (.putfield 245, 3) := by decide +kernel
theorem dX12_reads_120 : decode cX12_reads 120 = .ok (.goto (-25), 3) := by decide +kernel
theorem dX12_reads_123 : decode cX12_reads 123 = .ok (.aload_n 0, 1) := by decide +kernel
theorem dX12_reads_124 : decode cX12_reads 124 = .ok (.aload_n 0, 1) := by decide +kernel
theorem dX12_reads_125 : decode cX12_reads 125 = .ok (.aload_n 0, 1) := by decide +kernel
theorem dX12_reads_126 : decode cX12_reads 126 = .ok (.getfield 251, 3) := by decide +kernel
theorem dX12_reads_129 : decode cX12_reads 129 = .ok (.aload_n 0, 1) := by decide +kernel
theorem dX12_reads_130 : decode cX12_reads 130 = .ok (.getfield 245, 3) := by decide +kernel
theorem dX12_reads_133 : decode cX12_reads 133 = .ok (.invokevirtual 263, 3) := by decide +kernel
theorem dX12_reads_136 : decode cX12_reads 136 = .ok (.putfield 257, 3) := by decide +kernel
theorem dX12_reads_139 : decode cX12_reads 139 = .ok (.aload_n 0, 1) := by decide +kernel
theorem dX12_reads_140 : decode cX12_reads 140 = .ok (.getfield 257, 3) := by decide +kernel
theorem dX12_reads_143 : decode cX12_reads 143 = .ok (.iconst (-1), 1) := by decide +kernel
theorem dX12_reads_144 : decode cX12_reads 144 = .ok (.if_icmp .eq 129, 3) := by decide +kernel
theorem dX12_reads_147 : decode cX12_reads 147 = .ok (.aload_n 0, 1) := by decide +kernel
theorem dX12_reads_148 : decode cX12_reads 148 = .ok (.iconst 2, 1) := by decide +kernel
theorem dX12_reads_149 : decode cX12_reads 149 = .ok (.putfield 254, 3) := by decide +kernel
theorem dX12_reads_152 : decode cX12_reads 152 = .ok (.goto 121, 3) := by decide +kernel
theorem dX12_reads_155 : decode cX12_reads 155 = .ok (.aload_n 0, 1) := by decide +kernel
theorem dX12_reads_156 : decode cX12_reads 156 = .ok (.iload_n 1, 1) := by decide +kernel
theorem dX12_reads_157 : decode cX12_reads 157 = .ok (.invokevirtual 267, 3) := by decide +kernel
theorem dX12_reads_160 : decode cX12_reads 160 = .ok (.ifCond .eq 100, 3) := by decide +kernel
theorem dX12_reads_163 : decode cX12_reads 163 = .ok (.aload_n 0, 1) := by decide +kernel
theorem dX12_reads_164 : decode cX12_reads 164 = .ok (.iload_n 1, 1) := by decide +kernel
theorem dX12_reads_165 : decode cX12_reads 165 = .ok (.bipush 48, 2) := by decide +kernel
theorem dX12_reads_167 : decode cX12_reads 167 = .ok (.isub, 1) := by decide +kernel
theorem dX12_reads_168 : decode cX12_reads 168 = .ok (.putfield 257, 3) := by decide +kernel
theorem dX12_reads_171 : decode cX12_reads 171 = .ok (.aload_n 0, 1) := by decide +kernel
theorem dX12_reads_172 : decode cX12_reads 172 = .ok (.aload_n 0, 1) := by decide +kernel
theorem dX12_reads_173 : decode cX12_reads 173 = .ok (.aload_n 0, 1) := by decide +kernel
theorem dX12_reads_174 : decode cX12_reads 174 = .ok (.getfield 245, 3) := by decide +kernel
theorem dX12_reads_177 : decode cX12_reads 177 = .ok (.invokevirtual 248, 3) := by decide +kernel
theorem dX12_reads_180 : decode cX12_reads 180 = .ok (.invokevirtual 267, 3) := by decide +kernel
theorem dX12_reads_183 : decode cX12_reads 183 = .ok (.ifCond .eq 56, 3) := by decide +kernel
theorem dX12_reads_186 : decode cX12_reads 186 = .ok (.aload_n 0, 1) := by decide +kernel
theorem dX12_reads_187 : decode cX12_reads 187 = .ok (.aload_n 0, 1) := by decide +kernel
theorem dX12_reads_188 : decode cX12_reads 188 = .ok (.getfield 257, 3) := by decide +kernel
theorem dX12_reads_191 : decode cX12_reads 191 = .ok (.sipush 10000, 3) := by decide +kernel
theorem dX12_reads_194 : decode cX12_reads 194 = .ok (.if_icmp .ge 25, 3) := by decide +kernel
theorem dX12_reads_197 : decode cX12_reads 197 = .ok (.bipush 10, 2) := by decide +kernel
theorem dX12_reads_199 : decode cX12_reads 199 = .ok (.aload_n 0, 1) := by decide +kernel
theorem dX12_reads_200 : decode cX12_reads 200 = .ok (.getfield 257, 3) := by decide +kernel
theorem dX12_reads_203 : decode cX12_reads 203 = .ok (.imul, 1) := by decide +kernel
theorem dX12_reads_204 : decode cX12_reads 204 = .ok (.aload_n 0, 1) := by decide +kernel
theorem dX12_reads_205 : decode cX12_reads 205 = .ok (.aload_n 0, 1) := by decide +kernel
theorem dX12_reads_206 : decode cX12_reads 206 = .ok (.getfield 245, 3) := by decide +kernel
theorem dX12_reads_209 : decode cX12_reads 209 = .ok (.invokevirtual 248, 3) := by decide +kernel
theorem dX12_reads_212 : decode cX12_reads 212 = .ok (.iadd, 1) := by decide +kernel
theorem dX12_reads_213 : decode cX12_reads 213 = .ok (.bipush 48, 2) := by decide +kernel
theorem dX12_reads_215 : decode cX12_reads 215 = .ok (.isub, 1) := by decide +kernel
theorem dX12_reads_216 : decode cX12_reads 216 = .ok (.goto 7, 3) := by decide +kernel
theorem dX12_reads_219 : decode cX12_reads 219 = .ok (.aload_n 0, 1) := by decide +kernel
theorem dX12_reads_220 : decode cX12_reads 220 = .ok (.getfield 257, 3) := by decide +kernel
theorem dX12_reads_223 : decode cX12_reads 223 = .ok (.putfield 257, 3) := by decide +kernel
theorem dX12_reads_226 : decode cX12_reads 226 = .ok (.aload_n 0, 1) := by decide +kernel
theorem dX12_reads_227 : decode cX12_reads 227 = .ok (.aload_n 0, 1) := by decide +kernel
theorem dX12_reads_228 : decode cX12_reads 228 = .ok (.getfield 245, 3) := by decide +kernel
theorem dX12_reads_231 : decode cX12_reads 231 = .ok (.iconst 1, 1) := by decide +kernel
theorem dX12_reads_232 : decode cX12_reads 232 = .ok (.iadd, 1) := by decide +kernel
theorem dX12_reads_233 : decode cX12_reads 233 = .ok (.putfield 245, 3) := by decide +kernel
theorem dX12_reads_236 : decode cX12_reads 236 = .ok (.goto (-65), 3) := by decide +kernel
theorem dX12_reads_239 : decode cX12_reads 239 = .ok (.aload_n 0, 1) := by decide +kernel
theorem dX12_reads_240 : decode cX12_reads 240 = .ok (.getfield 245, 3) := by decide +kernel
theorem dX12_reads_243 : decode cX12_reads 243 = .ok (.aload_n 0, 1) := by decide +kernel
theorem dX12_reads_244 : decode cX12_reads 244 = .ok (.getfield 251, 3) := by decide +kernel
theorem dX12_reads_247 : decode cX12_reads 247 = .ok (.isub, 1) := by decide +kernel
theorem dX12_reads_248 : decode cX12_reads 248 = .ok (.iconst 5, 1) := by decide +kernel
theorem dX12_reads_249 : decode cX12_reads 249 = .ok (.if_icmp .ge 24, 3) := by decide +kernel
theorem dX12_reads_252 : decode cX12_reads 252 = .ok (.aload_n 0, 1) := by decide +kernel
theorem dX12_reads_253 : decode cX12_reads 253 = .ok (.iconst 3, 1) := by decide +kernel
theorem dX12_reads_254 : decode cX12_reads 254 = .ok (.putfield 254, 3) := by decide +kernel
theorem dX12_reads_257 : decode cX12_reads 257 = .ok (.goto 16, 3) := by decide +kernel
theorem dX12_reads_260 : decode cX12_reads 260 = .ok (.aload_n 0, 1) := by decide +kernel
theorem dX12_reads_261 : decode cX12_reads 261 = .ok (.iload_n 1, 1) := by decide +kernel
theorem dX12_reads_262 : decode cX12_reads 262 = .ok (.invokevirtual 270, 3) := by decide +kernel
theorem dX12_reads_265 : decode cX12_reads 265 = .ok (.ifCond .eq 8, 3) := by decide +kernel
theorem dX12_reads_268 : decode cX12_reads 268 = .ok (.aload_n 0, 1) := by decide +kernel
theorem dX12_reads_269 : decode cX12_reads 269 = .ok (.iconst 4, 1) := by decide +kernel
theorem dX12_reads_270 : decode cX12_reads 270 = .ok (.putfield 254, 3) := by decide +kernel
theorem dX12_reads_273 : decode cX12_reads 273 = .ok (.return_, 1) := by decide +kernel
theorem dX12_readAll_0 : decode cX12_readAll 0 = .ok (.aload_n 0, 1) := by decide +kernel
theorem dX12_readAll_1 : decode cX12_readAll 1 = .ok (.iconst 0, 1) := by decide +kernel
theorem dX12_readAll_2 : decode cX12_readAll 2 = .ok (.putfield 245, 3) := by decide +kernel
theorem dX12_readAll_5 : decode cX12_readAll 5 = .ok (.aload_n 0, 1) := by decide +kernel
theorem dX12_readAll_6 : decode cX12_readAll 6 = .ok (.getfield 110, 3) := by decide +kernel
theorem dX12_readAll_9 : decode cX12_readAll 9 = .ok (.bipush 8, 2) := by decide +kernel
theorem dX12_readAll_11 : decode cX12_readAll 11 = .ok (.iconst 0, 1) := by decide +kernel
theorem dX12_readAll_12 : decode cX12_readAll 12 = .ok (.iastore, 1) := by decide +kernel
theorem dX12_readAll_13 : decode cX12_readAll 13 = .ok (.aload_n 0, 1) := by decide +kernel
theorem dX12_readAll_14 : decode cX12_readAll 14 = .ok (.iconst 0, 1) := by decide +kernel
theorem dX12_readAll_15 : decode cX12_readAll 15 = .ok (.putfield 285, 3) := by decide +kernel
theorem dX12_readAll_18 : decode cX12_readAll 18 = .ok (.aload_n 0, 1) := by decide +kernel
theorem dX12_readAll_19 : decode cX12_readAll 19 = .ok (.iconst 0, 1) := by decide +kernel
theorem dX12_readAll_20 : decode cX12_readAll 20 = .ok (.putfield 294, 3) := by decide +kernel
theorem dX12_readAll_23 : decode cX12_readAll 23 = .ok (.aload_n 0, 1) := by decide +kernel
theorem dX12_readAll_24 : decode cX12_readAll 24 = .ok (.invokevirtual 279, 3) := by decide +kernel
theorem dX12_readAll_27 : decode cX12_readAll 27 = .ok (.iconst 0, 1) := by decide +kernel
theorem dX12_readAll_28 : decode cX12_readAll 28 = .ok (.istore_n 1, 1) := by decide +kernel
theorem dX12_readAll_29 : decode cX12_readAll 29 = .ok (.aload_n 0, 1) := by decide +kernel
theorem dX12_readAll_30 : decode cX12_readAll 30 = .ok (.getfield 254, 3) := by decide +kernel
theorem dX12_readAll_33 : decode cX12_readAll 33 = .ok (.ifCond .ne 14, 3) := by decide +kernel
theorem dX12_readAll_36 : decode cX12_readAll 36 = .ok (.iload_n 1, 1) := by decide +kernel
theorem dX12_readAll_37 : decode cX12_readAll 37 = .ok (.ifCond .ne 10, 3) := by decide +kernel
theorem dX12_readAll_40 : decode cX12_readAll 40 = .ok (.aload_n 0, 1) := by decide +kernel
theorem dX12_readAll_41 : decode cX12_readAll 41 = .ok (.getfield 294, 3) := by decide +kernel
theorem dX12_readAll_44 : decode cX12_readAll 44 = .ok (.ifCond .le 136, 3) := by decide +kernel
theorem dX12_readAll_47 : decode cX12_readAll 47 = .ok (.iload_n 1, 1) := by decide +kernel
theorem dX12_readAll_48 : decode cX12_readAll 48 = .ok (.ifCond .ne 33, 3) := by decide +kernel
theorem dX12_readAll_51 : decode cX12_readAll 51 = .ok (.aload_n 0, 1) := by decide +kernel
theorem dX12_readAll_52 : decode cX12_readAll 52 = .ok (.bipush 8, 2) := by decide +kernel
theorem dX12_readAll_54 : decode cX12_readAll 54 = .ok (.invokevirtual 307, 3) := by decide +kernel
theorem dX12_readAll_57 : decode cX12_readAll 57 = .ok (.ifCond .eq 24, 3) := by decide +kernel
theorem dX12_readAll_60 : decode cX12_readAll 60 = .ok (.aload_n 0, 1) := by decide +kernel
theorem dX12_readAll_61 : decode cX12_readAll 61 = .ok (.invokevirtual 310, 3) := by decide +kernel
theorem dX12_readAll_64 : decode cX12_readAll 64 = .ok (.ifCond .eq 17, 3) := by decide +kernel
theorem dX12_readAll_67 : decode cX12_readAll 67 = .ok (.aload_n 0, 1) := by decide +kernel
theorem dX12_readAll_68 : decode cX12_readAll 68 = .ok (.invokevirtual 314, 3) := by decide +kernel
theorem dX12_readAll_71 : decode cX12_readAll 71 = .ok (.aload_n 0, 1) := by decide +kernel
theorem dX12_readAll_72 : decode cX12_readAll 72 = .ok (.invokevirtual 317, 3) := by decide +kernel
theorem dX12_readAll_75 : decode cX12_readAll 75 = .ok (.iconst (-1), 1) := by decide +kernel
theorem dX12_readAll_76 : decode cX12_readAll 76 = .ok (.if_icmp .ne (-47), 3) := by decide +kernel
theorem dX12_readAll_79 : decode cX12_readAll 79 = .ok (.iconst (-1), 1) := by decide +kernel
theorem dX12_readAll_80 : decode cX12_readAll 80 = .ok (.ireturn, 1) := by decide +kernel
theorem dX12_readAll_81 : decode cX12_readAll 81 = .ok (.aload_n 0, 1) := by decide +kernel
theorem dX12_readAll_82 : decode cX12_readAll 82 = .ok (.getfield 254, 3) := by decide +kernel
theorem dX12_readAll_85 : decode cX12_readAll 85 = .ok (.iconst 2, 1) := by decide +kernel
theorem dX12_readAll_86 : decode cX12_readAll 86 = .ok (.if_icmp .eq 9, 3) := by decide +kernel
theorem dX12_readAll_89 : decode cX12_readAll 89 = .ok (.aload_n 0, 1) := by decide +kernel
theorem dX12_readAll_90 : decode cX12_readAll 90 = .ok (.iconst 1, 1) := by decide +kernel
theorem dX12_readAll_91 : decode cX12_readAll 91 = .ok (.invokevirtual 282, 3) := by decide +kernel
theorem dX12_readAll_94 : decode cX12_readAll 94 = .ok (.ireturn, 1) := by decide +kernel
theorem dX12_readAll_95 : decode cX12_readAll 95 = .ok (.aload_n 0, 1) := by decide +kernel
theorem dX12_readAll_96 : decode cX12_readAll 96 = .ok (.getfield 257, 3) := by decide +kernel
theorem dX12_readAll_99 : decode cX12_readAll 99 = .ok (.bipush 9, 2) := by decide +kernel
theorem dX12_readAll_101 : decode cX12_readAll 101 = .ok (.if_icmp .ne 18, 3) := by decide +kernel
theorem dX12_readAll_104 : decode cX12_readAll 104 = .ok (.aload_n 0, 1) := by decide +kernel
theorem dX12_readAll_105 : decode cX12_readAll 105 = .ok (.invokevirtual 320, 3) := by decide +kernel
theorem dX12_readAll_108 : decode cX12_readAll 108 = .ok (.iconst (-1), 1) := by decide +kernel
theorem dX12_readAll_109 : decode cX12_readAll 109 = .ok (.if_icmp .ne 5, 3) := by decide +kernel
theorem dX12_readAll_112 : decode cX12_readAll 112 = .ok (.iconst (-1), 1) := by decide +kernel
theorem dX12_readAll_113 : decode cX12_readAll 113 = .ok (.ireturn, 1) := by decide +kernel
theorem dX12_readAll_114 : decode cX12_readAll 114 = .ok (.iconst 1, 1) := by decide +kernel
theorem dX12_readAll_115 : decode cX12_readAll 115 = .ok (.istore_n 1, 1) := by decide +kernel
theorem dX12_readAll_116 : decode cX12_readAll 116 = .ok (.goto (-87), 3) := by decide +kernel
theorem dX12_readAll_119 : decode cX12_readAll 119 = .ok (.aload_n 0, 1) := by decide +kernel
theorem dX12_readAll_120 : decode cX12_readAll 120 = .ok (.getfield 257, 3) := by decide +kernel
theorem dX12_readAll_123 : decode cX12_readAll 123 = .ok (.bipush 6, 2) := by decide +kernel
theorem dX12_readAll_125 : decode cX12_readAll 125 = .ok (.if_icmp .ne 18, 3) := by decide +kernel
theorem dX12_readAll_128 : decode cX12_readAll 128 = .ok (.aload_n 0, 1) := by decide +kernel
theorem dX12_readAll_129 : decode cX12_readAll 129 = .ok (.invokevirtual 323, 3) := by decide +kernel
theorem dX12_readAll_132 : decode cX12_readAll 132 = .ok (.iconst (-1), 1) := by decide +kernel
theorem dX12_readAll_133 : decode cX12_readAll 133 = .ok (.if_icmp .ne 5, 3) := by decide +kernel
theorem dX12_readAll_136 : decode cX12_readAll 136 = .ok (.iconst (-1), 1) := by decide +kernel
theorem dX12_readAll_137 : decode cX12_readAll 137 = .ok (.ireturn, 1) := by decide +kernel
theorem dX12_readAll_138 : decode cX12_readAll 138 = .ok (.iconst 0, 1) := by decide +kernel
theorem dX12_readAll_139 : decode cX12_readAll 139 = .ok (.istore_n 1, 1) := by decide +kernel
theorem dX12_readAll_140 : decode cX12_readAll 140 = .ok (.goto (-111), 3) := by decide +kernel
theorem dX12_readAll_143 : decode cX12_readAll 143 = .ok (.aload_n 0, 1) := by decide +kernel
theorem dX12_readAll_144 : decode cX12_readAll 144 = .ok (.getfield 257, 3) := by decide +kernel
theorem dX12_readAll_147 : decode cX12_readAll 147 = .ok (.iconst 5, 1) := by decide +kernel
theorem dX12_readAll_148 : decode cX12_readAll 148 = .ok (.if_icmp .gt 26, 3) := by decide +kernel
theorem dX12_readAll_151 : decode cX12_readAll 151 = .ok (.aload_n 0, 1) := by decide +kernel
theorem dX12_readAll_152 : decode cX12_readAll 152 = .ok (.invokevirtual 326, 3) := by decide +kernel
theorem dX12_readAll_155 : decode cX12_readAll 155 = .ok (.iconst (-1), 1) := by decide +kernel
theorem dX12_readAll_156 : decode cX12_readAll 156 = .ok (.if_icmp .eq 11, 3) := by decide +kernel
theorem dX12_readAll_159 : decode cX12_readAll 159 = .ok (.aload_n 0, 1) := by decide +kernel
theorem dX12_readAll_160 : decode cX12_readAll 160 = .ok (.invokevirtual 317, 3) := by decide +kernel
theorem dX12_readAll_163 : decode cX12_readAll 163 = .ok (.iconst (-1), 1) := by decide +kernel
theorem dX12_readAll_164 : decode cX12_readAll 164 = .ok (.if_icmp .ne 5, 3) := by decide +kernel
theorem dX12_readAll_167 : decode cX12_readAll 167 = .ok (.iconst (-1), 1) := by decide +kernel
theorem dX12_readAll_168 : decode cX12_readAll 168 = .ok (.ireturn, 1) := by decide +kernel
theorem dX12_readAll_169 : decode cX12_readAll 169 = .ok (.iconst 0, 1) := by decide +kernel
theorem dX12_readAll_170 : decode cX12_readAll 170 = .ok (.istore_n 1, 1) := by decide +kernel
theorem dX12_readAll_171 : decode cX12_readAll 171 = .ok (.goto (-142), 3) := by decide +kernel
theorem dX12_readAll_174 : decode cX12_readAll 174 = .ok (.aload_n 0, 1) := by decide +kernel
theorem dX12_readAll_175 : decode cX12_readAll 175 = .ok (.iconst 1, 1) := by decide +kernel
theorem dX12_readAll_176 : decode cX12_readAll 176 = .ok (.invokevirtual 282, 3) := by decide +kernel
theorem dX12_readAll_179 : decode cX12_readAll 179 = .ok (.ireturn, 1) := by decide +kernel
theorem dX12_readAll_180 : decode cX12_readAll 180 = .ok (.iconst 0, 1) := by decide +kernel
theorem dX12_readAll_181 : decode cX12_readAll 181 = .ok (.ireturn, 1) := by decide +kernel
theorem dX12_way_0 : decode cX12_way 0 = .ok (.aload_n 0, 1) := by decide +kernel
theorem dX12_way_1 : decode cX12_way 1 = .ok (.iconst 0, 1) := by decide +kernel
theorem dX12_way_2 : decode cX12_way 2 = .ok (.putfield 167, 3) := by decide +kernel
theorem dX12_way_5 : decode cX12_way 5 = .ok (.aload_n 0, 1) := by decide +kernel
theorem dX12_way_6 : decode cX12_way 6 = .ok (.iconst 0, 1) := by decide +kernel
theorem dX12_way_7 : decode cX12_way 7 = .ok (.putfield 329, 3) := by decide +kernel
theorem dX12_way_10 : decode cX12_way 10 = .ok (.aload_n 0, 1) := by decide +kernel
theorem dX12_way_11 : decode cX12_way 11 = .ok (.iconst (-1), 1) := by decide +kernel
theorem dX12_way_12 : decode cX12_way 12 = .ok (.putfield 134, 3) := by decide +kernel
theorem dX12_way_15 : decode cX12_way 15 = .ok (.aload_n 0, 1) := by decide +kernel
theorem dX12_way_16 : decode cX12_way 16 = .ok (.iload_n 1, 1) := by decide +kernel
theorem dX12_way_17 : decode cX12_way 17 = .ok (.iconst 0, 1) := by decide +kernel
theorem dX12_way_18 : decode cX12_way 18 = .ok (.bipush 7, 2) := by decide +kernel
theorem dX12_way_20 : decode cX12_way 20 = .ok (.invokevirtual 170, 3) := by decide +kernel
theorem dX12_way_23 : decode cX12_way 23 = .ok (.istore_n 2, 1) := by decide +kernel
theorem dX12_way_24 : decode cX12_way 24 = .ok (.iload_n 2, 1) := by decide +kernel
theorem dX12_way_25 : decode cX12_way 25 = .ok (.ifCond .eq 14, 3) := by decide +kernel
theorem dX12_way_28 : decode cX12_way 28 = .ok (.aload_n 0, 1) := by decide +kernel
theorem dX12_way_29 : decode cX12_way 29 = .ok (.invokevirtual 332, 3) := by decide +kernel
theorem dX12_way_32 : decode cX12_way 32 = .ok (.ifCond .ne 7, 3) := by decide +kernel
theorem dX12_way_35 : decode cX12_way 35 = .ok (.iconst 1, 1) := by decide +kernel
theorem dX12_way_36 : decode cX12_way 36 = .ok (.goto 4, 3) := by decide +kernel
theorem dX12_way_39 : decode cX12_way 39 = .ok (.iconst 0, 1) := by decide +kernel
theorem dX12_way_40 : decode cX12_way 40 = .ok (.istore_n 3, 1) := by decide +kernel
theorem dX12_way_41 : decode cX12_way 41 = .ok (.aload_n 0, 1) := by decide +kernel
theorem dX12_way_42 : decode cX12_way 42 = .ok (.iconst 0, 1) := by decide +kernel
theorem dX12_way_43 : decode cX12_way 43 = .ok (.putfield 239, 3) := by decide +kernel
theorem dX12_way_46 : decode cX12_way 46 = .ok (.iload_n 2, 1) := by decide +kernel
theorem dX12_way_47 : decode cX12_way 47 = .ok (.ifCond .ne 5, 3) := by decide +kernel
theorem dX12_way_50 : decode cX12_way 50 = .ok (.iconst 0, 1) := by decide +kernel
theorem dX12_way_51 : decode cX12_way 51 = .ok (.ireturn, 1) := by decide +kernel
theorem dX12_way_52 : decode cX12_way 52 = .ok (.iload_n 3, 1) := by decide +kernel
theorem dX12_way_53 : decode cX12_way 53 = .ok (.ifCond .ne 21, 3) := by decide +kernel
theorem dX12_way_56 : decode cX12_way 56 = .ok (.aload_n 0, 1) := by decide +kernel
theorem dX12_way_57 : decode cX12_way 57 = .ok (.aload_n 0, 1) := by decide +kernel
theorem dX12_way_58 : decode cX12_way 58 = .ok (.getfield 273, 3) := by decide +kernel
theorem dX12_way_61 : decode cX12_way 61 = .ok (.putfield 329, 3) := by decide +kernel
theorem dX12_way_64 : decode cX12_way 64 = .ok (.aload_n 0, 1) := by decide +kernel
theorem dX12_way_65 : decode cX12_way 65 = .ok (.aload_n 0, 1) := by decide +kernel
theorem dX12_way_66 : decode cX12_way 66 = .ok (.getfield 276, 3) := by decide +kernel
theorem dX12_way_69 : decode cX12_way 69 = .ok (.putfield 134, 3) := by decide +kernel
theorem dX12_way_72 : decode cX12_way 72 = .ok (.iconst 0, 1) := by decide +kernel
theorem dX12_way_73 : decode cX12_way 73 = .ok (.ireturn, 1) := by decide +kernel
theorem dX12_way_74 : decode cX12_way 74 = .ok (.iconst 0, 1) := by decide +kernel
theorem dX12_way_75 : decode cX12_way 75 = .ok (.istore 4, 2) := by decide +kernel
theorem dX12_way_77 : decode cX12_way 77 = .ok (.iload 4, 2) := by decide +kernel
theorem dX12_way_79 : decode cX12_way 79 = .ok (.sipush 400, 3) := by decide +kernel
theorem dX12_way_82 : decode cX12_way 82 = .ok (.if_icmp .ge 153, 3) := by decide +kernel
theorem dX12_way_85 : decode cX12_way 85 = .ok (.sipush 400, 3) := by decide +kernel
theorem dX12_way_88 : decode cX12_way 88 = .ok (.iload_n 1, 1) := by decide +kernel
theorem dX12_way_89 : decode cX12_way 89 = .ok (.imul, 1) := by decide +kernel
theorem dX12_way_90 : decode cX12_way 90 = .ok (.iload 4, 2) := by decide +kernel
theorem dX12_way_92 : decode cX12_way 92 = .ok (.iadd, 1) := by decide +kernel
theorem dX12_way_93 : decode cX12_way 93 = .ok (.istore 5, 2) := by decide +kernel
theorem dX12_way_95 : decode cX12_way 95 = .ok (.sipush 3200, 3) := by decide +kernel
theorem dX12_way_98 : decode cX12_way 98 = .ok (.iload 4, 2) := by decide +kernel
theorem dX12_way_100 : decode cX12_way 100 = .ok (.iadd, 1) := by decide +kernel
theorem dX12_way_101 : decode cX12_way 101 = .ok (.istore 6, 2) := by decide +kernel
theorem dX12_way_103 : decode cX12_way 103 = .ok (.aload_n 0, 1) := by decide +kernel
theorem dX12_way_104 : decode cX12_way 104 = .ok (.getfield 101, 3) := by decide +kernel
theorem dX12_way_107 : decode cX12_way 107 = .ok (.iload 5, 2) := by decide +kernel
theorem dX12_way_109 : decode cX12_way 109 = .ok (.aload_n 0, 1) := by decide +kernel
theorem dX12_way_110 : decode cX12_way 110 = .ok (.getfield 101, 3) := by decide +kernel
theorem dX12_way_113 : decode cX12_way 113 = .ok (.iload 6, 2) := by decide +kernel
theorem dX12_way_115 : decode cX12_way 115 = .ok (.iaload, 1) := by decide +kernel
theorem dX12_way_116 : decode cX12_way 116 = .ok (.iastore, 1) := by decide +kernel
theorem dX12_way_117 : decode cX12_way 117 = .ok (.aload_n 0, 1) := by decide +kernel
theorem dX12_way_118 : decode cX12_way 118 = .ok (.getfield 104, 3) := by decide +kernel
theorem dX12_way_121 : decode cX12_way 121 = .ok (.iload 5, 2) := by decide +kernel
theorem dX12_way_123 : decode cX12_way 123 = .ok (.aload_n 0, 1) := by decide +kernel
theorem dX12_way_124 : decode cX12_way 124 = .ok (.getfield 104, 3) := by decide +kernel
theorem dX12_way_127 : decode cX12_way 127 = .ok (.iload 6, 2) := by decide +kernel
theorem dX12_way_129 : decode cX12_way 129 = .ok (.iaload, 1) := by decide +kernel
theorem dX12_way_130 : decode cX12_way 130 = .ok (.iastore, 1) := by decide +kernel
theorem dX12_way_131 : decode cX12_way 131 = .ok (.aload_n 0, 1) := by decide +kernel
theorem dX12_way_132 : decode cX12_way 132 = .ok (.getfield 107, 3) := by decide +kernel
theorem dX12_way_135 : decode cX12_way 135 = .ok (.iload 5, 2) := by decide +kernel
theorem dX12_way_137 : decode cX12_way 137 = .ok (.aload_n 0, 1) := by decide +kernel
theorem dX12_way_138 : decode cX12_way 138 = .ok (.getfield 107, 3) := by decide +kernel
theorem dX12_way_141 : decode cX12_way 141 = .ok (.iload 6, 2) := by decide +kernel
theorem dX12_way_143 : decode cX12_way 143 = .ok (.iaload, 1) := by decide +kernel
theorem dX12_way_144 : decode cX12_way 144 = .ok (.iastore, 1) := by decide +kernel
theorem dX12_way_145 : decode cX12_way 145 = .ok (.aload_n 0, 1) := by decide +kernel
theorem dX12_way_146 : decode cX12_way 146 = .ok (.getfield 113, 3) := by decide +kernel
theorem dX12_way_149 : decode cX12_way 149 = .ok (.iload 5, 2) := by decide +kernel
theorem dX12_way_151 : decode cX12_way 151 = .ok (.aload_n 0, 1) := by decide +kernel
theorem dX12_way_152 : decode cX12_way 152 = .ok (.getfield 113, 3) := by decide +kernel
theorem dX12_way_155 : decode cX12_way 155 = .ok (.iload 6, 2) := by decide +kernel
theorem dX12_way_157 : decode cX12_way 157 = .ok (.iaload, 1) := by decide +kernel
theorem dX12_way_158 : decode cX12_way 158 = .ok (.iastore, 1) := by decide +kernel
theorem dX12_way_159 : decode cX12_way 159 = .ok (.aload_n 0, 1) := by decide +kernel
theorem dX12_way_160 : decode cX12_way 160 = .ok (.getfield 116, 3) := by decide +kernel
theorem dX12_way_163 : decode cX12_way 163 = .ok (.iload 5, 2) := by decide +kernel
theorem dX12_way_165 : decode cX12_way 165 = .ok (.aload_n 0, 1) := by decide +kernel
theorem dX12_way_166 : decode cX12_way 166 = .ok (.getfield 116, 3) := by decide +kernel
theorem dX12_way_169 : decode cX12_way 169 = .ok (.iload 6, 2) := by decide +kernel
theorem dX12_way_171 : decode cX12_way 171 = .ok (.iaload, 1) := by decide +kernel
theorem dX12_way_172 : decode cX12_way 172 = .ok (.iastore, 1) := by decide +kernel
theorem dX12_way_173 : decode cX12_way 173 = .ok (.aload_n 0, 1) := by decide +kernel
theorem dX12_way_174 : decode cX12_way 174 = .ok (.getfield 119, 3) := by decide +kernel
theorem dX12_way_177 : decode cX12_way 177 = .ok (.iload 5, 2) := by decide +kernel
theorem dX12_way_179 : decode cX12_way 179 = .ok (.aload_n 0, 1) := by decide +kernel
theorem dX12_way_180 : decode cX12_way 180 = .ok (.getfield 119, 3) := by decide +kernel
theorem dX12_way_183 : decode cX12_way 183 = .ok (.iload 6, 2) := by decide +kernel
theorem dX12_way_185 : decode cX12_way 185 = .ok (.iaload, 1) := by decide +kernel
theorem dX12_way_186 : decode cX12_way 186 = .ok (.iastore, 1) := by decide +kernel
theorem dX12_way_187 : decode cX12_way 187 = .ok (.aload_n 0, 1) := by decide +kernel
theorem dX12_way_188 : decode cX12_way 188 = .ok (.getfield 122, 3) := by decide +kernel
theorem dX12_way_191 : decode cX12_way 191 = .ok (.iload 5, 2) := by decide +kernel
theorem dX12_way_193 : decode cX12_way 193 = .ok (.aload_n 0, 1) := by decide +kernel
theorem dX12_way_194 : decode cX12_way 194 = .ok (.getfield 122, 3) := by decide +kernel
theorem dX12_way_197 : decode cX12_way 197 = .ok (.iload 6, 2) := by decide +kernel
theorem dX12_way_199 : decode cX12_way 199 = .ok (.iaload, 1) := by decide +kernel
theorem dX12_way_200 : decode cX12_way 200 = .ok (.iastore, 1) := by decide +kernel
theorem dX12_way_201 : decode cX12_way 201 = .ok (.aload_n 0, 1) := by decide +kernel
theorem dX12_way_202 : decode cX12_way 202 = .ok (.getfield 125, 3) := by decide +kernel
theorem dX12_way_205 : decode cX12_way 205 = .ok (.iload 5, 2) := by decide +kernel
theorem dX12_way_207 : decode cX12_way 207 = .ok (.aload_n 0, 1) := by decide +kernel
theorem dX12_way_208 : decode cX12_way 208 = .ok (.getfield 125, 3) := by decide +kernel
theorem dX12_way_211 : decode cX12_way 211 = .ok (.iload 6, 2) := by decide +kernel
theorem dX12_way_213 : decode cX12_way 213 = .ok (.iaload, 1) := by decide +kernel
theorem dX12_way_214 : decode cX12_way 214 = .ok (.iastore, 1) := by decide +kernel
theorem dX12_way_215 : decode cX12_way 215 = .ok (.aload_n 0, 1) := by decide +kernel
theorem dX12_way_216 : decode cX12_way 216 = .ok (.getfield 128, 3) := by decide +kernel
theorem dX12_way_219 : decode cX12_way 219 = .ok (.iload 5, 2) := by decide +kernel
theorem dX12_way_221 : decode cX12_way 221 = .ok (.aload_n 0, 1) := by decide +kernel
theorem dX12_way_222 : decode cX12_way 222 = .ok (.getfield 128, 3) := by decide +kernel
theorem dX12_way_225 : decode cX12_way 225 = .ok (.iload 6, 2) := by decide +kernel
theorem dX12_way_227 : decode cX12_way 227 = .ok (.iaload, 1) := by decide +kernel
theorem dX12_way_228 : decode cX12_way 228 = .ok (.iastore, 1) := by decide +kernel
theorem dX12_way_229 : decode cX12_way 229 = .ok (.iinc 4 1, 3) := by decide +kernel
theorem dX12_way_232 : decode cX12_way 232 = .ok (.goto (-155), 3) := by decide +kernel
theorem dX12_way_235 : decode cX12_way 235 = .ok (.aload_n 0, 1) := by decide +kernel
theorem dX12_way_236 : decode cX12_way 236 = .ok (.getfield 110, 3) := by decide +kernel
theorem dX12_way_239 : decode cX12_way 239 = .ok (.iload_n 1, 1) := by decide +kernel
theorem dX12_way_240 : decode cX12_way 240 = .ok (.aload_n 0, 1) := by decide +kernel
theorem dX12_way_241 : decode cX12_way 241 = .ok (.getfield 110, 3) := by decide +kernel
theorem dX12_way_244 : decode cX12_way 244 = .ok (.bipush 8, 2) := by decide +kernel
theorem dX12_way_246 : decode cX12_way 246 = .ok (.iaload, 1) := by decide +kernel
theorem dX12_way_247 : decode cX12_way 247 = .ok (.iastore, 1) := by decide +kernel
theorem dX12_way_248 : decode cX12_way 248 = .ok (.iconst 1, 1) := by decide +kernel
theorem dX12_way_249 : decode cX12_way 249 = .ok (.ireturn, 1) := by decide +kernel
theorem dX12_fault_0 : decode cX12_fault 0 = .ok (.aload_n 0, 1) := by decide +kernel
theorem dX12_fault_1 : decode cX12_fault 1 = .ok (.iconst 0, 1) := by decide +kernel
theorem dX12_fault_2 : decode cX12_fault 2 = .ok (.putfield 167, 3) := by decide +kernel
theorem dX12_fault_5 : decode cX12_fault 5 = .ok (.iload_n 1, 1) := by decide +kernel
theorem dX12_fault_6 : decode cX12_fault 6 = .ok (.ifCond .ne 10, 3) := by decide +kernel
theorem dX12_fault_9 : decode cX12_fault 9 = .ok (.aload_n 0, 1) := by decide +kernel
theorem dX12_fault_10 : decode cX12_fault 10 = .ok (.getfield 329, 3) := by decide +kernel
theorem dX12_fault_13 : decode cX12_fault 13 = .ok (.goto 16, 3) := by decide +kernel
theorem dX12_fault_16 : decode cX12_fault 16 = .ok (.iload_n 1, 1) := by decide +kernel
theorem dX12_fault_17 : decode cX12_fault 17 = .ok (.iconst 1, 1) := by decide +kernel
theorem dX12_fault_18 : decode cX12_fault 18 = .ok (.if_icmp .ne 10, 3) := by decide +kernel
theorem dX12_fault_21 : decode cX12_fault 21 = .ok (.aload_n 0, 1) := by decide +kernel
theorem dX12_fault_22 : decode cX12_fault 22 = .ok (.getfield 134, 3) := by decide +kernel
theorem dX12_fault_25 : decode cX12_fault 25 = .ok (.goto 4, 3) := by decide +kernel
theorem dX12_fault_28 : decode cX12_fault 28 = .ok (.iconst (-1), 1) := by decide +kernel
theorem dX12_fault_29 : decode cX12_fault 29 = .ok (.ireturn, 1) := by decide +kernel
theorem dX12_run_0 : decode cX12_run 0 = .ok (.aload_n 0, 1) := by decide +kernel
theorem dX12_run_1 : decode cX12_run 1 = .ok (.iconst 0, 1) := by decide +kernel
theorem dX12_run_2 : decode cX12_run 2 = .ok (.putfield 167, 3) := by decide +kernel
theorem dX12_run_5 : decode cX12_run 5 = .ok (.aload_n 0, 1) := by decide +kernel
theorem dX12_run_6 : decode cX12_run 6 = .ok (.iload_n 1, 1) := by decide +kernel
theorem dX12_run_7 : decode cX12_run 7 = .ok (.iconst 0, 1) := by decide +kernel
theorem dX12_run_8 : decode cX12_run 8 = .ok (.bipush 7, 2) := by decide +kernel
theorem dX12_run_10 : decode cX12_run 10 = .ok (.invokevirtual 170, 3) := by decide +kernel
theorem dX12_run_13 : decode cX12_run 13 = .ok (.ifCond .eq 10, 3) := by decide +kernel
theorem dX12_run_16 : decode cX12_run 16 = .ok (.aload_n 0, 1) := by decide +kernel
theorem dX12_run_17 : decode cX12_run 17 = .ok (.getfield 174, 3) := by decide +kernel
theorem dX12_run_20 : decode cX12_run 20 = .ok (.ifCond .ne 5, 3) := by decide +kernel
theorem dX12_run_23 : decode cX12_run 23 = .ok (.iconst (-1), 1) := by decide +kernel
theorem dX12_run_24 : decode cX12_run 24 = .ok (.ireturn, 1) := by decide +kernel
theorem dX12_run_25 : decode cX12_run 25 = .ok (.aload_n 0, 1) := by decide +kernel
theorem dX12_run_26 : decode cX12_run 26 = .ok (.iconst 0, 1) := by decide +kernel
theorem dX12_run_27 : decode cX12_run 27 = .ok (.iload_n 1, 1) := by decide +kernel
theorem dX12_run_28 : decode cX12_run 28 = .ok (.invokevirtual 372, 3) := by decide +kernel
theorem dX12_run_31 : decode cX12_run 31 = .ok (.aload_n 0, 1) := by decide +kernel
theorem dX12_run_32 : decode cX12_run 32 = .ok (.getfield 347, 3) := by decide +kernel
theorem dX12_run_35 : decode cX12_run 35 = .ok (.ireturn, 1) := by decide +kernel
theorem dX12_cell_0 : decode cX12_cell 0 = .ok (.aload_n 0, 1) := by decide +kernel
theorem dX12_cell_1 : decode cX12_cell 1 = .ok (.iconst 0, 1) := by decide +kernel
theorem dX12_cell_2 : decode cX12_cell 2 = .ok (.putfield 167, 3) := by decide +kernel
theorem dX12_cell_5 : decode cX12_cell 5 = .ok (.aload_n 0, 1) := by decide +kernel
theorem dX12_cell_6 : decode cX12_cell 6 = .ok (.getfield 174, 3) := by decide +kernel
theorem dX12_cell_9 : decode cX12_cell 9 = .ok (.ifCond .eq 22, 3) := by decide +kernel
theorem dX12_cell_12 : decode cX12_cell 12 = .ok (.aload_n 0, 1) := by decide +kernel
theorem dX12_cell_13 : decode cX12_cell 13 = .ok (.iload_n 1, 1) := by decide +kernel
theorem dX12_cell_14 : decode cX12_cell 14 = .ok (.iload_n 2, 1) := by decide +kernel
theorem dX12_cell_15 : decode cX12_cell 15 = .ok (.invokevirtual 189, 3) := by decide +kernel
theorem dX12_cell_18 : decode cX12_cell 18 = .ok (.ifCond .eq 13, 3) := by decide +kernel
theorem dX12_cell_21 : decode cX12_cell 21 = .ok (.aload_n 0, 1) := by decide +kernel
theorem dX12_cell_22 : decode cX12_cell 22 = .ok (.iload_n 3, 1) := by decide +kernel
theorem dX12_cell_23 : decode cX12_cell 23 = .ok (.iconst 0, 1) := by decide +kernel
theorem dX12_cell_24 : decode cX12_cell 24 = .ok (.iconst 5, 1) := by decide +kernel
theorem dX12_cell_25 : decode cX12_cell 25 = .ok (.invokevirtual 170, 3) := by decide +kernel
theorem dX12_cell_28 : decode cX12_cell 28 = .ok (.ifCond .ne 5, 3) := by decide +kernel
theorem dX12_cell_31 : decode cX12_cell 31 = .ok (.iconst (-1), 1) := by decide +kernel
theorem dX12_cell_32 : decode cX12_cell 32 = .ok (.ireturn, 1) := by decide +kernel
theorem dX12_cell_33 : decode cX12_cell 33 = .ok (.bipush 16, 2) := by decide +kernel
theorem dX12_cell_35 : decode cX12_cell 35 = .ok (.iload_n 2, 1) := by decide +kernel
theorem dX12_cell_36 : decode cX12_cell 36 = .ok (.imul, 1) := by decide +kernel
theorem dX12_cell_37 : decode cX12_cell 37 = .ok (.iload_n 1, 1) := by decide +kernel
theorem dX12_cell_38 : decode cX12_cell 38 = .ok (.iadd, 1) := by decide +kernel
theorem dX12_cell_39 : decode cX12_cell 39 = .ok (.istore 4, 2) := by decide +kernel
theorem dX12_cell_41 : decode cX12_cell 41 = .ok (.aload_n 0, 1) := by decide +kernel
theorem dX12_cell_42 : decode cX12_cell 42 = .ok (.getfield 39, 3) := by decide +kernel
theorem dX12_cell_45 : decode cX12_cell 45 = .ok (.iload 4, 2) := by decide +kernel
theorem dX12_cell_47 : decode cX12_cell 47 = .ok (.iaload, 1) := by decide +kernel
theorem dX12_cell_48 : decode cX12_cell 48 = .ok (.ifCond .ne 7, 3) := by decide +kernel
theorem dX12_cell_51 : decode cX12_cell 51 = .ok (.iconst 1, 1) := by decide +kernel
theorem dX12_cell_52 : decode cX12_cell 52 = .ok (.goto 4, 3) := by decide +kernel
theorem dX12_cell_55 : decode cX12_cell 55 = .ok (.iconst 0, 1) := by decide +kernel
theorem dX12_cell_56 : decode cX12_cell 56 = .ok (.istore 5, 2) := by decide +kernel
theorem dX12_cell_58 : decode cX12_cell 58 = .ok (.iload_n 3, 1) := by decide +kernel
theorem dX12_cell_59 : decode cX12_cell 59 = .ok (.ifCond .ne 20, 3) := by decide +kernel
theorem dX12_cell_62 : decode cX12_cell 62 = .ok (.iload 5, 2) := by decide +kernel
theorem dX12_cell_64 : decode cX12_cell 64 = .ok (.ifCond .eq 13, 3) := by decide +kernel
theorem dX12_cell_67 : decode cX12_cell 67 = .ok (.aload_n 0, 1) := by decide +kernel
theorem dX12_cell_68 : decode cX12_cell 68 = .ok (.getfield 33, 3) := by decide +kernel
theorem dX12_cell_71 : decode cX12_cell 71 = .ok (.iload 4, 2) := by decide +kernel
theorem dX12_cell_73 : decode cX12_cell 73 = .ok (.iaload, 1) := by decide +kernel
theorem dX12_cell_74 : decode cX12_cell 74 = .ok (.goto 4, 3) := by decide +kernel
theorem dX12_cell_77 : decode cX12_cell 77 = .ok (.iconst 0, 1) := by decide +kernel
theorem dX12_cell_78 : decode cX12_cell 78 = .ok (.ireturn, 1) := by decide +kernel
theorem dX12_cell_79 : decode cX12_cell 79 = .ok (.iload_n 3, 1) := by decide +kernel
theorem dX12_cell_80 : decode cX12_cell 80 = .ok (.iconst 1, 1) := by decide +kernel
theorem dX12_cell_81 : decode cX12_cell 81 = .ok (.if_icmp .ne 34, 3) := by decide +kernel
theorem dX12_cell_84 : decode cX12_cell 84 = .ok (.iload 5, 2) := by decide +kernel
theorem dX12_cell_86 : decode cX12_cell 86 = .ok (.ifCond .ne 13, 3) := by decide +kernel
theorem dX12_cell_89 : decode cX12_cell 89 = .ok (.aload_n 0, 1) := by decide +kernel
theorem dX12_cell_90 : decode cX12_cell 90 = .ok (.getfield 39, 3) := by decide +kernel
theorem dX12_cell_93 : decode cX12_cell 93 = .ok (.iload 4, 2) := by decide +kernel
theorem dX12_cell_95 : decode cX12_cell 95 = .ok (.iaload, 1) := by decide +kernel
theorem dX12_cell_96 : decode cX12_cell 96 = .ok (.goto 18, 3) := by decide +kernel
theorem dX12_cell_99 : decode cX12_cell 99 = .ok (.aload_n 0, 1) := by decide +kernel
theorem dX12_cell_100 : decode cX12_cell 100 = .ok (.getfield 46, 3) := by decide +kernel
theorem dX12_cell_103 : decode cX12_cell 103 = .ok (.iload 4, 2) := by decide +kernel
theorem dX12_cell_105 : decode cX12_cell 105 = .ok (.baload, 1) := by decide +kernel
theorem dX12_cell_106 : decode cX12_cell 106 = .ok (.ifCond .eq 7, 3) := by decide +kernel
theorem dX12_cell_109 : decode cX12_cell 109 = .ok (.iconst 3, 1) := by decide +kernel
theorem dX12_cell_110 : decode cX12_cell 110 = .ok (.goto 4, 3) := by decide +kernel
theorem dX12_cell_113 : decode cX12_cell 113 = .ok (.iconst 0, 1) := by decide +kernel
theorem dX12_cell_114 : decode cX12_cell 114 = .ok (.ireturn, 1) := by decide +kernel
theorem dX12_cell_115 : decode cX12_cell 115 = .ok (.iload_n 3, 1) := by decide +kernel
theorem dX12_cell_116 : decode cX12_cell 116 = .ok (.iconst 2, 1) := by decide +kernel
theorem dX12_cell_117 : decode cX12_cell 117 = .ok (.if_icmp .ne 19, 3) := by decide +kernel
theorem dX12_cell_120 : decode cX12_cell 120 = .ok (.aload_n 0, 1) := by decide +kernel
theorem dX12_cell_121 : decode cX12_cell 121 = .ok (.getfield 42, 3) := by decide +kernel
theorem dX12_cell_124 : decode cX12_cell 124 = .ok (.iload 4, 2) := by decide +kernel
theorem dX12_cell_126 : decode cX12_cell 126 = .ok (.baload, 1) := by decide +kernel
theorem dX12_cell_127 : decode cX12_cell 127 = .ok (.ifCond .eq 7, 3) := by decide +kernel
theorem dX12_cell_130 : decode cX12_cell 130 = .ok (.iconst 1, 1) := by decide +kernel
theorem dX12_cell_131 : decode cX12_cell 131 = .ok (.goto 4, 3) := by decide +kernel
theorem dX12_cell_134 : decode cX12_cell 134 = .ok (.iconst 0, 1) := by decide +kernel
theorem dX12_cell_135 : decode cX12_cell 135 = .ok (.ireturn, 1) := by decide +kernel
theorem dX12_cell_136 : decode cX12_cell 136 = .ok (.aload_n 0, 1) := by decide +kernel
theorem dX12_cell_137 : decode cX12_cell 137 = .ok (.iconst 0, 1) := by decide +kernel
theorem dX12_cell_138 : decode cX12_cell 138 = .ok (.invokevirtual 233, 3) := by decide +kernel
theorem dX12_cell_141 : decode cX12_cell 141 = .ok (.iload_n 3, 1) := by decide +kernel
theorem dX12_cell_142 : decode cX12_cell 142 = .ok (.iconst 3, 1) := by decide +kernel
theorem dX12_cell_143 : decode cX12_cell 143 = .ok (.if_icmp .ne 25, 3) := by decide +kernel
theorem dX12_cell_146 : decode cX12_cell 146 = .ok (.iload 5, 2) := by decide +kernel
theorem dX12_cell_148 : decode cX12_cell 148 = .ok (.ifCond .eq 18, 3) := by decide +kernel
theorem dX12_cell_151 : decode cX12_cell 151 = .ok (.aload_n 0, 1) := by decide +kernel
theorem dX12_cell_152 : decode cX12_cell 152 = .ok (.getfield 86, 3) := by decide +kernel
theorem dX12_cell_155 : decode cX12_cell 155 = .ok (.aload_n 0, 1) := by decide +kernel
theorem dX12_cell_156 : decode cX12_cell 156 = .ok (.getfield 80, 3) := by decide +kernel
theorem dX12_cell_159 : decode cX12_cell 159 = .ok (.iload 4, 2) := by decide +kernel
theorem dX12_cell_161 : decode cX12_cell 161 = .ok (.iaload, 1) := by decide +kernel
theorem dX12_cell_162 : decode cX12_cell 162 = .ok (.iaload, 1) := by decide +kernel
theorem dX12_cell_163 : decode cX12_cell 163 = .ok (.goto 4, 3) := by decide +kernel
theorem dX12_cell_166 : decode cX12_cell 166 = .ok (.iconst 0, 1) := by decide +kernel
theorem dX12_cell_167 : decode cX12_cell 167 = .ok (.ireturn, 1) := by decide +kernel
theorem dX12_cell_168 : decode cX12_cell 168 = .ok (.iload_n 3, 1) := by decide +kernel
theorem dX12_cell_169 : decode cX12_cell 169 = .ok (.iconst 4, 1) := by decide +kernel
theorem dX12_cell_170 : decode cX12_cell 170 = .ok (.if_icmp .ne 29, 3) := by decide +kernel
theorem dX12_cell_173 : decode cX12_cell 173 = .ok (.iload 5, 2) := by decide +kernel
theorem dX12_cell_175 : decode cX12_cell 175 = .ok (.ifCond .eq 22, 3) := by decide +kernel
theorem dX12_cell_178 : decode cX12_cell 178 = .ok (.aload_n 0, 1) := by decide +kernel
theorem dX12_cell_179 : decode cX12_cell 179 = .ok (.getfield 92, 3) := by decide +kernel
theorem dX12_cell_182 : decode cX12_cell 182 = .ok (.aload_n 0, 1) := by decide +kernel
theorem dX12_cell_183 : decode cX12_cell 183 = .ok (.getfield 80, 3) := by decide +kernel
theorem dX12_cell_186 : decode cX12_cell 186 = .ok (.iload 4, 2) := by decide +kernel
theorem dX12_cell_188 : decode cX12_cell 188 = .ok (.iaload, 1) := by decide +kernel
theorem dX12_cell_189 : decode cX12_cell 189 = .ok (.baload, 1) := by decide +kernel
theorem dX12_cell_190 : decode cX12_cell 190 = .ok (.ifCond .eq 7, 3) := by decide +kernel
theorem dX12_cell_193 : decode cX12_cell 193 = .ok (.iconst 1, 1) := by decide +kernel
theorem dX12_cell_194 : decode cX12_cell 194 = .ok (.goto 4, 3) := by decide +kernel
theorem dX12_cell_197 : decode cX12_cell 197 = .ok (.iconst 0, 1) := by decide +kernel
theorem dX12_cell_198 : decode cX12_cell 198 = .ok (.ireturn, 1) := by decide +kernel
theorem dX12_cell_199 : decode cX12_cell 199 = .ok (.iload 5, 2) := by decide +kernel
theorem dX12_cell_201 : decode cX12_cell 201 = .ok (.ifCond .eq 12, 3) := by decide +kernel
theorem dX12_cell_204 : decode cX12_cell 204 = .ok (.aload_n 0, 1) := by decide +kernel
theorem dX12_cell_205 : decode cX12_cell 205 = .ok (.iload_n 1, 1) := by decide +kernel
theorem dX12_cell_206 : decode cX12_cell 206 = .ok (.iload_n 2, 1) := by decide +kernel
theorem dX12_cell_207 : decode cX12_cell 207 = .ok (.invokevirtual 375, 3) := by decide +kernel
theorem dX12_cell_210 : decode cX12_cell 210 = .ok (.goto 4, 3) := by decide +kernel
theorem dX12_cell_213 : decode cX12_cell 213 = .ok (.iconst (-1), 1) := by decide +kernel
theorem dX12_cell_214 : decode cX12_cell 214 = .ok (.ireturn, 1) := by decide +kernel
theorem dX12_look_0 : decode cX12_look 0 = .ok (.aload_n 0, 1) := by decide +kernel
theorem dX12_look_1 : decode cX12_look 1 = .ok (.iconst 0, 1) := by decide +kernel
theorem dX12_look_2 : decode cX12_look 2 = .ok (.putfield 167, 3) := by decide +kernel
theorem dX12_look_5 : decode cX12_look 5 = .ok (.aload_n 0, 1) := by decide +kernel
theorem dX12_look_6 : decode cX12_look 6 = .ok (.iload_n 1, 1) := by decide +kernel
theorem dX12_look_7 : decode cX12_look 7 = .ok (.iconst 0, 1) := by decide +kernel
theorem dX12_look_8 : decode cX12_look 8 = .ok (.bipush 13, 2) := by decide +kernel
theorem dX12_look_10 : decode cX12_look 10 = .ok (.invokevirtual 170, 3) := by decide +kernel
theorem dX12_look_13 : decode cX12_look 13 = .ok (.ifCond .ne 5, 3) := by decide +kernel
theorem dX12_look_16 : decode cX12_look 16 = .ok (.iconst (-1), 1) := by decide +kernel
theorem dX12_look_17 : decode cX12_look 17 = .ok (.ireturn, 1) := by decide +kernel
theorem dX12_look_18 : decode cX12_look 18 = .ok (.aload_n 0, 1) := by decide +kernel
theorem dX12_look_19 : decode cX12_look 19 = .ok (.getfield 174, 3) := by decide +kernel
theorem dX12_look_22 : decode cX12_look 22 = .ok (.ifCond .ne 5, 3) := by decide +kernel
theorem dX12_look_25 : decode cX12_look 25 = .ok (.iconst 0, 1) := by decide +kernel
theorem dX12_look_26 : decode cX12_look 26 = .ok (.ireturn, 1) := by decide +kernel
theorem dX12_look_27 : decode cX12_look 27 = .ok (.iload_n 1, 1) := by decide +kernel
theorem dX12_look_28 : decode cX12_look 28 = .ok (.ifCond .ne 10, 3) := by decide +kernel
theorem dX12_look_31 : decode cX12_look 31 = .ok (.aload_n 0, 1) := by decide +kernel
theorem dX12_look_32 : decode cX12_look 32 = .ok (.getfield 61, 3) := by decide +kernel
theorem dX12_look_35 : decode cX12_look 35 = .ok (.iconst 0, 1) := by decide +kernel
theorem dX12_look_36 : decode cX12_look 36 = .ok (.iaload, 1) := by decide +kernel
theorem dX12_look_37 : decode cX12_look 37 = .ok (.ireturn, 1) := by decide +kernel
theorem dX12_look_38 : decode cX12_look 38 = .ok (.iload_n 1, 1) := by decide +kernel
theorem dX12_look_39 : decode cX12_look 39 = .ok (.iconst 1, 1) := by decide +kernel
theorem dX12_look_40 : decode cX12_look 40 = .ok (.if_icmp .ne 10, 3) := by decide +kernel
theorem dX12_look_43 : decode cX12_look 43 = .ok (.aload_n 0, 1) := by decide +kernel
theorem dX12_look_44 : decode cX12_look 44 = .ok (.getfield 49, 3) := by decide +kernel
theorem dX12_look_47 : decode cX12_look 47 = .ok (.iconst 0, 1) := by decide +kernel
theorem dX12_look_48 : decode cX12_look 48 = .ok (.iaload, 1) := by decide +kernel
theorem dX12_look_49 : decode cX12_look 49 = .ok (.ireturn, 1) := by decide +kernel
theorem dX12_look_50 : decode cX12_look 50 = .ok (.iload_n 1, 1) := by decide +kernel
theorem dX12_look_51 : decode cX12_look 51 = .ok (.iconst 2, 1) := by decide +kernel
theorem dX12_look_52 : decode cX12_look 52 = .ok (.if_icmp .ne 10, 3) := by decide +kernel
theorem dX12_look_55 : decode cX12_look 55 = .ok (.aload_n 0, 1) := by decide +kernel
theorem dX12_look_56 : decode cX12_look 56 = .ok (.getfield 52, 3) := by decide +kernel
theorem dX12_look_59 : decode cX12_look 59 = .ok (.iconst 0, 1) := by decide +kernel
theorem dX12_look_60 : decode cX12_look 60 = .ok (.iaload, 1) := by decide +kernel
theorem dX12_look_61 : decode cX12_look 61 = .ok (.ireturn, 1) := by decide +kernel
theorem dX12_look_62 : decode cX12_look 62 = .ok (.iload_n 1, 1) := by decide +kernel
theorem dX12_look_63 : decode cX12_look 63 = .ok (.iconst 3, 1) := by decide +kernel
theorem dX12_look_64 : decode cX12_look 64 = .ok (.if_icmp .ne 18, 3) := by decide +kernel
theorem dX12_look_67 : decode cX12_look 67 = .ok (.aload_n 0, 1) := by decide +kernel
theorem dX12_look_68 : decode cX12_look 68 = .ok (.getfield 55, 3) := by decide +kernel
theorem dX12_look_71 : decode cX12_look 71 = .ok (.iconst 0, 1) := by decide +kernel
theorem dX12_look_72 : decode cX12_look 72 = .ok (.baload, 1) := by decide +kernel
theorem dX12_look_73 : decode cX12_look 73 = .ok (.ifCond .eq 7, 3) := by decide +kernel
theorem dX12_look_76 : decode cX12_look 76 = .ok (.iconst 1, 1) := by decide +kernel
theorem dX12_look_77 : decode cX12_look 77 = .ok (.goto 4, 3) := by decide +kernel
theorem dX12_look_80 : decode cX12_look 80 = .ok (.iconst 0, 1) := by decide +kernel
theorem dX12_look_81 : decode cX12_look 81 = .ok (.ireturn, 1) := by decide +kernel
theorem dX12_look_82 : decode cX12_look 82 = .ok (.iload_n 1, 1) := by decide +kernel
theorem dX12_look_83 : decode cX12_look 83 = .ok (.iconst 4, 1) := by decide +kernel
theorem dX12_look_84 : decode cX12_look 84 = .ok (.if_icmp .ne 10, 3) := by decide +kernel
theorem dX12_look_87 : decode cX12_look 87 = .ok (.aload_n 0, 1) := by decide +kernel
theorem dX12_look_88 : decode cX12_look 88 = .ok (.getfield 58, 3) := by decide +kernel
theorem dX12_look_91 : decode cX12_look 91 = .ok (.iconst 0, 1) := by decide +kernel
theorem dX12_look_92 : decode cX12_look 92 = .ok (.iaload, 1) := by decide +kernel
theorem dX12_look_93 : decode cX12_look 93 = .ok (.ireturn, 1) := by decide +kernel
theorem dX12_look_94 : decode cX12_look 94 = .ok (.iload_n 1, 1) := by decide +kernel
theorem dX12_look_95 : decode cX12_look 95 = .ok (.iconst 5, 1) := by decide +kernel
theorem dX12_look_96 : decode cX12_look 96 = .ok (.if_icmp .ne 10, 3) := by decide +kernel
theorem dX12_look_99 : decode cX12_look 99 = .ok (.aload_n 0, 1) := by decide +kernel
theorem dX12_look_100 : decode cX12_look 100 = .ok (.getfield 64, 3) := by decide +kernel
theorem dX12_look_103 : decode cX12_look 103 = .ok (.iconst 0, 1) := by decide +kernel
theorem dX12_look_104 : decode cX12_look 104 = .ok (.iaload, 1) := by decide +kernel
theorem dX12_look_105 : decode cX12_look 105 = .ok (.ireturn, 1) := by decide +kernel
theorem dX12_look_106 : decode cX12_look 106 = .ok (.iload_n 1, 1) := by decide +kernel
theorem dX12_look_107 : decode cX12_look 107 = .ok (.bipush 11, 2) := by decide +kernel
theorem dX12_look_109 : decode cX12_look 109 = .ok (.if_icmp .ge 13, 3) := by decide +kernel
theorem dX12_look_112 : decode cX12_look 112 = .ok (.aload_n 0, 1) := by decide +kernel
theorem dX12_look_113 : decode cX12_look 113 = .ok (.iconst 0, 1) := by decide +kernel
theorem dX12_look_114 : decode cX12_look 114 = .ok (.iload_n 1, 1) := by decide +kernel
theorem dX12_look_115 : decode cX12_look 115 = .ok (.bipush 6, 2) := by decide +kernel
theorem dX12_look_117 : decode cX12_look 117 = .ok (.isub, 1) := by decide +kernel
theorem dX12_look_118 : decode cX12_look 118 = .ok (.invokevirtual 378, 3) := by decide +kernel
theorem dX12_look_121 : decode cX12_look 121 = .ok (.ireturn, 1) := by decide +kernel
theorem dX12_look_122 : decode cX12_look 122 = .ok (.iload_n 1, 1) := by decide +kernel
theorem dX12_look_123 : decode cX12_look 123 = .ok (.bipush 13, 2) := by decide +kernel
theorem dX12_look_125 : decode cX12_look 125 = .ok (.if_icmp .ne 10, 3) := by decide +kernel
theorem dX12_look_128 : decode cX12_look 128 = .ok (.aload_n 0, 1) := by decide +kernel
theorem dX12_look_129 : decode cX12_look 129 = .ok (.getfield 67, 3) := by decide +kernel
theorem dX12_look_132 : decode cX12_look 132 = .ok (.iconst 0, 1) := by decide +kernel
theorem dX12_look_133 : decode cX12_look 133 = .ok (.iaload, 1) := by decide +kernel
theorem dX12_look_134 : decode cX12_look 134 = .ok (.ireturn, 1) := by decide +kernel
theorem dX12_look_135 : decode cX12_look 135 = .ok (.aload_n 0, 1) := by decide +kernel
theorem dX12_look_136 : decode cX12_look 136 = .ok (.iconst 0, 1) := by decide +kernel
theorem dX12_look_137 : decode cX12_look 137 = .ok (.invokevirtual 233, 3) := by decide +kernel
theorem dX12_look_140 : decode cX12_look 140 = .ok (.iconst 0, 1) := by decide +kernel
theorem dX12_look_141 : decode cX12_look 141 = .ok (.istore_n 2, 1) := by decide +kernel
theorem dX12_look_142 : decode cX12_look 142 = .ok (.iconst 1, 1) := by decide +kernel
theorem dX12_look_143 : decode cX12_look 143 = .ok (.istore_n 3, 1) := by decide +kernel
theorem dX12_look_144 : decode cX12_look 144 = .ok (.iload_n 3, 1) := by decide +kernel
theorem dX12_look_145 : decode cX12_look 145 = .ok (.aload_n 0, 1) := by decide +kernel
theorem dX12_look_146 : decode cX12_look 146 = .ok (.getfield 226, 3) := by decide +kernel
theorem dX12_look_149 : decode cX12_look 149 = .ok (.if_icmp .gt 22, 3) := by decide +kernel
theorem dX12_look_152 : decode cX12_look 152 = .ok (.aload_n 0, 1) := by decide +kernel
theorem dX12_look_153 : decode cX12_look 153 = .ok (.getfield 92, 3) := by decide +kernel
theorem dX12_look_156 : decode cX12_look 156 = .ok (.iload_n 3, 1) := by decide +kernel
theorem dX12_look_157 : decode cX12_look 157 = .ok (.baload, 1) := by decide +kernel
theorem dX12_look_158 : decode cX12_look 158 = .ok (.ifCond .ne 7, 3) := by decide +kernel
theorem dX12_look_161 : decode cX12_look 161 = .ok (.iload_n 2, 1) := by decide +kernel
theorem dX12_look_162 : decode cX12_look 162 = .ok (.iconst 1, 1) := by decide +kernel
theorem dX12_look_163 : decode cX12_look 163 = .ok (.iadd, 1) := by decide +kernel
theorem dX12_look_164 : decode cX12_look 164 = .ok (.istore_n 2, 1) := by decide +kernel
theorem dX12_look_165 : decode cX12_look 165 = .ok (.iinc 3 1, 3) := by decide +kernel
theorem dX12_look_168 : decode cX12_look 168 = .ok (.goto (-24), 3) := by decide +kernel
theorem dX12_look_171 : decode cX12_look 171 = .ok (.iload_n 1, 1) := by decide +kernel
theorem dX12_look_172 : decode cX12_look 172 = .ok (.bipush 11, 2) := by decide +kernel
theorem dX12_look_174 : decode cX12_look 174 = .ok (.if_icmp .ne 10, 3) := by decide +kernel
theorem dX12_look_177 : decode cX12_look 177 = .ok (.aload_n 0, 1) := by decide +kernel
theorem dX12_look_178 : decode cX12_look 178 = .ok (.getfield 226, 3) := by decide +kernel
theorem dX12_look_181 : decode cX12_look 181 = .ok (.goto 4, 3) := by decide +kernel
theorem dX12_look_184 : decode cX12_look 184 = .ok (.iload_n 2, 1) := by decide +kernel
theorem dX12_look_185 : decode cX12_look 185 = .ok (.ireturn, 1) := by decide +kernel
theorem dX12_heat_0 : decode cX12_heat 0 = .ok (.aload_n 0, 1) := by decide +kernel
theorem dX12_heat_1 : decode cX12_heat 1 = .ok (.iconst 0, 1) := by decide +kernel
theorem dX12_heat_2 : decode cX12_heat 2 = .ok (.putfield 167, 3) := by decide +kernel
theorem dX12_heat_5 : decode cX12_heat 5 = .ok (.iload_n 1, 1) := by decide +kernel
theorem dX12_heat_6 : decode cX12_heat 6 = .ok (.ifCond .ne 10, 3) := by decide +kernel
theorem dX12_heat_9 : decode cX12_heat 9 = .ok (.aload_n 0, 1) := by decide +kernel
theorem dX12_heat_10 : decode cX12_heat 10 = .ok (.getfield 70, 3) := by decide +kernel
theorem dX12_heat_13 : decode cX12_heat 13 = .ok (.iconst 0, 1) := by decide +kernel
theorem dX12_heat_14 : decode cX12_heat 14 = .ok (.laload, 1) := by decide +kernel
theorem dX12_heat_15 : decode cX12_heat 15 = .ok (.lreturn, 1) := by decide +kernel
theorem dX12_heat_16 : decode cX12_heat 16 = .ok (.iload_n 1, 1) := by decide +kernel
theorem dX12_heat_17 : decode cX12_heat 17 = .ok (.iconst 2, 1) := by decide +kernel
theorem dX12_heat_18 : decode cX12_heat 18 = .ok (.if_icmp .ne 10, 3) := by decide +kernel
theorem dX12_heat_21 : decode cX12_heat 21 = .ok (.aload_n 0, 1) := by decide +kernel
theorem dX12_heat_22 : decode cX12_heat 22 = .ok (.getfield 74, 3) := by decide +kernel
theorem dX12_heat_25 : decode cX12_heat 25 = .ok (.iconst 0, 1) := by decide +kernel
theorem dX12_heat_26 : decode cX12_heat 26 = .ok (.laload, 1) := by decide +kernel
theorem dX12_heat_27 : decode cX12_heat 27 = .ok (.lreturn, 1) := by decide +kernel
theorem dX12_heat_28 : decode cX12_heat 28 = .ok (.iload_n 1, 1) := by decide +kernel
theorem dX12_heat_29 : decode cX12_heat 29 = .ok (.iconst 3, 1) := by decide +kernel
theorem dX12_heat_30 : decode cX12_heat 30 = .ok (.if_icmp .ne 10, 3) := by decide +kernel
theorem dX12_heat_33 : decode cX12_heat 33 = .ok (.aload_n 0, 1) := by decide +kernel
theorem dX12_heat_34 : decode cX12_heat 34 = .ok (.getfield 77, 3) := by decide +kernel
theorem dX12_heat_37 : decode cX12_heat 37 = .ok (.iconst 0, 1) := by decide +kernel
theorem dX12_heat_38 : decode cX12_heat 38 = .ok (.laload, 1) := by decide +kernel
theorem dX12_heat_39 : decode cX12_heat 39 = .ok (.lreturn, 1) := by decide +kernel
theorem dX12_heat_40 : decode cX12_heat 40 = .ok (.iload_n 1, 1) := by decide +kernel
theorem dX12_heat_41 : decode cX12_heat 41 = .ok (.iconst 1, 1) := by decide +kernel
theorem dX12_heat_42 : decode cX12_heat 42 = .ok (.if_icmp .eq 7, 3) := by decide +kernel
theorem dX12_heat_45 : decode cX12_heat 45 = .ok (.ldc2_w 381, 3) := by decide +kernel
theorem dX12_heat_48 : decode cX12_heat 48 = .ok (.lreturn, 1) := by decide +kernel
theorem dX12_heat_49 : decode cX12_heat 49 = .ok (.lconst 0, 1) := by decide +kernel
theorem dX12_heat_50 : decode cX12_heat 50 = .ok (.lstore_n 2, 1) := by decide +kernel
theorem dX12_heat_51 : decode cX12_heat 51 = .ok (.iconst 0, 1) := by decide +kernel
theorem dX12_heat_52 : decode cX12_heat 52 = .ok (.istore 4, 2) := by decide +kernel
theorem dX12_heat_54 : decode cX12_heat 54 = .ok (.iload 4, 2) := by decide +kernel
theorem dX12_heat_56 : decode cX12_heat 56 = .ok (.sipush 192, 3) := by decide +kernel
theorem dX12_heat_59 : decode cX12_heat 59 = .ok (.if_icmp .ge 20, 3) := by decide +kernel
theorem dX12_heat_62 : decode cX12_heat 62 = .ok (.lload_n 2, 1) := by decide +kernel
theorem dX12_heat_63 : decode cX12_heat 63 = .ok (.aload_n 0, 1) := by decide +kernel
theorem dX12_heat_64 : decode cX12_heat 64 = .ok (.getfield 33, 3) := by decide +kernel
theorem dX12_heat_67 : decode cX12_heat 67 = .ok (.iload 4, 2) := by decide +kernel
theorem dX12_heat_69 : decode cX12_heat 69 = .ok (.iaload, 1) := by decide +kernel
theorem dX12_heat_70 : decode cX12_heat 70 = .ok (.i2l, 1) := by decide +kernel
theorem dX12_heat_71 : decode cX12_heat 71 = .ok (.ladd, 1) := by decide +kernel
theorem dX12_heat_72 : decode cX12_heat 72 = .ok (.lstore_n 2, 1) := by decide +kernel
theorem dX12_heat_73 : decode cX12_heat 73 = .ok (.iinc 4 1, 3) := by decide +kernel
theorem dX12_heat_76 : decode cX12_heat 76 = .ok (.goto (-22), 3) := by decide +kernel
theorem dX12_heat_79 : decode cX12_heat 79 = .ok (.lload_n 2, 1) := by decide +kernel
theorem dX12_heat_80 : decode cX12_heat 80 = .ok (.lreturn, 1) := by decide +kernel
theorem dX12_ones_0 : decode cX12_ones 0 = .ok (.iconst 0, 1) := by decide +kernel
theorem dX12_ones_1 : decode cX12_ones 1 = .ok (.istore_n 2, 1) := by decide +kernel
theorem dX12_ones_2 : decode cX12_ones 2 = .ok (.iload_n 1, 1) := by decide +kernel
theorem dX12_ones_3 : decode cX12_ones 3 = .ok (.istore_n 3, 1) := by decide +kernel
theorem dX12_ones_4 : decode cX12_ones 4 = .ok (.iload_n 3, 1) := by decide +kernel
theorem dX12_ones_5 : decode cX12_ones 5 = .ok (.ifCond .eq 16, 3) := by decide +kernel
theorem dX12_ones_8 : decode cX12_ones 8 = .ok (.iload_n 2, 1) := by decide +kernel
theorem dX12_ones_9 : decode cX12_ones 9 = .ok (.iconst 1, 1) := by decide +kernel
theorem dX12_ones_10 : decode cX12_ones 10 = .ok (.iadd, 1) := by decide +kernel
theorem dX12_ones_11 : decode cX12_ones 11 = .ok (.istore_n 2, 1) := by decide +kernel
theorem dX12_ones_12 : decode cX12_ones 12 = .ok (.iload_n 3, 1) := by decide +kernel
theorem dX12_ones_13 : decode cX12_ones 13 = .ok (.iload_n 3, 1) := by decide +kernel
theorem dX12_ones_14 : decode cX12_ones 14 = .ok (.iconst 1, 1) := by decide +kernel
theorem dX12_ones_15 : decode cX12_ones 15 = .ok (.isub, 1) := by decide +kernel
theorem dX12_ones_16 : decode cX12_ones 16 = .ok (.iand, 1) := by decide +kernel
theorem dX12_ones_17 : decode cX12_ones 17 = .ok (.istore_n 3, 1) := by decide +kernel
theorem dX12_ones_18 : decode cX12_ones 18 = .ok (.goto (-14), 3) := by decide +kernel
theorem dX12_ones_21 : decode cX12_ones 21 = .ok (.iload_n 2, 1) := by decide +kernel
theorem dX12_ones_22 : decode cX12_ones 22 = .ok (.ireturn, 1) := by decide +kernel
theorem dX12_order_0 : decode cX12_order 0 = .ok (.aload_n 0, 1) := by decide +kernel
theorem dX12_order_1 : decode cX12_order 1 = .ok (.iconst 0, 1) := by decide +kernel
theorem dX12_order_2 : decode cX12_order 2 = .ok (.putfield 167, 3) := by decide +kernel
theorem dX12_order_5 : decode cX12_order 5 = .ok (.aload_n 0, 1) := by decide +kernel
theorem dX12_order_6 : decode cX12_order 6 = .ok (.iload_n 1, 1) := by decide +kernel
theorem dX12_order_7 : decode cX12_order 7 = .ok (.iconst 1, 1) := by decide +kernel
theorem dX12_order_8 : decode cX12_order 8 = .ok (.sipush 255, 3) := by decide +kernel
theorem dX12_order_11 : decode cX12_order 11 = .ok (.invokevirtual 170, 3) := by decide +kernel
theorem dX12_order_14 : decode cX12_order 14 = .ok (.ifCond .eq 29, 3) := by decide +kernel
theorem dX12_order_17 : decode cX12_order 17 = .ok (.aload_n 0, 1) := by decide +kernel
theorem dX12_order_18 : decode cX12_order 18 = .ok (.iload_n 1, 1) := by decide +kernel
theorem dX12_order_19 : decode cX12_order 19 = .ok (.invokevirtual 383, 3) := by decide +kernel
theorem dX12_order_22 : decode cX12_order 22 = .ok (.iconst 3, 1) := by decide +kernel
theorem dX12_order_23 : decode cX12_order 23 = .ok (.if_icmp .gt 20, 3) := by decide +kernel
theorem dX12_order_26 : decode cX12_order 26 = .ok (.aload_n 0, 1) := by decide +kernel
theorem dX12_order_27 : decode cX12_order 27 = .ok (.getfield 174, 3) := by decide +kernel
theorem dX12_order_30 : decode cX12_order 30 = .ok (.ifCond .eq 13, 3) := by decide +kernel
theorem dX12_order_33 : decode cX12_order 33 = .ok (.aload_n 0, 1) := by decide +kernel
theorem dX12_order_34 : decode cX12_order 34 = .ok (.iload_n 2, 1) := by decide +kernel
theorem dX12_order_35 : decode cX12_order 35 = .ok (.iconst 0, 1) := by decide +kernel
theorem dX12_order_36 : decode cX12_order 36 = .ok (.iconst 2, 1) := by decide +kernel
theorem dX12_order_37 : decode cX12_order 37 = .ok (.invokevirtual 170, 3) := by decide +kernel
theorem dX12_order_40 : decode cX12_order 40 = .ok (.ifCond .ne 5, 3) := by decide +kernel
theorem dX12_order_43 : decode cX12_order 43 = .ok (.iconst (-1), 1) := by decide +kernel
theorem dX12_order_44 : decode cX12_order 44 = .ok (.ireturn, 1) := by decide +kernel
theorem dX12_order_45 : decode cX12_order 45 = .ok (.aload_n 0, 1) := by decide +kernel
theorem dX12_order_46 : decode cX12_order 46 = .ok (.iload_n 1, 1) := by decide +kernel
theorem dX12_order_47 : decode cX12_order 47 = .ok (.invokevirtual 383, 3) := by decide +kernel
theorem dX12_order_50 : decode cX12_order 50 = .ok (.istore_n 3, 1) := by decide +kernel
theorem dX12_order_51 : decode cX12_order 51 = .ok (.iconst (-1), 1) := by decide +kernel
theorem dX12_order_52 : decode cX12_order 52 = .ok (.istore 4, 2) := by decide +kernel
theorem dX12_order_54 : decode cX12_order 54 = .ok (.iconst 0, 1) := by decide +kernel
theorem dX12_order_55 : decode cX12_order 55 = .ok (.istore 5, 2) := by decide +kernel
theorem dX12_order_57 : decode cX12_order 57 = .ok (.iconst 0, 1) := by decide +kernel
theorem dX12_order_58 : decode cX12_order 58 = .ok (.istore 6, 2) := by decide +kernel
theorem dX12_order_60 : decode cX12_order 60 = .ok (.iconst 0, 1) := by decide +kernel
theorem dX12_order_61 : decode cX12_order 61 = .ok (.istore 7, 2) := by decide +kernel
theorem dX12_order_63 : decode cX12_order 63 = .ok (.iload 7, 2) := by decide +kernel
theorem dX12_order_65 : decode cX12_order 65 = .ok (.iconst 1, 1) := by decide +kernel
theorem dX12_order_66 : decode cX12_order 66 = .ok (.iconst 3, 1) := by decide +kernel
theorem dX12_order_67 : decode cX12_order 67 = .ok (.iload_n 3, 1) := by decide +kernel
theorem dX12_order_68 : decode cX12_order 68 = .ok (.imul, 1) := by decide +kernel
theorem dX12_order_69 : decode cX12_order 69 = .ok (.ishl, 1) := by decide +kernel
theorem dX12_order_70 : decode cX12_order 70 = .ok (.if_icmp .ge 123, 3) := by decide +kernel
theorem dX12_order_73 : decode cX12_order 73 = .ok (.aload_n 0, 1) := by decide +kernel
theorem dX12_order_74 : decode cX12_order 74 = .ok (.iload 7, 2) := by decide +kernel
theorem dX12_order_76 : decode cX12_order 76 = .ok (.iload_n 3, 1) := by decide +kernel
theorem dX12_order_77 : decode cX12_order 77 = .ok (.iload_n 1, 1) := by decide +kernel
theorem dX12_order_78 : decode cX12_order 78 = .ok (.invokevirtual 386, 3) := by decide +kernel
theorem dX12_order_81 : decode cX12_order 81 = .ok (.ifCond .ne 6, 3) := by decide +kernel
theorem dX12_order_84 : decode cX12_order 84 = .ok (.goto 103, 3) := by decide +kernel
theorem dX12_order_87 : decode cX12_order 87 = .ok (.aload_n 0, 1) := by decide +kernel
theorem dX12_order_88 : decode cX12_order 88 = .ok (.invokevirtual 389, 3) := by decide +kernel
theorem dX12_order_91 : decode cX12_order 91 = .ok (.iload_n 3, 1) := by decide +kernel
theorem dX12_order_92 : decode cX12_order 92 = .ok (.iconst 1, 1) := by decide +kernel
theorem dX12_order_93 : decode cX12_order 93 = .ok (.isub, 1) := by decide +kernel
theorem dX12_order_94 : decode cX12_order 94 = .ok (.istore 8, 2) := by decide +kernel
theorem dX12_order_96 : decode cX12_order 96 = .ok (.iload 8, 2) := by decide +kernel
theorem dX12_order_98 : decode cX12_order 98 = .ok (.ifCond .lt 24, 3) := by decide +kernel
theorem dX12_order_101 : decode cX12_order 101 = .ok (.aload_n 0, 1) := by decide +kernel
theorem dX12_order_102 : decode cX12_order 102 = .ok (.iconst 1, 1) := by decide +kernel
theorem dX12_order_103 : decode cX12_order 103 = .ok (.iload 7, 2) := by decide +kernel
theorem dX12_order_105 : decode cX12_order 105 = .ok (.iconst 3, 1) := by decide +kernel
theorem dX12_order_106 : decode cX12_order 106 = .ok (.iload 8, 2) := by decide +kernel
theorem dX12_order_108 : decode cX12_order 108 = .ok (.imul, 1) := by decide +kernel
theorem dX12_order_109 : decode cX12_order 109 = .ok (.ishr, 1) := by decide +kernel
theorem dX12_order_110 : decode cX12_order 110 = .ok (.bipush 7, 2) := by decide +kernel
theorem dX12_order_112 : decode cX12_order 112 = .ok (.iand, 1) := by decide +kernel
theorem dX12_order_113 : decode cX12_order 113 = .ok (.invokevirtual 372, 3) := by decide +kernel
theorem dX12_order_116 : decode cX12_order 116 = .ok (.iinc 8 (-1), 3) := by decide +kernel
theorem dX12_order_119 : decode cX12_order 119 = .ok (.goto (-23), 3) := by decide +kernel
theorem dX12_order_122 : decode cX12_order 122 = .ok (.aload_n 0, 1) := by decide +kernel
theorem dX12_order_123 : decode cX12_order 123 = .ok (.iconst 1, 1) := by decide +kernel
theorem dX12_order_124 : decode cX12_order 124 = .ok (.iconst 4, 1) := by decide +kernel
theorem dX12_order_125 : decode cX12_order 125 = .ok (.invokevirtual 378, 3) := by decide +kernel
theorem dX12_order_128 : decode cX12_order 128 = .ok (.istore 8, 2) := by decide +kernel
theorem dX12_order_130 : decode cX12_order 130 = .ok (.aload_n 0, 1) := by decide +kernel
theorem dX12_order_131 : decode cX12_order 131 = .ok (.getfield 61, 3) := by decide +kernel
theorem dX12_order_134 : decode cX12_order 134 = .ok (.iconst 1, 1) := by decide +kernel
theorem dX12_order_135 : decode cX12_order 135 = .ok (.iaload, 1) := by decide +kernel
theorem dX12_order_136 : decode cX12_order 136 = .ok (.aload_n 0, 1) := by decide +kernel
theorem dX12_order_137 : decode cX12_order 137 = .ok (.getfield 61, 3) := by decide +kernel
theorem dX12_order_140 : decode cX12_order 140 = .ok (.iconst 0, 1) := by decide +kernel
theorem dX12_order_141 : decode cX12_order 141 = .ok (.iaload, 1) := by decide +kernel
theorem dX12_order_142 : decode cX12_order 142 = .ok (.isub, 1) := by decide +kernel
theorem dX12_order_143 : decode cX12_order 143 = .ok (.istore 9, 2) := by decide +kernel
theorem dX12_order_145 : decode cX12_order 145 = .ok (.iload 4, 2) := by decide +kernel
theorem dX12_order_147 : decode cX12_order 147 = .ok (.iconst (-1), 1) := by decide +kernel
theorem dX12_order_148 : decode cX12_order 148 = .ok (.if_icmp .eq 27, 3) := by decide +kernel
theorem dX12_order_151 : decode cX12_order 151 = .ok (.iload 8, 2) := by decide +kernel
theorem dX12_order_153 : decode cX12_order 153 = .ok (.iload 5, 2) := by decide +kernel
theorem dX12_order_155 : decode cX12_order 155 = .ok (.if_icmp .gt 32, 3) := by decide +kernel
theorem dX12_order_158 : decode cX12_order 158 = .ok (.iload 8, 2) := by decide +kernel
theorem dX12_order_160 : decode cX12_order 160 = .ok (.iload 5, 2) := by decide +kernel
theorem dX12_order_162 : decode cX12_order 162 = .ok (.if_icmp .ne 13, 3) := by decide +kernel
theorem dX12_order_165 : decode cX12_order 165 = .ok (.iload 9, 2) := by decide +kernel
theorem dX12_order_167 : decode cX12_order 167 = .ok (.iload 6, 2) := by decide +kernel
theorem dX12_order_169 : decode cX12_order 169 = .ok (.if_icmp .lt 6, 3) := by decide +kernel
theorem dX12_order_172 : decode cX12_order 172 = .ok (.goto 15, 3) := by decide +kernel
theorem dX12_order_175 : decode cX12_order 175 = .ok (.iload 7, 2) := by decide +kernel
theorem dX12_order_177 : decode cX12_order 177 = .ok (.istore 4, 2) := by decide +kernel
theorem dX12_order_179 : decode cX12_order 179 = .ok (.iload 8, 2) := by decide +kernel
theorem dX12_order_181 : decode cX12_order 181 = .ok (.istore 5, 2) := by decide +kernel
theorem dX12_order_183 : decode cX12_order 183 = .ok (.iload 9, 2) := by decide +kernel
theorem dX12_order_185 : decode cX12_order 185 = .ok (.istore 6, 2) := by decide +kernel
theorem dX12_order_187 : decode cX12_order 187 = .ok (.iinc 7 1, 3) := by decide +kernel
theorem dX12_order_190 : decode cX12_order 190 = .ok (.goto (-127), 3) := by decide +kernel
theorem dX12_order_193 : decode cX12_order 193 = .ok (.iload_n 2, 1) := by decide +kernel
theorem dX12_order_194 : decode cX12_order 194 = .ok (.iconst 2, 1) := by decide +kernel
theorem dX12_order_195 : decode cX12_order 195 = .ok (.if_icmp .ge 15, 3) := by decide +kernel
theorem dX12_order_198 : decode cX12_order 198 = .ok (.iload_n 2, 1) := by decide +kernel
theorem dX12_order_199 : decode cX12_order 199 = .ok (.ifCond .ne 8, 3) := by decide +kernel
theorem dX12_order_202 : decode cX12_order 202 = .ok (.iload 5, 2) := by decide +kernel
theorem dX12_order_204 : decode cX12_order 204 = .ok (.goto 5, 3) := by decide +kernel
theorem dX12_order_207 : decode cX12_order 207 = .ok (.iload 6, 2) := by decide +kernel
theorem dX12_order_209 : decode cX12_order 209 = .ok (.ireturn, 1) := by decide +kernel
theorem dX12_order_210 : decode cX12_order 210 = .ok (.bipush 9, 2) := by decide +kernel
theorem dX12_order_212 : decode cX12_order 212 = .ok (.istore 7, 2) := by decide +kernel
theorem dX12_order_214 : decode cX12_order 214 = .ok (.iload_n 3, 1) := by decide +kernel
theorem dX12_order_215 : decode cX12_order 215 = .ok (.iconst 1, 1) := by decide +kernel
theorem dX12_order_216 : decode cX12_order 216 = .ok (.isub, 1) := by decide +kernel
theorem dX12_order_217 : decode cX12_order 217 = .ok (.istore 8, 2) := by decide +kernel
theorem dX12_order_219 : decode cX12_order 219 = .ok (.iload 8, 2) := by decide +kernel
theorem dX12_order_221 : decode cX12_order 221 = .ok (.ifCond .lt 27, 3) := by decide +kernel
theorem dX12_order_224 : decode cX12_order 224 = .ok (.bipush 10, 2) := by decide +kernel
theorem dX12_order_226 : decode cX12_order 226 = .ok (.iload 7, 2) := by decide +kernel
theorem dX12_order_228 : decode cX12_order 228 = .ok (.imul, 1) := by decide +kernel
theorem dX12_order_229 : decode cX12_order 229 = .ok (.iload 4, 2) := by decide +kernel
theorem dX12_order_231 : decode cX12_order 231 = .ok (.iconst 3, 1) := by decide +kernel
theorem dX12_order_232 : decode cX12_order 232 = .ok (.iload 8, 2) := by decide +kernel
theorem dX12_order_234 : decode cX12_order 234 = .ok (.imul, 1) := by decide +kernel
theorem dX12_order_235 : decode cX12_order 235 = .ok (.ishr, 1) := by decide +kernel
theorem dX12_order_236 : decode cX12_order 236 = .ok (.bipush 7, 2) := by decide +kernel
theorem dX12_order_238 : decode cX12_order 238 = .ok (.iand, 1) := by decide +kernel
theorem dX12_order_239 : decode cX12_order 239 = .ok (.iadd, 1) := by decide +kernel
theorem dX12_order_240 : decode cX12_order 240 = .ok (.istore 7, 2) := by decide +kernel
theorem dX12_order_242 : decode cX12_order 242 = .ok (.iinc 8 (-1), 3) := by decide +kernel
theorem dX12_order_245 : decode cX12_order 245 = .ok (.goto (-26), 3) := by decide +kernel
theorem dX12_order_248 : decode cX12_order 248 = .ok (.iload 7, 2) := by decide +kernel
theorem dX12_order_250 : decode cX12_order 250 = .ok (.ireturn, 1) := by decide +kernel
theorem dX12_speed_0 : decode cX12_speed 0 = .ok (.aload_n 0, 1) := by decide +kernel
theorem dX12_speed_1 : decode cX12_speed 1 = .ok (.iconst 0, 1) := by decide +kernel
theorem dX12_speed_2 : decode cX12_speed 2 = .ok (.putfield 167, 3) := by decide +kernel
theorem dX12_speed_5 : decode cX12_speed 5 = .ok (.aload_n 0, 1) := by decide +kernel
theorem dX12_speed_6 : decode cX12_speed 6 = .ok (.iload_n 1, 1) := by decide +kernel
theorem dX12_speed_7 : decode cX12_speed 7 = .ok (.iconst 0, 1) := by decide +kernel
theorem dX12_speed_8 : decode cX12_speed 8 = .ok (.iconst 3, 1) := by decide +kernel
theorem dX12_speed_9 : decode cX12_speed 9 = .ok (.invokevirtual 170, 3) := by decide +kernel
theorem dX12_speed_12 : decode cX12_speed 12 = .ok (.ifCond .eq 56, 3) := by decide +kernel
theorem dX12_speed_15 : decode cX12_speed 15 = .ok (.aload_n 0, 1) := by decide +kernel
theorem dX12_speed_16 : decode cX12_speed 16 = .ok (.iload_n 2, 1) := by decide +kernel
theorem dX12_speed_17 : decode cX12_speed 17 = .ok (.iconst 1, 1) := by decide +kernel
theorem dX12_speed_18 : decode cX12_speed 18 = .ok (.bipush 15, 2) := by decide +kernel
theorem dX12_speed_20 : decode cX12_speed 20 = .ok (.invokevirtual 170, 3) := by decide +kernel
theorem dX12_speed_23 : decode cX12_speed 23 = .ok (.ifCond .eq 45, 3) := by decide +kernel
theorem dX12_speed_26 : decode cX12_speed 26 = .ok (.aload_n 0, 1) := by decide +kernel
theorem dX12_speed_27 : decode cX12_speed 27 = .ok (.getfield 174, 3) := by decide +kernel
theorem dX12_speed_30 : decode cX12_speed 30 = .ok (.ifCond .eq 38, 3) := by decide +kernel
theorem dX12_speed_33 : decode cX12_speed 33 = .ok (.aload_n 0, 1) := by decide +kernel
theorem dX12_speed_34 : decode cX12_speed 34 = .ok (.aload_n 0, 1) := by decide +kernel
theorem dX12_speed_35 : decode cX12_speed 35 = .ok (.getfield 49, 3) := by decide +kernel
theorem dX12_speed_38 : decode cX12_speed 38 = .ok (.iconst 0, 1) := by decide +kernel
theorem dX12_speed_39 : decode cX12_speed 39 = .ok (.iaload, 1) := by decide +kernel
theorem dX12_speed_40 : decode cX12_speed 40 = .ok (.iload_n 2, 1) := by decide +kernel
theorem dX12_speed_41 : decode cX12_speed 41 = .ok (.aload_n 0, 1) := by decide +kernel
theorem dX12_speed_42 : decode cX12_speed 42 = .ok (.iload_n 1, 1) := by decide +kernel
theorem dX12_speed_43 : decode cX12_speed 43 = .ok (.invokevirtual 193, 3) := by decide +kernel
theorem dX12_speed_46 : decode cX12_speed 46 = .ok (.imul, 1) := by decide +kernel
theorem dX12_speed_47 : decode cX12_speed 47 = .ok (.iadd, 1) := by decide +kernel
theorem dX12_speed_48 : decode cX12_speed 48 = .ok (.aload_n 0, 1) := by decide +kernel
theorem dX12_speed_49 : decode cX12_speed 49 = .ok (.getfield 52, 3) := by decide +kernel
theorem dX12_speed_52 : decode cX12_speed 52 = .ok (.iconst 0, 1) := by decide +kernel
theorem dX12_speed_53 : decode cX12_speed 53 = .ok (.iaload, 1) := by decide +kernel
theorem dX12_speed_54 : decode cX12_speed 54 = .ok (.iload_n 2, 1) := by decide +kernel
theorem dX12_speed_55 : decode cX12_speed 55 = .ok (.aload_n 0, 1) := by decide +kernel
theorem dX12_speed_56 : decode cX12_speed 56 = .ok (.iload_n 1, 1) := by decide +kernel
theorem dX12_speed_57 : decode cX12_speed 57 = .ok (.invokevirtual 197, 3) := by decide +kernel
theorem dX12_speed_60 : decode cX12_speed 60 = .ok (.imul, 1) := by decide +kernel
theorem dX12_speed_61 : decode cX12_speed 61 = .ok (.iadd, 1) := by decide +kernel
theorem dX12_speed_62 : decode cX12_speed 62 = .ok (.invokevirtual 189, 3) := by decide +kernel
theorem dX12_speed_65 : decode cX12_speed 65 = .ok (.ifCond .ne 5, 3) := by decide +kernel
theorem dX12_speed_68 : decode cX12_speed 68 = .ok (.iconst (-1), 1) := by decide +kernel
theorem dX12_speed_69 : decode cX12_speed 69 = .ok (.ireturn, 1) := by decide +kernel
theorem dX12_speed_70 : decode cX12_speed 70 = .ok (.iconst 1, 1) := by decide +kernel
theorem dX12_speed_71 : decode cX12_speed 71 = .ok (.istore_n 3, 1) := by decide +kernel
theorem dX12_speed_72 : decode cX12_speed 72 = .ok (.iload_n 3, 1) := by decide +kernel
theorem dX12_speed_73 : decode cX12_speed 73 = .ok (.bipush 20, 2) := by decide +kernel
theorem dX12_speed_75 : decode cX12_speed 75 = .ok (.if_icmp .gt 21, 3) := by decide +kernel
theorem dX12_speed_78 : decode cX12_speed 78 = .ok (.aload_n 0, 1) := by decide +kernel
theorem dX12_speed_79 : decode cX12_speed 79 = .ok (.iload_n 1, 1) := by decide +kernel
theorem dX12_speed_80 : decode cX12_speed 80 = .ok (.iload_n 2, 1) := by decide +kernel
theorem dX12_speed_81 : decode cX12_speed 81 = .ok (.iload_n 3, 1) := by decide +kernel
theorem dX12_speed_82 : decode cX12_speed 82 = .ok (.invokevirtual 392, 3) := by decide +kernel
theorem dX12_speed_85 : decode cX12_speed 85 = .ok (.ifCond .eq 5, 3) := by decide +kernel
theorem dX12_speed_88 : decode cX12_speed 88 = .ok (.iload_n 3, 1) := by decide +kernel
theorem dX12_speed_89 : decode cX12_speed 89 = .ok (.ireturn, 1) := by decide +kernel
theorem dX12_speed_90 : decode cX12_speed 90 = .ok (.iinc 3 1, 3) := by decide +kernel
theorem dX12_speed_93 : decode cX12_speed 93 = .ok (.goto (-21), 3) := by decide +kernel
theorem dX12_speed_96 : decode cX12_speed 96 = .ok (.iconst (-1), 1) := by decide +kernel
theorem dX12_speed_97 : decode cX12_speed 97 = .ok (.ireturn, 1) := by decide +kernel
theorem dX12_kind_0 : decode cX12_kind 0 = .ok (.aload_n 0, 1) := by decide +kernel
theorem dX12_kind_1 : decode cX12_kind 1 = .ok (.iconst 0, 1) := by decide +kernel
theorem dX12_kind_2 : decode cX12_kind 2 = .ok (.putfield 167, 3) := by decide +kernel
theorem dX12_kind_5 : decode cX12_kind 5 = .ok (.aload_n 0, 1) := by decide +kernel
theorem dX12_kind_6 : decode cX12_kind 6 = .ok (.iload_n 1, 1) := by decide +kernel
theorem dX12_kind_7 : decode cX12_kind 7 = .ok (.iconst 1, 1) := by decide +kernel
theorem dX12_kind_8 : decode cX12_kind 8 = .ok (.bipush 40, 2) := by decide +kernel
theorem dX12_kind_10 : decode cX12_kind 10 = .ok (.invokevirtual 170, 3) := by decide +kernel
theorem dX12_kind_13 : decode cX12_kind 13 = .ok (.ifCond .eq 35, 3) := by decide +kernel
theorem dX12_kind_16 : decode cX12_kind 16 = .ok (.aload_n 0, 1) := by decide +kernel
theorem dX12_kind_17 : decode cX12_kind 17 = .ok (.iload_n 2, 1) := by decide +kernel
theorem dX12_kind_18 : decode cX12_kind 18 = .ok (.iconst 1, 1) := by decide +kernel
theorem dX12_kind_19 : decode cX12_kind 19 = .ok (.bipush 40, 2) := by decide +kernel
theorem dX12_kind_21 : decode cX12_kind 21 = .ok (.invokevirtual 170, 3) := by decide +kernel
theorem dX12_kind_24 : decode cX12_kind 24 = .ok (.ifCond .eq 24, 3) := by decide +kernel
theorem dX12_kind_27 : decode cX12_kind 27 = .ok (.aload_n 0, 1) := by decide +kernel
theorem dX12_kind_28 : decode cX12_kind 28 = .ok (.iload_n 3, 1) := by decide +kernel
theorem dX12_kind_29 : decode cX12_kind 29 = .ok (.iconst 0, 1) := by decide +kernel
theorem dX12_kind_30 : decode cX12_kind 30 = .ok (.sipush 999, 3) := by decide +kernel
theorem dX12_kind_33 : decode cX12_kind 33 = .ok (.invokevirtual 170, 3) := by decide +kernel
theorem dX12_kind_36 : decode cX12_kind 36 = .ok (.ifCond .eq 12, 3) := by decide +kernel
theorem dX12_kind_39 : decode cX12_kind 39 = .ok (.aload_n 0, 1) := by decide +kernel
theorem dX12_kind_40 : decode cX12_kind 40 = .ok (.getfield 395, 3) := by decide +kernel
theorem dX12_kind_43 : decode cX12_kind 43 = .ok (.bipush 6, 2) := by decide +kernel
theorem dX12_kind_45 : decode cX12_kind 45 = .ok (.if_icmp .ne 5, 3) := by decide +kernel
theorem dX12_kind_48 : decode cX12_kind 48 = .ok (.iconst (-1), 1) := by decide +kernel
theorem dX12_kind_49 : decode cX12_kind 49 = .ok (.ireturn, 1) := by decide +kernel
theorem dX12_kind_50 : decode cX12_kind 50 = .ok (.aload_n 0, 1) := by decide +kernel
theorem dX12_kind_51 : decode cX12_kind 51 = .ok (.getfield 140, 3) := by decide +kernel
theorem dX12_kind_54 : decode cX12_kind 54 = .ok (.aload_n 0, 1) := by decide +kernel
theorem dX12_kind_55 : decode cX12_kind 55 = .ok (.getfield 395, 3) := by decide +kernel
theorem dX12_kind_58 : decode cX12_kind 58 = .ok (.iload_n 1, 1) := by decide +kernel
theorem dX12_kind_59 : decode cX12_kind 59 = .ok (.iastore, 1) := by decide +kernel
theorem dX12_kind_60 : decode cX12_kind 60 = .ok (.aload_n 0, 1) := by decide +kernel
theorem dX12_kind_61 : decode cX12_kind 61 = .ok (.getfield 143, 3) := by decide +kernel
theorem dX12_kind_64 : decode cX12_kind 64 = .ok (.aload_n 0, 1) := by decide +kernel
theorem dX12_kind_65 : decode cX12_kind 65 = .ok (.getfield 395, 3) := by decide +kernel
theorem dX12_kind_68 : decode cX12_kind 68 = .ok (.iload_n 2, 1) := by decide +kernel
theorem dX12_kind_69 : decode cX12_kind 69 = .ok (.iastore, 1) := by decide +kernel
theorem dX12_kind_70 : decode cX12_kind 70 = .ok (.aload_n 0, 1) := by decide +kernel
theorem dX12_kind_71 : decode cX12_kind 71 = .ok (.getfield 146, 3) := by decide +kernel
theorem dX12_kind_74 : decode cX12_kind 74 = .ok (.aload_n 0, 1) := by decide +kernel
theorem dX12_kind_75 : decode cX12_kind 75 = .ok (.getfield 395, 3) := by decide +kernel
theorem dX12_kind_78 : decode cX12_kind 78 = .ok (.iload_n 3, 1) := by decide +kernel
theorem dX12_kind_79 : decode cX12_kind 79 = .ok (.iastore, 1) := by decide +kernel
theorem dX12_kind_80 : decode cX12_kind 80 = .ok (.aload_n 0, 1) := by decide +kernel
theorem dX12_kind_81 : decode cX12_kind 81 = .ok (.aload_n 0, 1) := by decide +kernel
theorem dX12_kind_82 : decode cX12_kind 82 = .ok (.getfield 395, 3) := by decide +kernel
theorem dX12_kind_85 : decode cX12_kind 85 = .ok (.iconst 1, 1) := by decide +kernel
theorem dX12_kind_86 : decode cX12_kind 86 = .ok (.iadd, 1) := by decide +kernel
theorem dX12_kind_87 : decode cX12_kind 87 = .ok (.putfield 395, 3) := by decide +kernel
theorem dX12_kind_90 : decode cX12_kind 90 = .ok (.aload_n 0, 1) := by decide +kernel
theorem dX12_kind_91 : decode cX12_kind 91 = .ok (.getfield 395, 3) := by decide +kernel
theorem dX12_kind_94 : decode cX12_kind 94 = .ok (.iconst 1, 1) := by decide +kernel
theorem dX12_kind_95 : decode cX12_kind 95 = .ok (.isub, 1) := by decide +kernel
theorem dX12_kind_96 : decode cX12_kind 96 = .ok (.ireturn, 1) := by decide +kernel
theorem dX12_mostOf_0 : decode cX12_mostOf 0 = .ok (.iconst 0, 1) := by decide +kernel
theorem dX12_mostOf_1 : decode cX12_mostOf 1 = .ok (.istore_n 3, 1) := by decide +kernel
theorem dX12_mostOf_2 : decode cX12_mostOf 2 = .ok (.iconst 0, 1) := by decide +kernel
theorem dX12_mostOf_3 : decode cX12_mostOf 3 = .ok (.istore 4, 2) := by decide +kernel
theorem dX12_mostOf_5 : decode cX12_mostOf 5 = .ok (.iload 4, 2) := by decide +kernel
theorem dX12_mostOf_7 : decode cX12_mostOf 7 = .ok (.aload_n 0, 1) := by decide +kernel
theorem dX12_mostOf_8 : decode cX12_mostOf 8 = .ok (.getfield 395, 3) := by decide +kernel
theorem dX12_mostOf_11 : decode cX12_mostOf 11 = .ok (.if_icmp .ge 84, 3) := by decide +kernel
theorem dX12_mostOf_14 : decode cX12_mostOf 14 = .ok (.aload_n 0, 1) := by decide +kernel
theorem dX12_mostOf_15 : decode cX12_mostOf 15 = .ok (.getfield 140, 3) := by decide +kernel
theorem dX12_mostOf_18 : decode cX12_mostOf 18 = .ok (.iload 4, 2) := by decide +kernel
theorem dX12_mostOf_20 : decode cX12_mostOf 20 = .ok (.iaload, 1) := by decide +kernel
theorem dX12_mostOf_21 : decode cX12_mostOf 21 = .ok (.iload_n 1, 1) := by decide +kernel
theorem dX12_mostOf_22 : decode cX12_mostOf 22 = .ok (.if_icmp .ne 14, 3) := by decide +kernel
theorem dX12_mostOf_25 : decode cX12_mostOf 25 = .ok (.aload_n 0, 1) := by decide +kernel
theorem dX12_mostOf_26 : decode cX12_mostOf 26 = .ok (.getfield 143, 3) := by decide +kernel
theorem dX12_mostOf_29 : decode cX12_mostOf 29 = .ok (.iload 4, 2) := by decide +kernel
theorem dX12_mostOf_31 : decode cX12_mostOf 31 = .ok (.iaload, 1) := by decide +kernel
theorem dX12_mostOf_32 : decode cX12_mostOf 32 = .ok (.iload_n 2, 1) := by decide +kernel
theorem dX12_mostOf_33 : decode cX12_mostOf 33 = .ok (.if_icmp .eq 25, 3) := by decide +kernel
theorem dX12_mostOf_36 : decode cX12_mostOf 36 = .ok (.aload_n 0, 1) := by decide +kernel
theorem dX12_mostOf_37 : decode cX12_mostOf 37 = .ok (.getfield 140, 3) := by decide +kernel
theorem dX12_mostOf_40 : decode cX12_mostOf 40 = .ok (.iload 4, 2) := by decide +kernel
theorem dX12_mostOf_42 : decode cX12_mostOf 42 = .ok (.iaload, 1) := by decide +kernel
theorem dX12_mostOf_43 : decode cX12_mostOf 43 = .ok (.iload_n 2, 1) := by decide +kernel
theorem dX12_mostOf_44 : decode cX12_mostOf 44 = .ok (.if_icmp .ne 18, 3) := by decide +kernel
theorem dX12_mostOf_47 : decode cX12_mostOf 47 = .ok (.aload_n 0, 1) := by decide +kernel
theorem dX12_mostOf_48 : decode cX12_mostOf 48 = .ok (.getfield 143, 3) := by decide +kernel
theorem dX12_mostOf_51 : decode cX12_mostOf 51 = .ok (.iload 4, 2) := by decide +kernel
theorem dX12_mostOf_53 : decode cX12_mostOf 53 = .ok (.iaload, 1) := by decide +kernel
theorem dX12_mostOf_54 : decode cX12_mostOf 54 = .ok (.iload_n 1, 1) := by decide +kernel
theorem dX12_mostOf_55 : decode cX12_mostOf 55 = .ok (.if_icmp .ne 7, 3) := by decide +kernel
theorem dX12_mostOf_58 : decode cX12_mostOf 58 = .ok (.iconst 1, 1) := by decide +kernel
theorem dX12_mostOf_59 : decode cX12_mostOf 59 = .ok (.goto 4, 3) := by decide +kernel
theorem dX12_mostOf_62 : decode cX12_mostOf 62 = .ok (.iconst 0, 1) := by decide +kernel
theorem dX12_mostOf_63 : decode cX12_mostOf 63 = .ok (.istore 5, 2) := by decide +kernel
theorem dX12_mostOf_65 : decode cX12_mostOf 65 = .ok (.iload 5, 2) := by decide +kernel
theorem dX12_mostOf_67 : decode cX12_mostOf 67 = .ok (.ifCond .eq 22, 3) := by decide +kernel
theorem dX12_mostOf_70 : decode cX12_mostOf 70 = .ok (.aload_n 0, 1) := by decide +kernel
theorem dX12_mostOf_71 : decode cX12_mostOf 71 = .ok (.getfield 146, 3) := by decide +kernel
theorem dX12_mostOf_74 : decode cX12_mostOf 74 = .ok (.iload 4, 2) := by decide +kernel
theorem dX12_mostOf_76 : decode cX12_mostOf 76 = .ok (.iaload, 1) := by decide +kernel
theorem dX12_mostOf_77 : decode cX12_mostOf 77 = .ok (.iload_n 3, 1) := by decide +kernel
theorem dX12_mostOf_78 : decode cX12_mostOf 78 = .ok (.if_icmp .le 11, 3) := by decide +kernel
theorem dX12_mostOf_81 : decode cX12_mostOf 81 = .ok (.aload_n 0, 1) := by decide +kernel
theorem dX12_mostOf_82 : decode cX12_mostOf 82 = .ok (.getfield 146, 3) := by decide +kernel
theorem dX12_mostOf_85 : decode cX12_mostOf 85 = .ok (.iload 4, 2) := by decide +kernel
theorem dX12_mostOf_87 : decode cX12_mostOf 87 = .ok (.iaload, 1) := by decide +kernel
theorem dX12_mostOf_88 : decode cX12_mostOf 88 = .ok (.istore_n 3, 1) := by decide +kernel
theorem dX12_mostOf_89 : decode cX12_mostOf 89 = .ok (.iinc 4 1, 3) := by decide +kernel
theorem dX12_mostOf_92 : decode cX12_mostOf 92 = .ok (.goto (-87), 3) := by decide +kernel
theorem dX12_mostOf_95 : decode cX12_mostOf 95 = .ok (.iconst 1, 1) := by decide +kernel
theorem dX12_mostOf_96 : decode cX12_mostOf 96 = .ok (.istore 4, 2) := by decide +kernel
theorem dX12_mostOf_98 : decode cX12_mostOf 98 = .ok (.iload 4, 2) := by decide +kernel
theorem dX12_mostOf_100 : decode cX12_mostOf 100 = .ok (.iload_n 1, 1) := by decide +kernel
theorem dX12_mostOf_101 : decode cX12_mostOf 101 = .ok (.iconst 2, 1) := by decide +kernel
theorem dX12_mostOf_102 : decode cX12_mostOf 102 = .ok (.idiv, 1) := by decide +kernel
theorem dX12_mostOf_103 : decode cX12_mostOf 103 = .ok (.if_icmp .gt 47, 3) := by decide +kernel
theorem dX12_mostOf_106 : decode cX12_mostOf 106 = .ok (.aload_n 0, 1) := by decide +kernel
theorem dX12_mostOf_107 : decode cX12_mostOf 107 = .ok (.getfield 149, 3) := by decide +kernel
theorem dX12_mostOf_110 : decode cX12_mostOf 110 = .ok (.bipush 41, 2) := by decide +kernel
theorem dX12_mostOf_112 : decode cX12_mostOf 112 = .ok (.iload 4, 2) := by decide +kernel
theorem dX12_mostOf_114 : decode cX12_mostOf 114 = .ok (.imul, 1) := by decide +kernel
theorem dX12_mostOf_115 : decode cX12_mostOf 115 = .ok (.iload_n 2, 1) := by decide +kernel
theorem dX12_mostOf_116 : decode cX12_mostOf 116 = .ok (.iadd, 1) := by decide +kernel
theorem dX12_mostOf_117 : decode cX12_mostOf 117 = .ok (.iaload, 1) := by decide +kernel
theorem dX12_mostOf_118 : decode cX12_mostOf 118 = .ok (.aload_n 0, 1) := by decide +kernel
theorem dX12_mostOf_119 : decode cX12_mostOf 119 = .ok (.getfield 149, 3) := by decide +kernel
theorem dX12_mostOf_122 : decode cX12_mostOf 122 = .ok (.bipush 41, 2) := by decide +kernel
theorem dX12_mostOf_124 : decode cX12_mostOf 124 = .ok (.iload_n 1, 1) := by decide +kernel
theorem dX12_mostOf_125 : decode cX12_mostOf 125 = .ok (.iload 4, 2) := by decide +kernel
theorem dX12_mostOf_127 : decode cX12_mostOf 127 = .ok (.isub, 1) := by decide +kernel
theorem dX12_mostOf_128 : decode cX12_mostOf 128 = .ok (.imul, 1) := by decide +kernel
theorem dX12_mostOf_129 : decode cX12_mostOf 129 = .ok (.iload_n 2, 1) := by decide +kernel
theorem dX12_mostOf_130 : decode cX12_mostOf 130 = .ok (.iadd, 1) := by decide +kernel
theorem dX12_mostOf_131 : decode cX12_mostOf 131 = .ok (.iaload, 1) := by decide +kernel
theorem dX12_mostOf_132 : decode cX12_mostOf 132 = .ok (.iadd, 1) := by decide +kernel
theorem dX12_mostOf_133 : decode cX12_mostOf 133 = .ok (.istore 5, 2) := by decide +kernel
theorem dX12_mostOf_135 : decode cX12_mostOf 135 = .ok (.iload 5, 2) := by decide +kernel
theorem dX12_mostOf_137 : decode cX12_mostOf 137 = .ok (.iload_n 3, 1) := by decide +kernel
theorem dX12_mostOf_138 : decode cX12_mostOf 138 = .ok (.if_icmp .le 6, 3) := by decide +kernel
theorem dX12_mostOf_141 : decode cX12_mostOf 141 = .ok (.iload 5, 2) := by decide +kernel
theorem dX12_mostOf_143 : decode cX12_mostOf 143 = .ok (.istore_n 3, 1) := by decide +kernel
theorem dX12_mostOf_144 : decode cX12_mostOf 144 = .ok (.iinc 4 1, 3) := by decide +kernel
theorem dX12_mostOf_147 : decode cX12_mostOf 147 = .ok (.goto (-49), 3) := by decide +kernel
theorem dX12_mostOf_150 : decode cX12_mostOf 150 = .ok (.iconst 1, 1) := by decide +kernel
theorem dX12_mostOf_151 : decode cX12_mostOf 151 = .ok (.istore 4, 2) := by decide +kernel
theorem dX12_mostOf_153 : decode cX12_mostOf 153 = .ok (.iload 4, 2) := by decide +kernel
theorem dX12_mostOf_155 : decode cX12_mostOf 155 = .ok (.iload_n 2, 1) := by decide +kernel
theorem dX12_mostOf_156 : decode cX12_mostOf 156 = .ok (.iconst 2, 1) := by decide +kernel
theorem dX12_mostOf_157 : decode cX12_mostOf 157 = .ok (.idiv, 1) := by decide +kernel
theorem dX12_mostOf_158 : decode cX12_mostOf 158 = .ok (.if_icmp .gt 47, 3) := by decide +kernel
theorem dX12_mostOf_161 : decode cX12_mostOf 161 = .ok (.aload_n 0, 1) := by decide +kernel
theorem dX12_mostOf_162 : decode cX12_mostOf 162 = .ok (.getfield 149, 3) := by decide +kernel
theorem dX12_mostOf_165 : decode cX12_mostOf 165 = .ok (.bipush 41, 2) := by decide +kernel
theorem dX12_mostOf_167 : decode cX12_mostOf 167 = .ok (.iload_n 1, 1) := by decide +kernel
theorem dX12_mostOf_168 : decode cX12_mostOf 168 = .ok (.imul, 1) := by decide +kernel
theorem dX12_mostOf_169 : decode cX12_mostOf 169 = .ok (.iload 4, 2) := by decide +kernel
theorem dX12_mostOf_171 : decode cX12_mostOf 171 = .ok (.iadd, 1) := by decide +kernel
theorem dX12_mostOf_172 : decode cX12_mostOf 172 = .ok (.iaload, 1) := by decide +kernel
theorem dX12_mostOf_173 : decode cX12_mostOf 173 = .ok (.aload_n 0, 1) := by decide +kernel
theorem dX12_mostOf_174 : decode cX12_mostOf 174 = .ok (.getfield 149, 3) := by decide +kernel
theorem dX12_mostOf_177 : decode cX12_mostOf 177 = .ok (.bipush 41, 2) := by decide +kernel
theorem dX12_mostOf_179 : decode cX12_mostOf 179 = .ok (.iload_n 1, 1) := by decide +kernel
theorem dX12_mostOf_180 : decode cX12_mostOf 180 = .ok (.imul, 1) := by decide +kernel
theorem dX12_mostOf_181 : decode cX12_mostOf 181 = .ok (.iload_n 2, 1) := by decide +kernel
theorem dX12_mostOf_182 : decode cX12_mostOf 182 = .ok (.iadd, 1) := by decide +kernel
theorem dX12_mostOf_183 : decode cX12_mostOf 183 = .ok (.iload 4, 2) := by decide +kernel
theorem dX12_mostOf_185 : decode cX12_mostOf 185 = .ok (.isub, 1) := by decide +kernel
theorem dX12_mostOf_186 : decode cX12_mostOf 186 = .ok (.iaload, 1) := by decide +kernel
theorem dX12_mostOf_187 : decode cX12_mostOf 187 = .ok (.iadd, 1) := by decide +kernel
theorem dX12_mostOf_188 : decode cX12_mostOf 188 = .ok (.istore 5, 2) := by decide +kernel
theorem dX12_mostOf_190 : decode cX12_mostOf 190 = .ok (.iload 5, 2) := by decide +kernel
theorem dX12_mostOf_192 : decode cX12_mostOf 192 = .ok (.iload_n 3, 1) := by decide +kernel
theorem dX12_mostOf_193 : decode cX12_mostOf 193 = .ok (.if_icmp .le 6, 3) := by decide +kernel
theorem dX12_mostOf_196 : decode cX12_mostOf 196 = .ok (.iload 5, 2) := by decide +kernel
theorem dX12_mostOf_198 : decode cX12_mostOf 198 = .ok (.istore_n 3, 1) := by decide +kernel
theorem dX12_mostOf_199 : decode cX12_mostOf 199 = .ok (.iinc 4 1, 3) := by decide +kernel
theorem dX12_mostOf_202 : decode cX12_mostOf 202 = .ok (.goto (-49), 3) := by decide +kernel
theorem dX12_mostOf_205 : decode cX12_mostOf 205 = .ok (.iload_n 3, 1) := by decide +kernel
theorem dX12_mostOf_206 : decode cX12_mostOf 206 = .ok (.ireturn, 1) := by decide +kernel
theorem dX12_fill_0 : decode cX12_fill 0 = .ok (.aload_n 0, 1) := by decide +kernel
theorem dX12_fill_1 : decode cX12_fill 1 = .ok (.iconst 0, 1) := by decide +kernel
theorem dX12_fill_2 : decode cX12_fill 2 = .ok (.putfield 167, 3) := by decide +kernel
theorem dX12_fill_5 : decode cX12_fill 5 = .ok (.aload_n 0, 1) := by decide +kernel
theorem dX12_fill_6 : decode cX12_fill 6 = .ok (.iload_n 1, 1) := by decide +kernel
theorem dX12_fill_7 : decode cX12_fill 7 = .ok (.iconst 0, 1) := by decide +kernel
theorem dX12_fill_8 : decode cX12_fill 8 = .ok (.bipush 40, 2) := by decide +kernel
theorem dX12_fill_10 : decode cX12_fill 10 = .ok (.invokevirtual 170, 3) := by decide +kernel
theorem dX12_fill_13 : decode cX12_fill 13 = .ok (.ifCond .eq 14, 3) := by decide +kernel
theorem dX12_fill_16 : decode cX12_fill 16 = .ok (.aload_n 0, 1) := by decide +kernel
theorem dX12_fill_17 : decode cX12_fill 17 = .ok (.iload_n 2, 1) := by decide +kernel
theorem dX12_fill_18 : decode cX12_fill 18 = .ok (.iconst 0, 1) := by decide +kernel
theorem dX12_fill_19 : decode cX12_fill 19 = .ok (.bipush 40, 2) := by decide +kernel
theorem dX12_fill_21 : decode cX12_fill 21 = .ok (.invokevirtual 170, 3) := by decide +kernel
theorem dX12_fill_24 : decode cX12_fill 24 = .ok (.ifCond .ne 5, 3) := by decide +kernel
theorem dX12_fill_27 : decode cX12_fill 27 = .ok (.iconst (-1), 1) := by decide +kernel
theorem dX12_fill_28 : decode cX12_fill 28 = .ok (.ireturn, 1) := by decide +kernel
theorem dX12_fill_29 : decode cX12_fill 29 = .ok (.iload_n 1, 1) := by decide +kernel
theorem dX12_fill_30 : decode cX12_fill 30 = .ok (.ifCond .eq 7, 3) := by decide +kernel
theorem dX12_fill_33 : decode cX12_fill 33 = .ok (.iload_n 2, 1) := by decide +kernel
theorem dX12_fill_34 : decode cX12_fill 34 = .ok (.ifCond .ne 5, 3) := by decide +kernel
theorem dX12_fill_37 : decode cX12_fill 37 = .ok (.iconst 0, 1) := by decide +kernel
theorem dX12_fill_38 : decode cX12_fill 38 = .ok (.ireturn, 1) := by decide +kernel
theorem dX12_fill_39 : decode cX12_fill 39 = .ok (.iconst 1, 1) := by decide +kernel
theorem dX12_fill_40 : decode cX12_fill 40 = .ok (.istore_n 3, 1) := by decide +kernel
theorem dX12_fill_41 : decode cX12_fill 41 = .ok (.iload_n 3, 1) := by decide +kernel
theorem dX12_fill_42 : decode cX12_fill 42 = .ok (.iload_n 1, 1) := by decide +kernel
theorem dX12_fill_43 : decode cX12_fill 43 = .ok (.if_icmp .gt 43, 3) := by decide +kernel
theorem dX12_fill_46 : decode cX12_fill 46 = .ok (.iconst 1, 1) := by decide +kernel
theorem dX12_fill_47 : decode cX12_fill 47 = .ok (.istore 4, 2) := by decide +kernel
theorem dX12_fill_49 : decode cX12_fill 49 = .ok (.iload 4, 2) := by decide +kernel
theorem dX12_fill_51 : decode cX12_fill 51 = .ok (.iload_n 2, 1) := by decide +kernel
theorem dX12_fill_52 : decode cX12_fill 52 = .ok (.if_icmp .gt 28, 3) := by decide +kernel
theorem dX12_fill_55 : decode cX12_fill 55 = .ok (.aload_n 0, 1) := by decide +kernel
theorem dX12_fill_56 : decode cX12_fill 56 = .ok (.getfield 149, 3) := by decide +kernel
theorem dX12_fill_59 : decode cX12_fill 59 = .ok (.bipush 41, 2) := by decide +kernel
theorem dX12_fill_61 : decode cX12_fill 61 = .ok (.iload_n 3, 1) := by decide +kernel
theorem dX12_fill_62 : decode cX12_fill 62 = .ok (.imul, 1) := by decide +kernel
theorem dX12_fill_63 : decode cX12_fill 63 = .ok (.iload 4, 2) := by decide +kernel
theorem dX12_fill_65 : decode cX12_fill 65 = .ok (.iadd, 1) := by decide +kernel
theorem dX12_fill_66 : decode cX12_fill 66 = .ok (.aload_n 0, 1) := by decide +kernel
theorem dX12_fill_67 : decode cX12_fill 67 = .ok (.iload_n 3, 1) := by decide +kernel
theorem dX12_fill_68 : decode cX12_fill 68 = .ok (.iload 4, 2) := by decide +kernel
theorem dX12_fill_70 : decode cX12_fill 70 = .ok (.invokevirtual 398, 3) := by decide +kernel
theorem dX12_fill_73 : decode cX12_fill 73 = .ok (.iastore, 1) := by decide +kernel
theorem dX12_fill_74 : decode cX12_fill 74 = .ok (.iinc 4 1, 3) := by decide +kernel
theorem dX12_fill_77 : decode cX12_fill 77 = .ok (.goto (-28), 3) := by decide +kernel
theorem dX12_fill_80 : decode cX12_fill 80 = .ok (.iinc 3 1, 3) := by decide +kernel
theorem dX12_fill_83 : decode cX12_fill 83 = .ok (.goto (-42), 3) := by decide +kernel
theorem dX12_fill_86 : decode cX12_fill 86 = .ok (.aload_n 0, 1) := by decide +kernel
theorem dX12_fill_87 : decode cX12_fill 87 = .ok (.getfield 149, 3) := by decide +kernel
theorem dX12_fill_90 : decode cX12_fill 90 = .ok (.bipush 41, 2) := by decide +kernel
theorem dX12_fill_92 : decode cX12_fill 92 = .ok (.iload_n 1, 1) := by decide +kernel
theorem dX12_fill_93 : decode cX12_fill 93 = .ok (.imul, 1) := by decide +kernel
theorem dX12_fill_94 : decode cX12_fill 94 = .ok (.iload_n 2, 1) := by decide +kernel
theorem dX12_fill_95 : decode cX12_fill 95 = .ok (.iadd, 1) := by decide +kernel
theorem dX12_fill_96 : decode cX12_fill 96 = .ok (.iaload, 1) := by decide +kernel
theorem dX12_fill_97 : decode cX12_fill 97 = .ok (.ireturn, 1) := by decide +kernel
theorem dX12_test_0 : decode cX12_test 0 = .ok (.aload_n 0, 1) := by decide +kernel
theorem dX12_test_1 : decode cX12_test 1 = .ok (.iconst 0, 1) := by decide +kernel
theorem dX12_test_2 : decode cX12_test 2 = .ok (.putfield 167, 3) := by decide +kernel
theorem dX12_test_5 : decode cX12_test 5 = .ok (.aload_n 0, 1) := by decide +kernel
theorem dX12_test_6 : decode cX12_test 6 = .ok (.iload_n 1, 1) := by decide +kernel
theorem dX12_test_7 : decode cX12_test 7 = .ok (.iconst 0, 1) := by decide +kernel
theorem dX12_test_8 : decode cX12_test 8 = .ok (.iconst 3, 1) := by decide +kernel
theorem dX12_test_9 : decode cX12_test 9 = .ok (.invokevirtual 170, 3) := by decide +kernel
theorem dX12_test_12 : decode cX12_test 12 = .ok (.ifCond .eq 59, 3) := by decide +kernel
theorem dX12_test_15 : decode cX12_test 15 = .ok (.aload_n 0, 1) := by decide +kernel
theorem dX12_test_16 : decode cX12_test 16 = .ok (.iload_n 2, 1) := by decide +kernel
theorem dX12_test_17 : decode cX12_test 17 = .ok (.iconst 1, 1) := by decide +kernel
theorem dX12_test_18 : decode cX12_test 18 = .ok (.sipush 9999, 3) := by decide +kernel
theorem dX12_test_21 : decode cX12_test 21 = .ok (.invokevirtual 170, 3) := by decide +kernel
theorem dX12_test_24 : decode cX12_test 24 = .ok (.ifCond .eq 47, 3) := by decide +kernel
theorem dX12_test_27 : decode cX12_test 27 = .ok (.aload_n 0, 1) := by decide +kernel
theorem dX12_test_28 : decode cX12_test 28 = .ok (.iload 4, 2) := by decide +kernel
theorem dX12_test_30 : decode cX12_test 30 = .ok (.aload_n 0, 1) := by decide +kernel
theorem dX12_test_31 : decode cX12_test 31 = .ok (.getfield 401, 3) := by decide +kernel
theorem dX12_test_34 : decode cX12_test 34 = .ok (.ifCond .ne 7, 3) := by decide +kernel
theorem dX12_test_37 : decode cX12_test 37 = .ok (.iconst 0, 1) := by decide +kernel
theorem dX12_test_38 : decode cX12_test 38 = .ok (.goto 14, 3) := by decide +kernel
theorem dX12_test_41 : decode cX12_test 41 = .ok (.aload_n 0, 1) := by decide +kernel
theorem dX12_test_42 : decode cX12_test 42 = .ok (.getfield 161, 3) := by decide +kernel
theorem dX12_test_45 : decode cX12_test 45 = .ok (.aload_n 0, 1) := by decide +kernel
theorem dX12_test_46 : decode cX12_test 46 = .ok (.getfield 401, 3) := by decide +kernel
theorem dX12_test_49 : decode cX12_test 49 = .ok (.iconst 1, 1) := by decide +kernel
theorem dX12_test_50 : decode cX12_test 50 = .ok (.isub, 1) := by decide +kernel
theorem dX12_test_51 : decode cX12_test 51 = .ok (.iaload, 1) := by decide +kernel
theorem dX12_test_52 : decode cX12_test 52 = .ok (.sipush 999, 3) := by decide +kernel
theorem dX12_test_55 : decode cX12_test 55 = .ok (.invokevirtual 170, 3) := by decide +kernel
theorem dX12_test_58 : decode cX12_test 58 = .ok (.ifCond .eq 13, 3) := by decide +kernel
theorem dX12_test_61 : decode cX12_test 61 = .ok (.aload_n 0, 1) := by decide +kernel
theorem dX12_test_62 : decode cX12_test 62 = .ok (.getfield 401, 3) := by decide +kernel
theorem dX12_test_65 : decode cX12_test 65 = .ok (.sipush 200, 3) := by decide +kernel
theorem dX12_test_68 : decode cX12_test 68 = .ok (.if_icmp .ne 5, 3) := by decide +kernel
theorem dX12_test_71 : decode cX12_test 71 = .ok (.iconst 0, 1) := by decide +kernel
theorem dX12_test_72 : decode cX12_test 72 = .ok (.ireturn, 1) := by decide +kernel
theorem dX12_test_73 : decode cX12_test 73 = .ok (.aload_n 0, 1) := by decide +kernel
theorem dX12_test_74 : decode cX12_test 74 = .ok (.getfield 152, 3) := by decide +kernel
theorem dX12_test_77 : decode cX12_test 77 = .ok (.aload_n 0, 1) := by decide +kernel
theorem dX12_test_78 : decode cX12_test 78 = .ok (.getfield 401, 3) := by decide +kernel
theorem dX12_test_81 : decode cX12_test 81 = .ok (.iload_n 1, 1) := by decide +kernel
theorem dX12_test_82 : decode cX12_test 82 = .ok (.iastore, 1) := by decide +kernel
theorem dX12_test_83 : decode cX12_test 83 = .ok (.aload_n 0, 1) := by decide +kernel
theorem dX12_test_84 : decode cX12_test 84 = .ok (.getfield 155, 3) := by decide +kernel
theorem dX12_test_87 : decode cX12_test 87 = .ok (.aload_n 0, 1) := by decide +kernel
theorem dX12_test_88 : decode cX12_test 88 = .ok (.getfield 401, 3) := by decide +kernel
theorem dX12_test_91 : decode cX12_test 91 = .ok (.iload_n 2, 1) := by decide +kernel
theorem dX12_test_92 : decode cX12_test 92 = .ok (.iastore, 1) := by decide +kernel
theorem dX12_test_93 : decode cX12_test 93 = .ok (.aload_n 0, 1) := by decide +kernel
theorem dX12_test_94 : decode cX12_test 94 = .ok (.getfield 158, 3) := by decide +kernel
theorem dX12_test_97 : decode cX12_test 97 = .ok (.aload_n 0, 1) := by decide +kernel
theorem dX12_test_98 : decode cX12_test 98 = .ok (.getfield 401, 3) := by decide +kernel
theorem dX12_test_101 : decode cX12_test 101 = .ok (.iload_n 3, 1) := by decide +kernel
theorem dX12_test_102 : decode cX12_test 102 = .ok (.bastore, 1) := by decide +kernel
theorem dX12_test_103 : decode cX12_test 103 = .ok (.aload_n 0, 1) := by decide +kernel
theorem dX12_test_104 : decode cX12_test 104 = .ok (.getfield 161, 3) := by decide +kernel
theorem dX12_test_107 : decode cX12_test 107 = .ok (.aload_n 0, 1) := by decide +kernel
theorem dX12_test_108 : decode cX12_test 108 = .ok (.getfield 401, 3) := by decide +kernel
theorem dX12_test_111 : decode cX12_test 111 = .ok (.iload 4, 2) := by decide +kernel
theorem dX12_test_113 : decode cX12_test 113 = .ok (.iastore, 1) := by decide +kernel
theorem dX12_test_114 : decode cX12_test 114 = .ok (.aload_n 0, 1) := by decide +kernel
theorem dX12_test_115 : decode cX12_test 115 = .ok (.aload_n 0, 1) := by decide +kernel
theorem dX12_test_116 : decode cX12_test 116 = .ok (.getfield 401, 3) := by decide +kernel
theorem dX12_test_119 : decode cX12_test 119 = .ok (.iconst 1, 1) := by decide +kernel
theorem dX12_test_120 : decode cX12_test 120 = .ok (.iadd, 1) := by decide +kernel
theorem dX12_test_121 : decode cX12_test 121 = .ok (.putfield 401, 3) := by decide +kernel
theorem dX12_test_124 : decode cX12_test 124 = .ok (.iconst 1, 1) := by decide +kernel
theorem dX12_test_125 : decode cX12_test 125 = .ok (.ireturn, 1) := by decide +kernel
theorem dX12_known_0 : decode cX12_known 0 = .ok (.aload_n 0, 1) := by decide +kernel
theorem dX12_known_1 : decode cX12_known 1 = .ok (.iconst 0, 1) := by decide +kernel
theorem dX12_known_2 : decode cX12_known 2 = .ok (.putfield 167, 3) := by decide +kernel
theorem dX12_known_5 : decode cX12_known 5 = .ok (.aload_n 0, 1) := by decide +kernel
theorem dX12_known_6 : decode cX12_known 6 = .ok (.iload_n 1, 1) := by decide +kernel
theorem dX12_known_7 : decode cX12_known 7 = .ok (.iconst 0, 1) := by decide +kernel
theorem dX12_known_8 : decode cX12_known 8 = .ok (.iconst 3, 1) := by decide +kernel
theorem dX12_known_9 : decode cX12_known 9 = .ok (.invokevirtual 170, 3) := by decide +kernel
theorem dX12_known_12 : decode cX12_known 12 = .ok (.ifCond .eq 25, 3) := by decide +kernel
theorem dX12_known_15 : decode cX12_known 15 = .ok (.aload_n 0, 1) := by decide +kernel
theorem dX12_known_16 : decode cX12_known 16 = .ok (.iload_n 2, 1) := by decide +kernel
theorem dX12_known_17 : decode cX12_known 17 = .ok (.iconst 0, 1) := by decide +kernel
theorem dX12_known_18 : decode cX12_known 18 = .ok (.sipush 999, 3) := by decide +kernel
theorem dX12_known_21 : decode cX12_known 21 = .ok (.invokevirtual 170, 3) := by decide +kernel
theorem dX12_known_24 : decode cX12_known 24 = .ok (.ifCond .eq 13, 3) := by decide +kernel
theorem dX12_known_27 : decode cX12_known 27 = .ok (.aload_n 0, 1) := by decide +kernel
theorem dX12_known_28 : decode cX12_known 28 = .ok (.iload_n 3, 1) := by decide +kernel
theorem dX12_known_29 : decode cX12_known 29 = .ok (.iconst 0, 1) := by decide +kernel
theorem dX12_known_30 : decode cX12_known 30 = .ok (.iconst 3, 1) := by decide +kernel
theorem dX12_known_31 : decode cX12_known 31 = .ok (.invokevirtual 170, 3) := by decide +kernel
theorem dX12_known_34 : decode cX12_known 34 = .ok (.ifCond .ne 5, 3) := by decide +kernel
theorem dX12_known_37 : decode cX12_known 37 = .ok (.iconst (-1), 1) := by decide +kernel
theorem dX12_known_38 : decode cX12_known 38 = .ok (.ireturn, 1) := by decide +kernel
theorem dX12_known_39 : decode cX12_known 39 = .ok (.iconst 1, 1) := by decide +kernel
theorem dX12_known_40 : decode cX12_known 40 = .ok (.istore 4, 2) := by decide +kernel
theorem dX12_known_42 : decode cX12_known 42 = .ok (.sipush 999, 3) := by decide +kernel
theorem dX12_known_45 : decode cX12_known 45 = .ok (.istore 5, 2) := by decide +kernel
theorem dX12_known_47 : decode cX12_known 47 = .ok (.iconst 0, 1) := by decide +kernel
theorem dX12_known_48 : decode cX12_known 48 = .ok (.istore 6, 2) := by decide +kernel
theorem dX12_known_50 : decode cX12_known 50 = .ok (.iload 6, 2) := by decide +kernel
theorem dX12_known_52 : decode cX12_known 52 = .ok (.aload_n 0, 1) := by decide +kernel
theorem dX12_known_53 : decode cX12_known 53 = .ok (.getfield 401, 3) := by decide +kernel
theorem dX12_known_56 : decode cX12_known 56 = .ok (.if_icmp .ge 98, 3) := by decide +kernel
theorem dX12_known_59 : decode cX12_known 59 = .ok (.aload_n 0, 1) := by decide +kernel
theorem dX12_known_60 : decode cX12_known 60 = .ok (.getfield 152, 3) := by decide +kernel
theorem dX12_known_63 : decode cX12_known 63 = .ok (.iload 6, 2) := by decide +kernel
theorem dX12_known_65 : decode cX12_known 65 = .ok (.iaload, 1) := by decide +kernel
theorem dX12_known_66 : decode cX12_known 66 = .ok (.iload_n 1, 1) := by decide +kernel
theorem dX12_known_67 : decode cX12_known 67 = .ok (.if_icmp .ne 81, 3) := by decide +kernel
theorem dX12_known_70 : decode cX12_known 70 = .ok (.aload_n 0, 1) := by decide +kernel
theorem dX12_known_71 : decode cX12_known 71 = .ok (.getfield 161, 3) := by decide +kernel
theorem dX12_known_74 : decode cX12_known 74 = .ok (.iload 6, 2) := by decide +kernel
theorem dX12_known_76 : decode cX12_known 76 = .ok (.iaload, 1) := by decide +kernel
theorem dX12_known_77 : decode cX12_known 77 = .ok (.iload_n 2, 1) := by decide +kernel
theorem dX12_known_78 : decode cX12_known 78 = .ok (.if_icmp .le 6, 3) := by decide +kernel
theorem dX12_known_81 : decode cX12_known 81 = .ok (.goto 67, 3) := by decide +kernel
theorem dX12_known_84 : decode cX12_known 84 = .ok (.aload_n 0, 1) := by decide +kernel
theorem dX12_known_85 : decode cX12_known 85 = .ok (.getfield 158, 3) := by decide +kernel
theorem dX12_known_88 : decode cX12_known 88 = .ok (.iload 6, 2) := by decide +kernel
theorem dX12_known_90 : decode cX12_known 90 = .ok (.baload, 1) := by decide +kernel
theorem dX12_known_91 : decode cX12_known 91 = .ok (.ifCond .eq 24, 3) := by decide +kernel
theorem dX12_known_94 : decode cX12_known 94 = .ok (.aload_n 0, 1) := by decide +kernel
theorem dX12_known_95 : decode cX12_known 95 = .ok (.getfield 155, 3) := by decide +kernel
theorem dX12_known_98 : decode cX12_known 98 = .ok (.iload 6, 2) := by decide +kernel
theorem dX12_known_100 : decode cX12_known 100 = .ok (.iaload, 1) := by decide +kernel
theorem dX12_known_101 : decode cX12_known 101 = .ok (.iload 5, 2) := by decide +kernel
theorem dX12_known_103 : decode cX12_known 103 = .ok (.if_icmp .ge 12, 3) := by decide +kernel
theorem dX12_known_106 : decode cX12_known 106 = .ok (.aload_n 0, 1) := by decide +kernel
theorem dX12_known_107 : decode cX12_known 107 = .ok (.getfield 155, 3) := by decide +kernel
theorem dX12_known_110 : decode cX12_known 110 = .ok (.iload 6, 2) := by decide +kernel
theorem dX12_known_112 : decode cX12_known 112 = .ok (.iaload, 1) := by decide +kernel
theorem dX12_known_113 : decode cX12_known 113 = .ok (.istore 5, 2) := by decide +kernel
theorem dX12_known_115 : decode cX12_known 115 = .ok (.aload_n 0, 1) := by decide +kernel
theorem dX12_known_116 : decode cX12_known 116 = .ok (.getfield 158, 3) := by decide +kernel
theorem dX12_known_119 : decode cX12_known 119 = .ok (.iload 6, 2) := by decide +kernel
theorem dX12_known_121 : decode cX12_known 121 = .ok (.baload, 1) := by decide +kernel
theorem dX12_known_122 : decode cX12_known 122 = .ok (.ifCond .ne 26, 3) := by decide +kernel
theorem dX12_known_125 : decode cX12_known 125 = .ok (.aload_n 0, 1) := by decide +kernel
theorem dX12_known_126 : decode cX12_known 126 = .ok (.getfield 155, 3) := by decide +kernel
theorem dX12_known_129 : decode cX12_known 129 = .ok (.iload 6, 2) := by decide +kernel
theorem dX12_known_131 : decode cX12_known 131 = .ok (.iaload, 1) := by decide +kernel
theorem dX12_known_132 : decode cX12_known 132 = .ok (.iload 4, 2) := by decide +kernel
theorem dX12_known_134 : decode cX12_known 134 = .ok (.if_icmp .lt 14, 3) := by decide +kernel
theorem dX12_known_137 : decode cX12_known 137 = .ok (.aload_n 0, 1) := by decide +kernel
theorem dX12_known_138 : decode cX12_known 138 = .ok (.getfield 155, 3) := by decide +kernel
theorem dX12_known_141 : decode cX12_known 141 = .ok (.iload 6, 2) := by decide +kernel
theorem dX12_known_143 : decode cX12_known 143 = .ok (.iaload, 1) := by decide +kernel
theorem dX12_known_144 : decode cX12_known 144 = .ok (.iconst 1, 1) := by decide +kernel
theorem dX12_known_145 : decode cX12_known 145 = .ok (.iadd, 1) := by decide +kernel
theorem dX12_known_146 : decode cX12_known 146 = .ok (.istore 4, 2) := by decide +kernel
theorem dX12_known_148 : decode cX12_known 148 = .ok (.iinc 6 1, 3) := by decide +kernel
theorem dX12_known_151 : decode cX12_known 151 = .ok (.goto (-101), 3) := by decide +kernel
theorem dX12_known_154 : decode cX12_known 154 = .ok (.iload_n 3, 1) := by decide +kernel
theorem dX12_known_155 : decode cX12_known 155 = .ok (.ifCond .ne 6, 3) := by decide +kernel
theorem dX12_known_158 : decode cX12_known 158 = .ok (.iload 4, 2) := by decide +kernel
theorem dX12_known_160 : decode cX12_known 160 = .ok (.ireturn, 1) := by decide +kernel
theorem dX12_known_161 : decode cX12_known 161 = .ok (.iload_n 3, 1) := by decide +kernel
theorem dX12_known_162 : decode cX12_known 162 = .ok (.iconst 1, 1) := by decide +kernel
theorem dX12_known_163 : decode cX12_known 163 = .ok (.if_icmp .ne 6, 3) := by decide +kernel
theorem dX12_known_166 : decode cX12_known 166 = .ok (.iload 5, 2) := by decide +kernel
theorem dX12_known_168 : decode cX12_known 168 = .ok (.ireturn, 1) := by decide +kernel
theorem dX12_known_169 : decode cX12_known 169 = .ok (.iload_n 3, 1) := by decide +kernel
theorem dX12_known_170 : decode cX12_known 170 = .ok (.iconst 2, 1) := by decide +kernel
theorem dX12_known_171 : decode cX12_known 171 = .ok (.if_icmp .ne 16, 3) := by decide +kernel
theorem dX12_known_174 : decode cX12_known 174 = .ok (.iload 4, 2) := by decide +kernel
theorem dX12_known_176 : decode cX12_known 176 = .ok (.iload 5, 2) := by decide +kernel
theorem dX12_known_178 : decode cX12_known 178 = .ok (.if_icmp .le 7, 3) := by decide +kernel
theorem dX12_known_181 : decode cX12_known 181 = .ok (.iconst 1, 1) := by decide +kernel
theorem dX12_known_182 : decode cX12_known 182 = .ok (.goto 4, 3) := by decide +kernel
theorem dX12_known_185 : decode cX12_known 185 = .ok (.iconst 0, 1) := by decide +kernel
theorem dX12_known_186 : decode cX12_known 186 = .ok (.ireturn, 1) := by decide +kernel
theorem dX12_known_187 : decode cX12_known 187 = .ok (.iload 4, 2) := by decide +kernel
theorem dX12_known_189 : decode cX12_known 189 = .ok (.iload 5, 2) := by decide +kernel
theorem dX12_known_191 : decode cX12_known 191 = .ok (.if_icmp .ge 13, 3) := by decide +kernel
theorem dX12_known_194 : decode cX12_known 194 = .ok (.iload 4, 2) := by decide +kernel
theorem dX12_known_196 : decode cX12_known 196 = .ok (.iload 5, 2) := by decide +kernel
theorem dX12_known_198 : decode cX12_known 198 = .ok (.iadd, 1) := by decide +kernel
theorem dX12_known_199 : decode cX12_known 199 = .ok (.iconst 2, 1) := by decide +kernel
theorem dX12_known_200 : decode cX12_known 200 = .ok (.idiv, 1) := by decide +kernel
theorem dX12_known_201 : decode cX12_known 201 = .ok (.goto 4, 3) := by decide +kernel
theorem dX12_known_204 : decode cX12_known 204 = .ok (.iconst (-1), 1) := by decide +kernel
theorem dX12_known_205 : decode cX12_known 205 = .ok (.ireturn, 1) := by decide +kernel
theorem dX12_sparks_0 : decode cX12_sparks 0 = .ok (.aload_n 0, 1) := by decide +kernel
theorem dX12_sparks_1 : decode cX12_sparks 1 = .ok (.iconst 0, 1) := by decide +kernel
theorem dX12_sparks_2 : decode cX12_sparks 2 = .ok (.putfield 167, 3) := by decide +kernel
theorem dX12_sparks_5 : decode cX12_sparks 5 = .ok (.iconst 0, 1) := by decide +kernel
theorem dX12_sparks_6 : decode cX12_sparks 6 = .ok (.istore_n 1, 1) := by decide +kernel
theorem dX12_sparks_7 : decode cX12_sparks 7 = .ok (.iload_n 1, 1) := by decide +kernel
theorem dX12_sparks_8 : decode cX12_sparks 8 = .ok (.aload_n 0, 1) := by decide +kernel
theorem dX12_sparks_9 : decode cX12_sparks 9 = .ok (.getfield 239, 3) := by decide +kernel
theorem dX12_sparks_12 : decode cX12_sparks 12 = .ok (.if_icmp .ge 21, 3) := by decide +kernel
theorem dX12_sparks_15 : decode cX12_sparks 15 = .ok (.aload_n 0, 1) := by decide +kernel
theorem dX12_sparks_16 : decode cX12_sparks 16 = .ok (.getfield 164, 3) := by decide +kernel
theorem dX12_sparks_19 : decode cX12_sparks 19 = .ok (.iload_n 1, 1) := by decide +kernel
theorem dX12_sparks_20 : decode cX12_sparks 20 = .ok (.aload_n 0, 1) := by decide +kernel
theorem dX12_sparks_21 : decode cX12_sparks 21 = .ok (.getfield 95, 3) := by decide +kernel
theorem dX12_sparks_24 : decode cX12_sparks 24 = .ok (.iload_n 1, 1) := by decide +kernel
theorem dX12_sparks_25 : decode cX12_sparks 25 = .ok (.iaload, 1) := by decide +kernel
theorem dX12_sparks_26 : decode cX12_sparks 26 = .ok (.iastore, 1) := by decide +kernel
theorem dX12_sparks_27 : decode cX12_sparks 27 = .ok (.iinc 1 1, 3) := by decide +kernel
theorem dX12_sparks_30 : decode cX12_sparks 30 = .ok (.goto (-23), 3) := by decide +kernel
theorem dX12_sparks_33 : decode cX12_sparks 33 = .ok (.aload_n 0, 1) := by decide +kernel
theorem dX12_sparks_34 : decode cX12_sparks 34 = .ok (.aload_n 0, 1) := by decide +kernel
theorem dX12_sparks_35 : decode cX12_sparks 35 = .ok (.getfield 239, 3) := by decide +kernel
theorem dX12_sparks_38 : decode cX12_sparks 38 = .ok (.putfield 404, 3) := by decide +kernel
theorem dX12_sparks_41 : decode cX12_sparks 41 = .ok (.aload_n 0, 1) := by decide +kernel
theorem dX12_sparks_42 : decode cX12_sparks 42 = .ok (.iconst 0, 1) := by decide +kernel
theorem dX12_sparks_43 : decode cX12_sparks 43 = .ok (.putfield 239, 3) := by decide +kernel
theorem dX12_sparks_46 : decode cX12_sparks 46 = .ok (.aload_n 0, 1) := by decide +kernel
theorem dX12_sparks_47 : decode cX12_sparks 47 = .ok (.getfield 404, 3) := by decide +kernel
theorem dX12_sparks_50 : decode cX12_sparks 50 = .ok (.ireturn, 1) := by decide +kernel
theorem dX12_lost_0 : decode cX12_lost 0 = .ok (.aload_n 0, 1) := by decide +kernel
theorem dX12_lost_1 : decode cX12_lost 1 = .ok (.iconst 0, 1) := by decide +kernel
theorem dX12_lost_2 : decode cX12_lost 2 = .ok (.putfield 167, 3) := by decide +kernel
theorem dX12_lost_5 : decode cX12_lost 5 = .ok (.aload_n 0, 1) := by decide +kernel
theorem dX12_lost_6 : decode cX12_lost 6 = .ok (.iload_n 1, 1) := by decide +kernel
theorem dX12_lost_7 : decode cX12_lost 7 = .ok (.iconst 0, 1) := by decide +kernel
theorem dX12_lost_8 : decode cX12_lost 8 = .ok (.sipush 256, 3) := by decide +kernel
theorem dX12_lost_11 : decode cX12_lost 11 = .ok (.invokevirtual 170, 3) := by decide +kernel
theorem dX12_lost_14 : decode cX12_lost 14 = .ok (.ifCond .eq 14, 3) := by decide +kernel
theorem dX12_lost_17 : decode cX12_lost 17 = .ok (.aload_n 0, 1) := by decide +kernel
theorem dX12_lost_18 : decode cX12_lost 18 = .ok (.iload_n 2, 1) := by decide +kernel
theorem dX12_lost_19 : decode cX12_lost 19 = .ok (.iconst 1, 1) := by decide +kernel
theorem dX12_lost_20 : decode cX12_lost 20 = .ok (.bipush 99, 2) := by decide +kernel
theorem dX12_lost_22 : decode cX12_lost 22 = .ok (.invokevirtual 170, 3) := by decide +kernel
theorem dX12_lost_25 : decode cX12_lost 25 = .ok (.ifCond .ne 5, 3) := by decide +kernel
theorem dX12_lost_28 : decode cX12_lost 28 = .ok (.iconst (-1), 1) := by decide +kernel
theorem dX12_lost_29 : decode cX12_lost 29 = .ok (.ireturn, 1) := by decide +kernel
theorem dX12_lost_30 : decode cX12_lost 30 = .ok (.iconst 0, 1) := by decide +kernel
theorem dX12_lost_31 : decode cX12_lost 31 = .ok (.istore_n 3, 1) := by decide +kernel
theorem dX12_lost_32 : decode cX12_lost 32 = .ok (.iconst 0, 1) := by decide +kernel
theorem dX12_lost_33 : decode cX12_lost 33 = .ok (.istore 4, 2) := by decide +kernel
theorem dX12_lost_35 : decode cX12_lost 35 = .ok (.iload 4, 2) := by decide +kernel
theorem dX12_lost_37 : decode cX12_lost 37 = .ok (.aload_n 0, 1) := by decide +kernel
theorem dX12_lost_38 : decode cX12_lost 38 = .ok (.getfield 404, 3) := by decide +kernel
theorem dX12_lost_41 : decode cX12_lost 41 = .ok (.if_icmp .ge 40, 3) := by decide +kernel
theorem dX12_lost_44 : decode cX12_lost 44 = .ok (.aload_n 0, 1) := by decide +kernel
theorem dX12_lost_45 : decode cX12_lost 45 = .ok (.getfield 164, 3) := by decide +kernel
theorem dX12_lost_48 : decode cX12_lost 48 = .ok (.iload 4, 2) := by decide +kernel
theorem dX12_lost_50 : decode cX12_lost 50 = .ok (.iaload, 1) := by decide +kernel
theorem dX12_lost_51 : decode cX12_lost 51 = .ok (.iload_n 1, 1) := by decide +kernel
theorem dX12_lost_52 : decode cX12_lost 52 = .ok (.if_icmp .ge 9, 3) := by decide +kernel
theorem dX12_lost_55 : decode cX12_lost 55 = .ok (.iload_n 3, 1) := by decide +kernel
theorem dX12_lost_56 : decode cX12_lost 56 = .ok (.iconst 1, 1) := by decide +kernel
theorem dX12_lost_57 : decode cX12_lost 57 = .ok (.iadd, 1) := by decide +kernel
theorem dX12_lost_58 : decode cX12_lost 58 = .ok (.goto 4, 3) := by decide +kernel
theorem dX12_lost_61 : decode cX12_lost 61 = .ok (.iconst 0, 1) := by decide +kernel
theorem dX12_lost_62 : decode cX12_lost 62 = .ok (.istore_n 3, 1) := by decide +kernel
theorem dX12_lost_63 : decode cX12_lost 63 = .ok (.iload_n 3, 1) := by decide +kernel
theorem dX12_lost_64 : decode cX12_lost 64 = .ok (.iload_n 2, 1) := by decide +kernel
theorem dX12_lost_65 : decode cX12_lost 65 = .ok (.if_icmp .ne 10, 3) := by decide +kernel
theorem dX12_lost_68 : decode cX12_lost 68 = .ok (.iload 4, 2) := by decide +kernel
theorem dX12_lost_70 : decode cX12_lost 70 = .ok (.iload_n 2, 1) := by decide +kernel
theorem dX12_lost_71 : decode cX12_lost 71 = .ok (.isub, 1) := by decide +kernel
theorem dX12_lost_72 : decode cX12_lost 72 = .ok (.iconst 1, 1) := by decide +kernel
theorem dX12_lost_73 : decode cX12_lost 73 = .ok (.iadd, 1) := by decide +kernel
theorem dX12_lost_74 : decode cX12_lost 74 = .ok (.ireturn, 1) := by decide +kernel
theorem dX12_lost_75 : decode cX12_lost 75 = .ok (.iinc 4 1, 3) := by decide +kernel
theorem dX12_lost_78 : decode cX12_lost 78 = .ok (.goto (-43), 3) := by decide +kernel
theorem dX12_lost_81 : decode cX12_lost 81 = .ok (.iconst (-1), 1) := by decide +kernel
theorem dX12_lost_82 : decode cX12_lost 82 = .ok (.ireturn, 1) := by decide +kernel
theorem dJ6_bitCount_0f7a4_0 : decode cJ6_bitCount_0f7a4 0 = .ok (.iload_n 0, 1) := by decide +kernel
theorem dJ6_bitCount_0f7a4_1 : decode cJ6_bitCount_0f7a4 1 = .ok (.iload_n 0, 1) := by decide +kernel
theorem dJ6_bitCount_0f7a4_2 : decode cJ6_bitCount_0f7a4 2 = .ok (.iconst 1, 1) := by decide +kernel
theorem dJ6_bitCount_0f7a4_3 : decode cJ6_bitCount_0f7a4 3 = .ok (.iushr, 1) := by decide +kernel
theorem dJ6_bitCount_0f7a4_4 : decode cJ6_bitCount_0f7a4 4 = .ok (.ldc_w 265, 3) := by decide +kernel
theorem dJ6_bitCount_0f7a4_7 : decode cJ6_bitCount_0f7a4 7 = .ok (.iand, 1) := by decide +kernel
theorem dJ6_bitCount_0f7a4_8 : decode cJ6_bitCount_0f7a4 8 = .ok (.isub, 1) := by decide +kernel
theorem dJ6_bitCount_0f7a4_9 : decode cJ6_bitCount_0f7a4 9 = .ok (.istore_n 0, 1) := by decide +kernel
theorem dJ6_bitCount_0f7a4_10 : decode cJ6_bitCount_0f7a4 10 = .ok (.iload_n 0, 1) := by decide +kernel
theorem dJ6_bitCount_0f7a4_11 : decode cJ6_bitCount_0f7a4 11 = .ok (.ldc_w 266, 3) := by decide +kernel
theorem dJ6_bitCount_0f7a4_14 : decode cJ6_bitCount_0f7a4 14 = .ok (.iand, 1) := by decide +kernel
theorem dJ6_bitCount_0f7a4_15 : decode cJ6_bitCount_0f7a4 15 = .ok (.iload_n 0, 1) := by decide +kernel
theorem dJ6_bitCount_0f7a4_16 : decode cJ6_bitCount_0f7a4 16 = .ok (.iconst 2, 1) := by decide +kernel
theorem dJ6_bitCount_0f7a4_17 : decode cJ6_bitCount_0f7a4 17 = .ok (.iushr, 1) := by decide +kernel
theorem dJ6_bitCount_0f7a4_18 : decode cJ6_bitCount_0f7a4 18 = .ok (.ldc_w 266, 3) := by decide +kernel
theorem dJ6_bitCount_0f7a4_21 : decode cJ6_bitCount_0f7a4 21 = .ok (.iand, 1) := by decide +kernel
theorem dJ6_bitCount_0f7a4_22 : decode cJ6_bitCount_0f7a4 22 = .ok (.iadd, 1) := by decide +kernel
theorem dJ6_bitCount_0f7a4_23 : decode cJ6_bitCount_0f7a4 23 = .ok (.istore_n 0, 1) := by decide +kernel
theorem dJ6_bitCount_0f7a4_24 : decode cJ6_bitCount_0f7a4 24 = .ok (.iload_n 0, 1) := by decide +kernel
theorem dJ6_bitCount_0f7a4_25 : decode cJ6_bitCount_0f7a4 25 = .ok (.iload_n 0, 1) := by decide +kernel
theorem dJ6_bitCount_0f7a4_26 : decode cJ6_bitCount_0f7a4 26 = .ok (.iconst 4, 1) := by decide +kernel
theorem dJ6_bitCount_0f7a4_27 : decode cJ6_bitCount_0f7a4 27 = .ok (.iushr, 1) := by decide +kernel
theorem dJ6_bitCount_0f7a4_28 : decode cJ6_bitCount_0f7a4 28 = .ok (.iadd, 1) := by decide +kernel
theorem dJ6_bitCount_0f7a4_29 : decode cJ6_bitCount_0f7a4 29 = .ok (.ldc_w 267, 3) := by decide +kernel
theorem dJ6_bitCount_0f7a4_32 : decode cJ6_bitCount_0f7a4 32 = .ok (.iand, 1) := by decide +kernel
theorem dJ6_bitCount_0f7a4_33 : decode cJ6_bitCount_0f7a4 33 = .ok (.istore_n 0, 1) := by decide +kernel
theorem dJ6_bitCount_0f7a4_34 : decode cJ6_bitCount_0f7a4 34 = .ok (.iload_n 0, 1) := by decide +kernel
theorem dJ6_bitCount_0f7a4_35 : decode cJ6_bitCount_0f7a4 35 = .ok (.iload_n 0, 1) := by decide +kernel
theorem dJ6_bitCount_0f7a4_36 : decode cJ6_bitCount_0f7a4 36 = .ok (.bipush 8, 2) := by decide +kernel
theorem dJ6_bitCount_0f7a4_38 : decode cJ6_bitCount_0f7a4 38 = .ok (.iushr, 1) := by decide +kernel
theorem dJ6_bitCount_0f7a4_39 : decode cJ6_bitCount_0f7a4 39 = .ok (.iadd, 1) := by decide +kernel
theorem dJ6_bitCount_0f7a4_40 : decode cJ6_bitCount_0f7a4 40 = .ok (.istore_n 0, 1) := by decide +kernel
theorem dJ6_bitCount_0f7a4_41 : decode cJ6_bitCount_0f7a4 41 = .ok (.iload_n 0, 1) := by decide +kernel
theorem dJ6_bitCount_0f7a4_42 : decode cJ6_bitCount_0f7a4 42 = .ok (.iload_n 0, 1) := by decide +kernel
theorem dJ6_bitCount_0f7a4_43 : decode cJ6_bitCount_0f7a4 43 = .ok (.bipush 16, 2) := by decide +kernel
theorem dJ6_bitCount_0f7a4_45 : decode cJ6_bitCount_0f7a4 45 = .ok (.iushr, 1) := by decide +kernel
theorem dJ6_bitCount_0f7a4_46 : decode cJ6_bitCount_0f7a4 46 = .ok (.iadd, 1) := by decide +kernel
theorem dJ6_bitCount_0f7a4_47 : decode cJ6_bitCount_0f7a4 47 = .ok (.istore_n 0, 1) := by decide +kernel
theorem dJ6_bitCount_0f7a4_48 : decode cJ6_bitCount_0f7a4 48 = .ok (.iload_n 0, 1) := by decide +kernel
theorem dJ6_bitCount_0f7a4_49 : decode cJ6_bitCount_0f7a4 49 = .ok (.bipush 63, 2) := by decide +kernel
theorem dJ6_bitCount_0f7a4_51 : decode cJ6_bitCount_0f7a4 51 = .ok (.iand, 1) := by decide +kernel
theorem dJ6_bitCount_0f7a4_52 : decode cJ6_bitCount_0f7a4 52 = .ok (.ireturn, 1) := by decide +kernel
theorem dJ7_fill_53178_0 : decode cJ7_fill_53178 0 = .ok (.iconst 0, 1) := by decide +kernel
theorem dJ7_fill_53178_1 : decode cJ7_fill_53178 1 = .ok (.istore_n 2, 1) := by decide +kernel
theorem dJ7_fill_53178_2 : decode cJ7_fill_53178 2 = .ok (.aload_n 0, 1) := by decide +kernel
theorem dJ7_fill_53178_3 : decode cJ7_fill_53178 3 = .ok (.arraylength, 1) := by decide +kernel
theorem dJ7_fill_53178_4 : decode cJ7_fill_53178 4 = .ok (.istore_n 3, 1) := by decide +kernel
theorem dJ7_fill_53178_5 : decode cJ7_fill_53178 5 = .ok (.iload_n 2, 1) := by decide +kernel
theorem dJ7_fill_53178_6 : decode cJ7_fill_53178 6 = .ok (.iload_n 3, 1) := by decide +kernel
theorem dJ7_fill_53178_7 : decode cJ7_fill_53178 7 = .ok (.if_icmp .ge 13, 3) := by decide +kernel
theorem dJ7_fill_53178_10 : decode cJ7_fill_53178 10 = .ok (.aload_n 0, 1) := by decide +kernel
theorem dJ7_fill_53178_11 : decode cJ7_fill_53178 11 = .ok (.iload_n 2, 1) := by decide +kernel
theorem dJ7_fill_53178_12 : decode cJ7_fill_53178 12 = .ok (.iload_n 1, 1) := by decide +kernel
theorem dJ7_fill_53178_13 : decode cJ7_fill_53178 13 = .ok (.iastore, 1) := by decide +kernel
theorem dJ7_fill_53178_14 : decode cJ7_fill_53178 14 = .ok (.iinc 2 1, 3) := by decide +kernel
theorem dJ7_fill_53178_17 : decode cJ7_fill_53178 17 = .ok (.goto (-12), 3) := by decide +kernel
theorem dJ7_fill_53178_20 : decode cJ7_fill_53178 20 = .ok (.return_, 1) := by decide +kernel
theorem dL_law_0 : decode cL_law 0 = .ok (.new 7, 3) := by decide +kernel
theorem dL_law_3 : decode cL_law 3 = .ok (.dup, 1) := by decide +kernel
theorem dL_law_4 : decode cL_law 4 = .ok (.invokespecial 9, 3) := by decide +kernel
theorem dL_law_7 : decode cL_law 7 = .ok (.astore_n 1, 1) := by decide +kernel
theorem dL_law_8 : decode cL_law 8 = .ok (.new 10, 3) := by decide +kernel
theorem dL_law_11 : decode cL_law 11 = .ok (.dup, 1) := by decide +kernel
theorem dL_law_12 : decode cL_law 12 = .ok (.invokespecial 12, 3) := by decide +kernel
theorem dL_law_15 : decode cL_law 15 = .ok (.astore_n 2, 1) := by decide +kernel
theorem dL_law_16 : decode cL_law 16 = .ok (.iconst 0, 1) := by decide +kernel
theorem dL_law_17 : decode cL_law 17 = .ok (.istore_n 3, 1) := by decide +kernel
theorem dL_law_18 : decode cL_law 18 = .ok (.iload_n 3, 1) := by decide +kernel
theorem dL_law_19 : decode cL_law 19 = .ok (.aload_n 0, 1) := by decide +kernel
theorem dL_law_20 : decode cL_law 20 = .ok (.arraylength, 1) := by decide +kernel
theorem dL_law_21 : decode cL_law 21 = .ok (.bipush 6, 2) := by decide +kernel
theorem dL_law_23 : decode cL_law 23 = .ok (.isub, 1) := by decide +kernel
theorem dL_law_24 : decode cL_law 24 = .ok (.if_icmp .gt 843, 3) := by decide +kernel
theorem dL_law_27 : decode cL_law 27 = .ok (.aload_n 0, 1) := by decide +kernel
theorem dL_law_28 : decode cL_law 28 = .ok (.iload_n 3, 1) := by decide +kernel
theorem dL_law_29 : decode cL_law 29 = .ok (.iaload, 1) := by decide +kernel
theorem dL_law_30 : decode cL_law 30 = .ok (.bipush 31, 2) := by decide +kernel
theorem dL_law_32 : decode cL_law 32 = .ok (.iand, 1) := by decide +kernel
theorem dL_law_33 : decode cL_law 33 = .ok (.tableswitch 828 0 19 #[95, 158, 211, 260, 283, 346, 369, 392, 415, 438, 481, 504, 528, 561, 594, 637, 670, 739, 782, 795], 95) := by decide +kernel
theorem dL_law_128 : decode cL_law 128 = .ok (.aload_n 1, 1) := by decide +kernel
theorem dL_law_129 : decode cL_law 129 = .ok (.aload_n 0, 1) := by decide +kernel
theorem dL_law_130 : decode cL_law 130 = .ok (.iload_n 3, 1) := by decide +kernel
theorem dL_law_131 : decode cL_law 131 = .ok (.iconst 1, 1) := by decide +kernel
theorem dL_law_132 : decode cL_law 132 = .ok (.iadd, 1) := by decide +kernel
theorem dL_law_133 : decode cL_law 133 = .ok (.iaload, 1) := by decide +kernel
theorem dL_law_134 : decode cL_law 134 = .ok (.aload_n 0, 1) := by decide +kernel
theorem dL_law_135 : decode cL_law 135 = .ok (.iload_n 3, 1) := by decide +kernel
theorem dL_law_136 : decode cL_law 136 = .ok (.iconst 2, 1) := by decide +kernel
theorem dL_law_137 : decode cL_law 137 = .ok (.iadd, 1) := by decide +kernel
theorem dL_law_138 : decode cL_law 138 = .ok (.iaload, 1) := by decide +kernel
theorem dL_law_139 : decode cL_law 139 = .ok (.aload_n 0, 1) := by decide +kernel
theorem dL_law_140 : decode cL_law 140 = .ok (.iload_n 3, 1) := by decide +kernel
theorem dL_law_141 : decode cL_law 141 = .ok (.iconst 3, 1) := by decide +kernel
theorem dL_law_142 : decode cL_law 142 = .ok (.iadd, 1) := by decide +kernel
theorem dL_law_143 : decode cL_law 143 = .ok (.iaload, 1) := by decide +kernel
theorem dL_law_144 : decode cL_law 144 = .ok (.aload_n 0, 1) := by decide +kernel
theorem dL_law_145 : decode cL_law 145 = .ok (.iload_n 3, 1) := by decide +kernel
theorem dL_law_146 : decode cL_law 146 = .ok (.iconst 4, 1) := by decide +kernel
theorem dL_law_147 : decode cL_law 147 = .ok (.iadd, 1) := by decide +kernel
theorem dL_law_148 : decode cL_law 148 = .ok (.iaload, 1) := by decide +kernel
theorem dL_law_149 : decode cL_law 149 = .ok (.aload_n 0, 1) := by decide +kernel
theorem dL_law_150 : decode cL_law 150 = .ok (.iload_n 3, 1) := by decide +kernel
theorem dL_law_151 : decode cL_law 151 = .ok (.iconst 5, 1) := by decide +kernel
theorem dL_law_152 : decode cL_law 152 = .ok (.iadd, 1) := by decide +kernel
theorem dL_law_153 : decode cL_law 153 = .ok (.iaload, 1) := by decide +kernel
theorem dL_law_154 : decode cL_law 154 = .ok (.invokevirtual 13, 3) := by decide +kernel
theorem dL_law_157 : decode cL_law 157 = .ok (.aload_n 2, 1) := by decide +kernel
theorem dL_law_158 : decode cL_law 158 = .ok (.aload_n 0, 1) := by decide +kernel
theorem dL_law_159 : decode cL_law 159 = .ok (.iload_n 3, 1) := by decide +kernel
theorem dL_law_160 : decode cL_law 160 = .ok (.iconst 1, 1) := by decide +kernel
theorem dL_law_161 : decode cL_law 161 = .ok (.iadd, 1) := by decide +kernel
theorem dL_law_162 : decode cL_law 162 = .ok (.iaload, 1) := by decide +kernel
theorem dL_law_163 : decode cL_law 163 = .ok (.aload_n 0, 1) := by decide +kernel
theorem dL_law_164 : decode cL_law 164 = .ok (.iload_n 3, 1) := by decide +kernel
theorem dL_law_165 : decode cL_law 165 = .ok (.iconst 2, 1) := by decide +kernel
theorem dL_law_166 : decode cL_law 166 = .ok (.iadd, 1) := by decide +kernel
theorem dL_law_167 : decode cL_law 167 = .ok (.iaload, 1) := by decide +kernel
theorem dL_law_168 : decode cL_law 168 = .ok (.aload_n 0, 1) := by decide +kernel
theorem dL_law_169 : decode cL_law 169 = .ok (.iload_n 3, 1) := by decide +kernel
theorem dL_law_170 : decode cL_law 170 = .ok (.iconst 3, 1) := by decide +kernel
theorem dL_law_171 : decode cL_law 171 = .ok (.iadd, 1) := by decide +kernel
theorem dL_law_172 : decode cL_law 172 = .ok (.iaload, 1) := by decide +kernel
theorem dL_law_173 : decode cL_law 173 = .ok (.aload_n 0, 1) := by decide +kernel
theorem dL_law_174 : decode cL_law 174 = .ok (.iload_n 3, 1) := by decide +kernel
theorem dL_law_175 : decode cL_law 175 = .ok (.iconst 4, 1) := by decide +kernel
theorem dL_law_176 : decode cL_law 176 = .ok (.iadd, 1) := by decide +kernel
theorem dL_law_177 : decode cL_law 177 = .ok (.iaload, 1) := by decide +kernel
theorem dL_law_178 : decode cL_law 178 = .ok (.aload_n 0, 1) := by decide +kernel
theorem dL_law_179 : decode cL_law 179 = .ok (.iload_n 3, 1) := by decide +kernel
theorem dL_law_180 : decode cL_law 180 = .ok (.iconst 5, 1) := by decide +kernel
theorem dL_law_181 : decode cL_law 181 = .ok (.iadd, 1) := by decide +kernel
theorem dL_law_182 : decode cL_law 182 = .ok (.iaload, 1) := by decide +kernel
theorem dL_law_183 : decode cL_law 183 = .ok (.invokevirtual 17, 3) := by decide +kernel
theorem dL_law_186 : decode cL_law 186 = .ok (.if_icmp .eq 675, 3) := by decide +kernel
theorem dL_law_189 : decode cL_law 189 = .ok (.iconst 0, 1) := by decide +kernel
theorem dL_law_190 : decode cL_law 190 = .ok (.ireturn, 1) := by decide +kernel
theorem dL_law_191 : decode cL_law 191 = .ok (.aload_n 1, 1) := by decide +kernel
theorem dL_law_192 : decode cL_law 192 = .ok (.aload_n 0, 1) := by decide +kernel
theorem dL_law_193 : decode cL_law 193 = .ok (.iload_n 3, 1) := by decide +kernel
theorem dL_law_194 : decode cL_law 194 = .ok (.iconst 1, 1) := by decide +kernel
theorem dL_law_195 : decode cL_law 195 = .ok (.iadd, 1) := by decide +kernel
theorem dL_law_196 : decode cL_law 196 = .ok (.iaload, 1) := by decide +kernel
theorem dL_law_197 : decode cL_law 197 = .ok (.aload_n 0, 1) := by decide +kernel
theorem dL_law_198 : decode cL_law 198 = .ok (.iload_n 3, 1) := by decide +kernel
theorem dL_law_199 : decode cL_law 199 = .ok (.iconst 2, 1) := by decide +kernel
theorem dL_law_200 : decode cL_law 200 = .ok (.iadd, 1) := by decide +kernel
theorem dL_law_201 : decode cL_law 201 = .ok (.iaload, 1) := by decide +kernel
theorem dL_law_202 : decode cL_law 202 = .ok (.aload_n 0, 1) := by decide +kernel
theorem dL_law_203 : decode cL_law 203 = .ok (.iload_n 3, 1) := by decide +kernel
theorem dL_law_204 : decode cL_law 204 = .ok (.iconst 3, 1) := by decide +kernel
theorem dL_law_205 : decode cL_law 205 = .ok (.iadd, 1) := by decide +kernel
theorem dL_law_206 : decode cL_law 206 = .ok (.iaload, 1) := by decide +kernel
theorem dL_law_207 : decode cL_law 207 = .ok (.aload_n 0, 1) := by decide +kernel
theorem dL_law_208 : decode cL_law 208 = .ok (.iload_n 3, 1) := by decide +kernel
theorem dL_law_209 : decode cL_law 209 = .ok (.iconst 4, 1) := by decide +kernel
theorem dL_law_210 : decode cL_law 210 = .ok (.iadd, 1) := by decide +kernel
theorem dL_law_211 : decode cL_law 211 = .ok (.iaload, 1) := by decide +kernel
theorem dL_law_212 : decode cL_law 212 = .ok (.invokevirtual 18, 3) := by decide +kernel
theorem dL_law_215 : decode cL_law 215 = .ok (.aload_n 2, 1) := by decide +kernel
theorem dL_law_216 : decode cL_law 216 = .ok (.aload_n 0, 1) := by decide +kernel
theorem dL_law_217 : decode cL_law 217 = .ok (.iload_n 3, 1) := by decide +kernel
theorem dL_law_218 : decode cL_law 218 = .ok (.iconst 1, 1) := by decide +kernel
theorem dL_law_219 : decode cL_law 219 = .ok (.iadd, 1) := by decide +kernel
theorem dL_law_220 : decode cL_law 220 = .ok (.iaload, 1) := by decide +kernel
theorem dL_law_221 : decode cL_law 221 = .ok (.aload_n 0, 1) := by decide +kernel
theorem dL_law_222 : decode cL_law 222 = .ok (.iload_n 3, 1) := by decide +kernel
theorem dL_law_223 : decode cL_law 223 = .ok (.iconst 2, 1) := by decide +kernel
theorem dL_law_224 : decode cL_law 224 = .ok (.iadd, 1) := by decide +kernel
theorem dL_law_225 : decode cL_law 225 = .ok (.iaload, 1) := by decide +kernel
theorem dL_law_226 : decode cL_law 226 = .ok (.aload_n 0, 1) := by decide +kernel
theorem dL_law_227 : decode cL_law 227 = .ok (.iload_n 3, 1) := by decide +kernel
theorem dL_law_228 : decode cL_law 228 = .ok (.iconst 3, 1) := by decide +kernel
theorem dL_law_229 : decode cL_law 229 = .ok (.iadd, 1) := by decide +kernel
theorem dL_law_230 : decode cL_law 230 = .ok (.iaload, 1) := by decide +kernel
theorem dL_law_231 : decode cL_law 231 = .ok (.aload_n 0, 1) := by decide +kernel
theorem dL_law_232 : decode cL_law 232 = .ok (.iload_n 3, 1) := by decide +kernel
theorem dL_law_233 : decode cL_law 233 = .ok (.iconst 4, 1) := by decide +kernel
theorem dL_law_234 : decode cL_law 234 = .ok (.iadd, 1) := by decide +kernel
theorem dL_law_235 : decode cL_law 235 = .ok (.iaload, 1) := by decide +kernel
theorem dL_law_236 : decode cL_law 236 = .ok (.invokevirtual 22, 3) := by decide +kernel
theorem dL_law_239 : decode cL_law 239 = .ok (.if_icmp .eq 622, 3) := by decide +kernel
theorem dL_law_242 : decode cL_law 242 = .ok (.iconst 0, 1) := by decide +kernel
theorem dL_law_243 : decode cL_law 243 = .ok (.ireturn, 1) := by decide +kernel
theorem dL_law_244 : decode cL_law 244 = .ok (.aload_n 1, 1) := by decide +kernel
theorem dL_law_245 : decode cL_law 245 = .ok (.aload_n 0, 1) := by decide +kernel
theorem dL_law_246 : decode cL_law 246 = .ok (.iload_n 3, 1) := by decide +kernel
theorem dL_law_247 : decode cL_law 247 = .ok (.iconst 1, 1) := by decide +kernel
theorem dL_law_248 : decode cL_law 248 = .ok (.iadd, 1) := by decide +kernel
theorem dL_law_249 : decode cL_law 249 = .ok (.iaload, 1) := by decide +kernel
theorem dL_law_250 : decode cL_law 250 = .ok (.aload_n 0, 1) := by decide +kernel
theorem dL_law_251 : decode cL_law 251 = .ok (.iload_n 3, 1) := by decide +kernel
theorem dL_law_252 : decode cL_law 252 = .ok (.iconst 2, 1) := by decide +kernel
theorem dL_law_253 : decode cL_law 253 = .ok (.iadd, 1) := by decide +kernel
theorem dL_law_254 : decode cL_law 254 = .ok (.iaload, 1) := by decide +kernel
theorem dL_law_255 : decode cL_law 255 = .ok (.ifCond .eq 7, 3) := by decide +kernel
theorem dL_law_258 : decode cL_law 258 = .ok (.iconst 1, 1) := by decide +kernel
theorem dL_law_259 : decode cL_law 259 = .ok (.goto 4, 3) := by decide +kernel
theorem dL_law_262 : decode cL_law 262 = .ok (.iconst 0, 1) := by decide +kernel
theorem dL_law_263 : decode cL_law 263 = .ok (.invokevirtual 23, 3) := by decide +kernel
theorem dL_law_266 : decode cL_law 266 = .ok (.aload_n 2, 1) := by decide +kernel
theorem dL_law_267 : decode cL_law 267 = .ok (.aload_n 0, 1) := by decide +kernel
theorem dL_law_268 : decode cL_law 268 = .ok (.iload_n 3, 1) := by decide +kernel
theorem dL_law_269 : decode cL_law 269 = .ok (.iconst 1, 1) := by decide +kernel
theorem dL_law_270 : decode cL_law 270 = .ok (.iadd, 1) := by decide +kernel
theorem dL_law_271 : decode cL_law 271 = .ok (.iaload, 1) := by decide +kernel
theorem dL_law_272 : decode cL_law 272 = .ok (.aload_n 0, 1) := by decide +kernel
theorem dL_law_273 : decode cL_law 273 = .ok (.iload_n 3, 1) := by decide +kernel
theorem dL_law_274 : decode cL_law 274 = .ok (.iconst 2, 1) := by decide +kernel
theorem dL_law_275 : decode cL_law 275 = .ok (.iadd, 1) := by decide +kernel
theorem dL_law_276 : decode cL_law 276 = .ok (.iaload, 1) := by decide +kernel
theorem dL_law_277 : decode cL_law 277 = .ok (.ifCond .eq 7, 3) := by decide +kernel
theorem dL_law_280 : decode cL_law 280 = .ok (.iconst 1, 1) := by decide +kernel
theorem dL_law_281 : decode cL_law 281 = .ok (.goto 4, 3) := by decide +kernel
theorem dL_law_284 : decode cL_law 284 = .ok (.iconst 0, 1) := by decide +kernel
theorem dL_law_285 : decode cL_law 285 = .ok (.invokevirtual 27, 3) := by decide +kernel
theorem dL_law_288 : decode cL_law 288 = .ok (.if_icmp .eq 573, 3) := by decide +kernel
theorem dL_law_291 : decode cL_law 291 = .ok (.iconst 0, 1) := by decide +kernel
theorem dL_law_292 : decode cL_law 292 = .ok (.ireturn, 1) := by decide +kernel
theorem dL_law_293 : decode cL_law 293 = .ok (.aload_n 1, 1) := by decide +kernel
theorem dL_law_294 : decode cL_law 294 = .ok (.aload_n 0, 1) := by decide +kernel
theorem dL_law_295 : decode cL_law 295 = .ok (.iload_n 3, 1) := by decide +kernel
theorem dL_law_296 : decode cL_law 296 = .ok (.iconst 1, 1) := by decide +kernel
theorem dL_law_297 : decode cL_law 297 = .ok (.iadd, 1) := by decide +kernel
theorem dL_law_298 : decode cL_law 298 = .ok (.iaload, 1) := by decide +kernel
theorem dL_law_299 : decode cL_law 299 = .ok (.invokevirtual 28, 3) := by decide +kernel
theorem dL_law_302 : decode cL_law 302 = .ok (.aload_n 2, 1) := by decide +kernel
theorem dL_law_303 : decode cL_law 303 = .ok (.aload_n 0, 1) := by decide +kernel
theorem dL_law_304 : decode cL_law 304 = .ok (.iload_n 3, 1) := by decide +kernel
theorem dL_law_305 : decode cL_law 305 = .ok (.iconst 1, 1) := by decide +kernel
theorem dL_law_306 : decode cL_law 306 = .ok (.iadd, 1) := by decide +kernel
theorem dL_law_307 : decode cL_law 307 = .ok (.iaload, 1) := by decide +kernel
theorem dL_law_308 : decode cL_law 308 = .ok (.invokevirtual 32, 3) := by decide +kernel
theorem dL_law_311 : decode cL_law 311 = .ok (.if_icmp .eq 550, 3) := by decide +kernel
theorem dL_law_314 : decode cL_law 314 = .ok (.iconst 0, 1) := by decide +kernel
theorem dL_law_315 : decode cL_law 315 = .ok (.ireturn, 1) := by decide +kernel
theorem dL_law_316 : decode cL_law 316 = .ok (.aload_n 1, 1) := by decide +kernel
theorem dL_law_317 : decode cL_law 317 = .ok (.aload_n 0, 1) := by decide +kernel
theorem dL_law_318 : decode cL_law 318 = .ok (.iload_n 3, 1) := by decide +kernel
theorem dL_law_319 : decode cL_law 319 = .ok (.iconst 1, 1) := by decide +kernel
theorem dL_law_320 : decode cL_law 320 = .ok (.iadd, 1) := by decide +kernel
theorem dL_law_321 : decode cL_law 321 = .ok (.iaload, 1) := by decide +kernel
theorem dL_law_322 : decode cL_law 322 = .ok (.aload_n 0, 1) := by decide +kernel
theorem dL_law_323 : decode cL_law 323 = .ok (.iload_n 3, 1) := by decide +kernel
theorem dL_law_324 : decode cL_law 324 = .ok (.iconst 2, 1) := by decide +kernel
theorem dL_law_325 : decode cL_law 325 = .ok (.iadd, 1) := by decide +kernel
theorem dL_law_326 : decode cL_law 326 = .ok (.iaload, 1) := by decide +kernel
theorem dL_law_327 : decode cL_law 327 = .ok (.aload_n 0, 1) := by decide +kernel
theorem dL_law_328 : decode cL_law 328 = .ok (.iload_n 3, 1) := by decide +kernel
theorem dL_law_329 : decode cL_law 329 = .ok (.iconst 3, 1) := by decide +kernel
theorem dL_law_330 : decode cL_law 330 = .ok (.iadd, 1) := by decide +kernel
theorem dL_law_331 : decode cL_law 331 = .ok (.iaload, 1) := by decide +kernel
theorem dL_law_332 : decode cL_law 332 = .ok (.aload_n 0, 1) := by decide +kernel
theorem dL_law_333 : decode cL_law 333 = .ok (.iload_n 3, 1) := by decide +kernel
theorem dL_law_334 : decode cL_law 334 = .ok (.iconst 4, 1) := by decide +kernel
theorem dL_law_335 : decode cL_law 335 = .ok (.iadd, 1) := by decide +kernel
theorem dL_law_336 : decode cL_law 336 = .ok (.iaload, 1) := by decide +kernel
theorem dL_law_337 : decode cL_law 337 = .ok (.aload_n 0, 1) := by decide +kernel
theorem dL_law_338 : decode cL_law 338 = .ok (.iload_n 3, 1) := by decide +kernel
theorem dL_law_339 : decode cL_law 339 = .ok (.iconst 5, 1) := by decide +kernel
theorem dL_law_340 : decode cL_law 340 = .ok (.iadd, 1) := by decide +kernel
theorem dL_law_341 : decode cL_law 341 = .ok (.iaload, 1) := by decide +kernel
theorem dL_law_342 : decode cL_law 342 = .ok (.invokevirtual 33, 3) := by decide +kernel
theorem dL_law_345 : decode cL_law 345 = .ok (.aload_n 2, 1) := by decide +kernel
theorem dL_law_346 : decode cL_law 346 = .ok (.aload_n 0, 1) := by decide +kernel
theorem dL_law_347 : decode cL_law 347 = .ok (.iload_n 3, 1) := by decide +kernel
theorem dL_law_348 : decode cL_law 348 = .ok (.iconst 1, 1) := by decide +kernel
theorem dL_law_349 : decode cL_law 349 = .ok (.iadd, 1) := by decide +kernel
theorem dL_law_350 : decode cL_law 350 = .ok (.iaload, 1) := by decide +kernel
theorem dL_law_351 : decode cL_law 351 = .ok (.aload_n 0, 1) := by decide +kernel
theorem dL_law_352 : decode cL_law 352 = .ok (.iload_n 3, 1) := by decide +kernel
theorem dL_law_353 : decode cL_law 353 = .ok (.iconst 2, 1) := by decide +kernel
theorem dL_law_354 : decode cL_law 354 = .ok (.iadd, 1) := by decide +kernel
theorem dL_law_355 : decode cL_law 355 = .ok (.iaload, 1) := by decide +kernel
theorem dL_law_356 : decode cL_law 356 = .ok (.aload_n 0, 1) := by decide +kernel
theorem dL_law_357 : decode cL_law 357 = .ok (.iload_n 3, 1) := by decide +kernel
theorem dL_law_358 : decode cL_law 358 = .ok (.iconst 3, 1) := by decide +kernel
theorem dL_law_359 : decode cL_law 359 = .ok (.iadd, 1) := by decide +kernel
theorem dL_law_360 : decode cL_law 360 = .ok (.iaload, 1) := by decide +kernel
theorem dL_law_361 : decode cL_law 361 = .ok (.aload_n 0, 1) := by decide +kernel
theorem dL_law_362 : decode cL_law 362 = .ok (.iload_n 3, 1) := by decide +kernel
theorem dL_law_363 : decode cL_law 363 = .ok (.iconst 4, 1) := by decide +kernel
theorem dL_law_364 : decode cL_law 364 = .ok (.iadd, 1) := by decide +kernel
theorem dL_law_365 : decode cL_law 365 = .ok (.iaload, 1) := by decide +kernel
theorem dL_law_366 : decode cL_law 366 = .ok (.aload_n 0, 1) := by decide +kernel
theorem dL_law_367 : decode cL_law 367 = .ok (.iload_n 3, 1) := by decide +kernel
theorem dL_law_368 : decode cL_law 368 = .ok (.iconst 5, 1) := by decide +kernel
theorem dL_law_369 : decode cL_law 369 = .ok (.iadd, 1) := by decide +kernel
theorem dL_law_370 : decode cL_law 370 = .ok (.iaload, 1) := by decide +kernel
theorem dL_law_371 : decode cL_law 371 = .ok (.invokevirtual 37, 3) := by decide +kernel
theorem dL_law_374 : decode cL_law 374 = .ok (.if_icmp .eq 487, 3) := by decide +kernel
theorem dL_law_377 : decode cL_law 377 = .ok (.iconst 0, 1) := by decide +kernel
theorem dL_law_378 : decode cL_law 378 = .ok (.ireturn, 1) := by decide +kernel
theorem dL_law_379 : decode cL_law 379 = .ok (.aload_n 1, 1) := by decide +kernel
theorem dL_law_380 : decode cL_law 380 = .ok (.aload_n 0, 1) := by decide +kernel
theorem dL_law_381 : decode cL_law 381 = .ok (.iload_n 3, 1) := by decide +kernel
theorem dL_law_382 : decode cL_law 382 = .ok (.iconst 1, 1) := by decide +kernel
theorem dL_law_383 : decode cL_law 383 = .ok (.iadd, 1) := by decide +kernel
theorem dL_law_384 : decode cL_law 384 = .ok (.iaload, 1) := by decide +kernel
theorem dL_law_385 : decode cL_law 385 = .ok (.invokevirtual 38, 3) := by decide +kernel
theorem dL_law_388 : decode cL_law 388 = .ok (.aload_n 2, 1) := by decide +kernel
theorem dL_law_389 : decode cL_law 389 = .ok (.aload_n 0, 1) := by decide +kernel
theorem dL_law_390 : decode cL_law 390 = .ok (.iload_n 3, 1) := by decide +kernel
theorem dL_law_391 : decode cL_law 391 = .ok (.iconst 1, 1) := by decide +kernel
theorem dL_law_392 : decode cL_law 392 = .ok (.iadd, 1) := by decide +kernel
theorem dL_law_393 : decode cL_law 393 = .ok (.iaload, 1) := by decide +kernel
theorem dL_law_394 : decode cL_law 394 = .ok (.invokevirtual 41, 3) := by decide +kernel
theorem dL_law_397 : decode cL_law 397 = .ok (.if_icmp .eq 464, 3) := by decide +kernel
theorem dL_law_400 : decode cL_law 400 = .ok (.iconst 0, 1) := by decide +kernel
theorem dL_law_401 : decode cL_law 401 = .ok (.ireturn, 1) := by decide +kernel
theorem dL_law_402 : decode cL_law 402 = .ok (.aload_n 1, 1) := by decide +kernel
theorem dL_law_403 : decode cL_law 403 = .ok (.aload_n 0, 1) := by decide +kernel
theorem dL_law_404 : decode cL_law 404 = .ok (.iload_n 3, 1) := by decide +kernel
theorem dL_law_405 : decode cL_law 405 = .ok (.iconst 1, 1) := by decide +kernel
theorem dL_law_406 : decode cL_law 406 = .ok (.iadd, 1) := by decide +kernel
theorem dL_law_407 : decode cL_law 407 = .ok (.iaload, 1) := by decide +kernel
theorem dL_law_408 : decode cL_law 408 = .ok (.invokevirtual 42, 3) := by decide +kernel
theorem dL_law_411 : decode cL_law 411 = .ok (.aload_n 2, 1) := by decide +kernel
theorem dL_law_412 : decode cL_law 412 = .ok (.aload_n 0, 1) := by decide +kernel
theorem dL_law_413 : decode cL_law 413 = .ok (.iload_n 3, 1) := by decide +kernel
theorem dL_law_414 : decode cL_law 414 = .ok (.iconst 1, 1) := by decide +kernel
theorem dL_law_415 : decode cL_law 415 = .ok (.iadd, 1) := by decide +kernel
theorem dL_law_416 : decode cL_law 416 = .ok (.iaload, 1) := by decide +kernel
theorem dL_law_417 : decode cL_law 417 = .ok (.invokevirtual 45, 3) := by decide +kernel
theorem dL_law_420 : decode cL_law 420 = .ok (.if_icmp .eq 441, 3) := by decide +kernel
theorem dL_law_423 : decode cL_law 423 = .ok (.iconst 0, 1) := by decide +kernel
theorem dL_law_424 : decode cL_law 424 = .ok (.ireturn, 1) := by decide +kernel
theorem dL_law_425 : decode cL_law 425 = .ok (.aload_n 1, 1) := by decide +kernel
theorem dL_law_426 : decode cL_law 426 = .ok (.aload_n 0, 1) := by decide +kernel
theorem dL_law_427 : decode cL_law 427 = .ok (.iload_n 3, 1) := by decide +kernel
theorem dL_law_428 : decode cL_law 428 = .ok (.iconst 1, 1) := by decide +kernel
theorem dL_law_429 : decode cL_law 429 = .ok (.iadd, 1) := by decide +kernel
theorem dL_law_430 : decode cL_law 430 = .ok (.iaload, 1) := by decide +kernel
theorem dL_law_431 : decode cL_law 431 = .ok (.invokevirtual 46, 3) := by decide +kernel
theorem dL_law_434 : decode cL_law 434 = .ok (.aload_n 2, 1) := by decide +kernel
theorem dL_law_435 : decode cL_law 435 = .ok (.aload_n 0, 1) := by decide +kernel
theorem dL_law_436 : decode cL_law 436 = .ok (.iload_n 3, 1) := by decide +kernel
theorem dL_law_437 : decode cL_law 437 = .ok (.iconst 1, 1) := by decide +kernel
theorem dL_law_438 : decode cL_law 438 = .ok (.iadd, 1) := by decide +kernel
theorem dL_law_439 : decode cL_law 439 = .ok (.iaload, 1) := by decide +kernel
theorem dL_law_440 : decode cL_law 440 = .ok (.invokevirtual 50, 3) := by decide +kernel
theorem dL_law_443 : decode cL_law 443 = .ok (.if_icmp .eq 418, 3) := by decide +kernel
theorem dL_law_446 : decode cL_law 446 = .ok (.iconst 0, 1) := by decide +kernel
theorem dL_law_447 : decode cL_law 447 = .ok (.ireturn, 1) := by decide +kernel
theorem dL_law_448 : decode cL_law 448 = .ok (.aload_n 1, 1) := by decide +kernel
theorem dL_law_449 : decode cL_law 449 = .ok (.aload_n 0, 1) := by decide +kernel
theorem dL_law_450 : decode cL_law 450 = .ok (.iload_n 3, 1) := by decide +kernel
theorem dL_law_451 : decode cL_law 451 = .ok (.iconst 1, 1) := by decide +kernel
theorem dL_law_452 : decode cL_law 452 = .ok (.iadd, 1) := by decide +kernel
theorem dL_law_453 : decode cL_law 453 = .ok (.iaload, 1) := by decide +kernel
theorem dL_law_454 : decode cL_law 454 = .ok (.invokevirtual 51, 3) := by decide +kernel
theorem dL_law_457 : decode cL_law 457 = .ok (.aload_n 2, 1) := by decide +kernel
theorem dL_law_458 : decode cL_law 458 = .ok (.aload_n 0, 1) := by decide +kernel
theorem dL_law_459 : decode cL_law 459 = .ok (.iload_n 3, 1) := by decide +kernel
theorem dL_law_460 : decode cL_law 460 = .ok (.iconst 1, 1) := by decide +kernel
theorem dL_law_461 : decode cL_law 461 = .ok (.iadd, 1) := by decide +kernel
theorem dL_law_462 : decode cL_law 462 = .ok (.iaload, 1) := by decide +kernel
theorem dL_law_463 : decode cL_law 463 = .ok (.invokevirtual 54, 3) := by decide +kernel
theorem dL_law_466 : decode cL_law 466 = .ok (.if_icmp .eq 395, 3) := by decide +kernel
theorem dL_law_469 : decode cL_law 469 = .ok (.iconst 0, 1) := by decide +kernel
theorem dL_law_470 : decode cL_law 470 = .ok (.ireturn, 1) := by decide +kernel
theorem dL_law_471 : decode cL_law 471 = .ok (.aload_n 1, 1) := by decide +kernel
theorem dL_law_472 : decode cL_law 472 = .ok (.aload_n 0, 1) := by decide +kernel
theorem dL_law_473 : decode cL_law 473 = .ok (.iload_n 3, 1) := by decide +kernel
theorem dL_law_474 : decode cL_law 474 = .ok (.iconst 1, 1) := by decide +kernel
theorem dL_law_475 : decode cL_law 475 = .ok (.iadd, 1) := by decide +kernel
theorem dL_law_476 : decode cL_law 476 = .ok (.iaload, 1) := by decide +kernel
theorem dL_law_477 : decode cL_law 477 = .ok (.aload_n 0, 1) := by decide +kernel
theorem dL_law_478 : decode cL_law 478 = .ok (.iload_n 3, 1) := by decide +kernel
theorem dL_law_479 : decode cL_law 479 = .ok (.iconst 2, 1) := by decide +kernel
theorem dL_law_480 : decode cL_law 480 = .ok (.iadd, 1) := by decide +kernel
theorem dL_law_481 : decode cL_law 481 = .ok (.iaload, 1) := by decide +kernel
theorem dL_law_482 : decode cL_law 482 = .ok (.aload_n 0, 1) := by decide +kernel
theorem dL_law_483 : decode cL_law 483 = .ok (.iload_n 3, 1) := by decide +kernel
theorem dL_law_484 : decode cL_law 484 = .ok (.iconst 3, 1) := by decide +kernel
theorem dL_law_485 : decode cL_law 485 = .ok (.iadd, 1) := by decide +kernel
theorem dL_law_486 : decode cL_law 486 = .ok (.iaload, 1) := by decide +kernel
theorem dL_law_487 : decode cL_law 487 = .ok (.invokevirtual 55, 3) := by decide +kernel
theorem dL_law_490 : decode cL_law 490 = .ok (.aload_n 2, 1) := by decide +kernel
theorem dL_law_491 : decode cL_law 491 = .ok (.aload_n 0, 1) := by decide +kernel
theorem dL_law_492 : decode cL_law 492 = .ok (.iload_n 3, 1) := by decide +kernel
theorem dL_law_493 : decode cL_law 493 = .ok (.iconst 1, 1) := by decide +kernel
theorem dL_law_494 : decode cL_law 494 = .ok (.iadd, 1) := by decide +kernel
theorem dL_law_495 : decode cL_law 495 = .ok (.iaload, 1) := by decide +kernel
theorem dL_law_496 : decode cL_law 496 = .ok (.aload_n 0, 1) := by decide +kernel
theorem dL_law_497 : decode cL_law 497 = .ok (.iload_n 3, 1) := by decide +kernel
theorem dL_law_498 : decode cL_law 498 = .ok (.iconst 2, 1) := by decide +kernel
theorem dL_law_499 : decode cL_law 499 = .ok (.iadd, 1) := by decide +kernel
theorem dL_law_500 : decode cL_law 500 = .ok (.iaload, 1) := by decide +kernel
theorem dL_law_501 : decode cL_law 501 = .ok (.aload_n 0, 1) := by decide +kernel
theorem dL_law_502 : decode cL_law 502 = .ok (.iload_n 3, 1) := by decide +kernel
theorem dL_law_503 : decode cL_law 503 = .ok (.iconst 3, 1) := by decide +kernel
theorem dL_law_504 : decode cL_law 504 = .ok (.iadd, 1) := by decide +kernel
theorem dL_law_505 : decode cL_law 505 = .ok (.iaload, 1) := by decide +kernel
theorem dL_law_506 : decode cL_law 506 = .ok (.invokevirtual 59, 3) := by decide +kernel
theorem dL_law_509 : decode cL_law 509 = .ok (.if_icmp .eq 352, 3) := by decide +kernel
theorem dL_law_512 : decode cL_law 512 = .ok (.iconst 0, 1) := by decide +kernel
theorem dL_law_513 : decode cL_law 513 = .ok (.ireturn, 1) := by decide +kernel
theorem dL_law_514 : decode cL_law 514 = .ok (.aload_n 1, 1) := by decide +kernel
theorem dL_law_515 : decode cL_law 515 = .ok (.aload_n 0, 1) := by decide +kernel
theorem dL_law_516 : decode cL_law 516 = .ok (.iload_n 3, 1) := by decide +kernel
theorem dL_law_517 : decode cL_law 517 = .ok (.iconst 1, 1) := by decide +kernel
theorem dL_law_518 : decode cL_law 518 = .ok (.iadd, 1) := by decide +kernel
theorem dL_law_519 : decode cL_law 519 = .ok (.iaload, 1) := by decide +kernel
theorem dL_law_520 : decode cL_law 520 = .ok (.invokevirtual 60, 3) := by decide +kernel
theorem dL_law_523 : decode cL_law 523 = .ok (.aload_n 2, 1) := by decide +kernel
theorem dL_law_524 : decode cL_law 524 = .ok (.aload_n 0, 1) := by decide +kernel
theorem dL_law_525 : decode cL_law 525 = .ok (.iload_n 3, 1) := by decide +kernel
theorem dL_law_526 : decode cL_law 526 = .ok (.iconst 1, 1) := by decide +kernel
theorem dL_law_527 : decode cL_law 527 = .ok (.iadd, 1) := by decide +kernel
theorem dL_law_528 : decode cL_law 528 = .ok (.iaload, 1) := by decide +kernel
theorem dL_law_529 : decode cL_law 529 = .ok (.invokevirtual 63, 3) := by decide +kernel
theorem dL_law_532 : decode cL_law 532 = .ok (.if_icmp .eq 329, 3) := by decide +kernel
theorem dL_law_535 : decode cL_law 535 = .ok (.iconst 0, 1) := by decide +kernel
theorem dL_law_536 : decode cL_law 536 = .ok (.ireturn, 1) := by decide +kernel
theorem dL_law_537 : decode cL_law 537 = .ok (.aload_n 1, 1) := by decide +kernel
theorem dL_law_538 : decode cL_law 538 = .ok (.aload_n 0, 1) := by decide +kernel
theorem dL_law_539 : decode cL_law 539 = .ok (.iload_n 3, 1) := by decide +kernel
theorem dL_law_540 : decode cL_law 540 = .ok (.iconst 1, 1) := by decide +kernel
theorem dL_law_541 : decode cL_law 541 = .ok (.iadd, 1) := by decide +kernel
theorem dL_law_542 : decode cL_law 542 = .ok (.iaload, 1) := by decide +kernel
theorem dL_law_543 : decode cL_law 543 = .ok (.invokevirtual 64, 3) := by decide +kernel
theorem dL_law_546 : decode cL_law 546 = .ok (.aload_n 2, 1) := by decide +kernel
theorem dL_law_547 : decode cL_law 547 = .ok (.aload_n 0, 1) := by decide +kernel
theorem dL_law_548 : decode cL_law 548 = .ok (.iload_n 3, 1) := by decide +kernel
theorem dL_law_549 : decode cL_law 549 = .ok (.iconst 1, 1) := by decide +kernel
theorem dL_law_550 : decode cL_law 550 = .ok (.iadd, 1) := by decide +kernel
theorem dL_law_551 : decode cL_law 551 = .ok (.iaload, 1) := by decide +kernel
theorem dL_law_552 : decode cL_law 552 = .ok (.invokevirtual 68, 3) := by decide +kernel
theorem dL_law_555 : decode cL_law 555 = .ok (.lcmp, 1) := by decide +kernel
theorem dL_law_556 : decode cL_law 556 = .ok (.ifCond .eq 305, 3) := by decide +kernel
theorem dL_law_559 : decode cL_law 559 = .ok (.iconst 0, 1) := by decide +kernel
theorem dL_law_560 : decode cL_law 560 = .ok (.ireturn, 1) := by decide +kernel
theorem dL_law_561 : decode cL_law 561 = .ok (.aload_n 1, 1) := by decide +kernel
theorem dL_law_562 : decode cL_law 562 = .ok (.aload_n 0, 1) := by decide +kernel
theorem dL_law_563 : decode cL_law 563 = .ok (.iload_n 3, 1) := by decide +kernel
theorem dL_law_564 : decode cL_law 564 = .ok (.iconst 1, 1) := by decide +kernel
theorem dL_law_565 : decode cL_law 565 = .ok (.iadd, 1) := by decide +kernel
theorem dL_law_566 : decode cL_law 566 = .ok (.iaload, 1) := by decide +kernel
theorem dL_law_567 : decode cL_law 567 = .ok (.aload_n 0, 1) := by decide +kernel
theorem dL_law_568 : decode cL_law 568 = .ok (.iload_n 3, 1) := by decide +kernel
theorem dL_law_569 : decode cL_law 569 = .ok (.iconst 2, 1) := by decide +kernel
theorem dL_law_570 : decode cL_law 570 = .ok (.iadd, 1) := by decide +kernel
theorem dL_law_571 : decode cL_law 571 = .ok (.iaload, 1) := by decide +kernel
theorem dL_law_572 : decode cL_law 572 = .ok (.invokevirtual 69, 3) := by decide +kernel
theorem dL_law_575 : decode cL_law 575 = .ok (.aload_n 2, 1) := by decide +kernel
theorem dL_law_576 : decode cL_law 576 = .ok (.aload_n 0, 1) := by decide +kernel
theorem dL_law_577 : decode cL_law 577 = .ok (.iload_n 3, 1) := by decide +kernel
theorem dL_law_578 : decode cL_law 578 = .ok (.iconst 1, 1) := by decide +kernel
theorem dL_law_579 : decode cL_law 579 = .ok (.iadd, 1) := by decide +kernel
theorem dL_law_580 : decode cL_law 580 = .ok (.iaload, 1) := by decide +kernel
theorem dL_law_581 : decode cL_law 581 = .ok (.aload_n 0, 1) := by decide +kernel
theorem dL_law_582 : decode cL_law 582 = .ok (.iload_n 3, 1) := by decide +kernel
theorem dL_law_583 : decode cL_law 583 = .ok (.iconst 2, 1) := by decide +kernel
theorem dL_law_584 : decode cL_law 584 = .ok (.iadd, 1) := by decide +kernel
theorem dL_law_585 : decode cL_law 585 = .ok (.iaload, 1) := by decide +kernel
theorem dL_law_586 : decode cL_law 586 = .ok (.invokevirtual 73, 3) := by decide +kernel
theorem dL_law_589 : decode cL_law 589 = .ok (.if_icmp .eq 272, 3) := by decide +kernel
theorem dL_law_592 : decode cL_law 592 = .ok (.iconst 0, 1) := by decide +kernel
theorem dL_law_593 : decode cL_law 593 = .ok (.ireturn, 1) := by decide +kernel
theorem dL_law_594 : decode cL_law 594 = .ok (.aload_n 1, 1) := by decide +kernel
theorem dL_law_595 : decode cL_law 595 = .ok (.aload_n 0, 1) := by decide +kernel
theorem dL_law_596 : decode cL_law 596 = .ok (.iload_n 3, 1) := by decide +kernel
theorem dL_law_597 : decode cL_law 597 = .ok (.iconst 1, 1) := by decide +kernel
theorem dL_law_598 : decode cL_law 598 = .ok (.iadd, 1) := by decide +kernel
theorem dL_law_599 : decode cL_law 599 = .ok (.iaload, 1) := by decide +kernel
theorem dL_law_600 : decode cL_law 600 = .ok (.aload_n 0, 1) := by decide +kernel
theorem dL_law_601 : decode cL_law 601 = .ok (.iload_n 3, 1) := by decide +kernel
theorem dL_law_602 : decode cL_law 602 = .ok (.iconst 2, 1) := by decide +kernel
theorem dL_law_603 : decode cL_law 603 = .ok (.iadd, 1) := by decide +kernel
theorem dL_law_604 : decode cL_law 604 = .ok (.iaload, 1) := by decide +kernel
theorem dL_law_605 : decode cL_law 605 = .ok (.invokevirtual 74, 3) := by decide +kernel
theorem dL_law_608 : decode cL_law 608 = .ok (.aload_n 2, 1) := by decide +kernel
theorem dL_law_609 : decode cL_law 609 = .ok (.aload_n 0, 1) := by decide +kernel
theorem dL_law_610 : decode cL_law 610 = .ok (.iload_n 3, 1) := by decide +kernel
theorem dL_law_611 : decode cL_law 611 = .ok (.iconst 1, 1) := by decide +kernel
theorem dL_law_612 : decode cL_law 612 = .ok (.iadd, 1) := by decide +kernel
theorem dL_law_613 : decode cL_law 613 = .ok (.iaload, 1) := by decide +kernel
theorem dL_law_614 : decode cL_law 614 = .ok (.aload_n 0, 1) := by decide +kernel
theorem dL_law_615 : decode cL_law 615 = .ok (.iload_n 3, 1) := by decide +kernel
theorem dL_law_616 : decode cL_law 616 = .ok (.iconst 2, 1) := by decide +kernel
theorem dL_law_617 : decode cL_law 617 = .ok (.iadd, 1) := by decide +kernel
theorem dL_law_618 : decode cL_law 618 = .ok (.iaload, 1) := by decide +kernel
theorem dL_law_619 : decode cL_law 619 = .ok (.invokevirtual 77, 3) := by decide +kernel
theorem dL_law_622 : decode cL_law 622 = .ok (.if_icmp .eq 239, 3) := by decide +kernel
theorem dL_law_625 : decode cL_law 625 = .ok (.iconst 0, 1) := by decide +kernel
theorem dL_law_626 : decode cL_law 626 = .ok (.ireturn, 1) := by decide +kernel
theorem dL_law_627 : decode cL_law 627 = .ok (.aload_n 1, 1) := by decide +kernel
theorem dL_law_628 : decode cL_law 628 = .ok (.aload_n 0, 1) := by decide +kernel
theorem dL_law_629 : decode cL_law 629 = .ok (.iload_n 3, 1) := by decide +kernel
theorem dL_law_630 : decode cL_law 630 = .ok (.iconst 1, 1) := by decide +kernel
theorem dL_law_631 : decode cL_law 631 = .ok (.iadd, 1) := by decide +kernel
theorem dL_law_632 : decode cL_law 632 = .ok (.iaload, 1) := by decide +kernel
theorem dL_law_633 : decode cL_law 633 = .ok (.aload_n 0, 1) := by decide +kernel
theorem dL_law_634 : decode cL_law 634 = .ok (.iload_n 3, 1) := by decide +kernel
theorem dL_law_635 : decode cL_law 635 = .ok (.iconst 2, 1) := by decide +kernel
theorem dL_law_636 : decode cL_law 636 = .ok (.iadd, 1) := by decide +kernel
theorem dL_law_637 : decode cL_law 637 = .ok (.iaload, 1) := by decide +kernel
theorem dL_law_638 : decode cL_law 638 = .ok (.aload_n 0, 1) := by decide +kernel
theorem dL_law_639 : decode cL_law 639 = .ok (.iload_n 3, 1) := by decide +kernel
theorem dL_law_640 : decode cL_law 640 = .ok (.iconst 3, 1) := by decide +kernel
theorem dL_law_641 : decode cL_law 641 = .ok (.iadd, 1) := by decide +kernel
theorem dL_law_642 : decode cL_law 642 = .ok (.iaload, 1) := by decide +kernel
theorem dL_law_643 : decode cL_law 643 = .ok (.invokevirtual 78, 3) := by decide +kernel
theorem dL_law_646 : decode cL_law 646 = .ok (.aload_n 2, 1) := by decide +kernel
theorem dL_law_647 : decode cL_law 647 = .ok (.aload_n 0, 1) := by decide +kernel
theorem dL_law_648 : decode cL_law 648 = .ok (.iload_n 3, 1) := by decide +kernel
theorem dL_law_649 : decode cL_law 649 = .ok (.iconst 1, 1) := by decide +kernel
theorem dL_law_650 : decode cL_law 650 = .ok (.iadd, 1) := by decide +kernel
theorem dL_law_651 : decode cL_law 651 = .ok (.iaload, 1) := by decide +kernel
theorem dL_law_652 : decode cL_law 652 = .ok (.aload_n 0, 1) := by decide +kernel
theorem dL_law_653 : decode cL_law 653 = .ok (.iload_n 3, 1) := by decide +kernel
theorem dL_law_654 : decode cL_law 654 = .ok (.iconst 2, 1) := by decide +kernel
theorem dL_law_655 : decode cL_law 655 = .ok (.iadd, 1) := by decide +kernel
theorem dL_law_656 : decode cL_law 656 = .ok (.iaload, 1) := by decide +kernel
theorem dL_law_657 : decode cL_law 657 = .ok (.aload_n 0, 1) := by decide +kernel
theorem dL_law_658 : decode cL_law 658 = .ok (.iload_n 3, 1) := by decide +kernel
theorem dL_law_659 : decode cL_law 659 = .ok (.iconst 3, 1) := by decide +kernel
theorem dL_law_660 : decode cL_law 660 = .ok (.iadd, 1) := by decide +kernel
theorem dL_law_661 : decode cL_law 661 = .ok (.iaload, 1) := by decide +kernel
theorem dL_law_662 : decode cL_law 662 = .ok (.invokevirtual 81, 3) := by decide +kernel
theorem dL_law_665 : decode cL_law 665 = .ok (.if_icmp .eq 196, 3) := by decide +kernel
theorem dL_law_668 : decode cL_law 668 = .ok (.iconst 0, 1) := by decide +kernel
theorem dL_law_669 : decode cL_law 669 = .ok (.ireturn, 1) := by decide +kernel
theorem dL_law_670 : decode cL_law 670 = .ok (.aload_n 1, 1) := by decide +kernel
theorem dL_law_671 : decode cL_law 671 = .ok (.aload_n 0, 1) := by decide +kernel
theorem dL_law_672 : decode cL_law 672 = .ok (.iload_n 3, 1) := by decide +kernel
theorem dL_law_673 : decode cL_law 673 = .ok (.iconst 1, 1) := by decide +kernel
theorem dL_law_674 : decode cL_law 674 = .ok (.iadd, 1) := by decide +kernel
theorem dL_law_675 : decode cL_law 675 = .ok (.iaload, 1) := by decide +kernel
theorem dL_law_676 : decode cL_law 676 = .ok (.aload_n 0, 1) := by decide +kernel
theorem dL_law_677 : decode cL_law 677 = .ok (.iload_n 3, 1) := by decide +kernel
theorem dL_law_678 : decode cL_law 678 = .ok (.iconst 2, 1) := by decide +kernel
theorem dL_law_679 : decode cL_law 679 = .ok (.iadd, 1) := by decide +kernel
theorem dL_law_680 : decode cL_law 680 = .ok (.iaload, 1) := by decide +kernel
theorem dL_law_681 : decode cL_law 681 = .ok (.invokevirtual 82, 3) := by decide +kernel
theorem dL_law_684 : decode cL_law 684 = .ok (.aload_n 2, 1) := by decide +kernel
theorem dL_law_685 : decode cL_law 685 = .ok (.aload_n 0, 1) := by decide +kernel
theorem dL_law_686 : decode cL_law 686 = .ok (.iload_n 3, 1) := by decide +kernel
theorem dL_law_687 : decode cL_law 687 = .ok (.iconst 1, 1) := by decide +kernel
theorem dL_law_688 : decode cL_law 688 = .ok (.iadd, 1) := by decide +kernel
theorem dL_law_689 : decode cL_law 689 = .ok (.iaload, 1) := by decide +kernel
theorem dL_law_690 : decode cL_law 690 = .ok (.aload_n 0, 1) := by decide +kernel
theorem dL_law_691 : decode cL_law 691 = .ok (.iload_n 3, 1) := by decide +kernel
theorem dL_law_692 : decode cL_law 692 = .ok (.iconst 2, 1) := by decide +kernel
theorem dL_law_693 : decode cL_law 693 = .ok (.iadd, 1) := by decide +kernel
theorem dL_law_694 : decode cL_law 694 = .ok (.iaload, 1) := by decide +kernel
theorem dL_law_695 : decode cL_law 695 = .ok (.invokevirtual 85, 3) := by decide +kernel
theorem dL_law_698 : decode cL_law 698 = .ok (.if_icmp .eq 163, 3) := by decide +kernel
theorem dL_law_701 : decode cL_law 701 = .ok (.iconst 0, 1) := by decide +kernel
theorem dL_law_702 : decode cL_law 702 = .ok (.ireturn, 1) := by decide +kernel
theorem dL_law_703 : decode cL_law 703 = .ok (.aload_n 1, 1) := by decide +kernel
theorem dL_law_704 : decode cL_law 704 = .ok (.aload_n 0, 1) := by decide +kernel
theorem dL_law_705 : decode cL_law 705 = .ok (.iload_n 3, 1) := by decide +kernel
theorem dL_law_706 : decode cL_law 706 = .ok (.iconst 1, 1) := by decide +kernel
theorem dL_law_707 : decode cL_law 707 = .ok (.iadd, 1) := by decide +kernel
theorem dL_law_708 : decode cL_law 708 = .ok (.iaload, 1) := by decide +kernel
theorem dL_law_709 : decode cL_law 709 = .ok (.aload_n 0, 1) := by decide +kernel
theorem dL_law_710 : decode cL_law 710 = .ok (.iload_n 3, 1) := by decide +kernel
theorem dL_law_711 : decode cL_law 711 = .ok (.iconst 2, 1) := by decide +kernel
theorem dL_law_712 : decode cL_law 712 = .ok (.iadd, 1) := by decide +kernel
theorem dL_law_713 : decode cL_law 713 = .ok (.iaload, 1) := by decide +kernel
theorem dL_law_714 : decode cL_law 714 = .ok (.aload_n 0, 1) := by decide +kernel
theorem dL_law_715 : decode cL_law 715 = .ok (.iload_n 3, 1) := by decide +kernel
theorem dL_law_716 : decode cL_law 716 = .ok (.iconst 3, 1) := by decide +kernel
theorem dL_law_717 : decode cL_law 717 = .ok (.iadd, 1) := by decide +kernel
theorem dL_law_718 : decode cL_law 718 = .ok (.iaload, 1) := by decide +kernel
theorem dL_law_719 : decode cL_law 719 = .ok (.ifCond .eq 7, 3) := by decide +kernel
theorem dL_law_722 : decode cL_law 722 = .ok (.iconst 1, 1) := by decide +kernel
theorem dL_law_723 : decode cL_law 723 = .ok (.goto 4, 3) := by decide +kernel
theorem dL_law_726 : decode cL_law 726 = .ok (.iconst 0, 1) := by decide +kernel
theorem dL_law_727 : decode cL_law 727 = .ok (.aload_n 0, 1) := by decide +kernel
theorem dL_law_728 : decode cL_law 728 = .ok (.iload_n 3, 1) := by decide +kernel
theorem dL_law_729 : decode cL_law 729 = .ok (.iconst 4, 1) := by decide +kernel
theorem dL_law_730 : decode cL_law 730 = .ok (.iadd, 1) := by decide +kernel
theorem dL_law_731 : decode cL_law 731 = .ok (.iaload, 1) := by decide +kernel
theorem dL_law_732 : decode cL_law 732 = .ok (.invokevirtual 86, 3) := by decide +kernel
theorem dL_law_735 : decode cL_law 735 = .ok (.aload_n 2, 1) := by decide +kernel
theorem dL_law_736 : decode cL_law 736 = .ok (.aload_n 0, 1) := by decide +kernel
theorem dL_law_737 : decode cL_law 737 = .ok (.iload_n 3, 1) := by decide +kernel
theorem dL_law_738 : decode cL_law 738 = .ok (.iconst 1, 1) := by decide +kernel
theorem dL_law_739 : decode cL_law 739 = .ok (.iadd, 1) := by decide +kernel
theorem dL_law_740 : decode cL_law 740 = .ok (.iaload, 1) := by decide +kernel
theorem dL_law_741 : decode cL_law 741 = .ok (.aload_n 0, 1) := by decide +kernel
theorem dL_law_742 : decode cL_law 742 = .ok (.iload_n 3, 1) := by decide +kernel
theorem dL_law_743 : decode cL_law 743 = .ok (.iconst 2, 1) := by decide +kernel
theorem dL_law_744 : decode cL_law 744 = .ok (.iadd, 1) := by decide +kernel
theorem dL_law_745 : decode cL_law 745 = .ok (.iaload, 1) := by decide +kernel
theorem dL_law_746 : decode cL_law 746 = .ok (.aload_n 0, 1) := by decide +kernel
theorem dL_law_747 : decode cL_law 747 = .ok (.iload_n 3, 1) := by decide +kernel
theorem dL_law_748 : decode cL_law 748 = .ok (.iconst 3, 1) := by decide +kernel
theorem dL_law_749 : decode cL_law 749 = .ok (.iadd, 1) := by decide +kernel
theorem dL_law_750 : decode cL_law 750 = .ok (.iaload, 1) := by decide +kernel
theorem dL_law_751 : decode cL_law 751 = .ok (.ifCond .eq 7, 3) := by decide +kernel
theorem dL_law_754 : decode cL_law 754 = .ok (.iconst 1, 1) := by decide +kernel
theorem dL_law_755 : decode cL_law 755 = .ok (.goto 4, 3) := by decide +kernel
theorem dL_law_758 : decode cL_law 758 = .ok (.iconst 0, 1) := by decide +kernel
theorem dL_law_759 : decode cL_law 759 = .ok (.aload_n 0, 1) := by decide +kernel
theorem dL_law_760 : decode cL_law 760 = .ok (.iload_n 3, 1) := by decide +kernel
theorem dL_law_761 : decode cL_law 761 = .ok (.iconst 4, 1) := by decide +kernel
theorem dL_law_762 : decode cL_law 762 = .ok (.iadd, 1) := by decide +kernel
theorem dL_law_763 : decode cL_law 763 = .ok (.iaload, 1) := by decide +kernel
theorem dL_law_764 : decode cL_law 764 = .ok (.invokevirtual 90, 3) := by decide +kernel
theorem dL_law_767 : decode cL_law 767 = .ok (.if_icmp .eq 94, 3) := by decide +kernel
theorem dL_law_770 : decode cL_law 770 = .ok (.iconst 0, 1) := by decide +kernel
theorem dL_law_771 : decode cL_law 771 = .ok (.ireturn, 1) := by decide +kernel
theorem dL_law_772 : decode cL_law 772 = .ok (.aload_n 1, 1) := by decide +kernel
theorem dL_law_773 : decode cL_law 773 = .ok (.aload_n 0, 1) := by decide +kernel
theorem dL_law_774 : decode cL_law 774 = .ok (.iload_n 3, 1) := by decide +kernel
theorem dL_law_775 : decode cL_law 775 = .ok (.iconst 1, 1) := by decide +kernel
theorem dL_law_776 : decode cL_law 776 = .ok (.iadd, 1) := by decide +kernel
theorem dL_law_777 : decode cL_law 777 = .ok (.iaload, 1) := by decide +kernel
theorem dL_law_778 : decode cL_law 778 = .ok (.aload_n 0, 1) := by decide +kernel
theorem dL_law_779 : decode cL_law 779 = .ok (.iload_n 3, 1) := by decide +kernel
theorem dL_law_780 : decode cL_law 780 = .ok (.iconst 2, 1) := by decide +kernel
theorem dL_law_781 : decode cL_law 781 = .ok (.iadd, 1) := by decide +kernel
theorem dL_law_782 : decode cL_law 782 = .ok (.iaload, 1) := by decide +kernel
theorem dL_law_783 : decode cL_law 783 = .ok (.aload_n 0, 1) := by decide +kernel
theorem dL_law_784 : decode cL_law 784 = .ok (.iload_n 3, 1) := by decide +kernel
theorem dL_law_785 : decode cL_law 785 = .ok (.iconst 3, 1) := by decide +kernel
theorem dL_law_786 : decode cL_law 786 = .ok (.iadd, 1) := by decide +kernel
theorem dL_law_787 : decode cL_law 787 = .ok (.iaload, 1) := by decide +kernel
theorem dL_law_788 : decode cL_law 788 = .ok (.invokevirtual 91, 3) := by decide +kernel
theorem dL_law_791 : decode cL_law 791 = .ok (.aload_n 2, 1) := by decide +kernel
theorem dL_law_792 : decode cL_law 792 = .ok (.aload_n 0, 1) := by decide +kernel
theorem dL_law_793 : decode cL_law 793 = .ok (.iload_n 3, 1) := by decide +kernel
theorem dL_law_794 : decode cL_law 794 = .ok (.iconst 1, 1) := by decide +kernel
theorem dL_law_795 : decode cL_law 795 = .ok (.iadd, 1) := by decide +kernel
theorem dL_law_796 : decode cL_law 796 = .ok (.iaload, 1) := by decide +kernel
theorem dL_law_797 : decode cL_law 797 = .ok (.aload_n 0, 1) := by decide +kernel
theorem dL_law_798 : decode cL_law 798 = .ok (.iload_n 3, 1) := by decide +kernel
theorem dL_law_799 : decode cL_law 799 = .ok (.iconst 2, 1) := by decide +kernel
theorem dL_law_800 : decode cL_law 800 = .ok (.iadd, 1) := by decide +kernel
theorem dL_law_801 : decode cL_law 801 = .ok (.iaload, 1) := by decide +kernel
theorem dL_law_802 : decode cL_law 802 = .ok (.aload_n 0, 1) := by decide +kernel
theorem dL_law_803 : decode cL_law 803 = .ok (.iload_n 3, 1) := by decide +kernel
theorem dL_law_804 : decode cL_law 804 = .ok (.iconst 3, 1) := by decide +kernel
theorem dL_law_805 : decode cL_law 805 = .ok (.iadd, 1) := by decide +kernel
theorem dL_law_806 : decode cL_law 806 = .ok (.iaload, 1) := by decide +kernel
theorem dL_law_807 : decode cL_law 807 = .ok (.invokevirtual 94, 3) := by decide +kernel
theorem dL_law_810 : decode cL_law 810 = .ok (.if_icmp .eq 51, 3) := by decide +kernel
theorem dL_law_813 : decode cL_law 813 = .ok (.iconst 0, 1) := by decide +kernel
theorem dL_law_814 : decode cL_law 814 = .ok (.ireturn, 1) := by decide +kernel
theorem dL_law_815 : decode cL_law 815 = .ok (.aload_n 1, 1) := by decide +kernel
theorem dL_law_816 : decode cL_law 816 = .ok (.invokevirtual 95, 3) := by decide +kernel
theorem dL_law_819 : decode cL_law 819 = .ok (.aload_n 2, 1) := by decide +kernel
theorem dL_law_820 : decode cL_law 820 = .ok (.invokevirtual 99, 3) := by decide +kernel
theorem dL_law_823 : decode cL_law 823 = .ok (.if_icmp .eq 38, 3) := by decide +kernel
theorem dL_law_826 : decode cL_law 826 = .ok (.iconst 0, 1) := by decide +kernel
theorem dL_law_827 : decode cL_law 827 = .ok (.ireturn, 1) := by decide +kernel
theorem dL_law_828 : decode cL_law 828 = .ok (.aload_n 1, 1) := by decide +kernel
theorem dL_law_829 : decode cL_law 829 = .ok (.aload_n 0, 1) := by decide +kernel
theorem dL_law_830 : decode cL_law 830 = .ok (.iload_n 3, 1) := by decide +kernel
theorem dL_law_831 : decode cL_law 831 = .ok (.iconst 1, 1) := by decide +kernel
theorem dL_law_832 : decode cL_law 832 = .ok (.iadd, 1) := by decide +kernel
theorem dL_law_833 : decode cL_law 833 = .ok (.iaload, 1) := by decide +kernel
theorem dL_law_834 : decode cL_law 834 = .ok (.aload_n 0, 1) := by decide +kernel
theorem dL_law_835 : decode cL_law 835 = .ok (.iload_n 3, 1) := by decide +kernel
theorem dL_law_836 : decode cL_law 836 = .ok (.iconst 2, 1) := by decide +kernel
theorem dL_law_837 : decode cL_law 837 = .ok (.iadd, 1) := by decide +kernel
theorem dL_law_838 : decode cL_law 838 = .ok (.iaload, 1) := by decide +kernel
theorem dL_law_839 : decode cL_law 839 = .ok (.invokevirtual 100, 3) := by decide +kernel
theorem dL_law_842 : decode cL_law 842 = .ok (.aload_n 2, 1) := by decide +kernel
theorem dL_law_843 : decode cL_law 843 = .ok (.aload_n 0, 1) := by decide +kernel
theorem dL_law_844 : decode cL_law 844 = .ok (.iload_n 3, 1) := by decide +kernel
theorem dL_law_845 : decode cL_law 845 = .ok (.iconst 1, 1) := by decide +kernel
theorem dL_law_846 : decode cL_law 846 = .ok (.iadd, 1) := by decide +kernel
theorem dL_law_847 : decode cL_law 847 = .ok (.iaload, 1) := by decide +kernel
theorem dL_law_848 : decode cL_law 848 = .ok (.aload_n 0, 1) := by decide +kernel
theorem dL_law_849 : decode cL_law 849 = .ok (.iload_n 3, 1) := by decide +kernel
theorem dL_law_850 : decode cL_law 850 = .ok (.iconst 2, 1) := by decide +kernel
theorem dL_law_851 : decode cL_law 851 = .ok (.iadd, 1) := by decide +kernel
theorem dL_law_852 : decode cL_law 852 = .ok (.iaload, 1) := by decide +kernel
theorem dL_law_853 : decode cL_law 853 = .ok (.invokevirtual 103, 3) := by decide +kernel
theorem dL_law_856 : decode cL_law 856 = .ok (.if_icmp .eq 5, 3) := by decide +kernel
theorem dL_law_859 : decode cL_law 859 = .ok (.iconst 0, 1) := by decide +kernel
theorem dL_law_860 : decode cL_law 860 = .ok (.ireturn, 1) := by decide +kernel
theorem dL_law_861 : decode cL_law 861 = .ok (.iinc 3 6, 3) := by decide +kernel
theorem dL_law_864 : decode cL_law 864 = .ok (.goto (-846), 3) := by decide +kernel
theorem dL_law_867 : decode cL_law 867 = .ok (.iconst 1, 1) := by decide +kernel
theorem dL_law_868 : decode cL_law 868 = .ok (.ireturn, 1) := by decide +kernel
