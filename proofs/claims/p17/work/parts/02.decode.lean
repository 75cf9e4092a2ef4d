theorem dX0_init_0 : decode cX0_init 0 = .ok (.aload_n 0, 1) := by decide +kernel
theorem dX0_init_1 : decode cX0_init 1 = .ok (.invokespecial 5, 3) := by decide +kernel
theorem dX0_init_4 : decode cX0_init 4 = .ok (.aload_n 0, 1) := by decide +kernel
theorem dX0_init_5 : decode cX0_init 5 = .ok (.bipush 6, 2) := by decide +kernel
theorem dX0_init_7 : decode cX0_init 7 = .ok (.newarray .int, 2) := by decide +kernel
theorem dX0_init_9 : decode cX0_init 9 = .ok (.putfield 11, 3) := by decide +kernel
theorem dX0_init_12 : decode cX0_init 12 = .ok (.aload_n 0, 1) := by decide +kernel
theorem dX0_init_13 : decode cX0_init 13 = .ok (.bipush 6, 2) := by decide +kernel
theorem dX0_init_15 : decode cX0_init 15 = .ok (.newarray .int, 2) := by decide +kernel
theorem dX0_init_17 : decode cX0_init 17 = .ok (.putfield 15, 3) := by decide +kernel
theorem dX0_init_20 : decode cX0_init 20 = .ok (.aload_n 0, 1) := by decide +kernel
theorem dX0_init_21 : decode cX0_init 21 = .ok (.bipush 6, 2) := by decide +kernel
theorem dX0_init_23 : decode cX0_init 23 = .ok (.newarray .int, 2) := by decide +kernel
theorem dX0_init_25 : decode cX0_init 25 = .ok (.putfield 18, 3) := by decide +kernel
theorem dX0_init_28 : decode cX0_init 28 = .ok (.aload_n 0, 1) := by decide +kernel
theorem dX0_init_29 : decode cX0_init 29 = .ok (.sipush 1681, 3) := by decide +kernel
theorem dX0_init_32 : decode cX0_init 32 = .ok (.newarray .int, 2) := by decide +kernel
theorem dX0_init_34 : decode cX0_init 34 = .ok (.putfield 21, 3) := by decide +kernel
theorem dX0_init_37 : decode cX0_init 37 = .ok (.aload_n 0, 1) := by decide +kernel
theorem dX0_init_38 : decode cX0_init 38 = .ok (.iconst 0, 1) := by decide +kernel
theorem dX0_init_39 : decode cX0_init 39 = .ok (.putfield 24, 3) := by decide +kernel
theorem dX0_init_42 : decode cX0_init 42 = .ok (.return_, 1) := by decide +kernel
theorem dX0_addKind_0 : decode cX0_addKind 0 = .ok (.iload_n 1, 1) := by decide +kernel
theorem dX0_addKind_1 : decode cX0_addKind 1 = .ok (.iconst 1, 1) := by decide +kernel
theorem dX0_addKind_2 : decode cX0_addKind 2 = .ok (.bipush 40, 2) := by decide +kernel
theorem dX0_addKind_4 : decode cX0_addKind 4 = .ok (.invokestatic 28, 3) := by decide +kernel
theorem dX0_addKind_7 : decode cX0_addKind 7 = .ok (.ifCond .eq 33, 3) := by decide +kernel
theorem dX0_addKind_10 : decode cX0_addKind 10 = .ok (.iload_n 2, 1) := by decide +kernel
theorem dX0_addKind_11 : decode cX0_addKind 11 = .ok (.iconst 1, 1) := by decide +kernel
theorem dX0_addKind_12 : decode cX0_addKind 12 = .ok (.bipush 40, 2) := by decide +kernel
theorem dX0_addKind_14 : decode cX0_addKind 14 = .ok (.invokestatic 28, 3) := by decide +kernel
theorem dX0_addKind_17 : decode cX0_addKind 17 = .ok (.ifCond .eq 23, 3) := by decide +kernel
theorem dX0_addKind_20 : decode cX0_addKind 20 = .ok (.iload_n 3, 1) := by decide +kernel
theorem dX0_addKind_21 : decode cX0_addKind 21 = .ok (.iconst 0, 1) := by decide +kernel
theorem dX0_addKind_22 : decode cX0_addKind 22 = .ok (.sipush 999, 3) := by decide +kernel
theorem dX0_addKind_25 : decode cX0_addKind 25 = .ok (.invokestatic 28, 3) := by decide +kernel
theorem dX0_addKind_28 : decode cX0_addKind 28 = .ok (.ifCond .eq 12, 3) := by decide +kernel
theorem dX0_addKind_31 : decode cX0_addKind 31 = .ok (.aload_n 0, 1) := by decide +kernel
theorem dX0_addKind_32 : decode cX0_addKind 32 = .ok (.getfield 24, 3) := by decide +kernel
theorem dX0_addKind_35 : decode cX0_addKind 35 = .ok (.bipush 6, 2) := by decide +kernel
theorem dX0_addKind_37 : decode cX0_addKind 37 = .ok (.if_icmp .lt 5, 3) := by decide +kernel
theorem dX0_addKind_40 : decode cX0_addKind 40 = .ok (.iconst (-1), 1) := by decide +kernel
theorem dX0_addKind_41 : decode cX0_addKind 41 = .ok (.ireturn, 1) := by decide +kernel
theorem dX0_addKind_42 : decode cX0_addKind 42 = .ok (.aload_n 0, 1) := by decide +kernel
theorem dX0_addKind_43 : decode cX0_addKind 43 = .ok (.getfield 11, 3) := by decide +kernel
theorem dX0_addKind_46 : decode cX0_addKind 46 = .ok (.aload_n 0, 1) := by decide +kernel
theorem dX0_addKind_47 : decode cX0_addKind 47 = .ok (.getfield 24, 3) := by decide +kernel
theorem dX0_addKind_50 : decode cX0_addKind 50 = .ok (.iload_n 1, 1) := by decide +kernel
theorem dX0_addKind_51 : decode cX0_addKind 51 = .ok (.iastore, 1) := by decide +kernel
theorem dX0_addKind_52 : decode cX0_addKind 52 = .ok (.aload_n 0, 1) := by decide +kernel
theorem dX0_addKind_53 : decode cX0_addKind 53 = .ok (.getfield 15, 3) := by decide +kernel
theorem dX0_addKind_56 : decode cX0_addKind 56 = .ok (.aload_n 0, 1) := by decide +kernel
theorem dX0_addKind_57 : decode cX0_addKind 57 = .ok (.getfield 24, 3) := by decide +kernel
theorem dX0_addKind_60 : decode cX0_addKind 60 = .ok (.iload_n 2, 1) := by decide +kernel
theorem dX0_addKind_61 : decode cX0_addKind 61 = .ok (.iastore, 1) := by decide +kernel
theorem dX0_addKind_62 : decode cX0_addKind 62 = .ok (.aload_n 0, 1) := by decide +kernel
theorem dX0_addKind_63 : decode cX0_addKind 63 = .ok (.getfield 18, 3) := by decide +kernel
theorem dX0_addKind_66 : decode cX0_addKind 66 = .ok (.aload_n 0, 1) := by decide +kernel
theorem dX0_addKind_67 : decode cX0_addKind 67 = .ok (.getfield 24, 3) := by decide +kernel
theorem dX0_addKind_70 : decode cX0_addKind 70 = .ok (.iload_n 3, 1) := by decide +kernel
theorem dX0_addKind_71 : decode cX0_addKind 71 = .ok (.iastore, 1) := by decide +kernel
theorem dX0_addKind_72 : decode cX0_addKind 72 = .ok (.aload_n 0, 1) := by decide +kernel
theorem dX0_addKind_73 : decode cX0_addKind 73 = .ok (.dup, 1) := by decide +kernel
theorem dX0_addKind_74 : decode cX0_addKind 74 = .ok (.getfield 24, 3) := by decide +kernel
theorem dX0_addKind_77 : decode cX0_addKind 77 = .ok (.iconst 1, 1) := by decide +kernel
theorem dX0_addKind_78 : decode cX0_addKind 78 = .ok (.iadd, 1) := by decide +kernel
theorem dX0_addKind_79 : decode cX0_addKind 79 = .ok (.putfield 24, 3) := by decide +kernel
theorem dX0_addKind_82 : decode cX0_addKind 82 = .ok (.aload_n 0, 1) := by decide +kernel
theorem dX0_addKind_83 : decode cX0_addKind 83 = .ok (.invokevirtual 32, 3) := by decide +kernel
theorem dX0_addKind_86 : decode cX0_addKind 86 = .ok (.aload_n 0, 1) := by decide +kernel
theorem dX0_addKind_87 : decode cX0_addKind 87 = .ok (.getfield 24, 3) := by decide +kernel
theorem dX0_addKind_90 : decode cX0_addKind 90 = .ok (.iconst 1, 1) := by decide +kernel
theorem dX0_addKind_91 : decode cX0_addKind 91 = .ok (.isub, 1) := by decide +kernel
theorem dX0_addKind_92 : decode cX0_addKind 92 = .ok (.ireturn, 1) := by decide +kernel
theorem dX0_greatestWorth_0 : decode cX0_greatestWorth 0 = .ok (.iload_n 1, 1) := by decide +kernel
theorem dX0_greatestWorth_1 : decode cX0_greatestWorth 1 = .ok (.iconst 0, 1) := by decide +kernel
theorem dX0_greatestWorth_2 : decode cX0_greatestWorth 2 = .ok (.bipush 40, 2) := by decide +kernel
theorem dX0_greatestWorth_4 : decode cX0_greatestWorth 4 = .ok (.invokestatic 28, 3) := by decide +kernel
theorem dX0_greatestWorth_7 : decode cX0_greatestWorth 7 = .ok (.ifCond .eq 13, 3) := by decide +kernel
theorem dX0_greatestWorth_10 : decode cX0_greatestWorth 10 = .ok (.iload_n 2, 1) := by decide +kernel
theorem dX0_greatestWorth_11 : decode cX0_greatestWorth 11 = .ok (.iconst 0, 1) := by decide +kernel
theorem dX0_greatestWorth_12 : decode cX0_greatestWorth 12 = .ok (.bipush 40, 2) := by decide +kernel
theorem dX0_greatestWorth_14 : decode cX0_greatestWorth 14 = .ok (.invokestatic 28, 3) := by decide +kernel
theorem dX0_greatestWorth_17 : decode cX0_greatestWorth 17 = .ok (.ifCond .ne 5, 3) := by decide +kernel
theorem dX0_greatestWorth_20 : decode cX0_greatestWorth 20 = .ok (.iconst (-1), 1) := by decide +kernel
theorem dX0_greatestWorth_21 : decode cX0_greatestWorth 21 = .ok (.ireturn, 1) := by decide +kernel
theorem dX0_greatestWorth_22 : decode cX0_greatestWorth 22 = .ok (.aload_n 0, 1) := by decide +kernel
theorem dX0_greatestWorth_23 : decode cX0_greatestWorth 23 = .ok (.getfield 21, 3) := by decide +kernel
theorem dX0_greatestWorth_26 : decode cX0_greatestWorth 26 = .ok (.iload_n 1, 1) := by decide +kernel
theorem dX0_greatestWorth_27 : decode cX0_greatestWorth 27 = .ok (.bipush 41, 2) := by decide +kernel
theorem dX0_greatestWorth_29 : decode cX0_greatestWorth 29 = .ok (.imul, 1) := by decide +kernel
theorem dX0_greatestWorth_30 : decode cX0_greatestWorth 30 = .ok (.iload_n 2, 1) := by decide +kernel
theorem dX0_greatestWorth_31 : decode cX0_greatestWorth 31 = .ok (.iadd, 1) := by decide +kernel
theorem dX0_greatestWorth_32 : decode cX0_greatestWorth 32 = .ok (.iaload, 1) := by decide +kernel
theorem dX0_greatestWorth_33 : decode cX0_greatestWorth 33 = .ok (.ireturn, 1) := by decide +kernel
theorem dX0_fillAll_0 : decode cX0_fillAll 0 = .ok (.iconst 1, 1) := by decide +kernel
theorem dX0_fillAll_1 : decode cX0_fillAll 1 = .ok (.istore_n 1, 1) := by decide +kernel
theorem dX0_fillAll_2 : decode cX0_fillAll 2 = .ok (.iload_n 1, 1) := by decide +kernel
theorem dX0_fillAll_3 : decode cX0_fillAll 3 = .ok (.bipush 40, 2) := by decide +kernel
theorem dX0_fillAll_5 : decode cX0_fillAll 5 = .ok (.if_icmp .gt 49, 3) := by decide +kernel
theorem dX0_fillAll_8 : decode cX0_fillAll 8 = .ok (.iconst 1, 1) := by decide +kernel
theorem dX0_fillAll_9 : decode cX0_fillAll 9 = .ok (.istore_n 2, 1) := by decide +kernel
theorem dX0_fillAll_10 : decode cX0_fillAll 10 = .ok (.iload_n 2, 1) := by decide +kernel
theorem dX0_fillAll_11 : decode cX0_fillAll 11 = .ok (.bipush 40, 2) := by decide +kernel
theorem dX0_fillAll_13 : decode cX0_fillAll 13 = .ok (.if_icmp .gt 35, 3) := by decide +kernel
theorem dX0_fillAll_16 : decode cX0_fillAll 16 = .ok (.aload_n 0, 1) := by decide +kernel
theorem dX0_fillAll_17 : decode cX0_fillAll 17 = .ok (.getfield 21, 3) := by decide +kernel
theorem dX0_fillAll_20 : decode cX0_fillAll 20 = .ok (.iload_n 1, 1) := by decide +kernel
theorem dX0_fillAll_21 : decode cX0_fillAll 21 = .ok (.bipush 41, 2) := by decide +kernel
theorem dX0_fillAll_23 : decode cX0_fillAll 23 = .ok (.imul, 1) := by decide +kernel
theorem dX0_fillAll_24 : decode cX0_fillAll 24 = .ok (.iload_n 2, 1) := by decide +kernel
theorem dX0_fillAll_25 : decode cX0_fillAll 25 = .ok (.iadd, 1) := by decide +kernel
theorem dX0_fillAll_26 : decode cX0_fillAll 26 = .ok (.aload_n 0, 1) := by decide +kernel
theorem dX0_fillAll_27 : decode cX0_fillAll 27 = .ok (.iload_n 1, 1) := by decide +kernel
theorem dX0_fillAll_28 : decode cX0_fillAll 28 = .ok (.iload_n 2, 1) := by decide +kernel
theorem dX0_fillAll_29 : decode cX0_fillAll 29 = .ok (.invokevirtual 35, 3) := by decide +kernel
theorem dX0_fillAll_32 : decode cX0_fillAll 32 = .ok (.aload_n 0, 1) := by decide +kernel
theorem dX0_fillAll_33 : decode cX0_fillAll 33 = .ok (.iload_n 1, 1) := by decide +kernel
theorem dX0_fillAll_34 : decode cX0_fillAll 34 = .ok (.iload_n 2, 1) := by decide +kernel
theorem dX0_fillAll_35 : decode cX0_fillAll 35 = .ok (.invokevirtual 39, 3) := by decide +kernel
theorem dX0_fillAll_38 : decode cX0_fillAll 38 = .ok (.invokestatic 42, 3) := by decide +kernel
theorem dX0_fillAll_41 : decode cX0_fillAll 41 = .ok (.iastore, 1) := by decide +kernel
theorem dX0_fillAll_42 : decode cX0_fillAll 42 = .ok (.iinc 2 1, 3) := by decide +kernel
theorem dX0_fillAll_45 : decode cX0_fillAll 45 = .ok (.goto (-35), 3) := by decide +kernel
theorem dX0_fillAll_48 : decode cX0_fillAll 48 = .ok (.iinc 1 1, 3) := by decide +kernel
theorem dX0_fillAll_51 : decode cX0_fillAll 51 = .ok (.goto (-49), 3) := by decide +kernel
theorem dX0_fillAll_54 : decode cX0_fillAll 54 = .ok (.return_, 1) := by decide +kernel
theorem dX0_bestKind_0 : decode cX0_bestKind 0 = .ok (.iconst 0, 1) := by decide +kernel
theorem dX0_bestKind_1 : decode cX0_bestKind 1 = .ok (.istore_n 3, 1) := by decide +kernel
theorem dX0_bestKind_2 : decode cX0_bestKind 2 = .ok (.iconst 0, 1) := by decide +kernel
theorem dX0_bestKind_3 : decode cX0_bestKind 3 = .ok (.istore 4, 2) := by decide +kernel
theorem dX0_bestKind_5 : decode cX0_bestKind 5 = .ok (.iload 4, 2) := by decide +kernel
theorem dX0_bestKind_7 : decode cX0_bestKind 7 = .ok (.aload_n 0, 1) := by decide +kernel
theorem dX0_bestKind_8 : decode cX0_bestKind 8 = .ok (.getfield 24, 3) := by decide +kernel
theorem dX0_bestKind_11 : decode cX0_bestKind 11 = .ok (.if_icmp .ge 89, 3) := by decide +kernel
theorem dX0_bestKind_14 : decode cX0_bestKind 14 = .ok (.aload_n 0, 1) := by decide +kernel
theorem dX0_bestKind_15 : decode cX0_bestKind 15 = .ok (.getfield 11, 3) := by decide +kernel
theorem dX0_bestKind_18 : decode cX0_bestKind 18 = .ok (.iload 4, 2) := by decide +kernel
theorem dX0_bestKind_20 : decode cX0_bestKind 20 = .ok (.iaload, 1) := by decide +kernel
theorem dX0_bestKind_21 : decode cX0_bestKind 21 = .ok (.iload_n 1, 1) := by decide +kernel
theorem dX0_bestKind_22 : decode cX0_bestKind 22 = .ok (.if_icmp .ne 18, 3) := by decide +kernel
theorem dX0_bestKind_25 : decode cX0_bestKind 25 = .ok (.aload_n 0, 1) := by decide +kernel
theorem dX0_bestKind_26 : decode cX0_bestKind 26 = .ok (.getfield 15, 3) := by decide +kernel
theorem dX0_bestKind_29 : decode cX0_bestKind 29 = .ok (.iload 4, 2) := by decide +kernel
theorem dX0_bestKind_31 : decode cX0_bestKind 31 = .ok (.iaload, 1) := by decide +kernel
theorem dX0_bestKind_32 : decode cX0_bestKind 32 = .ok (.iload_n 2, 1) := by decide +kernel
theorem dX0_bestKind_33 : decode cX0_bestKind 33 = .ok (.if_icmp .ne 7, 3) := by decide +kernel
theorem dX0_bestKind_36 : decode cX0_bestKind 36 = .ok (.iconst 1, 1) := by decide +kernel
theorem dX0_bestKind_37 : decode cX0_bestKind 37 = .ok (.goto 4, 3) := by decide +kernel
theorem dX0_bestKind_40 : decode cX0_bestKind 40 = .ok (.iconst 0, 1) := by decide +kernel
theorem dX0_bestKind_41 : decode cX0_bestKind 41 = .ok (.istore 5, 2) := by decide +kernel
theorem dX0_bestKind_43 : decode cX0_bestKind 43 = .ok (.aload_n 0, 1) := by decide +kernel
theorem dX0_bestKind_44 : decode cX0_bestKind 44 = .ok (.getfield 11, 3) := by decide +kernel
theorem dX0_bestKind_47 : decode cX0_bestKind 47 = .ok (.iload 4, 2) := by decide +kernel
theorem dX0_bestKind_49 : decode cX0_bestKind 49 = .ok (.iaload, 1) := by decide +kernel
theorem dX0_bestKind_50 : decode cX0_bestKind 50 = .ok (.iload_n 2, 1) := by decide +kernel
theorem dX0_bestKind_51 : decode cX0_bestKind 51 = .ok (.if_icmp .ne 18, 3) := by decide +kernel
theorem dX0_bestKind_54 : decode cX0_bestKind 54 = .ok (.aload_n 0, 1) := by decide +kernel
theorem dX0_bestKind_55 : decode cX0_bestKind 55 = .ok (.getfield 15, 3) := by decide +kernel
theorem dX0_bestKind_58 : decode cX0_bestKind 58 = .ok (.iload 4, 2) := by decide +kernel
theorem dX0_bestKind_60 : decode cX0_bestKind 60 = .ok (.iaload, 1) := by decide +kernel
theorem dX0_bestKind_61 : decode cX0_bestKind 61 = .ok (.iload_n 1, 1) := by decide +kernel
theorem dX0_bestKind_62 : decode cX0_bestKind 62 = .ok (.if_icmp .ne 7, 3) := by decide +kernel
theorem dX0_bestKind_65 : decode cX0_bestKind 65 = .ok (.iconst 1, 1) := by decide +kernel
theorem dX0_bestKind_66 : decode cX0_bestKind 66 = .ok (.goto 4, 3) := by decide +kernel
theorem dX0_bestKind_69 : decode cX0_bestKind 69 = .ok (.iconst 0, 1) := by decide +kernel
theorem dX0_bestKind_70 : decode cX0_bestKind 70 = .ok (.istore 6, 2) := by decide +kernel
theorem dX0_bestKind_72 : decode cX0_bestKind 72 = .ok (.iload 5, 2) := by decide +kernel
theorem dX0_bestKind_74 : decode cX0_bestKind 74 = .ok (.ifCond .ne 8, 3) := by decide +kernel
theorem dX0_bestKind_77 : decode cX0_bestKind 77 = .ok (.iload 6, 2) := by decide +kernel
theorem dX0_bestKind_79 : decode cX0_bestKind 79 = .ok (.ifCond .eq 15, 3) := by decide +kernel
theorem dX0_bestKind_82 : decode cX0_bestKind 82 = .ok (.iload_n 3, 1) := by decide +kernel
theorem dX0_bestKind_83 : decode cX0_bestKind 83 = .ok (.aload_n 0, 1) := by decide +kernel
theorem dX0_bestKind_84 : decode cX0_bestKind 84 = .ok (.getfield 18, 3) := by decide +kernel
theorem dX0_bestKind_87 : decode cX0_bestKind 87 = .ok (.iload 4, 2) := by decide +kernel
theorem dX0_bestKind_89 : decode cX0_bestKind 89 = .ok (.iaload, 1) := by decide +kernel
theorem dX0_bestKind_90 : decode cX0_bestKind 90 = .ok (.invokestatic 42, 3) := by decide +kernel
theorem dX0_bestKind_93 : decode cX0_bestKind 93 = .ok (.istore_n 3, 1) := by decide +kernel
theorem dX0_bestKind_94 : decode cX0_bestKind 94 = .ok (.iinc 4 1, 3) := by decide +kernel
theorem dX0_bestKind_97 : decode cX0_bestKind 97 = .ok (.goto (-92), 3) := by decide +kernel
theorem dX0_bestKind_100 : decode cX0_bestKind 100 = .ok (.iload_n 3, 1) := by decide +kernel
theorem dX0_bestKind_101 : decode cX0_bestKind 101 = .ok (.ireturn, 1) := by decide +kernel
theorem dX0_bestCut_0 : decode cX0_bestCut 0 = .ok (.iconst 0, 1) := by decide +kernel
theorem dX0_bestCut_1 : decode cX0_bestCut 1 = .ok (.istore_n 3, 1) := by decide +kernel
theorem dX0_bestCut_2 : decode cX0_bestCut 2 = .ok (.iconst 1, 1) := by decide +kernel
theorem dX0_bestCut_3 : decode cX0_bestCut 3 = .ok (.istore 4, 2) := by decide +kernel
theorem dX0_bestCut_5 : decode cX0_bestCut 5 = .ok (.iload 4, 2) := by decide +kernel
theorem dX0_bestCut_7 : decode cX0_bestCut 7 = .ok (.iload_n 1, 1) := by decide +kernel
theorem dX0_bestCut_8 : decode cX0_bestCut 8 = .ok (.iconst 2, 1) := by decide +kernel
theorem dX0_bestCut_9 : decode cX0_bestCut 9 = .ok (.idiv, 1) := by decide +kernel
theorem dX0_bestCut_10 : decode cX0_bestCut 10 = .ok (.if_icmp .gt 41, 3) := by decide +kernel
theorem dX0_bestCut_13 : decode cX0_bestCut 13 = .ok (.iload_n 3, 1) := by decide +kernel
theorem dX0_bestCut_14 : decode cX0_bestCut 14 = .ok (.aload_n 0, 1) := by decide +kernel
theorem dX0_bestCut_15 : decode cX0_bestCut 15 = .ok (.getfield 21, 3) := by decide +kernel
theorem dX0_bestCut_18 : decode cX0_bestCut 18 = .ok (.iload 4, 2) := by decide +kernel
theorem dX0_bestCut_20 : decode cX0_bestCut 20 = .ok (.bipush 41, 2) := by decide +kernel
theorem dX0_bestCut_22 : decode cX0_bestCut 22 = .ok (.imul, 1) := by decide +kernel
theorem dX0_bestCut_23 : decode cX0_bestCut 23 = .ok (.iload_n 2, 1) := by decide +kernel
theorem dX0_bestCut_24 : decode cX0_bestCut 24 = .ok (.iadd, 1) := by decide +kernel
theorem dX0_bestCut_25 : decode cX0_bestCut 25 = .ok (.iaload, 1) := by decide +kernel
theorem dX0_bestCut_26 : decode cX0_bestCut 26 = .ok (.aload_n 0, 1) := by decide +kernel
theorem dX0_bestCut_27 : decode cX0_bestCut 27 = .ok (.getfield 21, 3) := by decide +kernel
theorem dX0_bestCut_30 : decode cX0_bestCut 30 = .ok (.iload_n 1, 1) := by decide +kernel
theorem dX0_bestCut_31 : decode cX0_bestCut 31 = .ok (.iload 4, 2) := by decide +kernel
theorem dX0_bestCut_33 : decode cX0_bestCut 33 = .ok (.isub, 1) := by decide +kernel
theorem dX0_bestCut_34 : decode cX0_bestCut 34 = .ok (.bipush 41, 2) := by decide +kernel
theorem dX0_bestCut_36 : decode cX0_bestCut 36 = .ok (.imul, 1) := by decide +kernel
theorem dX0_bestCut_37 : decode cX0_bestCut 37 = .ok (.iload_n 2, 1) := by decide +kernel
theorem dX0_bestCut_38 : decode cX0_bestCut 38 = .ok (.iadd, 1) := by decide +kernel
theorem dX0_bestCut_39 : decode cX0_bestCut 39 = .ok (.iaload, 1) := by decide +kernel
theorem dX0_bestCut_40 : decode cX0_bestCut 40 = .ok (.iadd, 1) := by decide +kernel
theorem dX0_bestCut_41 : decode cX0_bestCut 41 = .ok (.invokestatic 42, 3) := by decide +kernel
theorem dX0_bestCut_44 : decode cX0_bestCut 44 = .ok (.istore_n 3, 1) := by decide +kernel
theorem dX0_bestCut_45 : decode cX0_bestCut 45 = .ok (.iinc 4 1, 3) := by decide +kernel
theorem dX0_bestCut_48 : decode cX0_bestCut 48 = .ok (.goto (-43), 3) := by decide +kernel
theorem dX0_bestCut_51 : decode cX0_bestCut 51 = .ok (.iconst 1, 1) := by decide +kernel
theorem dX0_bestCut_52 : decode cX0_bestCut 52 = .ok (.istore 4, 2) := by decide +kernel
theorem dX0_bestCut_54 : decode cX0_bestCut 54 = .ok (.iload 4, 2) := by decide +kernel
theorem dX0_bestCut_56 : decode cX0_bestCut 56 = .ok (.iload_n 2, 1) := by decide +kernel
theorem dX0_bestCut_57 : decode cX0_bestCut 57 = .ok (.iconst 2, 1) := by decide +kernel
theorem dX0_bestCut_58 : decode cX0_bestCut 58 = .ok (.idiv, 1) := by decide +kernel
theorem dX0_bestCut_59 : decode cX0_bestCut 59 = .ok (.if_icmp .gt 41, 3) := by decide +kernel
theorem dX0_bestCut_62 : decode cX0_bestCut 62 = .ok (.iload_n 3, 1) := by decide +kernel
theorem dX0_bestCut_63 : decode cX0_bestCut 63 = .ok (.aload_n 0, 1) := by decide +kernel
theorem dX0_bestCut_64 : decode cX0_bestCut 64 = .ok (.getfield 21, 3) := by decide +kernel
theorem dX0_bestCut_67 : decode cX0_bestCut 67 = .ok (.iload_n 1, 1) := by decide +kernel
theorem dX0_bestCut_68 : decode cX0_bestCut 68 = .ok (.bipush 41, 2) := by decide +kernel
theorem dX0_bestCut_70 : decode cX0_bestCut 70 = .ok (.imul, 1) := by decide +kernel
theorem dX0_bestCut_71 : decode cX0_bestCut 71 = .ok (.iload 4, 2) := by decide +kernel
theorem dX0_bestCut_73 : decode cX0_bestCut 73 = .ok (.iadd, 1) := by decide +kernel
theorem dX0_bestCut_74 : decode cX0_bestCut 74 = .ok (.iaload, 1) := by decide +kernel
theorem dX0_bestCut_75 : decode cX0_bestCut 75 = .ok (.aload_n 0, 1) := by decide +kernel
theorem dX0_bestCut_76 : decode cX0_bestCut 76 = .ok (.getfield 21, 3) := by decide +kernel
theorem dX0_bestCut_79 : decode cX0_bestCut 79 = .ok (.iload_n 1, 1) := by decide +kernel
theorem dX0_bestCut_80 : decode cX0_bestCut 80 = .ok (.bipush 41, 2) := by decide +kernel
theorem dX0_bestCut_82 : decode cX0_bestCut 82 = .ok (.imul, 1) := by decide +kernel
theorem dX0_bestCut_83 : decode cX0_bestCut 83 = .ok (.iload_n 2, 1) := by decide +kernel
theorem dX0_bestCut_84 : decode cX0_bestCut 84 = .ok (.iadd, 1) := by decide +kernel
theorem dX0_bestCut_85 : decode cX0_bestCut 85 = .ok (.iload 4, 2) := by decide +kernel
theorem dX0_bestCut_87 : decode cX0_bestCut 87 = .ok (.isub, 1) := by decide +kernel
theorem dX0_bestCut_88 : decode cX0_bestCut 88 = .ok (.iaload, 1) := by decide +kernel
theorem dX0_bestCut_89 : decode cX0_bestCut 89 = .ok (.iadd, 1) := by decide +kernel
theorem dX0_bestCut_90 : decode cX0_bestCut 90 = .ok (.invokestatic 42, 3) := by decide +kernel
theorem dX0_bestCut_93 : decode cX0_bestCut 93 = .ok (.istore_n 3, 1) := by decide +kernel
theorem dX0_bestCut_94 : decode cX0_bestCut 94 = .ok (.iinc 4 1, 3) := by decide +kernel
theorem dX0_bestCut_97 : decode cX0_bestCut 97 = .ok (.goto (-43), 3) := by decide +kernel
theorem dX0_bestCut_100 : decode cX0_bestCut 100 = .ok (.iload_n 3, 1) := by decide +kernel
theorem dX0_bestCut_101 : decode cX0_bestCut 101 = .ok (.ireturn, 1) := by decide +kernel
theorem dX1_init_0 : decode cX1_init 0 = .ok (.aload_n 0, 1) := by decide +kernel
theorem dX1_init_1 : decode cX1_init 1 = .ok (.invokespecial 1, 3) := by decide +kernel
theorem dX1_init_4 : decode cX1_init 4 = .ok (.aload_n 0, 1) := by decide +kernel
theorem dX1_init_5 : decode cX1_init 5 = .ok (.iconst 0, 1) := by decide +kernel
theorem dX1_init_6 : decode cX1_init 6 = .ok (.putfield 7, 3) := by decide +kernel
theorem dX1_init_9 : decode cX1_init 9 = .ok (.aload_n 0, 1) := by decide +kernel
theorem dX1_init_10 : decode cX1_init 10 = .ok (.iconst 0, 1) := by decide +kernel
theorem dX1_init_11 : decode cX1_init 11 = .ok (.putfield 13, 3) := by decide +kernel
theorem dX1_init_14 : decode cX1_init 14 = .ok (.aload_n 0, 1) := by decide +kernel
theorem dX1_init_15 : decode cX1_init 15 = .ok (.iconst 0, 1) := by decide +kernel
theorem dX1_init_16 : decode cX1_init 16 = .ok (.putfield 16, 3) := by decide +kernel
theorem dX1_init_19 : decode cX1_init 19 = .ok (.aload_n 0, 1) := by decide +kernel
theorem dX1_init_20 : decode cX1_init 20 = .ok (.iconst 5, 1) := by decide +kernel
theorem dX1_init_21 : decode cX1_init 21 = .ok (.putfield 20, 3) := by decide +kernel
theorem dX1_init_24 : decode cX1_init 24 = .ok (.aload_n 0, 1) := by decide +kernel
theorem dX1_init_25 : decode cX1_init 25 = .ok (.iconst 0, 1) := by decide +kernel
theorem dX1_init_26 : decode cX1_init 26 = .ok (.putfield 23, 3) := by decide +kernel
theorem dX1_init_29 : decode cX1_init 29 = .ok (.return_, 1) := by decide +kernel
theorem dX1_renew_0 : decode cX1_renew 0 = .ok (.aload_n 0, 1) := by decide +kernel
theorem dX1_renew_1 : decode cX1_renew 1 = .ok (.iconst 0, 1) := by decide +kernel
theorem dX1_renew_2 : decode cX1_renew 2 = .ok (.putfield 7, 3) := by decide +kernel
theorem dX1_renew_5 : decode cX1_renew 5 = .ok (.aload_n 0, 1) := by decide +kernel
theorem dX1_renew_6 : decode cX1_renew 6 = .ok (.iconst 0, 1) := by decide +kernel
theorem dX1_renew_7 : decode cX1_renew 7 = .ok (.putfield 13, 3) := by decide +kernel
theorem dX1_renew_10 : decode cX1_renew 10 = .ok (.aload_n 0, 1) := by decide +kernel
theorem dX1_renew_11 : decode cX1_renew 11 = .ok (.iconst 0, 1) := by decide +kernel
theorem dX1_renew_12 : decode cX1_renew 12 = .ok (.putfield 16, 3) := by decide +kernel
theorem dX1_renew_15 : decode cX1_renew 15 = .ok (.aload_n 0, 1) := by decide +kernel
theorem dX1_renew_16 : decode cX1_renew 16 = .ok (.iconst 5, 1) := by decide +kernel
theorem dX1_renew_17 : decode cX1_renew 17 = .ok (.putfield 20, 3) := by decide +kernel
theorem dX1_renew_20 : decode cX1_renew 20 = .ok (.aload_n 0, 1) := by decide +kernel
theorem dX1_renew_21 : decode cX1_renew 21 = .ok (.iconst 0, 1) := by decide +kernel
theorem dX1_renew_22 : decode cX1_renew 22 = .ok (.putfield 23, 3) := by decide +kernel
theorem dX1_renew_25 : decode cX1_renew 25 = .ok (.return_, 1) := by decide +kernel
theorem dX1_copyFrom_0 : decode cX1_copyFrom 0 = .ok (.aload_n 0, 1) := by decide +kernel
theorem dX1_copyFrom_1 : decode cX1_copyFrom 1 = .ok (.aload_n 1, 1) := by decide +kernel
theorem dX1_copyFrom_2 : decode cX1_copyFrom 2 = .ok (.getfield 7, 3) := by decide +kernel
theorem dX1_copyFrom_5 : decode cX1_copyFrom 5 = .ok (.putfield 7, 3) := by decide +kernel
theorem dX1_copyFrom_8 : decode cX1_copyFrom 8 = .ok (.aload_n 0, 1) := by decide +kernel
theorem dX1_copyFrom_9 : decode cX1_copyFrom 9 = .ok (.aload_n 1, 1) := by decide +kernel
theorem dX1_copyFrom_10 : decode cX1_copyFrom 10 = .ok (.getfield 13, 3) := by decide +kernel
theorem dX1_copyFrom_13 : decode cX1_copyFrom 13 = .ok (.putfield 13, 3) := by decide +kernel
theorem dX1_copyFrom_16 : decode cX1_copyFrom 16 = .ok (.aload_n 0, 1) := by decide +kernel
theorem dX1_copyFrom_17 : decode cX1_copyFrom 17 = .ok (.aload_n 1, 1) := by decide +kernel
theorem dX1_copyFrom_18 : decode cX1_copyFrom 18 = .ok (.getfield 16, 3) := by decide +kernel
theorem dX1_copyFrom_21 : decode cX1_copyFrom 21 = .ok (.putfield 16, 3) := by decide +kernel
theorem dX1_copyFrom_24 : decode cX1_copyFrom 24 = .ok (.aload_n 0, 1) := by decide +kernel
theorem dX1_copyFrom_25 : decode cX1_copyFrom 25 = .ok (.aload_n 1, 1) := by decide +kernel
theorem dX1_copyFrom_26 : decode cX1_copyFrom 26 = .ok (.getfield 20, 3) := by decide +kernel
theorem dX1_copyFrom_29 : decode cX1_copyFrom 29 = .ok (.putfield 20, 3) := by decide +kernel
theorem dX1_copyFrom_32 : decode cX1_copyFrom 32 = .ok (.aload_n 0, 1) := by decide +kernel
theorem dX1_copyFrom_33 : decode cX1_copyFrom 33 = .ok (.aload_n 1, 1) := by decide +kernel
theorem dX1_copyFrom_34 : decode cX1_copyFrom 34 = .ok (.getfield 23, 3) := by decide +kernel
theorem dX1_copyFrom_37 : decode cX1_copyFrom 37 = .ok (.putfield 23, 3) := by decide +kernel
theorem dX1_copyFrom_40 : decode cX1_copyFrom 40 = .ok (.return_, 1) := by decide +kernel
theorem dX2_init_0 : decode cX2_init 0 = .ok (.aload_n 0, 1) := by decide +kernel
theorem dX2_init_1 : decode cX2_init 1 = .ok (.invokespecial 1, 3) := by decide +kernel
theorem dX2_init_4 : decode cX2_init 4 = .ok (.aload_n 0, 1) := by decide +kernel
theorem dX2_init_5 : decode cX2_init 5 = .ok (.sipush 192, 3) := by decide +kernel
theorem dX2_init_8 : decode cX2_init 8 = .ok (.newarray .int, 2) := by decide +kernel
theorem dX2_init_10 : decode cX2_init 10 = .ok (.putfield 9, 3) := by decide +kernel
theorem dX2_init_13 : decode cX2_init 13 = .ok (.aload_n 0, 1) := by decide +kernel
theorem dX2_init_14 : decode cX2_init 14 = .ok (.sipush 192, 3) := by decide +kernel
theorem dX2_init_17 : decode cX2_init 17 = .ok (.newarray .int, 2) := by decide +kernel
theorem dX2_init_19 : decode cX2_init 19 = .ok (.putfield 15, 3) := by decide +kernel
theorem dX2_init_22 : decode cX2_init 22 = .ok (.aload_n 0, 1) := by decide +kernel
theorem dX2_init_23 : decode cX2_init 23 = .ok (.iconst 0, 1) := by decide +kernel
theorem dX2_init_24 : decode cX2_init 24 = .ok (.putfield 18, 3) := by decide +kernel
theorem dX2_init_27 : decode cX2_init 27 = .ok (.aload_n 0, 1) := by decide +kernel
theorem dX2_init_28 : decode cX2_init 28 = .ok (.iconst 0, 1) := by decide +kernel
theorem dX2_init_29 : decode cX2_init 29 = .ok (.putfield 22, 3) := by decide +kernel
theorem dX2_init_32 : decode cX2_init 32 = .ok (.aload_n 0, 1) := by decide +kernel
theorem dX2_init_33 : decode cX2_init 33 = .ok (.iconst 0, 1) := by decide +kernel
theorem dX2_init_34 : decode cX2_init 34 = .ok (.putfield 25, 3) := by decide +kernel
theorem dX2_init_37 : decode cX2_init 37 = .ok (.return_, 1) := by decide +kernel
theorem dX2_forgetSeen_0 : decode cX2_forgetSeen 0 = .ok (.aload_n 0, 1) := by decide +kernel
theorem dX2_forgetSeen_1 : decode cX2_forgetSeen 1 = .ok (.getfield 15, 3) := by decide +kernel
theorem dX2_forgetSeen_4 : decode cX2_forgetSeen 4 = .ok (.iconst 0, 1) := by decide +kernel
theorem dX2_forgetSeen_5 : decode cX2_forgetSeen 5 = .ok (.invokestatic 29, 3) := by decide +kernel
theorem dX2_forgetSeen_8 : decode cX2_forgetSeen 8 = .ok (.return_, 1) := by decide +kernel
theorem dX2_gather_0 : decode cX2_gather 0 = .ok (.aload_n 0, 1) := by decide +kernel
theorem dX2_gather_1 : decode cX2_gather 1 = .ok (.iconst 0, 1) := by decide +kernel
theorem dX2_gather_2 : decode cX2_gather 2 = .ok (.putfield 18, 3) := by decide +kernel
theorem dX2_gather_5 : decode cX2_gather 5 = .ok (.aload_n 0, 1) := by decide +kernel
theorem dX2_gather_6 : decode cX2_gather 6 = .ok (.iconst 0, 1) := by decide +kernel
theorem dX2_gather_7 : decode cX2_gather 7 = .ok (.putfield 22, 3) := by decide +kernel
theorem dX2_gather_10 : decode cX2_gather 10 = .ok (.aload_n 0, 1) := by decide +kernel
theorem dX2_gather_11 : decode cX2_gather 11 = .ok (.iconst 0, 1) := by decide +kernel
theorem dX2_gather_12 : decode cX2_gather 12 = .ok (.putfield 25, 3) := by decide +kernel
theorem dX2_gather_15 : decode cX2_gather 15 = .ok (.aload_n 1, 1) := by decide +kernel
theorem dX2_gather_16 : decode cX2_gather 16 = .ok (.getfield 35, 3) := by decide +kernel
theorem dX2_gather_19 : decode cX2_gather 19 = .ok (.istore_n 3, 1) := by decide +kernel
theorem dX2_gather_20 : decode cX2_gather 20 = .ok (.iload_n 3, 1) := by decide +kernel
theorem dX2_gather_21 : decode cX2_gather 21 = .ok (.iconst 1, 1) := by decide +kernel
theorem dX2_gather_22 : decode cX2_gather 22 = .ok (.if_icmp .ge 4, 3) := by decide +kernel
theorem dX2_gather_25 : decode cX2_gather 25 = .ok (.return_, 1) := by decide +kernel
theorem dX2_gather_26 : decode cX2_gather 26 = .ok (.aload_n 0, 1) := by decide +kernel
theorem dX2_gather_27 : decode cX2_gather 27 = .ok (.aload_n 1, 1) := by decide +kernel
theorem dX2_gather_28 : decode cX2_gather 28 = .ok (.iload_n 2, 1) := by decide +kernel
theorem dX2_gather_29 : decode cX2_gather 29 = .ok (.invokevirtual 38, 3) := by decide +kernel
theorem dX2_gather_32 : decode cX2_gather 32 = .ok (.iconst 0, 1) := by decide +kernel
theorem dX2_gather_33 : decode cX2_gather 33 = .ok (.istore 4, 2) := by decide +kernel
theorem dX2_gather_35 : decode cX2_gather 35 = .ok (.iload 4, 2) := by decide +kernel
theorem dX2_gather_37 : decode cX2_gather 37 = .ok (.aload_n 0, 1) := by decide +kernel
theorem dX2_gather_38 : decode cX2_gather 38 = .ok (.getfield 18, 3) := by decide +kernel
theorem dX2_gather_41 : decode cX2_gather 41 = .ok (.if_icmp .ge 121, 3) := by decide +kernel
theorem dX2_gather_44 : decode cX2_gather 44 = .ok (.iload 4, 2) := by decide +kernel
theorem dX2_gather_46 : decode cX2_gather 46 = .ok (.sipush 192, 3) := by decide +kernel
theorem dX2_gather_49 : decode cX2_gather 49 = .ok (.if_icmp .ge 113, 3) := by decide +kernel
theorem dX2_gather_52 : decode cX2_gather 52 = .ok (.aload_n 0, 1) := by decide +kernel
theorem dX2_gather_53 : decode cX2_gather 53 = .ok (.getfield 9, 3) := by decide +kernel
theorem dX2_gather_56 : decode cX2_gather 56 = .ok (.iload 4, 2) := by decide +kernel
theorem dX2_gather_58 : decode cX2_gather 58 = .ok (.iaload, 1) := by decide +kernel
theorem dX2_gather_59 : decode cX2_gather 59 = .ok (.istore 5, 2) := by decide +kernel
theorem dX2_gather_61 : decode cX2_gather 61 = .ok (.iload 5, 2) := by decide +kernel
theorem dX2_gather_63 : decode cX2_gather 63 = .ok (.iload_n 3, 1) := by decide +kernel
theorem dX2_gather_64 : decode cX2_gather 64 = .ok (.irem, 1) := by decide +kernel
theorem dX2_gather_65 : decode cX2_gather 65 = .ok (.istore 6, 2) := by decide +kernel
theorem dX2_gather_67 : decode cX2_gather 67 = .ok (.aload_n 0, 1) := by decide +kernel
theorem dX2_gather_68 : decode cX2_gather 68 = .ok (.dup, 1) := by decide +kernel
theorem dX2_gather_69 : decode cX2_gather 69 = .ok (.getfield 22, 3) := by decide +kernel
theorem dX2_gather_72 : decode cX2_gather 72 = .ok (.iload 6, 2) := by decide +kernel
theorem dX2_gather_74 : decode cX2_gather 74 = .ok (.iadd, 1) := by decide +kernel
theorem dX2_gather_75 : decode cX2_gather 75 = .ok (.putfield 22, 3) := by decide +kernel
theorem dX2_gather_78 : decode cX2_gather 78 = .ok (.aload_n 0, 1) := by decide +kernel
theorem dX2_gather_79 : decode cX2_gather 79 = .ok (.aload_n 0, 1) := by decide +kernel
theorem dX2_gather_80 : decode cX2_gather 80 = .ok (.getfield 25, 3) := by decide +kernel
theorem dX2_gather_83 : decode cX2_gather 83 = .ok (.ifCond .ne 16, 3) := by decide +kernel
theorem dX2_gather_86 : decode cX2_gather 86 = .ok (.aload_n 1, 1) := by decide +kernel
theorem dX2_gather_87 : decode cX2_gather 87 = .ok (.iload 6, 2) := by decide +kernel
theorem dX2_gather_89 : decode cX2_gather 89 = .ok (.iload 5, 2) := by decide +kernel
theorem dX2_gather_91 : decode cX2_gather 91 = .ok (.iload_n 3, 1) := by decide +kernel
theorem dX2_gather_92 : decode cX2_gather 92 = .ok (.idiv, 1) := by decide +kernel
theorem dX2_gather_93 : decode cX2_gather 93 = .ok (.invokevirtual 42, 3) := by decide +kernel
theorem dX2_gather_96 : decode cX2_gather 96 = .ok (.ifCond .eq 7, 3) := by decide +kernel
theorem dX2_gather_99 : decode cX2_gather 99 = .ok (.iconst 1, 1) := by decide +kernel
theorem dX2_gather_100 : decode cX2_gather 100 = .ok (.goto 4, 3) := by decide +kernel
theorem dX2_gather_103 : decode cX2_gather 103 = .ok (.iconst 0, 1) := by decide +kernel
theorem dX2_gather_104 : decode cX2_gather 104 = .ok (.putfield 25, 3) := by decide +kernel
theorem dX2_gather_107 : decode cX2_gather 107 = .ok (.aload_n 0, 1) := by decide +kernel
theorem dX2_gather_108 : decode cX2_gather 108 = .ok (.aload_n 1, 1) := by decide +kernel
theorem dX2_gather_109 : decode cX2_gather 109 = .ok (.iload 5, 2) := by decide +kernel
theorem dX2_gather_111 : decode cX2_gather 111 = .ok (.iload_n 3, 1) := by decide +kernel
theorem dX2_gather_112 : decode cX2_gather 112 = .ok (.isub, 1) := by decide +kernel
theorem dX2_gather_113 : decode cX2_gather 113 = .ok (.invokevirtual 38, 3) := by decide +kernel
theorem dX2_gather_116 : decode cX2_gather 116 = .ok (.aload_n 0, 1) := by decide +kernel
theorem dX2_gather_117 : decode cX2_gather 117 = .ok (.aload_n 1, 1) := by decide +kernel
theorem dX2_gather_118 : decode cX2_gather 118 = .ok (.iload 5, 2) := by decide +kernel
theorem dX2_gather_120 : decode cX2_gather 120 = .ok (.iload_n 3, 1) := by decide +kernel
theorem dX2_gather_121 : decode cX2_gather 121 = .ok (.iadd, 1) := by decide +kernel
theorem dX2_gather_122 : decode cX2_gather 122 = .ok (.invokevirtual 38, 3) := by decide +kernel
theorem dX2_gather_125 : decode cX2_gather 125 = .ok (.iload 6, 2) := by decide +kernel
theorem dX2_gather_127 : decode cX2_gather 127 = .ok (.ifCond .le 12, 3) := by decide +kernel
theorem dX2_gather_130 : decode cX2_gather 130 = .ok (.aload_n 0, 1) := by decide +kernel
theorem dX2_gather_131 : decode cX2_gather 131 = .ok (.aload_n 1, 1) := by decide +kernel
theorem dX2_gather_132 : decode cX2_gather 132 = .ok (.iload 5, 2) := by decide +kernel
theorem dX2_gather_134 : decode cX2_gather 134 = .ok (.iconst 1, 1) := by decide +kernel
theorem dX2_gather_135 : decode cX2_gather 135 = .ok (.isub, 1) := by decide +kernel
theorem dX2_gather_136 : decode cX2_gather 136 = .ok (.invokevirtual 38, 3) := by decide +kernel
theorem dX2_gather_139 : decode cX2_gather 139 = .ok (.iload 6, 2) := by decide +kernel
theorem dX2_gather_141 : decode cX2_gather 141 = .ok (.iload_n 3, 1) := by decide +kernel
theorem dX2_gather_142 : decode cX2_gather 142 = .ok (.iconst 1, 1) := by decide +kernel
theorem dX2_gather_143 : decode cX2_gather 143 = .ok (.isub, 1) := by decide +kernel
theorem dX2_gather_144 : decode cX2_gather 144 = .ok (.if_icmp .ge 12, 3) := by decide +kernel
theorem dX2_gather_147 : decode cX2_gather 147 = .ok (.aload_n 0, 1) := by decide +kernel
theorem dX2_gather_148 : decode cX2_gather 148 = .ok (.aload_n 1, 1) := by decide +kernel
theorem dX2_gather_149 : decode cX2_gather 149 = .ok (.iload 5, 2) := by decide +kernel
theorem dX2_gather_151 : decode cX2_gather 151 = .ok (.iconst 1, 1) := by decide +kernel
theorem dX2_gather_152 : decode cX2_gather 152 = .ok (.iadd, 1) := by decide +kernel
theorem dX2_gather_153 : decode cX2_gather 153 = .ok (.invokevirtual 38, 3) := by decide +kernel
theorem dX2_gather_156 : decode cX2_gather 156 = .ok (.iinc 4 1, 3) := by decide +kernel
theorem dX2_gather_159 : decode cX2_gather 159 = .ok (.goto (-124), 3) := by decide +kernel
theorem dX2_gather_162 : decode cX2_gather 162 = .ok (.return_, 1) := by decide +kernel
theorem dX2_take_0 : decode cX2_take 0 = .ok (.iload_n 2, 1) := by decide +kernel
theorem dX2_take_1 : decode cX2_take 1 = .ok (.ifCond .lt 15, 3) := by decide +kernel
theorem dX2_take_4 : decode cX2_take 4 = .ok (.iload_n 2, 1) := by decide +kernel
theorem dX2_take_5 : decode cX2_take 5 = .ok (.aload_n 1, 1) := by decide +kernel
theorem dX2_take_6 : decode cX2_take 6 = .ok (.getfield 46, 3) := by decide +kernel
theorem dX2_take_9 : decode cX2_take 9 = .ok (.if_icmp .ge 7, 3) := by decide +kernel
theorem dX2_take_12 : decode cX2_take 12 = .ok (.iconst 1, 1) := by decide +kernel
theorem dX2_take_13 : decode cX2_take 13 = .ok (.goto 4, 3) := by decide +kernel
theorem dX2_take_16 : decode cX2_take 16 = .ok (.iconst 0, 1) := by decide +kernel
theorem dX2_take_17 : decode cX2_take 17 = .ok (.istore_n 3, 1) := by decide +kernel
theorem dX2_take_18 : decode cX2_take 18 = .ok (.iload_n 3, 1) := by decide +kernel
theorem dX2_take_19 : decode cX2_take 19 = .ok (.ifCond .eq 58, 3) := by decide +kernel
theorem dX2_take_22 : decode cX2_take 22 = .ok (.aload_n 1, 1) := by decide +kernel
theorem dX2_take_23 : decode cX2_take 23 = .ok (.getfield 49, 3) := by decide +kernel
theorem dX2_take_26 : decode cX2_take 26 = .ok (.iload_n 2, 1) := by decide +kernel
theorem dX2_take_27 : decode cX2_take 27 = .ok (.iaload, 1) := by decide +kernel
theorem dX2_take_28 : decode cX2_take 28 = .ok (.ifCond .ne 49, 3) := by decide +kernel
theorem dX2_take_31 : decode cX2_take 31 = .ok (.aload_n 0, 1) := by decide +kernel
theorem dX2_take_32 : decode cX2_take 32 = .ok (.getfield 15, 3) := by decide +kernel
theorem dX2_take_35 : decode cX2_take 35 = .ok (.iload_n 2, 1) := by decide +kernel
theorem dX2_take_36 : decode cX2_take 36 = .ok (.iaload, 1) := by decide +kernel
theorem dX2_take_37 : decode cX2_take 37 = .ok (.ifCond .ne 40, 3) := by decide +kernel
theorem dX2_take_40 : decode cX2_take 40 = .ok (.aload_n 0, 1) := by decide +kernel
theorem dX2_take_41 : decode cX2_take 41 = .ok (.getfield 18, 3) := by decide +kernel
theorem dX2_take_44 : decode cX2_take 44 = .ok (.sipush 192, 3) := by decide +kernel
theorem dX2_take_47 : decode cX2_take 47 = .ok (.if_icmp .ge 30, 3) := by decide +kernel
theorem dX2_take_50 : decode cX2_take 50 = .ok (.aload_n 0, 1) := by decide +kernel
theorem dX2_take_51 : decode cX2_take 51 = .ok (.getfield 15, 3) := by decide +kernel
theorem dX2_take_54 : decode cX2_take 54 = .ok (.iload_n 2, 1) := by decide +kernel
theorem dX2_take_55 : decode cX2_take 55 = .ok (.iconst 1, 1) := by decide +kernel
theorem dX2_take_56 : decode cX2_take 56 = .ok (.iastore, 1) := by decide +kernel
theorem dX2_take_57 : decode cX2_take 57 = .ok (.aload_n 0, 1) := by decide +kernel
theorem dX2_take_58 : decode cX2_take 58 = .ok (.getfield 9, 3) := by decide +kernel
theorem dX2_take_61 : decode cX2_take 61 = .ok (.aload_n 0, 1) := by decide +kernel
theorem dX2_take_62 : decode cX2_take 62 = .ok (.getfield 18, 3) := by decide +kernel
theorem dX2_take_65 : decode cX2_take 65 = .ok (.iload_n 2, 1) := by decide +kernel
theorem dX2_take_66 : decode cX2_take 66 = .ok (.iastore, 1) := by decide +kernel
theorem dX2_take_67 : decode cX2_take 67 = .ok (.aload_n 0, 1) := by decide +kernel
theorem dX2_take_68 : decode cX2_take 68 = .ok (.dup, 1) := by decide +kernel
theorem dX2_take_69 : decode cX2_take 69 = .ok (.getfield 18, 3) := by decide +kernel
theorem dX2_take_72 : decode cX2_take 72 = .ok (.iconst 1, 1) := by decide +kernel
theorem dX2_take_73 : decode cX2_take 73 = .ok (.iadd, 1) := by decide +kernel
theorem dX2_take_74 : decode cX2_take 74 = .ok (.putfield 18, 3) := by decide +kernel
theorem dX2_take_77 : decode cX2_take 77 = .ok (.return_, 1) := by decide +kernel
theorem dX3_init_0 : decode cX3_init 0 = .ok (.aload_n 0, 1) := by decide +kernel
theorem dX3_init_1 : decode cX3_init 1 = .ok (.invokespecial 5, 3) := by decide +kernel
theorem dX3_init_4 : decode cX3_init 4 = .ok (.aload_n 0, 1) := by decide +kernel
theorem dX3_init_5 : decode cX3_init 5 = .ok (.iconst 0, 1) := by decide +kernel
theorem dX3_init_6 : decode cX3_init 6 = .ok (.putfield 11, 3) := by decide +kernel
theorem dX3_init_9 : decode cX3_init 9 = .ok (.aload_n 0, 1) := by decide +kernel
theorem dX3_init_10 : decode cX3_init 10 = .ok (.iconst 0, 1) := by decide +kernel
theorem dX3_init_11 : decode cX3_init 11 = .ok (.putfield 15, 3) := by decide +kernel
theorem dX3_init_14 : decode cX3_init 14 = .ok (.aload_n 0, 1) := by decide +kernel
theorem dX3_init_15 : decode cX3_init 15 = .ok (.iconst 0, 1) := by decide +kernel
theorem dX3_init_16 : decode cX3_init 16 = .ok (.putfield 18, 3) := by decide +kernel
theorem dX3_init_19 : decode cX3_init 19 = .ok (.aload_n 0, 1) := by decide +kernel
theorem dX3_init_20 : decode cX3_init 20 = .ok (.iconst 0, 1) := by decide +kernel
theorem dX3_init_21 : decode cX3_init 21 = .ok (.putfield 21, 3) := by decide +kernel
theorem dX3_init_24 : decode cX3_init 24 = .ok (.aload_n 0, 1) := by decide +kernel
theorem dX3_init_25 : decode cX3_init 25 = .ok (.iconst 1, 1) := by decide +kernel
theorem dX3_init_26 : decode cX3_init 26 = .ok (.putfield 24, 3) := by decide +kernel
theorem dX3_init_29 : decode cX3_init 29 = .ok (.aload_n 0, 1) := by decide +kernel
theorem dX3_init_30 : decode cX3_init 30 = .ok (.iconst 0, 1) := by decide +kernel
theorem dX3_init_31 : decode cX3_init 31 = .ok (.putfield 27, 3) := by decide +kernel
theorem dX3_init_34 : decode cX3_init 34 = .ok (.aload_n 0, 1) := by decide +kernel
theorem dX3_init_35 : decode cX3_init 35 = .ok (.iconst 0, 1) := by decide +kernel
theorem dX3_init_36 : decode cX3_init 36 = .ok (.putfield 30, 3) := by decide +kernel
theorem dX3_init_39 : decode cX3_init 39 = .ok (.aload_n 0, 1) := by decide +kernel
theorem dX3_init_40 : decode cX3_init 40 = .ok (.lconst 0, 1) := by decide +kernel
theorem dX3_init_41 : decode cX3_init 41 = .ok (.putfield 33, 3) := by decide +kernel
theorem dX3_init_44 : decode cX3_init 44 = .ok (.aload_n 0, 1) := by decide +kernel
theorem dX3_init_45 : decode cX3_init 45 = .ok (.lconst 0, 1) := by decide +kernel
theorem dX3_init_46 : decode cX3_init 46 = .ok (.putfield 37, 3) := by decide +kernel
theorem dX3_init_49 : decode cX3_init 49 = .ok (.aload_n 0, 1) := by decide +kernel
theorem dX3_init_50 : decode cX3_init 50 = .ok (.lconst 0, 1) := by decide +kernel
theorem dX3_init_51 : decode cX3_init 51 = .ok (.putfield 40, 3) := by decide +kernel
theorem dX3_init_54 : decode cX3_init 54 = .ok (.aload_n 0, 1) := by decide +kernel
theorem dX3_init_55 : decode cX3_init 55 = .ok (.new 43, 3) := by decide +kernel
theorem dX3_init_58 : decode cX3_init 58 = .ok (.dup, 1) := by decide +kernel
theorem dX3_init_59 : decode cX3_init 59 = .ok (.invokespecial 45, 3) := by decide +kernel
theorem dX3_init_62 : decode cX3_init 62 = .ok (.putfield 46, 3) := by decide +kernel
theorem dX3_init_65 : decode cX3_init 65 = .ok (.aload_n 0, 1) := by decide +kernel
theorem dX3_init_66 : decode cX3_init 66 = .ok (.sipush 192, 3) := by decide +kernel
theorem dX3_init_69 : decode cX3_init 69 = .ok (.newarray .int, 2) := by decide +kernel
theorem dX3_init_71 : decode cX3_init 71 = .ok (.putfield 50, 3) := by decide +kernel
theorem dX3_init_74 : decode cX3_init 74 = .ok (.aload_n 0, 1) := by decide +kernel
theorem dX3_init_75 : decode cX3_init 75 = .ok (.sipush 192, 3) := by decide +kernel
theorem dX3_init_78 : decode cX3_init 78 = .ok (.newarray .int, 2) := by decide +kernel
theorem dX3_init_80 : decode cX3_init 80 = .ok (.putfield 54, 3) := by decide +kernel
theorem dX3_init_83 : decode cX3_init 83 = .ok (.aload_n 0, 1) := by decide +kernel
theorem dX3_init_84 : decode cX3_init 84 = .ok (.sipush 192, 3) := by decide +kernel
theorem dX3_init_87 : decode cX3_init 87 = .ok (.newarray .int, 2) := by decide +kernel
theorem dX3_init_89 : decode cX3_init 89 = .ok (.putfield 57, 3) := by decide +kernel
theorem dX3_init_92 : decode cX3_init 92 = .ok (.aload_n 0, 1) := by decide +kernel
theorem dX3_init_93 : decode cX3_init 93 = .ok (.sipush 192, 3) := by decide +kernel
theorem dX3_init_96 : decode cX3_init 96 = .ok (.newarray .int, 2) := by decide +kernel
theorem dX3_init_98 : decode cX3_init 98 = .ok (.putfield 60, 3) := by decide +kernel
theorem dX3_init_101 : decode cX3_init 101 = .ok (.aload_n 0, 1) := by decide +kernel
theorem dX3_init_102 : decode cX3_init 102 = .ok (.sipush 192, 3) := by decide +kernel
theorem dX3_init_105 : decode cX3_init 105 = .ok (.newarray .int, 2) := by decide +kernel
theorem dX3_init_107 : decode cX3_init 107 = .ok (.putfield 63, 3) := by decide +kernel
theorem dX3_init_110 : decode cX3_init 110 = .ok (.aload_n 0, 1) := by decide +kernel
theorem dX3_init_111 : decode cX3_init 111 = .ok (.sipush 192, 3) := by decide +kernel
theorem dX3_init_114 : decode cX3_init 114 = .ok (.newarray .int, 2) := by decide +kernel
theorem dX3_init_116 : decode cX3_init 116 = .ok (.putfield 66, 3) := by decide +kernel
theorem dX3_init_119 : decode cX3_init 119 = .ok (.aload_n 0, 1) := by decide +kernel
theorem dX3_init_120 : decode cX3_init 120 = .ok (.new 69, 3) := by decide +kernel
theorem dX3_init_123 : decode cX3_init 123 = .ok (.dup, 1) := by decide +kernel
theorem dX3_init_124 : decode cX3_init 124 = .ok (.invokespecial 71, 3) := by decide +kernel
theorem dX3_init_127 : decode cX3_init 127 = .ok (.putfield 72, 3) := by decide +kernel
theorem dX3_init_130 : decode cX3_init 130 = .ok (.return_, 1) := by decide +kernel
theorem dX3_renew_0 : decode cX3_renew 0 = .ok (.aload_n 0, 1) := by decide +kernel
theorem dX3_renew_1 : decode cX3_renew 1 = .ok (.iload_n 1, 1) := by decide +kernel
theorem dX3_renew_2 : decode cX3_renew 2 = .ok (.putfield 11, 3) := by decide +kernel
theorem dX3_renew_5 : decode cX3_renew 5 = .ok (.aload_n 0, 1) := by decide +kernel
theorem dX3_renew_6 : decode cX3_renew 6 = .ok (.iload_n 2, 1) := by decide +kernel
theorem dX3_renew_7 : decode cX3_renew 7 = .ok (.putfield 15, 3) := by decide +kernel
theorem dX3_renew_10 : decode cX3_renew 10 = .ok (.aload_n 0, 1) := by decide +kernel
theorem dX3_renew_11 : decode cX3_renew 11 = .ok (.iload_n 1, 1) := by decide +kernel
theorem dX3_renew_12 : decode cX3_renew 12 = .ok (.iload_n 2, 1) := by decide +kernel
theorem dX3_renew_13 : decode cX3_renew 13 = .ok (.imul, 1) := by decide +kernel
theorem dX3_renew_14 : decode cX3_renew 14 = .ok (.sipush 192, 3) := by decide +kernel
theorem dX3_renew_17 : decode cX3_renew 17 = .ok (.invokestatic 76, 3) := by decide +kernel
theorem dX3_renew_20 : decode cX3_renew 20 = .ok (.putfield 18, 3) := by decide +kernel
theorem dX3_renew_23 : decode cX3_renew 23 = .ok (.aload_n 0, 1) := by decide +kernel
theorem dX3_renew_24 : decode cX3_renew 24 = .ok (.iload_n 3, 1) := by decide +kernel
theorem dX3_renew_25 : decode cX3_renew 25 = .ok (.putfield 21, 3) := by decide +kernel
theorem dX3_renew_28 : decode cX3_renew 28 = .ok (.aload_n 0, 1) := by decide +kernel
theorem dX3_renew_29 : decode cX3_renew 29 = .ok (.iload 4, 2) := by decide +kernel
theorem dX3_renew_31 : decode cX3_renew 31 = .ok (.putfield 24, 3) := by decide +kernel
theorem dX3_renew_34 : decode cX3_renew 34 = .ok (.aload_n 0, 1) := by decide +kernel
theorem dX3_renew_35 : decode cX3_renew 35 = .ok (.iconst 0, 1) := by decide +kernel
theorem dX3_renew_36 : decode cX3_renew 36 = .ok (.putfield 27, 3) := by decide +kernel
theorem dX3_renew_39 : decode cX3_renew 39 = .ok (.aload_n 0, 1) := by decide +kernel
theorem dX3_renew_40 : decode cX3_renew 40 = .ok (.iconst 0, 1) := by decide +kernel
theorem dX3_renew_41 : decode cX3_renew 41 = .ok (.putfield 30, 3) := by decide +kernel
theorem dX3_renew_44 : decode cX3_renew 44 = .ok (.aload_n 0, 1) := by decide +kernel
theorem dX3_renew_45 : decode cX3_renew 45 = .ok (.lconst 0, 1) := by decide +kernel
theorem dX3_renew_46 : decode cX3_renew 46 = .ok (.putfield 33, 3) := by decide +kernel
theorem dX3_renew_49 : decode cX3_renew 49 = .ok (.aload_n 0, 1) := by decide +kernel
theorem dX3_renew_50 : decode cX3_renew 50 = .ok (.lconst 0, 1) := by decide +kernel
theorem dX3_renew_51 : decode cX3_renew 51 = .ok (.putfield 37, 3) := by decide +kernel
theorem dX3_renew_54 : decode cX3_renew 54 = .ok (.aload_n 0, 1) := by decide +kernel
theorem dX3_renew_55 : decode cX3_renew 55 = .ok (.lconst 0, 1) := by decide +kernel
theorem dX3_renew_56 : decode cX3_renew 56 = .ok (.putfield 40, 3) := by decide +kernel
theorem dX3_renew_59 : decode cX3_renew 59 = .ok (.aload_n 0, 1) := by decide +kernel
theorem dX3_renew_60 : decode cX3_renew 60 = .ok (.getfield 46, 3) := by decide +kernel
theorem dX3_renew_63 : decode cX3_renew 63 = .ok (.invokevirtual 82, 3) := by decide +kernel
theorem dX3_renew_66 : decode cX3_renew 66 = .ok (.aload_n 0, 1) := by decide +kernel
theorem dX3_renew_67 : decode cX3_renew 67 = .ok (.getfield 50, 3) := by decide +kernel
theorem dX3_renew_70 : decode cX3_renew 70 = .ok (.iconst 0, 1) := by decide +kernel
theorem dX3_renew_71 : decode cX3_renew 71 = .ok (.invokestatic 85, 3) := by decide +kernel
theorem dX3_renew_74 : decode cX3_renew 74 = .ok (.aload_n 0, 1) := by decide +kernel
theorem dX3_renew_75 : decode cX3_renew 75 = .ok (.getfield 54, 3) := by decide +kernel
theorem dX3_renew_78 : decode cX3_renew 78 = .ok (.iconst 0, 1) := by decide +kernel
theorem dX3_renew_79 : decode cX3_renew 79 = .ok (.invokestatic 85, 3) := by decide +kernel
theorem dX3_renew_82 : decode cX3_renew 82 = .ok (.aload_n 0, 1) := by decide +kernel
theorem dX3_renew_83 : decode cX3_renew 83 = .ok (.getfield 57, 3) := by decide +kernel
theorem dX3_renew_86 : decode cX3_renew 86 = .ok (.iconst 0, 1) := by decide +kernel
theorem dX3_renew_87 : decode cX3_renew 87 = .ok (.invokestatic 85, 3) := by decide +kernel
theorem dX3_renew_90 : decode cX3_renew 90 = .ok (.aload_n 0, 1) := by decide +kernel
theorem dX3_renew_91 : decode cX3_renew 91 = .ok (.getfield 60, 3) := by decide +kernel
theorem dX3_renew_94 : decode cX3_renew 94 = .ok (.iconst 0, 1) := by decide +kernel
theorem dX3_renew_95 : decode cX3_renew 95 = .ok (.invokestatic 85, 3) := by decide +kernel
theorem dX3_renew_98 : decode cX3_renew 98 = .ok (.return_, 1) := by decide +kernel
theorem dX3_copyFrom_0 : decode cX3_copyFrom 0 = .ok (.aload_n 0, 1) := by decide +kernel
theorem dX3_copyFrom_1 : decode cX3_copyFrom 1 = .ok (.aload_n 1, 1) := by decide +kernel
theorem dX3_copyFrom_2 : decode cX3_copyFrom 2 = .ok (.getfield 11, 3) := by decide +kernel
theorem dX3_copyFrom_5 : decode cX3_copyFrom 5 = .ok (.putfield 11, 3) := by decide +kernel
theorem dX3_copyFrom_8 : decode cX3_copyFrom 8 = .ok (.aload_n 0, 1) := by decide +kernel
theorem dX3_copyFrom_9 : decode cX3_copyFrom 9 = .ok (.aload_n 1, 1) := by decide +kernel
theorem dX3_copyFrom_10 : decode cX3_copyFrom 10 = .ok (.getfield 15, 3) := by decide +kernel
theorem dX3_copyFrom_13 : decode cX3_copyFrom 13 = .ok (.putfield 15, 3) := by decide +kernel
theorem dX3_copyFrom_16 : decode cX3_copyFrom 16 = .ok (.aload_n 0, 1) := by decide +kernel
theorem dX3_copyFrom_17 : decode cX3_copyFrom 17 = .ok (.aload_n 1, 1) := by decide +kernel
theorem dX3_copyFrom_18 : decode cX3_copyFrom 18 = .ok (.getfield 18, 3) := by decide +kernel
theorem dX3_copyFrom_21 : decode cX3_copyFrom 21 = .ok (.putfield 18, 3) := by decide +kernel
theorem dX3_copyFrom_24 : decode cX3_copyFrom 24 = .ok (.aload_n 0, 1) := by decide +kernel
theorem dX3_copyFrom_25 : decode cX3_copyFrom 25 = .ok (.aload_n 1, 1) := by decide +kernel
theorem dX3_copyFrom_26 : decode cX3_copyFrom 26 = .ok (.getfield 21, 3) := by decide +kernel
theorem dX3_copyFrom_29 : decode cX3_copyFrom 29 = .ok (.putfield 21, 3) := by decide +kernel
theorem dX3_copyFrom_32 : decode cX3_copyFrom 32 = .ok (.aload_n 0, 1) := by decide +kernel
theorem dX3_copyFrom_33 : decode cX3_copyFrom 33 = .ok (.aload_n 1, 1) := by decide +kernel
theorem dX3_copyFrom_34 : decode cX3_copyFrom 34 = .ok (.getfield 24, 3) := by decide +kernel
theorem dX3_copyFrom_37 : decode cX3_copyFrom 37 = .ok (.putfield 24, 3) := by decide +kernel
theorem dX3_copyFrom_40 : decode cX3_copyFrom 40 = .ok (.aload_n 0, 1) := by decide +kernel
theorem dX3_copyFrom_41 : decode cX3_copyFrom 41 = .ok (.aload_n 1, 1) := by decide +kernel
theorem dX3_copyFrom_42 : decode cX3_copyFrom 42 = .ok (.getfield 27, 3) := by decide +kernel
theorem dX3_copyFrom_45 : decode cX3_copyFrom 45 = .ok (.putfield 27, 3) := by decide +kernel
theorem dX3_copyFrom_48 : decode cX3_copyFrom 48 = .ok (.aload_n 0, 1) := by decide +kernel
theorem dX3_copyFrom_49 : decode cX3_copyFrom 49 = .ok (.aload_n 1, 1) := by decide +kernel
theorem dX3_copyFrom_50 : decode cX3_copyFrom 50 = .ok (.getfield 30, 3) := by decide +kernel
theorem dX3_copyFrom_53 : decode cX3_copyFrom 53 = .ok (.putfield 30, 3) := by decide +kernel
theorem dX3_copyFrom_56 : decode cX3_copyFrom 56 = .ok (.aload_n 0, 1) := by decide +kernel
theorem dX3_copyFrom_57 : decode cX3_copyFrom 57 = .ok (.aload_n 1, 1) := by decide +kernel
theorem dX3_copyFrom_58 : decode cX3_copyFrom 58 = .ok (.getfield 33, 3) := by decide +kernel
theorem dX3_copyFrom_61 : decode cX3_copyFrom 61 = .ok (.putfield 33, 3) := by decide +kernel
theorem dX3_copyFrom_64 : decode cX3_copyFrom 64 = .ok (.aload_n 0, 1) := by decide +kernel
theorem dX3_copyFrom_65 : decode cX3_copyFrom 65 = .ok (.aload_n 1, 1) := by decide +kernel
theorem dX3_copyFrom_66 : decode cX3_copyFrom 66 = .ok (.getfield 37, 3) := by decide +kernel
theorem dX3_copyFrom_69 : decode cX3_copyFrom 69 = .ok (.putfield 37, 3) := by decide +kernel
theorem dX3_copyFrom_72 : decode cX3_copyFrom 72 = .ok (.aload_n 0, 1) := by decide +kernel
theorem dX3_copyFrom_73 : decode cX3_copyFrom 73 = .ok (.aload_n 1, 1) := by decide +kernel
theorem dX3_copyFrom_74 : decode cX3_copyFrom 74 = .ok (.getfield 40, 3) := by decide +kernel
theorem dX3_copyFrom_77 : decode cX3_copyFrom 77 = .ok (.putfield 40, 3) := by decide +kernel
theorem dX3_copyFrom_80 : decode cX3_copyFrom 80 = .ok (.aload_n 0, 1) := by decide +kernel
theorem dX3_copyFrom_81 : decode cX3_copyFrom 81 = .ok (.getfield 46, 3) := by decide +kernel
theorem dX3_copyFrom_84 : decode cX3_copyFrom 84 = .ok (.aload_n 1, 1) := by decide +kernel
theorem dX3_copyFrom_85 : decode cX3_copyFrom 85 = .ok (.getfield 46, 3) := by decide +kernel
theorem dX3_copyFrom_88 : decode cX3_copyFrom 88 = .ok (.invokevirtual 91, 3) := by decide +kernel
theorem dX3_copyFrom_91 : decode cX3_copyFrom 91 = .ok (.aload_n 1, 1) := by decide +kernel
theorem dX3_copyFrom_92 : decode cX3_copyFrom 92 = .ok (.getfield 50, 3) := by decide +kernel
theorem dX3_copyFrom_95 : decode cX3_copyFrom 95 = .ok (.iconst 0, 1) := by decide +kernel
theorem dX3_copyFrom_96 : decode cX3_copyFrom 96 = .ok (.aload_n 0, 1) := by decide +kernel
theorem dX3_copyFrom_97 : decode cX3_copyFrom 97 = .ok (.getfield 50, 3) := by decide +kernel
theorem dX3_copyFrom_100 : decode cX3_copyFrom 100 = .ok (.iconst 0, 1) := by decide +kernel
theorem dX3_copyFrom_101 : decode cX3_copyFrom 101 = .ok (.sipush 192, 3) := by decide +kernel
theorem dX3_copyFrom_104 : decode cX3_copyFrom 104 = .ok (.invokestatic 95, 3) := by decide +kernel
theorem dX3_copyFrom_107 : decode cX3_copyFrom 107 = .ok (.aload_n 1, 1) := by decide +kernel
theorem dX3_copyFrom_108 : decode cX3_copyFrom 108 = .ok (.getfield 54, 3) := by decide +kernel
theorem dX3_copyFrom_111 : decode cX3_copyFrom 111 = .ok (.iconst 0, 1) := by decide +kernel
theorem dX3_copyFrom_112 : decode cX3_copyFrom 112 = .ok (.aload_n 0, 1) := by decide +kernel
theorem dX3_copyFrom_113 : decode cX3_copyFrom 113 = .ok (.getfield 54, 3) := by decide +kernel
theorem dX3_copyFrom_116 : decode cX3_copyFrom 116 = .ok (.iconst 0, 1) := by decide +kernel
theorem dX3_copyFrom_117 : decode cX3_copyFrom 117 = .ok (.sipush 192, 3) := by decide +kernel
theorem dX3_copyFrom_120 : decode cX3_copyFrom 120 = .ok (.invokestatic 95, 3) := by decide +kernel
theorem dX3_copyFrom_123 : decode cX3_copyFrom 123 = .ok (.aload_n 1, 1) := by decide +kernel
theorem dX3_copyFrom_124 : decode cX3_copyFrom 124 = .ok (.getfield 57, 3) := by decide +kernel
theorem dX3_copyFrom_127 : decode cX3_copyFrom 127 = .ok (.iconst 0, 1) := by decide +kernel
theorem dX3_copyFrom_128 : decode cX3_copyFrom 128 = .ok (.aload_n 0, 1) := by decide +kernel
theorem dX3_copyFrom_129 : decode cX3_copyFrom 129 = .ok (.getfield 57, 3) := by decide +kernel
theorem dX3_copyFrom_132 : decode cX3_copyFrom 132 = .ok (.iconst 0, 1) := by decide +kernel
theorem dX3_copyFrom_133 : decode cX3_copyFrom 133 = .ok (.sipush 192, 3) := by decide +kernel
theorem dX3_copyFrom_136 : decode cX3_copyFrom 136 = .ok (.invokestatic 95, 3) := by decide +kernel
theorem dX3_copyFrom_139 : decode cX3_copyFrom 139 = .ok (.aload_n 1, 1) := by decide +kernel
theorem dX3_copyFrom_140 : decode cX3_copyFrom 140 = .ok (.getfield 60, 3) := by decide +kernel
theorem dX3_copyFrom_143 : decode cX3_copyFrom 143 = .ok (.iconst 0, 1) := by decide +kernel
theorem dX3_copyFrom_144 : decode cX3_copyFrom 144 = .ok (.aload_n 0, 1) := by decide +kernel
theorem dX3_copyFrom_145 : decode cX3_copyFrom 145 = .ok (.getfield 60, 3) := by decide +kernel
theorem dX3_copyFrom_148 : decode cX3_copyFrom 148 = .ok (.iconst 0, 1) := by decide +kernel
theorem dX3_copyFrom_149 : decode cX3_copyFrom 149 = .ok (.sipush 192, 3) := by decide +kernel
theorem dX3_copyFrom_152 : decode cX3_copyFrom 152 = .ok (.invokestatic 95, 3) := by decide +kernel
theorem dX3_copyFrom_155 : decode cX3_copyFrom 155 = .ok (.return_, 1) := by decide +kernel
theorem dX3_isLaid_0 : decode cX3_isLaid 0 = .ok (.aload_n 0, 1) := by decide +kernel
theorem dX3_isLaid_1 : decode cX3_isLaid 1 = .ok (.getfield 18, 3) := by decide +kernel
theorem dX3_isLaid_4 : decode cX3_isLaid 4 = .ok (.ifCond .le 7, 3) := by decide +kernel
theorem dX3_isLaid_7 : decode cX3_isLaid 7 = .ok (.iconst 1, 1) := by decide +kernel
theorem dX3_isLaid_8 : decode cX3_isLaid 8 = .ok (.goto 4, 3) := by decide +kernel
theorem dX3_isLaid_11 : decode cX3_isLaid 11 = .ok (.iconst 0, 1) := by decide +kernel
theorem dX3_isLaid_12 : decode cX3_isLaid 12 = .ok (.ireturn, 1) := by decide +kernel
theorem dX3_has_0 : decode cX3_has 0 = .ok (.iload_n 1, 1) := by decide +kernel
theorem dX3_has_1 : decode cX3_has 1 = .ok (.ifCond .lt 27, 3) := by decide +kernel
theorem dX3_has_4 : decode cX3_has 4 = .ok (.iload_n 1, 1) := by decide +kernel
theorem dX3_has_5 : decode cX3_has 5 = .ok (.aload_n 0, 1) := by decide +kernel
theorem dX3_has_6 : decode cX3_has 6 = .ok (.getfield 11, 3) := by decide +kernel
theorem dX3_has_9 : decode cX3_has 9 = .ok (.if_icmp .ge 19, 3) := by decide +kernel
theorem dX3_has_12 : decode cX3_has 12 = .ok (.iload_n 2, 1) := by decide +kernel
theorem dX3_has_13 : decode cX3_has 13 = .ok (.ifCond .lt 15, 3) := by decide +kernel
theorem dX3_has_16 : decode cX3_has 16 = .ok (.iload_n 2, 1) := by decide +kernel
theorem dX3_has_17 : decode cX3_has 17 = .ok (.aload_n 0, 1) := by decide +kernel
theorem dX3_has_18 : decode cX3_has 18 = .ok (.getfield 15, 3) := by decide +kernel
theorem dX3_has_21 : decode cX3_has 21 = .ok (.if_icmp .ge 7, 3) := by decide +kernel
theorem dX3_has_24 : decode cX3_has 24 = .ok (.iconst 1, 1) := by decide +kernel
theorem dX3_has_25 : decode cX3_has 25 = .ok (.goto 4, 3) := by decide +kernel
theorem dX3_has_28 : decode cX3_has 28 = .ok (.iconst 0, 1) := by decide +kernel
theorem dX3_has_29 : decode cX3_has 29 = .ok (.ireturn, 1) := by decide +kernel
theorem dX3_isBorder_0 : decode cX3_isBorder 0 = .ok (.iload_n 1, 1) := by decide +kernel
theorem dX3_isBorder_1 : decode cX3_isBorder 1 = .ok (.ifCond .eq 27, 3) := by decide +kernel
theorem dX3_isBorder_4 : decode cX3_isBorder 4 = .ok (.iload_n 2, 1) := by decide +kernel
theorem dX3_isBorder_5 : decode cX3_isBorder 5 = .ok (.ifCond .eq 23, 3) := by decide +kernel
theorem dX3_isBorder_8 : decode cX3_isBorder 8 = .ok (.iload_n 1, 1) := by decide +kernel
theorem dX3_isBorder_9 : decode cX3_isBorder 9 = .ok (.aload_n 0, 1) := by decide +kernel
theorem dX3_isBorder_10 : decode cX3_isBorder 10 = .ok (.getfield 11, 3) := by decide +kernel
theorem dX3_isBorder_13 : decode cX3_isBorder 13 = .ok (.iconst 1, 1) := by decide +kernel
theorem dX3_isBorder_14 : decode cX3_isBorder 14 = .ok (.isub, 1) := by decide +kernel
theorem dX3_isBorder_15 : decode cX3_isBorder 15 = .ok (.if_icmp .eq 13, 3) := by decide +kernel
theorem dX3_isBorder_18 : decode cX3_isBorder 18 = .ok (.iload_n 2, 1) := by decide +kernel
theorem dX3_isBorder_19 : decode cX3_isBorder 19 = .ok (.aload_n 0, 1) := by decide +kernel
theorem dX3_isBorder_20 : decode cX3_isBorder 20 = .ok (.getfield 15, 3) := by decide +kernel
theorem dX3_isBorder_23 : decode cX3_isBorder 23 = .ok (.iconst 1, 1) := by decide +kernel
theorem dX3_isBorder_24 : decode cX3_isBorder 24 = .ok (.isub, 1) := by decide +kernel
theorem dX3_isBorder_25 : decode cX3_isBorder 25 = .ok (.if_icmp .ne 7, 3) := by decide +kernel
theorem dX3_isBorder_28 : decode cX3_isBorder 28 = .ok (.iconst 1, 1) := by decide +kernel
theorem dX3_isBorder_29 : decode cX3_isBorder 29 = .ok (.goto 4, 3) := by decide +kernel
theorem dX3_isBorder_32 : decode cX3_isBorder 32 = .ok (.iconst 0, 1) := by decide +kernel
theorem dX3_isBorder_33 : decode cX3_isBorder 33 = .ok (.ireturn, 1) := by decide +kernel
theorem dX3_index_0 : decode cX3_index 0 = .ok (.iload_n 2, 1) := by decide +kernel
theorem dX3_index_1 : decode cX3_index 1 = .ok (.aload_n 0, 1) := by decide +kernel
theorem dX3_index_2 : decode cX3_index 2 = .ok (.getfield 11, 3) := by decide +kernel
theorem dX3_index_5 : decode cX3_index 5 = .ok (.imul, 1) := by decide +kernel
theorem dX3_index_6 : decode cX3_index 6 = .ok (.iload_n 1, 1) := by decide +kernel
theorem dX3_index_7 : decode cX3_index 7 = .ok (.iadd, 1) := by decide +kernel
theorem dX3_index_8 : decode cX3_index 8 = .ok (.ireturn, 1) := by decide +kernel
theorem dX3_headPlace_0 : decode cX3_headPlace 0 = .ok (.aload_n 0, 1) := by decide +kernel
theorem dX3_headPlace_1 : decode cX3_headPlace 1 = .ok (.getfield 46, 3) := by decide +kernel
theorem dX3_headPlace_4 : decode cX3_headPlace 4 = .ok (.getfield 101, 3) := by decide +kernel
theorem dX3_headPlace_7 : decode cX3_headPlace 7 = .ok (.aload_n 0, 1) := by decide +kernel
theorem dX3_headPlace_8 : decode cX3_headPlace 8 = .ok (.getfield 11, 3) := by decide +kernel
theorem dX3_headPlace_11 : decode cX3_headPlace 11 = .ok (.imul, 1) := by decide +kernel
theorem dX3_headPlace_12 : decode cX3_headPlace 12 = .ok (.aload_n 0, 1) := by decide +kernel
theorem dX3_headPlace_13 : decode cX3_headPlace 13 = .ok (.getfield 46, 3) := by decide +kernel
theorem dX3_headPlace_16 : decode cX3_headPlace 16 = .ok (.getfield 104, 3) := by decide +kernel
theorem dX3_headPlace_19 : decode cX3_headPlace 19 = .ok (.iadd, 1) := by decide +kernel
theorem dX3_headPlace_20 : decode cX3_headPlace 20 = .ok (.ireturn, 1) := by decide +kernel
theorem dX3_isThere_0 : decode cX3_isThere 0 = .ok (.iload_n 1, 1) := by decide +kernel
theorem dX3_isThere_1 : decode cX3_isThere 1 = .ok (.ifCond .lt 24, 3) := by decide +kernel
theorem dX3_isThere_4 : decode cX3_isThere 4 = .ok (.iload_n 1, 1) := by decide +kernel
theorem dX3_isThere_5 : decode cX3_isThere 5 = .ok (.aload_n 0, 1) := by decide +kernel
theorem dX3_isThere_6 : decode cX3_isThere 6 = .ok (.getfield 18, 3) := by decide +kernel
theorem dX3_isThere_9 : decode cX3_isThere 9 = .ok (.if_icmp .ge 16, 3) := by decide +kernel
theorem dX3_isThere_12 : decode cX3_isThere 12 = .ok (.aload_n 0, 1) := by decide +kernel
theorem dX3_isThere_13 : decode cX3_isThere 13 = .ok (.getfield 54, 3) := by decide +kernel
theorem dX3_isThere_16 : decode cX3_isThere 16 = .ok (.iload_n 1, 1) := by decide +kernel
theorem dX3_isThere_17 : decode cX3_isThere 17 = .ok (.iaload, 1) := by decide +kernel
theorem dX3_isThere_18 : decode cX3_isThere 18 = .ok (.ifCond .ne 7, 3) := by decide +kernel
theorem dX3_isThere_21 : decode cX3_isThere 21 = .ok (.iconst 1, 1) := by decide +kernel
theorem dX3_isThere_22 : decode cX3_isThere 22 = .ok (.goto 4, 3) := by decide +kernel
theorem dX3_isThere_25 : decode cX3_isThere 25 = .ok (.iconst 0, 1) := by decide +kernel
theorem dX3_isThere_26 : decode cX3_isThere 26 = .ok (.ireturn, 1) := by decide +kernel
theorem dX3_moveHead_0 : decode cX3_moveHead 0 = .ok (.aload_n 0, 1) := by decide +kernel
theorem dX3_moveHead_1 : decode cX3_moveHead 1 = .ok (.iload_n 1, 1) := by decide +kernel
theorem dX3_moveHead_2 : decode cX3_moveHead 2 = .ok (.iload_n 2, 1) := by decide +kernel
theorem dX3_moveHead_3 : decode cX3_moveHead 3 = .ok (.invokevirtual 107, 3) := by decide +kernel
theorem dX3_moveHead_6 : decode cX3_moveHead 6 = .ok (.ifCond .ne 5, 3) := by decide +kernel
theorem dX3_moveHead_9 : decode cX3_moveHead 9 = .ok (.iconst 0, 1) := by decide +kernel
theorem dX3_moveHead_10 : decode cX3_moveHead 10 = .ok (.ireturn, 1) := by decide +kernel
theorem dX3_moveHead_11 : decode cX3_moveHead 11 = .ok (.aload_n 0, 1) := by decide +kernel
theorem dX3_moveHead_12 : decode cX3_moveHead 12 = .ok (.getfield 46, 3) := by decide +kernel
theorem dX3_moveHead_15 : decode cX3_moveHead 15 = .ok (.iload_n 1, 1) := by decide +kernel
theorem dX3_moveHead_16 : decode cX3_moveHead 16 = .ok (.putfield 104, 3) := by decide +kernel
theorem dX3_moveHead_19 : decode cX3_moveHead 19 = .ok (.aload_n 0, 1) := by decide +kernel
theorem dX3_moveHead_20 : decode cX3_moveHead 20 = .ok (.getfield 46, 3) := by decide +kernel
theorem dX3_moveHead_23 : decode cX3_moveHead 23 = .ok (.iload_n 2, 1) := by decide +kernel
theorem dX3_moveHead_24 : decode cX3_moveHead 24 = .ok (.putfield 101, 3) := by decide +kernel
theorem dX3_moveHead_27 : decode cX3_moveHead 27 = .ok (.aload_n 0, 1) := by decide +kernel
theorem dX3_moveHead_28 : decode cX3_moveHead 28 = .ok (.iload_n 1, 1) := by decide +kernel
theorem dX3_moveHead_29 : decode cX3_moveHead 29 = .ok (.iload_n 2, 1) := by decide +kernel
theorem dX3_moveHead_30 : decode cX3_moveHead 30 = .ok (.invokevirtual 111, 3) := by decide +kernel
theorem dX3_moveHead_33 : decode cX3_moveHead 33 = .ok (.istore_n 3, 1) := by decide +kernel
theorem dX3_moveHead_34 : decode cX3_moveHead 34 = .ok (.aload_n 0, 1) := by decide +kernel
theorem dX3_moveHead_35 : decode cX3_moveHead 35 = .ok (.iload_n 3, 1) := by decide +kernel
theorem dX3_moveHead_36 : decode cX3_moveHead 36 = .ok (.invokevirtual 114, 3) := by decide +kernel
theorem dX3_moveHead_39 : decode cX3_moveHead 39 = .ok (.ifCond .eq 25, 3) := by decide +kernel
theorem dX3_moveHead_42 : decode cX3_moveHead 42 = .ok (.aload_n 0, 1) := by decide +kernel
theorem dX3_moveHead_43 : decode cX3_moveHead 43 = .ok (.getfield 60, 3) := by decide +kernel
theorem dX3_moveHead_46 : decode cX3_moveHead 46 = .ok (.iload_n 3, 1) := by decide +kernel
theorem dX3_moveHead_47 : decode cX3_moveHead 47 = .ok (.iaload, 1) := by decide +kernel
theorem dX3_moveHead_48 : decode cX3_moveHead 48 = .ok (.ifCond .eq 16, 3) := by decide +kernel
theorem dX3_moveHead_51 : decode cX3_moveHead 51 = .ok (.aload_n 0, 1) := by decide +kernel
theorem dX3_moveHead_52 : decode cX3_moveHead 52 = .ok (.getfield 46, 3) := by decide +kernel
theorem dX3_moveHead_55 : decode cX3_moveHead 55 = .ok (.dup, 1) := by decide +kernel
theorem dX3_moveHead_56 : decode cX3_moveHead 56 = .ok (.getfield 118, 3) := by decide +kernel
theorem dX3_moveHead_59 : decode cX3_moveHead 59 = .ok (.iconst 1, 1) := by decide +kernel
theorem dX3_moveHead_60 : decode cX3_moveHead 60 = .ok (.iadd, 1) := by decide +kernel
theorem dX3_moveHead_61 : decode cX3_moveHead 61 = .ok (.putfield 118, 3) := by decide +kernel
theorem dX3_moveHead_64 : decode cX3_moveHead 64 = .ok (.iconst 1, 1) := by decide +kernel
theorem dX3_moveHead_65 : decode cX3_moveHead 65 = .ok (.ireturn, 1) := by decide +kernel
theorem dX3_tick_0 : decode cX3_tick 0 = .ok (.aload_n 0, 1) := by decide +kernel
theorem dX3_tick_1 : decode cX3_tick 1 = .ok (.getfield 21, 3) := by decide +kernel
theorem dX3_tick_4 : decode cX3_tick 4 = .ok (.iconst 0, 1) := by decide +kernel
theorem dX3_tick_5 : decode cX3_tick 5 = .ok (.iconst 3, 1) := by decide +kernel
theorem dX3_tick_6 : decode cX3_tick 6 = .ok (.invokestatic 121, 3) := by decide +kernel
theorem dX3_tick_9 : decode cX3_tick 9 = .ok (.ifCond .ne 4, 3) := by decide +kernel
theorem dX3_tick_12 : decode cX3_tick 12 = .ok (.return_, 1) := by decide +kernel
theorem dX3_tick_13 : decode cX3_tick 13 = .ok (.aload_n 0, 1) := by decide +kernel
theorem dX3_tick_14 : decode cX3_tick 14 = .ok (.getfield 46, 3) := by decide +kernel
theorem dX3_tick_17 : decode cX3_tick 17 = .ok (.getfield 125, 3) := by decide +kernel
theorem dX3_tick_20 : decode cX3_tick 20 = .ok (.ifCond .eq 11, 3) := by decide +kernel
theorem dX3_tick_23 : decode cX3_tick 23 = .ok (.aload_n 0, 1) := by decide +kernel
theorem dX3_tick_24 : decode cX3_tick 24 = .ok (.aload_n 1, 1) := by decide +kernel
theorem dX3_tick_25 : decode cX3_tick 25 = .ok (.getfield 129, 3) := by decide +kernel
theorem dX3_tick_28 : decode cX3_tick 28 = .ok (.invokevirtual 134, 3) := by decide +kernel
theorem dX3_tick_31 : decode cX3_tick 31 = .ok (.aload_n 0, 1) := by decide +kernel
theorem dX3_tick_32 : decode cX3_tick 32 = .ok (.aload_n 1, 1) := by decide +kernel
theorem dX3_tick_33 : decode cX3_tick 33 = .ok (.getfield 138, 3) := by decide +kernel
theorem dX3_tick_36 : decode cX3_tick 36 = .ok (.aload_n 0, 1) := by decide +kernel
theorem dX3_tick_37 : decode cX3_tick 37 = .ok (.getfield 21, 3) := by decide +kernel
theorem dX3_tick_40 : decode cX3_tick 40 = .ok (.iaload, 1) := by decide +kernel
theorem dX3_tick_41 : decode cX3_tick 41 = .ok (.invokevirtual 141, 3) := by decide +kernel
theorem dX3_tick_44 : decode cX3_tick 44 = .ok (.aload_n 0, 1) := by decide +kernel
theorem dX3_tick_45 : decode cX3_tick 45 = .ok (.aload_n 1, 1) := by decide +kernel
theorem dX3_tick_46 : decode cX3_tick 46 = .ok (.getfield 144, 3) := by decide +kernel
theorem dX3_tick_49 : decode cX3_tick 49 = .ok (.aload_n 0, 1) := by decide +kernel
theorem dX3_tick_50 : decode cX3_tick 50 = .ok (.getfield 21, 3) := by decide +kernel
theorem dX3_tick_53 : decode cX3_tick 53 = .ok (.iaload, 1) := by decide +kernel
theorem dX3_tick_54 : decode cX3_tick 54 = .ok (.invokevirtual 147, 3) := by decide +kernel
theorem dX3_tick_57 : decode cX3_tick 57 = .ok (.aload_n 1, 1) := by decide +kernel
theorem dX3_tick_58 : decode cX3_tick 58 = .ok (.getfield 150, 3) := by decide +kernel
theorem dX3_tick_61 : decode cX3_tick 61 = .ok (.ifCond .eq 28, 3) := by decide +kernel
theorem dX3_tick_64 : decode cX3_tick 64 = .ok (.aload_n 0, 1) := by decide +kernel
theorem dX3_tick_65 : decode cX3_tick 65 = .ok (.aload_n 1, 1) := by decide +kernel
theorem dX3_tick_66 : decode cX3_tick 66 = .ok (.getfield 153, 3) := by decide +kernel
theorem dX3_tick_69 : decode cX3_tick 69 = .ok (.aload_n 0, 1) := by decide +kernel
theorem dX3_tick_70 : decode cX3_tick 70 = .ok (.getfield 21, 3) := by decide +kernel
theorem dX3_tick_73 : decode cX3_tick 73 = .ok (.iaload, 1) := by decide +kernel
theorem dX3_tick_74 : decode cX3_tick 74 = .ok (.aload_n 0, 1) := by decide +kernel
theorem dX3_tick_75 : decode cX3_tick 75 = .ok (.getfield 24, 3) := by decide +kernel
theorem dX3_tick_78 : decode cX3_tick 78 = .ok (.imul, 1) := by decide +kernel
theorem dX3_tick_79 : decode cX3_tick 79 = .ok (.invokevirtual 156, 3) := by decide +kernel
theorem dX3_tick_82 : decode cX3_tick 82 = .ok (.ifCond .eq 7, 3) := by decide +kernel
theorem dX3_tick_85 : decode cX3_tick 85 = .ok (.iconst 1, 1) := by decide +kernel
theorem dX3_tick_86 : decode cX3_tick 86 = .ok (.goto 4, 3) := by decide +kernel
theorem dX3_tick_89 : decode cX3_tick 89 = .ok (.iconst 0, 1) := by decide +kernel
theorem dX3_tick_90 : decode cX3_tick 90 = .ok (.istore_n 2, 1) := by decide +kernel
theorem dX3_tick_91 : decode cX3_tick 91 = .ok (.aload_n 0, 1) := by decide +kernel
theorem dX3_tick_92 : decode cX3_tick 92 = .ok (.aload_n 1, 1) := by decide +kernel
theorem dX3_tick_93 : decode cX3_tick 93 = .ok (.getfield 159, 3) := by decide +kernel
theorem dX3_tick_96 : decode cX3_tick 96 = .ok (.aload_n 0, 1) := by decide +kernel
theorem dX3_tick_97 : decode cX3_tick 97 = .ok (.getfield 21, 3) := by decide +kernel
theorem dX3_tick_100 : decode cX3_tick 100 = .ok (.iaload, 1) := by decide +kernel
theorem dX3_tick_101 : decode cX3_tick 101 = .ok (.invokevirtual 162, 3) := by decide +kernel
theorem dX3_tick_104 : decode cX3_tick 104 = .ok (.iload_n 2, 1) := by decide +kernel
theorem dX3_tick_105 : decode cX3_tick 105 = .ok (.ifCond .eq 8, 3) := by decide +kernel
theorem dX3_tick_108 : decode cX3_tick 108 = .ok (.aload_n 0, 1) := by decide +kernel
theorem dX3_tick_109 : decode cX3_tick 109 = .ok (.aload_n 1, 1) := by decide +kernel
theorem dX3_tick_110 : decode cX3_tick 110 = .ok (.invokevirtual 165, 3) := by decide +kernel
theorem dX3_tick_113 : decode cX3_tick 113 = .ok (.aload_n 0, 1) := by decide +kernel
theorem dX3_tick_114 : decode cX3_tick 114 = .ok (.dup, 1) := by decide +kernel
theorem dX3_tick_115 : decode cX3_tick 115 = .ok (.getfield 27, 3) := by decide +kernel
theorem dX3_tick_118 : decode cX3_tick 118 = .ok (.iconst 1, 1) := by decide +kernel
theorem dX3_tick_119 : decode cX3_tick 119 = .ok (.iadd, 1) := by decide +kernel
theorem dX3_tick_120 : decode cX3_tick 120 = .ok (.putfield 27, 3) := by decide +kernel
theorem dX3_tick_123 : decode cX3_tick 123 = .ok (.return_, 1) := by decide +kernel
theorem dX3_giveHeat_0 : decode cX3_giveHeat 0 = .ok (.aload_n 0, 1) := by decide +kernel
theorem dX3_giveHeat_1 : decode cX3_giveHeat 1 = .ok (.invokevirtual 169, 3) := by decide +kernel
theorem dX3_giveHeat_4 : decode cX3_giveHeat 4 = .ok (.istore_n 2, 1) := by decide +kernel
theorem dX3_giveHeat_5 : decode cX3_giveHeat 5 = .ok (.aload_n 0, 1) := by decide +kernel
theorem dX3_giveHeat_6 : decode cX3_giveHeat 6 = .ok (.iload_n 2, 1) := by decide +kernel
theorem dX3_giveHeat_7 : decode cX3_giveHeat 7 = .ok (.invokevirtual 114, 3) := by decide +kernel
theorem dX3_giveHeat_10 : decode cX3_giveHeat 10 = .ok (.ifCond .ne 4, 3) := by decide +kernel
theorem dX3_giveHeat_13 : decode cX3_giveHeat 13 = .ok (.return_, 1) := by decide +kernel
theorem dX3_giveHeat_14 : decode cX3_giveHeat 14 = .ok (.aload_n 0, 1) := by decide +kernel
theorem dX3_giveHeat_15 : decode cX3_giveHeat 15 = .ok (.getfield 50, 3) := by decide +kernel
theorem dX3_giveHeat_18 : decode cX3_giveHeat 18 = .ok (.iload_n 2, 1) := by decide +kernel
theorem dX3_giveHeat_19 : decode cX3_giveHeat 19 = .ok (.iaload, 1) := by decide +kernel
theorem dX3_giveHeat_20 : decode cX3_giveHeat 20 = .ok (.iload_n 1, 1) := by decide +kernel
theorem dX3_giveHeat_21 : decode cX3_giveHeat 21 = .ok (.iadd, 1) := by decide +kernel
theorem dX3_giveHeat_22 : decode cX3_giveHeat 22 = .ok (.istore_n 3, 1) := by decide +kernel
theorem dX3_giveHeat_23 : decode cX3_giveHeat 23 = .ok (.iconst 0, 1) := by decide +kernel
theorem dX3_giveHeat_24 : decode cX3_giveHeat 24 = .ok (.iload_n 3, 1) := by decide +kernel
theorem dX3_giveHeat_25 : decode cX3_giveHeat 25 = .ok (.ldc 173, 2) := by decide +kernel
theorem dX3_giveHeat_27 : decode cX3_giveHeat 27 = .ok (.isub, 1) := by decide +kernel
theorem dX3_giveHeat_28 : decode cX3_giveHeat 28 = .ok (.invokestatic 174, 3) := by decide +kernel
theorem dX3_giveHeat_31 : decode cX3_giveHeat 31 = .ok (.istore 4, 2) := by decide +kernel
theorem dX3_giveHeat_33 : decode cX3_giveHeat 33 = .ok (.aload_n 0, 1) := by decide +kernel
theorem dX3_giveHeat_34 : decode cX3_giveHeat 34 = .ok (.getfield 50, 3) := by decide +kernel
theorem dX3_giveHeat_37 : decode cX3_giveHeat 37 = .ok (.iload_n 2, 1) := by decide +kernel
theorem dX3_giveHeat_38 : decode cX3_giveHeat 38 = .ok (.iload_n 3, 1) := by decide +kernel
theorem dX3_giveHeat_39 : decode cX3_giveHeat 39 = .ok (.iload 4, 2) := by decide +kernel
theorem dX3_giveHeat_41 : decode cX3_giveHeat 41 = .ok (.isub, 1) := by decide +kernel
theorem dX3_giveHeat_42 : decode cX3_giveHeat 42 = .ok (.iastore, 1) := by decide +kernel
theorem dX3_giveHeat_43 : decode cX3_giveHeat 43 = .ok (.aload_n 0, 1) := by decide +kernel
theorem dX3_giveHeat_44 : decode cX3_giveHeat 44 = .ok (.dup, 1) := by decide +kernel
theorem dX3_giveHeat_45 : decode cX3_giveHeat 45 = .ok (.getfield 33, 3) := by decide +kernel
theorem dX3_giveHeat_48 : decode cX3_giveHeat 48 = .ok (.iload_n 1, 1) := by decide +kernel
theorem dX3_giveHeat_49 : decode cX3_giveHeat 49 = .ok (.i2l, 1) := by decide +kernel
theorem dX3_giveHeat_50 : decode cX3_giveHeat 50 = .ok (.ladd, 1) := by decide +kernel
theorem dX3_giveHeat_51 : decode cX3_giveHeat 51 = .ok (.putfield 33, 3) := by decide +kernel
theorem dX3_giveHeat_54 : decode cX3_giveHeat 54 = .ok (.aload_n 0, 1) := by decide +kernel
theorem dX3_giveHeat_55 : decode cX3_giveHeat 55 = .ok (.dup, 1) := by decide +kernel
theorem dX3_giveHeat_56 : decode cX3_giveHeat 56 = .ok (.getfield 37, 3) := by decide +kernel
theorem dX3_giveHeat_59 : decode cX3_giveHeat 59 = .ok (.iload 4, 2) := by decide +kernel
theorem dX3_giveHeat_61 : decode cX3_giveHeat 61 = .ok (.i2l, 1) := by decide +kernel
theorem dX3_giveHeat_62 : decode cX3_giveHeat 62 = .ok (.ladd, 1) := by decide +kernel
theorem dX3_giveHeat_63 : decode cX3_giveHeat 63 = .ok (.putfield 37, 3) := by decide +kernel
theorem dX3_giveHeat_66 : decode cX3_giveHeat 66 = .ok (.return_, 1) := by decide +kernel
theorem dX3_leadHeat_0 : decode cX3_leadHeat 0 = .ok (.iconst 0, 1) := by decide +kernel
theorem dX3_leadHeat_1 : decode cX3_leadHeat 1 = .ok (.istore_n 2, 1) := by decide +kernel
theorem dX3_leadHeat_2 : decode cX3_leadHeat 2 = .ok (.iload_n 2, 1) := by decide +kernel
theorem dX3_leadHeat_3 : decode cX3_leadHeat 3 = .ok (.aload_n 0, 1) := by decide +kernel
theorem dX3_leadHeat_4 : decode cX3_leadHeat 4 = .ok (.getfield 15, 3) := by decide +kernel
theorem dX3_leadHeat_7 : decode cX3_leadHeat 7 = .ok (.if_icmp .ge 133, 3) := by decide +kernel
theorem dX3_leadHeat_10 : decode cX3_leadHeat 10 = .ok (.iload_n 2, 1) := by decide +kernel
theorem dX3_leadHeat_11 : decode cX3_leadHeat 11 = .ok (.iconst 1, 1) := by decide +kernel
theorem dX3_leadHeat_12 : decode cX3_leadHeat 12 = .ok (.iadd, 1) := by decide +kernel
theorem dX3_leadHeat_13 : decode cX3_leadHeat 13 = .ok (.aload_n 0, 1) := by decide +kernel
theorem dX3_leadHeat_14 : decode cX3_leadHeat 14 = .ok (.getfield 11, 3) := by decide +kernel
theorem dX3_leadHeat_17 : decode cX3_leadHeat 17 = .ok (.imul, 1) := by decide +kernel
theorem dX3_leadHeat_18 : decode cX3_leadHeat 18 = .ok (.aload_n 0, 1) := by decide +kernel
theorem dX3_leadHeat_19 : decode cX3_leadHeat 19 = .ok (.getfield 18, 3) := by decide +kernel
theorem dX3_leadHeat_22 : decode cX3_leadHeat 22 = .ok (.invokestatic 76, 3) := by decide +kernel
theorem dX3_leadHeat_25 : decode cX3_leadHeat 25 = .ok (.istore_n 3, 1) := by decide +kernel
theorem dX3_leadHeat_26 : decode cX3_leadHeat 26 = .ok (.iload_n 2, 1) := by decide +kernel
theorem dX3_leadHeat_27 : decode cX3_leadHeat 27 = .ok (.aload_n 0, 1) := by decide +kernel
theorem dX3_leadHeat_28 : decode cX3_leadHeat 28 = .ok (.getfield 11, 3) := by decide +kernel
theorem dX3_leadHeat_31 : decode cX3_leadHeat 31 = .ok (.imul, 1) := by decide +kernel
theorem dX3_leadHeat_32 : decode cX3_leadHeat 32 = .ok (.istore 4, 2) := by decide +kernel
theorem dX3_leadHeat_34 : decode cX3_leadHeat 34 = .ok (.iload 4, 2) := by decide +kernel
theorem dX3_leadHeat_36 : decode cX3_leadHeat 36 = .ok (.iload_n 3, 1) := by decide +kernel
theorem dX3_leadHeat_37 : decode cX3_leadHeat 37 = .ok (.if_icmp .ge 97, 3) := by decide +kernel
theorem dX3_leadHeat_40 : decode cX3_leadHeat 40 = .ok (.iload 4, 2) := by decide +kernel
theorem dX3_leadHeat_42 : decode cX3_leadHeat 42 = .ok (.iconst 1, 1) := by decide +kernel
theorem dX3_leadHeat_43 : decode cX3_leadHeat 43 = .ok (.iadd, 1) := by decide +kernel
theorem dX3_leadHeat_44 : decode cX3_leadHeat 44 = .ok (.iload_n 3, 1) := by decide +kernel
theorem dX3_leadHeat_45 : decode cX3_leadHeat 45 = .ok (.if_icmp .ge 33, 3) := by decide +kernel
theorem dX3_leadHeat_48 : decode cX3_leadHeat 48 = .ok (.aload_n 0, 1) := by decide +kernel
theorem dX3_leadHeat_49 : decode cX3_leadHeat 49 = .ok (.getfield 50, 3) := by decide +kernel
theorem dX3_leadHeat_52 : decode cX3_leadHeat 52 = .ok (.iload 4, 2) := by decide +kernel
theorem dX3_leadHeat_54 : decode cX3_leadHeat 54 = .ok (.iaload, 1) := by decide +kernel
theorem dX3_leadHeat_55 : decode cX3_leadHeat 55 = .ok (.aload_n 0, 1) := by decide +kernel
theorem dX3_leadHeat_56 : decode cX3_leadHeat 56 = .ok (.getfield 50, 3) := by decide +kernel
theorem dX3_leadHeat_59 : decode cX3_leadHeat 59 = .ok (.iload 4, 2) := by decide +kernel
theorem dX3_leadHeat_61 : decode cX3_leadHeat 61 = .ok (.iconst 1, 1) := by decide +kernel
theorem dX3_leadHeat_62 : decode cX3_leadHeat 62 = .ok (.iadd, 1) := by decide +kernel
theorem dX3_leadHeat_63 : decode cX3_leadHeat 63 = .ok (.iaload, 1) := by decide +kernel
theorem dX3_leadHeat_64 : decode cX3_leadHeat 64 = .ok (.if_icmp .eq 14, 3) := by decide +kernel
theorem dX3_leadHeat_67 : decode cX3_leadHeat 67 = .ok (.aload_n 0, 1) := by decide +kernel
theorem dX3_leadHeat_68 : decode cX3_leadHeat 68 = .ok (.iload 4, 2) := by decide +kernel
theorem dX3_leadHeat_70 : decode cX3_leadHeat 70 = .ok (.iload 4, 2) := by decide +kernel
theorem dX3_leadHeat_72 : decode cX3_leadHeat 72 = .ok (.iconst 1, 1) := by decide +kernel
theorem dX3_leadHeat_73 : decode cX3_leadHeat 73 = .ok (.iadd, 1) := by decide +kernel
theorem dX3_leadHeat_74 : decode cX3_leadHeat 74 = .ok (.iload_n 1, 1) := by decide +kernel
theorem dX3_leadHeat_75 : decode cX3_leadHeat 75 = .ok (.invokevirtual 177, 3) := by decide +kernel
theorem dX3_leadHeat_78 : decode cX3_leadHeat 78 = .ok (.iload 4, 2) := by decide +kernel
theorem dX3_leadHeat_80 : decode cX3_leadHeat 80 = .ok (.aload_n 0, 1) := by decide +kernel
theorem dX3_leadHeat_81 : decode cX3_leadHeat 81 = .ok (.getfield 11, 3) := by decide +kernel
theorem dX3_leadHeat_84 : decode cX3_leadHeat 84 = .ok (.iadd, 1) := by decide +kernel
theorem dX3_leadHeat_85 : decode cX3_leadHeat 85 = .ok (.aload_n 0, 1) := by decide +kernel
theorem dX3_leadHeat_86 : decode cX3_leadHeat 86 = .ok (.getfield 18, 3) := by decide +kernel
theorem dX3_leadHeat_89 : decode cX3_leadHeat 89 = .ok (.if_icmp .ge 39, 3) := by decide +kernel
theorem dX3_leadHeat_92 : decode cX3_leadHeat 92 = .ok (.aload_n 0, 1) := by decide +kernel
theorem dX3_leadHeat_93 : decode cX3_leadHeat 93 = .ok (.getfield 50, 3) := by decide +kernel
theorem dX3_leadHeat_96 : decode cX3_leadHeat 96 = .ok (.iload 4, 2) := by decide +kernel
theorem dX3_leadHeat_98 : decode cX3_leadHeat 98 = .ok (.iaload, 1) := by decide +kernel
theorem dX3_leadHeat_99 : decode cX3_leadHeat 99 = .ok (.aload_n 0, 1) := by decide +kernel
theorem dX3_leadHeat_100 : decode cX3_leadHeat 100 = .ok (.getfield 50, 3) := by decide +kernel
theorem dX3_leadHeat_103 : decode cX3_leadHeat 103 = .ok (.iload 4, 2) := by decide +kernel
theorem dX3_leadHeat_105 : decode cX3_leadHeat 105 = .ok (.aload_n 0, 1) := by decide +kernel
theorem dX3_leadHeat_106 : decode cX3_leadHeat 106 = .ok (.getfield 11, 3) := by decide +kernel
theorem dX3_leadHeat_109 : decode cX3_leadHeat 109 = .ok (.iadd, 1) := by decide +kernel
theorem dX3_leadHeat_110 : decode cX3_leadHeat 110 = .ok (.iaload, 1) := by decide +kernel
theorem dX3_leadHeat_111 : decode cX3_leadHeat 111 = .ok (.if_icmp .eq 17, 3) := by decide +kernel
theorem dX3_leadHeat_114 : decode cX3_leadHeat 114 = .ok (.aload_n 0, 1) := by decide +kernel
theorem dX3_leadHeat_115 : decode cX3_leadHeat 115 = .ok (.iload 4, 2) := by decide +kernel
theorem dX3_leadHeat_117 : decode cX3_leadHeat 117 = .ok (.iload 4, 2) := by decide +kernel
theorem dX3_leadHeat_119 : decode cX3_leadHeat 119 = .ok (.aload_n 0, 1) := by decide +kernel
theorem dX3_leadHeat_120 : decode cX3_leadHeat 120 = .ok (.getfield 11, 3) := by decide +kernel
theorem dX3_leadHeat_123 : decode cX3_leadHeat 123 = .ok (.iadd, 1) := by decide +kernel
theorem dX3_leadHeat_124 : decode cX3_leadHeat 124 = .ok (.iload_n 1, 1) := by decide +kernel
theorem dX3_leadHeat_125 : decode cX3_leadHeat 125 = .ok (.invokevirtual 177, 3) := by decide +kernel
theorem dX3_leadHeat_128 : decode cX3_leadHeat 128 = .ok (.iinc 4 1, 3) := by decide +kernel
theorem dX3_leadHeat_131 : decode cX3_leadHeat 131 = .ok (.goto (-97), 3) := by decide +kernel
theorem dX3_leadHeat_134 : decode cX3_leadHeat 134 = .ok (.iinc 2 1, 3) := by decide +kernel
theorem dX3_leadHeat_137 : decode cX3_leadHeat 137 = .ok (.goto (-135), 3) := by decide +kernel
theorem dX3_leadHeat_140 : decode cX3_leadHeat 140 = .ok (.iconst 0, 1) := by decide +kernel
theorem dX3_leadHeat_141 : decode cX3_leadHeat 141 = .ok (.istore_n 2, 1) := by decide +kernel
theorem dX3_leadHeat_142 : decode cX3_leadHeat 142 = .ok (.iload_n 2, 1) := by decide +kernel
theorem dX3_leadHeat_143 : decode cX3_leadHeat 143 = .ok (.aload_n 0, 1) := by decide +kernel
theorem dX3_leadHeat_144 : decode cX3_leadHeat 144 = .ok (.getfield 18, 3) := by decide +kernel
theorem dX3_leadHeat_147 : decode cX3_leadHeat 147 = .ok (.if_icmp .ge 31, 3) := by decide +kernel
theorem dX3_leadHeat_150 : decode cX3_leadHeat 150 = .ok (.aload_n 0, 1) := by decide +kernel
theorem dX3_leadHeat_151 : decode cX3_leadHeat 151 = .ok (.getfield 50, 3) := by decide +kernel
theorem dX3_leadHeat_154 : decode cX3_leadHeat 154 = .ok (.iload_n 2, 1) := by decide +kernel
theorem dX3_leadHeat_155 : decode cX3_leadHeat 155 = .ok (.dup2, 1) := by decide +kernel
theorem dX3_leadHeat_156 : decode cX3_leadHeat 156 = .ok (.iaload, 1) := by decide +kernel
theorem dX3_leadHeat_157 : decode cX3_leadHeat 157 = .ok (.aload_n 0, 1) := by decide +kernel
theorem dX3_leadHeat_158 : decode cX3_leadHeat 158 = .ok (.getfield 63, 3) := by decide +kernel
theorem dX3_leadHeat_161 : decode cX3_leadHeat 161 = .ok (.iload_n 2, 1) := by decide +kernel
theorem dX3_leadHeat_162 : decode cX3_leadHeat 162 = .ok (.iaload, 1) := by decide +kernel
theorem dX3_leadHeat_163 : decode cX3_leadHeat 163 = .ok (.iadd, 1) := by decide +kernel
theorem dX3_leadHeat_164 : decode cX3_leadHeat 164 = .ok (.iastore, 1) := by decide +kernel
theorem dX3_leadHeat_165 : decode cX3_leadHeat 165 = .ok (.aload_n 0, 1) := by decide +kernel
theorem dX3_leadHeat_166 : decode cX3_leadHeat 166 = .ok (.getfield 63, 3) := by decide +kernel
theorem dX3_leadHeat_169 : decode cX3_leadHeat 169 = .ok (.iload_n 2, 1) := by decide +kernel
theorem dX3_leadHeat_170 : decode cX3_leadHeat 170 = .ok (.iconst 0, 1) := by decide +kernel
theorem dX3_leadHeat_171 : decode cX3_leadHeat 171 = .ok (.iastore, 1) := by decide +kernel
theorem dX3_leadHeat_172 : decode cX3_leadHeat 172 = .ok (.iinc 2 1, 3) := by decide +kernel
theorem dX3_leadHeat_175 : decode cX3_leadHeat 175 = .ok (.goto (-33), 3) := by decide +kernel
theorem dX3_leadHeat_178 : decode cX3_leadHeat 178 = .ok (.return_, 1) := by decide +kernel
theorem dX3_leadBetween_0 : decode cX3_leadBetween 0 = .ok (.aload_n 0, 1) := by decide +kernel
theorem dX3_leadBetween_1 : decode cX3_leadBetween 1 = .ok (.getfield 54, 3) := by decide +kernel
theorem dX3_leadBetween_4 : decode cX3_leadBetween 4 = .ok (.iload_n 1, 1) := by decide +kernel
theorem dX3_leadBetween_5 : decode cX3_leadBetween 5 = .ok (.iaload, 1) := by decide +kernel
theorem dX3_leadBetween_6 : decode cX3_leadBetween 6 = .ok (.ifCond .ne 54, 3) := by decide +kernel
theorem dX3_leadBetween_9 : decode cX3_leadBetween 9 = .ok (.aload_n 0, 1) := by decide +kernel
theorem dX3_leadBetween_10 : decode cX3_leadBetween 10 = .ok (.getfield 54, 3) := by decide +kernel
theorem dX3_leadBetween_13 : decode cX3_leadBetween 13 = .ok (.iload_n 2, 1) := by decide +kernel
theorem dX3_leadBetween_14 : decode cX3_leadBetween 14 = .ok (.iaload, 1) := by decide +kernel
theorem dX3_leadBetween_15 : decode cX3_leadBetween 15 = .ok (.ifCond .ne 45, 3) := by decide +kernel
theorem dX3_leadBetween_18 : decode cX3_leadBetween 18 = .ok (.aload_n 0, 1) := by decide +kernel
theorem dX3_leadBetween_19 : decode cX3_leadBetween 19 = .ok (.getfield 50, 3) := by decide +kernel
theorem dX3_leadBetween_22 : decode cX3_leadBetween 22 = .ok (.iload_n 1, 1) := by decide +kernel
theorem dX3_leadBetween_23 : decode cX3_leadBetween 23 = .ok (.iaload, 1) := by decide +kernel
theorem dX3_leadBetween_24 : decode cX3_leadBetween 24 = .ok (.aload_n 0, 1) := by decide +kernel
theorem dX3_leadBetween_25 : decode cX3_leadBetween 25 = .ok (.getfield 50, 3) := by decide +kernel
theorem dX3_leadBetween_28 : decode cX3_leadBetween 28 = .ok (.iload_n 2, 1) := by decide +kernel
theorem dX3_leadBetween_29 : decode cX3_leadBetween 29 = .ok (.iaload, 1) := by decide +kernel
theorem dX3_leadBetween_30 : decode cX3_leadBetween 30 = .ok (.isub, 1) := by decide +kernel
theorem dX3_leadBetween_31 : decode cX3_leadBetween 31 = .ok (.iload_n 3, 1) := by decide +kernel
theorem dX3_leadBetween_32 : decode cX3_leadBetween 32 = .ok (.imul, 1) := by decide +kernel
theorem dX3_leadBetween_33 : decode cX3_leadBetween 33 = .ok (.bipush 100, 2) := by decide +kernel
theorem dX3_leadBetween_35 : decode cX3_leadBetween 35 = .ok (.idiv, 1) := by decide +kernel
theorem dX3_leadBetween_36 : decode cX3_leadBetween 36 = .ok (.istore 4, 2) := by decide +kernel
theorem dX3_leadBetween_38 : decode cX3_leadBetween 38 = .ok (.aload_n 0, 1) := by decide +kernel
theorem dX3_leadBetween_39 : decode cX3_leadBetween 39 = .ok (.getfield 63, 3) := by decide +kernel
theorem dX3_leadBetween_42 : decode cX3_leadBetween 42 = .ok (.iload_n 1, 1) := by decide +kernel
theorem dX3_leadBetween_43 : decode cX3_leadBetween 43 = .ok (.dup2, 1) := by decide +kernel
theorem dX3_leadBetween_44 : decode cX3_leadBetween 44 = .ok (.iaload, 1) := by decide +kernel
theorem dX3_leadBetween_45 : decode cX3_leadBetween 45 = .ok (.iload 4, 2) := by decide +kernel
theorem dX3_leadBetween_47 : decode cX3_leadBetween 47 = .ok (.isub, 1) := by decide +kernel
theorem dX3_leadBetween_48 : decode cX3_leadBetween 48 = .ok (.iastore, 1) := by decide +kernel
theorem dX3_leadBetween_49 : decode cX3_leadBetween 49 = .ok (.aload_n 0, 1) := by decide +kernel
theorem dX3_leadBetween_50 : decode cX3_leadBetween 50 = .ok (.getfield 63, 3) := by decide +kernel
theorem dX3_leadBetween_53 : decode cX3_leadBetween 53 = .ok (.iload_n 2, 1) := by decide +kernel
theorem dX3_leadBetween_54 : decode cX3_leadBetween 54 = .ok (.dup2, 1) := by decide +kernel
theorem dX3_leadBetween_55 : decode cX3_leadBetween 55 = .ok (.iaload, 1) := by decide +kernel
theorem dX3_leadBetween_56 : decode cX3_leadBetween 56 = .ok (.iload 4, 2) := by decide +kernel
theorem dX3_leadBetween_58 : decode cX3_leadBetween 58 = .ok (.iadd, 1) := by decide +kernel
theorem dX3_leadBetween_59 : decode cX3_leadBetween 59 = .ok (.iastore, 1) := by decide +kernel
theorem dX3_leadBetween_60 : decode cX3_leadBetween 60 = .ok (.return_, 1) := by decide +kernel
theorem dX3_loseHeat_0 : decode cX3_loseHeat 0 = .ok (.iconst 0, 1) := by decide +kernel
theorem dX3_loseHeat_1 : decode cX3_loseHeat 1 = .ok (.istore_n 2, 1) := by decide +kernel
theorem dX3_loseHeat_2 : decode cX3_loseHeat 2 = .ok (.iload_n 2, 1) := by decide +kernel
theorem dX3_loseHeat_3 : decode cX3_loseHeat 3 = .ok (.aload_n 0, 1) := by decide +kernel
theorem dX3_loseHeat_4 : decode cX3_loseHeat 4 = .ok (.getfield 18, 3) := by decide +kernel
theorem dX3_loseHeat_7 : decode cX3_loseHeat 7 = .ok (.if_icmp .ge 42, 3) := by decide +kernel
theorem dX3_loseHeat_10 : decode cX3_loseHeat 10 = .ok (.aload_n 0, 1) := by decide +kernel
theorem dX3_loseHeat_11 : decode cX3_loseHeat 11 = .ok (.getfield 50, 3) := by decide +kernel
theorem dX3_loseHeat_14 : decode cX3_loseHeat 14 = .ok (.iload_n 2, 1) := by decide +kernel
theorem dX3_loseHeat_15 : decode cX3_loseHeat 15 = .ok (.iaload, 1) := by decide +kernel
theorem dX3_loseHeat_16 : decode cX3_loseHeat 16 = .ok (.iload_n 1, 1) := by decide +kernel
theorem dX3_loseHeat_17 : decode cX3_loseHeat 17 = .ok (.imul, 1) := by decide +kernel
theorem dX3_loseHeat_18 : decode cX3_loseHeat 18 = .ok (.bipush 100, 2) := by decide +kernel
theorem dX3_loseHeat_20 : decode cX3_loseHeat 20 = .ok (.idiv, 1) := by decide +kernel
theorem dX3_loseHeat_21 : decode cX3_loseHeat 21 = .ok (.istore_n 3, 1) := by decide +kernel
theorem dX3_loseHeat_22 : decode cX3_loseHeat 22 = .ok (.aload_n 0, 1) := by decide +kernel
theorem dX3_loseHeat_23 : decode cX3_loseHeat 23 = .ok (.getfield 50, 3) := by decide +kernel
theorem dX3_loseHeat_26 : decode cX3_loseHeat 26 = .ok (.iload_n 2, 1) := by decide +kernel
theorem dX3_loseHeat_27 : decode cX3_loseHeat 27 = .ok (.dup2, 1) := by decide +kernel
theorem dX3_loseHeat_28 : decode cX3_loseHeat 28 = .ok (.iaload, 1) := by decide +kernel
theorem dX3_loseHeat_29 : decode cX3_loseHeat 29 = .ok (.iload_n 3, 1) := by decide +kernel
theorem dX3_loseHeat_30 : decode cX3_loseHeat 30 = .ok (.isub, 1) := by decide +kernel
theorem dX3_loseHeat_31 : decode cX3_loseHeat 31 = .ok (.iastore, 1) := by decide +kernel
theorem dX3_loseHeat_32 : decode cX3_loseHeat 32 = .ok (.aload_n 0, 1) := by decide +kernel
theorem dX3_loseHeat_33 : decode cX3_loseHeat 33 = .ok (.dup, 1) := by decide +kernel
theorem dX3_loseHeat_34 : decode cX3_loseHeat 34 = .ok (.getfield 37, 3) := by decide +kernel
theorem dX3_loseHeat_37 : decode cX3_loseHeat 37 = .ok (.iload_n 3, 1) := by decide +kernel
theorem dX3_loseHeat_38 : decode cX3_loseHeat 38 = .ok (.i2l, 1) := by decide +kernel
theorem dX3_loseHeat_39 : decode cX3_loseHeat 39 = .ok (.ladd, 1) := by decide +kernel
theorem dX3_loseHeat_40 : decode cX3_loseHeat 40 = .ok (.putfield 37, 3) := by decide +kernel
theorem dX3_loseHeat_43 : decode cX3_loseHeat 43 = .ok (.iinc 2 1, 3) := by decide +kernel
theorem dX3_loseHeat_46 : decode cX3_loseHeat 46 = .ok (.goto (-44), 3) := by decide +kernel
theorem dX3_loseHeat_49 : decode cX3_loseHeat 49 = .ok (.return_, 1) := by decide +kernel
theorem dX3_cutMolten_0 : decode cX3_cutMolten 0 = .ok (.iconst 0, 1) := by decide +kernel
theorem dX3_cutMolten_1 : decode cX3_cutMolten 1 = .ok (.istore_n 2, 1) := by decide +kernel
theorem dX3_cutMolten_2 : decode cX3_cutMolten 2 = .ok (.iconst 0, 1) := by decide +kernel
theorem dX3_cutMolten_3 : decode cX3_cutMolten 3 = .ok (.istore_n 3, 1) := by decide +kernel
theorem dX3_cutMolten_4 : decode cX3_cutMolten 4 = .ok (.iload_n 3, 1) := by decide +kernel
theorem dX3_cutMolten_5 : decode cX3_cutMolten 5 = .ok (.aload_n 0, 1) := by decide +kernel
theorem dX3_cutMolten_6 : decode cX3_cutMolten 6 = .ok (.getfield 18, 3) := by decide +kernel
theorem dX3_cutMolten_9 : decode cX3_cutMolten 9 = .ok (.if_icmp .ge 27, 3) := by decide +kernel
theorem dX3_cutMolten_12 : decode cX3_cutMolten 12 = .ok (.aload_n 0, 1) := by decide +kernel
theorem dX3_cutMolten_13 : decode cX3_cutMolten 13 = .ok (.getfield 50, 3) := by decide +kernel
theorem dX3_cutMolten_16 : decode cX3_cutMolten 16 = .ok (.iload_n 3, 1) := by decide +kernel
theorem dX3_cutMolten_17 : decode cX3_cutMolten 17 = .ok (.iaload, 1) := by decide +kernel
theorem dX3_cutMolten_18 : decode cX3_cutMolten 18 = .ok (.iload_n 1, 1) := by decide +kernel
theorem dX3_cutMolten_19 : decode cX3_cutMolten 19 = .ok (.if_icmp .lt 11, 3) := by decide +kernel
theorem dX3_cutMolten_22 : decode cX3_cutMolten 22 = .ok (.aload_n 0, 1) := by decide +kernel
theorem dX3_cutMolten_23 : decode cX3_cutMolten 23 = .ok (.iload_n 3, 1) := by decide +kernel
theorem dX3_cutMolten_24 : decode cX3_cutMolten 24 = .ok (.iconst 1, 1) := by decide +kernel
theorem dX3_cutMolten_25 : decode cX3_cutMolten 25 = .ok (.invokevirtual 181, 3) := by decide +kernel
theorem dX3_cutMolten_28 : decode cX3_cutMolten 28 = .ok (.iconst 1, 1) := by decide +kernel
theorem dX3_cutMolten_29 : decode cX3_cutMolten 29 = .ok (.istore_n 2, 1) := by decide +kernel
theorem dX3_cutMolten_30 : decode cX3_cutMolten 30 = .ok (.iinc 3 1, 3) := by decide +kernel
theorem dX3_cutMolten_33 : decode cX3_cutMolten 33 = .ok (.goto (-29), 3) := by decide +kernel
theorem dX3_cutMolten_36 : decode cX3_cutMolten 36 = .ok (.iload_n 2, 1) := by decide +kernel
theorem dX3_cutMolten_37 : decode cX3_cutMolten 37 = .ok (.ireturn, 1) := by decide +kernel
theorem dX3_takeAway_0 : decode cX3_takeAway 0 = .ok (.aload_n 0, 1) := by decide +kernel
theorem dX3_takeAway_1 : decode cX3_takeAway 1 = .ok (.dup, 1) := by decide +kernel
theorem dX3_takeAway_2 : decode cX3_takeAway 2 = .ok (.getfield 40, 3) := by decide +kernel
theorem dX3_takeAway_5 : decode cX3_takeAway 5 = .ok (.aload_n 0, 1) := by decide +kernel
theorem dX3_takeAway_6 : decode cX3_takeAway 6 = .ok (.getfield 50, 3) := by decide +kernel
theorem dX3_takeAway_9 : decode cX3_takeAway 9 = .ok (.iload_n 1, 1) := by decide +kernel
theorem dX3_takeAway_10 : decode cX3_takeAway 10 = .ok (.iaload, 1) := by decide +kernel
theorem dX3_takeAway_11 : decode cX3_takeAway 11 = .ok (.i2l, 1) := by decide +kernel
theorem dX3_takeAway_12 : decode cX3_takeAway 12 = .ok (.ladd, 1) := by decide +kernel
theorem dX3_takeAway_13 : decode cX3_takeAway 13 = .ok (.putfield 40, 3) := by decide +kernel
theorem dX3_takeAway_16 : decode cX3_takeAway 16 = .ok (.aload_n 0, 1) := by decide +kernel
theorem dX3_takeAway_17 : decode cX3_takeAway 17 = .ok (.getfield 50, 3) := by decide +kernel
theorem dX3_takeAway_20 : decode cX3_takeAway 20 = .ok (.iload_n 1, 1) := by decide +kernel
theorem dX3_takeAway_21 : decode cX3_takeAway 21 = .ok (.iconst 0, 1) := by decide +kernel
theorem dX3_takeAway_22 : decode cX3_takeAway 22 = .ok (.iastore, 1) := by decide +kernel
theorem dX3_takeAway_23 : decode cX3_takeAway 23 = .ok (.aload_n 0, 1) := by decide +kernel
theorem dX3_takeAway_24 : decode cX3_takeAway 24 = .ok (.getfield 54, 3) := by decide +kernel
theorem dX3_takeAway_27 : decode cX3_takeAway 27 = .ok (.iload_n 1, 1) := by decide +kernel
theorem dX3_takeAway_28 : decode cX3_takeAway 28 = .ok (.iload_n 2, 1) := by decide +kernel
theorem dX3_takeAway_29 : decode cX3_takeAway 29 = .ok (.iastore, 1) := by decide +kernel
theorem dX3_takeAway_30 : decode cX3_takeAway 30 = .ok (.return_, 1) := by decide +kernel
theorem dX3_burnHot_0 : decode cX3_burnHot 0 = .ok (.iconst 0, 1) := by decide +kernel
theorem dX3_burnHot_1 : decode cX3_burnHot 1 = .ok (.istore_n 2, 1) := by decide +kernel
theorem dX3_burnHot_2 : decode cX3_burnHot 2 = .ok (.iload_n 2, 1) := by decide +kernel
theorem dX3_burnHot_3 : decode cX3_burnHot 3 = .ok (.aload_n 0, 1) := by decide +kernel
theorem dX3_burnHot_4 : decode cX3_burnHot 4 = .ok (.getfield 18, 3) := by decide +kernel
theorem dX3_burnHot_7 : decode cX3_burnHot 7 = .ok (.if_icmp .ge 26, 3) := by decide +kernel
theorem dX3_burnHot_10 : decode cX3_burnHot 10 = .ok (.aload_n 0, 1) := by decide +kernel
theorem dX3_burnHot_11 : decode cX3_burnHot 11 = .ok (.getfield 50, 3) := by decide +kernel
theorem dX3_burnHot_14 : decode cX3_burnHot 14 = .ok (.iload_n 2, 1) := by decide +kernel
theorem dX3_burnHot_15 : decode cX3_burnHot 15 = .ok (.iaload, 1) := by decide +kernel
theorem dX3_burnHot_16 : decode cX3_burnHot 16 = .ok (.iload_n 1, 1) := by decide +kernel
theorem dX3_burnHot_17 : decode cX3_burnHot 17 = .ok (.if_icmp .lt 10, 3) := by decide +kernel
theorem dX3_burnHot_20 : decode cX3_burnHot 20 = .ok (.aload_n 0, 1) := by decide +kernel
theorem dX3_burnHot_21 : decode cX3_burnHot 21 = .ok (.getfield 57, 3) := by decide +kernel
theorem dX3_burnHot_24 : decode cX3_burnHot 24 = .ok (.iload_n 2, 1) := by decide +kernel
theorem dX3_burnHot_25 : decode cX3_burnHot 25 = .ok (.iconst 1, 1) := by decide +kernel
theorem dX3_burnHot_26 : decode cX3_burnHot 26 = .ok (.iastore, 1) := by decide +kernel
theorem dX3_burnHot_27 : decode cX3_burnHot 27 = .ok (.iinc 2 1, 3) := by decide +kernel
theorem dX3_burnHot_30 : decode cX3_burnHot 30 = .ok (.goto (-28), 3) := by decide +kernel
theorem dX3_burnHot_33 : decode cX3_burnHot 33 = .ok (.return_, 1) := by decide +kernel
theorem dX3_loosenParts_0 : decode cX3_loosenParts 0 = .ok (.aload_n 0, 1) := by decide +kernel
theorem dX3_loosenParts_1 : decode cX3_loosenParts 1 = .ok (.getfield 72, 3) := by decide +kernel
theorem dX3_loosenParts_4 : decode cX3_loosenParts 4 = .ok (.invokevirtual 185, 3) := by decide +kernel
theorem dX3_loosenParts_7 : decode cX3_loosenParts 7 = .ok (.iconst 0, 1) := by decide +kernel
theorem dX3_loosenParts_8 : decode cX3_loosenParts 8 = .ok (.istore_n 2, 1) := by decide +kernel
theorem dX3_loosenParts_9 : decode cX3_loosenParts 9 = .ok (.iload_n 2, 1) := by decide +kernel
theorem dX3_loosenParts_10 : decode cX3_loosenParts 10 = .ok (.aload_n 0, 1) := by decide +kernel
theorem dX3_loosenParts_11 : decode cX3_loosenParts 11 = .ok (.getfield 18, 3) := by decide +kernel
theorem dX3_loosenParts_14 : decode cX3_loosenParts 14 = .ok (.if_icmp .ge 33, 3) := by decide +kernel
theorem dX3_loosenParts_17 : decode cX3_loosenParts 17 = .ok (.aload_n 0, 1) := by decide +kernel
theorem dX3_loosenParts_18 : decode cX3_loosenParts 18 = .ok (.getfield 72, 3) := by decide +kernel
theorem dX3_loosenParts_21 : decode cX3_loosenParts 21 = .ok (.aload_n 0, 1) := by decide +kernel
theorem dX3_loosenParts_22 : decode cX3_loosenParts 22 = .ok (.iload_n 2, 1) := by decide +kernel
theorem dX3_loosenParts_23 : decode cX3_loosenParts 23 = .ok (.invokevirtual 188, 3) := by decide +kernel
theorem dX3_loosenParts_26 : decode cX3_loosenParts 26 = .ok (.aload_n 0, 1) := by decide +kernel
theorem dX3_loosenParts_27 : decode cX3_loosenParts 27 = .ok (.getfield 72, 3) := by decide +kernel
theorem dX3_loosenParts_30 : decode cX3_loosenParts 30 = .ok (.getfield 192, 3) := by decide +kernel
theorem dX3_loosenParts_33 : decode cX3_loosenParts 33 = .ok (.ifCond .ne 8, 3) := by decide +kernel
theorem dX3_loosenParts_36 : decode cX3_loosenParts 36 = .ok (.aload_n 0, 1) := by decide +kernel
theorem dX3_loosenParts_37 : decode cX3_loosenParts 37 = .ok (.aload_n 1, 1) := by decide +kernel
theorem dX3_loosenParts_38 : decode cX3_loosenParts 38 = .ok (.invokevirtual 195, 3) := by decide +kernel
theorem dX3_loosenParts_41 : decode cX3_loosenParts 41 = .ok (.iinc 2 1, 3) := by decide +kernel
theorem dX3_loosenParts_44 : decode cX3_loosenParts 44 = .ok (.goto (-35), 3) := by decide +kernel
theorem dX3_loosenParts_47 : decode cX3_loosenParts 47 = .ok (.return_, 1) := by decide +kernel
theorem dX3_settlePart_0 : decode cX3_settlePart 0 = .ok (.iconst 0, 1) := by decide +kernel
theorem dX3_settlePart_1 : decode cX3_settlePart 1 = .ok (.istore_n 2, 1) := by decide +kernel
theorem dX3_settlePart_2 : decode cX3_settlePart 2 = .ok (.iconst 0, 1) := by decide +kernel
theorem dX3_settlePart_3 : decode cX3_settlePart 3 = .ok (.istore_n 3, 1) := by decide +kernel
theorem dX3_settlePart_4 : decode cX3_settlePart 4 = .ok (.iconst 0, 1) := by decide +kernel
theorem dX3_settlePart_5 : decode cX3_settlePart 5 = .ok (.istore 4, 2) := by decide +kernel
theorem dX3_settlePart_7 : decode cX3_settlePart 7 = .ok (.iconst 0, 1) := by decide +kernel
theorem dX3_settlePart_8 : decode cX3_settlePart 8 = .ok (.istore 5, 2) := by decide +kernel
theorem dX3_settlePart_10 : decode cX3_settlePart 10 = .ok (.iload 5, 2) := by decide +kernel
theorem dX3_settlePart_12 : decode cX3_settlePart 12 = .ok (.aload_n 0, 1) := by decide +kernel
theorem dX3_settlePart_13 : decode cX3_settlePart 13 = .ok (.getfield 72, 3) := by decide +kernel
theorem dX3_settlePart_16 : decode cX3_settlePart 16 = .ok (.getfield 198, 3) := by decide +kernel
theorem dX3_settlePart_19 : decode cX3_settlePart 19 = .ok (.if_icmp .ge 106, 3) := by decide +kernel
theorem dX3_settlePart_22 : decode cX3_settlePart 22 = .ok (.aload_n 0, 1) := by decide +kernel
theorem dX3_settlePart_23 : decode cX3_settlePart 23 = .ok (.getfield 11, 3) := by decide +kernel
theorem dX3_settlePart_26 : decode cX3_settlePart 26 = .ok (.ifCond .le 99, 3) := by decide +kernel
theorem dX3_settlePart_29 : decode cX3_settlePart 29 = .ok (.aload_n 0, 1) := by decide +kernel
theorem dX3_settlePart_30 : decode cX3_settlePart 30 = .ok (.getfield 72, 3) := by decide +kernel
theorem dX3_settlePart_33 : decode cX3_settlePart 33 = .ok (.getfield 201, 3) := by decide +kernel
theorem dX3_settlePart_36 : decode cX3_settlePart 36 = .ok (.iload 5, 2) := by decide +kernel
theorem dX3_settlePart_38 : decode cX3_settlePart 38 = .ok (.iaload, 1) := by decide +kernel
theorem dX3_settlePart_39 : decode cX3_settlePart 39 = .ok (.aload_n 0, 1) := by decide +kernel
theorem dX3_settlePart_40 : decode cX3_settlePart 40 = .ok (.getfield 11, 3) := by decide +kernel
theorem dX3_settlePart_43 : decode cX3_settlePart 43 = .ok (.irem, 1) := by decide +kernel
theorem dX3_settlePart_44 : decode cX3_settlePart 44 = .ok (.istore 6, 2) := by decide +kernel
theorem dX3_settlePart_46 : decode cX3_settlePart 46 = .ok (.aload_n 1, 1) := by decide +kernel
theorem dX3_settlePart_47 : decode cX3_settlePart 47 = .ok (.iload 6, 2) := by decide +kernel
theorem dX3_settlePart_49 : decode cX3_settlePart 49 = .ok (.invokevirtual 204, 3) := by decide +kernel
theorem dX3_settlePart_52 : decode cX3_settlePart 52 = .ok (.ifCond .eq 67, 3) := by decide +kernel
theorem dX3_settlePart_55 : decode cX3_settlePart 55 = .ok (.iconst 1, 1) := by decide +kernel
theorem dX3_settlePart_56 : decode cX3_settlePart 56 = .ok (.istore_n 2, 1) := by decide +kernel
theorem dX3_settlePart_57 : decode cX3_settlePart 57 = .ok (.iload_n 3, 1) := by decide +kernel
theorem dX3_settlePart_58 : decode cX3_settlePart 58 = .ok (.ifCond .ne 23, 3) := by decide +kernel
theorem dX3_settlePart_61 : decode cX3_settlePart 61 = .ok (.iload 6, 2) := by decide +kernel
theorem dX3_settlePart_63 : decode cX3_settlePart 63 = .ok (.aload_n 0, 1) := by decide +kernel
theorem dX3_settlePart_64 : decode cX3_settlePart 64 = .ok (.getfield 72, 3) := by decide +kernel
theorem dX3_settlePart_67 : decode cX3_settlePart 67 = .ok (.getfield 198, 3) := by decide +kernel
theorem dX3_settlePart_70 : decode cX3_settlePart 70 = .ok (.imul, 1) := by decide +kernel
theorem dX3_settlePart_71 : decode cX3_settlePart 71 = .ok (.aload_n 0, 1) := by decide +kernel
theorem dX3_settlePart_72 : decode cX3_settlePart 72 = .ok (.getfield 72, 3) := by decide +kernel
theorem dX3_settlePart_75 : decode cX3_settlePart 75 = .ok (.getfield 207, 3) := by decide +kernel
theorem dX3_settlePart_78 : decode cX3_settlePart 78 = .ok (.if_icmp .gt 7, 3) := by decide +kernel
theorem dX3_settlePart_81 : decode cX3_settlePart 81 = .ok (.iconst 1, 1) := by decide +kernel
theorem dX3_settlePart_82 : decode cX3_settlePart 82 = .ok (.goto 4, 3) := by decide +kernel
theorem dX3_settlePart_85 : decode cX3_settlePart 85 = .ok (.iconst 0, 1) := by decide +kernel
theorem dX3_settlePart_86 : decode cX3_settlePart 86 = .ok (.istore_n 3, 1) := by decide +kernel
theorem dX3_settlePart_87 : decode cX3_settlePart 87 = .ok (.iload 4, 2) := by decide +kernel
theorem dX3_settlePart_89 : decode cX3_settlePart 89 = .ok (.ifCond .ne 23, 3) := by decide +kernel
theorem dX3_settlePart_92 : decode cX3_settlePart 92 = .ok (.iload 6, 2) := by decide +kernel
theorem dX3_settlePart_94 : decode cX3_settlePart 94 = .ok (.aload_n 0, 1) := by decide +kernel
theorem dX3_settlePart_95 : decode cX3_settlePart 95 = .ok (.getfield 72, 3) := by decide +kernel
theorem dX3_settlePart_98 : decode cX3_settlePart 98 = .ok (.getfield 198, 3) := by decide +kernel
theorem dX3_settlePart_101 : decode cX3_settlePart 101 = .ok (.imul, 1) := by decide +kernel
theorem dX3_settlePart_102 : decode cX3_settlePart 102 = .ok (.aload_n 0, 1) := by decide +kernel
theorem dX3_settlePart_103 : decode cX3_settlePart 103 = .ok (.getfield 72, 3) := by decide +kernel
theorem dX3_settlePart_106 : decode cX3_settlePart 106 = .ok (.getfield 207, 3) := by decide +kernel
theorem dX3_settlePart_109 : decode cX3_settlePart 109 = .ok (.if_icmp .lt 7, 3) := by decide +kernel
theorem dX3_settlePart_112 : decode cX3_settlePart 112 = .ok (.iconst 1, 1) := by decide +kernel
theorem dX3_settlePart_113 : decode cX3_settlePart 113 = .ok (.goto 4, 3) := by decide +kernel
theorem dX3_settlePart_116 : decode cX3_settlePart 116 = .ok (.iconst 0, 1) := by decide +kernel
theorem dX3_settlePart_117 : decode cX3_settlePart 117 = .ok (.istore 4, 2) := by decide +kernel
theorem dX3_settlePart_119 : decode cX3_settlePart 119 = .ok (.iinc 5 1, 3) := by decide +kernel
theorem dX3_settlePart_122 : decode cX3_settlePart 122 = .ok (.goto (-112), 3) := by decide +kernel
theorem dX3_settlePart_125 : decode cX3_settlePart 125 = .ok (.iconst 0, 1) := by decide +kernel
theorem dX3_settlePart_126 : decode cX3_settlePart 126 = .ok (.istore 5, 2) := by decide +kernel
theorem dX3_settlePart_128 : decode cX3_settlePart 128 = .ok (.iload 5, 2) := by decide +kernel
theorem dX3_settlePart_130 : decode cX3_settlePart 130 = .ok (.aload_n 0, 1) := by decide +kernel
theorem dX3_settlePart_131 : decode cX3_settlePart 131 = .ok (.getfield 72, 3) := by decide +kernel
theorem dX3_settlePart_134 : decode cX3_settlePart 134 = .ok (.getfield 198, 3) := by decide +kernel
theorem dX3_settlePart_137 : decode cX3_settlePart 137 = .ok (.if_icmp .ge 56, 3) := by decide +kernel
theorem dX3_settlePart_140 : decode cX3_settlePart 140 = .ok (.iload_n 2, 1) := by decide +kernel
theorem dX3_settlePart_141 : decode cX3_settlePart 141 = .ok (.ifCond .ne 21, 3) := by decide +kernel
theorem dX3_settlePart_144 : decode cX3_settlePart 144 = .ok (.aload_n 0, 1) := by decide +kernel
theorem dX3_settlePart_145 : decode cX3_settlePart 145 = .ok (.aload_n 0, 1) := by decide +kernel
theorem dX3_settlePart_146 : decode cX3_settlePart 146 = .ok (.getfield 72, 3) := by decide +kernel
theorem dX3_settlePart_149 : decode cX3_settlePart 149 = .ok (.getfield 201, 3) := by decide +kernel
theorem dX3_settlePart_152 : decode cX3_settlePart 152 = .ok (.iload 5, 2) := by decide +kernel
theorem dX3_settlePart_154 : decode cX3_settlePart 154 = .ok (.iaload, 1) := by decide +kernel
theorem dX3_settlePart_155 : decode cX3_settlePart 155 = .ok (.iconst 2, 1) := by decide +kernel
theorem dX3_settlePart_156 : decode cX3_settlePart 156 = .ok (.invokevirtual 181, 3) := by decide +kernel
theorem dX3_settlePart_159 : decode cX3_settlePart 159 = .ok (.goto 28, 3) := by decide +kernel
theorem dX3_settlePart_162 : decode cX3_settlePart 162 = .ok (.iload_n 3, 1) := by decide +kernel
theorem dX3_settlePart_163 : decode cX3_settlePart 163 = .ok (.ifCond .eq 8, 3) := by decide +kernel
theorem dX3_settlePart_166 : decode cX3_settlePart 166 = .ok (.iload 4, 2) := by decide +kernel
theorem dX3_settlePart_168 : decode cX3_settlePart 168 = .ok (.ifCond .ne 19, 3) := by decide +kernel
theorem dX3_settlePart_171 : decode cX3_settlePart 171 = .ok (.aload_n 0, 1) := by decide +kernel
theorem dX3_settlePart_172 : decode cX3_settlePart 172 = .ok (.getfield 60, 3) := by decide +kernel
theorem dX3_settlePart_175 : decode cX3_settlePart 175 = .ok (.aload_n 0, 1) := by decide +kernel
theorem dX3_settlePart_176 : decode cX3_settlePart 176 = .ok (.getfield 72, 3) := by decide +kernel
theorem dX3_settlePart_179 : decode cX3_settlePart 179 = .ok (.getfield 201, 3) := by decide +kernel
theorem dX3_settlePart_182 : decode cX3_settlePart 182 = .ok (.iload 5, 2) := by decide +kernel
theorem dX3_settlePart_184 : decode cX3_settlePart 184 = .ok (.iaload, 1) := by decide +kernel
theorem dX3_settlePart_185 : decode cX3_settlePart 185 = .ok (.iconst 1, 1) := by decide +kernel
theorem dX3_settlePart_186 : decode cX3_settlePart 186 = .ok (.iastore, 1) := by decide +kernel
theorem dX3_settlePart_187 : decode cX3_settlePart 187 = .ok (.iinc 5 1, 3) := by decide +kernel
theorem dX3_settlePart_190 : decode cX3_settlePart 190 = .ok (.goto (-62), 3) := by decide +kernel
theorem dX3_settlePart_193 : decode cX3_settlePart 193 = .ok (.return_, 1) := by decide +kernel
theorem dX3_condition_0 : decode cX3_condition 0 = .ok (.aload_n 0, 1) := by decide +kernel
theorem dX3_condition_1 : decode cX3_condition 1 = .ok (.getfield 54, 3) := by decide +kernel
theorem dX3_condition_4 : decode cX3_condition 4 = .ok (.iload_n 1, 1) := by decide +kernel
theorem dX3_condition_5 : decode cX3_condition 5 = .ok (.iaload, 1) := by decide +kernel
theorem dX3_condition_6 : decode cX3_condition 6 = .ok (.ifCond .ne 16, 3) := by decide +kernel
theorem dX3_condition_9 : decode cX3_condition 9 = .ok (.aload_n 0, 1) := by decide +kernel
theorem dX3_condition_10 : decode cX3_condition 10 = .ok (.getfield 60, 3) := by decide +kernel
theorem dX3_condition_13 : decode cX3_condition 13 = .ok (.iload_n 1, 1) := by decide +kernel
theorem dX3_condition_14 : decode cX3_condition 14 = .ok (.iaload, 1) := by decide +kernel
theorem dX3_condition_15 : decode cX3_condition 15 = .ok (.ifCond .eq 7, 3) := by decide +kernel
theorem dX3_condition_18 : decode cX3_condition 18 = .ok (.iconst 3, 1) := by decide +kernel
theorem dX3_condition_19 : decode cX3_condition 19 = .ok (.goto 9, 3) := by decide +kernel
theorem dX3_condition_22 : decode cX3_condition 22 = .ok (.aload_n 0, 1) := by decide +kernel
theorem dX3_condition_23 : decode cX3_condition 23 = .ok (.getfield 54, 3) := by decide +kernel
theorem dX3_condition_26 : decode cX3_condition 26 = .ok (.iload_n 1, 1) := by decide +kernel
theorem dX3_condition_27 : decode cX3_condition 27 = .ok (.iaload, 1) := by decide +kernel
theorem dX3_condition_28 : decode cX3_condition 28 = .ok (.ireturn, 1) := by decide +kernel
theorem dX3_countState_0 : decode cX3_countState 0 = .ok (.iconst 0, 1) := by decide +kernel
theorem dX3_countState_1 : decode cX3_countState 1 = .ok (.istore_n 2, 1) := by decide +kernel
theorem dX3_countState_2 : decode cX3_countState 2 = .ok (.iconst 0, 1) := by decide +kernel
theorem dX3_countState_3 : decode cX3_countState 3 = .ok (.istore_n 3, 1) := by decide +kernel
theorem dX3_countState_4 : decode cX3_countState 4 = .ok (.iload_n 3, 1) := by decide +kernel
theorem dX3_countState_5 : decode cX3_countState 5 = .ok (.aload_n 0, 1) := by decide +kernel
theorem dX3_countState_6 : decode cX3_countState 6 = .ok (.getfield 18, 3) := by decide +kernel
theorem dX3_countState_9 : decode cX3_countState 9 = .ok (.if_icmp .ge 27, 3) := by decide +kernel
theorem dX3_countState_12 : decode cX3_countState 12 = .ok (.iload_n 2, 1) := by decide +kernel
theorem dX3_countState_13 : decode cX3_countState 13 = .ok (.aload_n 0, 1) := by decide +kernel
theorem dX3_countState_14 : decode cX3_countState 14 = .ok (.getfield 54, 3) := by decide +kernel
theorem dX3_countState_17 : decode cX3_countState 17 = .ok (.iload_n 3, 1) := by decide +kernel
theorem dX3_countState_18 : decode cX3_countState 18 = .ok (.iaload, 1) := by decide +kernel
theorem dX3_countState_19 : decode cX3_countState 19 = .ok (.iload_n 1, 1) := by decide +kernel
theorem dX3_countState_20 : decode cX3_countState 20 = .ok (.if_icmp .ne 7, 3) := by decide +kernel
theorem dX3_countState_23 : decode cX3_countState 23 = .ok (.iconst 1, 1) := by decide +kernel
theorem dX3_countState_24 : decode cX3_countState 24 = .ok (.goto 4, 3) := by decide +kernel
theorem dX3_countState_27 : decode cX3_countState 27 = .ok (.iconst 0, 1) := by decide +kernel
theorem dX3_countState_28 : decode cX3_countState 28 = .ok (.iadd, 1) := by decide +kernel
theorem dX3_countState_29 : decode cX3_countState 29 = .ok (.istore_n 2, 1) := by decide +kernel
theorem dX3_countState_30 : decode cX3_countState 30 = .ok (.iinc 3 1, 3) := by decide +kernel
theorem dX3_countState_33 : decode cX3_countState 33 = .ok (.goto (-29), 3) := by decide +kernel
theorem dX3_countState_36 : decode cX3_countState 36 = .ok (.iload_n 2, 1) := by decide +kernel
theorem dX3_countState_37 : decode cX3_countState 37 = .ok (.ireturn, 1) := by decide +kernel
theorem dX3_countTipped_0 : decode cX3_countTipped 0 = .ok (.iconst 0, 1) := by decide +kernel
theorem dX3_countTipped_1 : decode cX3_countTipped 1 = .ok (.istore_n 1, 1) := by decide +kernel
theorem dX3_countTipped_2 : decode cX3_countTipped 2 = .ok (.iconst 0, 1) := by decide +kernel
theorem dX3_countTipped_3 : decode cX3_countTipped 3 = .ok (.istore_n 2, 1) := by decide +kernel
theorem dX3_countTipped_4 : decode cX3_countTipped 4 = .ok (.iload_n 2, 1) := by decide +kernel
theorem dX3_countTipped_5 : decode cX3_countTipped 5 = .ok (.aload_n 0, 1) := by decide +kernel
theorem dX3_countTipped_6 : decode cX3_countTipped 6 = .ok (.getfield 18, 3) := by decide +kernel
theorem dX3_countTipped_9 : decode cX3_countTipped 9 = .ok (.if_icmp .ge 18, 3) := by decide +kernel
theorem dX3_countTipped_12 : decode cX3_countTipped 12 = .ok (.iload_n 1, 1) := by decide +kernel
theorem dX3_countTipped_13 : decode cX3_countTipped 13 = .ok (.aload_n 0, 1) := by decide +kernel
theorem dX3_countTipped_14 : decode cX3_countTipped 14 = .ok (.getfield 60, 3) := by decide +kernel
theorem dX3_countTipped_17 : decode cX3_countTipped 17 = .ok (.iload_n 2, 1) := by decide +kernel
theorem dX3_countTipped_18 : decode cX3_countTipped 18 = .ok (.iaload, 1) := by decide +kernel
theorem dX3_countTipped_19 : decode cX3_countTipped 19 = .ok (.iadd, 1) := by decide +kernel
theorem dX3_countTipped_20 : decode cX3_countTipped 20 = .ok (.istore_n 1, 1) := by decide +kernel
theorem dX3_countTipped_21 : decode cX3_countTipped 21 = .ok (.iinc 2 1, 3) := by decide +kernel
theorem dX3_countTipped_24 : decode cX3_countTipped 24 = .ok (.goto (-20), 3) := by decide +kernel
theorem dX3_countTipped_27 : decode cX3_countTipped 27 = .ok (.iload_n 1, 1) := by decide +kernel
theorem dX3_countTipped_28 : decode cX3_countTipped 28 = .ok (.ireturn, 1) := by decide +kernel
theorem dX3_countBurntThere_0 : decode cX3_countBurntThere 0 = .ok (.iconst 0, 1) := by decide +kernel
theorem dX3_countBurntThere_1 : decode cX3_countBurntThere 1 = .ok (.istore_n 1, 1) := by decide +kernel
theorem dX3_countBurntThere_2 : decode cX3_countBurntThere 2 = .ok (.iconst 0, 1) := by decide +kernel
theorem dX3_countBurntThere_3 : decode cX3_countBurntThere 3 = .ok (.istore_n 2, 1) := by decide +kernel
theorem dX3_countBurntThere_4 : decode cX3_countBurntThere 4 = .ok (.iload_n 2, 1) := by decide +kernel
theorem dX3_countBurntThere_5 : decode cX3_countBurntThere 5 = .ok (.aload_n 0, 1) := by decide +kernel
theorem dX3_countBurntThere_6 : decode cX3_countBurntThere 6 = .ok (.getfield 18, 3) := by decide +kernel
theorem dX3_countBurntThere_9 : decode cX3_countBurntThere 9 = .ok (.if_icmp .ge 31, 3) := by decide +kernel
theorem dX3_countBurntThere_12 : decode cX3_countBurntThere 12 = .ok (.iload_n 1, 1) := by decide +kernel
theorem dX3_countBurntThere_13 : decode cX3_countBurntThere 13 = .ok (.aload_n 0, 1) := by decide +kernel
theorem dX3_countBurntThere_14 : decode cX3_countBurntThere 14 = .ok (.getfield 54, 3) := by decide +kernel
theorem dX3_countBurntThere_17 : decode cX3_countBurntThere 17 = .ok (.iload_n 2, 1) := by decide +kernel
theorem dX3_countBurntThere_18 : decode cX3_countBurntThere 18 = .ok (.iaload, 1) := by decide +kernel
theorem dX3_countBurntThere_19 : decode cX3_countBurntThere 19 = .ok (.ifCond .ne 12, 3) := by decide +kernel
theorem dX3_countBurntThere_22 : decode cX3_countBurntThere 22 = .ok (.aload_n 0, 1) := by decide +kernel
theorem dX3_countBurntThere_23 : decode cX3_countBurntThere 23 = .ok (.getfield 57, 3) := by decide +kernel
theorem dX3_countBurntThere_26 : decode cX3_countBurntThere 26 = .ok (.iload_n 2, 1) := by decide +kernel
theorem dX3_countBurntThere_27 : decode cX3_countBurntThere 27 = .ok (.iaload, 1) := by decide +kernel
theorem dX3_countBurntThere_28 : decode cX3_countBurntThere 28 = .ok (.goto 4, 3) := by decide +kernel
theorem dX3_countBurntThere_31 : decode cX3_countBurntThere 31 = .ok (.iconst 0, 1) := by decide +kernel
theorem dX3_countBurntThere_32 : decode cX3_countBurntThere 32 = .ok (.iadd, 1) := by decide +kernel
theorem dX3_countBurntThere_33 : decode cX3_countBurntThere 33 = .ok (.istore_n 1, 1) := by decide +kernel
theorem dX3_countBurntThere_34 : decode cX3_countBurntThere 34 = .ok (.iinc 2 1, 3) := by decide +kernel
theorem dX3_countBurntThere_37 : decode cX3_countBurntThere 37 = .ok (.goto (-33), 3) := by decide +kernel
theorem dX3_countBurntThere_40 : decode cX3_countBurntThere 40 = .ok (.iload_n 1, 1) := by decide +kernel
theorem dX3_countBurntThere_41 : decode cX3_countBurntThere 41 = .ok (.ireturn, 1) := by decide +kernel
theorem dX3_countParts_0 : decode cX3_countParts 0 = .ok (.iconst 0, 1) := by decide +kernel
theorem dX3_countParts_1 : decode cX3_countParts 1 = .ok (.istore_n 2, 1) := by decide +kernel
theorem dX3_countParts_2 : decode cX3_countParts 2 = .ok (.aload_n 0, 1) := by decide +kernel
theorem dX3_countParts_3 : decode cX3_countParts 3 = .ok (.getfield 72, 3) := by decide +kernel
theorem dX3_countParts_6 : decode cX3_countParts 6 = .ok (.invokevirtual 185, 3) := by decide +kernel
theorem dX3_countParts_9 : decode cX3_countParts 9 = .ok (.iconst 0, 1) := by decide +kernel
theorem dX3_countParts_10 : decode cX3_countParts 10 = .ok (.istore_n 3, 1) := by decide +kernel
theorem dX3_countParts_11 : decode cX3_countParts 11 = .ok (.iload_n 3, 1) := by decide +kernel
theorem dX3_countParts_12 : decode cX3_countParts 12 = .ok (.aload_n 0, 1) := by decide +kernel
theorem dX3_countParts_13 : decode cX3_countParts 13 = .ok (.getfield 18, 3) := by decide +kernel
theorem dX3_countParts_16 : decode cX3_countParts 16 = .ok (.if_icmp .ge 45, 3) := by decide +kernel
theorem dX3_countParts_19 : decode cX3_countParts 19 = .ok (.aload_n 0, 1) := by decide +kernel
theorem dX3_countParts_20 : decode cX3_countParts 20 = .ok (.getfield 72, 3) := by decide +kernel
theorem dX3_countParts_23 : decode cX3_countParts 23 = .ok (.aload_n 0, 1) := by decide +kernel
theorem dX3_countParts_24 : decode cX3_countParts 24 = .ok (.iload_n 3, 1) := by decide +kernel
theorem dX3_countParts_25 : decode cX3_countParts 25 = .ok (.invokevirtual 188, 3) := by decide +kernel
theorem dX3_countParts_28 : decode cX3_countParts 28 = .ok (.aload_n 0, 1) := by decide +kernel
theorem dX3_countParts_29 : decode cX3_countParts 29 = .ok (.getfield 72, 3) := by decide +kernel
theorem dX3_countParts_32 : decode cX3_countParts 32 = .ok (.getfield 198, 3) := by decide +kernel
theorem dX3_countParts_35 : decode cX3_countParts 35 = .ok (.ifCond .le 20, 3) := by decide +kernel
theorem dX3_countParts_38 : decode cX3_countParts 38 = .ok (.iload_n 1, 1) := by decide +kernel
theorem dX3_countParts_39 : decode cX3_countParts 39 = .ok (.ifCond .eq 13, 3) := by decide +kernel
theorem dX3_countParts_42 : decode cX3_countParts 42 = .ok (.aload_n 0, 1) := by decide +kernel
theorem dX3_countParts_43 : decode cX3_countParts 43 = .ok (.getfield 72, 3) := by decide +kernel
theorem dX3_countParts_46 : decode cX3_countParts 46 = .ok (.getfield 192, 3) := by decide +kernel
theorem dX3_countParts_49 : decode cX3_countParts 49 = .ok (.ifCond .ne 6, 3) := by decide +kernel
theorem dX3_countParts_52 : decode cX3_countParts 52 = .ok (.iinc 2 1, 3) := by decide +kernel
theorem dX3_countParts_55 : decode cX3_countParts 55 = .ok (.iinc 3 1, 3) := by decide +kernel
theorem dX3_countParts_58 : decode cX3_countParts 58 = .ok (.goto (-47), 3) := by decide +kernel
theorem dX3_countParts_61 : decode cX3_countParts 61 = .ok (.iload_n 2, 1) := by decide +kernel
theorem dX3_countParts_62 : decode cX3_countParts 62 = .ok (.ireturn, 1) := by decide +kernel
theorem dX3_partAt_0 : decode cX3_partAt 0 = .ok (.aload_n 0, 1) := by decide +kernel
theorem dX3_partAt_1 : decode cX3_partAt 1 = .ok (.getfield 72, 3) := by decide +kernel
theorem dX3_partAt_4 : decode cX3_partAt 4 = .ok (.invokevirtual 185, 3) := by decide +kernel
theorem dX3_partAt_7 : decode cX3_partAt 7 = .ok (.aload_n 0, 1) := by decide +kernel
theorem dX3_partAt_8 : decode cX3_partAt 8 = .ok (.getfield 72, 3) := by decide +kernel
theorem dX3_partAt_11 : decode cX3_partAt 11 = .ok (.aload_n 0, 1) := by decide +kernel
theorem dX3_partAt_12 : decode cX3_partAt 12 = .ok (.iload_n 1, 1) := by decide +kernel
theorem dX3_partAt_13 : decode cX3_partAt 13 = .ok (.invokevirtual 188, 3) := by decide +kernel
theorem dX3_partAt_16 : decode cX3_partAt 16 = .ok (.aload_n 0, 1) := by decide +kernel
theorem dX3_partAt_17 : decode cX3_partAt 17 = .ok (.getfield 72, 3) := by decide +kernel
theorem dX3_partAt_20 : decode cX3_partAt 20 = .ok (.areturn, 1) := by decide +kernel
theorem dX3_bridge_0 : decode cX3_bridge 0 = .ok (.aload_n 0, 1) := by decide +kernel
theorem dX3_bridge_1 : decode cX3_bridge 1 = .ok (.iload_n 1, 1) := by decide +kernel
theorem dX3_bridge_2 : decode cX3_bridge 2 = .ok (.invokevirtual 210, 3) := by decide +kernel
theorem dX3_bridge_5 : decode cX3_bridge 5 = .ok (.pop, 1) := by decide +kernel
theorem dX3_bridge_6 : decode cX3_bridge 6 = .ok (.aload_n 0, 1) := by decide +kernel
theorem dX3_bridge_7 : decode cX3_bridge 7 = .ok (.getfield 66, 3) := by decide +kernel
theorem dX3_bridge_10 : decode cX3_bridge 10 = .ok (.sipush 192, 3) := by decide +kernel
theorem dX3_bridge_13 : decode cX3_bridge 13 = .ok (.invokestatic 85, 3) := by decide +kernel
theorem dX3_bridge_16 : decode cX3_bridge 16 = .ok (.iconst 0, 1) := by decide +kernel
theorem dX3_bridge_17 : decode cX3_bridge 17 = .ok (.istore_n 2, 1) := by decide +kernel
theorem dX3_bridge_18 : decode cX3_bridge 18 = .ok (.iload_n 2, 1) := by decide +kernel
theorem dX3_bridge_19 : decode cX3_bridge 19 = .ok (.aload_n 0, 1) := by decide +kernel
theorem dX3_bridge_20 : decode cX3_bridge 20 = .ok (.getfield 72, 3) := by decide +kernel
theorem dX3_bridge_23 : decode cX3_bridge 23 = .ok (.getfield 198, 3) := by decide +kernel
theorem dX3_bridge_26 : decode cX3_bridge 26 = .ok (.if_icmp .ge 24, 3) := by decide +kernel
theorem dX3_bridge_29 : decode cX3_bridge 29 = .ok (.aload_n 0, 1) := by decide +kernel
theorem dX3_bridge_30 : decode cX3_bridge 30 = .ok (.getfield 66, 3) := by decide +kernel
theorem dX3_bridge_33 : decode cX3_bridge 33 = .ok (.aload_n 0, 1) := by decide +kernel
theorem dX3_bridge_34 : decode cX3_bridge 34 = .ok (.getfield 72, 3) := by decide +kernel
theorem dX3_bridge_37 : decode cX3_bridge 37 = .ok (.getfield 201, 3) := by decide +kernel
theorem dX3_bridge_40 : decode cX3_bridge 40 = .ok (.iload_n 2, 1) := by decide +kernel
theorem dX3_bridge_41 : decode cX3_bridge 41 = .ok (.iaload, 1) := by decide +kernel
theorem dX3_bridge_42 : decode cX3_bridge 42 = .ok (.iconst 0, 1) := by decide +kernel
theorem dX3_bridge_43 : decode cX3_bridge 43 = .ok (.iastore, 1) := by decide +kernel
theorem dX3_bridge_44 : decode cX3_bridge 44 = .ok (.iinc 2 1, 3) := by decide +kernel
theorem dX3_bridge_47 : decode cX3_bridge 47 = .ok (.goto (-29), 3) := by decide +kernel
theorem dX3_bridge_50 : decode cX3_bridge 50 = .ok (.iconst 1, 1) := by decide +kernel
theorem dX3_bridge_51 : decode cX3_bridge 51 = .ok (.istore_n 2, 1) := by decide +kernel
theorem dX3_bridge_52 : decode cX3_bridge 52 = .ok (.iconst 0, 1) := by decide +kernel
theorem dX3_bridge_53 : decode cX3_bridge 53 = .ok (.istore_n 3, 1) := by decide +kernel
theorem dX3_bridge_54 : decode cX3_bridge 54 = .ok (.iload_n 3, 1) := by decide +kernel
theorem dX3_bridge_55 : decode cX3_bridge 55 = .ok (.sipush 192, 3) := by decide +kernel
theorem dX3_bridge_58 : decode cX3_bridge 58 = .ok (.if_icmp .ge 18, 3) := by decide +kernel
theorem dX3_bridge_61 : decode cX3_bridge 61 = .ok (.iload_n 2, 1) := by decide +kernel
theorem dX3_bridge_62 : decode cX3_bridge 62 = .ok (.ifCond .eq 14, 3) := by decide +kernel
theorem dX3_bridge_65 : decode cX3_bridge 65 = .ok (.aload_n 0, 1) := by decide +kernel
theorem dX3_bridge_66 : decode cX3_bridge 66 = .ok (.invokevirtual 214, 3) := by decide +kernel
theorem dX3_bridge_69 : decode cX3_bridge 69 = .ok (.istore_n 2, 1) := by decide +kernel
theorem dX3_bridge_70 : decode cX3_bridge 70 = .ok (.iinc 3 1, 3) := by decide +kernel
theorem dX3_bridge_73 : decode cX3_bridge 73 = .ok (.goto (-19), 3) := by decide +kernel
theorem dX3_bridge_76 : decode cX3_bridge 76 = .ok (.sipush 192, 3) := by decide +kernel
theorem dX3_bridge_79 : decode cX3_bridge 79 = .ok (.istore_n 3, 1) := by decide +kernel
theorem dX3_bridge_80 : decode cX3_bridge 80 = .ok (.iconst 0, 1) := by decide +kernel
theorem dX3_bridge_81 : decode cX3_bridge 81 = .ok (.istore 4, 2) := by decide +kernel
theorem dX3_bridge_83 : decode cX3_bridge 83 = .ok (.iload 4, 2) := by decide +kernel
theorem dX3_bridge_85 : decode cX3_bridge 85 = .ok (.aload_n 0, 1) := by decide +kernel
theorem dX3_bridge_86 : decode cX3_bridge 86 = .ok (.getfield 15, 3) := by decide +kernel
theorem dX3_bridge_89 : decode cX3_bridge 89 = .ok (.if_icmp .ge 51, 3) := by decide +kernel
theorem dX3_bridge_92 : decode cX3_bridge 92 = .ok (.iconst 0, 1) := by decide +kernel
theorem dX3_bridge_93 : decode cX3_bridge 93 = .ok (.istore 5, 2) := by decide +kernel
theorem dX3_bridge_95 : decode cX3_bridge 95 = .ok (.iload 5, 2) := by decide +kernel
theorem dX3_bridge_97 : decode cX3_bridge 97 = .ok (.aload_n 0, 1) := by decide +kernel
theorem dX3_bridge_98 : decode cX3_bridge 98 = .ok (.getfield 11, 3) := by decide +kernel
theorem dX3_bridge_101 : decode cX3_bridge 101 = .ok (.if_icmp .ge 33, 3) := by decide +kernel
theorem dX3_bridge_104 : decode cX3_bridge 104 = .ok (.aload_n 0, 1) := by decide +kernel
theorem dX3_bridge_105 : decode cX3_bridge 105 = .ok (.iload 5, 2) := by decide +kernel
theorem dX3_bridge_107 : decode cX3_bridge 107 = .ok (.iload 4, 2) := by decide +kernel
theorem dX3_bridge_109 : decode cX3_bridge 109 = .ok (.invokevirtual 218, 3) := by decide +kernel
theorem dX3_bridge_112 : decode cX3_bridge 112 = .ok (.ifCond .eq 16, 3) := by decide +kernel
theorem dX3_bridge_115 : decode cX3_bridge 115 = .ok (.iload_n 3, 1) := by decide +kernel
theorem dX3_bridge_116 : decode cX3_bridge 116 = .ok (.aload_n 0, 1) := by decide +kernel
theorem dX3_bridge_117 : decode cX3_bridge 117 = .ok (.iload 5, 2) := by decide +kernel
theorem dX3_bridge_119 : decode cX3_bridge 119 = .ok (.iload 4, 2) := by decide +kernel
theorem dX3_bridge_121 : decode cX3_bridge 121 = .ok (.invokevirtual 221, 3) := by decide +kernel
theorem dX3_bridge_124 : decode cX3_bridge 124 = .ok (.invokestatic 76, 3) := by decide +kernel
theorem dX3_bridge_127 : decode cX3_bridge 127 = .ok (.istore_n 3, 1) := by decide +kernel
theorem dX3_bridge_128 : decode cX3_bridge 128 = .ok (.iinc 5 1, 3) := by decide +kernel
theorem dX3_bridge_131 : decode cX3_bridge 131 = .ok (.goto (-36), 3) := by decide +kernel
theorem dX3_bridge_134 : decode cX3_bridge 134 = .ok (.iinc 4 1, 3) := by decide +kernel
theorem dX3_bridge_137 : decode cX3_bridge 137 = .ok (.goto (-54), 3) := by decide +kernel
theorem dX3_bridge_140 : decode cX3_bridge 140 = .ok (.iload_n 3, 1) := by decide +kernel
theorem dX3_bridge_141 : decode cX3_bridge 141 = .ok (.ireturn, 1) := by decide +kernel
theorem dX3_spreadCosts_0 : decode cX3_spreadCosts 0 = .ok (.iconst 0, 1) := by decide +kernel
theorem dX3_spreadCosts_1 : decode cX3_spreadCosts 1 = .ok (.istore_n 1, 1) := by decide +kernel
theorem dX3_spreadCosts_2 : decode cX3_spreadCosts 2 = .ok (.iconst 0, 1) := by decide +kernel
theorem dX3_spreadCosts_3 : decode cX3_spreadCosts 3 = .ok (.istore_n 2, 1) := by decide +kernel
theorem dX3_spreadCosts_4 : decode cX3_spreadCosts 4 = .ok (.iload_n 2, 1) := by decide +kernel
theorem dX3_spreadCosts_5 : decode cX3_spreadCosts 5 = .ok (.aload_n 0, 1) := by decide +kernel
theorem dX3_spreadCosts_6 : decode cX3_spreadCosts 6 = .ok (.getfield 15, 3) := by decide +kernel
theorem dX3_spreadCosts_9 : decode cX3_spreadCosts 9 = .ok (.if_icmp .ge 110, 3) := by decide +kernel
theorem dX3_spreadCosts_12 : decode cX3_spreadCosts 12 = .ok (.iconst 0, 1) := by decide +kernel
theorem dX3_spreadCosts_13 : decode cX3_spreadCosts 13 = .ok (.istore_n 3, 1) := by decide +kernel
theorem dX3_spreadCosts_14 : decode cX3_spreadCosts 14 = .ok (.iload_n 3, 1) := by decide +kernel
theorem dX3_spreadCosts_15 : decode cX3_spreadCosts 15 = .ok (.aload_n 0, 1) := by decide +kernel
theorem dX3_spreadCosts_16 : decode cX3_spreadCosts 16 = .ok (.getfield 11, 3) := by decide +kernel
theorem dX3_spreadCosts_19 : decode cX3_spreadCosts 19 = .ok (.if_icmp .ge 94, 3) := by decide +kernel
theorem dX3_spreadCosts_22 : decode cX3_spreadCosts 22 = .ok (.aload_n 0, 1) := by decide +kernel
theorem dX3_spreadCosts_23 : decode cX3_spreadCosts 23 = .ok (.iload_n 3, 1) := by decide +kernel
theorem dX3_spreadCosts_24 : decode cX3_spreadCosts 24 = .ok (.iload_n 2, 1) := by decide +kernel
theorem dX3_spreadCosts_25 : decode cX3_spreadCosts 25 = .ok (.invokevirtual 111, 3) := by decide +kernel
theorem dX3_spreadCosts_28 : decode cX3_spreadCosts 28 = .ok (.istore 4, 2) := by decide +kernel
theorem dX3_spreadCosts_30 : decode cX3_spreadCosts 30 = .ok (.aload_n 0, 1) := by decide +kernel
theorem dX3_spreadCosts_31 : decode cX3_spreadCosts 31 = .ok (.iload 4, 2) := by decide +kernel
theorem dX3_spreadCosts_33 : decode cX3_spreadCosts 33 = .ok (.invokevirtual 114, 3) := by decide +kernel
theorem dX3_spreadCosts_36 : decode cX3_spreadCosts 36 = .ok (.ifCond .eq 7, 3) := by decide +kernel
theorem dX3_spreadCosts_39 : decode cX3_spreadCosts 39 = .ok (.iconst 0, 1) := by decide +kernel
theorem dX3_spreadCosts_40 : decode cX3_spreadCosts 40 = .ok (.goto 4, 3) := by decide +kernel
theorem dX3_spreadCosts_43 : decode cX3_spreadCosts 43 = .ok (.iconst 1, 1) := by decide +kernel
theorem dX3_spreadCosts_44 : decode cX3_spreadCosts 44 = .ok (.istore 5, 2) := by decide +kernel
theorem dX3_spreadCosts_46 : decode cX3_spreadCosts 46 = .ok (.iconst 0, 1) := by decide +kernel
theorem dX3_spreadCosts_47 : decode cX3_spreadCosts 47 = .ok (.istore 6, 2) := by decide +kernel
theorem dX3_spreadCosts_49 : decode cX3_spreadCosts 49 = .ok (.iload 6, 2) := by decide +kernel
theorem dX3_spreadCosts_51 : decode cX3_spreadCosts 51 = .ok (.iconst 4, 1) := by decide +kernel
theorem dX3_spreadCosts_52 : decode cX3_spreadCosts 52 = .ok (.if_icmp .ge 55, 3) := by decide +kernel
theorem dX3_spreadCosts_55 : decode cX3_spreadCosts 55 = .ok (.aload_n 0, 1) := by decide +kernel
theorem dX3_spreadCosts_56 : decode cX3_spreadCosts 56 = .ok (.iload_n 3, 1) := by decide +kernel
theorem dX3_spreadCosts_57 : decode cX3_spreadCosts 57 = .ok (.iload 6, 2) := by decide +kernel
theorem dX3_spreadCosts_59 : decode cX3_spreadCosts 59 = .ok (.invokestatic 224, 3) := by decide +kernel
theorem dX3_spreadCosts_62 : decode cX3_spreadCosts 62 = .ok (.iadd, 1) := by decide +kernel
theorem dX3_spreadCosts_63 : decode cX3_spreadCosts 63 = .ok (.iload_n 2, 1) := by decide +kernel
theorem dX3_spreadCosts_64 : decode cX3_spreadCosts 64 = .ok (.iload 6, 2) := by decide +kernel
theorem dX3_spreadCosts_66 : decode cX3_spreadCosts 66 = .ok (.invokestatic 228, 3) := by decide +kernel
theorem dX3_spreadCosts_69 : decode cX3_spreadCosts 69 = .ok (.iadd, 1) := by decide +kernel
theorem dX3_spreadCosts_70 : decode cX3_spreadCosts 70 = .ok (.invokevirtual 221, 3) := by decide +kernel
theorem dX3_spreadCosts_73 : decode cX3_spreadCosts 73 = .ok (.iload 5, 2) := by decide +kernel
theorem dX3_spreadCosts_75 : decode cX3_spreadCosts 75 = .ok (.iadd, 1) := by decide +kernel
theorem dX3_spreadCosts_76 : decode cX3_spreadCosts 76 = .ok (.istore 7, 2) := by decide +kernel
theorem dX3_spreadCosts_78 : decode cX3_spreadCosts 78 = .ok (.iload 7, 2) := by decide +kernel
theorem dX3_spreadCosts_80 : decode cX3_spreadCosts 80 = .ok (.aload_n 0, 1) := by decide +kernel
theorem dX3_spreadCosts_81 : decode cX3_spreadCosts 81 = .ok (.getfield 66, 3) := by decide +kernel
theorem dX3_spreadCosts_84 : decode cX3_spreadCosts 84 = .ok (.iload 4, 2) := by decide +kernel
theorem dX3_spreadCosts_86 : decode cX3_spreadCosts 86 = .ok (.iaload, 1) := by decide +kernel
theorem dX3_spreadCosts_87 : decode cX3_spreadCosts 87 = .ok (.if_icmp .ge 14, 3) := by decide +kernel
theorem dX3_spreadCosts_90 : decode cX3_spreadCosts 90 = .ok (.aload_n 0, 1) := by decide +kernel
theorem dX3_spreadCosts_91 : decode cX3_spreadCosts 91 = .ok (.getfield 66, 3) := by decide +kernel
theorem dX3_spreadCosts_94 : decode cX3_spreadCosts 94 = .ok (.iload 4, 2) := by decide +kernel
theorem dX3_spreadCosts_96 : decode cX3_spreadCosts 96 = .ok (.iload 7, 2) := by decide +kernel
theorem dX3_spreadCosts_98 : decode cX3_spreadCosts 98 = .ok (.iastore, 1) := by decide +kernel
theorem dX3_spreadCosts_99 : decode cX3_spreadCosts 99 = .ok (.iconst 1, 1) := by decide +kernel
theorem dX3_spreadCosts_100 : decode cX3_spreadCosts 100 = .ok (.istore_n 1, 1) := by decide +kernel
theorem dX3_spreadCosts_101 : decode cX3_spreadCosts 101 = .ok (.iinc 6 1, 3) := by decide +kernel
theorem dX3_spreadCosts_104 : decode cX3_spreadCosts 104 = .ok (.goto (-55), 3) := by decide +kernel
theorem dX3_spreadCosts_107 : decode cX3_spreadCosts 107 = .ok (.iinc 3 1, 3) := by decide +kernel
theorem dX3_spreadCosts_110 : decode cX3_spreadCosts 110 = .ok (.goto (-96), 3) := by decide +kernel
theorem dX3_spreadCosts_113 : decode cX3_spreadCosts 113 = .ok (.iinc 2 1, 3) := by decide +kernel
theorem dX3_spreadCosts_116 : decode cX3_spreadCosts 116 = .ok (.goto (-112), 3) := by decide +kernel
theorem dX3_spreadCosts_119 : decode cX3_spreadCosts 119 = .ok (.iload_n 1, 1) := by decide +kernel
theorem dX3_spreadCosts_120 : decode cX3_spreadCosts 120 = .ok (.ireturn, 1) := by decide +kernel
theorem dX3_costAt_0 : decode cX3_costAt 0 = .ok (.aload_n 0, 1) := by decide +kernel
theorem dX3_costAt_1 : decode cX3_costAt 1 = .ok (.iload_n 1, 1) := by decide +kernel
theorem dX3_costAt_2 : decode cX3_costAt 2 = .ok (.iload_n 2, 1) := by decide +kernel
theorem dX3_costAt_3 : decode cX3_costAt 3 = .ok (.invokevirtual 107, 3) := by decide +kernel
theorem dX3_costAt_6 : decode cX3_costAt 6 = .ok (.ifCond .eq 17, 3) := by decide +kernel
theorem dX3_costAt_9 : decode cX3_costAt 9 = .ok (.aload_n 0, 1) := by decide +kernel
theorem dX3_costAt_10 : decode cX3_costAt 10 = .ok (.getfield 66, 3) := by decide +kernel
theorem dX3_costAt_13 : decode cX3_costAt 13 = .ok (.aload_n 0, 1) := by decide +kernel
theorem dX3_costAt_14 : decode cX3_costAt 14 = .ok (.iload_n 1, 1) := by decide +kernel
theorem dX3_costAt_15 : decode cX3_costAt 15 = .ok (.iload_n 2, 1) := by decide +kernel
theorem dX3_costAt_16 : decode cX3_costAt 16 = .ok (.invokevirtual 111, 3) := by decide +kernel
theorem dX3_costAt_19 : decode cX3_costAt 19 = .ok (.iaload, 1) := by decide +kernel
theorem dX3_costAt_20 : decode cX3_costAt 20 = .ok (.goto 6, 3) := by decide +kernel
theorem dX3_costAt_23 : decode cX3_costAt 23 = .ok (.sipush 192, 3) := by decide +kernel
theorem dX3_costAt_26 : decode cX3_costAt 26 = .ok (.ireturn, 1) := by decide +kernel
theorem dX3_heatInAll_0 : decode cX3_heatInAll 0 = .ok (.lconst 0, 1) := by decide +kernel
theorem dX3_heatInAll_1 : decode cX3_heatInAll 1 = .ok (.lstore_n 1, 1) := by decide +kernel
theorem dX3_heatInAll_2 : decode cX3_heatInAll 2 = .ok (.iconst 0, 1) := by decide +kernel
theorem dX3_heatInAll_3 : decode cX3_heatInAll 3 = .ok (.istore_n 3, 1) := by decide +kernel
theorem dX3_heatInAll_4 : decode cX3_heatInAll 4 = .ok (.iload_n 3, 1) := by decide +kernel
theorem dX3_heatInAll_5 : decode cX3_heatInAll 5 = .ok (.aload_n 0, 1) := by decide +kernel
theorem dX3_heatInAll_6 : decode cX3_heatInAll 6 = .ok (.getfield 18, 3) := by decide +kernel
theorem dX3_heatInAll_9 : decode cX3_heatInAll 9 = .ok (.if_icmp .ge 19, 3) := by decide +kernel
theorem dX3_heatInAll_12 : decode cX3_heatInAll 12 = .ok (.lload_n 1, 1) := by decide +kernel
theorem dX3_heatInAll_13 : decode cX3_heatInAll 13 = .ok (.aload_n 0, 1) := by decide +kernel
theorem dX3_heatInAll_14 : decode cX3_heatInAll 14 = .ok (.getfield 50, 3) := by decide +kernel
theorem dX3_heatInAll_17 : decode cX3_heatInAll 17 = .ok (.iload_n 3, 1) := by decide +kernel
theorem dX3_heatInAll_18 : decode cX3_heatInAll 18 = .ok (.iaload, 1) := by decide +kernel
theorem dX3_heatInAll_19 : decode cX3_heatInAll 19 = .ok (.i2l, 1) := by decide +kernel
theorem dX3_heatInAll_20 : decode cX3_heatInAll 20 = .ok (.ladd, 1) := by decide +kernel
theorem dX3_heatInAll_21 : decode cX3_heatInAll 21 = .ok (.lstore_n 1, 1) := by decide +kernel
theorem dX3_heatInAll_22 : decode cX3_heatInAll 22 = .ok (.iinc 3 1, 3) := by decide +kernel
theorem dX3_heatInAll_25 : decode cX3_heatInAll 25 = .ok (.goto (-21), 3) := by decide +kernel
theorem dX3_heatInAll_28 : decode cX3_heatInAll 28 = .ok (.lload_n 1, 1) := by decide +kernel
theorem dX3_heatInAll_29 : decode cX3_heatInAll 29 = .ok (.lreturn, 1) := by decide +kernel
theorem dX4_init_0 : decode cX4_init 0 = .ok (.aload_n 0, 1) := by decide +kernel
theorem dX4_init_1 : decode cX4_init 1 = .ok (.invokespecial 3, 3) := by decide +kernel
theorem dX4_init_4 : decode cX4_init 4 = .ok (.aload_n 0, 1) := by decide +kernel
theorem dX4_init_5 : decode cX4_init 5 = .ok (.new 9, 3) := by decide +kernel
theorem dX4_init_8 : decode cX4_init 8 = .ok (.dup, 1) := by decide +kernel
theorem dX4_init_9 : decode cX4_init 9 = .ok (.sipush 800, 3) := by decide +kernel
theorem dX4_init_12 : decode cX4_init 12 = .ok (.invokespecial 13, 3) := by decide +kernel
theorem dX4_init_15 : decode cX4_init 15 = .ok (.putfield 16, 3) := by decide +kernel
theorem dX4_init_18 : decode cX4_init 18 = .ok (.aload_n 0, 1) := by decide +kernel
theorem dX4_init_19 : decode cX4_init 19 = .ok (.iconst 0, 1) := by decide +kernel
theorem dX4_init_20 : decode cX4_init 20 = .ok (.putfield 20, 3) := by decide +kernel
theorem dX4_init_23 : decode cX4_init 23 = .ok (.aload_n 0, 1) := by decide +kernel
theorem dX4_init_24 : decode cX4_init 24 = .ok (.iconst (-1), 1) := by decide +kernel
theorem dX4_init_25 : decode cX4_init 25 = .ok (.putfield 24, 3) := by decide +kernel
theorem dX4_init_28 : decode cX4_init 28 = .ok (.aload_n 0, 1) := by decide +kernel
theorem dX4_init_29 : decode cX4_init 29 = .ok (.new 27, 3) := by decide +kernel
theorem dX4_init_32 : decode cX4_init 32 = .ok (.dup, 1) := by decide +kernel
theorem dX4_init_33 : decode cX4_init 33 = .ok (.invokespecial 29, 3) := by decide +kernel
theorem dX4_init_36 : decode cX4_init 36 = .ok (.putfield 30, 3) := by decide +kernel
theorem dX4_init_39 : decode cX4_init 39 = .ok (.aload_n 0, 1) := by decide +kernel
theorem dX4_init_40 : decode cX4_init 40 = .ok (.iconst 0, 1) := by decide +kernel
theorem dX4_init_41 : decode cX4_init 41 = .ok (.putfield 34, 3) := by decide +kernel
theorem dX4_init_44 : decode cX4_init 44 = .ok (.aload_n 0, 1) := by decide +kernel
theorem dX4_init_45 : decode cX4_init 45 = .ok (.iconst 0, 1) := by decide +kernel
theorem dX4_init_46 : decode cX4_init 46 = .ok (.putfield 37, 3) := by decide +kernel
theorem dX4_init_49 : decode cX4_init 49 = .ok (.aload_n 0, 1) := by decide +kernel
theorem dX4_init_50 : decode cX4_init 50 = .ok (.new 9, 3) := by decide +kernel
theorem dX4_init_53 : decode cX4_init 53 = .ok (.dup, 1) := by decide +kernel
theorem dX4_init_54 : decode cX4_init 54 = .ok (.iconst 4, 1) := by decide +kernel
theorem dX4_init_55 : decode cX4_init 55 = .ok (.invokespecial 13, 3) := by decide +kernel
theorem dX4_init_58 : decode cX4_init 58 = .ok (.putfield 40, 3) := by decide +kernel
theorem dX4_init_61 : decode cX4_init 61 = .ok (.aload_n 0, 1) := by decide +kernel
theorem dX4_init_62 : decode cX4_init 62 = .ok (.new 9, 3) := by decide +kernel
theorem dX4_init_65 : decode cX4_init 65 = .ok (.dup, 1) := by decide +kernel
theorem dX4_init_66 : decode cX4_init 66 = .ok (.iconst 4, 1) := by decide +kernel
theorem dX4_init_67 : decode cX4_init 67 = .ok (.invokespecial 13, 3) := by decide +kernel
theorem dX4_init_70 : decode cX4_init 70 = .ok (.putfield 43, 3) := by decide +kernel
theorem dX4_init_73 : decode cX4_init 73 = .ok (.return_, 1) := by decide +kernel
theorem dX4_read_0 : decode cX4_read 0 = .ok (.aload_n 0, 1) := by decide +kernel
theorem dX4_read_1 : decode cX4_read 1 = .ok (.getfield 30, 3) := by decide +kernel
theorem dX4_read_4 : decode cX4_read 4 = .ok (.aload_n 1, 1) := by decide +kernel
theorem dX4_read_5 : decode cX4_read 5 = .ok (.invokevirtual 46, 3) := by decide +kernel
theorem dX4_read_8 : decode cX4_read 8 = .ok (.aload_n 0, 1) := by decide +kernel
theorem dX4_read_9 : decode cX4_read 9 = .ok (.getfield 16, 3) := by decide +kernel
theorem dX4_read_12 : decode cX4_read 12 = .ok (.iconst 0, 1) := by decide +kernel
theorem dX4_read_13 : decode cX4_read 13 = .ok (.putfield 50, 3) := by decide +kernel
theorem dX4_read_16 : decode cX4_read 16 = .ok (.aload_n 0, 1) := by decide +kernel
theorem dX4_read_17 : decode cX4_read 17 = .ok (.getfield 40, 3) := by decide +kernel
theorem dX4_read_20 : decode cX4_read 20 = .ok (.iconst 0, 1) := by decide +kernel
theorem dX4_read_21 : decode cX4_read 21 = .ok (.putfield 50, 3) := by decide +kernel
theorem dX4_read_24 : decode cX4_read 24 = .ok (.aload_n 0, 1) := by decide +kernel
theorem dX4_read_25 : decode cX4_read 25 = .ok (.getfield 43, 3) := by decide +kernel
theorem dX4_read_28 : decode cX4_read 28 = .ok (.iconst 0, 1) := by decide +kernel
theorem dX4_read_29 : decode cX4_read 29 = .ok (.putfield 50, 3) := by decide +kernel
theorem dX4_read_32 : decode cX4_read 32 = .ok (.aload_n 0, 1) := by decide +kernel
theorem dX4_read_33 : decode cX4_read 33 = .ok (.iconst 0, 1) := by decide +kernel
theorem dX4_read_34 : decode cX4_read 34 = .ok (.putfield 20, 3) := by decide +kernel
theorem dX4_read_37 : decode cX4_read 37 = .ok (.aload_n 0, 1) := by decide +kernel
theorem dX4_read_38 : decode cX4_read 38 = .ok (.iconst (-1), 1) := by decide +kernel
theorem dX4_read_39 : decode cX4_read 39 = .ok (.putfield 24, 3) := by decide +kernel
theorem dX4_read_42 : decode cX4_read 42 = .ok (.aload_n 0, 1) := by decide +kernel
theorem dX4_read_43 : decode cX4_read 43 = .ok (.iconst 0, 1) := by decide +kernel
theorem dX4_read_44 : decode cX4_read 44 = .ok (.putfield 34, 3) := by decide +kernel
theorem dX4_read_47 : decode cX4_read 47 = .ok (.aload_n 0, 1) := by decide +kernel
theorem dX4_read_48 : decode cX4_read 48 = .ok (.aload_n 0, 1) := by decide +kernel
theorem dX4_read_49 : decode cX4_read 49 = .ok (.getfield 30, 3) := by decide +kernel
theorem dX4_read_52 : decode cX4_read 52 = .ok (.getfield 53, 3) := by decide +kernel
theorem dX4_read_55 : decode cX4_read 55 = .ok (.iconst 0, 1) := by decide +kernel
theorem dX4_read_56 : decode cX4_read 56 = .ok (.invokevirtual 56, 3) := by decide +kernel
theorem dX4_read_59 : decode cX4_read 59 = .ok (.putfield 37, 3) := by decide +kernel
theorem dX4_read_62 : decode cX4_read 62 = .ok (.iconst 0, 1) := by decide +kernel
theorem dX4_read_63 : decode cX4_read 63 = .ok (.istore_n 2, 1) := by decide +kernel
theorem dX4_read_64 : decode cX4_read 64 = .ok (.iconst 0, 1) := by decide +kernel
theorem dX4_read_65 : decode cX4_read 65 = .ok (.istore_n 3, 1) := by decide +kernel
theorem dX4_read_66 : decode cX4_read 66 = .ok (.iload_n 3, 1) := by decide +kernel
theorem dX4_read_67 : decode cX4_read 67 = .ok (.sipush 400, 3) := by decide +kernel
theorem dX4_read_70 : decode cX4_read 70 = .ok (.if_icmp .gt 92, 3) := by decide +kernel
theorem dX4_read_73 : decode cX4_read 73 = .ok (.aload_n 0, 1) := by decide +kernel
theorem dX4_read_74 : decode cX4_read 74 = .ok (.getfield 20, 3) := by decide +kernel
theorem dX4_read_77 : decode cX4_read 77 = .ok (.ifCond .ne 85, 3) := by decide +kernel
theorem dX4_read_80 : decode cX4_read 80 = .ok (.iload_n 2, 1) := by decide +kernel
theorem dX4_read_81 : decode cX4_read 81 = .ok (.ifCond .ne 81, 3) := by decide +kernel
theorem dX4_read_84 : decode cX4_read 84 = .ok (.aload_n 0, 1) := by decide +kernel
theorem dX4_read_85 : decode cX4_read 85 = .ok (.getfield 37, 3) := by decide +kernel
theorem dX4_read_88 : decode cX4_read 88 = .ok (.bipush 9, 2) := by decide +kernel
theorem dX4_read_90 : decode cX4_read 90 = .ok (.bipush 16, 2) := by decide +kernel
theorem dX4_read_92 : decode cX4_read 92 = .ok (.invokestatic 60, 3) := by decide +kernel
theorem dX4_read_95 : decode cX4_read 95 = .ok (.ifCond .eq 10, 3) := by decide +kernel
theorem dX4_read_98 : decode cX4_read 98 = .ok (.aload_n 0, 1) := by decide +kernel
theorem dX4_read_99 : decode cX4_read 99 = .ok (.invokevirtual 64, 3) := by decide +kernel
theorem dX4_read_102 : decode cX4_read 102 = .ok (.goto 54, 3) := by decide +kernel
theorem dX4_read_105 : decode cX4_read 105 = .ok (.aload_n 0, 1) := by decide +kernel
theorem dX4_read_106 : decode cX4_read 106 = .ok (.getfield 37, 3) := by decide +kernel
theorem dX4_read_109 : decode cX4_read 109 = .ok (.bipush 18, 2) := by decide +kernel
theorem dX4_read_111 : decode cX4_read 111 = .ok (.if_icmp .ne 19, 3) := by decide +kernel
theorem dX4_read_114 : decode cX4_read 114 = .ok (.aload_n 0, 1) := by decide +kernel
theorem dX4_read_115 : decode cX4_read 115 = .ok (.invokevirtual 67, 3) := by decide +kernel
theorem dX4_read_118 : decode cX4_read 118 = .ok (.bipush 15, 2) := by decide +kernel
theorem dX4_read_120 : decode cX4_read 120 = .ok (.if_icmp .ne 10, 3) := by decide +kernel
theorem dX4_read_123 : decode cX4_read 123 = .ok (.aload_n 0, 1) := by decide +kernel
theorem dX4_read_124 : decode cX4_read 124 = .ok (.invokevirtual 71, 3) := by decide +kernel
theorem dX4_read_127 : decode cX4_read 127 = .ok (.goto 29, 3) := by decide +kernel
theorem dX4_read_130 : decode cX4_read 130 = .ok (.aload_n 0, 1) := by decide +kernel
theorem dX4_read_131 : decode cX4_read 131 = .ok (.getfield 37, 3) := by decide +kernel
theorem dX4_read_134 : decode cX4_read 134 = .ok (.iconst 1, 1) := by decide +kernel
theorem dX4_read_135 : decode cX4_read 135 = .ok (.if_icmp .ne 16, 3) := by decide +kernel
theorem dX4_read_138 : decode cX4_read 138 = .ok (.aload_n 0, 1) := by decide +kernel
theorem dX4_read_139 : decode cX4_read 139 = .ok (.invokevirtual 67, 3) := by decide +kernel
theorem dX4_read_142 : decode cX4_read 142 = .ok (.iconst (-1), 1) := by decide +kernel
theorem dX4_read_143 : decode cX4_read 143 = .ok (.if_icmp .ne 8, 3) := by decide +kernel
theorem dX4_read_146 : decode cX4_read 146 = .ok (.iconst 1, 1) := by decide +kernel
theorem dX4_read_147 : decode cX4_read 147 = .ok (.istore_n 2, 1) := by decide +kernel
theorem dX4_read_148 : decode cX4_read 148 = .ok (.goto 8, 3) := by decide +kernel
theorem dX4_read_151 : decode cX4_read 151 = .ok (.aload_n 0, 1) := by decide +kernel
theorem dX4_read_152 : decode cX4_read 152 = .ok (.iconst 1, 1) := by decide +kernel
theorem dX4_read_153 : decode cX4_read 153 = .ok (.invokevirtual 74, 3) := by decide +kernel
theorem dX4_read_156 : decode cX4_read 156 = .ok (.iinc 3 1, 3) := by decide +kernel
theorem dX4_read_159 : decode cX4_read 159 = .ok (.goto (-93), 3) := by decide +kernel
theorem dX4_read_162 : decode cX4_read 162 = .ok (.iload_n 2, 1) := by decide +kernel
theorem dX4_read_163 : decode cX4_read 163 = .ok (.ireturn, 1) := by decide +kernel
theorem dX4_fail_0 : decode cX4_fail 0 = .ok (.aload_n 0, 1) := by decide +kernel
theorem dX4_fail_1 : decode cX4_fail 1 = .ok (.getfield 20, 3) := by decide +kernel
theorem dX4_fail_4 : decode cX4_fail 4 = .ok (.ifCond .ne 26, 3) := by decide +kernel
theorem dX4_fail_7 : decode cX4_fail 7 = .ok (.aload_n 0, 1) := by decide +kernel
theorem dX4_fail_8 : decode cX4_fail 8 = .ok (.iload_n 1, 1) := by decide +kernel
theorem dX4_fail_9 : decode cX4_fail 9 = .ok (.putfield 20, 3) := by decide +kernel
theorem dX4_fail_12 : decode cX4_fail 12 = .ok (.aload_n 0, 1) := by decide +kernel
theorem dX4_fail_13 : decode cX4_fail 13 = .ok (.aload_n 0, 1) := by decide +kernel
theorem dX4_fail_14 : decode cX4_fail 14 = .ok (.getfield 30, 3) := by decide +kernel
theorem dX4_fail_17 : decode cX4_fail 17 = .ok (.getfield 77, 3) := by decide +kernel
theorem dX4_fail_20 : decode cX4_fail 20 = .ok (.aload_n 0, 1) := by decide +kernel
theorem dX4_fail_21 : decode cX4_fail 21 = .ok (.getfield 34, 3) := by decide +kernel
theorem dX4_fail_24 : decode cX4_fail 24 = .ok (.invokevirtual 56, 3) := by decide +kernel
theorem dX4_fail_27 : decode cX4_fail 27 = .ok (.putfield 24, 3) := by decide +kernel
theorem dX4_fail_30 : decode cX4_fail 30 = .ok (.aload_n 0, 1) := by decide +kernel
theorem dX4_fail_31 : decode cX4_fail 31 = .ok (.iconst 0, 1) := by decide +kernel
theorem dX4_fail_32 : decode cX4_fail 32 = .ok (.putfield 37, 3) := by decide +kernel
theorem dX4_fail_35 : decode cX4_fail 35 = .ok (.return_, 1) := by decide +kernel
theorem dX4_advance_0 : decode cX4_advance 0 = .ok (.aload_n 0, 1) := by decide +kernel
theorem dX4_advance_1 : decode cX4_advance 1 = .ok (.getfield 20, 3) := by decide +kernel
theorem dX4_advance_4 : decode cX4_advance 4 = .ok (.ifCond .ne 31, 3) := by decide +kernel
theorem dX4_advance_7 : decode cX4_advance 7 = .ok (.aload_n 0, 1) := by decide +kernel
theorem dX4_advance_8 : decode cX4_advance 8 = .ok (.dup, 1) := by decide +kernel
theorem dX4_advance_9 : decode cX4_advance 9 = .ok (.getfield 34, 3) := by decide +kernel
theorem dX4_advance_12 : decode cX4_advance 12 = .ok (.iconst 1, 1) := by decide +kernel
theorem dX4_advance_13 : decode cX4_advance 13 = .ok (.iadd, 1) := by decide +kernel
theorem dX4_advance_14 : decode cX4_advance 14 = .ok (.putfield 34, 3) := by decide +kernel
theorem dX4_advance_17 : decode cX4_advance 17 = .ok (.aload_n 0, 1) := by decide +kernel
theorem dX4_advance_18 : decode cX4_advance 18 = .ok (.aload_n 0, 1) := by decide +kernel
theorem dX4_advance_19 : decode cX4_advance 19 = .ok (.getfield 30, 3) := by decide +kernel
theorem dX4_advance_22 : decode cX4_advance 22 = .ok (.getfield 53, 3) := by decide +kernel
theorem dX4_advance_25 : decode cX4_advance 25 = .ok (.aload_n 0, 1) := by decide +kernel
theorem dX4_advance_26 : decode cX4_advance 26 = .ok (.getfield 34, 3) := by decide +kernel
theorem dX4_advance_29 : decode cX4_advance 29 = .ok (.invokevirtual 56, 3) := by decide +kernel
theorem dX4_advance_32 : decode cX4_advance 32 = .ok (.putfield 37, 3) := by decide +kernel
theorem dX4_advance_35 : decode cX4_advance 35 = .ok (.return_, 1) := by decide +kernel
theorem dX4_expect_0 : decode cX4_expect 0 = .ok (.aload_n 0, 1) := by decide +kernel
theorem dX4_expect_1 : decode cX4_expect 1 = .ok (.getfield 37, 3) := by decide +kernel
theorem dX4_expect_4 : decode cX4_expect 4 = .ok (.iload_n 1, 1) := by decide +kernel
theorem dX4_expect_5 : decode cX4_expect 5 = .ok (.if_icmp .ne 10, 3) := by decide +kernel
theorem dX4_expect_8 : decode cX4_expect 8 = .ok (.aload_n 0, 1) := by decide +kernel
theorem dX4_expect_9 : decode cX4_expect 9 = .ok (.invokevirtual 80, 3) := by decide +kernel
theorem dX4_expect_12 : decode cX4_expect 12 = .ok (.goto 8, 3) := by decide +kernel
theorem dX4_expect_15 : decode cX4_expect 15 = .ok (.aload_n 0, 1) := by decide +kernel
theorem dX4_expect_16 : decode cX4_expect 16 = .ok (.iconst 1, 1) := by decide +kernel
theorem dX4_expect_17 : decode cX4_expect 17 = .ok (.invokevirtual 74, 3) := by decide +kernel
theorem dX4_expect_20 : decode cX4_expect 20 = .ok (.return_, 1) := by decide +kernel
theorem dX4_innermost_0 : decode cX4_innermost 0 = .ok (.aload_n 0, 1) := by decide +kernel
theorem dX4_innermost_1 : decode cX4_innermost 1 = .ok (.getfield 40, 3) := by decide +kernel
theorem dX4_innermost_4 : decode cX4_innermost 4 = .ok (.aload_n 0, 1) := by decide +kernel
theorem dX4_innermost_5 : decode cX4_innermost 5 = .ok (.getfield 40, 3) := by decide +kernel
theorem dX4_innermost_8 : decode cX4_innermost 8 = .ok (.getfield 50, 3) := by decide +kernel
theorem dX4_innermost_11 : decode cX4_innermost 11 = .ok (.iconst 1, 1) := by decide +kernel
theorem dX4_innermost_12 : decode cX4_innermost 12 = .ok (.isub, 1) := by decide +kernel
theorem dX4_innermost_13 : decode cX4_innermost 13 = .ok (.invokevirtual 56, 3) := by decide +kernel
theorem dX4_innermost_16 : decode cX4_innermost 16 = .ok (.ireturn, 1) := by decide +kernel
theorem dX4_readStep_0 : decode cX4_readStep 0 = .ok (.aload_n 0, 1) := by decide +kernel
theorem dX4_readStep_1 : decode cX4_readStep 1 = .ok (.getfield 37, 3) := by decide +kernel
theorem dX4_readStep_4 : decode cX4_readStep 4 = .ok (.istore_n 1, 1) := by decide +kernel
theorem dX4_readStep_5 : decode cX4_readStep 5 = .ok (.iload_n 1, 1) := by decide +kernel
theorem dX4_readStep_6 : decode cX4_readStep 6 = .ok (.bipush 15, 2) := by decide +kernel
theorem dX4_readStep_8 : decode cX4_readStep 8 = .ok (.if_icmp .eq 9, 3) := by decide +kernel
theorem dX4_readStep_11 : decode cX4_readStep 11 = .ok (.iload_n 1, 1) := by decide +kernel
theorem dX4_readStep_12 : decode cX4_readStep 12 = .ok (.bipush 16, 2) := by decide +kernel
theorem dX4_readStep_14 : decode cX4_readStep 14 = .ok (.if_icmp .ne 7, 3) := by decide +kernel
theorem dX4_readStep_17 : decode cX4_readStep 17 = .ok (.iconst 1, 1) := by decide +kernel
theorem dX4_readStep_18 : decode cX4_readStep 18 = .ok (.goto 4, 3) := by decide +kernel
theorem dX4_readStep_21 : decode cX4_readStep 21 = .ok (.iconst 0, 1) := by decide +kernel
theorem dX4_readStep_22 : decode cX4_readStep 22 = .ok (.istore_n 2, 1) := by decide +kernel
theorem dX4_readStep_23 : decode cX4_readStep 23 = .ok (.iload_n 2, 1) := by decide +kernel
theorem dX4_readStep_24 : decode cX4_readStep 24 = .ok (.ifCond .eq 20, 3) := by decide +kernel
theorem dX4_readStep_27 : decode cX4_readStep 27 = .ok (.aload_n 0, 1) := by decide +kernel
theorem dX4_readStep_28 : decode cX4_readStep 28 = .ok (.getfield 40, 3) := by decide +kernel
theorem dX4_readStep_31 : decode cX4_readStep 31 = .ok (.getfield 50, 3) := by decide +kernel
theorem dX4_readStep_34 : decode cX4_readStep 34 = .ok (.iconst 4, 1) := by decide +kernel
theorem dX4_readStep_35 : decode cX4_readStep 35 = .ok (.if_icmp .lt 9, 3) := by decide +kernel
theorem dX4_readStep_38 : decode cX4_readStep 38 = .ok (.aload_n 0, 1) := by decide +kernel
theorem dX4_readStep_39 : decode cX4_readStep 39 = .ok (.iconst 3, 1) := by decide +kernel
theorem dX4_readStep_40 : decode cX4_readStep 40 = .ok (.invokevirtual 74, 3) := by decide +kernel
theorem dX4_readStep_43 : decode cX4_readStep 43 = .ok (.return_, 1) := by decide +kernel
theorem dX4_readStep_44 : decode cX4_readStep 44 = .ok (.aload_n 0, 1) := by decide +kernel
theorem dX4_readStep_45 : decode cX4_readStep 45 = .ok (.getfield 16, 3) := by decide +kernel
theorem dX4_readStep_48 : decode cX4_readStep 48 = .ok (.iload_n 1, 1) := by decide +kernel
theorem dX4_readStep_49 : decode cX4_readStep 49 = .ok (.invokevirtual 83, 3) := by decide +kernel
theorem dX4_readStep_52 : decode cX4_readStep 52 = .ok (.aload_n 0, 1) := by decide +kernel
theorem dX4_readStep_53 : decode cX4_readStep 53 = .ok (.invokevirtual 80, 3) := by decide +kernel
theorem dX4_readStep_56 : decode cX4_readStep 56 = .ok (.iload_n 1, 1) := by decide +kernel
theorem dX4_readStep_57 : decode cX4_readStep 57 = .ok (.tableswitch 108 11 16 #[39, 58, 73, 84, 94, 101], 39) := by decide +kernel
theorem dX4_readStep_96 : decode cX4_readStep 96 = .ok (.aload_n 0, 1) := by decide +kernel
theorem dX4_readStep_97 : decode cX4_readStep 97 = .ok (.iconst 0, 1) := by decide +kernel
theorem dX4_readStep_98 : decode cX4_readStep 98 = .ok (.sipush 9999, 3) := by decide +kernel
theorem dX4_readStep_101 : decode cX4_readStep 101 = .ok (.invokevirtual 86, 3) := by decide +kernel
theorem dX4_readStep_104 : decode cX4_readStep 104 = .ok (.aload_n 0, 1) := by decide +kernel
theorem dX4_readStep_105 : decode cX4_readStep 105 = .ok (.iconst 0, 1) := by decide +kernel
theorem dX4_readStep_106 : decode cX4_readStep 106 = .ok (.sipush 9999, 3) := by decide +kernel
theorem dX4_readStep_109 : decode cX4_readStep 109 = .ok (.invokevirtual 86, 3) := by decide +kernel
theorem dX4_readStep_112 : decode cX4_readStep 112 = .ok (.goto 53, 3) := by decide +kernel
theorem dX4_readStep_115 : decode cX4_readStep 115 = .ok (.aload_n 0, 1) := by decide +kernel
theorem dX4_readStep_116 : decode cX4_readStep 116 = .ok (.invokevirtual 90, 3) := by decide +kernel
theorem dX4_readStep_119 : decode cX4_readStep 119 = .ok (.aload_n 0, 1) := by decide +kernel
theorem dX4_readStep_120 : decode cX4_readStep 120 = .ok (.iconst 0, 1) := by decide +kernel
theorem dX4_readStep_121 : decode cX4_readStep 121 = .ok (.sipush 9999, 3) := by decide +kernel
theorem dX4_readStep_124 : decode cX4_readStep 124 = .ok (.invokevirtual 86, 3) := by decide +kernel
theorem dX4_readStep_127 : decode cX4_readStep 127 = .ok (.goto 38, 3) := by decide +kernel
theorem dX4_readStep_130 : decode cX4_readStep 130 = .ok (.aload_n 0, 1) := by decide +kernel
theorem dX4_readStep_131 : decode cX4_readStep 131 = .ok (.iconst 0, 1) := by decide +kernel
theorem dX4_readStep_132 : decode cX4_readStep 132 = .ok (.sipush 9999, 3) := by decide +kernel
theorem dX4_readStep_135 : decode cX4_readStep 135 = .ok (.invokevirtual 86, 3) := by decide +kernel
theorem dX4_readStep_138 : decode cX4_readStep 138 = .ok (.goto 27, 3) := by decide +kernel
theorem dX4_readStep_141 : decode cX4_readStep 141 = .ok (.aload_n 0, 1) := by decide +kernel
theorem dX4_readStep_142 : decode cX4_readStep 142 = .ok (.iconst 1, 1) := by decide +kernel
theorem dX4_readStep_143 : decode cX4_readStep 143 = .ok (.bipush 20, 2) := by decide +kernel
theorem dX4_readStep_145 : decode cX4_readStep 145 = .ok (.invokevirtual 86, 3) := by decide +kernel
theorem dX4_readStep_148 : decode cX4_readStep 148 = .ok (.goto 17, 3) := by decide +kernel
theorem dX4_readStep_151 : decode cX4_readStep 151 = .ok (.aload_n 0, 1) := by decide +kernel
theorem dX4_readStep_152 : decode cX4_readStep 152 = .ok (.invokevirtual 93, 3) := by decide +kernel
theorem dX4_readStep_155 : decode cX4_readStep 155 = .ok (.goto 10, 3) := by decide +kernel
theorem dX4_readStep_158 : decode cX4_readStep 158 = .ok (.aload_n 0, 1) := by decide +kernel
theorem dX4_readStep_159 : decode cX4_readStep 159 = .ok (.invokevirtual 96, 3) := by decide +kernel
theorem dX4_readStep_162 : decode cX4_readStep 162 = .ok (.goto 3, 3) := by decide +kernel
theorem dX4_readStep_165 : decode cX4_readStep 165 = .ok (.iload_n 2, 1) := by decide +kernel
theorem dX4_readStep_166 : decode cX4_readStep 166 = .ok (.ifCond .ne 7, 3) := by decide +kernel
theorem dX4_readStep_169 : decode cX4_readStep 169 = .ok (.aload_n 0, 1) := by decide +kernel
theorem dX4_readStep_170 : decode cX4_readStep 170 = .ok (.invokevirtual 99, 3) := by decide +kernel
theorem dX4_readStep_173 : decode cX4_readStep 173 = .ok (.return_, 1) := by decide +kernel
theorem dX4_closeStep_0 : decode cX4_closeStep 0 = .ok (.iconst 0, 1) := by decide +kernel
theorem dX4_closeStep_1 : decode cX4_closeStep 1 = .ok (.istore_n 1, 1) := by decide +kernel
theorem dX4_closeStep_2 : decode cX4_closeStep 2 = .ok (.iload_n 1, 1) := by decide +kernel
theorem dX4_closeStep_3 : decode cX4_closeStep 3 = .ok (.iconst 4, 1) := by decide +kernel
theorem dX4_closeStep_4 : decode cX4_closeStep 4 = .ok (.if_icmp .ge 52, 3) := by decide +kernel
theorem dX4_closeStep_7 : decode cX4_closeStep 7 = .ok (.aload_n 0, 1) := by decide +kernel
theorem dX4_closeStep_8 : decode cX4_closeStep 8 = .ok (.invokevirtual 67, 3) := by decide +kernel
theorem dX4_closeStep_11 : decode cX4_closeStep 11 = .ok (.bipush 16, 2) := by decide +kernel
theorem dX4_closeStep_13 : decode cX4_closeStep 13 = .ok (.if_icmp .ne 43, 3) := by decide +kernel
theorem dX4_closeStep_16 : decode cX4_closeStep 16 = .ok (.aload_n 0, 1) := by decide +kernel
theorem dX4_closeStep_17 : decode cX4_closeStep 17 = .ok (.getfield 16, 3) := by decide +kernel
theorem dX4_closeStep_20 : decode cX4_closeStep 20 = .ok (.aload_n 0, 1) := by decide +kernel
theorem dX4_closeStep_21 : decode cX4_closeStep 21 = .ok (.getfield 43, 3) := by decide +kernel
theorem dX4_closeStep_24 : decode cX4_closeStep 24 = .ok (.aload_n 0, 1) := by decide +kernel
theorem dX4_closeStep_25 : decode cX4_closeStep 25 = .ok (.getfield 43, 3) := by decide +kernel
theorem dX4_closeStep_28 : decode cX4_closeStep 28 = .ok (.getfield 50, 3) := by decide +kernel
theorem dX4_closeStep_31 : decode cX4_closeStep 31 = .ok (.iconst 1, 1) := by decide +kernel
theorem dX4_closeStep_32 : decode cX4_closeStep 32 = .ok (.isub, 1) := by decide +kernel
theorem dX4_closeStep_33 : decode cX4_closeStep 33 = .ok (.invokevirtual 56, 3) := by decide +kernel
theorem dX4_closeStep_36 : decode cX4_closeStep 36 = .ok (.aload_n 0, 1) := by decide +kernel
theorem dX4_closeStep_37 : decode cX4_closeStep 37 = .ok (.getfield 16, 3) := by decide +kernel
theorem dX4_closeStep_40 : decode cX4_closeStep 40 = .ok (.getfield 50, 3) := by decide +kernel
theorem dX4_closeStep_43 : decode cX4_closeStep 43 = .ok (.invokevirtual 102, 3) := by decide +kernel
theorem dX4_closeStep_46 : decode cX4_closeStep 46 = .ok (.aload_n 0, 1) := by decide +kernel
theorem dX4_closeStep_47 : decode cX4_closeStep 47 = .ok (.invokevirtual 105, 3) := by decide +kernel
theorem dX4_closeStep_50 : decode cX4_closeStep 50 = .ok (.iinc 1 1, 3) := by decide +kernel
theorem dX4_closeStep_53 : decode cX4_closeStep 53 = .ok (.goto (-51), 3) := by decide +kernel
theorem dX4_closeStep_56 : decode cX4_closeStep 56 = .ok (.aload_n 0, 1) := by decide +kernel
theorem dX4_closeStep_57 : decode cX4_closeStep 57 = .ok (.iconst 3, 1) := by decide +kernel
theorem dX4_closeStep_58 : decode cX4_closeStep 58 = .ok (.invokevirtual 108, 3) := by decide +kernel
theorem dX4_closeStep_61 : decode cX4_closeStep 61 = .ok (.return_, 1) := by decide +kernel
theorem dX4_dropInnermost_0 : decode cX4_dropInnermost 0 = .ok (.aload_n 0, 1) := by decide +kernel
theorem dX4_dropInnermost_1 : decode cX4_dropInnermost 1 = .ok (.getfield 40, 3) := by decide +kernel
theorem dX4_dropInnermost_4 : decode cX4_dropInnermost 4 = .ok (.iconst 0, 1) := by decide +kernel
theorem dX4_dropInnermost_5 : decode cX4_dropInnermost 5 = .ok (.aload_n 0, 1) := by decide +kernel
theorem dX4_dropInnermost_6 : decode cX4_dropInnermost 6 = .ok (.getfield 40, 3) := by decide +kernel
theorem dX4_dropInnermost_9 : decode cX4_dropInnermost 9 = .ok (.getfield 50, 3) := by decide +kernel
theorem dX4_dropInnermost_12 : decode cX4_dropInnermost 12 = .ok (.iconst 1, 1) := by decide +kernel
theorem dX4_dropInnermost_13 : decode cX4_dropInnermost 13 = .ok (.isub, 1) := by decide +kernel
theorem dX4_dropInnermost_14 : decode cX4_dropInnermost 14 = .ok (.invokestatic 111, 3) := by decide +kernel
theorem dX4_dropInnermost_17 : decode cX4_dropInnermost 17 = .ok (.putfield 50, 3) := by decide +kernel
theorem dX4_dropInnermost_20 : decode cX4_dropInnermost 20 = .ok (.aload_n 0, 1) := by decide +kernel
theorem dX4_dropInnermost_21 : decode cX4_dropInnermost 21 = .ok (.getfield 43, 3) := by decide +kernel
theorem dX4_dropInnermost_24 : decode cX4_dropInnermost 24 = .ok (.iconst 0, 1) := by decide +kernel
theorem dX4_dropInnermost_25 : decode cX4_dropInnermost 25 = .ok (.aload_n 0, 1) := by decide +kernel
theorem dX4_dropInnermost_26 : decode cX4_dropInnermost 26 = .ok (.getfield 43, 3) := by decide +kernel
theorem dX4_dropInnermost_29 : decode cX4_dropInnermost 29 = .ok (.getfield 50, 3) := by decide +kernel
theorem dX4_dropInnermost_32 : decode cX4_dropInnermost 32 = .ok (.iconst 1, 1) := by decide +kernel
theorem dX4_dropInnermost_33 : decode cX4_dropInnermost 33 = .ok (.isub, 1) := by decide +kernel
theorem dX4_dropInnermost_34 : decode cX4_dropInnermost 34 = .ok (.invokestatic 111, 3) := by decide +kernel
theorem dX4_dropInnermost_37 : decode cX4_dropInnermost 37 = .ok (.putfield 50, 3) := by decide +kernel
theorem dX4_dropInnermost_40 : decode cX4_dropInnermost 40 = .ok (.return_, 1) := by decide +kernel
theorem dX4_openAgain_0 : decode cX4_openAgain 0 = .ok (.aload_n 0, 1) := by decide +kernel
theorem dX4_openAgain_1 : decode cX4_openAgain 1 = .ok (.iconst 1, 1) := by decide +kernel
theorem dX4_openAgain_2 : decode cX4_openAgain 2 = .ok (.bipush 99, 2) := by decide +kernel
theorem dX4_openAgain_4 : decode cX4_openAgain 4 = .ok (.invokevirtual 86, 3) := by decide +kernel
theorem dX4_openAgain_7 : decode cX4_openAgain 7 = .ok (.aload_n 0, 1) := by decide +kernel
theorem dX4_openAgain_8 : decode cX4_openAgain 8 = .ok (.getfield 40, 3) := by decide +kernel
theorem dX4_openAgain_11 : decode cX4_openAgain 11 = .ok (.bipush 15, 2) := by decide +kernel
theorem dX4_openAgain_13 : decode cX4_openAgain 13 = .ok (.invokevirtual 83, 3) := by decide +kernel
theorem dX4_openAgain_16 : decode cX4_openAgain 16 = .ok (.aload_n 0, 1) := by decide +kernel
theorem dX4_openAgain_17 : decode cX4_openAgain 17 = .ok (.getfield 16, 3) := by decide +kernel
theorem dX4_openAgain_20 : decode cX4_openAgain 20 = .ok (.aload_n 0, 1) := by decide +kernel
theorem dX4_openAgain_21 : decode cX4_openAgain 21 = .ok (.getfield 40, 3) := by decide +kernel
theorem dX4_openAgain_24 : decode cX4_openAgain 24 = .ok (.getfield 50, 3) := by decide +kernel
theorem dX4_openAgain_27 : decode cX4_openAgain 27 = .ok (.invokevirtual 83, 3) := by decide +kernel
theorem dX4_openAgain_30 : decode cX4_openAgain 30 = .ok (.aload_n 0, 1) := by decide +kernel
theorem dX4_openAgain_31 : decode cX4_openAgain 31 = .ok (.bipush 17, 2) := by decide +kernel
theorem dX4_openAgain_33 : decode cX4_openAgain 33 = .ok (.invokevirtual 108, 3) := by decide +kernel
theorem dX4_openAgain_36 : decode cX4_openAgain 36 = .ok (.aload_n 0, 1) := by decide +kernel
theorem dX4_openAgain_37 : decode cX4_openAgain 37 = .ok (.getfield 43, 3) := by decide +kernel
theorem dX4_openAgain_40 : decode cX4_openAgain 40 = .ok (.aload_n 0, 1) := by decide +kernel
theorem dX4_openAgain_41 : decode cX4_openAgain 41 = .ok (.getfield 16, 3) := by decide +kernel
theorem dX4_openAgain_44 : decode cX4_openAgain 44 = .ok (.getfield 50, 3) := by decide +kernel
theorem dX4_openAgain_47 : decode cX4_openAgain 47 = .ok (.invokevirtual 83, 3) := by decide +kernel
theorem dX4_openAgain_50 : decode cX4_openAgain 50 = .ok (.return_, 1) := by decide +kernel
theorem dX4_closeAgain_0 : decode cX4_closeAgain 0 = .ok (.aload_n 0, 1) := by decide +kernel
theorem dX4_closeAgain_1 : decode cX4_closeAgain 1 = .ok (.invokevirtual 80, 3) := by decide +kernel
theorem dX4_closeAgain_4 : decode cX4_closeAgain 4 = .ok (.aload_n 0, 1) := by decide +kernel
theorem dX4_closeAgain_5 : decode cX4_closeAgain 5 = .ok (.getfield 16, 3) := by decide +kernel
theorem dX4_closeAgain_8 : decode cX4_closeAgain 8 = .ok (.bipush 18, 2) := by decide +kernel
theorem dX4_closeAgain_10 : decode cX4_closeAgain 10 = .ok (.invokevirtual 83, 3) := by decide +kernel
theorem dX4_closeAgain_13 : decode cX4_closeAgain 13 = .ok (.aload_n 0, 1) := by decide +kernel
theorem dX4_closeAgain_14 : decode cX4_closeAgain 14 = .ok (.getfield 16, 3) := by decide +kernel
theorem dX4_closeAgain_17 : decode cX4_closeAgain 17 = .ok (.aload_n 0, 1) := by decide +kernel
theorem dX4_closeAgain_18 : decode cX4_closeAgain 18 = .ok (.getfield 40, 3) := by decide +kernel
theorem dX4_closeAgain_21 : decode cX4_closeAgain 21 = .ok (.getfield 50, 3) := by decide +kernel
theorem dX4_closeAgain_24 : decode cX4_closeAgain 24 = .ok (.invokevirtual 83, 3) := by decide +kernel
theorem dX4_closeAgain_27 : decode cX4_closeAgain 27 = .ok (.aload_n 0, 1) := by decide +kernel
theorem dX4_closeAgain_28 : decode cX4_closeAgain 28 = .ok (.getfield 16, 3) := by decide +kernel
theorem dX4_closeAgain_31 : decode cX4_closeAgain 31 = .ok (.aload_n 0, 1) := by decide +kernel
theorem dX4_closeAgain_32 : decode cX4_closeAgain 32 = .ok (.getfield 43, 3) := by decide +kernel
theorem dX4_closeAgain_35 : decode cX4_closeAgain 35 = .ok (.aload_n 0, 1) := by decide +kernel
theorem dX4_closeAgain_36 : decode cX4_closeAgain 36 = .ok (.getfield 43, 3) := by decide +kernel
theorem dX4_closeAgain_39 : decode cX4_closeAgain 39 = .ok (.getfield 50, 3) := by decide +kernel
theorem dX4_closeAgain_42 : decode cX4_closeAgain 42 = .ok (.iconst 1, 1) := by decide +kernel
theorem dX4_closeAgain_43 : decode cX4_closeAgain 43 = .ok (.isub, 1) := by decide +kernel
theorem dX4_closeAgain_44 : decode cX4_closeAgain 44 = .ok (.invokevirtual 56, 3) := by decide +kernel
theorem dX4_closeAgain_47 : decode cX4_closeAgain 47 = .ok (.invokevirtual 83, 3) := by decide +kernel
theorem dX4_closeAgain_50 : decode cX4_closeAgain 50 = .ok (.aload_n 0, 1) := by decide +kernel
theorem dX4_closeAgain_51 : decode cX4_closeAgain 51 = .ok (.invokevirtual 105, 3) := by decide +kernel
theorem dX4_closeAgain_54 : decode cX4_closeAgain 54 = .ok (.aload_n 0, 1) := by decide +kernel
theorem dX4_closeAgain_55 : decode cX4_closeAgain 55 = .ok (.invokevirtual 99, 3) := by decide +kernel
theorem dX4_closeAgain_58 : decode cX4_closeAgain 58 = .ok (.return_, 1) := by decide +kernel
theorem dX4_openIf_0 : decode cX4_openIf 0 = .ok (.aload_n 0, 1) := by decide +kernel
theorem dX4_openIf_1 : decode cX4_openIf 1 = .ok (.getfield 16, 3) := by decide +kernel
theorem dX4_openIf_4 : decode cX4_openIf 4 = .ok (.getfield 50, 3) := by decide +kernel
theorem dX4_openIf_7 : decode cX4_openIf 7 = .ok (.istore_n 1, 1) := by decide +kernel
theorem dX4_openIf_8 : decode cX4_openIf 8 = .ok (.aload_n 0, 1) := by decide +kernel
theorem dX4_openIf_9 : decode cX4_openIf 9 = .ok (.getfield 40, 3) := by decide +kernel
theorem dX4_openIf_12 : decode cX4_openIf 12 = .ok (.bipush 16, 2) := by decide +kernel
theorem dX4_openIf_14 : decode cX4_openIf 14 = .ok (.invokevirtual 83, 3) := by decide +kernel
theorem dX4_openIf_17 : decode cX4_openIf 17 = .ok (.aload_n 0, 1) := by decide +kernel
theorem dX4_openIf_18 : decode cX4_openIf 18 = .ok (.getfield 43, 3) := by decide +kernel
theorem dX4_openIf_21 : decode cX4_openIf 21 = .ok (.iload_n 1, 1) := by decide +kernel
theorem dX4_openIf_22 : decode cX4_openIf 22 = .ok (.invokevirtual 83, 3) := by decide +kernel
theorem dX4_openIf_25 : decode cX4_openIf 25 = .ok (.iconst 0, 1) := by decide +kernel
theorem dX4_openIf_26 : decode cX4_openIf 26 = .ok (.istore_n 2, 1) := by decide +kernel
theorem dX4_openIf_27 : decode cX4_openIf 27 = .ok (.iload_n 2, 1) := by decide +kernel
theorem dX4_openIf_28 : decode cX4_openIf 28 = .ok (.iconst 4, 1) := by decide +kernel
theorem dX4_openIf_29 : decode cX4_openIf 29 = .ok (.if_icmp .ge 17, 3) := by decide +kernel
theorem dX4_openIf_32 : decode cX4_openIf 32 = .ok (.aload_n 0, 1) := by decide +kernel
theorem dX4_openIf_33 : decode cX4_openIf 33 = .ok (.getfield 16, 3) := by decide +kernel
theorem dX4_openIf_36 : decode cX4_openIf 36 = .ok (.iconst 0, 1) := by decide +kernel
theorem dX4_openIf_37 : decode cX4_openIf 37 = .ok (.invokevirtual 83, 3) := by decide +kernel
theorem dX4_openIf_40 : decode cX4_openIf 40 = .ok (.iinc 2 1, 3) := by decide +kernel
theorem dX4_openIf_43 : decode cX4_openIf 43 = .ok (.goto (-16), 3) := by decide +kernel
theorem dX4_openIf_46 : decode cX4_openIf 46 = .ok (.aload_n 0, 1) := by decide +kernel
theorem dX4_openIf_47 : decode cX4_openIf 47 = .ok (.getfield 16, 3) := by decide +kernel
theorem dX4_openIf_50 : decode cX4_openIf 50 = .ok (.iload_n 1, 1) := by decide +kernel
theorem dX4_openIf_51 : decode cX4_openIf 51 = .ok (.iconst 2, 1) := by decide +kernel
theorem dX4_openIf_52 : decode cX4_openIf 52 = .ok (.iadd, 1) := by decide +kernel
theorem dX4_openIf_53 : decode cX4_openIf 53 = .ok (.aload_n 0, 1) := by decide +kernel
theorem dX4_openIf_54 : decode cX4_openIf 54 = .ok (.invokevirtual 117, 3) := by decide +kernel
theorem dX4_openIf_57 : decode cX4_openIf 57 = .ok (.invokevirtual 102, 3) := by decide +kernel
theorem dX4_openIf_60 : decode cX4_openIf 60 = .ok (.aload_n 0, 1) := by decide +kernel
theorem dX4_openIf_61 : decode cX4_openIf 61 = .ok (.getfield 16, 3) := by decide +kernel
theorem dX4_openIf_64 : decode cX4_openIf 64 = .ok (.iload_n 1, 1) := by decide +kernel
theorem dX4_openIf_65 : decode cX4_openIf 65 = .ok (.iconst 1, 1) := by decide +kernel
theorem dX4_openIf_66 : decode cX4_openIf 66 = .ok (.iadd, 1) := by decide +kernel
theorem dX4_openIf_67 : decode cX4_openIf 67 = .ok (.aload_n 0, 1) := by decide +kernel
theorem dX4_openIf_68 : decode cX4_openIf 68 = .ok (.getfield 37, 3) := by decide +kernel
theorem dX4_openIf_71 : decode cX4_openIf 71 = .ok (.invokevirtual 102, 3) := by decide +kernel
theorem dX4_openIf_74 : decode cX4_openIf 74 = .ok (.aload_n 0, 1) := by decide +kernel
theorem dX4_openIf_75 : decode cX4_openIf 75 = .ok (.getfield 37, 3) := by decide +kernel
theorem dX4_openIf_78 : decode cX4_openIf 78 = .ok (.bipush 6, 2) := by decide +kernel
theorem dX4_openIf_80 : decode cX4_openIf 80 = .ok (.bipush 8, 2) := by decide +kernel
theorem dX4_openIf_82 : decode cX4_openIf 82 = .ok (.invokestatic 60, 3) := by decide +kernel
theorem dX4_openIf_85 : decode cX4_openIf 85 = .ok (.ifCond .eq 10, 3) := by decide +kernel
theorem dX4_openIf_88 : decode cX4_openIf 88 = .ok (.aload_n 0, 1) := by decide +kernel
theorem dX4_openIf_89 : decode cX4_openIf 89 = .ok (.invokevirtual 80, 3) := by decide +kernel
theorem dX4_openIf_92 : decode cX4_openIf 92 = .ok (.goto 8, 3) := by decide +kernel
theorem dX4_openIf_95 : decode cX4_openIf 95 = .ok (.aload_n 0, 1) := by decide +kernel
theorem dX4_openIf_96 : decode cX4_openIf 96 = .ok (.iconst 1, 1) := by decide +kernel
theorem dX4_openIf_97 : decode cX4_openIf 97 = .ok (.invokevirtual 74, 3) := by decide +kernel
theorem dX4_openIf_100 : decode cX4_openIf 100 = .ok (.aload_n 0, 1) := by decide +kernel
theorem dX4_openIf_101 : decode cX4_openIf 101 = .ok (.getfield 16, 3) := by decide +kernel
theorem dX4_openIf_104 : decode cX4_openIf 104 = .ok (.iload_n 1, 1) := by decide +kernel
theorem dX4_openIf_105 : decode cX4_openIf 105 = .ok (.iconst 3, 1) := by decide +kernel
theorem dX4_openIf_106 : decode cX4_openIf 106 = .ok (.iadd, 1) := by decide +kernel
theorem dX4_openIf_107 : decode cX4_openIf 107 = .ok (.aload_n 0, 1) := by decide +kernel
theorem dX4_openIf_108 : decode cX4_openIf 108 = .ok (.invokevirtual 117, 3) := by decide +kernel
theorem dX4_openIf_111 : decode cX4_openIf 111 = .ok (.invokevirtual 102, 3) := by decide +kernel
theorem dX4_openIf_114 : decode cX4_openIf 114 = .ok (.return_, 1) := by decide +kernel
theorem dX4_readSum_0 : decode cX4_readSum 0 = .ok (.iconst 1, 1) := by decide +kernel
theorem dX4_readSum_1 : decode cX4_readSum 1 = .ok (.istore_n 1, 1) := by decide +kernel
theorem dX4_readSum_2 : decode cX4_readSum 2 = .ok (.aload_n 0, 1) := by decide +kernel
theorem dX4_readSum_3 : decode cX4_readSum 3 = .ok (.iconst 0, 1) := by decide +kernel
theorem dX4_readSum_4 : decode cX4_readSum 4 = .ok (.invokevirtual 120, 3) := by decide +kernel
theorem dX4_readSum_7 : decode cX4_readSum 7 = .ok (.iconst 0, 1) := by decide +kernel
theorem dX4_readSum_8 : decode cX4_readSum 8 = .ok (.istore_n 2, 1) := by decide +kernel
theorem dX4_readSum_9 : decode cX4_readSum 9 = .ok (.iload_n 2, 1) := by decide +kernel
theorem dX4_readSum_10 : decode cX4_readSum 10 = .ok (.sipush 400, 3) := by decide +kernel
theorem dX4_readSum_13 : decode cX4_readSum 13 = .ok (.if_icmp .ge 51, 3) := by decide +kernel
theorem dX4_readSum_16 : decode cX4_readSum 16 = .ok (.aload_n 0, 1) := by decide +kernel
theorem dX4_readSum_17 : decode cX4_readSum 17 = .ok (.getfield 37, 3) := by decide +kernel
theorem dX4_readSum_20 : decode cX4_readSum 20 = .ok (.iconst 4, 1) := by decide +kernel
theorem dX4_readSum_21 : decode cX4_readSum 21 = .ok (.if_icmp .eq 11, 3) := by decide +kernel
theorem dX4_readSum_24 : decode cX4_readSum 24 = .ok (.aload_n 0, 1) := by decide +kernel
theorem dX4_readSum_25 : decode cX4_readSum 25 = .ok (.getfield 37, 3) := by decide +kernel
theorem dX4_readSum_28 : decode cX4_readSum 28 = .ok (.iconst 5, 1) := by decide +kernel
theorem dX4_readSum_29 : decode cX4_readSum 29 = .ok (.if_icmp .ne 35, 3) := by decide +kernel
theorem dX4_readSum_32 : decode cX4_readSum 32 = .ok (.aload_n 0, 1) := by decide +kernel
theorem dX4_readSum_33 : decode cX4_readSum 33 = .ok (.getfield 37, 3) := by decide +kernel
theorem dX4_readSum_36 : decode cX4_readSum 36 = .ok (.iconst 5, 1) := by decide +kernel
theorem dX4_readSum_37 : decode cX4_readSum 37 = .ok (.if_icmp .ne 7, 3) := by decide +kernel
theorem dX4_readSum_40 : decode cX4_readSum 40 = .ok (.iconst 1, 1) := by decide +kernel
theorem dX4_readSum_41 : decode cX4_readSum 41 = .ok (.goto 4, 3) := by decide +kernel
theorem dX4_readSum_44 : decode cX4_readSum 44 = .ok (.iconst 0, 1) := by decide +kernel
theorem dX4_readSum_45 : decode cX4_readSum 45 = .ok (.istore_n 3, 1) := by decide +kernel
theorem dX4_readSum_46 : decode cX4_readSum 46 = .ok (.aload_n 0, 1) := by decide +kernel
theorem dX4_readSum_47 : decode cX4_readSum 47 = .ok (.invokevirtual 80, 3) := by decide +kernel
theorem dX4_readSum_50 : decode cX4_readSum 50 = .ok (.aload_n 0, 1) := by decide +kernel
theorem dX4_readSum_51 : decode cX4_readSum 51 = .ok (.iload_n 3, 1) := by decide +kernel
theorem dX4_readSum_52 : decode cX4_readSum 52 = .ok (.invokevirtual 120, 3) := by decide +kernel
theorem dX4_readSum_55 : decode cX4_readSum 55 = .ok (.iinc 1 1, 3) := by decide +kernel
theorem dX4_readSum_58 : decode cX4_readSum 58 = .ok (.iinc 2 1, 3) := by decide +kernel
theorem dX4_readSum_61 : decode cX4_readSum 61 = .ok (.goto (-52), 3) := by decide +kernel
theorem dX4_readSum_64 : decode cX4_readSum 64 = .ok (.iload_n 1, 1) := by decide +kernel
theorem dX4_readSum_65 : decode cX4_readSum 65 = .ok (.ireturn, 1) := by decide +kernel
theorem dX4_readTerm_0 : decode cX4_readTerm 0 = .ok (.aload_n 0, 1) := by decide +kernel
theorem dX4_readTerm_1 : decode cX4_readTerm 1 = .ok (.getfield 37, 3) := by decide +kernel
theorem dX4_readTerm_4 : decode cX4_readTerm 4 = .ok (.iconst 2, 1) := by decide +kernel
theorem dX4_readTerm_5 : decode cX4_readTerm 5 = .ok (.if_icmp .eq 17, 3) := by decide +kernel
theorem dX4_readTerm_8 : decode cX4_readTerm 8 = .ok (.aload_n 0, 1) := by decide +kernel
theorem dX4_readTerm_9 : decode cX4_readTerm 9 = .ok (.getfield 37, 3) := by decide +kernel
theorem dX4_readTerm_12 : decode cX4_readTerm 12 = .ok (.bipush 23, 2) := by decide +kernel
theorem dX4_readTerm_14 : decode cX4_readTerm 14 = .ok (.bipush 27, 2) := by decide +kernel
theorem dX4_readTerm_16 : decode cX4_readTerm 16 = .ok (.invokestatic 60, 3) := by decide +kernel
theorem dX4_readTerm_19 : decode cX4_readTerm 19 = .ok (.ifCond .eq 54, 3) := by decide +kernel
theorem dX4_readTerm_22 : decode cX4_readTerm 22 = .ok (.aload_n 0, 1) := by decide +kernel
theorem dX4_readTerm_23 : decode cX4_readTerm 23 = .ok (.getfield 16, 3) := by decide +kernel
theorem dX4_readTerm_26 : decode cX4_readTerm 26 = .ok (.iload_n 1, 1) := by decide +kernel
theorem dX4_readTerm_27 : decode cX4_readTerm 27 = .ok (.ifCond .eq 11, 3) := by decide +kernel
theorem dX4_readTerm_30 : decode cX4_readTerm 30 = .ok (.aload_n 0, 1) := by decide +kernel
theorem dX4_readTerm_31 : decode cX4_readTerm 31 = .ok (.getfield 37, 3) := by decide +kernel
theorem dX4_readTerm_34 : decode cX4_readTerm 34 = .ok (.ineg, 1) := by decide +kernel
theorem dX4_readTerm_35 : decode cX4_readTerm 35 = .ok (.goto 7, 3) := by decide +kernel
theorem dX4_readTerm_38 : decode cX4_readTerm 38 = .ok (.aload_n 0, 1) := by decide +kernel
theorem dX4_readTerm_39 : decode cX4_readTerm 39 = .ok (.getfield 37, 3) := by decide +kernel
theorem dX4_readTerm_42 : decode cX4_readTerm 42 = .ok (.invokevirtual 83, 3) := by decide +kernel
theorem dX4_readTerm_45 : decode cX4_readTerm 45 = .ok (.aload_n 0, 1) := by decide +kernel
theorem dX4_readTerm_46 : decode cX4_readTerm 46 = .ok (.getfield 16, 3) := by decide +kernel
theorem dX4_readTerm_49 : decode cX4_readTerm 49 = .ok (.aload_n 0, 1) := by decide +kernel
theorem dX4_readTerm_50 : decode cX4_readTerm 50 = .ok (.getfield 30, 3) := by decide +kernel
theorem dX4_readTerm_53 : decode cX4_readTerm 53 = .ok (.getfield 124, 3) := by decide +kernel
theorem dX4_readTerm_56 : decode cX4_readTerm 56 = .ok (.aload_n 0, 1) := by decide +kernel
theorem dX4_readTerm_57 : decode cX4_readTerm 57 = .ok (.getfield 34, 3) := by decide +kernel
theorem dX4_readTerm_60 : decode cX4_readTerm 60 = .ok (.invokevirtual 56, 3) := by decide +kernel
theorem dX4_readTerm_63 : decode cX4_readTerm 63 = .ok (.invokevirtual 83, 3) := by decide +kernel
theorem dX4_readTerm_66 : decode cX4_readTerm 66 = .ok (.aload_n 0, 1) := by decide +kernel
theorem dX4_readTerm_67 : decode cX4_readTerm 67 = .ok (.invokevirtual 80, 3) := by decide +kernel
theorem dX4_readTerm_70 : decode cX4_readTerm 70 = .ok (.goto 8, 3) := by decide +kernel
theorem dX4_readTerm_73 : decode cX4_readTerm 73 = .ok (.aload_n 0, 1) := by decide +kernel
theorem dX4_readTerm_74 : decode cX4_readTerm 74 = .ok (.iconst 1, 1) := by decide +kernel
theorem dX4_readTerm_75 : decode cX4_readTerm 75 = .ok (.invokevirtual 74, 3) := by decide +kernel
theorem dX4_readTerm_78 : decode cX4_readTerm 78 = .ok (.return_, 1) := by decide +kernel
theorem dX4_readNumber_0 : decode cX4_readNumber 0 = .ok (.aload_n 0, 1) := by decide +kernel
theorem dX4_readNumber_1 : decode cX4_readNumber 1 = .ok (.getfield 30, 3) := by decide +kernel
theorem dX4_readNumber_4 : decode cX4_readNumber 4 = .ok (.getfield 124, 3) := by decide +kernel
theorem dX4_readNumber_7 : decode cX4_readNumber 7 = .ok (.aload_n 0, 1) := by decide +kernel
theorem dX4_readNumber_8 : decode cX4_readNumber 8 = .ok (.getfield 34, 3) := by decide +kernel
theorem dX4_readNumber_11 : decode cX4_readNumber 11 = .ok (.invokevirtual 56, 3) := by decide +kernel
theorem dX4_readNumber_14 : decode cX4_readNumber 14 = .ok (.istore_n 3, 1) := by decide +kernel
theorem dX4_readNumber_15 : decode cX4_readNumber 15 = .ok (.aload_n 0, 1) := by decide +kernel
theorem dX4_readNumber_16 : decode cX4_readNumber 16 = .ok (.getfield 37, 3) := by decide +kernel
theorem dX4_readNumber_19 : decode cX4_readNumber 19 = .ok (.iconst 2, 1) := by decide +kernel
theorem dX4_readNumber_20 : decode cX4_readNumber 20 = .ok (.if_icmp .eq 11, 3) := by decide +kernel
theorem dX4_readNumber_23 : decode cX4_readNumber 23 = .ok (.aload_n 0, 1) := by decide +kernel
theorem dX4_readNumber_24 : decode cX4_readNumber 24 = .ok (.iconst 1, 1) := by decide +kernel
theorem dX4_readNumber_25 : decode cX4_readNumber 25 = .ok (.invokevirtual 74, 3) := by decide +kernel
theorem dX4_readNumber_28 : decode cX4_readNumber 28 = .ok (.goto 32, 3) := by decide +kernel
theorem dX4_readNumber_31 : decode cX4_readNumber 31 = .ok (.iload_n 3, 1) := by decide +kernel
theorem dX4_readNumber_32 : decode cX4_readNumber 32 = .ok (.iload_n 1, 1) := by decide +kernel
theorem dX4_readNumber_33 : decode cX4_readNumber 33 = .ok (.iload_n 2, 1) := by decide +kernel
theorem dX4_readNumber_34 : decode cX4_readNumber 34 = .ok (.invokestatic 60, 3) := by decide +kernel
theorem dX4_readNumber_37 : decode cX4_readNumber 37 = .ok (.ifCond .ne 11, 3) := by decide +kernel
theorem dX4_readNumber_40 : decode cX4_readNumber 40 = .ok (.aload_n 0, 1) := by decide +kernel
theorem dX4_readNumber_41 : decode cX4_readNumber 41 = .ok (.iconst 2, 1) := by decide +kernel
theorem dX4_readNumber_42 : decode cX4_readNumber 42 = .ok (.invokevirtual 74, 3) := by decide +kernel
theorem dX4_readNumber_45 : decode cX4_readNumber 45 = .ok (.goto 15, 3) := by decide +kernel
theorem dX4_readNumber_48 : decode cX4_readNumber 48 = .ok (.aload_n 0, 1) := by decide +kernel
theorem dX4_readNumber_49 : decode cX4_readNumber 49 = .ok (.getfield 16, 3) := by decide +kernel
theorem dX4_readNumber_52 : decode cX4_readNumber 52 = .ok (.iload_n 3, 1) := by decide +kernel
theorem dX4_readNumber_53 : decode cX4_readNumber 53 = .ok (.invokevirtual 83, 3) := by decide +kernel
theorem dX4_readNumber_56 : decode cX4_readNumber 56 = .ok (.aload_n 0, 1) := by decide +kernel
theorem dX4_readNumber_57 : decode cX4_readNumber 57 = .ok (.invokevirtual 80, 3) := by decide +kernel
theorem dX4_readNumber_60 : decode cX4_readNumber 60 = .ok (.return_, 1) := by decide +kernel
theorem dX4_readSide_0 : decode cX4_readSide 0 = .ok (.aload_n 0, 1) := by decide +kernel
theorem dX4_readSide_1 : decode cX4_readSide 1 = .ok (.getfield 37, 3) := by decide +kernel
theorem dX4_readSide_4 : decode cX4_readSide 4 = .ok (.bipush 19, 2) := by decide +kernel
theorem dX4_readSide_6 : decode cX4_readSide 6 = .ok (.bipush 22, 2) := by decide +kernel
theorem dX4_readSide_8 : decode cX4_readSide 8 = .ok (.invokestatic 60, 3) := by decide +kernel
theorem dX4_readSide_11 : decode cX4_readSide 11 = .ok (.ifCond .eq 24, 3) := by decide +kernel
theorem dX4_readSide_14 : decode cX4_readSide 14 = .ok (.aload_n 0, 1) := by decide +kernel
theorem dX4_readSide_15 : decode cX4_readSide 15 = .ok (.getfield 16, 3) := by decide +kernel
theorem dX4_readSide_18 : decode cX4_readSide 18 = .ok (.aload_n 0, 1) := by decide +kernel
theorem dX4_readSide_19 : decode cX4_readSide 19 = .ok (.getfield 37, 3) := by decide +kernel
theorem dX4_readSide_22 : decode cX4_readSide 22 = .ok (.bipush 19, 2) := by decide +kernel
theorem dX4_readSide_24 : decode cX4_readSide 24 = .ok (.isub, 1) := by decide +kernel
theorem dX4_readSide_25 : decode cX4_readSide 25 = .ok (.invokevirtual 83, 3) := by decide +kernel
theorem dX4_readSide_28 : decode cX4_readSide 28 = .ok (.aload_n 0, 1) := by decide +kernel
theorem dX4_readSide_29 : decode cX4_readSide 29 = .ok (.invokevirtual 80, 3) := by decide +kernel
theorem dX4_readSide_32 : decode cX4_readSide 32 = .ok (.goto 8, 3) := by decide +kernel
theorem dX4_readSide_35 : decode cX4_readSide 35 = .ok (.aload_n 0, 1) := by decide +kernel
theorem dX4_readSide_36 : decode cX4_readSide 36 = .ok (.iconst 1, 1) := by decide +kernel
theorem dX4_readSide_37 : decode cX4_readSide 37 = .ok (.invokevirtual 74, 3) := by decide +kernel
theorem dX4_readSide_40 : decode cX4_readSide 40 = .ok (.return_, 1) := by decide +kernel
theorem dX5_init_0 : decode cX5_init 0 = .ok (.aload_n 0, 1) := by decide +kernel
theorem dX5_init_1 : decode cX5_init 1 = .ok (.invokespecial 3, 3) := by decide +kernel
theorem dX5_init_4 : decode cX5_init 4 = .ok (.aload_n 0, 1) := by decide +kernel
theorem dX5_init_5 : decode cX5_init 5 = .ok (.iconst 0, 1) := by decide +kernel
theorem dX5_init_6 : decode cX5_init 6 = .ok (.putfield 9, 3) := by decide +kernel
theorem dX5_init_9 : decode cX5_init 9 = .ok (.aload_n 0, 1) := by decide +kernel
theorem dX5_init_10 : decode cX5_init 10 = .ok (.iconst 0, 1) := by decide +kernel
theorem dX5_init_11 : decode cX5_init 11 = .ok (.iload_n 1, 1) := by decide +kernel
theorem dX5_init_12 : decode cX5_init 12 = .ok (.invokestatic 15, 3) := by decide +kernel
theorem dX5_init_15 : decode cX5_init 15 = .ok (.newarray .int, 2) := by decide +kernel
theorem dX5_init_17 : decode cX5_init 17 = .ok (.putfield 21, 3) := by decide +kernel
theorem dX5_init_20 : decode cX5_init 20 = .ok (.return_, 1) := by decide +kernel
theorem dX5_add_0 : decode cX5_add 0 = .ok (.aload_n 0, 1) := by decide +kernel
theorem dX5_add_1 : decode cX5_add 1 = .ok (.getfield 9, 3) := by decide +kernel
theorem dX5_add_4 : decode cX5_add 4 = .ok (.aload_n 0, 1) := by decide +kernel
theorem dX5_add_5 : decode cX5_add 5 = .ok (.getfield 21, 3) := by decide +kernel
theorem dX5_add_8 : decode cX5_add 8 = .ok (.arraylength, 1) := by decide +kernel
theorem dX5_add_9 : decode cX5_add 9 = .ok (.if_icmp .ge 23, 3) := by decide +kernel
theorem dX5_add_12 : decode cX5_add 12 = .ok (.aload_n 0, 1) := by decide +kernel
theorem dX5_add_13 : decode cX5_add 13 = .ok (.getfield 21, 3) := by decide +kernel
theorem dX5_add_16 : decode cX5_add 16 = .ok (.aload_n 0, 1) := by decide +kernel
theorem dX5_add_17 : decode cX5_add 17 = .ok (.getfield 9, 3) := by decide +kernel
theorem dX5_add_20 : decode cX5_add 20 = .ok (.iload_n 1, 1) := by decide +kernel
theorem dX5_add_21 : decode cX5_add 21 = .ok (.iastore, 1) := by decide +kernel
theorem dX5_add_22 : decode cX5_add 22 = .ok (.aload_n 0, 1) := by decide +kernel
theorem dX5_add_23 : decode cX5_add 23 = .ok (.dup, 1) := by decide +kernel
theorem dX5_add_24 : decode cX5_add 24 = .ok (.getfield 9, 3) := by decide +kernel
theorem dX5_add_27 : decode cX5_add 27 = .ok (.iconst 1, 1) := by decide +kernel
theorem dX5_add_28 : decode cX5_add 28 = .ok (.iadd, 1) := by decide +kernel
theorem dX5_add_29 : decode cX5_add 29 = .ok (.putfield 9, 3) := by decide +kernel
theorem dX5_add_32 : decode cX5_add 32 = .ok (.return_, 1) := by decide +kernel
theorem dX5_addBytes_0 : decode cX5_addBytes 0 = .ok (.bipush 24, 2) := by decide +kernel
theorem dX5_addBytes_2 : decode cX5_addBytes 2 = .ok (.istore_n 2, 1) := by decide +kernel
theorem dX5_addBytes_3 : decode cX5_addBytes 3 = .ok (.iload_n 2, 1) := by decide +kernel
theorem dX5_addBytes_4 : decode cX5_addBytes 4 = .ok (.ifCond .lt 20, 3) := by decide +kernel
theorem dX5_addBytes_7 : decode cX5_addBytes 7 = .ok (.aload_n 0, 1) := by decide +kernel
theorem dX5_addBytes_8 : decode cX5_addBytes 8 = .ok (.iload_n 1, 1) := by decide +kernel
theorem dX5_addBytes_9 : decode cX5_addBytes 9 = .ok (.iload_n 2, 1) := by decide +kernel
theorem dX5_addBytes_10 : decode cX5_addBytes 10 = .ok (.iushr, 1) := by decide +kernel
theorem dX5_addBytes_11 : decode cX5_addBytes 11 = .ok (.sipush 255, 3) := by decide +kernel
theorem dX5_addBytes_14 : decode cX5_addBytes 14 = .ok (.iand, 1) := by decide +kernel
theorem dX5_addBytes_15 : decode cX5_addBytes 15 = .ok (.invokevirtual 25, 3) := by decide +kernel
theorem dX5_addBytes_18 : decode cX5_addBytes 18 = .ok (.iinc 2 (-8), 3) := by decide +kernel
theorem dX5_addBytes_21 : decode cX5_addBytes 21 = .ok (.goto (-18), 3) := by decide +kernel
theorem dX5_addBytes_24 : decode cX5_addBytes 24 = .ok (.return_, 1) := by decide +kernel
theorem dX5_put_0 : decode cX5_put 0 = .ok (.iload_n 1, 1) := by decide +kernel
theorem dX5_put_1 : decode cX5_put 1 = .ok (.ifCond .lt 18, 3) := by decide +kernel
theorem dX5_put_4 : decode cX5_put 4 = .ok (.iload_n 1, 1) := by decide +kernel
theorem dX5_put_5 : decode cX5_put 5 = .ok (.aload_n 0, 1) := by decide +kernel
theorem dX5_put_6 : decode cX5_put 6 = .ok (.getfield 9, 3) := by decide +kernel
theorem dX5_put_9 : decode cX5_put 9 = .ok (.if_icmp .ge 10, 3) := by decide +kernel
theorem dX5_put_12 : decode cX5_put 12 = .ok (.aload_n 0, 1) := by decide +kernel
theorem dX5_put_13 : decode cX5_put 13 = .ok (.getfield 21, 3) := by decide +kernel
theorem dX5_put_16 : decode cX5_put 16 = .ok (.iload_n 1, 1) := by decide +kernel
theorem dX5_put_17 : decode cX5_put 17 = .ok (.iload_n 2, 1) := by decide +kernel
theorem dX5_put_18 : decode cX5_put 18 = .ok (.iastore, 1) := by decide +kernel
theorem dX5_put_19 : decode cX5_put 19 = .ok (.return_, 1) := by decide +kernel
theorem dX5_at_0 : decode cX5_at 0 = .ok (.iload_n 1, 1) := by decide +kernel
theorem dX5_at_1 : decode cX5_at 1 = .ok (.ifCond .lt 20, 3) := by decide +kernel
theorem dX5_at_4 : decode cX5_at 4 = .ok (.iload_n 1, 1) := by decide +kernel
theorem dX5_at_5 : decode cX5_at 5 = .ok (.aload_n 0, 1) := by decide +kernel
theorem dX5_at_6 : decode cX5_at 6 = .ok (.getfield 9, 3) := by decide +kernel
theorem dX5_at_9 : decode cX5_at 9 = .ok (.if_icmp .ge 12, 3) := by decide +kernel
theorem dX5_at_12 : decode cX5_at 12 = .ok (.aload_n 0, 1) := by decide +kernel
theorem dX5_at_13 : decode cX5_at 13 = .ok (.getfield 21, 3) := by decide +kernel
theorem dX5_at_16 : decode cX5_at 16 = .ok (.iload_n 1, 1) := by decide +kernel
theorem dX5_at_17 : decode cX5_at 17 = .ok (.iaload, 1) := by decide +kernel
theorem dX5_at_18 : decode cX5_at 18 = .ok (.goto 4, 3) := by decide +kernel
theorem dX5_at_21 : decode cX5_at 21 = .ok (.iconst (-1), 1) := by decide +kernel
theorem dX5_at_22 : decode cX5_at 22 = .ok (.ireturn, 1) := by decide +kernel
theorem dX5_copyFrom_0 : decode cX5_copyFrom 0 = .ok (.aload_n 0, 1) := by decide +kernel
theorem dX5_copyFrom_1 : decode cX5_copyFrom 1 = .ok (.aload_n 1, 1) := by decide +kernel
theorem dX5_copyFrom_2 : decode cX5_copyFrom 2 = .ok (.getfield 9, 3) := by decide +kernel
theorem dX5_copyFrom_5 : decode cX5_copyFrom 5 = .ok (.aload_n 0, 1) := by decide +kernel
theorem dX5_copyFrom_6 : decode cX5_copyFrom 6 = .ok (.getfield 21, 3) := by decide +kernel
theorem dX5_copyFrom_9 : decode cX5_copyFrom 9 = .ok (.arraylength, 1) := by decide +kernel
theorem dX5_copyFrom_10 : decode cX5_copyFrom 10 = .ok (.invokestatic 29, 3) := by decide +kernel
theorem dX5_copyFrom_13 : decode cX5_copyFrom 13 = .ok (.putfield 9, 3) := by decide +kernel
theorem dX5_copyFrom_16 : decode cX5_copyFrom 16 = .ok (.aload_n 1, 1) := by decide +kernel
theorem dX5_copyFrom_17 : decode cX5_copyFrom 17 = .ok (.getfield 21, 3) := by decide +kernel
theorem dX5_copyFrom_20 : decode cX5_copyFrom 20 = .ok (.iconst 0, 1) := by decide +kernel
theorem dX5_copyFrom_21 : decode cX5_copyFrom 21 = .ok (.aload_n 0, 1) := by decide +kernel
theorem dX5_copyFrom_22 : decode cX5_copyFrom 22 = .ok (.getfield 21, 3) := by decide +kernel
theorem dX5_copyFrom_25 : decode cX5_copyFrom 25 = .ok (.iconst 0, 1) := by decide +kernel
theorem dX5_copyFrom_26 : decode cX5_copyFrom 26 = .ok (.aload_n 0, 1) := by decide +kernel
theorem dX5_copyFrom_27 : decode cX5_copyFrom 27 = .ok (.getfield 9, 3) := by decide +kernel
theorem dX5_copyFrom_30 : decode cX5_copyFrom 30 = .ok (.invokestatic 32, 3) := by decide +kernel
theorem dX5_copyFrom_33 : decode cX5_copyFrom 33 = .ok (.return_, 1) := by decide +kernel
theorem dX5_firstRunBelow_0 : decode cX5_firstRunBelow 0 = .ok (.iconst 0, 1) := by decide +kernel
theorem dX5_firstRunBelow_1 : decode cX5_firstRunBelow 1 = .ok (.istore_n 3, 1) := by decide +kernel
theorem dX5_firstRunBelow_2 : decode cX5_firstRunBelow 2 = .ok (.iconst 0, 1) := by decide +kernel
theorem dX5_firstRunBelow_3 : decode cX5_firstRunBelow 3 = .ok (.istore 4, 2) := by decide +kernel
theorem dX5_firstRunBelow_5 : decode cX5_firstRunBelow 5 = .ok (.iload 4, 2) := by decide +kernel
theorem dX5_firstRunBelow_7 : decode cX5_firstRunBelow 7 = .ok (.aload_n 0, 1) := by decide +kernel
theorem dX5_firstRunBelow_8 : decode cX5_firstRunBelow 8 = .ok (.getfield 9, 3) := by decide +kernel
theorem dX5_firstRunBelow_11 : decode cX5_firstRunBelow 11 = .ok (.if_icmp .ge 40, 3) := by decide +kernel
theorem dX5_firstRunBelow_14 : decode cX5_firstRunBelow 14 = .ok (.aload_n 0, 1) := by decide +kernel
theorem dX5_firstRunBelow_15 : decode cX5_firstRunBelow 15 = .ok (.getfield 21, 3) := by decide +kernel
theorem dX5_firstRunBelow_18 : decode cX5_firstRunBelow 18 = .ok (.iload 4, 2) := by decide +kernel
theorem dX5_firstRunBelow_20 : decode cX5_firstRunBelow 20 = .ok (.iaload, 1) := by decide +kernel
theorem dX5_firstRunBelow_21 : decode cX5_firstRunBelow 21 = .ok (.iload_n 1, 1) := by decide +kernel
theorem dX5_firstRunBelow_22 : decode cX5_firstRunBelow 22 = .ok (.if_icmp .ge 9, 3) := by decide +kernel
theorem dX5_firstRunBelow_25 : decode cX5_firstRunBelow 25 = .ok (.iload_n 3, 1) := by decide +kernel
theorem dX5_firstRunBelow_26 : decode cX5_firstRunBelow 26 = .ok (.iconst 1, 1) := by decide +kernel
theorem dX5_firstRunBelow_27 : decode cX5_firstRunBelow 27 = .ok (.iadd, 1) := by decide +kernel
theorem dX5_firstRunBelow_28 : decode cX5_firstRunBelow 28 = .ok (.goto 4, 3) := by decide +kernel
theorem dX5_firstRunBelow_31 : decode cX5_firstRunBelow 31 = .ok (.iconst 0, 1) := by decide +kernel
theorem dX5_firstRunBelow_32 : decode cX5_firstRunBelow 32 = .ok (.istore_n 3, 1) := by decide +kernel
theorem dX5_firstRunBelow_33 : decode cX5_firstRunBelow 33 = .ok (.iload_n 3, 1) := by decide +kernel
theorem dX5_firstRunBelow_34 : decode cX5_firstRunBelow 34 = .ok (.iload_n 2, 1) := by decide +kernel
theorem dX5_firstRunBelow_35 : decode cX5_firstRunBelow 35 = .ok (.if_icmp .ne 10, 3) := by decide +kernel
theorem dX5_firstRunBelow_38 : decode cX5_firstRunBelow 38 = .ok (.iload 4, 2) := by decide +kernel
theorem dX5_firstRunBelow_40 : decode cX5_firstRunBelow 40 = .ok (.iload_n 2, 1) := by decide +kernel
theorem dX5_firstRunBelow_41 : decode cX5_firstRunBelow 41 = .ok (.isub, 1) := by decide +kernel
theorem dX5_firstRunBelow_42 : decode cX5_firstRunBelow 42 = .ok (.iconst 1, 1) := by decide +kernel
theorem dX5_firstRunBelow_43 : decode cX5_firstRunBelow 43 = .ok (.iadd, 1) := by decide +kernel
theorem dX5_firstRunBelow_44 : decode cX5_firstRunBelow 44 = .ok (.ireturn, 1) := by decide +kernel
theorem dX5_firstRunBelow_45 : decode cX5_firstRunBelow 45 = .ok (.iinc 4 1, 3) := by decide +kernel
theorem dX5_firstRunBelow_48 : decode cX5_firstRunBelow 48 = .ok (.goto (-43), 3) := by decide +kernel
theorem dX5_firstRunBelow_51 : decode cX5_firstRunBelow 51 = .ok (.iconst (-1), 1) := by decide +kernel
theorem dX5_firstRunBelow_52 : decode cX5_firstRunBelow 52 = .ok (.ireturn, 1) := by decide +kernel
theorem dX6_init_0 : decode cX6_init 0 = .ok (.aload_n 0, 1) := by decide +kernel
theorem dX6_init_1 : decode cX6_init 1 = .ok (.invokespecial 3, 3) := by decide +kernel
theorem dX6_init_4 : decode cX6_init 4 = .ok (.aload_n 0, 1) := by decide +kernel
theorem dX6_init_5 : decode cX6_init 5 = .ok (.iconst 5, 1) := by decide +kernel
theorem dX6_init_6 : decode cX6_init 6 = .ok (.newarray .int, 2) := by decide +kernel
theorem dX6_init_8 : decode cX6_init 8 = .ok (.putfield 11, 3) := by decide +kernel
theorem dX6_init_11 : decode cX6_init 11 = .ok (.aload_n 0, 1) := by decide +kernel
theorem dX6_init_12 : decode cX6_init 12 = .ok (.iconst 0, 1) := by decide +kernel
theorem dX6_init_13 : decode cX6_init 13 = .ok (.putfield 15, 3) := by decide +kernel
theorem dX6_init_16 : decode cX6_init 16 = .ok (.aload_n 0, 1) := by decide +kernel
theorem dX6_init_17 : decode cX6_init 17 = .ok (.iconst 0, 1) := by decide +kernel
theorem dX6_init_18 : decode cX6_init 18 = .ok (.putfield 19, 3) := by decide +kernel
theorem dX6_init_21 : decode cX6_init 21 = .ok (.return_, 1) := by decide +kernel
theorem dX6_perform_0 : decode cX6_perform 0 = .ok (.aload_n 0, 1) := by decide +kernel
theorem dX6_perform_1 : decode cX6_perform 1 = .ok (.sipush 1000, 3) := by decide +kernel
theorem dX6_perform_4 : decode cX6_perform 4 = .ok (.putfield 15, 3) := by decide +kernel
theorem dX6_perform_7 : decode cX6_perform 7 = .ok (.aload_n 0, 1) := by decide +kernel
theorem dX6_perform_8 : decode cX6_perform 8 = .ok (.aload_n 2, 1) := by decide +kernel
theorem dX6_perform_9 : decode cX6_perform 9 = .ok (.getfield 22, 3) := by decide +kernel
theorem dX6_perform_12 : decode cX6_perform 12 = .ok (.putfield 19, 3) := by decide +kernel
theorem dX6_perform_15 : decode cX6_perform 15 = .ok (.iconst 0, 1) := by decide +kernel
theorem dX6_perform_16 : decode cX6_perform 16 = .ok (.istore 4, 2) := by decide +kernel
theorem dX6_perform_18 : decode cX6_perform 18 = .ok (.iconst 0, 1) := by decide +kernel
theorem dX6_perform_19 : decode cX6_perform 19 = .ok (.istore 5, 2) := by decide +kernel
theorem dX6_perform_21 : decode cX6_perform 21 = .ok (.iload 5, 2) := by decide +kernel
theorem dX6_perform_23 : decode cX6_perform 23 = .ok (.ldc 27, 2) := by decide +kernel
theorem dX6_perform_25 : decode cX6_perform 25 = .ok (.if_icmp .ge 281, 3) := by decide +kernel
theorem dX6_perform_28 : decode cX6_perform 28 = .ok (.iload 4, 2) := by decide +kernel
theorem dX6_perform_30 : decode cX6_perform 30 = .ok (.aload_n 1, 1) := by decide +kernel
theorem dX6_perform_31 : decode cX6_perform 31 = .ok (.getfield 28, 3) := by decide +kernel
theorem dX6_perform_34 : decode cX6_perform 34 = .ok (.if_icmp .ge 272, 3) := by decide +kernel
theorem dX6_perform_37 : decode cX6_perform 37 = .ok (.aload_n 0, 1) := by decide +kernel
theorem dX6_perform_38 : decode cX6_perform 38 = .ok (.getfield 15, 3) := by decide +kernel
theorem dX6_perform_41 : decode cX6_perform 41 = .ok (.ifCond .le 265, 3) := by decide +kernel
theorem dX6_perform_44 : decode cX6_perform 44 = .ok (.aload_n 1, 1) := by decide +kernel
theorem dX6_perform_45 : decode cX6_perform 45 = .ok (.iload 4, 2) := by decide +kernel
theorem dX6_perform_47 : decode cX6_perform 47 = .ok (.invokevirtual 33, 3) := by decide +kernel
theorem dX6_perform_50 : decode cX6_perform 50 = .ok (.istore 6, 2) := by decide +kernel
theorem dX6_perform_52 : decode cX6_perform 52 = .ok (.aload_n 1, 1) := by decide +kernel
theorem dX6_perform_53 : decode cX6_perform 53 = .ok (.iload 4, 2) := by decide +kernel
theorem dX6_perform_55 : decode cX6_perform 55 = .ok (.iconst 1, 1) := by decide +kernel
theorem dX6_perform_56 : decode cX6_perform 56 = .ok (.iadd, 1) := by decide +kernel
theorem dX6_perform_57 : decode cX6_perform 57 = .ok (.invokevirtual 33, 3) := by decide +kernel
theorem dX6_perform_60 : decode cX6_perform 60 = .ok (.istore 7, 2) := by decide +kernel
theorem dX6_perform_62 : decode cX6_perform 62 = .ok (.aload_n 1, 1) := by decide +kernel
theorem dX6_perform_63 : decode cX6_perform 63 = .ok (.iload 4, 2) := by decide +kernel
theorem dX6_perform_65 : decode cX6_perform 65 = .ok (.iconst 2, 1) := by decide +kernel
theorem dX6_perform_66 : decode cX6_perform 66 = .ok (.iadd, 1) := by decide +kernel
theorem dX6_perform_67 : decode cX6_perform 67 = .ok (.invokevirtual 33, 3) := by decide +kernel
theorem dX6_perform_70 : decode cX6_perform 70 = .ok (.istore 8, 2) := by decide +kernel
theorem dX6_perform_72 : decode cX6_perform 72 = .ok (.aload_n 0, 1) := by decide +kernel
theorem dX6_perform_73 : decode cX6_perform 73 = .ok (.dup, 1) := by decide +kernel
theorem dX6_perform_74 : decode cX6_perform 74 = .ok (.getfield 15, 3) := by decide +kernel
theorem dX6_perform_77 : decode cX6_perform 77 = .ok (.iload 6, 2) := by decide +kernel
theorem dX6_perform_79 : decode cX6_perform 79 = .ok (.bipush 18, 2) := by decide +kernel
theorem dX6_perform_81 : decode cX6_perform 81 = .ok (.if_icmp .ne 7, 3) := by decide +kernel
theorem dX6_perform_84 : decode cX6_perform 84 = .ok (.iconst 0, 1) := by decide +kernel
theorem dX6_perform_85 : decode cX6_perform 85 = .ok (.goto 4, 3) := by decide +kernel
theorem dX6_perform_88 : decode cX6_perform 88 = .ok (.iconst 1, 1) := by decide +kernel
theorem dX6_perform_89 : decode cX6_perform 89 = .ok (.isub, 1) := by decide +kernel
theorem dX6_perform_90 : decode cX6_perform 90 = .ok (.putfield 15, 3) := by decide +kernel
theorem dX6_perform_93 : decode cX6_perform 93 = .ok (.iload 6, 2) := by decide +kernel
theorem dX6_perform_95 : decode cX6_perform 95 = .ok (.tableswitch 183 11 18 #[45, 60, 76, 90, 105, 156, 183, 119], 45) := by decide +kernel
theorem dX6_perform_140 : decode cX6_perform 140 = .ok (.aload_n 2, 1) := by decide +kernel
theorem dX6_perform_141 : decode cX6_perform 141 = .ok (.iload 7, 2) := by decide +kernel
theorem dX6_perform_143 : decode cX6_perform 143 = .ok (.iload 8, 2) := by decide +kernel
theorem dX6_perform_145 : decode cX6_perform 145 = .ok (.invokevirtual 39, 3) := by decide +kernel
theorem dX6_perform_148 : decode cX6_perform 148 = .ok (.pop, 1) := by decide +kernel
theorem dX6_perform_149 : decode cX6_perform 149 = .ok (.iinc 4 3, 3) := by decide +kernel
theorem dX6_perform_152 : decode cX6_perform 152 = .ok (.goto 148, 3) := by decide +kernel
theorem dX6_perform_155 : decode cX6_perform 155 = .ok (.aload_n 0, 1) := by decide +kernel
theorem dX6_perform_156 : decode cX6_perform 156 = .ok (.aload_n 2, 1) := by decide +kernel
theorem dX6_perform_157 : decode cX6_perform 157 = .ok (.aload_n 3, 1) := by decide +kernel
theorem dX6_perform_158 : decode cX6_perform 158 = .ok (.iload 7, 2) := by decide +kernel
theorem dX6_perform_160 : decode cX6_perform 160 = .ok (.iload 8, 2) := by decide +kernel
theorem dX6_perform_162 : decode cX6_perform 162 = .ok (.invokevirtual 43, 3) := by decide +kernel
theorem dX6_perform_165 : decode cX6_perform 165 = .ok (.iinc 4 3, 3) := by decide +kernel
theorem dX6_perform_168 : decode cX6_perform 168 = .ok (.goto 132, 3) := by decide +kernel
theorem dX6_perform_171 : decode cX6_perform 171 = .ok (.aload_n 0, 1) := by decide +kernel
theorem dX6_perform_172 : decode cX6_perform 172 = .ok (.aload_n 2, 1) := by decide +kernel
theorem dX6_perform_173 : decode cX6_perform 173 = .ok (.aload_n 3, 1) := by decide +kernel
theorem dX6_perform_174 : decode cX6_perform 174 = .ok (.iload 7, 2) := by decide +kernel
theorem dX6_perform_176 : decode cX6_perform 176 = .ok (.invokevirtual 47, 3) := by decide +kernel
theorem dX6_perform_179 : decode cX6_perform 179 = .ok (.iinc 4 2, 3) := by decide +kernel
theorem dX6_perform_182 : decode cX6_perform 182 = .ok (.goto 118, 3) := by decide +kernel
theorem dX6_perform_185 : decode cX6_perform 185 = .ok (.aload_n 2, 1) := by decide +kernel
theorem dX6_perform_186 : decode cX6_perform 186 = .ok (.getfield 51, 3) := by decide +kernel
theorem dX6_perform_189 : decode cX6_perform 189 = .ok (.iload 7, 2) := by decide +kernel
theorem dX6_perform_191 : decode cX6_perform 191 = .ok (.putfield 55, 3) := by decide +kernel
theorem dX6_perform_194 : decode cX6_perform 194 = .ok (.iinc 4 2, 3) := by decide +kernel
theorem dX6_perform_197 : decode cX6_perform 197 = .ok (.goto 103, 3) := by decide +kernel
theorem dX6_perform_200 : decode cX6_perform 200 = .ok (.aload_n 0, 1) := by decide +kernel
theorem dX6_perform_201 : decode cX6_perform 201 = .ok (.iload 8, 2) := by decide +kernel
theorem dX6_perform_203 : decode cX6_perform 203 = .ok (.iload 7, 2) := by decide +kernel
theorem dX6_perform_205 : decode cX6_perform 205 = .ok (.invokevirtual 60, 3) := by decide +kernel
theorem dX6_perform_208 : decode cX6_perform 208 = .ok (.iinc 4 3, 3) := by decide +kernel
theorem dX6_perform_211 : decode cX6_perform 211 = .ok (.goto 89, 3) := by decide +kernel
theorem dX6_perform_214 : decode cX6_perform 214 = .ok (.aload_n 0, 1) := by decide +kernel
theorem dX6_perform_215 : decode cX6_perform 215 = .ok (.iload 7, 2) := by decide +kernel
theorem dX6_perform_217 : decode cX6_perform 217 = .ok (.aload_n 0, 1) := by decide +kernel
theorem dX6_perform_218 : decode cX6_perform 218 = .ok (.iload 7, 2) := by decide +kernel
theorem dX6_perform_220 : decode cX6_perform 220 = .ok (.invokevirtual 64, 3) := by decide +kernel
theorem dX6_perform_223 : decode cX6_perform 223 = .ok (.iconst 1, 1) := by decide +kernel
theorem dX6_perform_224 : decode cX6_perform 224 = .ok (.isub, 1) := by decide +kernel
theorem dX6_perform_225 : decode cX6_perform 225 = .ok (.invokevirtual 60, 3) := by decide +kernel
theorem dX6_perform_228 : decode cX6_perform 228 = .ok (.aload_n 0, 1) := by decide +kernel
theorem dX6_perform_229 : decode cX6_perform 229 = .ok (.iload 7, 2) := by decide +kernel
theorem dX6_perform_231 : decode cX6_perform 231 = .ok (.invokevirtual 64, 3) := by decide +kernel
theorem dX6_perform_234 : decode cX6_perform 234 = .ok (.ifCond .le 8, 3) := by decide +kernel
theorem dX6_perform_237 : decode cX6_perform 237 = .ok (.iload 8, 2) := by decide +kernel
theorem dX6_perform_239 : decode cX6_perform 239 = .ok (.goto 7, 3) := by decide +kernel
theorem dX6_perform_242 : decode cX6_perform 242 = .ok (.iload 4, 2) := by decide +kernel
theorem dX6_perform_244 : decode cX6_perform 244 = .ok (.iconst 3, 1) := by decide +kernel
theorem dX6_perform_245 : decode cX6_perform 245 = .ok (.iadd, 1) := by decide +kernel
theorem dX6_perform_246 : decode cX6_perform 246 = .ok (.istore 4, 2) := by decide +kernel
theorem dX6_perform_248 : decode cX6_perform 248 = .ok (.goto 52, 3) := by decide +kernel
theorem dX6_perform_251 : decode cX6_perform 251 = .ok (.aload_n 0, 1) := by decide +kernel
theorem dX6_perform_252 : decode cX6_perform 252 = .ok (.aload_n 1, 1) := by decide +kernel
theorem dX6_perform_253 : decode cX6_perform 253 = .ok (.iload 4, 2) := by decide +kernel
theorem dX6_perform_255 : decode cX6_perform 255 = .ok (.aload_n 2, 1) := by decide +kernel
theorem dX6_perform_256 : decode cX6_perform 256 = .ok (.invokevirtual 67, 3) := by decide +kernel
theorem dX6_perform_259 : decode cX6_perform 259 = .ok (.ifCond .eq 12, 3) := by decide +kernel
theorem dX6_perform_262 : decode cX6_perform 262 = .ok (.aload_n 1, 1) := by decide +kernel
theorem dX6_perform_263 : decode cX6_perform 263 = .ok (.iload 4, 2) := by decide +kernel
theorem dX6_perform_265 : decode cX6_perform 265 = .ok (.invokestatic 71, 3) := by decide +kernel
theorem dX6_perform_268 : decode cX6_perform 268 = .ok (.goto 5, 3) := by decide +kernel
theorem dX6_perform_271 : decode cX6_perform 271 = .ok (.iload 7, 2) := by decide +kernel
theorem dX6_perform_273 : decode cX6_perform 273 = .ok (.istore 4, 2) := by decide +kernel
theorem dX6_perform_275 : decode cX6_perform 275 = .ok (.goto 25, 3) := by decide +kernel
theorem dX6_perform_278 : decode cX6_perform 278 = .ok (.aload_n 2, 1) := by decide +kernel
theorem dX6_perform_279 : decode cX6_perform 279 = .ok (.getfield 51, 3) := by decide +kernel
theorem dX6_perform_282 : decode cX6_perform 282 = .ok (.iload 6, 2) := by decide +kernel
theorem dX6_perform_284 : decode cX6_perform 284 = .ok (.bipush 9, 2) := by decide +kernel
theorem dX6_perform_286 : decode cX6_perform 286 = .ok (.if_icmp .ne 7, 3) := by decide +kernel
theorem dX6_perform_289 : decode cX6_perform 289 = .ok (.iconst 1, 1) := by decide +kernel
theorem dX6_perform_290 : decode cX6_perform 290 = .ok (.goto 4, 3) := by decide +kernel
theorem dX6_perform_293 : decode cX6_perform 293 = .ok (.iconst 0, 1) := by decide +kernel
theorem dX6_perform_294 : decode cX6_perform 294 = .ok (.putfield 75, 3) := by decide +kernel
theorem dX6_perform_297 : decode cX6_perform 297 = .ok (.iinc 4 1, 3) := by decide +kernel
theorem dX6_perform_300 : decode cX6_perform 300 = .ok (.iinc 5 1, 3) := by decide +kernel
theorem dX6_perform_303 : decode cX6_perform 303 = .ok (.goto (-282), 3) := by decide +kernel
theorem dX6_perform_306 : decode cX6_perform 306 = .ok (.aload_n 2, 1) := by decide +kernel
theorem dX6_perform_307 : decode cX6_perform 307 = .ok (.dup, 1) := by decide +kernel
theorem dX6_perform_308 : decode cX6_perform 308 = .ok (.getfield 79, 3) := by decide +kernel
theorem dX6_perform_311 : decode cX6_perform 311 = .ok (.aload_n 0, 1) := by decide +kernel
theorem dX6_perform_312 : decode cX6_perform 312 = .ok (.getfield 15, 3) := by decide +kernel
theorem dX6_perform_315 : decode cX6_perform 315 = .ok (.ifCond .ne 7, 3) := by decide +kernel
theorem dX6_perform_318 : decode cX6_perform 318 = .ok (.iconst 1, 1) := by decide +kernel
theorem dX6_perform_319 : decode cX6_perform 319 = .ok (.goto 4, 3) := by decide +kernel
theorem dX6_perform_322 : decode cX6_perform 322 = .ok (.iconst 0, 1) := by decide +kernel
theorem dX6_perform_323 : decode cX6_perform 323 = .ok (.iadd, 1) := by decide +kernel
theorem dX6_perform_324 : decode cX6_perform 324 = .ok (.putfield 79, 3) := by decide +kernel
theorem dX6_perform_327 : decode cX6_perform 327 = .ok (.aload_n 2, 1) := by decide +kernel
theorem dX6_perform_328 : decode cX6_perform 328 = .ok (.getfield 22, 3) := by decide +kernel
theorem dX6_perform_331 : decode cX6_perform 331 = .ok (.aload_n 0, 1) := by decide +kernel
theorem dX6_perform_332 : decode cX6_perform 332 = .ok (.getfield 19, 3) := by decide +kernel
theorem dX6_perform_335 : decode cX6_perform 335 = .ok (.isub, 1) := by decide +kernel
theorem dX6_perform_336 : decode cX6_perform 336 = .ok (.ireturn, 1) := by decide +kernel
theorem dX6_turns_0 : decode cX6_turns 0 = .ok (.iload_n 1, 1) := by decide +kernel
theorem dX6_turns_1 : decode cX6_turns 1 = .ok (.iconst 0, 1) := by decide +kernel
theorem dX6_turns_2 : decode cX6_turns 2 = .ok (.iconst 4, 1) := by decide +kernel
theorem dX6_turns_3 : decode cX6_turns 3 = .ok (.invokestatic 82, 3) := by decide +kernel
theorem dX6_turns_6 : decode cX6_turns 6 = .ok (.ifCond .eq 12, 3) := by decide +kernel
theorem dX6_turns_9 : decode cX6_turns 9 = .ok (.aload_n 0, 1) := by decide +kernel
theorem dX6_turns_10 : decode cX6_turns 10 = .ok (.getfield 11, 3) := by decide +kernel
theorem dX6_turns_13 : decode cX6_turns 13 = .ok (.iload_n 1, 1) := by decide +kernel
theorem dX6_turns_14 : decode cX6_turns 14 = .ok (.iaload, 1) := by decide +kernel
theorem dX6_turns_15 : decode cX6_turns 15 = .ok (.goto 4, 3) := by decide +kernel
theorem dX6_turns_18 : decode cX6_turns 18 = .ok (.iconst 0, 1) := by decide +kernel
theorem dX6_turns_19 : decode cX6_turns 19 = .ok (.ireturn, 1) := by decide +kernel
theorem dX6_setTurns_0 : decode cX6_setTurns 0 = .ok (.iload_n 1, 1) := by decide +kernel
theorem dX6_setTurns_1 : decode cX6_setTurns 1 = .ok (.iconst 0, 1) := by decide +kernel
theorem dX6_setTurns_2 : decode cX6_setTurns 2 = .ok (.iconst 4, 1) := by decide +kernel
theorem dX6_setTurns_3 : decode cX6_setTurns 3 = .ok (.invokestatic 82, 3) := by decide +kernel
theorem dX6_setTurns_6 : decode cX6_setTurns 6 = .ok (.ifCond .eq 10, 3) := by decide +kernel
theorem dX6_setTurns_9 : decode cX6_setTurns 9 = .ok (.aload_n 0, 1) := by decide +kernel
theorem dX6_setTurns_10 : decode cX6_setTurns 10 = .ok (.getfield 11, 3) := by decide +kernel
theorem dX6_setTurns_13 : decode cX6_setTurns 13 = .ok (.iload_n 1, 1) := by decide +kernel
theorem dX6_setTurns_14 : decode cX6_setTurns 14 = .ok (.iload_n 2, 1) := by decide +kernel
theorem dX6_setTurns_15 : decode cX6_setTurns 15 = .ok (.iastore, 1) := by decide +kernel
theorem dX6_setTurns_16 : decode cX6_setTurns 16 = .ok (.return_, 1) := by decide +kernel
theorem dX6_travel_0 : decode cX6_travel 0 = .ok (.iconst 1, 1) := by decide +kernel
theorem dX6_travel_1 : decode cX6_travel 1 = .ok (.istore 5, 2) := by decide +kernel
theorem dX6_travel_3 : decode cX6_travel 3 = .ok (.iconst 0, 1) := by decide +kernel
theorem dX6_travel_4 : decode cX6_travel 4 = .ok (.istore 6, 2) := by decide +kernel
theorem dX6_travel_6 : decode cX6_travel 6 = .ok (.iload 6, 2) := by decide +kernel
theorem dX6_travel_8 : decode cX6_travel 8 = .ok (.iload 4, 2) := by decide +kernel
theorem dX6_travel_10 : decode cX6_travel 10 = .ok (.if_icmp .ge 99, 3) := by decide +kernel
theorem dX6_travel_13 : decode cX6_travel 13 = .ok (.aload_n 0, 1) := by decide +kernel
theorem dX6_travel_14 : decode cX6_travel 14 = .ok (.getfield 15, 3) := by decide +kernel
theorem dX6_travel_17 : decode cX6_travel 17 = .ok (.ifCond .le 92, 3) := by decide +kernel
theorem dX6_travel_20 : decode cX6_travel 20 = .ok (.iload 5, 2) := by decide +kernel
theorem dX6_travel_22 : decode cX6_travel 22 = .ok (.ifCond .eq 87, 3) := by decide +kernel
theorem dX6_travel_25 : decode cX6_travel 25 = .ok (.aload_n 1, 1) := by decide +kernel
theorem dX6_travel_26 : decode cX6_travel 26 = .ok (.aload_n 1, 1) := by decide +kernel
theorem dX6_travel_27 : decode cX6_travel 27 = .ok (.getfield 51, 3) := by decide +kernel
theorem dX6_travel_30 : decode cX6_travel 30 = .ok (.getfield 88, 3) := by decide +kernel
theorem dX6_travel_33 : decode cX6_travel 33 = .ok (.iload_n 3, 1) := by decide +kernel
theorem dX6_travel_34 : decode cX6_travel 34 = .ok (.invokestatic 91, 3) := by decide +kernel
theorem dX6_travel_37 : decode cX6_travel 37 = .ok (.iadd, 1) := by decide +kernel
theorem dX6_travel_38 : decode cX6_travel 38 = .ok (.aload_n 1, 1) := by decide +kernel
theorem dX6_travel_39 : decode cX6_travel 39 = .ok (.getfield 51, 3) := by decide +kernel
theorem dX6_travel_42 : decode cX6_travel 42 = .ok (.getfield 94, 3) := by decide +kernel
theorem dX6_travel_45 : decode cX6_travel 45 = .ok (.iload_n 3, 1) := by decide +kernel
theorem dX6_travel_46 : decode cX6_travel 46 = .ok (.invokestatic 97, 3) := by decide +kernel
theorem dX6_travel_49 : decode cX6_travel 49 = .ok (.iadd, 1) := by decide +kernel
theorem dX6_travel_50 : decode cX6_travel 50 = .ok (.invokevirtual 39, 3) := by decide +kernel
theorem dX6_travel_53 : decode cX6_travel 53 = .ok (.istore 5, 2) := by decide +kernel
theorem dX6_travel_55 : decode cX6_travel 55 = .ok (.iconst 0, 1) := by decide +kernel
theorem dX6_travel_56 : decode cX6_travel 56 = .ok (.istore 7, 2) := by decide +kernel
theorem dX6_travel_58 : decode cX6_travel 58 = .ok (.iload 7, 2) := by decide +kernel
theorem dX6_travel_60 : decode cX6_travel 60 = .ok (.aload_n 1, 1) := by decide +kernel
theorem dX6_travel_61 : decode cX6_travel 61 = .ok (.getfield 51, 3) := by decide +kernel
theorem dX6_travel_64 : decode cX6_travel 64 = .ok (.getfield 55, 3) := by decide +kernel
theorem dX6_travel_67 : decode cX6_travel 67 = .ok (.if_icmp .ge 36, 3) := by decide +kernel
theorem dX6_travel_70 : decode cX6_travel 70 = .ok (.aload_n 0, 1) := by decide +kernel
theorem dX6_travel_71 : decode cX6_travel 71 = .ok (.getfield 15, 3) := by decide +kernel
theorem dX6_travel_74 : decode cX6_travel 74 = .ok (.ifCond .le 29, 3) := by decide +kernel
theorem dX6_travel_77 : decode cX6_travel 77 = .ok (.iload 5, 2) := by decide +kernel
theorem dX6_travel_79 : decode cX6_travel 79 = .ok (.ifCond .eq 24, 3) := by decide +kernel
theorem dX6_travel_82 : decode cX6_travel 82 = .ok (.aload_n 0, 1) := by decide +kernel
theorem dX6_travel_83 : decode cX6_travel 83 = .ok (.dup, 1) := by decide +kernel
theorem dX6_travel_84 : decode cX6_travel 84 = .ok (.getfield 15, 3) := by decide +kernel
theorem dX6_travel_87 : decode cX6_travel 87 = .ok (.iconst 1, 1) := by decide +kernel
theorem dX6_travel_88 : decode cX6_travel 88 = .ok (.isub, 1) := by decide +kernel
theorem dX6_travel_89 : decode cX6_travel 89 = .ok (.putfield 15, 3) := by decide +kernel
theorem dX6_travel_92 : decode cX6_travel 92 = .ok (.aload_n 1, 1) := by decide +kernel
theorem dX6_travel_93 : decode cX6_travel 93 = .ok (.aload_n 2, 1) := by decide +kernel
theorem dX6_travel_94 : decode cX6_travel 94 = .ok (.invokevirtual 100, 3) := by decide +kernel
theorem dX6_travel_97 : decode cX6_travel 97 = .ok (.iinc 7 1, 3) := by decide +kernel
theorem dX6_travel_100 : decode cX6_travel 100 = .ok (.goto (-42), 3) := by decide +kernel
theorem dX6_travel_103 : decode cX6_travel 103 = .ok (.iinc 6 1, 3) := by decide +kernel
theorem dX6_travel_106 : decode cX6_travel 106 = .ok (.goto (-100), 3) := by decide +kernel
theorem dX6_travel_109 : decode cX6_travel 109 = .ok (.return_, 1) := by decide +kernel
theorem dX6_stay_0 : decode cX6_stay 0 = .ok (.iconst 0, 1) := by decide +kernel
theorem dX6_stay_1 : decode cX6_stay 1 = .ok (.istore 4, 2) := by decide +kernel
theorem dX6_stay_3 : decode cX6_stay 3 = .ok (.iload 4, 2) := by decide +kernel
theorem dX6_stay_5 : decode cX6_stay 5 = .ok (.iload_n 3, 1) := by decide +kernel
theorem dX6_stay_6 : decode cX6_stay 6 = .ok (.if_icmp .ge 31, 3) := by decide +kernel
theorem dX6_stay_9 : decode cX6_stay 9 = .ok (.aload_n 0, 1) := by decide +kernel
theorem dX6_stay_10 : decode cX6_stay 10 = .ok (.getfield 15, 3) := by decide +kernel
theorem dX6_stay_13 : decode cX6_stay 13 = .ok (.ifCond .le 24, 3) := by decide +kernel
theorem dX6_stay_16 : decode cX6_stay 16 = .ok (.aload_n 0, 1) := by decide +kernel
theorem dX6_stay_17 : decode cX6_stay 17 = .ok (.dup, 1) := by decide +kernel
theorem dX6_stay_18 : decode cX6_stay 18 = .ok (.getfield 15, 3) := by decide +kernel
theorem dX6_stay_21 : decode cX6_stay 21 = .ok (.iconst 1, 1) := by decide +kernel
theorem dX6_stay_22 : decode cX6_stay 22 = .ok (.isub, 1) := by decide +kernel
theorem dX6_stay_23 : decode cX6_stay 23 = .ok (.putfield 15, 3) := by decide +kernel
theorem dX6_stay_26 : decode cX6_stay 26 = .ok (.aload_n 1, 1) := by decide +kernel
theorem dX6_stay_27 : decode cX6_stay 27 = .ok (.aload_n 2, 1) := by decide +kernel
theorem dX6_stay_28 : decode cX6_stay 28 = .ok (.invokevirtual 100, 3) := by decide +kernel
theorem dX6_stay_31 : decode cX6_stay 31 = .ok (.iinc 4 1, 3) := by decide +kernel
theorem dX6_stay_34 : decode cX6_stay 34 = .ok (.goto (-31), 3) := by decide +kernel
theorem dX6_stay_37 : decode cX6_stay 37 = .ok (.return_, 1) := by decide +kernel
theorem dX6_stepOfIf_0 : decode cX6_stepOfIf 0 = .ok (.iload_n 1, 1) := by decide +kernel
theorem dX6_stepOfIf_1 : decode cX6_stepOfIf 1 = .ok (.iconst 5, 1) := by decide +kernel
theorem dX6_stepOfIf_2 : decode cX6_stepOfIf 2 = .ok (.iadd, 1) := by decide +kernel
theorem dX6_stepOfIf_3 : decode cX6_stepOfIf 3 = .ok (.iconst 2, 1) := by decide +kernel
theorem dX6_stepOfIf_4 : decode cX6_stepOfIf 4 = .ok (.aload_n 0, 1) := by decide +kernel
theorem dX6_stepOfIf_5 : decode cX6_stepOfIf 5 = .ok (.iload_n 1, 1) := by decide +kernel
theorem dX6_stepOfIf_6 : decode cX6_stepOfIf 6 = .ok (.iconst 3, 1) := by decide +kernel
theorem dX6_stepOfIf_7 : decode cX6_stepOfIf 7 = .ok (.iadd, 1) := by decide +kernel
theorem dX6_stepOfIf_8 : decode cX6_stepOfIf 8 = .ok (.invokevirtual 33, 3) := by decide +kernel
theorem dX6_stepOfIf_11 : decode cX6_stepOfIf 11 = .ok (.aload_n 0, 1) := by decide +kernel
theorem dX6_stepOfIf_12 : decode cX6_stepOfIf 12 = .ok (.iload_n 1, 1) := by decide +kernel
theorem dX6_stepOfIf_13 : decode cX6_stepOfIf 13 = .ok (.iconst 4, 1) := by decide +kernel
theorem dX6_stepOfIf_14 : decode cX6_stepOfIf 14 = .ok (.iadd, 1) := by decide +kernel
theorem dX6_stepOfIf_15 : decode cX6_stepOfIf 15 = .ok (.invokevirtual 33, 3) := by decide +kernel
theorem dX6_stepOfIf_18 : decode cX6_stepOfIf 18 = .ok (.iadd, 1) := by decide +kernel
theorem dX6_stepOfIf_19 : decode cX6_stepOfIf 19 = .ok (.imul, 1) := by decide +kernel
theorem dX6_stepOfIf_20 : decode cX6_stepOfIf 20 = .ok (.iadd, 1) := by decide +kernel
theorem dX6_stepOfIf_21 : decode cX6_stepOfIf 21 = .ok (.ireturn, 1) := by decide +kernel
theorem dX6_isSo_0 : decode cX6_isSo 0 = .ok (.aload_n 1, 1) := by decide +kernel
theorem dX6_isSo_1 : decode cX6_isSo 1 = .ok (.iload_n 2, 1) := by decide +kernel
theorem dX6_isSo_2 : decode cX6_isSo 2 = .ok (.iconst 3, 1) := by decide +kernel
theorem dX6_isSo_3 : decode cX6_isSo 3 = .ok (.iadd, 1) := by decide +kernel
theorem dX6_isSo_4 : decode cX6_isSo 4 = .ok (.invokevirtual 33, 3) := by decide +kernel
theorem dX6_isSo_7 : decode cX6_isSo 7 = .ok (.istore 4, 2) := by decide +kernel
theorem dX6_isSo_9 : decode cX6_isSo 9 = .ok (.aload_n 0, 1) := by decide +kernel
theorem dX6_isSo_10 : decode cX6_isSo 10 = .ok (.aload_n 1, 1) := by decide +kernel
theorem dX6_isSo_11 : decode cX6_isSo 11 = .ok (.iload_n 2, 1) := by decide +kernel
theorem dX6_isSo_12 : decode cX6_isSo 12 = .ok (.iconst 5, 1) := by decide +kernel
theorem dX6_isSo_13 : decode cX6_isSo 13 = .ok (.iadd, 1) := by decide +kernel
theorem dX6_isSo_14 : decode cX6_isSo 14 = .ok (.iload 4, 2) := by decide +kernel
theorem dX6_isSo_16 : decode cX6_isSo 16 = .ok (.aload_n 3, 1) := by decide +kernel
theorem dX6_isSo_17 : decode cX6_isSo 17 = .ok (.invokevirtual 104, 3) := by decide +kernel
theorem dX6_isSo_20 : decode cX6_isSo 20 = .ok (.lstore 5, 2) := by decide +kernel
theorem dX6_isSo_22 : decode cX6_isSo 22 = .ok (.aload_n 0, 1) := by decide +kernel
theorem dX6_isSo_23 : decode cX6_isSo 23 = .ok (.aload_n 1, 1) := by decide +kernel
theorem dX6_isSo_24 : decode cX6_isSo 24 = .ok (.iload_n 2, 1) := by decide +kernel
theorem dX6_isSo_25 : decode cX6_isSo 25 = .ok (.iconst 5, 1) := by decide +kernel
theorem dX6_isSo_26 : decode cX6_isSo 26 = .ok (.iadd, 1) := by decide +kernel
theorem dX6_isSo_27 : decode cX6_isSo 27 = .ok (.iconst 2, 1) := by decide +kernel
theorem dX6_isSo_28 : decode cX6_isSo 28 = .ok (.iload 4, 2) := by decide +kernel
theorem dX6_isSo_30 : decode cX6_isSo 30 = .ok (.imul, 1) := by decide +kernel
theorem dX6_isSo_31 : decode cX6_isSo 31 = .ok (.iadd, 1) := by decide +kernel
theorem dX6_isSo_32 : decode cX6_isSo 32 = .ok (.aload_n 1, 1) := by decide +kernel
theorem dX6_isSo_33 : decode cX6_isSo 33 = .ok (.iload_n 2, 1) := by decide +kernel
theorem dX6_isSo_34 : decode cX6_isSo 34 = .ok (.iconst 4, 1) := by decide +kernel
theorem dX6_isSo_35 : decode cX6_isSo 35 = .ok (.iadd, 1) := by decide +kernel
theorem dX6_isSo_36 : decode cX6_isSo 36 = .ok (.invokevirtual 33, 3) := by decide +kernel
theorem dX6_isSo_39 : decode cX6_isSo 39 = .ok (.aload_n 3, 1) := by decide +kernel
theorem dX6_isSo_40 : decode cX6_isSo 40 = .ok (.invokevirtual 104, 3) := by decide +kernel
theorem dX6_isSo_43 : decode cX6_isSo 43 = .ok (.lstore 7, 2) := by decide +kernel
theorem dX6_isSo_45 : decode cX6_isSo 45 = .ok (.aload_n 1, 1) := by decide +kernel
theorem dX6_isSo_46 : decode cX6_isSo 46 = .ok (.iload_n 2, 1) := by decide +kernel
theorem dX6_isSo_47 : decode cX6_isSo 47 = .ok (.iconst 2, 1) := by decide +kernel
theorem dX6_isSo_48 : decode cX6_isSo 48 = .ok (.iadd, 1) := by decide +kernel
theorem dX6_isSo_49 : decode cX6_isSo 49 = .ok (.invokevirtual 33, 3) := by decide +kernel
theorem dX6_isSo_52 : decode cX6_isSo 52 = .ok (.lookupswitch 56 #[(6, 28), (7, 42)], 28) := by decide +kernel
theorem dX6_isSo_80 : decode cX6_isSo 80 = .ok (.lload 5, 2) := by decide +kernel
theorem dX6_isSo_82 : decode cX6_isSo 82 = .ok (.lload 7, 2) := by decide +kernel
theorem dX6_isSo_84 : decode cX6_isSo 84 = .ok (.lcmp, 1) := by decide +kernel
theorem dX6_isSo_85 : decode cX6_isSo 85 = .ok (.ifCond .ge 7, 3) := by decide +kernel
theorem dX6_isSo_88 : decode cX6_isSo 88 = .ok (.iconst 1, 1) := by decide +kernel
theorem dX6_isSo_89 : decode cX6_isSo 89 = .ok (.goto 4, 3) := by decide +kernel
theorem dX6_isSo_92 : decode cX6_isSo 92 = .ok (.iconst 0, 1) := by decide +kernel
theorem dX6_isSo_93 : decode cX6_isSo 93 = .ok (.ireturn, 1) := by decide +kernel
theorem dX6_isSo_94 : decode cX6_isSo 94 = .ok (.lload 5, 2) := by decide +kernel
theorem dX6_isSo_96 : decode cX6_isSo 96 = .ok (.lload 7, 2) := by decide +kernel
theorem dX6_isSo_98 : decode cX6_isSo 98 = .ok (.lcmp, 1) := by decide +kernel
theorem dX6_isSo_99 : decode cX6_isSo 99 = .ok (.ifCond .ne 7, 3) := by decide +kernel
theorem dX6_isSo_102 : decode cX6_isSo 102 = .ok (.iconst 1, 1) := by decide +kernel
theorem dX6_isSo_103 : decode cX6_isSo 103 = .ok (.goto 4, 3) := by decide +kernel
theorem dX6_isSo_106 : decode cX6_isSo 106 = .ok (.iconst 0, 1) := by decide +kernel
theorem dX6_isSo_107 : decode cX6_isSo 107 = .ok (.ireturn, 1) := by decide +kernel
theorem dX6_isSo_108 : decode cX6_isSo 108 = .ok (.lload 5, 2) := by decide +kernel
theorem dX6_isSo_110 : decode cX6_isSo 110 = .ok (.lload 7, 2) := by decide +kernel
theorem dX6_isSo_112 : decode cX6_isSo 112 = .ok (.lcmp, 1) := by decide +kernel
theorem dX6_isSo_113 : decode cX6_isSo 113 = .ok (.ifCond .le 7, 3) := by decide +kernel
theorem dX6_isSo_116 : decode cX6_isSo 116 = .ok (.iconst 1, 1) := by decide +kernel
theorem dX6_isSo_117 : decode cX6_isSo 117 = .ok (.goto 4, 3) := by decide +kernel
theorem dX6_isSo_120 : decode cX6_isSo 120 = .ok (.iconst 0, 1) := by decide +kernel
theorem dX6_isSo_121 : decode cX6_isSo 121 = .ok (.ireturn, 1) := by decide +kernel
theorem dX6_sum_0 : decode cX6_sum 0 = .ok (.lconst 0, 1) := by decide +kernel
theorem dX6_sum_1 : decode cX6_sum 1 = .ok (.lstore 5, 2) := by decide +kernel
theorem dX6_sum_3 : decode cX6_sum 3 = .ok (.iconst 0, 1) := by decide +kernel
theorem dX6_sum_4 : decode cX6_sum 4 = .ok (.istore 7, 2) := by decide +kernel
theorem dX6_sum_6 : decode cX6_sum 6 = .ok (.iload 7, 2) := by decide +kernel
theorem dX6_sum_8 : decode cX6_sum 8 = .ok (.iload_n 3, 1) := by decide +kernel
theorem dX6_sum_9 : decode cX6_sum 9 = .ok (.if_icmp .ge 65, 3) := by decide +kernel
theorem dX6_sum_12 : decode cX6_sum 12 = .ok (.aload_n 1, 1) := by decide +kernel
theorem dX6_sum_13 : decode cX6_sum 13 = .ok (.iload_n 2, 1) := by decide +kernel
theorem dX6_sum_14 : decode cX6_sum 14 = .ok (.iconst 2, 1) := by decide +kernel
theorem dX6_sum_15 : decode cX6_sum 15 = .ok (.iload 7, 2) := by decide +kernel
theorem dX6_sum_17 : decode cX6_sum 17 = .ok (.imul, 1) := by decide +kernel
theorem dX6_sum_18 : decode cX6_sum 18 = .ok (.iadd, 1) := by decide +kernel
theorem dX6_sum_19 : decode cX6_sum 19 = .ok (.invokevirtual 33, 3) := by decide +kernel
theorem dX6_sum_22 : decode cX6_sum 22 = .ok (.istore 8, 2) := by decide +kernel
theorem dX6_sum_24 : decode cX6_sum 24 = .ok (.aload_n 0, 1) := by decide +kernel
theorem dX6_sum_25 : decode cX6_sum 25 = .ok (.iload 8, 2) := by decide +kernel
theorem dX6_sum_27 : decode cX6_sum 27 = .ok (.invokestatic 108, 3) := by decide +kernel
theorem dX6_sum_30 : decode cX6_sum 30 = .ok (.aload_n 1, 1) := by decide +kernel
theorem dX6_sum_31 : decode cX6_sum 31 = .ok (.iload_n 2, 1) := by decide +kernel
theorem dX6_sum_32 : decode cX6_sum 32 = .ok (.iconst 2, 1) := by decide +kernel
theorem dX6_sum_33 : decode cX6_sum 33 = .ok (.iload 7, 2) := by decide +kernel
theorem dX6_sum_35 : decode cX6_sum 35 = .ok (.imul, 1) := by decide +kernel
theorem dX6_sum_36 : decode cX6_sum 36 = .ok (.iadd, 1) := by decide +kernel
theorem dX6_sum_37 : decode cX6_sum 37 = .ok (.iconst 1, 1) := by decide +kernel
theorem dX6_sum_38 : decode cX6_sum 38 = .ok (.iadd, 1) := by decide +kernel
theorem dX6_sum_39 : decode cX6_sum 39 = .ok (.invokevirtual 33, 3) := by decide +kernel
theorem dX6_sum_42 : decode cX6_sum 42 = .ok (.aload 4, 2) := by decide +kernel
theorem dX6_sum_44 : decode cX6_sum 44 = .ok (.invokevirtual 113, 3) := by decide +kernel
theorem dX6_sum_47 : decode cX6_sum 47 = .ok (.i2l, 1) := by decide +kernel
theorem dX6_sum_48 : decode cX6_sum 48 = .ok (.lstore 9, 2) := by decide +kernel
theorem dX6_sum_50 : decode cX6_sum 50 = .ok (.lload 5, 2) := by decide +kernel
theorem dX6_sum_52 : decode cX6_sum 52 = .ok (.iload 8, 2) := by decide +kernel
theorem dX6_sum_54 : decode cX6_sum 54 = .ok (.ifCond .ge 9, 3) := by decide +kernel
theorem dX6_sum_57 : decode cX6_sum 57 = .ok (.lload 9, 2) := by decide +kernel
theorem dX6_sum_59 : decode cX6_sum 59 = .ok (.lneg, 1) := by decide +kernel
theorem dX6_sum_60 : decode cX6_sum 60 = .ok (.goto 5, 3) := by decide +kernel
theorem dX6_sum_63 : decode cX6_sum 63 = .ok (.lload 9, 2) := by decide +kernel
theorem dX6_sum_65 : decode cX6_sum 65 = .ok (.ladd, 1) := by decide +kernel
theorem dX6_sum_66 : decode cX6_sum 66 = .ok (.lstore 5, 2) := by decide +kernel
theorem dX6_sum_68 : decode cX6_sum 68 = .ok (.iinc 7 1, 3) := by decide +kernel
theorem dX6_sum_71 : decode cX6_sum 71 = .ok (.goto (-65), 3) := by decide +kernel
theorem dX6_sum_74 : decode cX6_sum 74 = .ok (.lload 5, 2) := by decide +kernel
theorem dX6_sum_76 : decode cX6_sum 76 = .ok (.lreturn, 1) := by decide +kernel
theorem dX6_valueOf_0 : decode cX6_valueOf 0 = .ok (.aload_n 3, 1) := by decide +kernel
theorem dX6_valueOf_1 : decode cX6_valueOf 1 = .ok (.aload_n 3, 1) := by decide +kernel
theorem dX6_valueOf_2 : decode cX6_valueOf 2 = .ok (.invokevirtual 117, 3) := by decide +kernel
theorem dX6_valueOf_5 : decode cX6_valueOf 5 = .ok (.invokevirtual 121, 3) := by decide +kernel
theorem dX6_valueOf_8 : decode cX6_valueOf 8 = .ok (.istore 4, 2) := by decide +kernel
theorem dX6_valueOf_10 : decode cX6_valueOf 10 = .ok (.iload_n 1, 1) := by decide +kernel
theorem dX6_valueOf_11 : decode cX6_valueOf 11 = .ok (.tableswitch 89 23 27 #[33, 52, 60, 68, 78], 33) := by decide +kernel
theorem dX6_valueOf_44 : decode cX6_valueOf 44 = .ok (.iload 4, 2) := by decide +kernel
theorem dX6_valueOf_46 : decode cX6_valueOf 46 = .ok (.ifCond .eq 15, 3) := by decide +kernel
theorem dX6_valueOf_49 : decode cX6_valueOf 49 = .ok (.aload_n 3, 1) := by decide +kernel
theorem dX6_valueOf_50 : decode cX6_valueOf 50 = .ok (.getfield 125, 3) := by decide +kernel
theorem dX6_valueOf_53 : decode cX6_valueOf 53 = .ok (.aload_n 3, 1) := by decide +kernel
theorem dX6_valueOf_54 : decode cX6_valueOf 54 = .ok (.invokevirtual 117, 3) := by decide +kernel
theorem dX6_valueOf_57 : decode cX6_valueOf 57 = .ok (.iaload, 1) := by decide +kernel
theorem dX6_valueOf_58 : decode cX6_valueOf 58 = .ok (.goto 4, 3) := by decide +kernel
theorem dX6_valueOf_61 : decode cX6_valueOf 61 = .ok (.iconst 0, 1) := by decide +kernel
theorem dX6_valueOf_62 : decode cX6_valueOf 62 = .ok (.ireturn, 1) := by decide +kernel
theorem dX6_valueOf_63 : decode cX6_valueOf 63 = .ok (.aload_n 3, 1) := by decide +kernel
theorem dX6_valueOf_64 : decode cX6_valueOf 64 = .ok (.getfield 51, 3) := by decide +kernel
theorem dX6_valueOf_67 : decode cX6_valueOf 67 = .ok (.getfield 88, 3) := by decide +kernel
theorem dX6_valueOf_70 : decode cX6_valueOf 70 = .ok (.ireturn, 1) := by decide +kernel
theorem dX6_valueOf_71 : decode cX6_valueOf 71 = .ok (.aload_n 3, 1) := by decide +kernel
theorem dX6_valueOf_72 : decode cX6_valueOf 72 = .ok (.getfield 51, 3) := by decide +kernel
theorem dX6_valueOf_75 : decode cX6_valueOf 75 = .ok (.getfield 94, 3) := by decide +kernel
theorem dX6_valueOf_78 : decode cX6_valueOf 78 = .ok (.ireturn, 1) := by decide +kernel
theorem dX6_valueOf_79 : decode cX6_valueOf 79 = .ok (.aload_n 3, 1) := by decide +kernel
theorem dX6_valueOf_80 : decode cX6_valueOf 80 = .ok (.getfield 22, 3) := by decide +kernel
theorem dX6_valueOf_83 : decode cX6_valueOf 83 = .ok (.aload_n 0, 1) := by decide +kernel
theorem dX6_valueOf_84 : decode cX6_valueOf 84 = .ok (.getfield 19, 3) := by decide +kernel
theorem dX6_valueOf_87 : decode cX6_valueOf 87 = .ok (.isub, 1) := by decide +kernel
theorem dX6_valueOf_88 : decode cX6_valueOf 88 = .ok (.ireturn, 1) := by decide +kernel
theorem dX6_valueOf_89 : decode cX6_valueOf 89 = .ok (.iload 4, 2) := by decide +kernel
theorem dX6_valueOf_91 : decode cX6_valueOf 91 = .ok (.ifCond .eq 7, 3) := by decide +kernel
theorem dX6_valueOf_94 : decode cX6_valueOf 94 = .ok (.iconst 0, 1) := by decide +kernel
theorem dX6_valueOf_95 : decode cX6_valueOf 95 = .ok (.goto 4, 3) := by decide +kernel
theorem dX6_valueOf_98 : decode cX6_valueOf 98 = .ok (.iconst 1, 1) := by decide +kernel
theorem dX6_valueOf_99 : decode cX6_valueOf 99 = .ok (.ireturn, 1) := by decide +kernel
theorem dX6_valueOf_100 : decode cX6_valueOf 100 = .ok (.iload_n 2, 1) := by decide +kernel
theorem dX6_valueOf_101 : decode cX6_valueOf 101 = .ok (.ireturn, 1) := by decide +kernel
theorem dX7_init_0 : decode cX7_init 0 = .ok (.aload_n 0, 1) := by decide +kernel
theorem dX7_init_1 : decode cX7_init 1 = .ok (.invokespecial 3, 3) := by decide +kernel
theorem dX7_init_4 : decode cX7_init 4 = .ok (.aload_n 0, 1) := by decide +kernel
theorem dX7_init_5 : decode cX7_init 5 = .ok (.sipush 200, 3) := by decide +kernel
theorem dX7_init_8 : decode cX7_init 8 = .ok (.newarray .int, 2) := by decide +kernel
theorem dX7_init_10 : decode cX7_init 10 = .ok (.putfield 11, 3) := by decide +kernel
theorem dX7_init_13 : decode cX7_init 13 = .ok (.aload_n 0, 1) := by decide +kernel
theorem dX7_init_14 : decode cX7_init 14 = .ok (.sipush 200, 3) := by decide +kernel
theorem dX7_init_17 : decode cX7_init 17 = .ok (.newarray .int, 2) := by decide +kernel
theorem dX7_init_19 : decode cX7_init 19 = .ok (.putfield 15, 3) := by decide +kernel
theorem dX7_init_22 : decode cX7_init 22 = .ok (.aload_n 0, 1) := by decide +kernel
theorem dX7_init_23 : decode cX7_init 23 = .ok (.sipush 200, 3) := by decide +kernel
theorem dX7_init_26 : decode cX7_init 26 = .ok (.newarray .int, 2) := by decide +kernel
theorem dX7_init_28 : decode cX7_init 28 = .ok (.putfield 18, 3) := by decide +kernel
theorem dX7_init_31 : decode cX7_init 31 = .ok (.aload_n 0, 1) := by decide +kernel
theorem dX7_init_32 : decode cX7_init 32 = .ok (.sipush 200, 3) := by decide +kernel
theorem dX7_init_35 : decode cX7_init 35 = .ok (.newarray .boolean, 2) := by decide +kernel
theorem dX7_init_37 : decode cX7_init 37 = .ok (.putfield 21, 3) := by decide +kernel
theorem dX7_init_40 : decode cX7_init 40 = .ok (.aload_n 0, 1) := by decide +kernel
theorem dX7_init_41 : decode cX7_init 41 = .ok (.iconst 0, 1) := by decide +kernel
theorem dX7_init_42 : decode cX7_init 42 = .ok (.putfield 25, 3) := by decide +kernel
theorem dX7_init_45 : decode cX7_init 45 = .ok (.aload_n 0, 1) := by decide +kernel
theorem dX7_init_46 : decode cX7_init 46 = .ok (.iconst 0, 1) := by decide +kernel
theorem dX7_init_47 : decode cX7_init 47 = .ok (.putfield 29, 3) := by decide +kernel
theorem dX7_init_50 : decode cX7_init 50 = .ok (.return_, 1) := by decide +kernel
theorem dX7_tell_0 : decode cX7_tell 0 = .ok (.iload_n 1, 1) := by decide +kernel
theorem dX7_tell_1 : decode cX7_tell 1 = .ok (.iconst 0, 1) := by decide +kernel
theorem dX7_tell_2 : decode cX7_tell 2 = .ok (.iconst 3, 1) := by decide +kernel
theorem dX7_tell_3 : decode cX7_tell 3 = .ok (.invokestatic 32, 3) := by decide +kernel
theorem dX7_tell_6 : decode cX7_tell 6 = .ok (.ifCond .eq 39, 3) := by decide +kernel
theorem dX7_tell_9 : decode cX7_tell 9 = .ok (.iload_n 2, 1) := by decide +kernel
theorem dX7_tell_10 : decode cX7_tell 10 = .ok (.iconst 1, 1) := by decide +kernel
theorem dX7_tell_11 : decode cX7_tell 11 = .ok (.sipush 9999, 3) := by decide +kernel
theorem dX7_tell_14 : decode cX7_tell 14 = .ok (.invokestatic 32, 3) := by decide +kernel
theorem dX7_tell_17 : decode cX7_tell 17 = .ok (.ifCond .eq 28, 3) := by decide +kernel
theorem dX7_tell_20 : decode cX7_tell 20 = .ok (.iload 4, 2) := by decide +kernel
theorem dX7_tell_22 : decode cX7_tell 22 = .ok (.aload_n 0, 1) := by decide +kernel
theorem dX7_tell_23 : decode cX7_tell 23 = .ok (.getfield 29, 3) := by decide +kernel
theorem dX7_tell_26 : decode cX7_tell 26 = .ok (.sipush 999, 3) := by decide +kernel
theorem dX7_tell_29 : decode cX7_tell 29 = .ok (.invokestatic 32, 3) := by decide +kernel
theorem dX7_tell_32 : decode cX7_tell 32 = .ok (.ifCond .eq 13, 3) := by decide +kernel
theorem dX7_tell_35 : decode cX7_tell 35 = .ok (.aload_n 0, 1) := by decide +kernel
theorem dX7_tell_36 : decode cX7_tell 36 = .ok (.getfield 25, 3) := by decide +kernel
theorem dX7_tell_39 : decode cX7_tell 39 = .ok (.sipush 200, 3) := by decide +kernel
theorem dX7_tell_42 : decode cX7_tell 42 = .ok (.if_icmp .lt 5, 3) := by decide +kernel
theorem dX7_tell_45 : decode cX7_tell 45 = .ok (.iconst 0, 1) := by decide +kernel
theorem dX7_tell_46 : decode cX7_tell 46 = .ok (.ireturn, 1) := by decide +kernel
theorem dX7_tell_47 : decode cX7_tell 47 = .ok (.aload_n 0, 1) := by decide +kernel
theorem dX7_tell_48 : decode cX7_tell 48 = .ok (.getfield 11, 3) := by decide +kernel
theorem dX7_tell_51 : decode cX7_tell 51 = .ok (.aload_n 0, 1) := by decide +kernel
theorem dX7_tell_52 : decode cX7_tell 52 = .ok (.getfield 25, 3) := by decide +kernel
theorem dX7_tell_55 : decode cX7_tell 55 = .ok (.iload_n 1, 1) := by decide +kernel
theorem dX7_tell_56 : decode cX7_tell 56 = .ok (.iastore, 1) := by decide +kernel
theorem dX7_tell_57 : decode cX7_tell 57 = .ok (.aload_n 0, 1) := by decide +kernel
theorem dX7_tell_58 : decode cX7_tell 58 = .ok (.getfield 15, 3) := by decide +kernel
theorem dX7_tell_61 : decode cX7_tell 61 = .ok (.aload_n 0, 1) := by decide +kernel
theorem dX7_tell_62 : decode cX7_tell 62 = .ok (.getfield 25, 3) := by decide +kernel
theorem dX7_tell_65 : decode cX7_tell 65 = .ok (.iload_n 2, 1) := by decide +kernel
theorem dX7_tell_66 : decode cX7_tell 66 = .ok (.iastore, 1) := by decide +kernel
theorem dX7_tell_67 : decode cX7_tell 67 = .ok (.aload_n 0, 1) := by decide +kernel
theorem dX7_tell_68 : decode cX7_tell 68 = .ok (.getfield 21, 3) := by decide +kernel
theorem dX7_tell_71 : decode cX7_tell 71 = .ok (.aload_n 0, 1) := by decide +kernel
theorem dX7_tell_72 : decode cX7_tell 72 = .ok (.getfield 25, 3) := by decide +kernel
theorem dX7_tell_75 : decode cX7_tell 75 = .ok (.iload_n 3, 1) := by decide +kernel
theorem dX7_tell_76 : decode cX7_tell 76 = .ok (.bastore, 1) := by decide +kernel
theorem dX7_tell_77 : decode cX7_tell 77 = .ok (.aload_n 0, 1) := by decide +kernel
theorem dX7_tell_78 : decode cX7_tell 78 = .ok (.getfield 18, 3) := by decide +kernel
theorem dX7_tell_81 : decode cX7_tell 81 = .ok (.aload_n 0, 1) := by decide +kernel
theorem dX7_tell_82 : decode cX7_tell 82 = .ok (.getfield 25, 3) := by decide +kernel
theorem dX7_tell_85 : decode cX7_tell 85 = .ok (.iload 4, 2) := by decide +kernel
theorem dX7_tell_87 : decode cX7_tell 87 = .ok (.iastore, 1) := by decide +kernel
theorem dX7_tell_88 : decode cX7_tell 88 = .ok (.aload_n 0, 1) := by decide +kernel
theorem dX7_tell_89 : decode cX7_tell 89 = .ok (.dup, 1) := by decide +kernel
theorem dX7_tell_90 : decode cX7_tell 90 = .ok (.getfield 25, 3) := by decide +kernel
theorem dX7_tell_93 : decode cX7_tell 93 = .ok (.iconst 1, 1) := by decide +kernel
theorem dX7_tell_94 : decode cX7_tell 94 = .ok (.iadd, 1) := by decide +kernel
theorem dX7_tell_95 : decode cX7_tell 95 = .ok (.putfield 25, 3) := by decide +kernel
theorem dX7_tell_98 : decode cX7_tell 98 = .ok (.aload_n 0, 1) := by decide +kernel
theorem dX7_tell_99 : decode cX7_tell 99 = .ok (.iload 4, 2) := by decide +kernel
theorem dX7_tell_101 : decode cX7_tell 101 = .ok (.putfield 29, 3) := by decide +kernel
theorem dX7_tell_104 : decode cX7_tell 104 = .ok (.iconst 1, 1) := by decide +kernel
theorem dX7_tell_105 : decode cX7_tell 105 = .ok (.ireturn, 1) := by decide +kernel
theorem dX7_leastMelt_0 : decode cX7_leastMelt 0 = .ok (.iconst 1, 1) := by decide +kernel
theorem dX7_leastMelt_1 : decode cX7_leastMelt 1 = .ok (.istore_n 3, 1) := by decide +kernel
theorem dX7_leastMelt_2 : decode cX7_leastMelt 2 = .ok (.iconst 0, 1) := by decide +kernel
theorem dX7_leastMelt_3 : decode cX7_leastMelt 3 = .ok (.istore 4, 2) := by decide +kernel
theorem dX7_leastMelt_5 : decode cX7_leastMelt 5 = .ok (.iload 4, 2) := by decide +kernel
theorem dX7_leastMelt_7 : decode cX7_leastMelt 7 = .ok (.aload_n 0, 1) := by decide +kernel
theorem dX7_leastMelt_8 : decode cX7_leastMelt 8 = .ok (.getfield 25, 3) := by decide +kernel
theorem dX7_leastMelt_11 : decode cX7_leastMelt 11 = .ok (.if_icmp .ge 55, 3) := by decide +kernel
theorem dX7_leastMelt_14 : decode cX7_leastMelt 14 = .ok (.aload_n 0, 1) := by decide +kernel
theorem dX7_leastMelt_15 : decode cX7_leastMelt 15 = .ok (.getfield 11, 3) := by decide +kernel
theorem dX7_leastMelt_18 : decode cX7_leastMelt 18 = .ok (.iload 4, 2) := by decide +kernel
theorem dX7_leastMelt_20 : decode cX7_leastMelt 20 = .ok (.iaload, 1) := by decide +kernel
theorem dX7_leastMelt_21 : decode cX7_leastMelt 21 = .ok (.iload_n 1, 1) := by decide +kernel
theorem dX7_leastMelt_22 : decode cX7_leastMelt 22 = .ok (.if_icmp .ne 38, 3) := by decide +kernel
theorem dX7_leastMelt_25 : decode cX7_leastMelt 25 = .ok (.aload_n 0, 1) := by decide +kernel
theorem dX7_leastMelt_26 : decode cX7_leastMelt 26 = .ok (.getfield 18, 3) := by decide +kernel
theorem dX7_leastMelt_29 : decode cX7_leastMelt 29 = .ok (.iload 4, 2) := by decide +kernel
theorem dX7_leastMelt_31 : decode cX7_leastMelt 31 = .ok (.iaload, 1) := by decide +kernel
theorem dX7_leastMelt_32 : decode cX7_leastMelt 32 = .ok (.iload_n 2, 1) := by decide +kernel
theorem dX7_leastMelt_33 : decode cX7_leastMelt 33 = .ok (.if_icmp .gt 27, 3) := by decide +kernel
theorem dX7_leastMelt_36 : decode cX7_leastMelt 36 = .ok (.aload_n 0, 1) := by decide +kernel
theorem dX7_leastMelt_37 : decode cX7_leastMelt 37 = .ok (.getfield 21, 3) := by decide +kernel
theorem dX7_leastMelt_40 : decode cX7_leastMelt 40 = .ok (.iload 4, 2) := by decide +kernel
theorem dX7_leastMelt_42 : decode cX7_leastMelt 42 = .ok (.baload, 1) := by decide +kernel
theorem dX7_leastMelt_43 : decode cX7_leastMelt 43 = .ok (.ifCond .ne 17, 3) := by decide +kernel
theorem dX7_leastMelt_46 : decode cX7_leastMelt 46 = .ok (.iload_n 3, 1) := by decide +kernel
theorem dX7_leastMelt_47 : decode cX7_leastMelt 47 = .ok (.aload_n 0, 1) := by decide +kernel
theorem dX7_leastMelt_48 : decode cX7_leastMelt 48 = .ok (.getfield 15, 3) := by decide +kernel
theorem dX7_leastMelt_51 : decode cX7_leastMelt 51 = .ok (.iload 4, 2) := by decide +kernel
theorem dX7_leastMelt_53 : decode cX7_leastMelt 53 = .ok (.iaload, 1) := by decide +kernel
theorem dX7_leastMelt_54 : decode cX7_leastMelt 54 = .ok (.iconst 1, 1) := by decide +kernel
theorem dX7_leastMelt_55 : decode cX7_leastMelt 55 = .ok (.iadd, 1) := by decide +kernel
theorem dX7_leastMelt_56 : decode cX7_leastMelt 56 = .ok (.invokestatic 36, 3) := by decide +kernel
theorem dX7_leastMelt_59 : decode cX7_leastMelt 59 = .ok (.istore_n 3, 1) := by decide +kernel
theorem dX7_leastMelt_60 : decode cX7_leastMelt 60 = .ok (.iinc 4 1, 3) := by decide +kernel
theorem dX7_leastMelt_63 : decode cX7_leastMelt 63 = .ok (.goto (-58), 3) := by decide +kernel
theorem dX7_leastMelt_66 : decode cX7_leastMelt 66 = .ok (.iload_n 3, 1) := by decide +kernel
theorem dX7_leastMelt_67 : decode cX7_leastMelt 67 = .ok (.ireturn, 1) := by decide +kernel
theorem dX7_greatestMelt_0 : decode cX7_greatestMelt 0 = .ok (.sipush 999, 3) := by decide +kernel
theorem dX7_greatestMelt_3 : decode cX7_greatestMelt 3 = .ok (.istore_n 3, 1) := by decide +kernel
theorem dX7_greatestMelt_4 : decode cX7_greatestMelt 4 = .ok (.iconst 0, 1) := by decide +kernel
theorem dX7_greatestMelt_5 : decode cX7_greatestMelt 5 = .ok (.istore 4, 2) := by decide +kernel
theorem dX7_greatestMelt_7 : decode cX7_greatestMelt 7 = .ok (.iload 4, 2) := by decide +kernel
theorem dX7_greatestMelt_9 : decode cX7_greatestMelt 9 = .ok (.aload_n 0, 1) := by decide +kernel
theorem dX7_greatestMelt_10 : decode cX7_greatestMelt 10 = .ok (.getfield 25, 3) := by decide +kernel
theorem dX7_greatestMelt_13 : decode cX7_greatestMelt 13 = .ok (.if_icmp .ge 53, 3) := by decide +kernel
theorem dX7_greatestMelt_16 : decode cX7_greatestMelt 16 = .ok (.aload_n 0, 1) := by decide +kernel
theorem dX7_greatestMelt_17 : decode cX7_greatestMelt 17 = .ok (.getfield 11, 3) := by decide +kernel
theorem dX7_greatestMelt_20 : decode cX7_greatestMelt 20 = .ok (.iload 4, 2) := by decide +kernel
theorem dX7_greatestMelt_22 : decode cX7_greatestMelt 22 = .ok (.iaload, 1) := by decide +kernel
theorem dX7_greatestMelt_23 : decode cX7_greatestMelt 23 = .ok (.iload_n 1, 1) := by decide +kernel
theorem dX7_greatestMelt_24 : decode cX7_greatestMelt 24 = .ok (.if_icmp .ne 36, 3) := by decide +kernel
theorem dX7_greatestMelt_27 : decode cX7_greatestMelt 27 = .ok (.aload_n 0, 1) := by decide +kernel
theorem dX7_greatestMelt_28 : decode cX7_greatestMelt 28 = .ok (.getfield 18, 3) := by decide +kernel
theorem dX7_greatestMelt_31 : decode cX7_greatestMelt 31 = .ok (.iload 4, 2) := by decide +kernel
theorem dX7_greatestMelt_33 : decode cX7_greatestMelt 33 = .ok (.iaload, 1) := by decide +kernel
theorem dX7_greatestMelt_34 : decode cX7_greatestMelt 34 = .ok (.iload_n 2, 1) := by decide +kernel
theorem dX7_greatestMelt_35 : decode cX7_greatestMelt 35 = .ok (.if_icmp .gt 25, 3) := by decide +kernel
theorem dX7_greatestMelt_38 : decode cX7_greatestMelt 38 = .ok (.aload_n 0, 1) := by decide +kernel
theorem dX7_greatestMelt_39 : decode cX7_greatestMelt 39 = .ok (.getfield 21, 3) := by decide +kernel
theorem dX7_greatestMelt_42 : decode cX7_greatestMelt 42 = .ok (.iload 4, 2) := by decide +kernel
theorem dX7_greatestMelt_44 : decode cX7_greatestMelt 44 = .ok (.baload, 1) := by decide +kernel
theorem dX7_greatestMelt_45 : decode cX7_greatestMelt 45 = .ok (.ifCond .eq 15, 3) := by decide +kernel
theorem dX7_greatestMelt_48 : decode cX7_greatestMelt 48 = .ok (.iload_n 3, 1) := by decide +kernel
theorem dX7_greatestMelt_49 : decode cX7_greatestMelt 49 = .ok (.aload_n 0, 1) := by decide +kernel
theorem dX7_greatestMelt_50 : decode cX7_greatestMelt 50 = .ok (.getfield 15, 3) := by decide +kernel
theorem dX7_greatestMelt_53 : decode cX7_greatestMelt 53 = .ok (.iload 4, 2) := by decide +kernel
theorem dX7_greatestMelt_55 : decode cX7_greatestMelt 55 = .ok (.iaload, 1) := by decide +kernel
theorem dX7_greatestMelt_56 : decode cX7_greatestMelt 56 = .ok (.invokestatic 42, 3) := by decide +kernel
theorem dX7_greatestMelt_59 : decode cX7_greatestMelt 59 = .ok (.istore_n 3, 1) := by decide +kernel
theorem dX7_greatestMelt_60 : decode cX7_greatestMelt 60 = .ok (.iinc 4 1, 3) := by decide +kernel
theorem dX7_greatestMelt_63 : decode cX7_greatestMelt 63 = .ok (.goto (-56), 3) := by decide +kernel
theorem dX7_greatestMelt_66 : decode cX7_greatestMelt 66 = .ok (.iload_n 3, 1) := by decide +kernel
theorem dX7_greatestMelt_67 : decode cX7_greatestMelt 67 = .ok (.ireturn, 1) := by decide +kernel
theorem dX8_init_0 : decode cX8_init 0 = .ok (.aload_n 0, 1) := by decide +kernel
theorem dX8_init_1 : decode cX8_init 1 = .ok (.invokespecial 3, 3) := by decide +kernel
theorem dX8_init_4 : decode cX8_init 4 = .ok (.aload_n 0, 1) := by decide +kernel
theorem dX8_init_5 : decode cX8_init 5 = .ok (.new 9, 3) := by decide +kernel
theorem dX8_init_8 : decode cX8_init 8 = .ok (.dup, 1) := by decide +kernel
theorem dX8_init_9 : decode cX8_init 9 = .ok (.sipush 401, 3) := by decide +kernel
theorem dX8_init_12 : decode cX8_init 12 = .ok (.invokespecial 11, 3) := by decide +kernel
theorem dX8_init_15 : decode cX8_init 15 = .ok (.putfield 14, 3) := by decide +kernel
theorem dX8_init_18 : decode cX8_init 18 = .ok (.aload_n 0, 1) := by decide +kernel
theorem dX8_init_19 : decode cX8_init 19 = .ok (.new 9, 3) := by decide +kernel
theorem dX8_init_22 : decode cX8_init 22 = .ok (.dup, 1) := by decide +kernel
theorem dX8_init_23 : decode cX8_init 23 = .ok (.sipush 401, 3) := by decide +kernel
theorem dX8_init_26 : decode cX8_init 26 = .ok (.invokespecial 11, 3) := by decide +kernel
theorem dX8_init_29 : decode cX8_init 29 = .ok (.putfield 20, 3) := by decide +kernel
theorem dX8_init_32 : decode cX8_init 32 = .ok (.aload_n 0, 1) := by decide +kernel
theorem dX8_init_33 : decode cX8_init 33 = .ok (.new 9, 3) := by decide +kernel
theorem dX8_init_36 : decode cX8_init 36 = .ok (.dup, 1) := by decide +kernel
theorem dX8_init_37 : decode cX8_init 37 = .ok (.sipush 401, 3) := by decide +kernel
theorem dX8_init_40 : decode cX8_init 40 = .ok (.invokespecial 11, 3) := by decide +kernel
theorem dX8_init_43 : decode cX8_init 43 = .ok (.putfield 23, 3) := by decide +kernel
theorem dX8_init_46 : decode cX8_init 46 = .ok (.return_, 1) := by decide +kernel
theorem dX8_takeApart_0 : decode cX8_takeApart 0 = .ok (.aload_n 0, 1) := by decide +kernel
theorem dX8_takeApart_1 : decode cX8_takeApart 1 = .ok (.getfield 14, 3) := by decide +kernel
theorem dX8_takeApart_4 : decode cX8_takeApart 4 = .ok (.iconst 0, 1) := by decide +kernel
theorem dX8_takeApart_5 : decode cX8_takeApart 5 = .ok (.putfield 26, 3) := by decide +kernel
theorem dX8_takeApart_8 : decode cX8_takeApart 8 = .ok (.aload_n 0, 1) := by decide +kernel
theorem dX8_takeApart_9 : decode cX8_takeApart 9 = .ok (.getfield 20, 3) := by decide +kernel
theorem dX8_takeApart_12 : decode cX8_takeApart 12 = .ok (.iconst 0, 1) := by decide +kernel
theorem dX8_takeApart_13 : decode cX8_takeApart 13 = .ok (.putfield 26, 3) := by decide +kernel
theorem dX8_takeApart_16 : decode cX8_takeApart 16 = .ok (.aload_n 0, 1) := by decide +kernel
theorem dX8_takeApart_17 : decode cX8_takeApart 17 = .ok (.getfield 23, 3) := by decide +kernel
theorem dX8_takeApart_20 : decode cX8_takeApart 20 = .ok (.iconst 0, 1) := by decide +kernel
theorem dX8_takeApart_21 : decode cX8_takeApart 21 = .ok (.putfield 26, 3) := by decide +kernel
theorem dX8_takeApart_24 : decode cX8_takeApart 24 = .ok (.iconst 0, 1) := by decide +kernel
theorem dX8_takeApart_25 : decode cX8_takeApart 25 = .ok (.istore_n 2, 1) := by decide +kernel
theorem dX8_takeApart_26 : decode cX8_takeApart 26 = .ok (.iconst 0, 1) := by decide +kernel
theorem dX8_takeApart_27 : decode cX8_takeApart 27 = .ok (.istore_n 3, 1) := by decide +kernel
theorem dX8_takeApart_28 : decode cX8_takeApart 28 = .ok (.iload_n 3, 1) := by decide +kernel
theorem dX8_takeApart_29 : decode cX8_takeApart 29 = .ok (.sipush 400, 3) := by decide +kernel
theorem dX8_takeApart_32 : decode cX8_takeApart 32 = .ok (.if_icmp .ge 83, 3) := by decide +kernel
theorem dX8_takeApart_35 : decode cX8_takeApart 35 = .ok (.iload_n 2, 1) := by decide +kernel
theorem dX8_takeApart_36 : decode cX8_takeApart 36 = .ok (.aload_n 1, 1) := by decide +kernel
theorem dX8_takeApart_37 : decode cX8_takeApart 37 = .ok (.getfield 26, 3) := by decide +kernel
theorem dX8_takeApart_40 : decode cX8_takeApart 40 = .ok (.if_icmp .ge 75, 3) := by decide +kernel
theorem dX8_takeApart_43 : decode cX8_takeApart 43 = .ok (.aload_n 1, 1) := by decide +kernel
theorem dX8_takeApart_44 : decode cX8_takeApart 44 = .ok (.getfield 30, 3) := by decide +kernel
theorem dX8_takeApart_47 : decode cX8_takeApart 47 = .ok (.iload_n 2, 1) := by decide +kernel
theorem dX8_takeApart_48 : decode cX8_takeApart 48 = .ok (.iaload, 1) := by decide +kernel
theorem dX8_takeApart_49 : decode cX8_takeApart 49 = .ok (.istore 4, 2) := by decide +kernel
theorem dX8_takeApart_51 : decode cX8_takeApart 51 = .ok (.iload 4, 2) := by decide +kernel
theorem dX8_takeApart_53 : decode cX8_takeApart 53 = .ok (.invokestatic 34, 3) := by decide +kernel
theorem dX8_takeApart_56 : decode cX8_takeApart 56 = .ok (.ifCond .eq 13, 3) := by decide +kernel
theorem dX8_takeApart_59 : decode cX8_takeApart 59 = .ok (.aload_n 0, 1) := by decide +kernel
theorem dX8_takeApart_60 : decode cX8_takeApart 60 = .ok (.aload_n 1, 1) := by decide +kernel
theorem dX8_takeApart_61 : decode cX8_takeApart 61 = .ok (.iload_n 2, 1) := by decide +kernel
theorem dX8_takeApart_62 : decode cX8_takeApart 62 = .ok (.invokevirtual 38, 3) := by decide +kernel
theorem dX8_takeApart_65 : decode cX8_takeApart 65 = .ok (.istore_n 2, 1) := by decide +kernel
theorem dX8_takeApart_66 : decode cX8_takeApart 66 = .ok (.goto 43, 3) := by decide +kernel
theorem dX8_takeApart_69 : decode cX8_takeApart 69 = .ok (.iload 4, 2) := by decide +kernel
theorem dX8_takeApart_71 : decode cX8_takeApart 71 = .ok (.invokestatic 42, 3) := by decide +kernel
theorem dX8_takeApart_74 : decode cX8_takeApart 74 = .ok (.ifCond .eq 13, 3) := by decide +kernel
theorem dX8_takeApart_77 : decode cX8_takeApart 77 = .ok (.aload_n 0, 1) := by decide +kernel
theorem dX8_takeApart_78 : decode cX8_takeApart 78 = .ok (.aload_n 1, 1) := by decide +kernel
theorem dX8_takeApart_79 : decode cX8_takeApart 79 = .ok (.iload_n 2, 1) := by decide +kernel
theorem dX8_takeApart_80 : decode cX8_takeApart 80 = .ok (.invokevirtual 45, 3) := by decide +kernel
theorem dX8_takeApart_83 : decode cX8_takeApart 83 = .ok (.istore_n 2, 1) := by decide +kernel
theorem dX8_takeApart_84 : decode cX8_takeApart 84 = .ok (.goto 25, 3) := by decide +kernel
theorem dX8_takeApart_87 : decode cX8_takeApart 87 = .ok (.iload 4, 2) := by decide +kernel
theorem dX8_takeApart_89 : decode cX8_takeApart 89 = .ok (.invokestatic 48, 3) := by decide +kernel
theorem dX8_takeApart_92 : decode cX8_takeApart 92 = .ok (.ifCond .ne 14, 3) := by decide +kernel
theorem dX8_takeApart_95 : decode cX8_takeApart 95 = .ok (.aload_n 0, 1) := by decide +kernel
theorem dX8_takeApart_96 : decode cX8_takeApart 96 = .ok (.iload 4, 2) := by decide +kernel
theorem dX8_takeApart_98 : decode cX8_takeApart 98 = .ok (.invokestatic 51, 3) := by decide +kernel
theorem dX8_takeApart_101 : decode cX8_takeApart 101 = .ok (.iload_n 2, 1) := by decide +kernel
theorem dX8_takeApart_102 : decode cX8_takeApart 102 = .ok (.iconst 0, 1) := by decide +kernel
theorem dX8_takeApart_103 : decode cX8_takeApart 103 = .ok (.invokevirtual 55, 3) := by decide +kernel
theorem dX8_takeApart_106 : decode cX8_takeApart 106 = .ok (.iinc 2 1, 3) := by decide +kernel
theorem dX8_takeApart_109 : decode cX8_takeApart 109 = .ok (.iinc 3 1, 3) := by decide +kernel
theorem dX8_takeApart_112 : decode cX8_takeApart 112 = .ok (.goto (-84), 3) := by decide +kernel
theorem dX8_takeApart_115 : decode cX8_takeApart 115 = .ok (.aload_n 0, 1) := by decide +kernel
theorem dX8_takeApart_116 : decode cX8_takeApart 116 = .ok (.iconst 1, 1) := by decide +kernel
theorem dX8_takeApart_117 : decode cX8_takeApart 117 = .ok (.aload_n 1, 1) := by decide +kernel
theorem dX8_takeApart_118 : decode cX8_takeApart 118 = .ok (.getfield 26, 3) := by decide +kernel
theorem dX8_takeApart_121 : decode cX8_takeApart 121 = .ok (.iconst 0, 1) := by decide +kernel
theorem dX8_takeApart_122 : decode cX8_takeApart 122 = .ok (.invokevirtual 55, 3) := by decide +kernel
theorem dX8_takeApart_125 : decode cX8_takeApart 125 = .ok (.return_, 1) := by decide +kernel
theorem dX8_keep_0 : decode cX8_keep 0 = .ok (.aload_n 0, 1) := by decide +kernel
theorem dX8_keep_1 : decode cX8_keep 1 = .ok (.getfield 14, 3) := by decide +kernel
theorem dX8_keep_4 : decode cX8_keep 4 = .ok (.iload_n 1, 1) := by decide +kernel
theorem dX8_keep_5 : decode cX8_keep 5 = .ok (.invokevirtual 59, 3) := by decide +kernel
theorem dX8_keep_8 : decode cX8_keep 8 = .ok (.aload_n 0, 1) := by decide +kernel
theorem dX8_keep_9 : decode cX8_keep 9 = .ok (.getfield 20, 3) := by decide +kernel
theorem dX8_keep_12 : decode cX8_keep 12 = .ok (.iload_n 2, 1) := by decide +kernel
theorem dX8_keep_13 : decode cX8_keep 13 = .ok (.invokevirtual 59, 3) := by decide +kernel
theorem dX8_keep_16 : decode cX8_keep 16 = .ok (.aload_n 0, 1) := by decide +kernel
theorem dX8_keep_17 : decode cX8_keep 17 = .ok (.getfield 23, 3) := by decide +kernel
theorem dX8_keep_20 : decode cX8_keep 20 = .ok (.iload_n 3, 1) := by decide +kernel
theorem dX8_keep_21 : decode cX8_keep 21 = .ok (.invokevirtual 59, 3) := by decide +kernel
theorem dX8_keep_24 : decode cX8_keep 24 = .ok (.return_, 1) := by decide +kernel
theorem dX8_takeWord_0 : decode cX8_takeWord 0 = .ok (.iload_n 2, 1) := by decide +kernel
theorem dX8_takeWord_1 : decode cX8_takeWord 1 = .ok (.istore_n 3, 1) := by decide +kernel
theorem dX8_takeWord_2 : decode cX8_takeWord 2 = .ok (.iload_n 3, 1) := by decide +kernel
theorem dX8_takeWord_3 : decode cX8_takeWord 3 = .ok (.aload_n 1, 1) := by decide +kernel
theorem dX8_takeWord_4 : decode cX8_takeWord 4 = .ok (.getfield 26, 3) := by decide +kernel
theorem dX8_takeWord_7 : decode cX8_takeWord 7 = .ok (.if_icmp .ge 21, 3) := by decide +kernel
theorem dX8_takeWord_10 : decode cX8_takeWord 10 = .ok (.aload_n 1, 1) := by decide +kernel
theorem dX8_takeWord_11 : decode cX8_takeWord 11 = .ok (.getfield 30, 3) := by decide +kernel
theorem dX8_takeWord_14 : decode cX8_takeWord 14 = .ok (.iload_n 3, 1) := by decide +kernel
theorem dX8_takeWord_15 : decode cX8_takeWord 15 = .ok (.iaload, 1) := by decide +kernel
theorem dX8_takeWord_16 : decode cX8_takeWord 16 = .ok (.invokestatic 34, 3) := by decide +kernel
theorem dX8_takeWord_19 : decode cX8_takeWord 19 = .ok (.ifCond .eq 9, 3) := by decide +kernel
theorem dX8_takeWord_22 : decode cX8_takeWord 22 = .ok (.iinc 3 1, 3) := by decide +kernel
theorem dX8_takeWord_25 : decode cX8_takeWord 25 = .ok (.goto (-23), 3) := by decide +kernel
theorem dX8_takeWord_28 : decode cX8_takeWord 28 = .ok (.aload_n 0, 1) := by decide +kernel
theorem dX8_takeWord_29 : decode cX8_takeWord 29 = .ok (.aload_n 1, 1) := by decide +kernel
theorem dX8_takeWord_30 : decode cX8_takeWord 30 = .ok (.iload_n 2, 1) := by decide +kernel
theorem dX8_takeWord_31 : decode cX8_takeWord 31 = .ok (.iload_n 3, 1) := by decide +kernel
theorem dX8_takeWord_32 : decode cX8_takeWord 32 = .ok (.invokestatic 62, 3) := by decide +kernel
theorem dX8_takeWord_35 : decode cX8_takeWord 35 = .ok (.iload_n 2, 1) := by decide +kernel
theorem dX8_takeWord_36 : decode cX8_takeWord 36 = .ok (.iconst 0, 1) := by decide +kernel
theorem dX8_takeWord_37 : decode cX8_takeWord 37 = .ok (.invokevirtual 55, 3) := by decide +kernel
theorem dX8_takeWord_40 : decode cX8_takeWord 40 = .ok (.iload_n 3, 1) := by decide +kernel
theorem dX8_takeWord_41 : decode cX8_takeWord 41 = .ok (.ireturn, 1) := by decide +kernel
theorem dX8_takeNumber_0 : decode cX8_takeNumber 0 = .ok (.iload_n 2, 1) := by decide +kernel
theorem dX8_takeNumber_1 : decode cX8_takeNumber 1 = .ok (.istore_n 3, 1) := by decide +kernel
theorem dX8_takeNumber_2 : decode cX8_takeNumber 2 = .ok (.iconst 0, 1) := by decide +kernel
theorem dX8_takeNumber_3 : decode cX8_takeNumber 3 = .ok (.istore 4, 2) := by decide +kernel
theorem dX8_takeNumber_5 : decode cX8_takeNumber 5 = .ok (.iload_n 3, 1) := by decide +kernel
theorem dX8_takeNumber_6 : decode cX8_takeNumber 6 = .ok (.aload_n 1, 1) := by decide +kernel
theorem dX8_takeNumber_7 : decode cX8_takeNumber 7 = .ok (.getfield 26, 3) := by decide +kernel
theorem dX8_takeNumber_10 : decode cX8_takeNumber 10 = .ok (.if_icmp .ge 38, 3) := by decide +kernel
theorem dX8_takeNumber_13 : decode cX8_takeNumber 13 = .ok (.aload_n 1, 1) := by decide +kernel
theorem dX8_takeNumber_14 : decode cX8_takeNumber 14 = .ok (.getfield 30, 3) := by decide +kernel
theorem dX8_takeNumber_17 : decode cX8_takeNumber 17 = .ok (.iload_n 3, 1) := by decide +kernel
theorem dX8_takeNumber_18 : decode cX8_takeNumber 18 = .ok (.iaload, 1) := by decide +kernel
theorem dX8_takeNumber_19 : decode cX8_takeNumber 19 = .ok (.invokestatic 42, 3) := by decide +kernel
theorem dX8_takeNumber_22 : decode cX8_takeNumber 22 = .ok (.ifCond .eq 26, 3) := by decide +kernel
theorem dX8_takeNumber_25 : decode cX8_takeNumber 25 = .ok (.iload 4, 2) := by decide +kernel
theorem dX8_takeNumber_27 : decode cX8_takeNumber 27 = .ok (.bipush 10, 2) := by decide +kernel
theorem dX8_takeNumber_29 : decode cX8_takeNumber 29 = .ok (.imul, 1) := by decide +kernel
theorem dX8_takeNumber_30 : decode cX8_takeNumber 30 = .ok (.aload_n 1, 1) := by decide +kernel
theorem dX8_takeNumber_31 : decode cX8_takeNumber 31 = .ok (.getfield 30, 3) := by decide +kernel
theorem dX8_takeNumber_34 : decode cX8_takeNumber 34 = .ok (.iload_n 3, 1) := by decide +kernel
theorem dX8_takeNumber_35 : decode cX8_takeNumber 35 = .ok (.iaload, 1) := by decide +kernel
theorem dX8_takeNumber_36 : decode cX8_takeNumber 36 = .ok (.iadd, 1) := by decide +kernel
theorem dX8_takeNumber_37 : decode cX8_takeNumber 37 = .ok (.bipush 48, 2) := by decide +kernel
theorem dX8_takeNumber_39 : decode cX8_takeNumber 39 = .ok (.isub, 1) := by decide +kernel
theorem dX8_takeNumber_40 : decode cX8_takeNumber 40 = .ok (.istore 4, 2) := by decide +kernel
theorem dX8_takeNumber_42 : decode cX8_takeNumber 42 = .ok (.iinc 3 1, 3) := by decide +kernel
theorem dX8_takeNumber_45 : decode cX8_takeNumber 45 = .ok (.goto (-40), 3) := by decide +kernel
theorem dX8_takeNumber_48 : decode cX8_takeNumber 48 = .ok (.aload_n 0, 1) := by decide +kernel
theorem dX8_takeNumber_49 : decode cX8_takeNumber 49 = .ok (.iload_n 3, 1) := by decide +kernel
theorem dX8_takeNumber_50 : decode cX8_takeNumber 50 = .ok (.iload_n 2, 1) := by decide +kernel
theorem dX8_takeNumber_51 : decode cX8_takeNumber 51 = .ok (.isub, 1) := by decide +kernel
theorem dX8_takeNumber_52 : decode cX8_takeNumber 52 = .ok (.iconst 4, 1) := by decide +kernel
theorem dX8_takeNumber_53 : decode cX8_takeNumber 53 = .ok (.if_icmp .gt 7, 3) := by decide +kernel
theorem dX8_takeNumber_56 : decode cX8_takeNumber 56 = .ok (.iconst 2, 1) := by decide +kernel
theorem dX8_takeNumber_57 : decode cX8_takeNumber 57 = .ok (.goto 4, 3) := by decide +kernel
theorem dX8_takeNumber_60 : decode cX8_takeNumber 60 = .ok (.iconst 0, 1) := by decide +kernel
theorem dX8_takeNumber_61 : decode cX8_takeNumber 61 = .ok (.iload_n 2, 1) := by decide +kernel
theorem dX8_takeNumber_62 : decode cX8_takeNumber 62 = .ok (.iload 4, 2) := by decide +kernel
theorem dX8_takeNumber_64 : decode cX8_takeNumber 64 = .ok (.invokevirtual 55, 3) := by decide +kernel
theorem dX8_takeNumber_67 : decode cX8_takeNumber 67 = .ok (.iload_n 3, 1) := by decide +kernel
theorem dX8_takeNumber_68 : decode cX8_takeNumber 68 = .ok (.ireturn, 1) := by decide +kernel
theorem dX8_kindOfSign_0 : decode cX8_kindOfSign 0 = .ok (.iload_n 0, 1) := by decide +kernel
theorem dX8_kindOfSign_1 : decode cX8_kindOfSign 1 = .ok (.tableswitch 110 43 62 #[97, 110, 99, 110, 110, 110, 110, 110, 110, 110, 110, 110, 110, 110, 110, 110, 95, 101, 104, 107], 95) := by decide +kernel
theorem dX8_kindOfSign_96 : decode cX8_kindOfSign 96 = .ok (.iconst 3, 1) := by decide +kernel
theorem dX8_kindOfSign_97 : decode cX8_kindOfSign 97 = .ok (.ireturn, 1) := by decide +kernel
theorem dX8_kindOfSign_98 : decode cX8_kindOfSign 98 = .ok (.iconst 4, 1) := by decide +kernel
theorem dX8_kindOfSign_99 : decode cX8_kindOfSign 99 = .ok (.ireturn, 1) := by decide +kernel
theorem dX8_kindOfSign_100 : decode cX8_kindOfSign 100 = .ok (.iconst 5, 1) := by decide +kernel
theorem dX8_kindOfSign_101 : decode cX8_kindOfSign 101 = .ok (.ireturn, 1) := by decide +kernel
theorem dX8_kindOfSign_102 : decode cX8_kindOfSign 102 = .ok (.bipush 6, 2) := by decide +kernel
theorem dX8_kindOfSign_104 : decode cX8_kindOfSign 104 = .ok (.ireturn, 1) := by decide +kernel
theorem dX8_kindOfSign_105 : decode cX8_kindOfSign 105 = .ok (.bipush 7, 2) := by decide +kernel
theorem dX8_kindOfSign_107 : decode cX8_kindOfSign 107 = .ok (.ireturn, 1) := by decide +kernel
theorem dX8_kindOfSign_108 : decode cX8_kindOfSign 108 = .ok (.bipush 8, 2) := by decide +kernel
theorem dX8_kindOfSign_110 : decode cX8_kindOfSign 110 = .ok (.ireturn, 1) := by decide +kernel
theorem dX8_kindOfSign_111 : decode cX8_kindOfSign 111 = .ok (.iconst 0, 1) := by decide +kernel
theorem dX8_kindOfSign_112 : decode cX8_kindOfSign 112 = .ok (.ireturn, 1) := by decide +kernel
theorem dX8_kindOfWord_0 : decode cX8_kindOfWord 0 = .ok (.bipush 9, 2) := by decide +kernel
theorem dX8_kindOfWord_2 : decode cX8_kindOfWord 2 = .ok (.istore_n 3, 1) := by decide +kernel
theorem dX8_kindOfWord_3 : decode cX8_kindOfWord 3 = .ok (.iload_n 1, 1) := by decide +kernel
theorem dX8_kindOfWord_4 : decode cX8_kindOfWord 4 = .ok (.istore 4, 2) := by decide +kernel
theorem dX8_kindOfWord_6 : decode cX8_kindOfWord 6 = .ok (.iconst 1, 1) := by decide +kernel
theorem dX8_kindOfWord_7 : decode cX8_kindOfWord 7 = .ok (.istore 5, 2) := by decide +kernel
theorem dX8_kindOfWord_9 : decode cX8_kindOfWord 9 = .ok (.iconst 0, 1) := by decide +kernel
theorem dX8_kindOfWord_10 : decode cX8_kindOfWord 10 = .ok (.istore 6, 2) := by decide +kernel
theorem dX8_kindOfWord_12 : decode cX8_kindOfWord 12 = .ok (.iload 6, 2) := by decide +kernel
theorem dX8_kindOfWord_14 : decode cX8_kindOfWord 14 = .ok (.ldc 66, 2) := by decide +kernel
theorem dX8_kindOfWord_16 : decode cX8_kindOfWord 16 = .ok (.invokevirtual 68, 3) := by decide +kernel
theorem dX8_kindOfWord_19 : decode cX8_kindOfWord 19 = .ok (.if_icmp .ge 82, 3) := by decide +kernel
theorem dX8_kindOfWord_22 : decode cX8_kindOfWord 22 = .ok (.ldc 66, 2) := by decide +kernel
theorem dX8_kindOfWord_24 : decode cX8_kindOfWord 24 = .ok (.iload 6, 2) := by decide +kernel
theorem dX8_kindOfWord_26 : decode cX8_kindOfWord 26 = .ok (.invokevirtual 74, 3) := by decide +kernel
theorem dX8_kindOfWord_29 : decode cX8_kindOfWord 29 = .ok (.istore 7, 2) := by decide +kernel
theorem dX8_kindOfWord_31 : decode cX8_kindOfWord 31 = .ok (.iload 7, 2) := by decide +kernel
theorem dX8_kindOfWord_33 : decode cX8_kindOfWord 33 = .ok (.bipush 32, 2) := by decide +kernel
theorem dX8_kindOfWord_35 : decode cX8_kindOfWord 35 = .ok (.if_icmp .eq 38, 3) := by decide +kernel
theorem dX8_kindOfWord_38 : decode cX8_kindOfWord 38 = .ok (.iload 5, 2) := by decide +kernel
theorem dX8_kindOfWord_40 : decode cX8_kindOfWord 40 = .ok (.ifCond .eq 24, 3) := by decide +kernel
theorem dX8_kindOfWord_43 : decode cX8_kindOfWord 43 = .ok (.iload 4, 2) := by decide +kernel
theorem dX8_kindOfWord_45 : decode cX8_kindOfWord 45 = .ok (.iload_n 2, 1) := by decide +kernel
theorem dX8_kindOfWord_46 : decode cX8_kindOfWord 46 = .ok (.if_icmp .ge 18, 3) := by decide +kernel
theorem dX8_kindOfWord_49 : decode cX8_kindOfWord 49 = .ok (.aload_n 0, 1) := by decide +kernel
theorem dX8_kindOfWord_50 : decode cX8_kindOfWord 50 = .ok (.iload 4, 2) := by decide +kernel
theorem dX8_kindOfWord_52 : decode cX8_kindOfWord 52 = .ok (.invokevirtual 78, 3) := by decide +kernel
theorem dX8_kindOfWord_55 : decode cX8_kindOfWord 55 = .ok (.iload 7, 2) := by decide +kernel
theorem dX8_kindOfWord_57 : decode cX8_kindOfWord 57 = .ok (.if_icmp .ne 7, 3) := by decide +kernel
theorem dX8_kindOfWord_60 : decode cX8_kindOfWord 60 = .ok (.iconst 1, 1) := by decide +kernel
theorem dX8_kindOfWord_61 : decode cX8_kindOfWord 61 = .ok (.goto 4, 3) := by decide +kernel
theorem dX8_kindOfWord_64 : decode cX8_kindOfWord 64 = .ok (.iconst 0, 1) := by decide +kernel
theorem dX8_kindOfWord_65 : decode cX8_kindOfWord 65 = .ok (.istore 5, 2) := by decide +kernel
theorem dX8_kindOfWord_67 : decode cX8_kindOfWord 67 = .ok (.iinc 4 1, 3) := by decide +kernel
theorem dX8_kindOfWord_70 : decode cX8_kindOfWord 70 = .ok (.goto 25, 3) := by decide +kernel
theorem dX8_kindOfWord_73 : decode cX8_kindOfWord 73 = .ok (.iload 5, 2) := by decide +kernel
theorem dX8_kindOfWord_75 : decode cX8_kindOfWord 75 = .ok (.ifCond .eq 11, 3) := by decide +kernel
theorem dX8_kindOfWord_78 : decode cX8_kindOfWord 78 = .ok (.iload 4, 2) := by decide +kernel
theorem dX8_kindOfWord_80 : decode cX8_kindOfWord 80 = .ok (.iload_n 2, 1) := by decide +kernel
theorem dX8_kindOfWord_81 : decode cX8_kindOfWord 81 = .ok (.if_icmp .ne 5, 3) := by decide +kernel
theorem dX8_kindOfWord_84 : decode cX8_kindOfWord 84 = .ok (.iload_n 3, 1) := by decide +kernel
theorem dX8_kindOfWord_85 : decode cX8_kindOfWord 85 = .ok (.ireturn, 1) := by decide +kernel
theorem dX8_kindOfWord_86 : decode cX8_kindOfWord 86 = .ok (.iinc 3 1, 3) := by decide +kernel
theorem dX8_kindOfWord_89 : decode cX8_kindOfWord 89 = .ok (.iload_n 1, 1) := by decide +kernel
theorem dX8_kindOfWord_90 : decode cX8_kindOfWord 90 = .ok (.istore 4, 2) := by decide +kernel
theorem dX8_kindOfWord_92 : decode cX8_kindOfWord 92 = .ok (.iconst 1, 1) := by decide +kernel
theorem dX8_kindOfWord_93 : decode cX8_kindOfWord 93 = .ok (.istore 5, 2) := by decide +kernel
theorem dX8_kindOfWord_95 : decode cX8_kindOfWord 95 = .ok (.iinc 6 1, 3) := by decide +kernel
theorem dX8_kindOfWord_98 : decode cX8_kindOfWord 98 = .ok (.goto (-86), 3) := by decide +kernel
theorem dX8_kindOfWord_101 : decode cX8_kindOfWord 101 = .ok (.iconst 0, 1) := by decide +kernel
theorem dX8_kindOfWord_102 : decode cX8_kindOfWord 102 = .ok (.ireturn, 1) := by decide +kernel
theorem dX8_isLetter_0 : decode cX8_isLetter 0 = .ok (.iload_n 0, 1) := by decide +kernel
theorem dX8_isLetter_1 : decode cX8_isLetter 1 = .ok (.bipush 97, 2) := by decide +kernel
theorem dX8_isLetter_3 : decode cX8_isLetter 3 = .ok (.bipush 122, 2) := by decide +kernel
theorem dX8_isLetter_5 : decode cX8_isLetter 5 = .ok (.invokestatic 81, 3) := by decide +kernel
theorem dX8_isLetter_8 : decode cX8_isLetter 8 = .ok (.ifCond .ne 14, 3) := by decide +kernel
theorem dX8_isLetter_11 : decode cX8_isLetter 11 = .ok (.iload_n 0, 1) := by decide +kernel
theorem dX8_isLetter_12 : decode cX8_isLetter 12 = .ok (.bipush 65, 2) := by decide +kernel
theorem dX8_isLetter_14 : decode cX8_isLetter 14 = .ok (.bipush 90, 2) := by decide +kernel
theorem dX8_isLetter_16 : decode cX8_isLetter 16 = .ok (.invokestatic 81, 3) := by decide +kernel
theorem dX8_isLetter_19 : decode cX8_isLetter 19 = .ok (.ifCond .eq 7, 3) := by decide +kernel
theorem dX8_isLetter_22 : decode cX8_isLetter 22 = .ok (.iconst 1, 1) := by decide +kernel
theorem dX8_isLetter_23 : decode cX8_isLetter 23 = .ok (.goto 4, 3) := by decide +kernel
theorem dX8_isLetter_26 : decode cX8_isLetter 26 = .ok (.iconst 0, 1) := by decide +kernel
theorem dX8_isLetter_27 : decode cX8_isLetter 27 = .ok (.ireturn, 1) := by decide +kernel
theorem dX8_isDigit_0 : decode cX8_isDigit 0 = .ok (.iload_n 0, 1) := by decide +kernel
theorem dX8_isDigit_1 : decode cX8_isDigit 1 = .ok (.bipush 48, 2) := by decide +kernel
theorem dX8_isDigit_3 : decode cX8_isDigit 3 = .ok (.bipush 57, 2) := by decide +kernel
theorem dX8_isDigit_5 : decode cX8_isDigit 5 = .ok (.invokestatic 81, 3) := by decide +kernel
theorem dX8_isDigit_8 : decode cX8_isDigit 8 = .ok (.ireturn, 1) := by decide +kernel
theorem dX8_isBlank_0 : decode cX8_isBlank 0 = .ok (.iload_n 0, 1) := by decide +kernel
theorem dX8_isBlank_1 : decode cX8_isBlank 1 = .ok (.bipush 32, 2) := by decide +kernel
theorem dX8_isBlank_3 : decode cX8_isBlank 3 = .ok (.if_icmp .eq 9, 3) := by decide +kernel
theorem dX8_isBlank_6 : decode cX8_isBlank 6 = .ok (.iload_n 0, 1) := by decide +kernel
theorem dX8_isBlank_7 : decode cX8_isBlank 7 = .ok (.bipush 10, 2) := by decide +kernel
theorem dX8_isBlank_9 : decode cX8_isBlank 9 = .ok (.if_icmp .ne 7, 3) := by decide +kernel
theorem dX8_isBlank_12 : decode cX8_isBlank 12 = .ok (.iconst 1, 1) := by decide +kernel
theorem dX8_isBlank_13 : decode cX8_isBlank 13 = .ok (.goto 4, 3) := by decide +kernel
theorem dX8_isBlank_16 : decode cX8_isBlank 16 = .ok (.iconst 0, 1) := by decide +kernel
theorem dX8_isBlank_17 : decode cX8_isBlank 17 = .ok (.ireturn, 1) := by decide +kernel
theorem dX9_init_0 : decode cX9_init 0 = .ok (.aload_n 0, 1) := by decide +kernel
theorem dX9_init_1 : decode cX9_init 1 = .ok (.invokespecial 3, 3) := by decide +kernel
theorem dX9_init_4 : decode cX9_init 4 = .ok (.aload_n 0, 1) := by decide +kernel
theorem dX9_init_5 : decode cX9_init 5 = .ok (.iconst 0, 1) := by decide +kernel
theorem dX9_init_6 : decode cX9_init 6 = .ok (.putfield 9, 3) := by decide +kernel
theorem dX9_init_9 : decode cX9_init 9 = .ok (.aload_n 0, 1) := by decide +kernel
theorem dX9_init_10 : decode cX9_init 10 = .ok (.iconst 0, 1) := by decide +kernel
theorem dX9_init_11 : decode cX9_init 11 = .ok (.putfield 15, 3) := by decide +kernel
theorem dX9_init_14 : decode cX9_init 14 = .ok (.aload_n 0, 1) := by decide +kernel
theorem dX9_init_15 : decode cX9_init 15 = .ok (.iconst (-1), 1) := by decide +kernel
theorem dX9_init_16 : decode cX9_init 16 = .ok (.putfield 18, 3) := by decide +kernel
theorem dX9_init_19 : decode cX9_init 19 = .ok (.aload_n 0, 1) := by decide +kernel
theorem dX9_init_20 : decode cX9_init 20 = .ok (.new 21, 3) := by decide +kernel
theorem dX9_init_23 : decode cX9_init 23 = .ok (.dup, 1) := by decide +kernel
theorem dX9_init_24 : decode cX9_init 24 = .ok (.invokespecial 23, 3) := by decide +kernel
theorem dX9_init_27 : decode cX9_init 27 = .ok (.putfield 24, 3) := by decide +kernel
theorem dX9_init_30 : decode cX9_init 30 = .ok (.aload_n 0, 1) := by decide +kernel
theorem dX9_init_31 : decode cX9_init 31 = .ok (.new 28, 3) := by decide +kernel
theorem dX9_init_34 : decode cX9_init 34 = .ok (.dup, 1) := by decide +kernel
theorem dX9_init_35 : decode cX9_init 35 = .ok (.iconst 4, 1) := by decide +kernel
theorem dX9_init_36 : decode cX9_init 36 = .ok (.invokespecial 30, 3) := by decide +kernel
theorem dX9_init_39 : decode cX9_init 39 = .ok (.putfield 33, 3) := by decide +kernel
theorem dX9_init_42 : decode cX9_init 42 = .ok (.aload_n 0, 1) := by decide +kernel
theorem dX9_init_43 : decode cX9_init 43 = .ok (.new 37, 3) := by decide +kernel
theorem dX9_init_46 : decode cX9_init 46 = .ok (.dup, 1) := by decide +kernel
theorem dX9_init_47 : decode cX9_init 47 = .ok (.invokespecial 39, 3) := by decide +kernel
theorem dX9_init_50 : decode cX9_init 50 = .ok (.putfield 40, 3) := by decide +kernel
theorem dX9_init_53 : decode cX9_init 53 = .ok (.aload_n 0, 1) := by decide +kernel
theorem dX9_init_54 : decode cX9_init 54 = .ok (.iconst 3, 1) := by decide +kernel
theorem dX9_init_55 : decode cX9_init 55 = .ok (.newarray .int, 2) := by decide +kernel
theorem dX9_init_57 : decode cX9_init 57 = .ok (.putfield 44, 3) := by decide +kernel
theorem dX9_init_60 : decode cX9_init 60 = .ok (.return_, 1) := by decide +kernel
theorem dX9_seekOrder_0 : decode cX9_seekOrder 0 = .ok (.aload_n 0, 1) := by decide +kernel
theorem dX9_seekOrder_1 : decode cX9_seekOrder 1 = .ok (.iload_n 3, 1) := by decide +kernel
theorem dX9_seekOrder_2 : decode cX9_seekOrder 2 = .ok (.invokevirtual 48, 3) := by decide +kernel
theorem dX9_seekOrder_5 : decode cX9_seekOrder 5 = .ok (.istore 4, 2) := by decide +kernel
theorem dX9_seekOrder_7 : decode cX9_seekOrder 7 = .ok (.aload_n 0, 1) := by decide +kernel
theorem dX9_seekOrder_8 : decode cX9_seekOrder 8 = .ok (.iconst (-1), 1) := by decide +kernel
theorem dX9_seekOrder_9 : decode cX9_seekOrder 9 = .ok (.putfield 18, 3) := by decide +kernel
theorem dX9_seekOrder_12 : decode cX9_seekOrder 12 = .ok (.iconst 0, 1) := by decide +kernel
theorem dX9_seekOrder_13 : decode cX9_seekOrder 13 = .ok (.istore 5, 2) := by decide +kernel
theorem dX9_seekOrder_15 : decode cX9_seekOrder 15 = .ok (.iload 5, 2) := by decide +kernel
theorem dX9_seekOrder_17 : decode cX9_seekOrder 17 = .ok (.iconst 3, 1) := by decide +kernel
theorem dX9_seekOrder_18 : decode cX9_seekOrder 18 = .ok (.iadd, 1) := by decide +kernel
theorem dX9_seekOrder_19 : decode cX9_seekOrder 19 = .ok (.getstatic 52, 3) := by decide +kernel
theorem dX9_seekOrder_22 : decode cX9_seekOrder 22 = .ok (.arraylength, 1) := by decide +kernel
theorem dX9_seekOrder_23 : decode cX9_seekOrder 23 = .ok (.if_icmp .gt 129, 3) := by decide +kernel
theorem dX9_seekOrder_26 : decode cX9_seekOrder 26 = .ok (.iload 4, 2) := by decide +kernel
theorem dX9_seekOrder_28 : decode cX9_seekOrder 28 = .ok (.iload 5, 2) := by decide +kernel
theorem dX9_seekOrder_30 : decode cX9_seekOrder 30 = .ok (.invokestatic 55, 3) := by decide +kernel
theorem dX9_seekOrder_33 : decode cX9_seekOrder 33 = .ok (.ifCond .ne 6, 3) := by decide +kernel
theorem dX9_seekOrder_36 : decode cX9_seekOrder 36 = .ok (.goto 110, 3) := by decide +kernel
theorem dX9_seekOrder_39 : decode cX9_seekOrder 39 = .ok (.aload_n 0, 1) := by decide +kernel
theorem dX9_seekOrder_40 : decode cX9_seekOrder 40 = .ok (.getfield 40, 3) := by decide +kernel
theorem dX9_seekOrder_43 : decode cX9_seekOrder 43 = .ok (.aload_n 2, 1) := by decide +kernel
theorem dX9_seekOrder_44 : decode cX9_seekOrder 44 = .ok (.invokevirtual 59, 3) := by decide +kernel
theorem dX9_seekOrder_47 : decode cX9_seekOrder 47 = .ok (.bipush 9, 2) := by decide +kernel
theorem dX9_seekOrder_49 : decode cX9_seekOrder 49 = .ok (.istore 6, 2) := by decide +kernel
theorem dX9_seekOrder_51 : decode cX9_seekOrder 51 = .ok (.iconst 0, 1) := by decide +kernel
theorem dX9_seekOrder_52 : decode cX9_seekOrder 52 = .ok (.istore 7, 2) := by decide +kernel
theorem dX9_seekOrder_54 : decode cX9_seekOrder 54 = .ok (.iload 7, 2) := by decide +kernel
theorem dX9_seekOrder_56 : decode cX9_seekOrder 56 = .ok (.iload 4, 2) := by decide +kernel
theorem dX9_seekOrder_58 : decode cX9_seekOrder 58 = .ok (.if_icmp .ge 63, 3) := by decide +kernel
theorem dX9_seekOrder_61 : decode cX9_seekOrder 61 = .ok (.aload_n 0, 1) := by decide +kernel
theorem dX9_seekOrder_62 : decode cX9_seekOrder 62 = .ok (.getfield 44, 3) := by decide +kernel
theorem dX9_seekOrder_65 : decode cX9_seekOrder 65 = .ok (.getstatic 52, 3) := by decide +kernel
theorem dX9_seekOrder_68 : decode cX9_seekOrder 68 = .ok (.iload 5, 2) := by decide +kernel
theorem dX9_seekOrder_70 : decode cX9_seekOrder 70 = .ok (.iload 7, 2) := by decide +kernel
theorem dX9_seekOrder_72 : decode cX9_seekOrder 72 = .ok (.iadd, 1) := by decide +kernel
theorem dX9_seekOrder_73 : decode cX9_seekOrder 73 = .ok (.iaload, 1) := by decide +kernel
theorem dX9_seekOrder_74 : decode cX9_seekOrder 74 = .ok (.iaload, 1) := by decide +kernel
theorem dX9_seekOrder_75 : decode cX9_seekOrder 75 = .ok (.istore 8, 2) := by decide +kernel
theorem dX9_seekOrder_77 : decode cX9_seekOrder 77 = .ok (.aload_n 1, 1) := by decide +kernel
theorem dX9_seekOrder_78 : decode cX9_seekOrder 78 = .ok (.iload 8, 2) := by decide +kernel
theorem dX9_seekOrder_80 : decode cX9_seekOrder 80 = .ok (.invokevirtual 63, 3) := by decide +kernel
theorem dX9_seekOrder_83 : decode cX9_seekOrder 83 = .ok (.astore 9, 2) := by decide +kernel
theorem dX9_seekOrder_85 : decode cX9_seekOrder 85 = .ok (.aload 9, 2) := by decide +kernel
theorem dX9_seekOrder_87 : decode cX9_seekOrder 87 = .ok (.ifnull 18, 3) := by decide +kernel
theorem dX9_seekOrder_90 : decode cX9_seekOrder 90 = .ok (.aload_n 0, 1) := by decide +kernel
theorem dX9_seekOrder_91 : decode cX9_seekOrder 91 = .ok (.getfield 24, 3) := by decide +kernel
theorem dX9_seekOrder_94 : decode cX9_seekOrder 94 = .ok (.aload 9, 2) := by decide +kernel
theorem dX9_seekOrder_96 : decode cX9_seekOrder 96 = .ok (.aload_n 0, 1) := by decide +kernel
theorem dX9_seekOrder_97 : decode cX9_seekOrder 97 = .ok (.getfield 40, 3) := by decide +kernel
theorem dX9_seekOrder_100 : decode cX9_seekOrder 100 = .ok (.aload_n 1, 1) := by decide +kernel
theorem dX9_seekOrder_101 : decode cX9_seekOrder 101 = .ok (.invokevirtual 69, 3) := by decide +kernel
theorem dX9_seekOrder_104 : decode cX9_seekOrder 104 = .ok (.pop, 1) := by decide +kernel
theorem dX9_seekOrder_105 : decode cX9_seekOrder 105 = .ok (.iload 6, 2) := by decide +kernel
theorem dX9_seekOrder_107 : decode cX9_seekOrder 107 = .ok (.bipush 10, 2) := by decide +kernel
theorem dX9_seekOrder_109 : decode cX9_seekOrder 109 = .ok (.imul, 1) := by decide +kernel
theorem dX9_seekOrder_110 : decode cX9_seekOrder 110 = .ok (.iload 8, 2) := by decide +kernel
theorem dX9_seekOrder_112 : decode cX9_seekOrder 112 = .ok (.iadd, 1) := by decide +kernel
theorem dX9_seekOrder_113 : decode cX9_seekOrder 113 = .ok (.istore 6, 2) := by decide +kernel
theorem dX9_seekOrder_115 : decode cX9_seekOrder 115 = .ok (.iinc 7 1, 3) := by decide +kernel
theorem dX9_seekOrder_118 : decode cX9_seekOrder 118 = .ok (.goto (-64), 3) := by decide +kernel
theorem dX9_seekOrder_121 : decode cX9_seekOrder 121 = .ok (.aload_n 0, 1) := by decide +kernel
theorem dX9_seekOrder_122 : decode cX9_seekOrder 122 = .ok (.aload_n 0, 1) := by decide +kernel
theorem dX9_seekOrder_123 : decode cX9_seekOrder 123 = .ok (.getfield 40, 3) := by decide +kernel
theorem dX9_seekOrder_126 : decode cX9_seekOrder 126 = .ok (.invokevirtual 73, 3) := by decide +kernel
theorem dX9_seekOrder_129 : decode cX9_seekOrder 129 = .ok (.aload_n 0, 1) := by decide +kernel
theorem dX9_seekOrder_130 : decode cX9_seekOrder 130 = .ok (.getfield 40, 3) := by decide +kernel
theorem dX9_seekOrder_133 : decode cX9_seekOrder 133 = .ok (.getfield 77, 3) := by decide +kernel
theorem dX9_seekOrder_136 : decode cX9_seekOrder 136 = .ok (.aload_n 2, 1) := by decide +kernel
theorem dX9_seekOrder_137 : decode cX9_seekOrder 137 = .ok (.getfield 77, 3) := by decide +kernel
theorem dX9_seekOrder_140 : decode cX9_seekOrder 140 = .ok (.isub, 1) := by decide +kernel
theorem dX9_seekOrder_141 : decode cX9_seekOrder 141 = .ok (.iload 6, 2) := by decide +kernel
theorem dX9_seekOrder_143 : decode cX9_seekOrder 143 = .ok (.invokevirtual 80, 3) := by decide +kernel
theorem dX9_seekOrder_146 : decode cX9_seekOrder 146 = .ok (.iinc 5 3, 3) := by decide +kernel
theorem dX9_seekOrder_149 : decode cX9_seekOrder 149 = .ok (.goto (-134), 3) := by decide +kernel
theorem dX9_seekOrder_152 : decode cX9_seekOrder 152 = .ok (.return_, 1) := by decide +kernel
theorem dX9_choose_0 : decode cX9_choose 0 = .ok (.iconst 0, 1) := by decide +kernel
theorem dX9_choose_1 : decode cX9_choose 1 = .ok (.istore_n 2, 1) := by decide +kernel
theorem dX9_choose_2 : decode cX9_choose 2 = .ok (.iconst 0, 1) := by decide +kernel
theorem dX9_choose_3 : decode cX9_choose 3 = .ok (.istore_n 3, 1) := by decide +kernel
theorem dX9_choose_4 : decode cX9_choose 4 = .ok (.iload_n 3, 1) := by decide +kernel
theorem dX9_choose_5 : decode cX9_choose 5 = .ok (.bipush 8, 2) := by decide +kernel
theorem dX9_choose_7 : decode cX9_choose 7 = .ok (.if_icmp .ge 33, 3) := by decide +kernel
theorem dX9_choose_10 : decode cX9_choose 10 = .ok (.iload_n 2, 1) := by decide +kernel
theorem dX9_choose_11 : decode cX9_choose 11 = .ok (.iconst 3, 1) := by decide +kernel
theorem dX9_choose_12 : decode cX9_choose 12 = .ok (.if_icmp .ge 28, 3) := by decide +kernel
theorem dX9_choose_15 : decode cX9_choose 15 = .ok (.iload_n 1, 1) := by decide +kernel
theorem dX9_choose_16 : decode cX9_choose 16 = .ok (.iload_n 3, 1) := by decide +kernel
theorem dX9_choose_17 : decode cX9_choose 17 = .ok (.ishr, 1) := by decide +kernel
theorem dX9_choose_18 : decode cX9_choose 18 = .ok (.iconst 1, 1) := by decide +kernel
theorem dX9_choose_19 : decode cX9_choose 19 = .ok (.iand, 1) := by decide +kernel
theorem dX9_choose_20 : decode cX9_choose 20 = .ok (.iconst 1, 1) := by decide +kernel
theorem dX9_choose_21 : decode cX9_choose 21 = .ok (.if_icmp .ne 13, 3) := by decide +kernel
theorem dX9_choose_24 : decode cX9_choose 24 = .ok (.aload_n 0, 1) := by decide +kernel
theorem dX9_choose_25 : decode cX9_choose 25 = .ok (.getfield 44, 3) := by decide +kernel
theorem dX9_choose_28 : decode cX9_choose 28 = .ok (.iload_n 2, 1) := by decide +kernel
theorem dX9_choose_29 : decode cX9_choose 29 = .ok (.iload_n 3, 1) := by decide +kernel
theorem dX9_choose_30 : decode cX9_choose 30 = .ok (.iastore, 1) := by decide +kernel
theorem dX9_choose_31 : decode cX9_choose 31 = .ok (.iinc 2 1, 3) := by decide +kernel
theorem dX9_choose_34 : decode cX9_choose 34 = .ok (.iinc 3 1, 3) := by decide +kernel
theorem dX9_choose_37 : decode cX9_choose 37 = .ok (.goto (-33), 3) := by decide +kernel
theorem dX9_choose_40 : decode cX9_choose 40 = .ok (.iload_n 2, 1) := by decide +kernel
theorem dX9_choose_41 : decode cX9_choose 41 = .ok (.ireturn, 1) := by decide +kernel
theorem dX9_ordersJust_0 : decode cX9_ordersJust 0 = .ok (.iload_n 0, 1) := by decide +kernel
theorem dX9_ordersJust_1 : decode cX9_ordersJust 1 = .ok (.istore_n 2, 1) := by decide +kernel
theorem dX9_ordersJust_2 : decode cX9_ordersJust 2 = .ok (.iload_n 2, 1) := by decide +kernel
theorem dX9_ordersJust_3 : decode cX9_ordersJust 3 = .ok (.iconst 3, 1) := by decide +kernel
theorem dX9_ordersJust_4 : decode cX9_ordersJust 4 = .ok (.if_icmp .ge 22, 3) := by decide +kernel
theorem dX9_ordersJust_7 : decode cX9_ordersJust 7 = .ok (.getstatic 52, 3) := by decide +kernel
theorem dX9_ordersJust_10 : decode cX9_ordersJust 10 = .ok (.iload_n 1, 1) := by decide +kernel
theorem dX9_ordersJust_11 : decode cX9_ordersJust 11 = .ok (.iload_n 2, 1) := by decide +kernel
theorem dX9_ordersJust_12 : decode cX9_ordersJust 12 = .ok (.iadd, 1) := by decide +kernel
theorem dX9_ordersJust_13 : decode cX9_ordersJust 13 = .ok (.iaload, 1) := by decide +kernel
theorem dX9_ordersJust_14 : decode cX9_ordersJust 14 = .ok (.iload_n 2, 1) := by decide +kernel
theorem dX9_ordersJust_15 : decode cX9_ordersJust 15 = .ok (.if_icmp .eq 5, 3) := by decide +kernel
theorem dX9_ordersJust_18 : decode cX9_ordersJust 18 = .ok (.iconst 0, 1) := by decide +kernel
theorem dX9_ordersJust_19 : decode cX9_ordersJust 19 = .ok (.ireturn, 1) := by decide +kernel
theorem dX9_ordersJust_20 : decode cX9_ordersJust 20 = .ok (.iinc 2 1, 3) := by decide +kernel
theorem dX9_ordersJust_23 : decode cX9_ordersJust 23 = .ok (.goto (-21), 3) := by decide +kernel
theorem dX9_ordersJust_26 : decode cX9_ordersJust 26 = .ok (.iconst 1, 1) := by decide +kernel
theorem dX9_ordersJust_27 : decode cX9_ordersJust 27 = .ok (.ireturn, 1) := by decide +kernel
theorem dX9_keepIfBetter_0 : decode cX9_keepIfBetter 0 = .ok (.iload_n 1, 1) := by decide +kernel
theorem dX9_keepIfBetter_1 : decode cX9_keepIfBetter 1 = .ok (.aload_n 0, 1) := by decide +kernel
theorem dX9_keepIfBetter_2 : decode cX9_keepIfBetter 2 = .ok (.getfield 9, 3) := by decide +kernel
theorem dX9_keepIfBetter_5 : decode cX9_keepIfBetter 5 = .ok (.if_icmp .lt 19, 3) := by decide +kernel
theorem dX9_keepIfBetter_8 : decode cX9_keepIfBetter 8 = .ok (.iload_n 1, 1) := by decide +kernel
theorem dX9_keepIfBetter_9 : decode cX9_keepIfBetter 9 = .ok (.aload_n 0, 1) := by decide +kernel
theorem dX9_keepIfBetter_10 : decode cX9_keepIfBetter 10 = .ok (.getfield 9, 3) := by decide +kernel
theorem dX9_keepIfBetter_13 : decode cX9_keepIfBetter 13 = .ok (.if_icmp .ne 15, 3) := by decide +kernel
theorem dX9_keepIfBetter_16 : decode cX9_keepIfBetter 16 = .ok (.iload_n 2, 1) := by decide +kernel
theorem dX9_keepIfBetter_17 : decode cX9_keepIfBetter 17 = .ok (.aload_n 0, 1) := by decide +kernel
theorem dX9_keepIfBetter_18 : decode cX9_keepIfBetter 18 = .ok (.getfield 15, 3) := by decide +kernel
theorem dX9_keepIfBetter_21 : decode cX9_keepIfBetter 21 = .ok (.if_icmp .ge 7, 3) := by decide +kernel
theorem dX9_keepIfBetter_24 : decode cX9_keepIfBetter 24 = .ok (.iconst 1, 1) := by decide +kernel
theorem dX9_keepIfBetter_25 : decode cX9_keepIfBetter 25 = .ok (.goto 4, 3) := by decide +kernel
theorem dX9_keepIfBetter_28 : decode cX9_keepIfBetter 28 = .ok (.iconst 0, 1) := by decide +kernel
theorem dX9_keepIfBetter_29 : decode cX9_keepIfBetter 29 = .ok (.istore 4, 2) := by decide +kernel
theorem dX9_keepIfBetter_31 : decode cX9_keepIfBetter 31 = .ok (.aload_n 0, 1) := by decide +kernel
theorem dX9_keepIfBetter_32 : decode cX9_keepIfBetter 32 = .ok (.getfield 18, 3) := by decide +kernel
theorem dX9_keepIfBetter_35 : decode cX9_keepIfBetter 35 = .ok (.iconst (-1), 1) := by decide +kernel
theorem dX9_keepIfBetter_36 : decode cX9_keepIfBetter 36 = .ok (.if_icmp .eq 8, 3) := by decide +kernel
theorem dX9_keepIfBetter_39 : decode cX9_keepIfBetter 39 = .ok (.iload 4, 2) := by decide +kernel
theorem dX9_keepIfBetter_41 : decode cX9_keepIfBetter 41 = .ok (.ifCond .eq 18, 3) := by decide +kernel
theorem dX9_keepIfBetter_44 : decode cX9_keepIfBetter 44 = .ok (.aload_n 0, 1) := by decide +kernel
theorem dX9_keepIfBetter_45 : decode cX9_keepIfBetter 45 = .ok (.iload_n 1, 1) := by decide +kernel
theorem dX9_keepIfBetter_46 : decode cX9_keepIfBetter 46 = .ok (.putfield 9, 3) := by decide +kernel
theorem dX9_keepIfBetter_49 : decode cX9_keepIfBetter 49 = .ok (.aload_n 0, 1) := by decide +kernel
theorem dX9_keepIfBetter_50 : decode cX9_keepIfBetter 50 = .ok (.iload_n 2, 1) := by decide +kernel
theorem dX9_keepIfBetter_51 : decode cX9_keepIfBetter 51 = .ok (.putfield 15, 3) := by decide +kernel
theorem dX9_keepIfBetter_54 : decode cX9_keepIfBetter 54 = .ok (.aload_n 0, 1) := by decide +kernel
theorem dX9_keepIfBetter_55 : decode cX9_keepIfBetter 55 = .ok (.iload_n 3, 1) := by decide +kernel
theorem dX9_keepIfBetter_56 : decode cX9_keepIfBetter 56 = .ok (.putfield 18, 3) := by decide +kernel
theorem dX9_keepIfBetter_59 : decode cX9_keepIfBetter 59 = .ok (.return_, 1) := by decide +kernel
theorem dX9_leastSpeed_0 : decode cX9_leastSpeed 0 = .ok (.aload_n 2, 1) := by decide +kernel
theorem dX9_leastSpeed_1 : decode cX9_leastSpeed 1 = .ok (.aload_n 2, 1) := by decide +kernel
theorem dX9_leastSpeed_2 : decode cX9_leastSpeed 2 = .ok (.getfield 84, 3) := by decide +kernel
theorem dX9_leastSpeed_5 : decode cX9_leastSpeed 5 = .ok (.getfield 88, 3) := by decide +kernel
theorem dX9_leastSpeed_8 : decode cX9_leastSpeed 8 = .ok (.iload_n 3, 1) := by decide +kernel
theorem dX9_leastSpeed_9 : decode cX9_leastSpeed 9 = .ok (.invokestatic 93, 3) := by decide +kernel
theorem dX9_leastSpeed_12 : decode cX9_leastSpeed 12 = .ok (.iload 4, 2) := by decide +kernel
theorem dX9_leastSpeed_14 : decode cX9_leastSpeed 14 = .ok (.imul, 1) := by decide +kernel
theorem dX9_leastSpeed_15 : decode cX9_leastSpeed 15 = .ok (.iadd, 1) := by decide +kernel
theorem dX9_leastSpeed_16 : decode cX9_leastSpeed 16 = .ok (.aload_n 2, 1) := by decide +kernel
theorem dX9_leastSpeed_17 : decode cX9_leastSpeed 17 = .ok (.getfield 84, 3) := by decide +kernel
theorem dX9_leastSpeed_20 : decode cX9_leastSpeed 20 = .ok (.getfield 96, 3) := by decide +kernel
theorem dX9_leastSpeed_23 : decode cX9_leastSpeed 23 = .ok (.iload_n 3, 1) := by decide +kernel
theorem dX9_leastSpeed_24 : decode cX9_leastSpeed 24 = .ok (.invokestatic 99, 3) := by decide +kernel
theorem dX9_leastSpeed_27 : decode cX9_leastSpeed 27 = .ok (.iload 4, 2) := by decide +kernel
theorem dX9_leastSpeed_29 : decode cX9_leastSpeed 29 = .ok (.imul, 1) := by decide +kernel
theorem dX9_leastSpeed_30 : decode cX9_leastSpeed 30 = .ok (.iadd, 1) := by decide +kernel
theorem dX9_leastSpeed_31 : decode cX9_leastSpeed 31 = .ok (.invokevirtual 102, 3) := by decide +kernel
theorem dX9_leastSpeed_34 : decode cX9_leastSpeed 34 = .ok (.ifCond .ne 5, 3) := by decide +kernel
theorem dX9_leastSpeed_37 : decode cX9_leastSpeed 37 = .ok (.iconst (-1), 1) := by decide +kernel
theorem dX9_leastSpeed_38 : decode cX9_leastSpeed 38 = .ok (.ireturn, 1) := by decide +kernel
theorem dX9_leastSpeed_39 : decode cX9_leastSpeed 39 = .ok (.aload_n 0, 1) := by decide +kernel
theorem dX9_leastSpeed_40 : decode cX9_leastSpeed 40 = .ok (.getfield 33, 3) := by decide +kernel
theorem dX9_leastSpeed_43 : decode cX9_leastSpeed 43 = .ok (.iconst 0, 1) := by decide +kernel
theorem dX9_leastSpeed_44 : decode cX9_leastSpeed 44 = .ok (.putfield 105, 3) := by decide +kernel
theorem dX9_leastSpeed_47 : decode cX9_leastSpeed 47 = .ok (.aload_n 0, 1) := by decide +kernel
theorem dX9_leastSpeed_48 : decode cX9_leastSpeed 48 = .ok (.getfield 33, 3) := by decide +kernel
theorem dX9_leastSpeed_51 : decode cX9_leastSpeed 51 = .ok (.bipush 9, 2) := by decide +kernel
theorem dX9_leastSpeed_53 : decode cX9_leastSpeed 53 = .ok (.invokevirtual 110, 3) := by decide +kernel
theorem dX9_leastSpeed_56 : decode cX9_leastSpeed 56 = .ok (.aload_n 0, 1) := by decide +kernel
theorem dX9_leastSpeed_57 : decode cX9_leastSpeed 57 = .ok (.getfield 33, 3) := by decide +kernel
theorem dX9_leastSpeed_60 : decode cX9_leastSpeed 60 = .ok (.bipush 12, 2) := by decide +kernel
theorem dX9_leastSpeed_62 : decode cX9_leastSpeed 62 = .ok (.invokevirtual 110, 3) := by decide +kernel
theorem dX9_leastSpeed_65 : decode cX9_leastSpeed 65 = .ok (.aload_n 0, 1) := by decide +kernel
theorem dX9_leastSpeed_66 : decode cX9_leastSpeed 66 = .ok (.getfield 33, 3) := by decide +kernel
theorem dX9_leastSpeed_69 : decode cX9_leastSpeed 69 = .ok (.iload_n 3, 1) := by decide +kernel
theorem dX9_leastSpeed_70 : decode cX9_leastSpeed 70 = .ok (.invokevirtual 110, 3) := by decide +kernel
theorem dX9_leastSpeed_73 : decode cX9_leastSpeed 73 = .ok (.aload_n 0, 1) := by decide +kernel
theorem dX9_leastSpeed_74 : decode cX9_leastSpeed 74 = .ok (.getfield 33, 3) := by decide +kernel
theorem dX9_leastSpeed_77 : decode cX9_leastSpeed 77 = .ok (.iload 4, 2) := by decide +kernel
theorem dX9_leastSpeed_79 : decode cX9_leastSpeed 79 = .ok (.invokevirtual 110, 3) := by decide +kernel
theorem dX9_leastSpeed_82 : decode cX9_leastSpeed 82 = .ok (.iconst 1, 1) := by decide +kernel
theorem dX9_leastSpeed_83 : decode cX9_leastSpeed 83 = .ok (.istore 5, 2) := by decide +kernel
theorem dX9_leastSpeed_85 : decode cX9_leastSpeed 85 = .ok (.iload 5, 2) := by decide +kernel
theorem dX9_leastSpeed_87 : decode cX9_leastSpeed 87 = .ok (.bipush 20, 2) := by decide +kernel
theorem dX9_leastSpeed_89 : decode cX9_leastSpeed 89 = .ok (.if_icmp .gt 59, 3) := by decide +kernel
theorem dX9_leastSpeed_92 : decode cX9_leastSpeed 92 = .ok (.aload_n 0, 1) := by decide +kernel
theorem dX9_leastSpeed_93 : decode cX9_leastSpeed 93 = .ok (.getfield 40, 3) := by decide +kernel
theorem dX9_leastSpeed_96 : decode cX9_leastSpeed 96 = .ok (.aload_n 2, 1) := by decide +kernel
theorem dX9_leastSpeed_97 : decode cX9_leastSpeed 97 = .ok (.invokevirtual 59, 3) := by decide +kernel
theorem dX9_leastSpeed_100 : decode cX9_leastSpeed 100 = .ok (.aload_n 0, 1) := by decide +kernel
theorem dX9_leastSpeed_101 : decode cX9_leastSpeed 101 = .ok (.getfield 40, 3) := by decide +kernel
theorem dX9_leastSpeed_104 : decode cX9_leastSpeed 104 = .ok (.getfield 84, 3) := by decide +kernel
theorem dX9_leastSpeed_107 : decode cX9_leastSpeed 107 = .ok (.iload 5, 2) := by decide +kernel
theorem dX9_leastSpeed_109 : decode cX9_leastSpeed 109 = .ok (.putfield 113, 3) := by decide +kernel
theorem dX9_leastSpeed_112 : decode cX9_leastSpeed 112 = .ok (.aload_n 0, 1) := by decide +kernel
theorem dX9_leastSpeed_113 : decode cX9_leastSpeed 113 = .ok (.getfield 24, 3) := by decide +kernel
theorem dX9_leastSpeed_116 : decode cX9_leastSpeed 116 = .ok (.aload_n 0, 1) := by decide +kernel
theorem dX9_leastSpeed_117 : decode cX9_leastSpeed 117 = .ok (.getfield 33, 3) := by decide +kernel
theorem dX9_leastSpeed_120 : decode cX9_leastSpeed 120 = .ok (.aload_n 0, 1) := by decide +kernel
theorem dX9_leastSpeed_121 : decode cX9_leastSpeed 121 = .ok (.getfield 40, 3) := by decide +kernel
theorem dX9_leastSpeed_124 : decode cX9_leastSpeed 124 = .ok (.aload_n 1, 1) := by decide +kernel
theorem dX9_leastSpeed_125 : decode cX9_leastSpeed 125 = .ok (.invokevirtual 69, 3) := by decide +kernel
theorem dX9_leastSpeed_128 : decode cX9_leastSpeed 128 = .ok (.pop, 1) := by decide +kernel
theorem dX9_leastSpeed_129 : decode cX9_leastSpeed 129 = .ok (.aload_n 0, 1) := by decide +kernel
theorem dX9_leastSpeed_130 : decode cX9_leastSpeed 130 = .ok (.iload_n 3, 1) := by decide +kernel
theorem dX9_leastSpeed_131 : decode cX9_leastSpeed 131 = .ok (.iload 4, 2) := by decide +kernel
theorem dX9_leastSpeed_133 : decode cX9_leastSpeed 133 = .ok (.invokevirtual 116, 3) := by decide +kernel
theorem dX9_leastSpeed_136 : decode cX9_leastSpeed 136 = .ok (.ifCond .eq 6, 3) := by decide +kernel
theorem dX9_leastSpeed_139 : decode cX9_leastSpeed 139 = .ok (.iload 5, 2) := by decide +kernel
theorem dX9_leastSpeed_141 : decode cX9_leastSpeed 141 = .ok (.ireturn, 1) := by decide +kernel
theorem dX9_leastSpeed_142 : decode cX9_leastSpeed 142 = .ok (.iinc 5 1, 3) := by decide +kernel
theorem dX9_leastSpeed_145 : decode cX9_leastSpeed 145 = .ok (.goto (-60), 3) := by decide +kernel
theorem dX9_leastSpeed_148 : decode cX9_leastSpeed 148 = .ok (.iconst (-1), 1) := by decide +kernel
theorem dX9_leastSpeed_149 : decode cX9_leastSpeed 149 = .ok (.ireturn, 1) := by decide +kernel
theorem dX9_noneIsThereBehind_0 : decode cX9_noneIsThereBehind 0 = .ok (.iconst 0, 1) := by decide +kernel
theorem dX9_noneIsThereBehind_1 : decode cX9_noneIsThereBehind 1 = .ok (.istore_n 3, 1) := by decide +kernel
theorem dX9_noneIsThereBehind_2 : decode cX9_noneIsThereBehind 2 = .ok (.iload_n 3, 1) := by decide +kernel
theorem dX9_noneIsThereBehind_3 : decode cX9_noneIsThereBehind 3 = .ok (.iload_n 2, 1) := by decide +kernel
theorem dX9_noneIsThereBehind_4 : decode cX9_noneIsThereBehind 4 = .ok (.if_icmp .ge 66, 3) := by decide +kernel
theorem dX9_noneIsThereBehind_7 : decode cX9_noneIsThereBehind 7 = .ok (.aload_n 0, 1) := by decide +kernel
theorem dX9_noneIsThereBehind_8 : decode cX9_noneIsThereBehind 8 = .ok (.getfield 40, 3) := by decide +kernel
theorem dX9_noneIsThereBehind_11 : decode cX9_noneIsThereBehind 11 = .ok (.aload_n 0, 1) := by decide +kernel
theorem dX9_noneIsThereBehind_12 : decode cX9_noneIsThereBehind 12 = .ok (.getfield 40, 3) := by decide +kernel
theorem dX9_noneIsThereBehind_15 : decode cX9_noneIsThereBehind 15 = .ok (.getfield 84, 3) := by decide +kernel
theorem dX9_noneIsThereBehind_18 : decode cX9_noneIsThereBehind 18 = .ok (.getfield 88, 3) := by decide +kernel
theorem dX9_noneIsThereBehind_21 : decode cX9_noneIsThereBehind 21 = .ok (.iload_n 1, 1) := by decide +kernel
theorem dX9_noneIsThereBehind_22 : decode cX9_noneIsThereBehind 22 = .ok (.invokestatic 93, 3) := by decide +kernel
theorem dX9_noneIsThereBehind_25 : decode cX9_noneIsThereBehind 25 = .ok (.iload_n 3, 1) := by decide +kernel
theorem dX9_noneIsThereBehind_26 : decode cX9_noneIsThereBehind 26 = .ok (.imul, 1) := by decide +kernel
theorem dX9_noneIsThereBehind_27 : decode cX9_noneIsThereBehind 27 = .ok (.isub, 1) := by decide +kernel
theorem dX9_noneIsThereBehind_28 : decode cX9_noneIsThereBehind 28 = .ok (.aload_n 0, 1) := by decide +kernel
theorem dX9_noneIsThereBehind_29 : decode cX9_noneIsThereBehind 29 = .ok (.getfield 40, 3) := by decide +kernel
theorem dX9_noneIsThereBehind_32 : decode cX9_noneIsThereBehind 32 = .ok (.getfield 84, 3) := by decide +kernel
theorem dX9_noneIsThereBehind_35 : decode cX9_noneIsThereBehind 35 = .ok (.getfield 96, 3) := by decide +kernel
theorem dX9_noneIsThereBehind_38 : decode cX9_noneIsThereBehind 38 = .ok (.iload_n 1, 1) := by decide +kernel
theorem dX9_noneIsThereBehind_39 : decode cX9_noneIsThereBehind 39 = .ok (.invokestatic 99, 3) := by decide +kernel
theorem dX9_noneIsThereBehind_42 : decode cX9_noneIsThereBehind 42 = .ok (.iload_n 3, 1) := by decide +kernel
theorem dX9_noneIsThereBehind_43 : decode cX9_noneIsThereBehind 43 = .ok (.imul, 1) := by decide +kernel
theorem dX9_noneIsThereBehind_44 : decode cX9_noneIsThereBehind 44 = .ok (.isub, 1) := by decide +kernel
theorem dX9_noneIsThereBehind_45 : decode cX9_noneIsThereBehind 45 = .ok (.invokevirtual 119, 3) := by decide +kernel
theorem dX9_noneIsThereBehind_48 : decode cX9_noneIsThereBehind 48 = .ok (.istore 4, 2) := by decide +kernel
theorem dX9_noneIsThereBehind_50 : decode cX9_noneIsThereBehind 50 = .ok (.aload_n 0, 1) := by decide +kernel
theorem dX9_noneIsThereBehind_51 : decode cX9_noneIsThereBehind 51 = .ok (.getfield 40, 3) := by decide +kernel
theorem dX9_noneIsThereBehind_54 : decode cX9_noneIsThereBehind 54 = .ok (.iload 4, 2) := by decide +kernel
theorem dX9_noneIsThereBehind_56 : decode cX9_noneIsThereBehind 56 = .ok (.invokevirtual 123, 3) := by decide +kernel
theorem dX9_noneIsThereBehind_59 : decode cX9_noneIsThereBehind 59 = .ok (.ifCond .eq 5, 3) := by decide +kernel
theorem dX9_noneIsThereBehind_62 : decode cX9_noneIsThereBehind 62 = .ok (.iconst 0, 1) := by decide +kernel
theorem dX9_noneIsThereBehind_63 : decode cX9_noneIsThereBehind 63 = .ok (.ireturn, 1) := by decide +kernel
theorem dX9_noneIsThereBehind_64 : decode cX9_noneIsThereBehind 64 = .ok (.iinc 3 1, 3) := by decide +kernel
theorem dX9_noneIsThereBehind_67 : decode cX9_noneIsThereBehind 67 = .ok (.goto (-65), 3) := by decide +kernel
theorem dX9_noneIsThereBehind_70 : decode cX9_noneIsThereBehind 70 = .ok (.iconst 1, 1) := by decide +kernel
theorem dX9_noneIsThereBehind_71 : decode cX9_noneIsThereBehind 71 = .ok (.ireturn, 1) := by decide +kernel
theorem dX10_init_0 : decode cX10_init 0 = .ok (.aload_n 0, 1) := by decide +kernel
theorem dX10_init_1 : decode cX10_init 1 = .ok (.invokespecial 3, 3) := by decide +kernel
theorem dX10_init_4 : decode cX10_init 4 = .ok (.aload_n 0, 1) := by decide +kernel
theorem dX10_init_5 : decode cX10_init 5 = .ok (.iconst 4, 1) := by decide +kernel
theorem dX10_init_6 : decode cX10_init 6 = .ok (.newarray .int, 2) := by decide +kernel
theorem dX10_init_8 : decode cX10_init 8 = .ok (.dup, 1) := by decide +kernel
theorem dX10_init_9 : decode cX10_init 9 = .ok (.iconst 0, 1) := by decide +kernel
theorem dX10_init_10 : decode cX10_init 10 = .ok (.bipush 100, 2) := by decide +kernel
theorem dX10_init_12 : decode cX10_init 12 = .ok (.iastore, 1) := by decide +kernel
theorem dX10_init_13 : decode cX10_init 13 = .ok (.dup, 1) := by decide +kernel
theorem dX10_init_14 : decode cX10_init 14 = .ok (.iconst 1, 1) := by decide +kernel
theorem dX10_init_15 : decode cX10_init 15 = .ok (.bipush 100, 2) := by decide +kernel
theorem dX10_init_17 : decode cX10_init 17 = .ok (.iastore, 1) := by decide +kernel
theorem dX10_init_18 : decode cX10_init 18 = .ok (.dup, 1) := by decide +kernel
theorem dX10_init_19 : decode cX10_init 19 = .ok (.iconst 2, 1) := by decide +kernel
theorem dX10_init_20 : decode cX10_init 20 = .ok (.bipush 100, 2) := by decide +kernel
theorem dX10_init_22 : decode cX10_init 22 = .ok (.iastore, 1) := by decide +kernel
theorem dX10_init_23 : decode cX10_init 23 = .ok (.dup, 1) := by decide +kernel
theorem dX10_init_24 : decode cX10_init 24 = .ok (.iconst 3, 1) := by decide +kernel
theorem dX10_init_25 : decode cX10_init 25 = .ok (.bipush 100, 2) := by decide +kernel
theorem dX10_init_27 : decode cX10_init 27 = .ok (.iastore, 1) := by decide +kernel
theorem dX10_init_28 : decode cX10_init 28 = .ok (.putfield 9, 3) := by decide +kernel
theorem dX10_init_31 : decode cX10_init 31 = .ok (.aload_n 0, 1) := by decide +kernel
theorem dX10_init_32 : decode cX10_init 32 = .ok (.iconst 4, 1) := by decide +kernel
theorem dX10_init_33 : decode cX10_init 33 = .ok (.newarray .int, 2) := by decide +kernel
theorem dX10_init_35 : decode cX10_init 35 = .ok (.dup, 1) := by decide +kernel
theorem dX10_init_36 : decode cX10_init 36 = .ok (.iconst 0, 1) := by decide +kernel
theorem dX10_init_37 : decode cX10_init 37 = .ok (.bipush 10, 2) := by decide +kernel
theorem dX10_init_39 : decode cX10_init 39 = .ok (.iastore, 1) := by decide +kernel
theorem dX10_init_40 : decode cX10_init 40 = .ok (.dup, 1) := by decide +kernel
theorem dX10_init_41 : decode cX10_init 41 = .ok (.iconst 1, 1) := by decide +kernel
theorem dX10_init_42 : decode cX10_init 42 = .ok (.bipush 10, 2) := by decide +kernel
theorem dX10_init_44 : decode cX10_init 44 = .ok (.iastore, 1) := by decide +kernel
theorem dX10_init_45 : decode cX10_init 45 = .ok (.dup, 1) := by decide +kernel
theorem dX10_init_46 : decode cX10_init 46 = .ok (.iconst 2, 1) := by decide +kernel
theorem dX10_init_47 : decode cX10_init 47 = .ok (.bipush 10, 2) := by decide +kernel
theorem dX10_init_49 : decode cX10_init 49 = .ok (.iastore, 1) := by decide +kernel
theorem dX10_init_50 : decode cX10_init 50 = .ok (.dup, 1) := by decide +kernel
theorem dX10_init_51 : decode cX10_init 51 = .ok (.iconst 3, 1) := by decide +kernel
theorem dX10_init_52 : decode cX10_init 52 = .ok (.bipush 10, 2) := by decide +kernel
theorem dX10_init_54 : decode cX10_init 54 = .ok (.iastore, 1) := by decide +kernel
theorem dX10_init_55 : decode cX10_init 55 = .ok (.putfield 15, 3) := by decide +kernel
theorem dX10_init_58 : decode cX10_init 58 = .ok (.aload_n 0, 1) := by decide +kernel
theorem dX10_init_59 : decode cX10_init 59 = .ok (.iconst 4, 1) := by decide +kernel
theorem dX10_init_60 : decode cX10_init 60 = .ok (.newarray .int, 2) := by decide +kernel
theorem dX10_init_62 : decode cX10_init 62 = .ok (.dup, 1) := by decide +kernel
theorem dX10_init_63 : decode cX10_init 63 = .ok (.iconst 0, 1) := by decide +kernel
theorem dX10_init_64 : decode cX10_init 64 = .ok (.iconst 2, 1) := by decide +kernel
theorem dX10_init_65 : decode cX10_init 65 = .ok (.iastore, 1) := by decide +kernel
theorem dX10_init_66 : decode cX10_init 66 = .ok (.dup, 1) := by decide +kernel
theorem dX10_init_67 : decode cX10_init 67 = .ok (.iconst 1, 1) := by decide +kernel
theorem dX10_init_68 : decode cX10_init 68 = .ok (.iconst 2, 1) := by decide +kernel
theorem dX10_init_69 : decode cX10_init 69 = .ok (.iastore, 1) := by decide +kernel
theorem dX10_init_70 : decode cX10_init 70 = .ok (.dup, 1) := by decide +kernel
theorem dX10_init_71 : decode cX10_init 71 = .ok (.iconst 2, 1) := by decide +kernel
theorem dX10_init_72 : decode cX10_init 72 = .ok (.iconst 2, 1) := by decide +kernel
theorem dX10_init_73 : decode cX10_init 73 = .ok (.iastore, 1) := by decide +kernel
theorem dX10_init_74 : decode cX10_init 74 = .ok (.dup, 1) := by decide +kernel
theorem dX10_init_75 : decode cX10_init 75 = .ok (.iconst 3, 1) := by decide +kernel
theorem dX10_init_76 : decode cX10_init 76 = .ok (.iconst 2, 1) := by decide +kernel
theorem dX10_init_77 : decode cX10_init 77 = .ok (.iastore, 1) := by decide +kernel
theorem dX10_init_78 : decode cX10_init 78 = .ok (.putfield 18, 3) := by decide +kernel
theorem dX10_init_81 : decode cX10_init 81 = .ok (.aload_n 0, 1) := by decide +kernel
theorem dX10_init_82 : decode cX10_init 82 = .ok (.iconst 4, 1) := by decide +kernel
theorem dX10_init_83 : decode cX10_init 83 = .ok (.newarray .int, 2) := by decide +kernel
theorem dX10_init_85 : decode cX10_init 85 = .ok (.dup, 1) := by decide +kernel
theorem dX10_init_86 : decode cX10_init 86 = .ok (.iconst 0, 1) := by decide +kernel
theorem dX10_init_87 : decode cX10_init 87 = .ok (.bipush 60, 2) := by decide +kernel
theorem dX10_init_89 : decode cX10_init 89 = .ok (.iastore, 1) := by decide +kernel
theorem dX10_init_90 : decode cX10_init 90 = .ok (.dup, 1) := by decide +kernel
theorem dX10_init_91 : decode cX10_init 91 = .ok (.iconst 1, 1) := by decide +kernel
theorem dX10_init_92 : decode cX10_init 92 = .ok (.bipush 60, 2) := by decide +kernel
theorem dX10_init_94 : decode cX10_init 94 = .ok (.iastore, 1) := by decide +kernel
theorem dX10_init_95 : decode cX10_init 95 = .ok (.dup, 1) := by decide +kernel
theorem dX10_init_96 : decode cX10_init 96 = .ok (.iconst 2, 1) := by decide +kernel
theorem dX10_init_97 : decode cX10_init 97 = .ok (.bipush 60, 2) := by decide +kernel
theorem dX10_init_99 : decode cX10_init 99 = .ok (.iastore, 1) := by decide +kernel
theorem dX10_init_100 : decode cX10_init 100 = .ok (.dup, 1) := by decide +kernel
theorem dX10_init_101 : decode cX10_init 101 = .ok (.iconst 3, 1) := by decide +kernel
theorem dX10_init_102 : decode cX10_init 102 = .ok (.bipush 60, 2) := by decide +kernel
theorem dX10_init_104 : decode cX10_init 104 = .ok (.iastore, 1) := by decide +kernel
theorem dX10_init_105 : decode cX10_init 105 = .ok (.putfield 21, 3) := by decide +kernel
theorem dX10_init_108 : decode cX10_init 108 = .ok (.aload_n 0, 1) := by decide +kernel
theorem dX10_init_109 : decode cX10_init 109 = .ok (.bipush 100, 2) := by decide +kernel
theorem dX10_init_111 : decode cX10_init 111 = .ok (.putfield 24, 3) := by decide +kernel
theorem dX10_init_114 : decode cX10_init 114 = .ok (.aload_n 0, 1) := by decide +kernel
theorem dX10_init_115 : decode cX10_init 115 = .ok (.iconst 1, 1) := by decide +kernel
theorem dX10_init_116 : decode cX10_init 116 = .ok (.putfield 28, 3) := by decide +kernel
theorem dX10_init_119 : decode cX10_init 119 = .ok (.aload_n 0, 1) := by decide +kernel
theorem dX10_init_120 : decode cX10_init 120 = .ok (.iconst 4, 1) := by decide +kernel
theorem dX10_init_121 : decode cX10_init 121 = .ok (.putfield 32, 3) := by decide +kernel
theorem dX10_init_124 : decode cX10_init 124 = .ok (.aload_n 0, 1) := by decide +kernel
theorem dX10_init_125 : decode cX10_init 125 = .ok (.bipush 8, 2) := by decide +kernel
theorem dX10_init_127 : decode cX10_init 127 = .ok (.anewarray 35, 3) := by decide +kernel
theorem dX10_init_130 : decode cX10_init 130 = .ok (.putfield 37, 3) := by decide +kernel
theorem dX10_init_133 : decode cX10_init 133 = .ok (.iconst 0, 1) := by decide +kernel
theorem dX10_init_134 : decode cX10_init 134 = .ok (.istore_n 1, 1) := by decide +kernel
theorem dX10_init_135 : decode cX10_init 135 = .ok (.iload_n 1, 1) := by decide +kernel
theorem dX10_init_136 : decode cX10_init 136 = .ok (.bipush 8, 2) := by decide +kernel
theorem dX10_init_138 : decode cX10_init 138 = .ok (.if_icmp .ge 25, 3) := by decide +kernel
theorem dX10_init_141 : decode cX10_init 141 = .ok (.aload_n 0, 1) := by decide +kernel
theorem dX10_init_142 : decode cX10_init 142 = .ok (.getfield 37, 3) := by decide +kernel
theorem dX10_init_145 : decode cX10_init 145 = .ok (.iload_n 1, 1) := by decide +kernel
theorem dX10_init_146 : decode cX10_init 146 = .ok (.new 35, 3) := by decide +kernel
theorem dX10_init_149 : decode cX10_init 149 = .ok (.dup, 1) := by decide +kernel
theorem dX10_init_150 : decode cX10_init 150 = .ok (.sipush 800, 3) := by decide +kernel
theorem dX10_init_153 : decode cX10_init 153 = .ok (.invokespecial 43, 3) := by decide +kernel
theorem dX10_init_156 : decode cX10_init 156 = .ok (.aastore, 1) := by decide +kernel
theorem dX10_init_157 : decode cX10_init 157 = .ok (.iinc 1 1, 3) := by decide +kernel
theorem dX10_init_160 : decode cX10_init 160 = .ok (.goto (-25), 3) := by decide +kernel
theorem dX10_init_163 : decode cX10_init 163 = .ok (.return_, 1) := by decide +kernel
theorem dX10_setStuff_0 : decode cX10_setStuff 0 = .ok (.iload_n 1, 1) := by decide +kernel
theorem dX10_setStuff_1 : decode cX10_setStuff 1 = .ok (.iconst 0, 1) := by decide +kernel
theorem dX10_setStuff_2 : decode cX10_setStuff 2 = .ok (.iconst 3, 1) := by decide +kernel
theorem dX10_setStuff_3 : decode cX10_setStuff 3 = .ok (.invokestatic 46, 3) := by decide +kernel
theorem dX10_setStuff_6 : decode cX10_setStuff 6 = .ok (.ifCond .eq 47, 3) := by decide +kernel
theorem dX10_setStuff_9 : decode cX10_setStuff 9 = .ok (.iload_n 2, 1) := by decide +kernel
theorem dX10_setStuff_10 : decode cX10_setStuff 10 = .ok (.iconst 1, 1) := by decide +kernel
theorem dX10_setStuff_11 : decode cX10_setStuff 11 = .ok (.sipush 999, 3) := by decide +kernel
theorem dX10_setStuff_14 : decode cX10_setStuff 14 = .ok (.invokestatic 46, 3) := by decide +kernel
theorem dX10_setStuff_17 : decode cX10_setStuff 17 = .ok (.ifCond .eq 36, 3) := by decide +kernel
theorem dX10_setStuff_20 : decode cX10_setStuff 20 = .ok (.iload_n 3, 1) := by decide +kernel
theorem dX10_setStuff_21 : decode cX10_setStuff 21 = .ok (.iconst 0, 1) := by decide +kernel
theorem dX10_setStuff_22 : decode cX10_setStuff 22 = .ok (.bipush 20, 2) := by decide +kernel
theorem dX10_setStuff_24 : decode cX10_setStuff 24 = .ok (.invokestatic 46, 3) := by decide +kernel
theorem dX10_setStuff_27 : decode cX10_setStuff 27 = .ok (.ifCond .eq 26, 3) := by decide +kernel
theorem dX10_setStuff_30 : decode cX10_setStuff 30 = .ok (.iload 4, 2) := by decide +kernel
theorem dX10_setStuff_32 : decode cX10_setStuff 32 = .ok (.iconst 0, 1) := by decide +kernel
theorem dX10_setStuff_33 : decode cX10_setStuff 33 = .ok (.bipush 20, 2) := by decide +kernel
theorem dX10_setStuff_35 : decode cX10_setStuff 35 = .ok (.invokestatic 46, 3) := by decide +kernel
theorem dX10_setStuff_38 : decode cX10_setStuff 38 = .ok (.ifCond .eq 15, 3) := by decide +kernel
theorem dX10_setStuff_41 : decode cX10_setStuff 41 = .ok (.iload 5, 2) := by decide +kernel
theorem dX10_setStuff_43 : decode cX10_setStuff 43 = .ok (.iconst 1, 1) := by decide +kernel
theorem dX10_setStuff_44 : decode cX10_setStuff 44 = .ok (.sipush 9999, 3) := by decide +kernel
theorem dX10_setStuff_47 : decode cX10_setStuff 47 = .ok (.invokestatic 46, 3) := by decide +kernel
theorem dX10_setStuff_50 : decode cX10_setStuff 50 = .ok (.ifCond .ne 5, 3) := by decide +kernel
theorem dX10_setStuff_53 : decode cX10_setStuff 53 = .ok (.iconst 0, 1) := by decide +kernel
theorem dX10_setStuff_54 : decode cX10_setStuff 54 = .ok (.ireturn, 1) := by decide +kernel
theorem dX10_setStuff_55 : decode cX10_setStuff 55 = .ok (.aload_n 0, 1) := by decide +kernel
theorem dX10_setStuff_56 : decode cX10_setStuff 56 = .ok (.getfield 9, 3) := by decide +kernel
theorem dX10_setStuff_59 : decode cX10_setStuff 59 = .ok (.iload_n 1, 1) := by decide +kernel
theorem dX10_setStuff_60 : decode cX10_setStuff 60 = .ok (.iload_n 2, 1) := by decide +kernel
theorem dX10_setStuff_61 : decode cX10_setStuff 61 = .ok (.iastore, 1) := by decide +kernel
theorem dX10_setStuff_62 : decode cX10_setStuff 62 = .ok (.aload_n 0, 1) := by decide +kernel
theorem dX10_setStuff_63 : decode cX10_setStuff 63 = .ok (.getfield 15, 3) := by decide +kernel
theorem dX10_setStuff_66 : decode cX10_setStuff 66 = .ok (.iload_n 1, 1) := by decide +kernel
theorem dX10_setStuff_67 : decode cX10_setStuff 67 = .ok (.iload_n 3, 1) := by decide +kernel
theorem dX10_setStuff_68 : decode cX10_setStuff 68 = .ok (.iastore, 1) := by decide +kernel
theorem dX10_setStuff_69 : decode cX10_setStuff 69 = .ok (.aload_n 0, 1) := by decide +kernel
theorem dX10_setStuff_70 : decode cX10_setStuff 70 = .ok (.getfield 18, 3) := by decide +kernel
theorem dX10_setStuff_73 : decode cX10_setStuff 73 = .ok (.iload_n 1, 1) := by decide +kernel
theorem dX10_setStuff_74 : decode cX10_setStuff 74 = .ok (.iload 4, 2) := by decide +kernel
theorem dX10_setStuff_76 : decode cX10_setStuff 76 = .ok (.iastore, 1) := by decide +kernel
theorem dX10_setStuff_77 : decode cX10_setStuff 77 = .ok (.aload_n 0, 1) := by decide +kernel
theorem dX10_setStuff_78 : decode cX10_setStuff 78 = .ok (.getfield 21, 3) := by decide +kernel
theorem dX10_setStuff_81 : decode cX10_setStuff 81 = .ok (.iload_n 1, 1) := by decide +kernel
theorem dX10_setStuff_82 : decode cX10_setStuff 82 = .ok (.iload 5, 2) := by decide +kernel
theorem dX10_setStuff_84 : decode cX10_setStuff 84 = .ok (.iastore, 1) := by decide +kernel
theorem dX10_setStuff_85 : decode cX10_setStuff 85 = .ok (.iconst 1, 1) := by decide +kernel
theorem dX10_setStuff_86 : decode cX10_setStuff 86 = .ok (.ireturn, 1) := by decide +kernel
theorem dX10_programOf_0 : decode cX10_programOf 0 = .ok (.iload_n 1, 1) := by decide +kernel
theorem dX10_programOf_1 : decode cX10_programOf 1 = .ok (.iconst 0, 1) := by decide +kernel
theorem dX10_programOf_2 : decode cX10_programOf 2 = .ok (.bipush 7, 2) := by decide +kernel
theorem dX10_programOf_4 : decode cX10_programOf 4 = .ok (.invokestatic 46, 3) := by decide +kernel
theorem dX10_programOf_7 : decode cX10_programOf 7 = .ok (.ifCond .eq 12, 3) := by decide +kernel
theorem dX10_programOf_10 : decode cX10_programOf 10 = .ok (.aload_n 0, 1) := by decide +kernel
theorem dX10_programOf_11 : decode cX10_programOf 11 = .ok (.getfield 37, 3) := by decide +kernel
theorem dX10_programOf_14 : decode cX10_programOf 14 = .ok (.iload_n 1, 1) := by decide +kernel
theorem dX10_programOf_15 : decode cX10_programOf 15 = .ok (.aaload, 1) := by decide +kernel
theorem dX10_programOf_16 : decode cX10_programOf 16 = .ok (.goto 4, 3) := by decide +kernel
theorem dX10_programOf_19 : decode cX10_programOf 19 = .ok (.aconst_null, 1) := by decide +kernel
theorem dX10_programOf_20 : decode cX10_programOf 20 = .ok (.areturn, 1) := by decide +kernel
theorem dX10_hasSlatAt_0 : decode cX10_hasSlatAt 0 = .ok (.aload_n 0, 1) := by decide +kernel
theorem dX10_hasSlatAt_1 : decode cX10_hasSlatAt 1 = .ok (.getfield 32, 3) := by decide +kernel
theorem dX10_hasSlatAt_4 : decode cX10_hasSlatAt 4 = .ok (.ifCond .le 16, 3) := by decide +kernel
theorem dX10_hasSlatAt_7 : decode cX10_hasSlatAt 7 = .ok (.iload_n 1, 1) := by decide +kernel
theorem dX10_hasSlatAt_8 : decode cX10_hasSlatAt 8 = .ok (.aload_n 0, 1) := by decide +kernel
theorem dX10_hasSlatAt_9 : decode cX10_hasSlatAt 9 = .ok (.getfield 32, 3) := by decide +kernel
theorem dX10_hasSlatAt_12 : decode cX10_hasSlatAt 12 = .ok (.irem, 1) := by decide +kernel
theorem dX10_hasSlatAt_13 : decode cX10_hasSlatAt 13 = .ok (.ifCond .ne 7, 3) := by decide +kernel
theorem dX10_hasSlatAt_16 : decode cX10_hasSlatAt 16 = .ok (.iconst 1, 1) := by decide +kernel
theorem dX10_hasSlatAt_17 : decode cX10_hasSlatAt 17 = .ok (.goto 4, 3) := by decide +kernel
theorem dX10_hasSlatAt_20 : decode cX10_hasSlatAt 20 = .ok (.iconst 0, 1) := by decide +kernel
theorem dX10_hasSlatAt_21 : decode cX10_hasSlatAt 21 = .ok (.ireturn, 1) := by decide +kernel
theorem dX11_init_0 : decode cX11_init 0 = .ok (.aload_n 0, 1) := by decide +kernel
theorem dX11_init_1 : decode cX11_init 1 = .ok (.invokespecial 1, 3) := by decide +kernel
theorem dX11_init_4 : decode cX11_init 4 = .ok (.aload_n 0, 1) := by decide +kernel
theorem dX11_init_5 : decode cX11_init 5 = .ok (.new 7, 3) := by decide +kernel
theorem dX11_init_8 : decode cX11_init 8 = .ok (.dup, 1) := by decide +kernel
theorem dX11_init_9 : decode cX11_init 9 = .ok (.invokespecial 9, 3) := by decide +kernel
theorem dX11_init_12 : decode cX11_init 12 = .ok (.putfield 10, 3) := by decide +kernel
theorem dX11_init_15 : decode cX11_init 15 = .ok (.aload_n 0, 1) := by decide +kernel
theorem dX11_init_16 : decode cX11_init 16 = .ok (.new 16, 3) := by decide +kernel
theorem dX11_init_19 : decode cX11_init 19 = .ok (.dup, 1) := by decide +kernel
theorem dX11_init_20 : decode cX11_init 20 = .ok (.sipush 400, 3) := by decide +kernel
theorem dX11_init_23 : decode cX11_init 23 = .ok (.invokespecial 18, 3) := by decide +kernel
theorem dX11_init_26 : decode cX11_init 26 = .ok (.putfield 21, 3) := by decide +kernel
theorem dX11_init_29 : decode cX11_init 29 = .ok (.aload_n 0, 1) := by decide +kernel
theorem dX11_init_30 : decode cX11_init 30 = .ok (.new 16, 3) := by decide +kernel
theorem dX11_init_33 : decode cX11_init 33 = .ok (.dup, 1) := by decide +kernel
theorem dX11_init_34 : decode cX11_init 34 = .ok (.sipush 400, 3) := by decide +kernel
theorem dX11_init_37 : decode cX11_init 37 = .ok (.invokespecial 18, 3) := by decide +kernel
theorem dX11_init_40 : decode cX11_init 40 = .ok (.putfield 25, 3) := by decide +kernel
theorem dX11_init_43 : decode cX11_init 43 = .ok (.aload_n 0, 1) := by decide +kernel
theorem dX11_init_44 : decode cX11_init 44 = .ok (.new 28, 3) := by decide +kernel
theorem dX11_init_47 : decode cX11_init 47 = .ok (.dup, 1) := by decide +kernel
theorem dX11_init_48 : decode cX11_init 48 = .ok (.invokespecial 30, 3) := by decide +kernel
theorem dX11_init_51 : decode cX11_init 51 = .ok (.putfield 31, 3) := by decide +kernel
theorem dX11_init_54 : decode cX11_init 54 = .ok (.aload_n 0, 1) := by decide +kernel
theorem dX11_init_55 : decode cX11_init 55 = .ok (.new 35, 3) := by decide +kernel
theorem dX11_init_58 : decode cX11_init 58 = .ok (.dup, 1) := by decide +kernel
theorem dX11_init_59 : decode cX11_init 59 = .ok (.invokespecial 37, 3) := by decide +kernel
theorem dX11_init_62 : decode cX11_init 62 = .ok (.putfield 38, 3) := by decide +kernel
theorem dX11_init_65 : decode cX11_init 65 = .ok (.aload_n 0, 1) := by decide +kernel
theorem dX11_init_66 : decode cX11_init 66 = .ok (.new 42, 3) := by decide +kernel
theorem dX11_init_69 : decode cX11_init 69 = .ok (.dup, 1) := by decide +kernel
theorem dX11_init_70 : decode cX11_init 70 = .ok (.invokespecial 44, 3) := by decide +kernel
theorem dX11_init_73 : decode cX11_init 73 = .ok (.putfield 45, 3) := by decide +kernel
theorem dX11_init_76 : decode cX11_init 76 = .ok (.aload_n 0, 1) := by decide +kernel
theorem dX11_init_77 : decode cX11_init 77 = .ok (.new 49, 3) := by decide +kernel
theorem dX11_init_80 : decode cX11_init 80 = .ok (.dup, 1) := by decide +kernel
theorem dX11_init_81 : decode cX11_init 81 = .ok (.invokespecial 51, 3) := by decide +kernel
theorem dX11_init_84 : decode cX11_init 84 = .ok (.putfield 52, 3) := by decide +kernel
theorem dX11_init_87 : decode cX11_init 87 = .ok (.aload_n 0, 1) := by decide +kernel
theorem dX11_init_88 : decode cX11_init 88 = .ok (.new 56, 3) := by decide +kernel
theorem dX11_init_91 : decode cX11_init 91 = .ok (.dup, 1) := by decide +kernel
theorem dX11_init_92 : decode cX11_init 92 = .ok (.invokespecial 58, 3) := by decide +kernel
theorem dX11_init_95 : decode cX11_init 95 = .ok (.putfield 59, 3) := by decide +kernel
theorem dX11_init_98 : decode cX11_init 98 = .ok (.aload_n 0, 1) := by decide +kernel
theorem dX11_init_99 : decode cX11_init 99 = .ok (.new 63, 3) := by decide +kernel
theorem dX11_init_102 : decode cX11_init 102 = .ok (.dup, 1) := by decide +kernel
theorem dX11_init_103 : decode cX11_init 103 = .ok (.invokespecial 65, 3) := by decide +kernel
theorem dX11_init_106 : decode cX11_init 106 = .ok (.putfield 66, 3) := by decide +kernel
theorem dX11_init_109 : decode cX11_init 109 = .ok (.aload_n 0, 1) := by decide +kernel
theorem dX11_init_110 : decode cX11_init 110 = .ok (.iconst 0, 1) := by decide +kernel
theorem dX11_init_111 : decode cX11_init 111 = .ok (.putfield 70, 3) := by decide +kernel
theorem dX11_init_114 : decode cX11_init 114 = .ok (.aload_n 0, 1) := by decide +kernel
theorem dX11_init_115 : decode cX11_init 115 = .ok (.iconst (-1), 1) := by decide +kernel
theorem dX11_init_116 : decode cX11_init 116 = .ok (.putfield 74, 3) := by decide +kernel
theorem dX11_init_119 : decode cX11_init 119 = .ok (.return_, 1) := by decide +kernel
theorem dX11_stuff_0 : decode cX11_stuff 0 = .ok (.aload_n 0, 1) := by decide +kernel
theorem dX11_stuff_1 : decode cX11_stuff 1 = .ok (.getfield 10, 3) := by decide +kernel
theorem dX11_stuff_4 : decode cX11_stuff 4 = .ok (.iload_n 1, 1) := by decide +kernel
theorem dX11_stuff_5 : decode cX11_stuff 5 = .ok (.iload_n 2, 1) := by decide +kernel
theorem dX11_stuff_6 : decode cX11_stuff 6 = .ok (.iload_n 3, 1) := by decide +kernel
theorem dX11_stuff_7 : decode cX11_stuff 7 = .ok (.iload 4, 2) := by decide +kernel
theorem dX11_stuff_9 : decode cX11_stuff 9 = .ok (.iload 5, 2) := by decide +kernel
theorem dX11_stuff_11 : decode cX11_stuff 11 = .ok (.invokevirtual 77, 3) := by decide +kernel
theorem dX11_stuff_14 : decode cX11_stuff 14 = .ok (.ireturn, 1) := by decide +kernel
theorem dX11_plate_0 : decode cX11_plate 0 = .ok (.iload_n 1, 1) := by decide +kernel
theorem dX11_plate_1 : decode cX11_plate 1 = .ok (.iconst 1, 1) := by decide +kernel
theorem dX11_plate_2 : decode cX11_plate 2 = .ok (.bipush 16, 2) := by decide +kernel
theorem dX11_plate_4 : decode cX11_plate 4 = .ok (.invokestatic 81, 3) := by decide +kernel
theorem dX11_plate_7 : decode cX11_plate 7 = .ok (.ifCond .eq 33, 3) := by decide +kernel
theorem dX11_plate_10 : decode cX11_plate 10 = .ok (.iload_n 2, 1) := by decide +kernel
theorem dX11_plate_11 : decode cX11_plate 11 = .ok (.iconst 1, 1) := by decide +kernel
theorem dX11_plate_12 : decode cX11_plate 12 = .ok (.bipush 12, 2) := by decide +kernel
theorem dX11_plate_14 : decode cX11_plate 14 = .ok (.invokestatic 81, 3) := by decide +kernel
theorem dX11_plate_17 : decode cX11_plate 17 = .ok (.ifCond .eq 23, 3) := by decide +kernel
theorem dX11_plate_20 : decode cX11_plate 20 = .ok (.iload_n 3, 1) := by decide +kernel
theorem dX11_plate_21 : decode cX11_plate 21 = .ok (.iconst 0, 1) := by decide +kernel
theorem dX11_plate_22 : decode cX11_plate 22 = .ok (.iconst 3, 1) := by decide +kernel
theorem dX11_plate_23 : decode cX11_plate 23 = .ok (.invokestatic 81, 3) := by decide +kernel
theorem dX11_plate_26 : decode cX11_plate 26 = .ok (.ifCond .eq 14, 3) := by decide +kernel
theorem dX11_plate_29 : decode cX11_plate 29 = .ok (.iload 4, 2) := by decide +kernel
theorem dX11_plate_31 : decode cX11_plate 31 = .ok (.iconst 1, 1) := by decide +kernel
theorem dX11_plate_32 : decode cX11_plate 32 = .ok (.bipush 9, 2) := by decide +kernel
theorem dX11_plate_34 : decode cX11_plate 34 = .ok (.invokestatic 81, 3) := by decide +kernel
theorem dX11_plate_37 : decode cX11_plate 37 = .ok (.ifCond .ne 5, 3) := by decide +kernel
theorem dX11_plate_40 : decode cX11_plate 40 = .ok (.iconst 0, 1) := by decide +kernel
theorem dX11_plate_41 : decode cX11_plate 41 = .ok (.ireturn, 1) := by decide +kernel
theorem dX11_plate_42 : decode cX11_plate 42 = .ok (.aload_n 0, 1) := by decide +kernel
theorem dX11_plate_43 : decode cX11_plate 43 = .ok (.getfield 38, 3) := by decide +kernel
theorem dX11_plate_46 : decode cX11_plate 46 = .ok (.iload_n 1, 1) := by decide +kernel
theorem dX11_plate_47 : decode cX11_plate 47 = .ok (.iload_n 2, 1) := by decide +kernel
theorem dX11_plate_48 : decode cX11_plate 48 = .ok (.iload_n 3, 1) := by decide +kernel
theorem dX11_plate_49 : decode cX11_plate 49 = .ok (.iload 4, 2) := by decide +kernel
theorem dX11_plate_51 : decode cX11_plate 51 = .ok (.invokevirtual 85, 3) := by decide +kernel
theorem dX11_plate_54 : decode cX11_plate 54 = .ok (.iconst 1, 1) := by decide +kernel
theorem dX11_plate_55 : decode cX11_plate 55 = .ok (.ireturn, 1) := by decide +kernel
theorem dX11_beam_0 : decode cX11_beam 0 = .ok (.iload_n 1, 1) := by decide +kernel
theorem dX11_beam_1 : decode cX11_beam 1 = .ok (.iconst 0, 1) := by decide +kernel
theorem dX11_beam_2 : decode cX11_beam 2 = .ok (.sipush 9999, 3) := by decide +kernel
theorem dX11_beam_5 : decode cX11_beam 5 = .ok (.invokestatic 81, 3) := by decide +kernel
theorem dX11_beam_8 : decode cX11_beam 8 = .ok (.ifCond .ne 5, 3) := by decide +kernel
theorem dX11_beam_11 : decode cX11_beam 11 = .ok (.iconst 0, 1) := by decide +kernel
theorem dX11_beam_12 : decode cX11_beam 12 = .ok (.ireturn, 1) := by decide +kernel
theorem dX11_beam_13 : decode cX11_beam 13 = .ok (.aload_n 0, 1) := by decide +kernel
theorem dX11_beam_14 : decode cX11_beam 14 = .ok (.getfield 10, 3) := by decide +kernel
theorem dX11_beam_17 : decode cX11_beam 17 = .ok (.iload_n 1, 1) := by decide +kernel
theorem dX11_beam_18 : decode cX11_beam 18 = .ok (.putfield 89, 3) := by decide +kernel
theorem dX11_beam_21 : decode cX11_beam 21 = .ok (.aload_n 0, 1) := by decide +kernel
theorem dX11_beam_22 : decode cX11_beam 22 = .ok (.getfield 10, 3) := by decide +kernel
theorem dX11_beam_25 : decode cX11_beam 25 = .ok (.iload_n 2, 1) := by decide +kernel
theorem dX11_beam_26 : decode cX11_beam 26 = .ok (.putfield 92, 3) := by decide +kernel
theorem dX11_beam_29 : decode cX11_beam 29 = .ok (.iconst 1, 1) := by decide +kernel
theorem dX11_beam_30 : decode cX11_beam 30 = .ok (.ireturn, 1) := by decide +kernel
theorem dX11_pitch_0 : decode cX11_pitch 0 = .ok (.iload_n 1, 1) := by decide +kernel
theorem dX11_pitch_1 : decode cX11_pitch 1 = .ok (.iconst 2, 1) := by decide +kernel
theorem dX11_pitch_2 : decode cX11_pitch 2 = .ok (.bipush 9, 2) := by decide +kernel
theorem dX11_pitch_4 : decode cX11_pitch 4 = .ok (.invokestatic 81, 3) := by decide +kernel
theorem dX11_pitch_7 : decode cX11_pitch 7 = .ok (.ifCond .ne 5, 3) := by decide +kernel
theorem dX11_pitch_10 : decode cX11_pitch 10 = .ok (.iconst 0, 1) := by decide +kernel
theorem dX11_pitch_11 : decode cX11_pitch 11 = .ok (.ireturn, 1) := by decide +kernel
theorem dX11_pitch_12 : decode cX11_pitch 12 = .ok (.aload_n 0, 1) := by decide +kernel
theorem dX11_pitch_13 : decode cX11_pitch 13 = .ok (.getfield 10, 3) := by decide +kernel
theorem dX11_pitch_16 : decode cX11_pitch 16 = .ok (.iload_n 1, 1) := by decide +kernel
theorem dX11_pitch_17 : decode cX11_pitch 17 = .ok (.putfield 96, 3) := by decide +kernel
theorem dX11_pitch_20 : decode cX11_pitch 20 = .ok (.iconst 1, 1) := by decide +kernel
theorem dX11_pitch_21 : decode cX11_pitch 21 = .ok (.ireturn, 1) := by decide +kernel
theorem dX11_feed_0 : decode cX11_feed 0 = .ok (.aload_n 0, 1) := by decide +kernel
theorem dX11_feed_1 : decode cX11_feed 1 = .ok (.getfield 21, 3) := by decide +kernel
theorem dX11_feed_4 : decode cX11_feed 4 = .ok (.getfield 99, 3) := by decide +kernel
theorem dX11_feed_7 : decode cX11_feed 7 = .ok (.bipush 20, 2) := by decide +kernel
theorem dX11_feed_9 : decode cX11_feed 9 = .ok (.iadd, 1) := by decide +kernel
theorem dX11_feed_10 : decode cX11_feed 10 = .ok (.sipush 400, 3) := by decide +kernel
theorem dX11_feed_13 : decode cX11_feed 13 = .ok (.if_icmp .le 5, 3) := by decide +kernel
theorem dX11_feed_16 : decode cX11_feed 16 = .ok (.iconst (-1), 1) := by decide +kernel
theorem dX11_feed_17 : decode cX11_feed 17 = .ok (.ireturn, 1) := by decide +kernel
theorem dX11_feed_18 : decode cX11_feed 18 = .ok (.aload_n 0, 1) := by decide +kernel
theorem dX11_feed_19 : decode cX11_feed 19 = .ok (.getfield 21, 3) := by decide +kernel
theorem dX11_feed_22 : decode cX11_feed 22 = .ok (.iload_n 1, 1) := by decide +kernel
theorem dX11_feed_23 : decode cX11_feed 23 = .ok (.invokevirtual 102, 3) := by decide +kernel
theorem dX11_feed_26 : decode cX11_feed 26 = .ok (.aload_n 0, 1) := by decide +kernel
theorem dX11_feed_27 : decode cX11_feed 27 = .ok (.getfield 21, 3) := by decide +kernel
theorem dX11_feed_30 : decode cX11_feed 30 = .ok (.iload_n 2, 1) := by decide +kernel
theorem dX11_feed_31 : decode cX11_feed 31 = .ok (.invokevirtual 102, 3) := by decide +kernel
theorem dX11_feed_34 : decode cX11_feed 34 = .ok (.aload_n 0, 1) := by decide +kernel
theorem dX11_feed_35 : decode cX11_feed 35 = .ok (.getfield 21, 3) := by decide +kernel
theorem dX11_feed_38 : decode cX11_feed 38 = .ok (.iload_n 3, 1) := by decide +kernel
theorem dX11_feed_39 : decode cX11_feed 39 = .ok (.invokevirtual 102, 3) := by decide +kernel
theorem dX11_feed_42 : decode cX11_feed 42 = .ok (.aload_n 0, 1) := by decide +kernel
theorem dX11_feed_43 : decode cX11_feed 43 = .ok (.getfield 21, 3) := by decide +kernel
theorem dX11_feed_46 : decode cX11_feed 46 = .ok (.iload 4, 2) := by decide +kernel
theorem dX11_feed_48 : decode cX11_feed 48 = .ok (.invokevirtual 102, 3) := by decide +kernel
theorem dX11_feed_51 : decode cX11_feed 51 = .ok (.aload_n 0, 1) := by decide +kernel
theorem dX11_feed_52 : decode cX11_feed 52 = .ok (.getfield 21, 3) := by decide +kernel
theorem dX11_feed_55 : decode cX11_feed 55 = .ok (.iload 5, 2) := by decide +kernel
theorem dX11_feed_57 : decode cX11_feed 57 = .ok (.invokevirtual 102, 3) := by decide +kernel
theorem dX11_feed_60 : decode cX11_feed 60 = .ok (.aload_n 0, 1) := by decide +kernel
theorem dX11_feed_61 : decode cX11_feed 61 = .ok (.getfield 21, 3) := by decide +kernel
theorem dX11_feed_64 : decode cX11_feed 64 = .ok (.getfield 99, 3) := by decide +kernel
theorem dX11_feed_67 : decode cX11_feed 67 = .ok (.ireturn, 1) := by decide +kernel
theorem dX11_end_0 : decode cX11_end 0 = .ok (.iload_n 1, 1) := by decide +kernel
theorem dX11_end_1 : decode cX11_end 1 = .ok (.iconst 0, 1) := by decide +kernel
theorem dX11_end_2 : decode cX11_end 2 = .ok (.aload_n 0, 1) := by decide +kernel
theorem dX11_end_3 : decode cX11_end 3 = .ok (.getfield 21, 3) := by decide +kernel
theorem dX11_end_6 : decode cX11_end 6 = .ok (.getfield 99, 3) := by decide +kernel
theorem dX11_end_9 : decode cX11_end 9 = .ok (.invokestatic 81, 3) := by decide +kernel
theorem dX11_end_12 : decode cX11_end 12 = .ok (.ifCond .ne 5, 3) := by decide +kernel
theorem dX11_end_15 : decode cX11_end 15 = .ok (.iconst 0, 1) := by decide +kernel
theorem dX11_end_16 : decode cX11_end 16 = .ok (.ireturn, 1) := by decide +kernel
theorem dX11_end_17 : decode cX11_end 17 = .ok (.aload_n 0, 1) := by decide +kernel
theorem dX11_end_18 : decode cX11_end 18 = .ok (.getfield 21, 3) := by decide +kernel
theorem dX11_end_21 : decode cX11_end 21 = .ok (.iload_n 1, 1) := by decide +kernel
theorem dX11_end_22 : decode cX11_end 22 = .ok (.putfield 99, 3) := by decide +kernel
theorem dX11_end_25 : decode cX11_end 25 = .ok (.iconst 1, 1) := by decide +kernel
theorem dX11_end_26 : decode cX11_end 26 = .ok (.ireturn, 1) := by decide +kernel
theorem dX11_way_0 : decode cX11_way 0 = .ok (.aload_n 0, 1) := by decide +kernel
theorem dX11_way_1 : decode cX11_way 1 = .ok (.iconst 0, 1) := by decide +kernel
theorem dX11_way_2 : decode cX11_way 2 = .ok (.putfield 70, 3) := by decide +kernel
theorem dX11_way_5 : decode cX11_way 5 = .ok (.aload_n 0, 1) := by decide +kernel
theorem dX11_way_6 : decode cX11_way 6 = .ok (.iconst (-1), 1) := by decide +kernel
theorem dX11_way_7 : decode cX11_way 7 = .ok (.putfield 74, 3) := by decide +kernel
theorem dX11_way_10 : decode cX11_way 10 = .ok (.iconst 0, 1) := by decide +kernel
theorem dX11_way_11 : decode cX11_way 11 = .ok (.istore_n 2, 1) := by decide +kernel
theorem dX11_way_12 : decode cX11_way 12 = .ok (.aload_n 0, 1) := by decide +kernel
theorem dX11_way_13 : decode cX11_way 13 = .ok (.getfield 10, 3) := by decide +kernel
theorem dX11_way_16 : decode cX11_way 16 = .ok (.iload_n 1, 1) := by decide +kernel
theorem dX11_way_17 : decode cX11_way 17 = .ok (.invokevirtual 105, 3) := by decide +kernel
theorem dX11_way_20 : decode cX11_way 20 = .ok (.astore_n 3, 1) := by decide +kernel
theorem dX11_way_21 : decode cX11_way 21 = .ok (.aload_n 3, 1) := by decide +kernel
theorem dX11_way_22 : decode cX11_way 22 = .ok (.ifnull 52, 3) := by decide +kernel
theorem dX11_way_25 : decode cX11_way 25 = .ok (.aload_n 0, 1) := by decide +kernel
theorem dX11_way_26 : decode cX11_way 26 = .ok (.getfield 31, 3) := by decide +kernel
theorem dX11_way_29 : decode cX11_way 29 = .ok (.aload_n 0, 1) := by decide +kernel
theorem dX11_way_30 : decode cX11_way 30 = .ok (.getfield 21, 3) := by decide +kernel
theorem dX11_way_33 : decode cX11_way 33 = .ok (.invokevirtual 109, 3) := by decide +kernel
theorem dX11_way_36 : decode cX11_way 36 = .ok (.istore_n 2, 1) := by decide +kernel
theorem dX11_way_37 : decode cX11_way 37 = .ok (.aload_n 0, 1) := by decide +kernel
theorem dX11_way_38 : decode cX11_way 38 = .ok (.aload_n 0, 1) := by decide +kernel
theorem dX11_way_39 : decode cX11_way 39 = .ok (.getfield 31, 3) := by decide +kernel
theorem dX11_way_42 : decode cX11_way 42 = .ok (.getfield 113, 3) := by decide +kernel
theorem dX11_way_45 : decode cX11_way 45 = .ok (.putfield 70, 3) := by decide +kernel
theorem dX11_way_48 : decode cX11_way 48 = .ok (.aload_n 0, 1) := by decide +kernel
theorem dX11_way_49 : decode cX11_way 49 = .ok (.aload_n 0, 1) := by decide +kernel
theorem dX11_way_50 : decode cX11_way 50 = .ok (.getfield 31, 3) := by decide +kernel
theorem dX11_way_53 : decode cX11_way 53 = .ok (.getfield 116, 3) := by decide +kernel
theorem dX11_way_56 : decode cX11_way 56 = .ok (.putfield 74, 3) := by decide +kernel
theorem dX11_way_59 : decode cX11_way 59 = .ok (.iload_n 2, 1) := by decide +kernel
theorem dX11_way_60 : decode cX11_way 60 = .ok (.ifCond .eq 14, 3) := by decide +kernel
theorem dX11_way_63 : decode cX11_way 63 = .ok (.aload_n 3, 1) := by decide +kernel
theorem dX11_way_64 : decode cX11_way 64 = .ok (.aload_n 0, 1) := by decide +kernel
theorem dX11_way_65 : decode cX11_way 65 = .ok (.getfield 31, 3) := by decide +kernel
theorem dX11_way_68 : decode cX11_way 68 = .ok (.getfield 117, 3) := by decide +kernel
theorem dX11_way_71 : decode cX11_way 71 = .ok (.invokevirtual 120, 3) := by decide +kernel
theorem dX11_way_74 : decode cX11_way 74 = .ok (.aload_n 0, 1) := by decide +kernel
theorem dX11_way_75 : decode cX11_way 75 = .ok (.getfield 21, 3) := by decide +kernel
theorem dX11_way_78 : decode cX11_way 78 = .ok (.iconst 0, 1) := by decide +kernel
theorem dX11_way_79 : decode cX11_way 79 = .ok (.putfield 99, 3) := by decide +kernel
theorem dX11_way_82 : decode cX11_way 82 = .ok (.iload_n 2, 1) := by decide +kernel
theorem dX11_way_83 : decode cX11_way 83 = .ok (.ireturn, 1) := by decide +kernel
theorem dX11_fault_0 : decode cX11_fault 0 = .ok (.iload_n 1, 1) := by decide +kernel
theorem dX11_fault_1 : decode cX11_fault 1 = .ok (.lookupswitch 37 #[(0, 27), (1, 32)], 27) := by decide +kernel
theorem dX11_fault_28 : decode cX11_fault 28 = .ok (.aload_n 0, 1) := by decide +kernel
theorem dX11_fault_29 : decode cX11_fault 29 = .ok (.getfield 70, 3) := by decide +kernel
theorem dX11_fault_32 : decode cX11_fault 32 = .ok (.ireturn, 1) := by decide +kernel
theorem dX11_fault_33 : decode cX11_fault 33 = .ok (.aload_n 0, 1) := by decide +kernel
theorem dX11_fault_34 : decode cX11_fault 34 = .ok (.getfield 74, 3) := by decide +kernel
theorem dX11_fault_37 : decode cX11_fault 37 = .ok (.ireturn, 1) := by decide +kernel
theorem dX11_fault_38 : decode cX11_fault 38 = .ok (.iconst (-1), 1) := by decide +kernel
theorem dX11_fault_39 : decode cX11_fault 39 = .ok (.ireturn, 1) := by decide +kernel
theorem dX11_run_0 : decode cX11_run 0 = .ok (.aload_n 0, 1) := by decide +kernel
theorem dX11_run_1 : decode cX11_run 1 = .ok (.getfield 10, 3) := by decide +kernel
theorem dX11_run_4 : decode cX11_run 4 = .ok (.iload_n 1, 1) := by decide +kernel
theorem dX11_run_5 : decode cX11_run 5 = .ok (.invokevirtual 105, 3) := by decide +kernel
theorem dX11_run_8 : decode cX11_run 8 = .ok (.astore_n 2, 1) := by decide +kernel
theorem dX11_run_9 : decode cX11_run 9 = .ok (.aload_n 2, 1) := by decide +kernel
theorem dX11_run_10 : decode cX11_run 10 = .ok (.ifnull 13, 3) := by decide +kernel
theorem dX11_run_13 : decode cX11_run 13 = .ok (.aload_n 0, 1) := by decide +kernel
theorem dX11_run_14 : decode cX11_run 14 = .ok (.getfield 38, 3) := by decide +kernel
theorem dX11_run_17 : decode cX11_run 17 = .ok (.invokevirtual 124, 3) := by decide +kernel
theorem dX11_run_20 : decode cX11_run 20 = .ok (.ifCond .ne 5, 3) := by decide +kernel
theorem dX11_run_23 : decode cX11_run 23 = .ok (.iconst (-1), 1) := by decide +kernel
theorem dX11_run_24 : decode cX11_run 24 = .ok (.ireturn, 1) := by decide +kernel
theorem dX11_run_25 : decode cX11_run 25 = .ok (.aload_n 0, 1) := by decide +kernel
theorem dX11_run_26 : decode cX11_run 26 = .ok (.getfield 45, 3) := by decide +kernel
theorem dX11_run_29 : decode cX11_run 29 = .ok (.aload_n 2, 1) := by decide +kernel
theorem dX11_run_30 : decode cX11_run 30 = .ok (.aload_n 0, 1) := by decide +kernel
theorem dX11_run_31 : decode cX11_run 31 = .ok (.getfield 38, 3) := by decide +kernel
theorem dX11_run_34 : decode cX11_run 34 = .ok (.aload_n 0, 1) := by decide +kernel
theorem dX11_run_35 : decode cX11_run 35 = .ok (.getfield 10, 3) := by decide +kernel
theorem dX11_run_38 : decode cX11_run 38 = .ok (.invokevirtual 128, 3) := by decide +kernel
theorem dX11_run_41 : decode cX11_run 41 = .ok (.ireturn, 1) := by decide +kernel
theorem dX11_cell_0 : decode cX11_cell 0 = .ok (.aload_n 0, 1) := by decide +kernel
theorem dX11_cell_1 : decode cX11_cell 1 = .ok (.getfield 38, 3) := by decide +kernel
theorem dX11_cell_4 : decode cX11_cell 4 = .ok (.iload_n 1, 1) := by decide +kernel
theorem dX11_cell_5 : decode cX11_cell 5 = .ok (.iload_n 2, 1) := by decide +kernel
theorem dX11_cell_6 : decode cX11_cell 6 = .ok (.invokevirtual 132, 3) := by decide +kernel
theorem dX11_cell_9 : decode cX11_cell 9 = .ok (.ifCond .ne 5, 3) := by decide +kernel
theorem dX11_cell_12 : decode cX11_cell 12 = .ok (.iconst (-1), 1) := by decide +kernel
theorem dX11_cell_13 : decode cX11_cell 13 = .ok (.ireturn, 1) := by decide +kernel
theorem dX11_cell_14 : decode cX11_cell 14 = .ok (.aload_n 0, 1) := by decide +kernel
theorem dX11_cell_15 : decode cX11_cell 15 = .ok (.getfield 38, 3) := by decide +kernel
theorem dX11_cell_18 : decode cX11_cell 18 = .ok (.iload_n 1, 1) := by decide +kernel
theorem dX11_cell_19 : decode cX11_cell 19 = .ok (.iload_n 2, 1) := by decide +kernel
theorem dX11_cell_20 : decode cX11_cell 20 = .ok (.invokevirtual 136, 3) := by decide +kernel
theorem dX11_cell_23 : decode cX11_cell 23 = .ok (.istore 4, 2) := by decide +kernel
theorem dX11_cell_25 : decode cX11_cell 25 = .ok (.iload_n 3, 1) := by decide +kernel
theorem dX11_cell_26 : decode cX11_cell 26 = .ok (.tableswitch 130 0 5 #[38, 49, 59, 70, 83, 104], 38) := by decide +kernel
theorem dX11_cell_64 : decode cX11_cell 64 = .ok (.aload_n 0, 1) := by decide +kernel
theorem dX11_cell_65 : decode cX11_cell 65 = .ok (.getfield 38, 3) := by decide +kernel
theorem dX11_cell_68 : decode cX11_cell 68 = .ok (.getfield 140, 3) := by decide +kernel
theorem dX11_cell_71 : decode cX11_cell 71 = .ok (.iload 4, 2) := by decide +kernel
theorem dX11_cell_73 : decode cX11_cell 73 = .ok (.iaload, 1) := by decide +kernel
theorem dX11_cell_74 : decode cX11_cell 74 = .ok (.ireturn, 1) := by decide +kernel
theorem dX11_cell_75 : decode cX11_cell 75 = .ok (.aload_n 0, 1) := by decide +kernel
theorem dX11_cell_76 : decode cX11_cell 76 = .ok (.getfield 38, 3) := by decide +kernel
theorem dX11_cell_79 : decode cX11_cell 79 = .ok (.iload 4, 2) := by decide +kernel
theorem dX11_cell_81 : decode cX11_cell 81 = .ok (.invokevirtual 144, 3) := by decide +kernel
theorem dX11_cell_84 : decode cX11_cell 84 = .ok (.ireturn, 1) := by decide +kernel
theorem dX11_cell_85 : decode cX11_cell 85 = .ok (.aload_n 0, 1) := by decide +kernel
theorem dX11_cell_86 : decode cX11_cell 86 = .ok (.getfield 38, 3) := by decide +kernel
theorem dX11_cell_89 : decode cX11_cell 89 = .ok (.getfield 148, 3) := by decide +kernel
theorem dX11_cell_92 : decode cX11_cell 92 = .ok (.iload 4, 2) := by decide +kernel
theorem dX11_cell_94 : decode cX11_cell 94 = .ok (.iaload, 1) := by decide +kernel
theorem dX11_cell_95 : decode cX11_cell 95 = .ok (.ireturn, 1) := by decide +kernel
theorem dX11_cell_96 : decode cX11_cell 96 = .ok (.aload_n 0, 1) := by decide +kernel
theorem dX11_cell_97 : decode cX11_cell 97 = .ok (.getfield 38, 3) := by decide +kernel
theorem dX11_cell_100 : decode cX11_cell 100 = .ok (.iload 4, 2) := by decide +kernel
theorem dX11_cell_102 : decode cX11_cell 102 = .ok (.invokevirtual 151, 3) := by decide +kernel
theorem dX11_cell_105 : decode cX11_cell 105 = .ok (.getfield 155, 3) := by decide +kernel
theorem dX11_cell_108 : decode cX11_cell 108 = .ok (.ireturn, 1) := by decide +kernel
theorem dX11_cell_109 : decode cX11_cell 109 = .ok (.aload_n 0, 1) := by decide +kernel
theorem dX11_cell_110 : decode cX11_cell 110 = .ok (.getfield 38, 3) := by decide +kernel
theorem dX11_cell_113 : decode cX11_cell 113 = .ok (.iload 4, 2) := by decide +kernel
theorem dX11_cell_115 : decode cX11_cell 115 = .ok (.invokevirtual 151, 3) := by decide +kernel
theorem dX11_cell_118 : decode cX11_cell 118 = .ok (.getfield 158, 3) := by decide +kernel
theorem dX11_cell_121 : decode cX11_cell 121 = .ok (.ifCond .eq 7, 3) := by decide +kernel
theorem dX11_cell_124 : decode cX11_cell 124 = .ok (.iconst 1, 1) := by decide +kernel
theorem dX11_cell_125 : decode cX11_cell 125 = .ok (.goto 4, 3) := by decide +kernel
theorem dX11_cell_128 : decode cX11_cell 128 = .ok (.iconst 0, 1) := by decide +kernel
theorem dX11_cell_129 : decode cX11_cell 129 = .ok (.ireturn, 1) := by decide +kernel
theorem dX11_cell_130 : decode cX11_cell 130 = .ok (.aload_n 0, 1) := by decide +kernel
theorem dX11_cell_131 : decode cX11_cell 131 = .ok (.getfield 38, 3) := by decide +kernel
theorem dX11_cell_134 : decode cX11_cell 134 = .ok (.iload 4, 2) := by decide +kernel
theorem dX11_cell_136 : decode cX11_cell 136 = .ok (.invokevirtual 161, 3) := by decide +kernel
theorem dX11_cell_139 : decode cX11_cell 139 = .ok (.ifCond .eq 15, 3) := by decide +kernel
theorem dX11_cell_142 : decode cX11_cell 142 = .ok (.aload_n 0, 1) := by decide +kernel
theorem dX11_cell_143 : decode cX11_cell 143 = .ok (.getfield 38, 3) := by decide +kernel
theorem dX11_cell_146 : decode cX11_cell 146 = .ok (.iload 4, 2) := by decide +kernel
theorem dX11_cell_148 : decode cX11_cell 148 = .ok (.invokevirtual 165, 3) := by decide +kernel
theorem dX11_cell_151 : decode cX11_cell 151 = .ok (.goto 4, 3) := by decide +kernel
theorem dX11_cell_154 : decode cX11_cell 154 = .ok (.iconst (-1), 1) := by decide +kernel
theorem dX11_cell_155 : decode cX11_cell 155 = .ok (.ireturn, 1) := by decide +kernel
theorem dX11_cell_156 : decode cX11_cell 156 = .ok (.iconst (-1), 1) := by decide +kernel
theorem dX11_cell_157 : decode cX11_cell 157 = .ok (.ireturn, 1) := by decide +kernel
theorem dX11_look_0 : decode cX11_look 0 = .ok (.iload_n 1, 1) := by decide +kernel
theorem dX11_look_1 : decode cX11_look 1 = .ok (.iconst 0, 1) := by decide +kernel
theorem dX11_look_2 : decode cX11_look 2 = .ok (.bipush 13, 2) := by decide +kernel
theorem dX11_look_4 : decode cX11_look 4 = .ok (.invokestatic 81, 3) := by decide +kernel
theorem dX11_look_7 : decode cX11_look 7 = .ok (.ifCond .ne 5, 3) := by decide +kernel
theorem dX11_look_10 : decode cX11_look 10 = .ok (.iconst (-1), 1) := by decide +kernel
theorem dX11_look_11 : decode cX11_look 11 = .ok (.ireturn, 1) := by decide +kernel
theorem dX11_look_12 : decode cX11_look 12 = .ok (.aload_n 0, 1) := by decide +kernel
theorem dX11_look_13 : decode cX11_look 13 = .ok (.getfield 38, 3) := by decide +kernel
theorem dX11_look_16 : decode cX11_look 16 = .ok (.invokevirtual 124, 3) := by decide +kernel
theorem dX11_look_19 : decode cX11_look 19 = .ok (.ifCond .ne 5, 3) := by decide +kernel
theorem dX11_look_22 : decode cX11_look 22 = .ok (.iconst 0, 1) := by decide +kernel
theorem dX11_look_23 : decode cX11_look 23 = .ok (.ireturn, 1) := by decide +kernel
theorem dX11_look_24 : decode cX11_look 24 = .ok (.iload_n 1, 1) := by decide +kernel
theorem dX11_look_25 : decode cX11_look 25 = .ok (.tableswitch 199 0 12 #[67, 75, 86, 97, 116, 127, 138, 147, 156, 165, 173, 181, 190], 67) := by decide +kernel
theorem dX11_look_92 : decode cX11_look 92 = .ok (.aload_n 0, 1) := by decide +kernel
theorem dX11_look_93 : decode cX11_look 93 = .ok (.getfield 38, 3) := by decide +kernel
theorem dX11_look_96 : decode cX11_look 96 = .ok (.getfield 168, 3) := by decide +kernel
theorem dX11_look_99 : decode cX11_look 99 = .ok (.ireturn, 1) := by decide +kernel
theorem dX11_look_100 : decode cX11_look 100 = .ok (.aload_n 0, 1) := by decide +kernel
theorem dX11_look_101 : decode cX11_look 101 = .ok (.getfield 38, 3) := by decide +kernel
theorem dX11_look_104 : decode cX11_look 104 = .ok (.getfield 171, 3) := by decide +kernel
theorem dX11_look_107 : decode cX11_look 107 = .ok (.getfield 175, 3) := by decide +kernel
theorem dX11_look_110 : decode cX11_look 110 = .ok (.ireturn, 1) := by decide +kernel
theorem dX11_look_111 : decode cX11_look 111 = .ok (.aload_n 0, 1) := by decide +kernel
theorem dX11_look_112 : decode cX11_look 112 = .ok (.getfield 38, 3) := by decide +kernel
theorem dX11_look_115 : decode cX11_look 115 = .ok (.getfield 171, 3) := by decide +kernel
theorem dX11_look_118 : decode cX11_look 118 = .ok (.getfield 180, 3) := by decide +kernel
theorem dX11_look_121 : decode cX11_look 121 = .ok (.ireturn, 1) := by decide +kernel
theorem dX11_look_122 : decode cX11_look 122 = .ok (.aload_n 0, 1) := by decide +kernel
theorem dX11_look_123 : decode cX11_look 123 = .ok (.getfield 38, 3) := by decide +kernel
theorem dX11_look_126 : decode cX11_look 126 = .ok (.getfield 171, 3) := by decide +kernel
theorem dX11_look_129 : decode cX11_look 129 = .ok (.getfield 183, 3) := by decide +kernel
theorem dX11_look_132 : decode cX11_look 132 = .ok (.ifCond .eq 7, 3) := by decide +kernel
theorem dX11_look_135 : decode cX11_look 135 = .ok (.iconst 1, 1) := by decide +kernel
theorem dX11_look_136 : decode cX11_look 136 = .ok (.goto 4, 3) := by decide +kernel
theorem dX11_look_139 : decode cX11_look 139 = .ok (.iconst 0, 1) := by decide +kernel
theorem dX11_look_140 : decode cX11_look 140 = .ok (.ireturn, 1) := by decide +kernel
theorem dX11_look_141 : decode cX11_look 141 = .ok (.aload_n 0, 1) := by decide +kernel
theorem dX11_look_142 : decode cX11_look 142 = .ok (.getfield 38, 3) := by decide +kernel
theorem dX11_look_145 : decode cX11_look 145 = .ok (.getfield 171, 3) := by decide +kernel
theorem dX11_look_148 : decode cX11_look 148 = .ok (.getfield 186, 3) := by decide +kernel
theorem dX11_look_151 : decode cX11_look 151 = .ok (.ireturn, 1) := by decide +kernel
theorem dX11_look_152 : decode cX11_look 152 = .ok (.aload_n 0, 1) := by decide +kernel
theorem dX11_look_153 : decode cX11_look 153 = .ok (.getfield 38, 3) := by decide +kernel
theorem dX11_look_156 : decode cX11_look 156 = .ok (.getfield 171, 3) := by decide +kernel
theorem dX11_look_159 : decode cX11_look 159 = .ok (.getfield 189, 3) := by decide +kernel
theorem dX11_look_162 : decode cX11_look 162 = .ok (.ireturn, 1) := by decide +kernel
theorem dX11_look_163 : decode cX11_look 163 = .ok (.aload_n 0, 1) := by decide +kernel
theorem dX11_look_164 : decode cX11_look 164 = .ok (.getfield 38, 3) := by decide +kernel
theorem dX11_look_167 : decode cX11_look 167 = .ok (.iconst 0, 1) := by decide +kernel
theorem dX11_look_168 : decode cX11_look 168 = .ok (.invokevirtual 192, 3) := by decide +kernel
theorem dX11_look_171 : decode cX11_look 171 = .ok (.ireturn, 1) := by decide +kernel
theorem dX11_look_172 : decode cX11_look 172 = .ok (.aload_n 0, 1) := by decide +kernel
theorem dX11_look_173 : decode cX11_look 173 = .ok (.getfield 38, 3) := by decide +kernel
theorem dX11_look_176 : decode cX11_look 176 = .ok (.iconst 1, 1) := by decide +kernel
theorem dX11_look_177 : decode cX11_look 177 = .ok (.invokevirtual 192, 3) := by decide +kernel
theorem dX11_look_180 : decode cX11_look 180 = .ok (.ireturn, 1) := by decide +kernel
theorem dX11_look_181 : decode cX11_look 181 = .ok (.aload_n 0, 1) := by decide +kernel
theorem dX11_look_182 : decode cX11_look 182 = .ok (.getfield 38, 3) := by decide +kernel
theorem dX11_look_185 : decode cX11_look 185 = .ok (.iconst 2, 1) := by decide +kernel
theorem dX11_look_186 : decode cX11_look 186 = .ok (.invokevirtual 192, 3) := by decide +kernel
theorem dX11_look_189 : decode cX11_look 189 = .ok (.ireturn, 1) := by decide +kernel
theorem dX11_look_190 : decode cX11_look 190 = .ok (.aload_n 0, 1) := by decide +kernel
theorem dX11_look_191 : decode cX11_look 191 = .ok (.getfield 38, 3) := by decide +kernel
theorem dX11_look_194 : decode cX11_look 194 = .ok (.invokevirtual 195, 3) := by decide +kernel
theorem dX11_look_197 : decode cX11_look 197 = .ok (.ireturn, 1) := by decide +kernel
theorem dX11_look_198 : decode cX11_look 198 = .ok (.aload_n 0, 1) := by decide +kernel
theorem dX11_look_199 : decode cX11_look 199 = .ok (.getfield 38, 3) := by decide +kernel
theorem dX11_look_202 : decode cX11_look 202 = .ok (.invokevirtual 199, 3) := by decide +kernel
theorem dX11_look_205 : decode cX11_look 205 = .ok (.ireturn, 1) := by decide +kernel
theorem dX11_look_206 : decode cX11_look 206 = .ok (.aload_n 0, 1) := by decide +kernel
theorem dX11_look_207 : decode cX11_look 207 = .ok (.getfield 38, 3) := by decide +kernel
theorem dX11_look_210 : decode cX11_look 210 = .ok (.iconst 0, 1) := by decide +kernel
theorem dX11_look_211 : decode cX11_look 211 = .ok (.invokevirtual 202, 3) := by decide +kernel
theorem dX11_look_214 : decode cX11_look 214 = .ok (.ireturn, 1) := by decide +kernel
theorem dX11_look_215 : decode cX11_look 215 = .ok (.aload_n 0, 1) := by decide +kernel
theorem dX11_look_216 : decode cX11_look 216 = .ok (.getfield 38, 3) := by decide +kernel
theorem dX11_look_219 : decode cX11_look 219 = .ok (.iconst 1, 1) := by decide +kernel
theorem dX11_look_220 : decode cX11_look 220 = .ok (.invokevirtual 202, 3) := by decide +kernel
theorem dX11_look_223 : decode cX11_look 223 = .ok (.ireturn, 1) := by decide +kernel
theorem dX11_look_224 : decode cX11_look 224 = .ok (.aload_n 0, 1) := by decide +kernel
theorem dX11_look_225 : decode cX11_look 225 = .ok (.getfield 38, 3) := by decide +kernel
theorem dX11_look_228 : decode cX11_look 228 = .ok (.getfield 206, 3) := by decide +kernel
theorem dX11_look_231 : decode cX11_look 231 = .ok (.ireturn, 1) := by decide +kernel
theorem dX11_heat_0 : decode cX11_heat 0 = .ok (.iload_n 1, 1) := by decide +kernel
theorem dX11_heat_1 : decode cX11_heat 1 = .ok (.tableswitch 63 0 3 #[31, 39, 47, 55], 31) := by decide +kernel
theorem dX11_heat_32 : decode cX11_heat 32 = .ok (.aload_n 0, 1) := by decide +kernel
theorem dX11_heat_33 : decode cX11_heat 33 = .ok (.getfield 38, 3) := by decide +kernel
theorem dX11_heat_36 : decode cX11_heat 36 = .ok (.getfield 209, 3) := by decide +kernel
theorem dX11_heat_39 : decode cX11_heat 39 = .ok (.lreturn, 1) := by decide +kernel
theorem dX11_heat_40 : decode cX11_heat 40 = .ok (.aload_n 0, 1) := by decide +kernel
theorem dX11_heat_41 : decode cX11_heat 41 = .ok (.getfield 38, 3) := by decide +kernel
theorem dX11_heat_44 : decode cX11_heat 44 = .ok (.invokevirtual 213, 3) := by decide +kernel
theorem dX11_heat_47 : decode cX11_heat 47 = .ok (.lreturn, 1) := by decide +kernel
theorem dX11_heat_48 : decode cX11_heat 48 = .ok (.aload_n 0, 1) := by decide +kernel
theorem dX11_heat_49 : decode cX11_heat 49 = .ok (.getfield 38, 3) := by decide +kernel
theorem dX11_heat_52 : decode cX11_heat 52 = .ok (.getfield 217, 3) := by decide +kernel
theorem dX11_heat_55 : decode cX11_heat 55 = .ok (.lreturn, 1) := by decide +kernel
theorem dX11_heat_56 : decode cX11_heat 56 = .ok (.aload_n 0, 1) := by decide +kernel
theorem dX11_heat_57 : decode cX11_heat 57 = .ok (.getfield 38, 3) := by decide +kernel
theorem dX11_heat_60 : decode cX11_heat 60 = .ok (.getfield 220, 3) := by decide +kernel
theorem dX11_heat_63 : decode cX11_heat 63 = .ok (.lreturn, 1) := by decide +kernel
theorem dX11_heat_64 : decode cX11_heat 64 = .ok (.ldc2_w 223, 3) := by decide +kernel
theorem dX11_heat_67 : decode cX11_heat 67 = .ok (.lreturn, 1) := by decide +kernel
theorem dX11_order_0 : decode cX11_order 0 = .ok (.iload_n 1, 1) := by decide +kernel
theorem dX11_order_1 : decode cX11_order 1 = .ok (.iconst 1, 1) := by decide +kernel
theorem dX11_order_2 : decode cX11_order 2 = .ok (.sipush 255, 3) := by decide +kernel
theorem dX11_order_5 : decode cX11_order 5 = .ok (.invokestatic 81, 3) := by decide +kernel
theorem dX11_order_8 : decode cX11_order 8 = .ok (.ifCond .eq 15, 3) := by decide +kernel
theorem dX11_order_11 : decode cX11_order 11 = .ok (.iload_n 1, 1) := by decide +kernel
theorem dX11_order_12 : decode cX11_order 12 = .ok (.invokestatic 225, 3) := by decide +kernel
theorem dX11_order_15 : decode cX11_order 15 = .ok (.iconst 3, 1) := by decide +kernel
theorem dX11_order_16 : decode cX11_order 16 = .ok (.if_icmp .gt 7, 3) := by decide +kernel
theorem dX11_order_19 : decode cX11_order 19 = .ok (.iconst 1, 1) := by decide +kernel
theorem dX11_order_20 : decode cX11_order 20 = .ok (.goto 4, 3) := by decide +kernel
theorem dX11_order_23 : decode cX11_order 23 = .ok (.iconst 0, 1) := by decide +kernel
theorem dX11_order_24 : decode cX11_order 24 = .ok (.istore_n 3, 1) := by decide +kernel
theorem dX11_order_25 : decode cX11_order 25 = .ok (.iload_n 3, 1) := by decide +kernel
theorem dX11_order_26 : decode cX11_order 26 = .ok (.ifCond .eq 22, 3) := by decide +kernel
theorem dX11_order_29 : decode cX11_order 29 = .ok (.aload_n 0, 1) := by decide +kernel
theorem dX11_order_30 : decode cX11_order 30 = .ok (.getfield 38, 3) := by decide +kernel
theorem dX11_order_33 : decode cX11_order 33 = .ok (.invokevirtual 124, 3) := by decide +kernel
theorem dX11_order_36 : decode cX11_order 36 = .ok (.ifCond .eq 12, 3) := by decide +kernel
theorem dX11_order_39 : decode cX11_order 39 = .ok (.iload_n 2, 1) := by decide +kernel
theorem dX11_order_40 : decode cX11_order 40 = .ok (.iconst 0, 1) := by decide +kernel
theorem dX11_order_41 : decode cX11_order 41 = .ok (.iconst 2, 1) := by decide +kernel
theorem dX11_order_42 : decode cX11_order 42 = .ok (.invokestatic 81, 3) := by decide +kernel
theorem dX11_order_45 : decode cX11_order 45 = .ok (.ifCond .ne 5, 3) := by decide +kernel
theorem dX11_order_48 : decode cX11_order 48 = .ok (.iconst (-1), 1) := by decide +kernel
theorem dX11_order_49 : decode cX11_order 49 = .ok (.ireturn, 1) := by decide +kernel
theorem dX11_order_50 : decode cX11_order 50 = .ok (.aload_n 0, 1) := by decide +kernel
theorem dX11_order_51 : decode cX11_order 51 = .ok (.getfield 52, 3) := by decide +kernel
theorem dX11_order_54 : decode cX11_order 54 = .ok (.aload_n 0, 1) := by decide +kernel
theorem dX11_order_55 : decode cX11_order 55 = .ok (.getfield 10, 3) := by decide +kernel
theorem dX11_order_58 : decode cX11_order 58 = .ok (.aload_n 0, 1) := by decide +kernel
theorem dX11_order_59 : decode cX11_order 59 = .ok (.getfield 38, 3) := by decide +kernel
theorem dX11_order_62 : decode cX11_order 62 = .ok (.iload_n 1, 1) := by decide +kernel
theorem dX11_order_63 : decode cX11_order 63 = .ok (.invokevirtual 230, 3) := by decide +kernel
theorem dX11_order_66 : decode cX11_order 66 = .ok (.iload_n 2, 1) := by decide +kernel
theorem dX11_order_67 : decode cX11_order 67 = .ok (.lookupswitch 41 #[(0, 25), (1, 33)], 25) := by decide +kernel
theorem dX11_order_92 : decode cX11_order 92 = .ok (.aload_n 0, 1) := by decide +kernel
theorem dX11_order_93 : decode cX11_order 93 = .ok (.getfield 52, 3) := by decide +kernel
theorem dX11_order_96 : decode cX11_order 96 = .ok (.getfield 234, 3) := by decide +kernel
theorem dX11_order_99 : decode cX11_order 99 = .ok (.ireturn, 1) := by decide +kernel
theorem dX11_order_100 : decode cX11_order 100 = .ok (.aload_n 0, 1) := by decide +kernel
theorem dX11_order_101 : decode cX11_order 101 = .ok (.getfield 52, 3) := by decide +kernel
theorem dX11_order_104 : decode cX11_order 104 = .ok (.getfield 237, 3) := by decide +kernel
theorem dX11_order_107 : decode cX11_order 107 = .ok (.ireturn, 1) := by decide +kernel
theorem dX11_order_108 : decode cX11_order 108 = .ok (.aload_n 0, 1) := by decide +kernel
theorem dX11_order_109 : decode cX11_order 109 = .ok (.getfield 52, 3) := by decide +kernel
theorem dX11_order_112 : decode cX11_order 112 = .ok (.getfield 240, 3) := by decide +kernel
theorem dX11_order_115 : decode cX11_order 115 = .ok (.ireturn, 1) := by decide +kernel
theorem dX11_speed_0 : decode cX11_speed 0 = .ok (.iload_n 1, 1) := by decide +kernel
theorem dX11_speed_1 : decode cX11_speed 1 = .ok (.iconst 0, 1) := by decide +kernel
theorem dX11_speed_2 : decode cX11_speed 2 = .ok (.iconst 3, 1) := by decide +kernel
theorem dX11_speed_3 : decode cX11_speed 3 = .ok (.invokestatic 81, 3) := by decide +kernel
theorem dX11_speed_6 : decode cX11_speed 6 = .ok (.ifCond .eq 23, 3) := by decide +kernel
theorem dX11_speed_9 : decode cX11_speed 9 = .ok (.iload_n 2, 1) := by decide +kernel
theorem dX11_speed_10 : decode cX11_speed 10 = .ok (.iconst 1, 1) := by decide +kernel
theorem dX11_speed_11 : decode cX11_speed 11 = .ok (.bipush 15, 2) := by decide +kernel
theorem dX11_speed_13 : decode cX11_speed 13 = .ok (.invokestatic 81, 3) := by decide +kernel
theorem dX11_speed_16 : decode cX11_speed 16 = .ok (.ifCond .eq 13, 3) := by decide +kernel
theorem dX11_speed_19 : decode cX11_speed 19 = .ok (.aload_n 0, 1) := by decide +kernel
theorem dX11_speed_20 : decode cX11_speed 20 = .ok (.getfield 38, 3) := by decide +kernel
theorem dX11_speed_23 : decode cX11_speed 23 = .ok (.invokevirtual 124, 3) := by decide +kernel
theorem dX11_speed_26 : decode cX11_speed 26 = .ok (.ifCond .ne 5, 3) := by decide +kernel
theorem dX11_speed_29 : decode cX11_speed 29 = .ok (.iconst (-1), 1) := by decide +kernel
theorem dX11_speed_30 : decode cX11_speed 30 = .ok (.ireturn, 1) := by decide +kernel
theorem dX11_speed_31 : decode cX11_speed 31 = .ok (.aload_n 0, 1) := by decide +kernel
theorem dX11_speed_32 : decode cX11_speed 32 = .ok (.getfield 52, 3) := by decide +kernel
theorem dX11_speed_35 : decode cX11_speed 35 = .ok (.aload_n 0, 1) := by decide +kernel
theorem dX11_speed_36 : decode cX11_speed 36 = .ok (.getfield 10, 3) := by decide +kernel
theorem dX11_speed_39 : decode cX11_speed 39 = .ok (.aload_n 0, 1) := by decide +kernel
theorem dX11_speed_40 : decode cX11_speed 40 = .ok (.getfield 38, 3) := by decide +kernel
theorem dX11_speed_43 : decode cX11_speed 43 = .ok (.iload_n 1, 1) := by decide +kernel
theorem dX11_speed_44 : decode cX11_speed 44 = .ok (.iload_n 2, 1) := by decide +kernel
theorem dX11_speed_45 : decode cX11_speed 45 = .ok (.invokevirtual 243, 3) := by decide +kernel
theorem dX11_speed_48 : decode cX11_speed 48 = .ok (.ireturn, 1) := by decide +kernel
theorem dX11_kind_0 : decode cX11_kind 0 = .ok (.aload_n 0, 1) := by decide +kernel
theorem dX11_kind_1 : decode cX11_kind 1 = .ok (.getfield 59, 3) := by decide +kernel
theorem dX11_kind_4 : decode cX11_kind 4 = .ok (.iload_n 1, 1) := by decide +kernel
theorem dX11_kind_5 : decode cX11_kind 5 = .ok (.iload_n 2, 1) := by decide +kernel
theorem dX11_kind_6 : decode cX11_kind 6 = .ok (.iload_n 3, 1) := by decide +kernel
theorem dX11_kind_7 : decode cX11_kind 7 = .ok (.invokevirtual 247, 3) := by decide +kernel
theorem dX11_kind_10 : decode cX11_kind 10 = .ok (.ireturn, 1) := by decide +kernel
theorem dX11_fill_0 : decode cX11_fill 0 = .ok (.aload_n 0, 1) := by decide +kernel
theorem dX11_fill_1 : decode cX11_fill 1 = .ok (.getfield 59, 3) := by decide +kernel
theorem dX11_fill_4 : decode cX11_fill 4 = .ok (.iload_n 1, 1) := by decide +kernel
theorem dX11_fill_5 : decode cX11_fill 5 = .ok (.iload_n 2, 1) := by decide +kernel
theorem dX11_fill_6 : decode cX11_fill 6 = .ok (.invokevirtual 251, 3) := by decide +kernel
theorem dX11_fill_9 : decode cX11_fill 9 = .ok (.ireturn, 1) := by decide +kernel
theorem dX11_test_0 : decode cX11_test 0 = .ok (.aload_n 0, 1) := by decide +kernel
theorem dX11_test_1 : decode cX11_test 1 = .ok (.getfield 66, 3) := by decide +kernel
theorem dX11_test_4 : decode cX11_test 4 = .ok (.iload_n 1, 1) := by decide +kernel
theorem dX11_test_5 : decode cX11_test 5 = .ok (.iload_n 2, 1) := by decide +kernel
theorem dX11_test_6 : decode cX11_test 6 = .ok (.iload_n 3, 1) := by decide +kernel
theorem dX11_test_7 : decode cX11_test 7 = .ok (.iload 4, 2) := by decide +kernel
theorem dX11_test_9 : decode cX11_test 9 = .ok (.invokevirtual 254, 3) := by decide +kernel
theorem dX11_test_12 : decode cX11_test 12 = .ok (.ireturn, 1) := by decide +kernel
theorem dX11_known_0 : decode cX11_known 0 = .ok (.iload_n 1, 1) := by decide +kernel
theorem dX11_known_1 : decode cX11_known 1 = .ok (.iconst 0, 1) := by decide +kernel
theorem dX11_known_2 : decode cX11_known 2 = .ok (.iconst 3, 1) := by decide +kernel
theorem dX11_known_3 : decode cX11_known 3 = .ok (.invokestatic 81, 3) := by decide +kernel
theorem dX11_known_6 : decode cX11_known 6 = .ok (.ifCond .eq 14, 3) := by decide +kernel
theorem dX11_known_9 : decode cX11_known 9 = .ok (.iload_n 2, 1) := by decide +kernel
theorem dX11_known_10 : decode cX11_known 10 = .ok (.iconst 0, 1) := by decide +kernel
theorem dX11_known_11 : decode cX11_known 11 = .ok (.sipush 999, 3) := by decide +kernel
theorem dX11_known_14 : decode cX11_known 14 = .ok (.invokestatic 81, 3) := by decide +kernel
theorem dX11_known_17 : decode cX11_known 17 = .ok (.ifCond .ne 5, 3) := by decide +kernel
theorem dX11_known_20 : decode cX11_known 20 = .ok (.iconst (-1), 1) := by decide +kernel
theorem dX11_known_21 : decode cX11_known 21 = .ok (.ireturn, 1) := by decide +kernel
theorem dX11_known_22 : decode cX11_known 22 = .ok (.aload_n 0, 1) := by decide +kernel
theorem dX11_known_23 : decode cX11_known 23 = .ok (.getfield 66, 3) := by decide +kernel
theorem dX11_known_26 : decode cX11_known 26 = .ok (.iload_n 1, 1) := by decide +kernel
theorem dX11_known_27 : decode cX11_known 27 = .ok (.iload_n 2, 1) := by decide +kernel
theorem dX11_known_28 : decode cX11_known 28 = .ok (.invokevirtual 258, 3) := by decide +kernel
theorem dX11_known_31 : decode cX11_known 31 = .ok (.istore 4, 2) := by decide +kernel
theorem dX11_known_33 : decode cX11_known 33 = .ok (.aload_n 0, 1) := by decide +kernel
theorem dX11_known_34 : decode cX11_known 34 = .ok (.getfield 66, 3) := by decide +kernel
theorem dX11_known_37 : decode cX11_known 37 = .ok (.iload_n 1, 1) := by decide +kernel
theorem dX11_known_38 : decode cX11_known 38 = .ok (.iload_n 2, 1) := by decide +kernel
theorem dX11_known_39 : decode cX11_known 39 = .ok (.invokevirtual 261, 3) := by decide +kernel
theorem dX11_known_42 : decode cX11_known 42 = .ok (.istore 5, 2) := by decide +kernel
theorem dX11_known_44 : decode cX11_known 44 = .ok (.iload_n 3, 1) := by decide +kernel
theorem dX11_known_45 : decode cX11_known 45 = .ok (.tableswitch 69 0 3 #[31, 34, 37, 50], 31) := by decide +kernel
theorem dX11_known_76 : decode cX11_known 76 = .ok (.iload 4, 2) := by decide +kernel
theorem dX11_known_78 : decode cX11_known 78 = .ok (.ireturn, 1) := by decide +kernel
theorem dX11_known_79 : decode cX11_known 79 = .ok (.iload 5, 2) := by decide +kernel
theorem dX11_known_81 : decode cX11_known 81 = .ok (.ireturn, 1) := by decide +kernel
theorem dX11_known_82 : decode cX11_known 82 = .ok (.iload 4, 2) := by decide +kernel
theorem dX11_known_84 : decode cX11_known 84 = .ok (.iload 5, 2) := by decide +kernel
theorem dX11_known_86 : decode cX11_known 86 = .ok (.if_icmp .le 7, 3) := by decide +kernel
theorem dX11_known_89 : decode cX11_known 89 = .ok (.iconst 1, 1) := by decide +kernel
theorem dX11_known_90 : decode cX11_known 90 = .ok (.goto 4, 3) := by decide +kernel
theorem dX11_known_93 : decode cX11_known 93 = .ok (.iconst 0, 1) := by decide +kernel
theorem dX11_known_94 : decode cX11_known 94 = .ok (.ireturn, 1) := by decide +kernel
theorem dX11_known_95 : decode cX11_known 95 = .ok (.iload 4, 2) := by decide +kernel
theorem dX11_known_97 : decode cX11_known 97 = .ok (.iload 5, 2) := by decide +kernel
theorem dX11_known_99 : decode cX11_known 99 = .ok (.if_icmp .ge 13, 3) := by decide +kernel
theorem dX11_known_102 : decode cX11_known 102 = .ok (.iload 4, 2) := by decide +kernel
theorem dX11_known_104 : decode cX11_known 104 = .ok (.iload 5, 2) := by decide +kernel
theorem dX11_known_106 : decode cX11_known 106 = .ok (.iadd, 1) := by decide +kernel
theorem dX11_known_107 : decode cX11_known 107 = .ok (.iconst 2, 1) := by decide +kernel
theorem dX11_known_108 : decode cX11_known 108 = .ok (.idiv, 1) := by decide +kernel
theorem dX11_known_109 : decode cX11_known 109 = .ok (.goto 4, 3) := by decide +kernel
theorem dX11_known_112 : decode cX11_known 112 = .ok (.iconst (-1), 1) := by decide +kernel
theorem dX11_known_113 : decode cX11_known 113 = .ok (.ireturn, 1) := by decide +kernel
theorem dX11_known_114 : decode cX11_known 114 = .ok (.iconst (-1), 1) := by decide +kernel
theorem dX11_known_115 : decode cX11_known 115 = .ok (.ireturn, 1) := by decide +kernel
theorem dX11_sparks_0 : decode cX11_sparks 0 = .ok (.aload_n 0, 1) := by decide +kernel
theorem dX11_sparks_1 : decode cX11_sparks 1 = .ok (.getfield 25, 3) := by decide +kernel
theorem dX11_sparks_4 : decode cX11_sparks 4 = .ok (.aload_n 0, 1) := by decide +kernel
theorem dX11_sparks_5 : decode cX11_sparks 5 = .ok (.getfield 21, 3) := by decide +kernel
theorem dX11_sparks_8 : decode cX11_sparks 8 = .ok (.invokevirtual 120, 3) := by decide +kernel
theorem dX11_sparks_11 : decode cX11_sparks 11 = .ok (.aload_n 0, 1) := by decide +kernel
theorem dX11_sparks_12 : decode cX11_sparks 12 = .ok (.getfield 21, 3) := by decide +kernel
theorem dX11_sparks_15 : decode cX11_sparks 15 = .ok (.iconst 0, 1) := by decide +kernel
theorem dX11_sparks_16 : decode cX11_sparks 16 = .ok (.putfield 99, 3) := by decide +kernel
theorem dX11_sparks_19 : decode cX11_sparks 19 = .ok (.aload_n 0, 1) := by decide +kernel
theorem dX11_sparks_20 : decode cX11_sparks 20 = .ok (.getfield 25, 3) := by decide +kernel
theorem dX11_sparks_23 : decode cX11_sparks 23 = .ok (.getfield 99, 3) := by decide +kernel
theorem dX11_sparks_26 : decode cX11_sparks 26 = .ok (.ireturn, 1) := by decide +kernel
theorem dX11_lost_0 : decode cX11_lost 0 = .ok (.iload_n 1, 1) := by decide +kernel
theorem dX11_lost_1 : decode cX11_lost 1 = .ok (.iconst 0, 1) := by decide +kernel
theorem dX11_lost_2 : decode cX11_lost 2 = .ok (.sipush 256, 3) := by decide +kernel
theorem dX11_lost_5 : decode cX11_lost 5 = .ok (.invokestatic 81, 3) := by decide +kernel
theorem dX11_lost_8 : decode cX11_lost 8 = .ok (.ifCond .eq 13, 3) := by decide +kernel
theorem dX11_lost_11 : decode cX11_lost 11 = .ok (.iload_n 2, 1) := by decide +kernel
theorem dX11_lost_12 : decode cX11_lost 12 = .ok (.iconst 1, 1) := by decide +kernel
theorem dX11_lost_13 : decode cX11_lost 13 = .ok (.bipush 99, 2) := by decide +kernel
theorem dX11_lost_15 : decode cX11_lost 15 = .ok (.invokestatic 81, 3) := by decide +kernel
theorem dX11_lost_18 : decode cX11_lost 18 = .ok (.ifCond .ne 5, 3) := by decide +kernel
theorem dX11_lost_21 : decode cX11_lost 21 = .ok (.iconst (-1), 1) := by decide +kernel
theorem dX11_lost_22 : decode cX11_lost 22 = .ok (.ireturn, 1) := by decide +kernel
theorem dX11_lost_23 : decode cX11_lost 23 = .ok (.aload_n 0, 1) := by decide +kernel
theorem dX11_lost_24 : decode cX11_lost 24 = .ok (.getfield 25, 3) := by decide +kernel
theorem dX11_lost_27 : decode cX11_lost 27 = .ok (.iload_n 1, 1) := by decide +kernel
theorem dX11_lost_28 : decode cX11_lost 28 = .ok (.iload_n 2, 1) := by decide +kernel
theorem dX11_lost_29 : decode cX11_lost 29 = .ok (.invokevirtual 264, 3) := by decide +kernel
theorem dX11_lost_32 : decode cX11_lost 32 = .ok (.ireturn, 1) := by decide +kernel
theorem dX11_within_0 : decode cX11_within 0 = .ok (.iload_n 0, 1) := by decide +kernel
theorem dX11_within_1 : decode cX11_within 1 = .ok (.iload_n 1, 1) := by decide +kernel
theorem dX11_within_2 : decode cX11_within 2 = .ok (.if_icmp .lt 12, 3) := by decide +kernel
theorem dX11_within_5 : decode cX11_within 5 = .ok (.iload_n 0, 1) := by decide +kernel
theorem dX11_within_6 : decode cX11_within 6 = .ok (.iload_n 2, 1) := by decide +kernel
theorem dX11_within_7 : decode cX11_within 7 = .ok (.if_icmp .gt 7, 3) := by decide +kernel
theorem dX11_within_10 : decode cX11_within 10 = .ok (.iconst 1, 1) := by decide +kernel
theorem dX11_within_11 : decode cX11_within 11 = .ok (.goto 4, 3) := by decide +kernel
theorem dX11_within_14 : decode cX11_within 14 = .ok (.iconst 0, 1) := by decide +kernel
theorem dX11_within_15 : decode cX11_within 15 = .ok (.ireturn, 1) := by decide +kernel
theorem dX11_stepX_0 : decode cX11_stepX 0 = .ok (.iload_n 0, 1) := by decide +kernel
theorem dX11_stepX_1 : decode cX11_stepX 1 = .ok (.ifCond .ne 7, 3) := by decide +kernel
theorem dX11_stepX_4 : decode cX11_stepX 4 = .ok (.iconst 1, 1) := by decide +kernel
theorem dX11_stepX_5 : decode cX11_stepX 5 = .ok (.goto 13, 3) := by decide +kernel
theorem dX11_stepX_8 : decode cX11_stepX 8 = .ok (.iload_n 0, 1) := by decide +kernel
theorem dX11_stepX_9 : decode cX11_stepX 9 = .ok (.iconst 2, 1) := by decide +kernel
theorem dX11_stepX_10 : decode cX11_stepX 10 = .ok (.if_icmp .ne 7, 3) := by decide +kernel
theorem dX11_stepX_13 : decode cX11_stepX 13 = .ok (.iconst (-1), 1) := by decide +kernel
theorem dX11_stepX_14 : decode cX11_stepX 14 = .ok (.goto 4, 3) := by decide +kernel
theorem dX11_stepX_17 : decode cX11_stepX 17 = .ok (.iconst 0, 1) := by decide +kernel
theorem dX11_stepX_18 : decode cX11_stepX 18 = .ok (.ireturn, 1) := by decide +kernel
theorem dX11_stepY_0 : decode cX11_stepY 0 = .ok (.iload_n 0, 1) := by decide +kernel
theorem dX11_stepY_1 : decode cX11_stepY 1 = .ok (.iconst 1, 1) := by decide +kernel
theorem dX11_stepY_2 : decode cX11_stepY 2 = .ok (.if_icmp .ne 7, 3) := by decide +kernel
theorem dX11_stepY_5 : decode cX11_stepY 5 = .ok (.iconst 1, 1) := by decide +kernel
theorem dX11_stepY_6 : decode cX11_stepY 6 = .ok (.goto 13, 3) := by decide +kernel
theorem dX11_stepY_9 : decode cX11_stepY 9 = .ok (.iload_n 0, 1) := by decide +kernel
theorem dX11_stepY_10 : decode cX11_stepY 10 = .ok (.iconst 3, 1) := by decide +kernel
theorem dX11_stepY_11 : decode cX11_stepY 11 = .ok (.if_icmp .ne 7, 3) := by decide +kernel
theorem dX11_stepY_14 : decode cX11_stepY 14 = .ok (.iconst (-1), 1) := by decide +kernel
theorem dX11_stepY_15 : decode cX11_stepY 15 = .ok (.goto 4, 3) := by decide +kernel
theorem dX11_stepY_18 : decode cX11_stepY 18 = .ok (.iconst 0, 1) := by decide +kernel
theorem dX11_stepY_19 : decode cX11_stepY 19 = .ok (.ireturn, 1) := by decide +kernel
theorem dX12_init_0 : decode cX12_init 0 = .ok (.aload_n 0, 1) := by decide +kernel
theorem dX12_init_1 : decode cX12_init 1 = .ok (.invokespecial 1, 3) := by decide +kernel
theorem dX12_init_4 : decode cX12_init 4 = .ok (.aload_n 0, 1) := by decide +kernel
theorem dX12_init_5 : decode cX12_init 5 = .ok (.iconst 4, 1) := by decide +kernel
theorem dX12_init_6 : decode cX12_init 6 = .ok (.newarray .int, 2) := by decide +kernel
theorem dX12_init_8 : decode cX12_init 8 = .ok (.dup, 1) := by decide +kernel
theorem dX12_init_9 : decode cX12_init 9 = .ok (.iconst 0, 1) := by decide +kernel
theorem dX12_init_10 : decode cX12_init 10 = .ok (.bipush 100, 2) := by decide +kernel
theorem dX12_init_12 : decode cX12_init 12 = .ok (.iastore, 1) := by decide +kernel
theorem dX12_init_13 : decode cX12_init 13 = .ok (.dup, 1) := by decide +kernel
theorem dX12_init_14 : decode cX12_init 14 = .ok (.iconst 1, 1) := by decide +kernel
theorem dX12_init_15 : decode cX12_init 15 = .ok (.bipush 100, 2) := by decide +kernel
theorem dX12_init_17 : decode cX12_init 17 = .ok (.iastore, 1) := by decide +kernel
theorem dX12_init_18 : decode cX12_init 18 = .ok (.dup, 1) := by decide +kernel
theorem dX12_init_19 : decode cX12_init 19 = .ok (.iconst 2, 1) := by decide +kernel
theorem dX12_init_20 : decode cX12_init 20 = .ok (.bipush 100, 2) := by decide +kernel
theorem dX12_init_22 : decode cX12_init 22 = .ok (.iastore, 1) := by decide +kernel
theorem dX12_init_23 : decode cX12_init 23 = .ok (.dup, 1) := by decide +kernel
theorem dX12_init_24 : decode cX12_init 24 = .ok (.iconst 3, 1) := by decide +kernel
theorem dX12_init_25 : decode cX12_init 25 = .ok (.bipush 100, 2) := by decide +kernel
theorem dX12_init_27 : decode cX12_init 27 = .ok (.iastore, 1) := by decide +kernel
theorem dX12_init_28 : decode cX12_init 28 = .ok (.putfield 7, 3) := by decide +kernel
theorem dX12_init_31 : decode cX12_init 31 = .ok (.aload_n 0, 1) := by decide +kernel
theorem dX12_init_32 : decode cX12_init 32 = .ok (.iconst 4, 1) := by decide +kernel
theorem dX12_init_33 : decode cX12_init 33 = .ok (.newarray .int, 2) := by decide +kernel
theorem dX12_init_35 : decode cX12_init 35 = .ok (.dup, 1) := by decide +kernel
theorem dX12_init_36 : decode cX12_init 36 = .ok (.iconst 0, 1) := by decide +kernel
theorem dX12_init_37 : decode cX12_init 37 = .ok (.bipush 10, 2) := by decide +kernel
theorem dX12_init_39 : decode cX12_init 39 = .ok (.iastore, 1) := by decide +kernel
theorem dX12_init_40 : decode cX12_init 40 = .ok (.dup, 1) := by decide +kernel
theorem dX12_init_41 : decode cX12_init 41 = .ok (.iconst 1, 1) := by decide +kernel
theorem dX12_init_42 : decode cX12_init 42 = .ok (.bipush 10, 2) := by decide +kernel
theorem dX12_init_44 : decode cX12_init 44 = .ok (.iastore, 1) := by decide +kernel
theorem dX12_init_45 : decode cX12_init 45 = .ok (.dup, 1) := by decide +kernel
theorem dX12_init_46 : decode cX12_init 46 = .ok (.iconst 2, 1) := by decide +kernel
theorem dX12_init_47 : decode cX12_init 47 = .ok (.bipush 10, 2) := by decide +kernel
theorem dX12_init_49 : decode cX12_init 49 = .ok (.iastore, 1) := by decide +kernel
theorem dX12_init_50 : decode cX12_init 50 = .ok (.dup, 1) := by decide +kernel
theorem dX12_init_51 : decode cX12_init 51 = .ok (.iconst 3, 1) := by decide +kernel
theorem dX12_init_52 : decode cX12_init 52 = .ok (.bipush 10, 2) := by decide +kernel
theorem dX12_init_54 : decode cX12_init 54 = .ok (.iastore, 1) := by decide +kernel
theorem dX12_init_55 : decode cX12_init 55 = .ok (.putfield 13, 3) := by decide +kernel
theorem dX12_init_58 : decode cX12_init 58 = .ok (.aload_n 0, 1) := by decide +kernel
theorem dX12_init_59 : decode cX12_init 59 = .ok (.iconst 4, 1) := by decide +kernel
theorem dX12_init_60 : decode cX12_init 60 = .ok (.newarray .int, 2) := by decide +kernel
theorem dX12_init_62 : decode cX12_init 62 = .ok (.dup, 1) := by decide +kernel
theorem dX12_init_63 : decode cX12_init 63 = .ok (.iconst 0, 1) := by decide +kernel
theorem dX12_init_64 : decode cX12_init 64 = .ok (.iconst 2, 1) := by decide +kernel
theorem dX12_init_65 : decode cX12_init 65 = .ok (.iastore, 1) := by decide +kernel
theorem dX12_init_66 : decode cX12_init 66 = .ok (.dup, 1) := by decide +kernel
theorem dX12_init_67 : decode cX12_init 67 = .ok (.iconst 1, 1) := by decide +kernel
theorem dX12_init_68 : decode cX12_init 68 = .ok (.iconst 2, 1) := by decide +kernel
theorem dX12_init_69 : decode cX12_init 69 = .ok (.iastore, 1) := by decide +kernel
theorem dX12_init_70 : decode cX12_init 70 = .ok (.dup, 1) := by decide +kernel
theorem dX12_init_71 : decode cX12_init 71 = .ok (.iconst 2, 1) := by decide +kernel
theorem dX12_init_72 : decode cX12_init 72 = .ok (.iconst 2, 1) := by decide +kernel
theorem dX12_init_73 : decode cX12_init 73 = .ok (.iastore, 1) := by decide +kernel
theorem dX12_init_74 : decode cX12_init 74 = .ok (.dup, 1) := by decide +kernel
theorem dX12_init_75 : decode cX12_init 75 = .ok (.iconst 3, 1) := by decide +kernel
theorem dX12_init_76 : decode cX12_init 76 = .ok (.iconst 2, 1) := by decide +kernel
theorem dX12_init_77 : decode cX12_init 77 = .ok (.iastore, 1) := by decide +kernel
theorem dX12_init_78 : decode cX12_init 78 = .ok (.putfield 16, 3) := by decide +kernel
theorem dX12_init_81 : decode cX12_init 81 = .ok (.aload_n 0, 1) := by decide +kernel
theorem dX12_init_82 : decode cX12_init 82 = .ok (.iconst 4, 1) := by decide +kernel
theorem dX12_init_83 : decode cX12_init 83 = .ok (.newarray .int, 2) := by decide +kernel
theorem dX12_init_85 : decode cX12_init 85 = .ok (.dup, 1) := by decide +kernel
theorem dX12_init_86 : decode cX12_init 86 = .ok (.iconst 0, 1) := by decide +kernel
theorem dX12_init_87 : decode cX12_init 87 = .ok (.bipush 60, 2) := by decide +kernel
theorem dX12_init_89 : decode cX12_init 89 = .ok (.iastore, 1) := by decide +kernel
theorem dX12_init_90 : decode cX12_init 90 = .ok (.dup, 1) := by decide +kernel
theorem dX12_init_91 : decode cX12_init 91 = .ok (.iconst 1, 1) := by decide +kernel
theorem dX12_init_92 : decode cX12_init 92 = .ok (.bipush 60, 2) := by decide +kernel
theorem dX12_init_94 : decode cX12_init 94 = .ok (.iastore, 1) := by decide +kernel
theorem dX12_init_95 : decode cX12_init 95 = .ok (.dup, 1) := by decide +kernel
theorem dX12_init_96 : decode cX12_init 96 = .ok (.iconst 2, 1) := by decide +kernel
theorem dX12_init_97 : decode cX12_init 97 = .ok (.bipush 60, 2) := by decide +kernel
theorem dX12_init_99 : decode cX12_init 99 = .ok (.iastore, 1) := by decide +kernel
theorem dX12_init_100 : decode cX12_init 100 = .ok (.dup, 1) := by decide +kernel
theorem dX12_init_101 : decode cX12_init 101 = .ok (.iconst 3, 1) := by decide +kernel
theorem dX12_init_102 : decode cX12_init 102 = .ok (.bipush 60, 2) := by decide +kernel
theorem dX12_init_104 : decode cX12_init 104 = .ok (.iastore, 1) := by decide +kernel
theorem dX12_init_105 : decode cX12_init 105 = .ok (.putfield 19, 3) := by decide +kernel
theorem dX12_init_108 : decode cX12_init 108 = .ok (.aload_n 0, 1) := by decide +kernel
theorem dX12_init_109 : decode cX12_init 109 = .ok (.bipush 100, 2) := by decide +kernel
theorem dX12_init_111 : decode cX12_init 111 = .ok (.putfield 22, 3) := by decide +kernel
theorem dX12_init_114 : decode cX12_init 114 = .ok (.aload_n 0, 1) := by decide +kernel
theorem dX12_init_115 : decode cX12_init 115 = .ok (.iconst 1, 1) := by decide +kernel
theorem dX12_init_116 : decode cX12_init 116 = .ok (.putfield 26, 3) := by decide +kernel
theorem dX12_init_119 : decode cX12_init 119 = .ok (.aload_n 0, 1) := by decide +kernel
theorem dX12_init_120 : decode cX12_init 120 = .ok (.iconst 4, 1) := by decide +kernel
theorem dX12_init_121 : decode cX12_init 121 = .ok (.putfield 30, 3) := by decide +kernel
theorem dX12_init_124 : decode cX12_init 124 = .ok (.aload_n 0, 1) := by decide +kernel
theorem dX12_init_125 : decode cX12_init 125 = .ok (.sipush 384, 3) := by decide +kernel
theorem dX12_init_128 : decode cX12_init 128 = .ok (.newarray .int, 2) := by decide +kernel
theorem dX12_init_130 : decode cX12_init 130 = .ok (.putfield 33, 3) := by decide +kernel
theorem dX12_init_133 : decode cX12_init 133 = .ok (.aload_n 0, 1) := by decide +kernel
theorem dX12_init_134 : decode cX12_init 134 = .ok (.sipush 192, 3) := by decide +kernel
theorem dX12_init_137 : decode cX12_init 137 = .ok (.newarray .int, 2) := by decide +kernel
theorem dX12_init_139 : decode cX12_init 139 = .ok (.putfield 36, 3) := by decide +kernel
theorem dX12_init_142 : decode cX12_init 142 = .ok (.aload_n 0, 1) := by decide +kernel
theorem dX12_init_143 : decode cX12_init 143 = .ok (.sipush 384, 3) := by decide +kernel
theorem dX12_init_146 : decode cX12_init 146 = .ok (.newarray .int, 2) := by decide +kernel
theorem dX12_init_148 : decode cX12_init 148 = .ok (.putfield 39, 3) := by decide +kernel
theorem dX12_init_151 : decode cX12_init 151 = .ok (.aload_n 0, 1) := by decide +kernel
theorem dX12_init_152 : decode cX12_init 152 = .ok (.sipush 384, 3) := by decide +kernel
theorem dX12_init_155 : decode cX12_init 155 = .ok (.newarray .boolean, 2) := by decide +kernel
theorem dX12_init_157 : decode cX12_init 157 = .ok (.putfield 42, 3) := by decide +kernel
theorem dX12_init_160 : decode cX12_init 160 = .ok (.aload_n 0, 1) := by decide +kernel
theorem dX12_init_161 : decode cX12_init 161 = .ok (.sipush 384, 3) := by decide +kernel
theorem dX12_init_164 : decode cX12_init 164 = .ok (.newarray .boolean, 2) := by decide +kernel
theorem dX12_init_166 : decode cX12_init 166 = .ok (.putfield 46, 3) := by decide +kernel
theorem dX12_init_169 : decode cX12_init 169 = .ok (.aload_n 0, 1) := by decide +kernel
theorem dX12_init_170 : decode cX12_init 170 = .ok (.iconst 2, 1) := by decide +kernel
theorem dX12_init_171 : decode cX12_init 171 = .ok (.newarray .int, 2) := by decide +kernel
theorem dX12_init_173 : decode cX12_init 173 = .ok (.putfield 49, 3) := by decide +kernel
theorem dX12_init_176 : decode cX12_init 176 = .ok (.aload_n 0, 1) := by decide +kernel
theorem dX12_init_177 : decode cX12_init 177 = .ok (.iconst 2, 1) := by decide +kernel
theorem dX12_init_178 : decode cX12_init 178 = .ok (.newarray .int, 2) := by decide +kernel
theorem dX12_init_180 : decode cX12_init 180 = .ok (.putfield 52, 3) := by decide +kernel
theorem dX12_init_183 : decode cX12_init 183 = .ok (.aload_n 0, 1) := by decide +kernel
theorem dX12_init_184 : decode cX12_init 184 = .ok (.iconst 2, 1) := by decide +kernel
theorem dX12_init_185 : decode cX12_init 185 = .ok (.newarray .boolean, 2) := by decide +kernel
theorem dX12_init_187 : decode cX12_init 187 = .ok (.putfield 55, 3) := by decide +kernel
theorem dX12_init_190 : decode cX12_init 190 = .ok (.aload_n 0, 1) := by decide +kernel
theorem dX12_init_191 : decode cX12_init 191 = .ok (.iconst 2, 1) := by decide +kernel
theorem dX12_init_192 : decode cX12_init 192 = .ok (.newarray .int, 2) := by decide +kernel
theorem dX12_init_194 : decode cX12_init 194 = .ok (.putfield 58, 3) := by decide +kernel
theorem dX12_init_197 : decode cX12_init 197 = .ok (.aload_n 0, 1) := by decide +kernel
theorem dX12_init_198 : decode cX12_init 198 = .ok (.iconst 2, 1) := by decide +kernel
theorem dX12_init_199 : decode cX12_init 199 = .ok (.newarray .int, 2) := by decide +kernel
theorem dX12_init_201 : decode cX12_init 201 = .ok (.putfield 61, 3) := by decide +kernel
theorem dX12_init_204 : decode cX12_init 204 = .ok (.aload_n 0, 1) := by decide +kernel
theorem dX12_init_205 : decode cX12_init 205 = .ok (.iconst 2, 1) := by decide +kernel
theorem dX12_init_206 : decode cX12_init 206 = .ok (.newarray .int, 2) := by decide +kernel
theorem dX12_init_208 : decode cX12_init 208 = .ok (.putfield 64, 3) := by decide +kernel
theorem dX12_init_211 : decode cX12_init 211 = .ok (.aload_n 0, 1) := by decide +kernel
theorem dX12_init_212 : decode cX12_init 212 = .ok (.iconst 2, 1) := by decide +kernel
theorem dX12_init_213 : decode cX12_init 213 = .ok (.newarray .int, 2) := by decide +kernel
theorem dX12_init_215 : decode cX12_init 215 = .ok (.putfield 67, 3) := by decide +kernel
theorem dX12_init_218 : decode cX12_init 218 = .ok (.aload_n 0, 1) := by decide +kernel
theorem dX12_init_219 : decode cX12_init 219 = .ok (.iconst 2, 1) := by decide +kernel
theorem dX12_init_220 : decode cX12_init 220 = .ok (.newarray .long, 2) := by decide +kernel
theorem dX12_init_222 : decode cX12_init 222 = .ok (.putfield 70, 3) := by decide +kernel
theorem dX12_init_225 : decode cX12_init 225 = .ok (.aload_n 0, 1) := by decide +kernel
theorem dX12_init_226 : decode cX12_init 226 = .ok (.iconst 2, 1) := by decide +kernel
theorem dX12_init_227 : decode cX12_init 227 = .ok (.newarray .long, 2) := by decide +kernel
theorem dX12_init_229 : decode cX12_init 229 = .ok (.putfield 74, 3) := by decide +kernel
theorem dX12_init_232 : decode cX12_init 232 = .ok (.aload_n 0, 1) := by decide +kernel
theorem dX12_init_233 : decode cX12_init 233 = .ok (.iconst 2, 1) := by decide +kernel
theorem dX12_init_234 : decode cX12_init 234 = .ok (.newarray .long, 2) := by decide +kernel
theorem dX12_init_236 : decode cX12_init 236 = .ok (.putfield 77, 3) := by decide +kernel
theorem dX12_init_239 : decode cX12_init 239 = .ok (.aload_n 0, 1) := by decide +kernel
theorem dX12_init_240 : decode cX12_init 240 = .ok (.sipush 192, 3) := by decide +kernel
theorem dX12_init_243 : decode cX12_init 243 = .ok (.newarray .int, 2) := by decide +kernel
theorem dX12_init_245 : decode cX12_init 245 = .ok (.putfield 80, 3) := by decide +kernel
theorem dX12_init_248 : decode cX12_init 248 = .ok (.aload_n 0, 1) := by decide +kernel
theorem dX12_init_249 : decode cX12_init 249 = .ok (.sipush 192, 3) := by decide +kernel
theorem dX12_init_252 : decode cX12_init 252 = .ok (.newarray .int, 2) := by decide +kernel
theorem dX12_init_254 : decode cX12_init 254 = .ok (.putfield 83, 3) := by decide +kernel
theorem dX12_init_257 : decode cX12_init 257 = .ok (.aload_n 0, 1) := by decide +kernel
theorem dX12_init_258 : decode cX12_init 258 = .ok (.sipush 193, 3) := by decide +kernel
theorem dX12_init_261 : decode cX12_init 261 = .ok (.newarray .int, 2) := by decide +kernel
theorem dX12_init_263 : decode cX12_init 263 = .ok (.putfield 86, 3) := by decide +kernel
theorem dX12_init_266 : decode cX12_init 266 = .ok (.aload_n 0, 1) := by decide +kernel
theorem dX12_init_267 : decode cX12_init 267 = .ok (.sipush 193, 3) := by decide +kernel
theorem dX12_init_270 : decode cX12_init 270 = .ok (.newarray .int, 2) := by decide +kernel
theorem dX12_init_272 : decode cX12_init 272 = .ok (.putfield 89, 3) := by decide +kernel
theorem dX12_init_275 : decode cX12_init 275 = .ok (.aload_n 0, 1) := by decide +kernel
theorem dX12_init_276 : decode cX12_init 276 = .ok (.sipush 193, 3) := by decide +kernel
theorem dX12_init_279 : decode cX12_init 279 = .ok (.newarray .boolean, 2) := by decide +kernel
theorem dX12_init_281 : decode cX12_init 281 = .ok (.putfield 92, 3) := by decide +kernel
theorem dX12_init_284 : decode cX12_init 284 = .ok (.aload_n 0, 1) := by decide +kernel
theorem dX12_init_285 : decode cX12_init 285 = .ok (.sipush 400, 3) := by decide +kernel
theorem dX12_init_288 : decode cX12_init 288 = .ok (.newarray .int, 2) := by decide +kernel
theorem dX12_init_290 : decode cX12_init 290 = .ok (.putfield 95, 3) := by decide +kernel
theorem dX12_init_293 : decode cX12_init 293 = .ok (.aload_n 0, 1) := by decide +kernel
theorem dX12_init_294 : decode cX12_init 294 = .ok (.bipush 83, 2) := by decide +kernel
theorem dX12_init_296 : decode cX12_init 296 = .ok (.newarray .int, 2) := by decide +kernel
theorem dX12_init_298 : decode cX12_init 298 = .ok (.dup, 1) := by decide +kernel
theorem dX12_init_299 : decode cX12_init 299 = .ok (.iconst 0, 1) := by decide +kernel
theorem dX12_init_300 : decode cX12_init 300 = .ok (.bipush 32, 2) := by decide +kernel
theorem dX12_init_302 : decode cX12_init 302 = .ok (.iastore, 1) := by decide +kernel
theorem dX12_init_303 : decode cX12_init 303 = .ok (.dup, 1) := by decide +kernel
theorem dX12_init_304 : decode cX12_init 304 = .ok (.iconst 1, 1) := by decide +kernel
theorem dX12_init_305 : decode cX12_init 305 = .ok (.bipush 111, 2) := by decide +kernel
theorem dX12_init_307 : decode cX12_init 307 = .ok (.iastore, 1) := by decide +kernel
theorem dX12_init_308 : decode cX12_init 308 = .ok (.dup, 1) := by decide +kernel
theorem dX12_init_309 : decode cX12_init 309 = .ok (.iconst 2, 1) := by decide +kernel
theorem dX12_init_310 : decode cX12_init 310 = .ok (.bipush 110, 2) := by decide +kernel
theorem dX12_init_312 : decode cX12_init 312 = .ok (.iastore, 1) := by decide +kernel
theorem dX12_init_313 : decode cX12_init 313 = .ok (.dup, 1) := by decide +kernel
theorem dX12_init_314 : decode cX12_init 314 = .ok (.iconst 3, 1) := by decide +kernel
theorem dX12_init_315 : decode cX12_init 315 = .ok (.bipush 32, 2) := by decide +kernel
theorem dX12_init_317 : decode cX12_init 317 = .ok (.iastore, 1) := by decide +kernel
theorem dX12_init_318 : decode cX12_init 318 = .ok (.dup, 1) := by decide +kernel
theorem dX12_init_319 : decode cX12_init 319 = .ok (.iconst 4, 1) := by decide +kernel
theorem dX12_init_320 : decode cX12_init 320 = .ok (.bipush 111, 2) := by decide +kernel
theorem dX12_init_322 : decode cX12_init 322 = .ok (.iastore, 1) := by decide +kernel
theorem dX12_init_323 : decode cX12_init 323 = .ok (.dup, 1) := by decide +kernel
theorem dX12_init_324 : decode cX12_init 324 = .ok (.iconst 5, 1) := by decide +kernel
theorem dX12_init_325 : decode cX12_init 325 = .ok (.bipush 102, 2) := by decide +kernel
theorem dX12_init_327 : decode cX12_init 327 = .ok (.iastore, 1) := by decide +kernel
theorem dX12_init_328 : decode cX12_init 328 = .ok (.dup, 1) := by decide +kernel
theorem dX12_init_329 : decode cX12_init 329 = .ok (.bipush 6, 2) := by decide +kernel
theorem dX12_init_331 : decode cX12_init 331 = .ok (.bipush 102, 2) := by decide +kernel
theorem dX12_init_333 : decode cX12_init 333 = .ok (.iastore, 1) := by decide +kernel
theorem dX12_init_334 : decode cX12_init 334 = .ok (.dup, 1) := by decide +kernel
theorem dX12_init_335 : decode cX12_init 335 = .ok (.bipush 7, 2) := by decide +kernel
theorem dX12_init_337 : decode cX12_init 337 = .ok (.bipush 32, 2) := by decide +kernel
theorem dX12_init_339 : decode cX12_init 339 = .ok (.iastore, 1) := by decide +kernel
theorem dX12_init_340 : decode cX12_init 340 = .ok (.dup, 1) := by decide +kernel
theorem dX12_init_341 : decode cX12_init 341 = .ok (.bipush 8, 2) := by decide +kernel
theorem dX12_init_343 : decode cX12_init 343 = .ok (.bipush 116, 2) := by decide +kernel
theorem dX12_init_345 : decode cX12_init 345 = .ok (.iastore, 1) := by decide +kernel
theorem dX12_init_346 : decode cX12_init 346 = .ok (.dup, 1) := by decide +kernel
theorem dX12_init_347 : decode cX12_init 347 = .ok (.bipush 9, 2) := by decide +kernel
theorem dX12_init_349 : decode cX12_init 349 = .ok (.bipush 111, 2) := by decide +kernel
theorem dX12_init_351 : decode cX12_init 351 = .ok (.iastore, 1) := by decide +kernel
theorem dX12_init_352 : decode cX12_init 352 = .ok (.dup, 1) := by decide +kernel
theorem dX12_init_353 : decode cX12_init 353 = .ok (.bipush 10, 2) := by decide +kernel
theorem dX12_init_355 : decode cX12_init 355 = .ok (.bipush 32, 2) := by decide +kernel
theorem dX12_init_357 : decode cX12_init 357 = .ok (.iastore, 1) := by decide +kernel
theorem dX12_init_358 : decode cX12_init 358 = .ok (.dup, 1) := by decide +kernel
theorem dX12_init_359 : decode cX12_init 359 = .ok (.bipush 11, 2) := by decide +kernel
theorem dX12_init_361 : decode cX12_init 361 = .ok (.bipush 103, 2) := by decide +kernel
theorem dX12_init_363 : decode cX12_init 363 = .ok (.iastore, 1) := by decide +kernel
theorem dX12_init_364 : decode cX12_init 364 = .ok (.dup, 1) := by decide +kernel
theorem dX12_init_365 : decode cX12_init 365 = .ok (.bipush 12, 2) := by decide +kernel
theorem dX12_init_367 : decode cX12_init 367 = .ok (.bipush 111, 2) := by decide +kernel
theorem dX12_init_369 : decode cX12_init 369 = .ok (.iastore, 1) := by decide +kernel
theorem dX12_init_370 : decode cX12_init 370 = .ok (.dup, 1) := by decide +kernel
theorem dX12_init_371 : decode cX12_init 371 = .ok (.bipush 13, 2) := by decide +kernel
theorem dX12_init_373 : decode cX12_init 373 = .ok (.bipush 32, 2) := by decide +kernel
theorem dX12_init_375 : decode cX12_init 375 = .ok (.iastore, 1) := by decide +kernel
theorem dX12_init_376 : decode cX12_init 376 = .ok (.dup, 1) := by decide +kernel
theorem dX12_init_377 : decode cX12_init 377 = .ok (.bipush 14, 2) := by decide +kernel
theorem dX12_init_379 : decode cX12_init 379 = .ok (.bipush 104, 2) := by decide +kernel
theorem dX12_init_381 : decode cX12_init 381 = .ok (.iastore, 1) := by decide +kernel
theorem dX12_init_382 : decode cX12_init 382 = .ok (.dup, 1) := by decide +kernel
theorem dX12_init_383 : decode cX12_init 383 = .ok (.bipush 15, 2) := by decide +kernel
theorem dX12_init_385 : decode cX12_init 385 = .ok (.bipush 111, 2) := by decide +kernel
theorem dX12_init_387 : decode cX12_init 387 = .ok (.iastore, 1) := by decide +kernel
theorem dX12_init_388 : decode cX12_init 388 = .ok (.dup, 1) := by decide +kernel
theorem dX12_init_389 : decode cX12_init 389 = .ok (.bipush 16, 2) := by decide +kernel
theorem dX12_init_391 : decode cX12_init 391 = .ok (.bipush 108, 2) := by decide +kernel
theorem dX12_init_393 : decode cX12_init 393 = .ok (.iastore, 1) := by decide +kernel
theorem dX12_init_394 : decode cX12_init 394 = .ok (.dup, 1) := by decide +kernel
theorem dX12_init_395 : decode cX12_init 395 = .ok (.bipush 17, 2) := by decide +kernel
theorem dX12_init_397 : decode cX12_init 397 = .ok (.bipush 100, 2) := by decide +kernel
theorem dX12_init_399 : decode cX12_init 399 = .ok (.iastore, 1) := by decide +kernel
theorem dX12_init_400 : decode cX12_init 400 = .ok (.dup, 1) := by decide +kernel
theorem dX12_init_401 : decode cX12_init 401 = .ok (.bipush 18, 2) := by decide +kernel
theorem dX12_init_403 : decode cX12_init 403 = .ok (.bipush 32, 2) := by decide +kernel
theorem dX12_init_405 : decode cX12_init 405 = .ok (.iastore, 1) := by decide +kernel
theorem dX12_init_406 : decode cX12_init 406 = .ok (.dup, 1) := by decide +kernel
theorem dX12_init_407 : decode cX12_init 407 = .ok (.bipush 19, 2) := by decide +kernel
theorem dX12_init_409 : decode cX12_init 409 = .ok (.bipush 115, 2) := by decide +kernel
theorem dX12_init_411 : decode cX12_init 411 = .ok (.iastore, 1) := by decide +kernel
theorem dX12_init_412 : decode cX12_init 412 = .ok (.dup, 1) := by decide +kernel
theorem dX12_init_413 : decode cX12_init 413 = .ok (.bipush 20, 2) := by decide +kernel
theorem dX12_init_415 : decode cX12_init 415 = .ok (.bipush 112, 2) := by decide +kernel
theorem dX12_init_417 : decode cX12_init 417 = .ok (.iastore, 1) := by decide +kernel
theorem dX12_init_418 : decode cX12_init 418 = .ok (.dup, 1) := by decide +kernel
theorem dX12_init_419 : decode cX12_init 419 = .ok (.bipush 21, 2) := by decide +kernel
theorem dX12_init_421 : decode cX12_init 421 = .ok (.bipush 101, 2) := by decide +kernel
theorem dX12_init_423 : decode cX12_init 423 = .ok (.iastore, 1) := by decide +kernel
theorem dX12_init_424 : decode cX12_init 424 = .ok (.dup, 1) := by decide +kernel
theorem dX12_init_425 : decode cX12_init 425 = .ok (.bipush 22, 2) := by decide +kernel
theorem dX12_init_427 : decode cX12_init 427 = .ok (.bipush 101, 2) := by decide +kernel
theorem dX12_init_429 : decode cX12_init 429 = .ok (.iastore, 1) := by decide +kernel
theorem dX12_init_430 : decode cX12_init 430 = .ok (.dup, 1) := by decide +kernel
theorem dX12_init_431 : decode cX12_init 431 = .ok (.bipush 23, 2) := by decide +kernel
theorem dX12_init_433 : decode cX12_init 433 = .ok (.bipush 100, 2) := by decide +kernel
theorem dX12_init_435 : decode cX12_init 435 = .ok (.iastore, 1) := by decide +kernel
theorem dX12_init_436 : decode cX12_init 436 = .ok (.dup, 1) := by decide +kernel
theorem dX12_init_437 : decode cX12_init 437 = .ok (.bipush 24, 2) := by decide +kernel
theorem dX12_init_439 : decode cX12_init 439 = .ok (.bipush 32, 2) := by decide +kernel
theorem dX12_init_441 : decode cX12_init 441 = .ok (.iastore, 1) := by decide +kernel
theorem dX12_init_442 : decode cX12_init 442 = .ok (.dup, 1) := by decide +kernel
theorem dX12_init_443 : decode cX12_init 443 = .ok (.bipush 25, 2) := by decide +kernel
theorem dX12_init_445 : decode cX12_init 445 = .ok (.bipush 97, 2) := by decide +kernel
theorem dX12_init_447 : decode cX12_init 447 = .ok (.iastore, 1) := by decide +kernel
theorem dX12_init_448 : decode cX12_init 448 = .ok (.dup, 1) := by decide +kernel
theorem dX12_init_449 : decode cX12_init 449 = .ok (.bipush 26, 2) := by decide +kernel
theorem dX12_init_451 : decode cX12_init 451 = .ok (.bipush 103, 2) := by decide +kernel
theorem dX12_init_453 : decode cX12_init 453 = .ok (.iastore, 1) := by decide +kernel
theorem dX12_init_454 : decode cX12_init 454 = .ok (.dup, 1) := by decide +kernel
theorem dX12_init_455 : decode cX12_init 455 = .ok (.bipush 27, 2) := by decide +kernel
theorem dX12_init_457 : decode cX12_init 457 = .ok (.bipush 97, 2) := by decide +kernel
theorem dX12_init_459 : decode cX12_init 459 = .ok (.iastore, 1) := by decide +kernel
theorem dX12_init_460 : decode cX12_init 460 = .ok (.dup, 1) := by decide +kernel
theorem dX12_init_461 : decode cX12_init 461 = .ok (.bipush 28, 2) := by decide +kernel
theorem dX12_init_463 : decode cX12_init 463 = .ok (.bipush 105, 2) := by decide +kernel
theorem dX12_init_465 : decode cX12_init 465 = .ok (.iastore, 1) := by decide +kernel
theorem dX12_init_466 : decode cX12_init 466 = .ok (.dup, 1) := by decide +kernel
theorem dX12_init_467 : decode cX12_init 467 = .ok (.bipush 29, 2) := by decide +kernel
theorem dX12_init_469 : decode cX12_init 469 = .ok (.bipush 110, 2) := by decide +kernel
theorem dX12_init_471 : decode cX12_init 471 = .ok (.iastore, 1) := by decide +kernel
theorem dX12_init_472 : decode cX12_init 472 = .ok (.dup, 1) := by decide +kernel
theorem dX12_init_473 : decode cX12_init 473 = .ok (.bipush 30, 2) := by decide +kernel
theorem dX12_init_475 : decode cX12_init 475 = .ok (.bipush 32, 2) := by decide +kernel
theorem dX12_init_477 : decode cX12_init 477 = .ok (.iastore, 1) := by decide +kernel
theorem dX12_init_478 : decode cX12_init 478 = .ok (.dup, 1) := by decide +kernel
theorem dX12_init_479 : decode cX12_init 479 = .ok (.bipush 31, 2) := by decide +kernel
theorem dX12_init_481 : decode cX12_init 481 = .ok (.bipush 98, 2) := by decide +kernel
theorem dX12_init_483 : decode cX12_init 483 = .ok (.iastore, 1) := by decide +kernel
theorem dX12_init_484 : decode cX12_init 484 = .ok (.dup, 1) := by decide +kernel
theorem dX12_init_485 : decode cX12_init 485 = .ok (.bipush 32, 2) := by decide +kernel
theorem dX12_init_487 : decode cX12_init 487 = .ok (.bipush 101, 2) := by decide +kernel
theorem dX12_init_489 : decode cX12_init 489 = .ok (.iastore, 1) := by decide +kernel
theorem dX12_init_490 : decode cX12_init 490 = .ok (.dup, 1) := by decide +kernel
theorem dX12_init_491 : decode cX12_init 491 = .ok (.bipush 33, 2) := by decide +kernel
theorem dX12_init_493 : decode cX12_init 493 = .ok (.bipush 103, 2) := by decide +kernel
theorem dX12_init_495 : decode cX12_init 495 = .ok (.iastore, 1) := by decide +kernel
theorem dX12_init_496 : decode cX12_init 496 = .ok (.dup, 1) := by decide +kernel
theorem dX12_init_497 : decode cX12_init 497 = .ok (.bipush 34, 2) := by decide +kernel
theorem dX12_init_499 : decode cX12_init 499 = .ok (.bipush 105, 2) := by decide +kernel
theorem dX12_init_501 : decode cX12_init 501 = .ok (.iastore, 1) := by decide +kernel
theorem dX12_init_502 : decode cX12_init 502 = .ok (.dup, 1) := by decide +kernel
theorem dX12_init_503 : decode cX12_init 503 = .ok (.bipush 35, 2) := by decide +kernel
theorem dX12_init_505 : decode cX12_init 505 = .ok (.bipush 110, 2) := by decide +kernel
theorem dX12_init_507 : decode cX12_init 507 = .ok (.iastore, 1) := by decide +kernel
theorem dX12_init_508 : decode cX12_init 508 = .ok (.dup, 1) := by decide +kernel
theorem dX12_init_509 : decode cX12_init 509 = .ok (.bipush 36, 2) := by decide +kernel
theorem dX12_init_511 : decode cX12_init 511 = .ok (.bipush 32, 2) := by decide +kernel
theorem dX12_init_513 : decode cX12_init 513 = .ok (.iastore, 1) := by decide +kernel
theorem dX12_init_514 : decode cX12_init 514 = .ok (.dup, 1) := by decide +kernel
theorem dX12_init_515 : decode cX12_init 515 = .ok (.bipush 37, 2) := by decide +kernel
theorem dX12_init_517 : decode cX12_init 517 = .ok (.bipush 101, 2) := by decide +kernel
theorem dX12_init_519 : decode cX12_init 519 = .ok (.iastore, 1) := by decide +kernel
theorem dX12_init_520 : decode cX12_init 520 = .ok (.dup, 1) := by decide +kernel
theorem dX12_init_521 : decode cX12_init 521 = .ok (.bipush 38, 2) := by decide +kernel
theorem dX12_init_523 : decode cX12_init 523 = .ok (.bipush 110, 2) := by decide +kernel
theorem dX12_init_525 : decode cX12_init 525 = .ok (.iastore, 1) := by decide +kernel
theorem dX12_init_526 : decode cX12_init 526 = .ok (.dup, 1) := by decide +kernel
theorem dX12_init_527 : decode cX12_init 527 = .ok (.bipush 39, 2) := by decide +kernel
theorem dX12_init_529 : decode cX12_init 529 = .ok (.bipush 100, 2) := by decide +kernel
theorem dX12_init_531 : decode cX12_init 531 = .ok (.iastore, 1) := by decide +kernel
theorem dX12_init_532 : decode cX12_init 532 = .ok (.dup, 1) := by decide +kernel
theorem dX12_init_533 : decode cX12_init 533 = .ok (.bipush 40, 2) := by decide +kernel
theorem dX12_init_535 : decode cX12_init 535 = .ok (.bipush 32, 2) := by decide +kernel
theorem dX12_init_537 : decode cX12_init 537 = .ok (.iastore, 1) := by decide +kernel
theorem dX12_init_538 : decode cX12_init 538 = .ok (.dup, 1) := by decide +kernel
theorem dX12_init_539 : decode cX12_init 539 = .ok (.bipush 41, 2) := by decide +kernel
theorem dX12_init_541 : decode cX12_init 541 = .ok (.bipush 105, 2) := by decide +kernel
theorem dX12_init_543 : decode cX12_init 543 = .ok (.iastore, 1) := by decide +kernel
theorem dX12_init_544 : decode cX12_init 544 = .ok (.dup, 1) := by decide +kernel
theorem dX12_init_545 : decode cX12_init 545 = .ok (.bipush 42, 2) := by decide +kernel
theorem dX12_init_547 : decode cX12_init 547 = .ok (.bipush 102, 2) := by decide +kernel
theorem dX12_init_549 : decode cX12_init 549 = .ok (.iastore, 1) := by decide +kernel
theorem dX12_init_550 : decode cX12_init 550 = .ok (.dup, 1) := by decide +kernel
theorem dX12_init_551 : decode cX12_init 551 = .ok (.bipush 43, 2) := by decide +kernel
theorem dX12_init_553 : decode cX12_init 553 = .ok (.bipush 32, 2) := by decide +kernel
theorem dX12_init_555 : decode cX12_init 555 = .ok (.iastore, 1) := by decide +kernel
theorem dX12_init_556 : decode cX12_init 556 = .ok (.dup, 1) := by decide +kernel
theorem dX12_init_557 : decode cX12_init 557 = .ok (.bipush 44, 2) := by decide +kernel
theorem dX12_init_559 : decode cX12_init 559 = .ok (.bipush 101, 2) := by decide +kernel
theorem dX12_init_561 : decode cX12_init 561 = .ok (.iastore, 1) := by decide +kernel
theorem dX12_init_562 : decode cX12_init 562 = .ok (.dup, 1) := by decide +kernel
theorem dX12_init_563 : decode cX12_init 563 = .ok (.bipush 45, 2) := by decide +kernel
theorem dX12_init_565 : decode cX12_init 565 = .ok (.bipush 97, 2) := by decide +kernel
theorem dX12_init_567 : decode cX12_init 567 = .ok (.iastore, 1) := by decide +kernel
theorem dX12_init_568 : decode cX12_init 568 = .ok (.dup, 1) := by decide +kernel
theorem dX12_init_569 : decode cX12_init 569 = .ok (.bipush 46, 2) := by decide +kernel
theorem dX12_init_571 : decode cX12_init 571 = .ok (.bipush 115, 2) := by decide +kernel
theorem dX12_init_573 : decode cX12_init 573 = .ok (.iastore, 1) := by decide +kernel
theorem dX12_init_574 : decode cX12_init 574 = .ok (.dup, 1) := by decide +kernel
theorem dX12_init_575 : decode cX12_init 575 = .ok (.bipush 47, 2) := by decide +kernel
theorem dX12_init_577 : decode cX12_init 577 = .ok (.bipush 116, 2) := by decide +kernel
theorem dX12_init_579 : decode cX12_init 579 = .ok (.iastore, 1) := by decide +kernel
theorem dX12_init_580 : decode cX12_init 580 = .ok (.dup, 1) := by decide +kernel
theorem dX12_init_581 : decode cX12_init 581 = .ok (.bipush 48, 2) := by decide +kernel
theorem dX12_init_583 : decode cX12_init 583 = .ok (.bipush 32, 2) := by decide +kernel
theorem dX12_init_585 : decode cX12_init 585 = .ok (.iastore, 1) := by decide +kernel
theorem dX12_init_586 : decode cX12_init 586 = .ok (.dup, 1) := by decide +kernel
theorem dX12_init_587 : decode cX12_init 587 = .ok (.bipush 49, 2) := by decide +kernel
theorem dX12_init_589 : decode cX12_init 589 = .ok (.bipush 110, 2) := by decide +kernel
theorem dX12_init_591 : decode cX12_init 591 = .ok (.iastore, 1) := by decide +kernel
theorem dX12_init_592 : decode cX12_init 592 = .ok (.dup, 1) := by decide +kernel
theorem dX12_init_593 : decode cX12_init 593 = .ok (.bipush 50, 2) := by decide +kernel
theorem dX12_init_595 : decode cX12_init 595 = .ok (.bipush 111, 2) := by decide +kernel
theorem dX12_init_597 : decode cX12_init 597 = .ok (.iastore, 1) := by decide +kernel
theorem dX12_init_598 : decode cX12_init 598 = .ok (.dup, 1) := by decide +kernel
theorem dX12_init_599 : decode cX12_init 599 = .ok (.bipush 51, 2) := by decide +kernel
theorem dX12_init_601 : decode cX12_init 601 = .ok (.bipush 114, 2) := by decide +kernel
theorem dX12_init_603 : decode cX12_init 603 = .ok (.iastore, 1) := by decide +kernel
theorem dX12_init_604 : decode cX12_init 604 = .ok (.dup, 1) := by decide +kernel
theorem dX12_init_605 : decode cX12_init 605 = .ok (.bipush 52, 2) := by decide +kernel
theorem dX12_init_607 : decode cX12_init 607 = .ok (.bipush 116, 2) := by decide +kernel
theorem dX12_init_609 : decode cX12_init 609 = .ok (.iastore, 1) := by decide +kernel
theorem dX12_init_610 : decode cX12_init 610 = .ok (.dup, 1) := by decide +kernel
theorem dX12_init_611 : decode cX12_init 611 = .ok (.bipush 53, 2) := by decide +kernel
theorem dX12_init_613 : decode cX12_init 613 = .ok (.bipush 104, 2) := by decide +kernel
theorem dX12_init_615 : decode cX12_init 615 = .ok (.iastore, 1) := by decide +kernel
theorem dX12_init_616 : decode cX12_init 616 = .ok (.dup, 1) := by decide +kernel
theorem dX12_init_617 : decode cX12_init 617 = .ok (.bipush 54, 2) := by decide +kernel
theorem dX12_init_619 : decode cX12_init 619 = .ok (.bipush 32, 2) := by decide +kernel
theorem dX12_init_621 : decode cX12_init 621 = .ok (.iastore, 1) := by decide +kernel
theorem dX12_init_622 : decode cX12_init 622 = .ok (.dup, 1) := by decide +kernel
theorem dX12_init_623 : decode cX12_init 623 = .ok (.bipush 55, 2) := by decide +kernel
theorem dX12_init_625 : decode cX12_init 625 = .ok (.bipush 119, 2) := by decide +kernel
theorem dX12_init_627 : decode cX12_init 627 = .ok (.iastore, 1) := by decide +kernel
theorem dX12_init_628 : decode cX12_init 628 = .ok (.dup, 1) := by decide +kernel
theorem dX12_init_629 : decode cX12_init 629 = .ok (.bipush 56, 2) := by decide +kernel
theorem dX12_init_631 : decode cX12_init 631 = .ok (.bipush 101, 2) := by decide +kernel
theorem dX12_init_633 : decode cX12_init 633 = .ok (.iastore, 1) := by decide +kernel
theorem dX12_init_634 : decode cX12_init 634 = .ok (.dup, 1) := by decide +kernel
theorem dX12_init_635 : decode cX12_init 635 = .ok (.bipush 57, 2) := by decide +kernel
theorem dX12_init_637 : decode cX12_init 637 = .ok (.bipush 115, 2) := by decide +kernel
theorem dX12_init_639 : decode cX12_init 639 = .ok (.iastore, 1) := by decide +kernel
theorem dX12_init_640 : decode cX12_init 640 = .ok (.dup, 1) := by decide +kernel
theorem dX12_init_641 : decode cX12_init 641 = .ok (.bipush 58, 2) := by decide +kernel
theorem dX12_init_643 : decode cX12_init 643 = .ok (.bipush 116, 2) := by decide +kernel
theorem dX12_init_645 : decode cX12_init 645 = .ok (.iastore, 1) := by decide +kernel
theorem dX12_init_646 : decode cX12_init 646 = .ok (.dup, 1) := by decide +kernel
theorem dX12_init_647 : decode cX12_init 647 = .ok (.bipush 59, 2) := by decide +kernel
theorem dX12_init_649 : decode cX12_init 649 = .ok (.bipush 32, 2) := by decide +kernel
theorem dX12_init_651 : decode cX12_init 651 = .ok (.iastore, 1) := by decide +kernel
theorem dX12_init_652 : decode cX12_init 652 = .ok (.dup, 1) := by decide +kernel
theorem dX12_init_653 : decode cX12_init 653 = .ok (.bipush 60, 2) := by decide +kernel
theorem dX12_init_655 : decode cX12_init 655 = .ok (.bipush 115, 2) := by decide +kernel
theorem dX12_init_657 : decode cX12_init 657 = .ok (.iastore, 1) := by decide +kernel
theorem dX12_init_658 : decode cX12_init 658 = .ok (.dup, 1) := by decide +kernel
theorem dX12_init_659 : decode cX12_init 659 = .ok (.bipush 61, 2) := by decide +kernel
theorem dX12_init_661 : decode cX12_init 661 = .ok (.bipush 111, 2) := by decide +kernel
theorem dX12_init_663 : decode cX12_init 663 = .ok (.iastore, 1) := by decide +kernel
theorem dX12_init_664 : decode cX12_init 664 = .ok (.dup, 1) := by decide +kernel
theorem dX12_init_665 : decode cX12_init 665 = .ok (.bipush 62, 2) := by decide +kernel
theorem dX12_init_667 : decode cX12_init 667 = .ok (.bipush 117, 2) := by decide +kernel
theorem dX12_init_669 : decode cX12_init 669 = .ok (.iastore, 1) := by decide +kernel
theorem dX12_init_670 : decode cX12_init 670 = .ok (.dup, 1) := by decide +kernel
theorem dX12_init_671 : decode cX12_init 671 = .ok (.bipush 63, 2) := by decide +kernel
theorem dX12_init_673 : decode cX12_init 673 = .ok (.bipush 116, 2) := by decide +kernel
theorem dX12_init_675 : decode cX12_init 675 = .ok (.iastore, 1) := by decide +kernel
theorem dX12_init_676 : decode cX12_init 676 = .ok (.dup, 1) := by decide +kernel
theorem dX12_init_677 : decode cX12_init 677 = .ok (.bipush 64, 2) := by decide +kernel
theorem dX12_init_679 : decode cX12_init 679 = .ok (.bipush 104, 2) := by decide +kernel
theorem dX12_init_681 : decode cX12_init 681 = .ok (.iastore, 1) := by decide +kernel
theorem dX12_init_682 : decode cX12_init 682 = .ok (.dup, 1) := by decide +kernel
theorem dX12_init_683 : decode cX12_init 683 = .ok (.bipush 65, 2) := by decide +kernel
theorem dX12_init_685 : decode cX12_init 685 = .ok (.bipush 32, 2) := by decide +kernel
theorem dX12_init_687 : decode cX12_init 687 = .ok (.iastore, 1) := by decide +kernel
theorem dX12_init_688 : decode cX12_init 688 = .ok (.dup, 1) := by decide +kernel
theorem dX12_init_689 : decode cX12_init 689 = .ok (.bipush 66, 2) := by decide +kernel
theorem dX12_init_691 : decode cX12_init 691 = .ok (.bipush 104, 2) := by decide +kernel
theorem dX12_init_693 : decode cX12_init 693 = .ok (.iastore, 1) := by decide +kernel
theorem dX12_init_694 : decode cX12_init 694 = .ok (.dup, 1) := by decide +kernel
theorem dX12_init_695 : decode cX12_init 695 = .ok (.bipush 67, 2) := by decide +kernel
theorem dX12_init_697 : decode cX12_init 697 = .ok (.bipush 111, 2) := by decide +kernel
theorem dX12_init_699 : decode cX12_init 699 = .ok (.iastore, 1) := by decide +kernel
theorem dX12_init_700 : decode cX12_init 700 = .ok (.dup, 1) := by decide +kernel
theorem dX12_init_701 : decode cX12_init 701 = .ok (.bipush 68, 2) := by decide +kernel
theorem dX12_init_703 : decode cX12_init 703 = .ok (.bipush 116, 2) := by decide +kernel
theorem dX12_init_705 : decode cX12_init 705 = .ok (.iastore, 1) := by decide +kernel
theorem dX12_init_706 : decode cX12_init 706 = .ok (.dup, 1) := by decide +kernel
theorem dX12_init_707 : decode cX12_init 707 = .ok (.bipush 69, 2) := by decide +kernel
theorem dX12_init_709 : decode cX12_init 709 = .ok (.bipush 32, 2) := by decide +kernel
theorem dX12_init_711 : decode cX12_init 711 = .ok (.iastore, 1) := by decide +kernel
theorem dX12_init_712 : decode cX12_init 712 = .ok (.dup, 1) := by decide +kernel
theorem dX12_init_713 : decode cX12_init 713 = .ok (.bipush 70, 2) := by decide +kernel
theorem dX12_init_715 : decode cX12_init 715 = .ok (.bipush 120, 2) := by decide +kernel
theorem dX12_init_717 : decode cX12_init 717 = .ok (.iastore, 1) := by decide +kernel
theorem dX12_init_718 : decode cX12_init 718 = .ok (.dup, 1) := by decide +kernel
theorem dX12_init_719 : decode cX12_init 719 = .ok (.bipush 71, 2) := by decide +kernel
theorem dX12_init_721 : decode cX12_init 721 = .ok (.bipush 32, 2) := by decide +kernel
theorem dX12_init_723 : decode cX12_init 723 = .ok (.iastore, 1) := by decide +kernel
theorem dX12_init_724 : decode cX12_init 724 = .ok (.dup, 1) := by decide +kernel
theorem dX12_init_725 : decode cX12_init 725 = .ok (.bipush 72, 2) := by decide +kernel
theorem dX12_init_727 : decode cX12_init 727 = .ok (.bipush 121, 2) := by decide +kernel
theorem dX12_init_729 : decode cX12_init 729 = .ok (.iastore, 1) := by decide +kernel
theorem dX12_init_730 : decode cX12_init 730 = .ok (.dup, 1) := by decide +kernel
theorem dX12_init_731 : decode cX12_init 731 = .ok (.bipush 73, 2) := by decide +kernel
theorem dX12_init_733 : decode cX12_init 733 = .ok (.bipush 32, 2) := by decide +kernel
theorem dX12_init_735 : decode cX12_init 735 = .ok (.iastore, 1) := by decide +kernel
theorem dX12_init_736 : decode cX12_init 736 = .ok (.dup, 1) := by decide +kernel
theorem dX12_init_737 : decode cX12_init 737 = .ok (.bipush 74, 2) := by decide +kernel
theorem dX12_init_739 : decode cX12_init 739 = .ok (.bipush 116, 2) := by decide +kernel
theorem dX12_init_741 : decode cX12_init 741 = .ok (.iastore, 1) := by decide +kernel
theorem dX12_init_742 : decode cX12_init 742 = .ok (.dup, 1) := by decide +kernel
theorem dX12_init_743 : decode cX12_init 743 = .ok (.bipush 75, 2) := by decide +kernel
theorem dX12_init_745 : decode cX12_init 745 = .ok (.bipush 105, 2) := by decide +kernel
theorem dX12_init_747 : decode cX12_init 747 = .ok (.iastore, 1) := by decide +kernel
theorem dX12_init_748 : decode cX12_init 748 = .ok (.dup, 1) := by decide +kernel
theorem dX12_init_749 : decode cX12_init 749 = .ok (.bipush 76, 2) := by decide +kernel
theorem dX12_init_751 : decode cX12_init 751 = .ok (.bipush 99, 2) := by decide +kernel
theorem dX12_init_753 : decode cX12_init 753 = .ok (.iastore, 1) := by decide +kernel
theorem dX12_init_754 : decode cX12_init 754 = .ok (.dup, 1) := by decide +kernel
theorem dX12_init_755 : decode cX12_init 755 = .ok (.bipush 77, 2) := by decide +kernel
theorem dX12_init_757 : decode cX12_init 757 = .ok (.bipush 107, 2) := by decide +kernel
theorem dX12_init_759 : decode cX12_init 759 = .ok (.iastore, 1) := by decide +kernel
theorem dX12_init_760 : decode cX12_init 760 = .ok (.dup, 1) := by decide +kernel
theorem dX12_init_761 : decode cX12_init 761 = .ok (.bipush 78, 2) := by decide +kernel
theorem dX12_init_763 : decode cX12_init 763 = .ok (.bipush 32, 2) := by decide +kernel
theorem dX12_init_765 : decode cX12_init 765 = .ok (.iastore, 1) := by decide +kernel
theorem dX12_init_766 : decode cX12_init 766 = .ok (.dup, 1) := by decide +kernel
theorem dX12_init_767 : decode cX12_init 767 = .ok (.bipush 79, 2) := by decide +kernel
theorem dX12_init_769 : decode cX12_init 769 = .ok (.bipush 99, 2) := by decide +kernel
theorem dX12_init_771 : decode cX12_init 771 = .ok (.iastore, 1) := by decide +kernel
theorem dX12_init_772 : decode cX12_init 772 = .ok (.dup, 1) := by decide +kernel
theorem dX12_init_773 : decode cX12_init 773 = .ok (.bipush 80, 2) := by decide +kernel
theorem dX12_init_775 : decode cX12_init 775 = .ok (.bipush 117, 2) := by decide +kernel
theorem dX12_init_777 : decode cX12_init 777 = .ok (.iastore, 1) := by decide +kernel
theorem dX12_init_778 : decode cX12_init 778 = .ok (.dup, 1) := by decide +kernel
theorem dX12_init_779 : decode cX12_init 779 = .ok (.bipush 81, 2) := by decide +kernel
theorem dX12_init_781 : decode cX12_init 781 = .ok (.bipush 116, 2) := by decide +kernel
theorem dX12_init_783 : decode cX12_init 783 = .ok (.iastore, 1) := by decide +kernel
theorem dX12_init_784 : decode cX12_init 784 = .ok (.dup, 1) := by decide +kernel
theorem dX12_init_785 : decode cX12_init 785 = .ok (.bipush 82, 2) := by decide +kernel
theorem dX12_init_787 : decode cX12_init 787 = .ok (.bipush 32, 2) := by decide +kernel
theorem dX12_init_789 : decode cX12_init 789 = .ok (.iastore, 1) := by decide +kernel
theorem dX12_init_790 : decode cX12_init 790 = .ok (.putfield 98, 3) := by decide +kernel
theorem dX12_init_793 : decode cX12_init 793 = .ok (.aload_n 0, 1) := by decide +kernel
theorem dX12_init_794 : decode cX12_init 794 = .ok (.sipush 3600, 3) := by decide +kernel
theorem dX12_init_797 : decode cX12_init 797 = .ok (.newarray .int, 2) := by decide +kernel
theorem dX12_init_799 : decode cX12_init 799 = .ok (.putfield 101, 3) := by decide +kernel
theorem dX12_init_802 : decode cX12_init 802 = .ok (.aload_n 0, 1) := by decide +kernel
theorem dX12_init_803 : decode cX12_init 803 = .ok (.sipush 3600, 3) := by decide +kernel
theorem dX12_init_806 : decode cX12_init 806 = .ok (.newarray .int, 2) := by decide +kernel
theorem dX12_init_808 : decode cX12_init 808 = .ok (.putfield 104, 3) := by decide +kernel
theorem dX12_init_811 : decode cX12_init 811 = .ok (.aload_n 0, 1) := by decide +kernel
theorem dX12_init_812 : decode cX12_init 812 = .ok (.sipush 3600, 3) := by decide +kernel
theorem dX12_init_815 : decode cX12_init 815 = .ok (.newarray .int, 2) := by decide +kernel
theorem dX12_init_817 : decode cX12_init 817 = .ok (.putfield 107, 3) := by decide +kernel
theorem dX12_init_820 : decode cX12_init 820 = .ok (.aload_n 0, 1) := by decide +kernel
theorem dX12_init_821 : decode cX12_init 821 = .ok (.bipush 9, 2) := by decide +kernel
theorem dX12_init_823 : decode cX12_init 823 = .ok (.newarray .int, 2) := by decide +kernel
theorem dX12_init_825 : decode cX12_init 825 = .ok (.putfield 110, 3) := by decide +kernel
theorem dX12_init_828 : decode cX12_init 828 = .ok (.aload_n 0, 1) := by decide +kernel
theorem dX12_init_829 : decode cX12_init 829 = .ok (.sipush 3600, 3) := by decide +kernel
theorem dX12_init_832 : decode cX12_init 832 = .ok (.newarray .int, 2) := by decide +kernel
theorem dX12_init_834 : decode cX12_init 834 = .ok (.putfield 113, 3) := by decide +kernel
theorem dX12_init_837 : decode cX12_init 837 = .ok (.aload_n 0, 1) := by decide +kernel
theorem dX12_init_838 : decode cX12_init 838 = .ok (.sipush 3600, 3) := by decide +kernel
theorem dX12_init_841 : decode cX12_init 841 = .ok (.newarray .int, 2) := by decide +kernel
theorem dX12_init_843 : decode cX12_init 843 = .ok (.putfield 116, 3) := by decide +kernel
theorem dX12_init_846 : decode cX12_init 846 = .ok (.aload_n 0, 1) := by decide +kernel
theorem dX12_init_847 : decode cX12_init 847 = .ok (.sipush 3600, 3) := by decide +kernel
theorem dX12_init_850 : decode cX12_init 850 = .ok (.newarray .int, 2) := by decide +kernel
theorem dX12_init_852 : decode cX12_init 852 = .ok (.putfield 119, 3) := by decide +kernel
theorem dX12_init_855 : decode cX12_init 855 = .ok (.aload_n 0, 1) := by decide +kernel
theorem dX12_init_856 : decode cX12_init 856 = .ok (.sipush 3600, 3) := by decide +kernel
theorem dX12_init_859 : decode cX12_init 859 = .ok (.newarray .int, 2) := by decide +kernel
theorem dX12_init_861 : decode cX12_init 861 = .ok (.putfield 122, 3) := by decide +kernel
theorem dX12_init_864 : decode cX12_init 864 = .ok (.aload_n 0, 1) := by decide +kernel
theorem dX12_init_865 : decode cX12_init 865 = .ok (.sipush 3600, 3) := by decide +kernel
theorem dX12_init_868 : decode cX12_init 868 = .ok (.newarray .int, 2) := by decide +kernel
theorem dX12_init_870 : decode cX12_init 870 = .ok (.putfield 125, 3) := by decide +kernel
theorem dX12_init_873 : decode cX12_init 873 = .ok (.aload_n 0, 1) := by decide +kernel
theorem dX12_init_874 : decode cX12_init 874 = .ok (.sipush 3600, 3) := by decide +kernel
theorem dX12_init_877 : decode cX12_init 877 = .ok (.newarray .int, 2) := by decide +kernel
theorem dX12_init_879 : decode cX12_init 879 = .ok (.putfield 128, 3) := by decide +kernel
theorem dX12_init_882 : decode cX12_init 882 = .ok (.aload_n 0, 1) := by decide +kernel
theorem dX12_init_883 : decode cX12_init 883 = .ok (.iconst 4, 1) := by decide +kernel
theorem dX12_init_884 : decode cX12_init 884 = .ok (.newarray .int, 2) := by decide +kernel
theorem dX12_init_886 : decode cX12_init 886 = .ok (.putfield 131, 3) := by decide +kernel
theorem dX12_init_889 : decode cX12_init 889 = .ok (.aload_n 0, 1) := by decide +kernel
theorem dX12_init_890 : decode cX12_init 890 = .ok (.iconst (-1), 1) := by decide +kernel
theorem dX12_init_891 : decode cX12_init 891 = .ok (.putfield 134, 3) := by decide +kernel
theorem dX12_init_894 : decode cX12_init 894 = .ok (.aload_n 0, 1) := by decide +kernel
theorem dX12_init_895 : decode cX12_init 895 = .ok (.iconst 4, 1) := by decide +kernel
theorem dX12_init_896 : decode cX12_init 896 = .ok (.newarray .int, 2) := by decide +kernel
theorem dX12_init_898 : decode cX12_init 898 = .ok (.putfield 137, 3) := by decide +kernel
theorem dX12_init_901 : decode cX12_init 901 = .ok (.aload_n 0, 1) := by decide +kernel
theorem dX12_init_902 : decode cX12_init 902 = .ok (.bipush 6, 2) := by decide +kernel
theorem dX12_init_904 : decode cX12_init 904 = .ok (.newarray .int, 2) := by decide +kernel
theorem dX12_init_906 : decode cX12_init 906 = .ok (.putfield 140, 3) := by decide +kernel
theorem dX12_init_909 : decode cX12_init 909 = .ok (.aload_n 0, 1) := by decide +kernel
theorem dX12_init_910 : decode cX12_init 910 = .ok (.bipush 6, 2) := by decide +kernel
theorem dX12_init_912 : decode cX12_init 912 = .ok (.newarray .int, 2) := by decide +kernel
theorem dX12_init_914 : decode cX12_init 914 = .ok (.putfield 143, 3) := by decide +kernel
theorem dX12_init_917 : decode cX12_init 917 = .ok (.aload_n 0, 1) := by decide +kernel
theorem dX12_init_918 : decode cX12_init 918 = .ok (.bipush 6, 2) := by decide +kernel
theorem dX12_init_920 : decode cX12_init 920 = .ok (.newarray .int, 2) := by decide +kernel
theorem dX12_init_922 : decode cX12_init 922 = .ok (.putfield 146, 3) := by decide +kernel
theorem dX12_init_925 : decode cX12_init 925 = .ok (.aload_n 0, 1) := by decide +kernel
theorem dX12_init_926 : decode cX12_init 926 = .ok (.sipush 1681, 3) := by decide +kernel
theorem dX12_init_929 : decode cX12_init 929 = .ok (.newarray .int, 2) := by decide +kernel
theorem dX12_init_931 : decode cX12_init 931 = .ok (.putfield 149, 3) := by decide +kernel
theorem dX12_init_934 : decode cX12_init 934 = .ok (.aload_n 0, 1) := by decide +kernel
theorem dX12_init_935 : decode cX12_init 935 = .ok (.sipush 200, 3) := by decide +kernel
theorem dX12_init_938 : decode cX12_init 938 = .ok (.newarray .int, 2) := by decide +kernel
theorem dX12_init_940 : decode cX12_init 940 = .ok (.putfield 152, 3) := by decide +kernel
theorem dX12_init_943 : decode cX12_init 943 = .ok (.aload_n 0, 1) := by decide +kernel
theorem dX12_init_944 : decode cX12_init 944 = .ok (.sipush 200, 3) := by decide +kernel
theorem dX12_init_947 : decode cX12_init 947 = .ok (.newarray .int, 2) := by decide +kernel
theorem dX12_init_949 : decode cX12_init 949 = .ok (.putfield 155, 3) := by decide +kernel
theorem dX12_init_952 : decode cX12_init 952 = .ok (.aload_n 0, 1) := by decide +kernel
theorem dX12_init_953 : decode cX12_init 953 = .ok (.sipush 200, 3) := by decide +kernel
theorem dX12_init_956 : decode cX12_init 956 = .ok (.newarray .boolean, 2) := by decide +kernel
theorem dX12_init_958 : decode cX12_init 958 = .ok (.putfield 158, 3) := by decide +kernel
theorem dX12_init_961 : decode cX12_init 961 = .ok (.aload_n 0, 1) := by decide +kernel
theorem dX12_init_962 : decode cX12_init 962 = .ok (.sipush 200, 3) := by decide +kernel
theorem dX12_init_965 : decode cX12_init 965 = .ok (.newarray .int, 2) := by decide +kernel
theorem dX12_init_967 : decode cX12_init 967 = .ok (.putfield 161, 3) := by decide +kernel
theorem dX12_init_970 : decode cX12_init 970 = .ok (.aload_n 0, 1) := by decide +kernel
theorem dX12_init_971 : decode cX12_init 971 = .ok (.sipush 400, 3) := by decide +kernel
theorem dX12_init_974 : decode cX12_init 974 = .ok (.newarray .int, 2) := by decide +kernel
theorem dX12_init_976 : decode cX12_init 976 = .ok (.putfield 164, 3) := by decide +kernel
theorem dX12_init_979 : decode cX12_init 979 = .ok (.return_, 1) := by decide +kernel
theorem dX12_isIn_0 : decode cX12_isIn 0 = .ok (.iload_n 1, 1) := by decide +kernel
theorem dX12_isIn_1 : decode cX12_isIn 1 = .ok (.iload_n 2, 1) := by decide +kernel
theorem dX12_isIn_2 : decode cX12_isIn 2 = .ok (.if_icmp .lt 12, 3) := by decide +kernel
theorem dX12_isIn_5 : decode cX12_isIn 5 = .ok (.iload_n 1, 1) := by decide +kernel
theorem dX12_isIn_6 : decode cX12_isIn 6 = .ok (.iload_n 3, 1) := by decide +kernel
theorem dX12_isIn_7 : decode cX12_isIn 7 = .ok (.if_icmp .gt 7, 3) := by decide +kernel
theorem dX12_isIn_10 : decode cX12_isIn 10 = .ok (.iconst 1, 1) := by decide +kernel
theorem dX12_isIn_11 : decode cX12_isIn 11 = .ok (.goto 4, 3) := by decide +kernel
theorem dX12_isIn_14 : decode cX12_isIn 14 = .ok (.iconst 0, 1) := by decide +kernel
theorem dX12_isIn_15 : decode cX12_isIn 15 = .ok (.ireturn, 1) := by decide +kernel
theorem dX12_stuff_0 : decode cX12_stuff 0 = .ok (.aload_n 0, 1) := by decide +kernel
theorem dX12_stuff_1 : decode cX12_stuff 1 = .ok (.iconst 0, 1) := by decide +kernel
theorem dX12_stuff_2 : decode cX12_stuff 2 = .ok (.putfield 167, 3) := by decide +kernel
theorem dX12_stuff_5 : decode cX12_stuff 5 = .ok (.aload_n 0, 1) := by decide +kernel
theorem dX12_stuff_6 : decode cX12_stuff 6 = .ok (.iload_n 1, 1) := by decide +kernel
theorem dX12_stuff_7 : decode cX12_stuff 7 = .ok (.iconst 0, 1) := by decide +kernel
theorem dX12_stuff_8 : decode cX12_stuff 8 = .ok (.iconst 3, 1) := by decide +kernel
theorem dX12_stuff_9 : decode cX12_stuff 9 = .ok (.invokevirtual 170, 3) := by decide +kernel
theorem dX12_stuff_12 : decode cX12_stuff 12 = .ok (.ifCond .eq 51, 3) := by decide +kernel
theorem dX12_stuff_15 : decode cX12_stuff 15 = .ok (.aload_n 0, 1) := by decide +kernel
theorem dX12_stuff_16 : decode cX12_stuff 16 = .ok (.iload_n 2, 1) := by decide +kernel
theorem dX12_stuff_17 : decode cX12_stuff 17 = .ok (.iconst 1, 1) := by decide +kernel
theorem dX12_stuff_18 : decode cX12_stuff 18 = .ok (.sipush 999, 3) := by decide +kernel
theorem dX12_stuff_21 : decode cX12_stuff 21 = .ok (.invokevirtual 170, 3) := by decide +kernel
theorem dX12_stuff_24 : decode cX12_stuff 24 = .ok (.ifCond .eq 39, 3) := by decide +kernel
theorem dX12_stuff_27 : decode cX12_stuff 27 = .ok (.aload_n 0, 1) := by decide +kernel
theorem dX12_stuff_28 : decode cX12_stuff 28 = .ok (.iload_n 3, 1) := by decide +kernel
theorem dX12_stuff_29 : decode cX12_stuff 29 = .ok (.iconst 0, 1) := by decide +kernel
theorem dX12_stuff_30 : decode cX12_stuff 30 = .ok (.bipush 20, 2) := by decide +kernel
theorem dX12_stuff_32 : decode cX12_stuff 32 = .ok (.invokevirtual 170, 3) := by decide +kernel
theorem dX12_stuff_35 : decode cX12_stuff 35 = .ok (.ifCond .eq 28, 3) := by decide +kernel
theorem dX12_stuff_38 : decode cX12_stuff 38 = .ok (.aload_n 0, 1) := by decide +kernel
theorem dX12_stuff_39 : decode cX12_stuff 39 = .ok (.iload 4, 2) := by decide +kernel
theorem dX12_stuff_41 : decode cX12_stuff 41 = .ok (.iconst 0, 1) := by decide +kernel
theorem dX12_stuff_42 : decode cX12_stuff 42 = .ok (.bipush 20, 2) := by decide +kernel
theorem dX12_stuff_44 : decode cX12_stuff 44 = .ok (.invokevirtual 170, 3) := by decide +kernel
theorem dX12_stuff_47 : decode cX12_stuff 47 = .ok (.ifCond .eq 16, 3) := by decide +kernel
theorem dX12_stuff_50 : decode cX12_stuff 50 = .ok (.aload_n 0, 1) := by decide +kernel
theorem dX12_stuff_51 : decode cX12_stuff 51 = .ok (.iload 5, 2) := by decide +kernel
theorem dX12_stuff_53 : decode cX12_stuff 53 = .ok (.iconst 1, 1) := by decide +kernel
theorem dX12_stuff_54 : decode cX12_stuff 54 = .ok (.sipush 9999, 3) := by decide +kernel
theorem dX12_stuff_57 : decode cX12_stuff 57 = .ok (.invokevirtual 170, 3) := by decide +kernel
theorem dX12_stuff_60 : decode cX12_stuff 60 = .ok (.ifCond .ne 5, 3) := by decide +kernel
theorem dX12_stuff_63 : decode cX12_stuff 63 = .ok (.iconst 0, 1) := by decide +kernel
theorem dX12_stuff_64 : decode cX12_stuff 64 = .ok (.ireturn, 1) := by decide +kernel
theorem dX12_stuff_65 : decode cX12_stuff 65 = .ok (.aload_n 0, 1) := by decide +kernel
theorem dX12_stuff_66 : decode cX12_stuff 66 = .ok (.getfield 7, 3) := by decide +kernel
theorem dX12_stuff_69 : decode cX12_stuff 69 = .ok (.iload_n 1, 1) := by decide +kernel
theorem dX12_stuff_70 : decode cX12_stuff 70 = .ok (.iload_n 2, 1) := by decide +kernel
theorem dX12_stuff_71 : decode cX12_stuff 71 = .ok (.iastore, 1) := by decide +kernel
theorem dX12_stuff_72 : decode cX12_stuff 72 = .ok (.aload_n 0, 1) := by decide +kernel
theorem dX12_stuff_73 : decode cX12_stuff 73 = .ok (.getfield 13, 3) := by decide +kernel
theorem dX12_stuff_76 : decode cX12_stuff 76 = .ok (.iload_n 1, 1) := by decide +kernel
theorem dX12_stuff_77 : decode cX12_stuff 77 = .ok (.iload_n 3, 1) := by decide +kernel
theorem dX12_stuff_78 : decode cX12_stuff 78 = .ok (.iastore, 1) := by decide +kernel
theorem dX12_stuff_79 : decode cX12_stuff 79 = .ok (.aload_n 0, 1) := by decide +kernel
theorem dX12_stuff_80 : decode cX12_stuff 80 = .ok (.getfield 16, 3) := by decide +kernel
theorem dX12_stuff_83 : decode cX12_stuff 83 = .ok (.iload_n 1, 1) := by decide +kernel
theorem dX12_stuff_84 : decode cX12_stuff 84 = .ok (.iload 4, 2) := by decide +kernel
theorem dX12_stuff_86 : decode cX12_stuff 86 = .ok (.iastore, 1) := by decide +kernel
theorem dX12_stuff_87 : decode cX12_stuff 87 = .ok (.aload_n 0, 1) := by decide +kernel
theorem dX12_stuff_88 : decode cX12_stuff 88 = .ok (.getfield 19, 3) := by decide +kernel
theorem dX12_stuff_91 : decode cX12_stuff 91 = .ok (.iload_n 1, 1) := by decide +kernel
theorem dX12_stuff_92 : decode cX12_stuff 92 = .ok (.iload 5, 2) := by decide +kernel
theorem dX12_stuff_94 : decode cX12_stuff 94 = .ok (.iastore, 1) := by decide +kernel
theorem dX12_stuff_95 : decode cX12_stuff 95 = .ok (.iconst 1, 1) := by decide +kernel
theorem dX12_stuff_96 : decode cX12_stuff 96 = .ok (.ireturn, 1) := by decide +kernel
theorem dX12_plate_0 : decode cX12_plate 0 = .ok (.aload_n 0, 1) := by decide +kernel
theorem dX12_plate_1 : decode cX12_plate 1 = .ok (.iconst 0, 1) := by decide +kernel
theorem dX12_plate_2 : decode cX12_plate 2 = .ok (.putfield 167, 3) := by decide +kernel
theorem dX12_plate_5 : decode cX12_plate 5 = .ok (.aload_n 0, 1) := by decide +kernel
theorem dX12_plate_6 : decode cX12_plate 6 = .ok (.iload_n 1, 1) := by decide +kernel
theorem dX12_plate_7 : decode cX12_plate 7 = .ok (.iconst 1, 1) := by decide +kernel
theorem dX12_plate_8 : decode cX12_plate 8 = .ok (.bipush 16, 2) := by decide +kernel
theorem dX12_plate_10 : decode cX12_plate 10 = .ok (.invokevirtual 170, 3) := by decide +kernel
theorem dX12_plate_13 : decode cX12_plate 13 = .ok (.ifCond .eq 36, 3) := by decide +kernel
theorem dX12_plate_16 : decode cX12_plate 16 = .ok (.aload_n 0, 1) := by decide +kernel
theorem dX12_plate_17 : decode cX12_plate 17 = .ok (.iload_n 2, 1) := by decide +kernel
theorem dX12_plate_18 : decode cX12_plate 18 = .ok (.iconst 1, 1) := by decide +kernel
theorem dX12_plate_19 : decode cX12_plate 19 = .ok (.bipush 12, 2) := by decide +kernel
theorem dX12_plate_21 : decode cX12_plate 21 = .ok (.invokevirtual 170, 3) := by decide +kernel
theorem dX12_plate_24 : decode cX12_plate 24 = .ok (.ifCond .eq 25, 3) := by decide +kernel
theorem dX12_plate_27 : decode cX12_plate 27 = .ok (.aload_n 0, 1) := by decide +kernel
theorem dX12_plate_28 : decode cX12_plate 28 = .ok (.iload_n 3, 1) := by decide +kernel
theorem dX12_plate_29 : decode cX12_plate 29 = .ok (.iconst 0, 1) := by decide +kernel
theorem dX12_plate_30 : decode cX12_plate 30 = .ok (.iconst 3, 1) := by decide +kernel
theorem dX12_plate_31 : decode cX12_plate 31 = .ok (.invokevirtual 170, 3) := by decide +kernel
theorem dX12_plate_34 : decode cX12_plate 34 = .ok (.ifCond .eq 15, 3) := by decide +kernel
theorem dX12_plate_37 : decode cX12_plate 37 = .ok (.aload_n 0, 1) := by decide +kernel
theorem dX12_plate_38 : decode cX12_plate 38 = .ok (.iload 4, 2) := by decide +kernel
theorem dX12_plate_40 : decode cX12_plate 40 = .ok (.iconst 1, 1) := by decide +kernel
theorem dX12_plate_41 : decode cX12_plate 41 = .ok (.bipush 9, 2) := by decide +kernel
theorem dX12_plate_43 : decode cX12_plate 43 = .ok (.invokevirtual 170, 3) := by decide +kernel
theorem dX12_plate_46 : decode cX12_plate 46 = .ok (.ifCond .ne 5, 3) := by decide +kernel
theorem dX12_plate_49 : decode cX12_plate 49 = .ok (.iconst 0, 1) := by decide +kernel
theorem dX12_plate_50 : decode cX12_plate 50 = .ok (.ireturn, 1) := by decide +kernel
theorem dX12_plate_51 : decode cX12_plate 51 = .ok (.aload_n 0, 1) := by decide +kernel
theorem dX12_plate_52 : decode cX12_plate 52 = .ok (.iconst 1, 1) := by decide +kernel
theorem dX12_plate_53 : decode cX12_plate 53 = .ok (.putfield 174, 3) := by decide +kernel
theorem dX12_plate_56 : decode cX12_plate 56 = .ok (.aload_n 0, 1) := by decide +kernel
theorem dX12_plate_57 : decode cX12_plate 57 = .ok (.iload_n 1, 1) := by decide +kernel
theorem dX12_plate_58 : decode cX12_plate 58 = .ok (.putfield 177, 3) := by decide +kernel
theorem dX12_plate_61 : decode cX12_plate 61 = .ok (.aload_n 0, 1) := by decide +kernel
theorem dX12_plate_62 : decode cX12_plate 62 = .ok (.iload_n 2, 1) := by decide +kernel
theorem dX12_plate_63 : decode cX12_plate 63 = .ok (.putfield 180, 3) := by decide +kernel
theorem dX12_plate_66 : decode cX12_plate 66 = .ok (.aload_n 0, 1) := by decide +kernel
theorem dX12_plate_67 : decode cX12_plate 67 = .ok (.iload_n 3, 1) := by decide +kernel
theorem dX12_plate_68 : decode cX12_plate 68 = .ok (.putfield 183, 3) := by decide +kernel
theorem dX12_plate_71 : decode cX12_plate 71 = .ok (.aload_n 0, 1) := by decide +kernel
theorem dX12_plate_72 : decode cX12_plate 72 = .ok (.iload 4, 2) := by decide +kernel
theorem dX12_plate_74 : decode cX12_plate 74 = .ok (.putfield 186, 3) := by decide +kernel
theorem dX12_plate_77 : decode cX12_plate 77 = .ok (.iconst 0, 1) := by decide +kernel
theorem dX12_plate_78 : decode cX12_plate 78 = .ok (.istore 5, 2) := by decide +kernel
theorem dX12_plate_80 : decode cX12_plate 80 = .ok (.iload 5, 2) := by decide +kernel
theorem dX12_plate_82 : decode cX12_plate 82 = .ok (.sipush 192, 3) := by decide +kernel
theorem dX12_plate_85 : decode cX12_plate 85 = .ok (.if_icmp .ge 41, 3) := by decide +kernel
theorem dX12_plate_88 : decode cX12_plate 88 = .ok (.aload_n 0, 1) := by decide +kernel
theorem dX12_plate_89 : decode cX12_plate 89 = .ok (.getfield 33, 3) := by decide +kernel
theorem dX12_plate_92 : decode cX12_plate 92 = .ok (.iload 5, 2) := by decide +kernel
theorem dX12_plate_94 : decode cX12_plate 94 = .ok (.iconst 0, 1) := by decide +kernel
theorem dX12_plate_95 : decode cX12_plate 95 = .ok (.iastore, 1) := by decide +kernel
theorem dX12_plate_96 : decode cX12_plate 96 = .ok (.aload_n 0, 1) := by decide +kernel
theorem dX12_plate_97 : decode cX12_plate 97 = .ok (.getfield 39, 3) := by decide +kernel
theorem dX12_plate_100 : decode cX12_plate 100 = .ok (.iload 5, 2) := by decide +kernel
theorem dX12_plate_102 : decode cX12_plate 102 = .ok (.iconst 0, 1) := by decide +kernel
theorem dX12_plate_103 : decode cX12_plate 103 = .ok (.iastore, 1) := by decide +kernel
theorem dX12_plate_104 : decode cX12_plate 104 = .ok (.aload_n 0, 1) := by decide +kernel
theorem dX12_plate_105 : decode cX12_plate 105 = .ok (.getfield 42, 3) := by decide +kernel
theorem dX12_plate_108 : decode cX12_plate 108 = .ok (.iload 5, 2) := by decide +kernel
theorem dX12_plate_110 : decode cX12_plate 110 = .ok (.iconst 0, 1) := by decide +kernel
theorem dX12_plate_111 : decode cX12_plate 111 = .ok (.bastore, 1) := by decide +kernel
theorem dX12_plate_112 : decode cX12_plate 112 = .ok (.aload_n 0, 1) := by decide +kernel
theorem dX12_plate_113 : decode cX12_plate 113 = .ok (.getfield 46, 3) := by decide +kernel
theorem dX12_plate_116 : decode cX12_plate 116 = .ok (.iload 5, 2) := by decide +kernel
theorem dX12_plate_118 : decode cX12_plate 118 = .ok (.iconst 0, 1) := by decide +kernel
theorem dX12_plate_119 : decode cX12_plate 119 = .ok (.bastore, 1) := by decide +kernel
theorem dX12_plate_120 : decode cX12_plate 120 = .ok (.iinc 5 1, 3) := by decide +kernel
theorem dX12_plate_123 : decode cX12_plate 123 = .ok (.goto (-43), 3) := by decide +kernel
theorem dX12_plate_126 : decode cX12_plate 126 = .ok (.aload_n 0, 1) := by decide +kernel
theorem dX12_plate_127 : decode cX12_plate 127 = .ok (.getfield 49, 3) := by decide +kernel
theorem dX12_plate_130 : decode cX12_plate 130 = .ok (.iconst 0, 1) := by decide +kernel
theorem dX12_plate_131 : decode cX12_plate 131 = .ok (.iconst 0, 1) := by decide +kernel
theorem dX12_plate_132 : decode cX12_plate 132 = .ok (.iastore, 1) := by decide +kernel
theorem dX12_plate_133 : decode cX12_plate 133 = .ok (.aload_n 0, 1) := by decide +kernel
theorem dX12_plate_134 : decode cX12_plate 134 = .ok (.getfield 52, 3) := by decide +kernel
theorem dX12_plate_137 : decode cX12_plate 137 = .ok (.iconst 0, 1) := by decide +kernel
theorem dX12_plate_138 : decode cX12_plate 138 = .ok (.iconst 0, 1) := by decide +kernel
theorem dX12_plate_139 : decode cX12_plate 139 = .ok (.iastore, 1) := by decide +kernel
theorem dX12_plate_140 : decode cX12_plate 140 = .ok (.aload_n 0, 1) := by decide +kernel
theorem dX12_plate_141 : decode cX12_plate 141 = .ok (.getfield 55, 3) := by decide +kernel
theorem dX12_plate_144 : decode cX12_plate 144 = .ok (.iconst 0, 1) := by decide +kernel
theorem dX12_plate_145 : decode cX12_plate 145 = .ok (.iconst 0, 1) := by decide +kernel
theorem dX12_plate_146 : decode cX12_plate 146 = .ok (.bastore, 1) := by decide +kernel
theorem dX12_plate_147 : decode cX12_plate 147 = .ok (.aload_n 0, 1) := by decide +kernel
theorem dX12_plate_148 : decode cX12_plate 148 = .ok (.getfield 58, 3) := by decide +kernel
theorem dX12_plate_151 : decode cX12_plate 151 = .ok (.iconst 0, 1) := by decide +kernel
theorem dX12_plate_152 : decode cX12_plate 152 = .ok (.iconst 5, 1) := by decide +kernel
theorem dX12_plate_153 : decode cX12_plate 153 = .ok (.iastore, 1) := by decide +kernel
theorem dX12_plate_154 : decode cX12_plate 154 = .ok (.aload_n 0, 1) := by decide +kernel
theorem dX12_plate_155 : decode cX12_plate 155 = .ok (.getfield 61, 3) := by decide +kernel
theorem dX12_plate_158 : decode cX12_plate 158 = .ok (.iconst 0, 1) := by decide +kernel
theorem dX12_plate_159 : decode cX12_plate 159 = .ok (.iconst 0, 1) := by decide +kernel
theorem dX12_plate_160 : decode cX12_plate 160 = .ok (.iastore, 1) := by decide +kernel
theorem dX12_plate_161 : decode cX12_plate 161 = .ok (.aload_n 0, 1) := by decide +kernel
theorem dX12_plate_162 : decode cX12_plate 162 = .ok (.getfield 64, 3) := by decide +kernel
theorem dX12_plate_165 : decode cX12_plate 165 = .ok (.iconst 0, 1) := by decide +kernel
theorem dX12_plate_166 : decode cX12_plate 166 = .ok (.iconst 0, 1) := by decide +kernel
theorem dX12_plate_167 : decode cX12_plate 167 = .ok (.iastore, 1) := by decide +kernel
theorem dX12_plate_168 : decode cX12_plate 168 = .ok (.aload_n 0, 1) := by decide +kernel
theorem dX12_plate_169 : decode cX12_plate 169 = .ok (.getfield 67, 3) := by decide +kernel
theorem dX12_plate_172 : decode cX12_plate 172 = .ok (.iconst 0, 1) := by decide +kernel
theorem dX12_plate_173 : decode cX12_plate 173 = .ok (.iconst 0, 1) := by decide +kernel
theorem dX12_plate_174 : decode cX12_plate 174 = .ok (.iastore, 1) := by decide +kernel
theorem dX12_plate_175 : decode cX12_plate 175 = .ok (.aload_n 0, 1) := by decide +kernel
theorem dX12_plate_176 : decode cX12_plate 176 = .ok (.getfield 70, 3) := by decide +kernel
theorem dX12_plate_179 : decode cX12_plate 179 = .ok (.iconst 0, 1) := by decide +kernel
theorem dX12_plate_180 : decode cX12_plate 180 = .ok (.lconst 0, 1) := by decide +kernel
theorem dX12_plate_181 : decode cX12_plate 181 = .ok (.lastore, 1) := by decide +kernel
theorem dX12_plate_182 : decode cX12_plate 182 = .ok (.aload_n 0, 1) := by decide +kernel
theorem dX12_plate_183 : decode cX12_plate 183 = .ok (.getfield 74, 3) := by decide +kernel
theorem dX12_plate_186 : decode cX12_plate 186 = .ok (.iconst 0, 1) := by decide +kernel
theorem dX12_plate_187 : decode cX12_plate 187 = .ok (.lconst 0, 1) := by decide +kernel
theorem dX12_plate_188 : decode cX12_plate 188 = .ok (.lastore, 1) := by decide +kernel
theorem dX12_plate_189 : decode cX12_plate 189 = .ok (.aload_n 0, 1) := by decide +kernel
theorem dX12_plate_190 : decode cX12_plate 190 = .ok (.getfield 77, 3) := by decide +kernel
theorem dX12_plate_193 : decode cX12_plate 193 = .ok (.iconst 0, 1) := by decide +kernel
theorem dX12_plate_194 : decode cX12_plate 194 = .ok (.lconst 0, 1) := by decide +kernel
theorem dX12_plate_195 : decode cX12_plate 195 = .ok (.lastore, 1) := by decide +kernel
theorem dX12_plate_196 : decode cX12_plate 196 = .ok (.iconst 1, 1) := by decide +kernel
theorem dX12_plate_197 : decode cX12_plate 197 = .ok (.ireturn, 1) := by decide +kernel
theorem dX12_beam_0 : decode cX12_beam 0 = .ok (.aload_n 0, 1) := by decide +kernel
theorem dX12_beam_1 : decode cX12_beam 1 = .ok (.iconst 0, 1) := by decide +kernel
theorem dX12_beam_2 : decode cX12_beam 2 = .ok (.putfield 167, 3) := by decide +kernel
theorem dX12_beam_5 : decode cX12_beam 5 = .ok (.aload_n 0, 1) := by decide +kernel
theorem dX12_beam_6 : decode cX12_beam 6 = .ok (.iload_n 1, 1) := by decide +kernel
theorem dX12_beam_7 : decode cX12_beam 7 = .ok (.iconst 0, 1) := by decide +kernel
theorem dX12_beam_8 : decode cX12_beam 8 = .ok (.sipush 9999, 3) := by decide +kernel
theorem dX12_beam_11 : decode cX12_beam 11 = .ok (.invokevirtual 170, 3) := by decide +kernel
theorem dX12_beam_14 : decode cX12_beam 14 = .ok (.ifCond .ne 5, 3) := by decide +kernel
theorem dX12_beam_17 : decode cX12_beam 17 = .ok (.iconst 0, 1) := by decide +kernel
theorem dX12_beam_18 : decode cX12_beam 18 = .ok (.ireturn, 1) := by decide +kernel
theorem dX12_beam_19 : decode cX12_beam 19 = .ok (.aload_n 0, 1) := by decide +kernel
theorem dX12_beam_20 : decode cX12_beam 20 = .ok (.iload_n 1, 1) := by decide +kernel
theorem dX12_beam_21 : decode cX12_beam 21 = .ok (.putfield 22, 3) := by decide +kernel
theorem dX12_beam_24 : decode cX12_beam 24 = .ok (.aload_n 0, 1) := by decide +kernel
theorem dX12_beam_25 : decode cX12_beam 25 = .ok (.iload_n 2, 1) := by decide +kernel
theorem dX12_beam_26 : decode cX12_beam 26 = .ok (.putfield 26, 3) := by decide +kernel
theorem dX12_beam_29 : decode cX12_beam 29 = .ok (.iconst 1, 1) := by decide +kernel
theorem dX12_beam_30 : decode cX12_beam 30 = .ok (.ireturn, 1) := by decide +kernel
theorem dX12_pitch_0 : decode cX12_pitch 0 = .ok (.aload_n 0, 1) := by decide +kernel
theorem dX12_pitch_1 : decode cX12_pitch 1 = .ok (.iconst 0, 1) := by decide +kernel
theorem dX12_pitch_2 : decode cX12_pitch 2 = .ok (.putfield 167, 3) := by decide +kernel
theorem dX12_pitch_5 : decode cX12_pitch 5 = .ok (.aload_n 0, 1) := by decide +kernel
theorem dX12_pitch_6 : decode cX12_pitch 6 = .ok (.iload_n 1, 1) := by decide +kernel
theorem dX12_pitch_7 : decode cX12_pitch 7 = .ok (.iconst 2, 1) := by decide +kernel
theorem dX12_pitch_8 : decode cX12_pitch 8 = .ok (.bipush 9, 2) := by decide +kernel
theorem dX12_pitch_10 : decode cX12_pitch 10 = .ok (.invokevirtual 170, 3) := by decide +kernel
theorem dX12_pitch_13 : decode cX12_pitch 13 = .ok (.ifCond .ne 5, 3) := by decide +kernel
theorem dX12_pitch_16 : decode cX12_pitch 16 = .ok (.iconst 0, 1) := by decide +kernel
theorem dX12_pitch_17 : decode cX12_pitch 17 = .ok (.ireturn, 1) := by decide +kernel
theorem dX12_pitch_18 : decode cX12_pitch 18 = .ok (.aload_n 0, 1) := by decide +kernel
theorem dX12_pitch_19 : decode cX12_pitch 19 = .ok (.iload_n 1, 1) := by decide +kernel
theorem dX12_pitch_20 : decode cX12_pitch 20 = .ok (.putfield 30, 3) := by decide +kernel
theorem dX12_pitch_23 : decode cX12_pitch 23 = .ok (.iconst 1, 1) := by decide +kernel
theorem dX12_pitch_24 : decode cX12_pitch 24 = .ok (.ireturn, 1) := by decide +kernel
theorem dX12_isOnPlate_0 : decode cX12_isOnPlate 0 = .ok (.iload_n 1, 1) := by decide +kernel
theorem dX12_isOnPlate_1 : decode cX12_isOnPlate 1 = .ok (.ifCond .lt 27, 3) := by decide +kernel
theorem dX12_isOnPlate_4 : decode cX12_isOnPlate 4 = .ok (.iload_n 1, 1) := by decide +kernel
theorem dX12_isOnPlate_5 : decode cX12_isOnPlate 5 = .ok (.aload_n 0, 1) := by decide +kernel
theorem dX12_isOnPlate_6 : decode cX12_isOnPlate 6 = .ok (.getfield 177, 3) := by decide +kernel
theorem dX12_isOnPlate_9 : decode cX12_isOnPlate 9 = .ok (.if_icmp .ge 19, 3) := by decide +kernel
theorem dX12_isOnPlate_12 : decode cX12_isOnPlate 12 = .ok (.iload_n 2, 1) := by decide +kernel
theorem dX12_isOnPlate_13 : decode cX12_isOnPlate 13 = .ok (.ifCond .lt 15, 3) := by decide +kernel
theorem dX12_isOnPlate_16 : decode cX12_isOnPlate 16 = .ok (.iload_n 2, 1) := by decide +kernel
theorem dX12_isOnPlate_17 : decode cX12_isOnPlate 17 = .ok (.aload_n 0, 1) := by decide +kernel
theorem dX12_isOnPlate_18 : decode cX12_isOnPlate 18 = .ok (.getfield 180, 3) := by decide +kernel
theorem dX12_isOnPlate_21 : decode cX12_isOnPlate 21 = .ok (.if_icmp .ge 7, 3) := by decide +kernel
theorem dX12_isOnPlate_24 : decode cX12_isOnPlate 24 = .ok (.iconst 1, 1) := by decide +kernel
theorem dX12_isOnPlate_25 : decode cX12_isOnPlate 25 = .ok (.goto 4, 3) := by decide +kernel
theorem dX12_isOnPlate_28 : decode cX12_isOnPlate 28 = .ok (.iconst 0, 1) := by decide +kernel
theorem dX12_isOnPlate_29 : decode cX12_isOnPlate 29 = .ok (.ireturn, 1) := by decide +kernel
theorem dX12_isThere_0 : decode cX12_isThere 0 = .ok (.aload_n 0, 1) := by decide +kernel
theorem dX12_isThere_1 : decode cX12_isThere 1 = .ok (.iload_n 2, 1) := by decide +kernel
theorem dX12_isThere_2 : decode cX12_isThere 2 = .ok (.iload_n 3, 1) := by decide +kernel
theorem dX12_isThere_3 : decode cX12_isThere 3 = .ok (.invokevirtual 189, 3) := by decide +kernel
theorem dX12_isThere_6 : decode cX12_isThere 6 = .ok (.ifCond .eq 27, 3) := by decide +kernel
theorem dX12_isThere_9 : decode cX12_isThere 9 = .ok (.aload_n 0, 1) := by decide +kernel
theorem dX12_isThere_10 : decode cX12_isThere 10 = .ok (.getfield 39, 3) := by decide +kernel
theorem dX12_isThere_13 : decode cX12_isThere 13 = .ok (.sipush 192, 3) := by decide +kernel
theorem dX12_isThere_16 : decode cX12_isThere 16 = .ok (.iload_n 1, 1) := by decide +kernel
theorem dX12_isThere_17 : decode cX12_isThere 17 = .ok (.imul, 1) := by decide +kernel
theorem dX12_isThere_18 : decode cX12_isThere 18 = .ok (.bipush 16, 2) := by decide +kernel
theorem dX12_isThere_20 : decode cX12_isThere 20 = .ok (.iload_n 3, 1) := by decide +kernel
theorem dX12_isThere_21 : decode cX12_isThere 21 = .ok (.imul, 1) := by decide +kernel
theorem dX12_isThere_22 : decode cX12_isThere 22 = .ok (.iadd, 1) := by decide +kernel
theorem dX12_isThere_23 : decode cX12_isThere 23 = .ok (.iload_n 2, 1) := by decide +kernel
theorem dX12_isThere_24 : decode cX12_isThere 24 = .ok (.iadd, 1) := by decide +kernel
theorem dX12_isThere_25 : decode cX12_isThere 25 = .ok (.iaload, 1) := by decide +kernel
theorem dX12_isThere_26 : decode cX12_isThere 26 = .ok (.ifCond .ne 7, 3) := by decide +kernel
theorem dX12_isThere_29 : decode cX12_isThere 29 = .ok (.iconst 1, 1) := by decide +kernel
theorem dX12_isThere_30 : decode cX12_isThere 30 = .ok (.goto 4, 3) := by decide +kernel
theorem dX12_isThere_33 : decode cX12_isThere 33 = .ok (.iconst 0, 1) := by decide +kernel
theorem dX12_isThere_34 : decode cX12_isThere 34 = .ok (.ireturn, 1) := by decide +kernel
theorem dX12_copies_0 : decode cX12_copies 0 = .ok (.iconst 0, 1) := by decide +kernel
theorem dX12_copies_1 : decode cX12_copies 1 = .ok (.istore_n 1, 1) := by decide +kernel
theorem dX12_copies_2 : decode cX12_copies 2 = .ok (.iload_n 1, 1) := by decide +kernel
theorem dX12_copies_3 : decode cX12_copies 3 = .ok (.sipush 192, 3) := by decide +kernel
theorem dX12_copies_6 : decode cX12_copies 6 = .ok (.if_icmp .ge 73, 3) := by decide +kernel
theorem dX12_copies_9 : decode cX12_copies 9 = .ok (.aload_n 0, 1) := by decide +kernel
theorem dX12_copies_10 : decode cX12_copies 10 = .ok (.getfield 33, 3) := by decide +kernel
theorem dX12_copies_13 : decode cX12_copies 13 = .ok (.sipush 192, 3) := by decide +kernel
theorem dX12_copies_16 : decode cX12_copies 16 = .ok (.iload_n 1, 1) := by decide +kernel
theorem dX12_copies_17 : decode cX12_copies 17 = .ok (.iadd, 1) := by decide +kernel
theorem dX12_copies_18 : decode cX12_copies 18 = .ok (.aload_n 0, 1) := by decide +kernel
theorem dX12_copies_19 : decode cX12_copies 19 = .ok (.getfield 33, 3) := by decide +kernel
theorem dX12_copies_22 : decode cX12_copies 22 = .ok (.iload_n 1, 1) := by decide +kernel
theorem dX12_copies_23 : decode cX12_copies 23 = .ok (.iaload, 1) := by decide +kernel
theorem dX12_copies_24 : decode cX12_copies 24 = .ok (.iastore, 1) := by decide +kernel
theorem dX12_copies_25 : decode cX12_copies 25 = .ok (.aload_n 0, 1) := by decide +kernel
theorem dX12_copies_26 : decode cX12_copies 26 = .ok (.getfield 39, 3) := by decide +kernel
theorem dX12_copies_29 : decode cX12_copies 29 = .ok (.sipush 192, 3) := by decide +kernel
theorem dX12_copies_32 : decode cX12_copies 32 = .ok (.iload_n 1, 1) := by decide +kernel
theorem dX12_copies_33 : decode cX12_copies 33 = .ok (.iadd, 1) := by decide +kernel
theorem dX12_copies_34 : decode cX12_copies 34 = .ok (.aload_n 0, 1) := by decide +kernel
theorem dX12_copies_35 : decode cX12_copies 35 = .ok (.getfield 39, 3) := by decide +kernel
theorem dX12_copies_38 : decode cX12_copies 38 = .ok (.iload_n 1, 1) := by decide +kernel
theorem dX12_copies_39 : decode cX12_copies 39 = .ok (.iaload, 1) := by decide +kernel
theorem dX12_copies_40 : decode cX12_copies 40 = .ok (.iastore, 1) := by decide +kernel
theorem dX12_copies_41 : decode cX12_copies 41 = .ok (.aload_n 0, 1) := by decide +kernel
theorem dX12_copies_42 : decode cX12_copies 42 = .ok (.getfield 42, 3) := by decide +kernel
theorem dX12_copies_45 : decode cX12_copies 45 = .ok (.sipush 192, 3) := by decide +kernel
theorem dX12_copies_48 : decode cX12_copies 48 = .ok (.iload_n 1, 1) := by decide +kernel
theorem dX12_copies_49 : decode cX12_copies 49 = .ok (.iadd, 1) := by decide +kernel
theorem dX12_copies_50 : decode cX12_copies 50 = .ok (.aload_n 0, 1) := by decide +kernel
theorem dX12_copies_51 : decode cX12_copies 51 = .ok (.getfield 42, 3) := by decide +kernel
theorem dX12_copies_54 : decode cX12_copies 54 = .ok (.iload_n 1, 1) := by decide +kernel
theorem dX12_copies_55 : decode cX12_copies 55 = .ok (.baload, 1) := by decide +kernel
theorem dX12_copies_56 : decode cX12_copies 56 = .ok (.bastore, 1) := by decide +kernel
theorem dX12_copies_57 : decode cX12_copies 57 = .ok (.aload_n 0, 1) := by decide +kernel
theorem dX12_copies_58 : decode cX12_copies 58 = .ok (.getfield 46, 3) := by decide +kernel
theorem dX12_copies_61 : decode cX12_copies 61 = .ok (.sipush 192, 3) := by decide +kernel
theorem dX12_copies_64 : decode cX12_copies 64 = .ok (.iload_n 1, 1) := by decide +kernel
theorem dX12_copies_65 : decode cX12_copies 65 = .ok (.iadd, 1) := by decide +kernel
theorem dX12_copies_66 : decode cX12_copies 66 = .ok (.aload_n 0, 1) := by decide +kernel
theorem dX12_copies_67 : decode cX12_copies 67 = .ok (.getfield 46, 3) := by decide +kernel
theorem dX12_copies_70 : decode cX12_copies 70 = .ok (.iload_n 1, 1) := by decide +kernel
theorem dX12_copies_71 : decode cX12_copies 71 = .ok (.baload, 1) := by decide +kernel
theorem dX12_copies_72 : decode cX12_copies 72 = .ok (.bastore, 1) := by decide +kernel
theorem dX12_copies_73 : decode cX12_copies 73 = .ok (.iinc 1 1, 3) := by decide +kernel
theorem dX12_copies_76 : decode cX12_copies 76 = .ok (.goto (-74), 3) := by decide +kernel
theorem dX12_copies_79 : decode cX12_copies 79 = .ok (.aload_n 0, 1) := by decide +kernel
theorem dX12_copies_80 : decode cX12_copies 80 = .ok (.getfield 49, 3) := by decide +kernel
theorem dX12_copies_83 : decode cX12_copies 83 = .ok (.iconst 1, 1) := by decide +kernel
theorem dX12_copies_84 : decode cX12_copies 84 = .ok (.aload_n 0, 1) := by decide +kernel
theorem dX12_copies_85 : decode cX12_copies 85 = .ok (.getfield 49, 3) := by decide +kernel
theorem dX12_copies_88 : decode cX12_copies 88 = .ok (.iconst 0, 1) := by decide +kernel
theorem dX12_copies_89 : decode cX12_copies 89 = .ok (.iaload, 1) := by decide +kernel
theorem dX12_copies_90 : decode cX12_copies 90 = .ok (.iastore, 1) := by decide +kernel
theorem dX12_copies_91 : decode cX12_copies 91 = .ok (.aload_n 0, 1) := by decide +kernel
theorem dX12_copies_92 : decode cX12_copies 92 = .ok (.getfield 52, 3) := by decide +kernel
theorem dX12_copies_95 : decode cX12_copies 95 = .ok (.iconst 1, 1) := by decide +kernel
theorem dX12_copies_96 : decode cX12_copies 96 = .ok (.aload_n 0, 1) := by decide +kernel
theorem dX12_copies_97 : decode cX12_copies 97 = .ok (.getfield 52, 3) := by decide +kernel
theorem dX12_copies_100 : decode cX12_copies 100 = .ok (.iconst 0, 1) := by decide +kernel
theorem dX12_copies_101 : decode cX12_copies 101 = .ok (.iaload, 1) := by decide +kernel
theorem dX12_copies_102 : decode cX12_copies 102 = .ok (.iastore, 1) := by decide +kernel
theorem dX12_copies_103 : decode cX12_copies 103 = .ok (.aload_n 0, 1) := by decide +kernel
theorem dX12_copies_104 : decode cX12_copies 104 = .ok (.getfield 55, 3) := by decide +kernel
theorem dX12_copies_107 : decode cX12_copies 107 = .ok (.iconst 1, 1) := by decide +kernel
theorem dX12_copies_108 : decode cX12_copies 108 = .ok (.aload_n 0, 1) := by decide +kernel
theorem dX12_copies_109 : decode cX12_copies 109 = .ok (.getfield 55, 3) := by decide +kernel
theorem dX12_copies_112 : decode cX12_copies 112 = .ok (.iconst 0, 1) := by decide +kernel
theorem dX12_copies_113 : decode cX12_copies 113 = .ok (.baload, 1) := by decide +kernel
theorem dX12_copies_114 : decode cX12_copies 114 = .ok (.bastore, 1) := by decide +kernel
theorem dX12_copies_115 : decode cX12_copies 115 = .ok (.aload_n 0, 1) := by decide +kernel
theorem dX12_copies_116 : decode cX12_copies 116 = .ok (.getfield 58, 3) := by decide +kernel
theorem dX12_copies_119 : decode cX12_copies 119 = .ok (.iconst 1, 1) := by decide +kernel
theorem dX12_copies_120 : decode cX12_copies 120 = .ok (.aload_n 0, 1) := by decide +kernel
theorem dX12_copies_121 : decode cX12_copies 121 = .ok (.getfield 58, 3) := by decide +kernel
theorem dX12_copies_124 : decode cX12_copies 124 = .ok (.iconst 0, 1) := by decide +kernel
theorem dX12_copies_125 : decode cX12_copies 125 = .ok (.iaload, 1) := by decide +kernel
theorem dX12_copies_126 : decode cX12_copies 126 = .ok (.iastore, 1) := by decide +kernel
theorem dX12_copies_127 : decode cX12_copies 127 = .ok (.aload_n 0, 1) := by decide +kernel
theorem dX12_copies_128 : decode cX12_copies 128 = .ok (.getfield 61, 3) := by decide +kernel
theorem dX12_copies_131 : decode cX12_copies 131 = .ok (.iconst 1, 1) := by decide +kernel
theorem dX12_copies_132 : decode cX12_copies 132 = .ok (.aload_n 0, 1) := by decide +kernel
theorem dX12_copies_133 : decode cX12_copies 133 = .ok (.getfield 61, 3) := by decide +kernel
theorem dX12_copies_136 : decode cX12_copies 136 = .ok (.iconst 0, 1) := by decide +kernel
theorem dX12_copies_137 : decode cX12_copies 137 = .ok (.iaload, 1) := by decide +kernel
theorem dX12_copies_138 : decode cX12_copies 138 = .ok (.iastore, 1) := by decide +kernel
theorem dX12_copies_139 : decode cX12_copies 139 = .ok (.aload_n 0, 1) := by decide +kernel
theorem dX12_copies_140 : decode cX12_copies 140 = .ok (.getfield 64, 3) := by decide +kernel
theorem dX12_copies_143 : decode cX12_copies 143 = .ok (.iconst 1, 1) := by decide +kernel
theorem dX12_copies_144 : decode cX12_copies 144 = .ok (.aload_n 0, 1) := by decide +kernel
theorem dX12_copies_145 : decode cX12_copies 145 = .ok (.getfield 64, 3) := by decide +kernel
theorem dX12_copies_148 : decode cX12_copies 148 = .ok (.iconst 0, 1) := by decide +kernel
theorem dX12_copies_149 : decode cX12_copies 149 = .ok (.iaload, 1) := by decide +kernel
theorem dX12_copies_150 : decode cX12_copies 150 = .ok (.iastore, 1) := by decide +kernel
theorem dX12_copies_151 : decode cX12_copies 151 = .ok (.aload_n 0, 1) := by decide +kernel
theorem dX12_copies_152 : decode cX12_copies 152 = .ok (.getfield 67, 3) := by decide +kernel
theorem dX12_copies_155 : decode cX12_copies 155 = .ok (.iconst 1, 1) := by decide +kernel
theorem dX12_copies_156 : decode cX12_copies 156 = .ok (.aload_n 0, 1) := by decide +kernel
theorem dX12_copies_157 : decode cX12_copies 157 = .ok (.getfield 67, 3) := by decide +kernel
theorem dX12_copies_160 : decode cX12_copies 160 = .ok (.iconst 0, 1) := by decide +kernel
theorem dX12_copies_161 : decode cX12_copies 161 = .ok (.iaload, 1) := by decide +kernel
theorem dX12_copies_162 : decode cX12_copies 162 = .ok (.iastore, 1) := by decide +kernel
theorem dX12_copies_163 : decode cX12_copies 163 = .ok (.return_, 1) := by decide +kernel
theorem dX12_stepX_0 : decode cX12_stepX 0 = .ok (.iload_n 1, 1) := by decide +kernel
theorem dX12_stepX_1 : decode cX12_stepX 1 = .ok (.ifCond .ne 7, 3) := by decide +kernel
theorem dX12_stepX_4 : decode cX12_stepX 4 = .ok (.iconst 1, 1) := by decide +kernel
theorem dX12_stepX_5 : decode cX12_stepX 5 = .ok (.goto 13, 3) := by decide +kernel
theorem dX12_stepX_8 : decode cX12_stepX 8 = .ok (.iload_n 1, 1) := by decide +kernel
theorem dX12_stepX_9 : decode cX12_stepX 9 = .ok (.iconst 2, 1) := by decide +kernel
theorem dX12_stepX_10 : decode cX12_stepX 10 = .ok (.if_icmp .ne 7, 3) := by decide +kernel
theorem dX12_stepX_13 : decode cX12_stepX 13 = .ok (.iconst (-1), 1) := by decide +kernel
theorem dX12_stepX_14 : decode cX12_stepX 14 = .ok (.goto 4, 3) := by decide +kernel
theorem dX12_stepX_17 : decode cX12_stepX 17 = .ok (.iconst 0, 1) := by decide +kernel
theorem dX12_stepX_18 : decode cX12_stepX 18 = .ok (.ireturn, 1) := by decide +kernel
theorem dX12_stepY_0 : decode cX12_stepY 0 = .ok (.iload_n 1, 1) := by decide +kernel
theorem dX12_stepY_1 : decode cX12_stepY 1 = .ok (.iconst 1, 1) := by decide +kernel
theorem dX12_stepY_2 : decode cX12_stepY 2 = .ok (.if_icmp .ne 7, 3) := by decide +kernel
theorem dX12_stepY_5 : decode cX12_stepY 5 = .ok (.iconst 1, 1) := by decide +kernel
theorem dX12_stepY_6 : decode cX12_stepY 6 = .ok (.goto 13, 3) := by decide +kernel
theorem dX12_stepY_9 : decode cX12_stepY 9 = .ok (.iload_n 1, 1) := by decide +kernel
theorem dX12_stepY_10 : decode cX12_stepY 10 = .ok (.iconst 3, 1) := by decide +kernel
theorem dX12_stepY_11 : decode cX12_stepY 11 = .ok (.if_icmp .ne 7, 3) := by decide +kernel
theorem dX12_stepY_14 : decode cX12_stepY 14 = .ok (.iconst (-1), 1) := by decide +kernel
theorem dX12_stepY_15 : decode cX12_stepY 15 = .ok (.goto 4, 3) := by decide +kernel
theorem dX12_stepY_18 : decode cX12_stepY 18 = .ok (.iconst 0, 1) := by decide +kernel
theorem dX12_stepY_19 : decode cX12_stepY 19 = .ok (.ireturn, 1) := by decide +kernel
theorem dX12_flowFrom_0 : decode cX12_flowFrom 0 = .ok (.iload_n 2, 1) := by decide +kernel
theorem dX12_flowFrom_1 : decode cX12_flowFrom 1 = .ok (.aload_n 0, 1) := by decide +kernel
theorem dX12_flowFrom_2 : decode cX12_flowFrom 2 = .ok (.iload 4, 2) := by decide +kernel
theorem dX12_flowFrom_4 : decode cX12_flowFrom 4 = .ok (.invokevirtual 193, 3) := by decide +kernel
theorem dX12_flowFrom_7 : decode cX12_flowFrom 7 = .ok (.iadd, 1) := by decide +kernel
theorem dX12_flowFrom_8 : decode cX12_flowFrom 8 = .ok (.istore 5, 2) := by decide +kernel
theorem dX12_flowFrom_10 : decode cX12_flowFrom 10 = .ok (.iload_n 3, 1) := by decide +kernel
theorem dX12_flowFrom_11 : decode cX12_flowFrom 11 = .ok (.aload_n 0, 1) := by decide +kernel
theorem dX12_flowFrom_12 : decode cX12_flowFrom 12 = .ok (.iload 4, 2) := by decide +kernel
theorem dX12_flowFrom_14 : decode cX12_flowFrom 14 = .ok (.invokevirtual 197, 3) := by decide +kernel
theorem dX12_flowFrom_17 : decode cX12_flowFrom 17 = .ok (.iadd, 1) := by decide +kernel
theorem dX12_flowFrom_18 : decode cX12_flowFrom 18 = .ok (.istore 6, 2) := by decide +kernel
theorem dX12_flowFrom_20 : decode cX12_flowFrom 20 = .ok (.aload_n 0, 1) := by decide +kernel
theorem dX12_flowFrom_21 : decode cX12_flowFrom 21 = .ok (.iload_n 1, 1) := by decide +kernel
theorem dX12_flowFrom_22 : decode cX12_flowFrom 22 = .ok (.iload 5, 2) := by decide +kernel
theorem dX12_flowFrom_24 : decode cX12_flowFrom 24 = .ok (.iload 6, 2) := by decide +kernel
theorem dX12_flowFrom_26 : decode cX12_flowFrom 26 = .ok (.invokevirtual 200, 3) := by decide +kernel
theorem dX12_flowFrom_29 : decode cX12_flowFrom 29 = .ok (.ifCond .ne 5, 3) := by decide +kernel
theorem dX12_flowFrom_32 : decode cX12_flowFrom 32 = .ok (.iconst 0, 1) := by decide +kernel
theorem dX12_flowFrom_33 : decode cX12_flowFrom 33 = .ok (.ireturn, 1) := by decide +kernel
theorem dX12_flowFrom_34 : decode cX12_flowFrom 34 = .ok (.aload_n 0, 1) := by decide +kernel
theorem dX12_flowFrom_35 : decode cX12_flowFrom 35 = .ok (.getfield 33, 3) := by decide +kernel
theorem dX12_flowFrom_38 : decode cX12_flowFrom 38 = .ok (.sipush 192, 3) := by decide +kernel
theorem dX12_flowFrom_41 : decode cX12_flowFrom 41 = .ok (.iload_n 1, 1) := by decide +kernel
theorem dX12_flowFrom_42 : decode cX12_flowFrom 42 = .ok (.imul, 1) := by decide +kernel
theorem dX12_flowFrom_43 : decode cX12_flowFrom 43 = .ok (.bipush 16, 2) := by decide +kernel
theorem dX12_flowFrom_45 : decode cX12_flowFrom 45 = .ok (.iload 6, 2) := by decide +kernel
theorem dX12_flowFrom_47 : decode cX12_flowFrom 47 = .ok (.imul, 1) := by decide +kernel
theorem dX12_flowFrom_48 : decode cX12_flowFrom 48 = .ok (.iadd, 1) := by decide +kernel
theorem dX12_flowFrom_49 : decode cX12_flowFrom 49 = .ok (.iload 5, 2) := by decide +kernel
theorem dX12_flowFrom_51 : decode cX12_flowFrom 51 = .ok (.iadd, 1) := by decide +kernel
theorem dX12_flowFrom_52 : decode cX12_flowFrom 52 = .ok (.iaload, 1) := by decide +kernel
theorem dX12_flowFrom_53 : decode cX12_flowFrom 53 = .ok (.aload_n 0, 1) := by decide +kernel
theorem dX12_flowFrom_54 : decode cX12_flowFrom 54 = .ok (.getfield 33, 3) := by decide +kernel
theorem dX12_flowFrom_57 : decode cX12_flowFrom 57 = .ok (.sipush 192, 3) := by decide +kernel
theorem dX12_flowFrom_60 : decode cX12_flowFrom 60 = .ok (.iload_n 1, 1) := by decide +kernel
theorem dX12_flowFrom_61 : decode cX12_flowFrom 61 = .ok (.imul, 1) := by decide +kernel
theorem dX12_flowFrom_62 : decode cX12_flowFrom 62 = .ok (.bipush 16, 2) := by decide +kernel
theorem dX12_flowFrom_64 : decode cX12_flowFrom 64 = .ok (.iload_n 3, 1) := by decide +kernel
theorem dX12_flowFrom_65 : decode cX12_flowFrom 65 = .ok (.imul, 1) := by decide +kernel
theorem dX12_flowFrom_66 : decode cX12_flowFrom 66 = .ok (.iadd, 1) := by decide +kernel
theorem dX12_flowFrom_67 : decode cX12_flowFrom 67 = .ok (.iload_n 2, 1) := by decide +kernel
theorem dX12_flowFrom_68 : decode cX12_flowFrom 68 = .ok (.iadd, 1) := by decide +kernel
theorem dX12_flowFrom_69 : decode cX12_flowFrom 69 = .ok (.iaload, 1) := by decide +kernel
theorem dX12_flowFrom_70 : decode cX12_flowFrom 70 = .ok (.isub, 1) := by decide +kernel
theorem dX12_flowFrom_71 : decode cX12_flowFrom 71 = .ok (.aload_n 0, 1) := by decide +kernel
theorem dX12_flowFrom_72 : decode cX12_flowFrom 72 = .ok (.getfield 13, 3) := by decide +kernel
theorem dX12_flowFrom_75 : decode cX12_flowFrom 75 = .ok (.aload_n 0, 1) := by decide +kernel
theorem dX12_flowFrom_76 : decode cX12_flowFrom 76 = .ok (.getfield 183, 3) := by decide +kernel
theorem dX12_flowFrom_79 : decode cX12_flowFrom 79 = .ok (.iaload, 1) := by decide +kernel
theorem dX12_flowFrom_80 : decode cX12_flowFrom 80 = .ok (.imul, 1) := by decide +kernel
theorem dX12_flowFrom_81 : decode cX12_flowFrom 81 = .ok (.bipush 100, 2) := by decide +kernel
theorem dX12_flowFrom_83 : decode cX12_flowFrom 83 = .ok (.idiv, 1) := by decide +kernel
theorem dX12_flowFrom_84 : decode cX12_flowFrom 84 = .ok (.ireturn, 1) := by decide +kernel
theorem dX12_gives_0 : decode cX12_gives 0 = .ok (.aload_n 0, 1) := by decide +kernel
theorem dX12_gives_1 : decode cX12_gives 1 = .ok (.getfield 55, 3) := by decide +kernel
theorem dX12_gives_4 : decode cX12_gives 4 = .ok (.iload_n 1, 1) := by decide +kernel
theorem dX12_gives_5 : decode cX12_gives 5 = .ok (.baload, 1) := by decide +kernel
theorem dX12_gives_6 : decode cX12_gives 6 = .ok (.ifCond .eq 23, 3) := by decide +kernel
theorem dX12_gives_9 : decode cX12_gives 9 = .ok (.aload_n 0, 1) := by decide +kernel
theorem dX12_gives_10 : decode cX12_gives 10 = .ok (.iload_n 1, 1) := by decide +kernel
theorem dX12_gives_11 : decode cX12_gives 11 = .ok (.aload_n 0, 1) := by decide +kernel
theorem dX12_gives_12 : decode cX12_gives 12 = .ok (.getfield 49, 3) := by decide +kernel
theorem dX12_gives_15 : decode cX12_gives 15 = .ok (.iload_n 1, 1) := by decide +kernel
theorem dX12_gives_16 : decode cX12_gives 16 = .ok (.iaload, 1) := by decide +kernel
theorem dX12_gives_17 : decode cX12_gives 17 = .ok (.aload_n 0, 1) := by decide +kernel
theorem dX12_gives_18 : decode cX12_gives 18 = .ok (.getfield 52, 3) := by decide +kernel
theorem dX12_gives_21 : decode cX12_gives 21 = .ok (.iload_n 1, 1) := by decide +kernel
theorem dX12_gives_22 : decode cX12_gives 22 = .ok (.iaload, 1) := by decide +kernel
theorem dX12_gives_23 : decode cX12_gives 23 = .ok (.invokevirtual 200, 3) := by decide +kernel
theorem dX12_gives_26 : decode cX12_gives 26 = .ok (.ifCond .ne 4, 3) := by decide +kernel
theorem dX12_gives_29 : decode cX12_gives 29 = .ok (.return_, 1) := by decide +kernel
theorem dX12_gives_30 : decode cX12_gives 30 = .ok (.sipush 192, 3) := by decide +kernel
theorem dX12_gives_33 : decode cX12_gives 33 = .ok (.iload_n 1, 1) := by decide +kernel
theorem dX12_gives_34 : decode cX12_gives 34 = .ok (.imul, 1) := by decide +kernel
theorem dX12_gives_35 : decode cX12_gives 35 = .ok (.bipush 16, 2) := by decide +kernel
theorem dX12_gives_37 : decode cX12_gives 37 = .ok (.aload_n 0, 1) := by decide +kernel
theorem dX12_gives_38 : decode cX12_gives 38 = .ok (.getfield 52, 3) := by decide +kernel
theorem dX12_gives_41 : decode cX12_gives 41 = .ok (.iload_n 1, 1) := by decide +kernel
theorem dX12_gives_42 : decode cX12_gives 42 = .ok (.iaload, 1) := by decide +kernel
theorem dX12_gives_43 : decode cX12_gives 43 = .ok (.imul, 1) := by decide +kernel
theorem dX12_gives_44 : decode cX12_gives 44 = .ok (.iadd, 1) := by decide +kernel
theorem dX12_gives_45 : decode cX12_gives 45 = .ok (.aload_n 0, 1) := by decide +kernel
theorem dX12_gives_46 : decode cX12_gives 46 = .ok (.getfield 49, 3) := by decide +kernel
theorem dX12_gives_49 : decode cX12_gives 49 = .ok (.iload_n 1, 1) := by decide +kernel
theorem dX12_gives_50 : decode cX12_gives 50 = .ok (.iaload, 1) := by decide +kernel
theorem dX12_gives_51 : decode cX12_gives 51 = .ok (.iadd, 1) := by decide +kernel
theorem dX12_gives_52 : decode cX12_gives 52 = .ok (.istore_n 2, 1) := by decide +kernel
theorem dX12_gives_53 : decode cX12_gives 53 = .ok (.aload_n 0, 1) := by decide +kernel
theorem dX12_gives_54 : decode cX12_gives 54 = .ok (.getfield 70, 3) := by decide +kernel
theorem dX12_gives_57 : decode cX12_gives 57 = .ok (.iload_n 1, 1) := by decide +kernel
theorem dX12_gives_58 : decode cX12_gives 58 = .ok (.aload_n 0, 1) := by decide +kernel
theorem dX12_gives_59 : decode cX12_gives 59 = .ok (.getfield 70, 3) := by decide +kernel
theorem dX12_gives_62 : decode cX12_gives 62 = .ok (.iload_n 1, 1) := by decide +kernel
theorem dX12_gives_63 : decode cX12_gives 63 = .ok (.laload, 1) := by decide +kernel
theorem dX12_gives_64 : decode cX12_gives 64 = .ok (.aload_n 0, 1) := by decide +kernel
theorem dX12_gives_65 : decode cX12_gives 65 = .ok (.getfield 22, 3) := by decide +kernel
theorem dX12_gives_68 : decode cX12_gives 68 = .ok (.i2l, 1) := by decide +kernel
theorem dX12_gives_69 : decode cX12_gives 69 = .ok (.ladd, 1) := by decide +kernel
theorem dX12_gives_70 : decode cX12_gives 70 = .ok (.lastore, 1) := by decide +kernel
theorem dX12_gives_71 : decode cX12_gives 71 = .ok (.aload_n 0, 1) := by decide +kernel
theorem dX12_gives_72 : decode cX12_gives 72 = .ok (.getfield 33, 3) := by decide +kernel
theorem dX12_gives_75 : decode cX12_gives 75 = .ok (.iload_n 2, 1) := by decide +kernel
theorem dX12_gives_76 : decode cX12_gives 76 = .ok (.iaload, 1) := by decide +kernel
theorem dX12_gives_77 : decode cX12_gives 77 = .ok (.aload_n 0, 1) := by decide +kernel
theorem dX12_gives_78 : decode cX12_gives 78 = .ok (.getfield 22, 3) := by decide +kernel
theorem dX12_gives_81 : decode cX12_gives 81 = .ok (.iadd, 1) := by decide +kernel
theorem dX12_gives_82 : decode cX12_gives 82 = .ok (.istore_n 3, 1) := by decide +kernel
theorem dX12_gives_83 : decode cX12_gives 83 = .ok (.aload_n 0, 1) := by decide +kernel
theorem dX12_gives_84 : decode cX12_gives 84 = .ok (.getfield 33, 3) := by decide +kernel
theorem dX12_gives_87 : decode cX12_gives 87 = .ok (.iload_n 2, 1) := by decide +kernel
theorem dX12_gives_88 : decode cX12_gives 88 = .ok (.iload_n 3, 1) := by decide +kernel
theorem dX12_gives_89 : decode cX12_gives 89 = .ok (.ldc 203, 2) := by decide +kernel
theorem dX12_gives_91 : decode cX12_gives 91 = .ok (.if_icmp .le 8, 3) := by decide +kernel
theorem dX12_gives_94 : decode cX12_gives 94 = .ok (.ldc 203, 2) := by decide +kernel
theorem dX12_gives_96 : decode cX12_gives 96 = .ok (.goto 4, 3) := by decide +kernel
theorem dX12_gives_99 : decode cX12_gives 99 = .ok (.iload_n 3, 1) := by decide +kernel
theorem dX12_gives_100 : decode cX12_gives 100 = .ok (.iastore, 1) := by decide +kernel
theorem dX12_gives_101 : decode cX12_gives 101 = .ok (.aload_n 0, 1) := by decide +kernel
theorem dX12_gives_102 : decode cX12_gives 102 = .ok (.getfield 74, 3) := by decide +kernel
theorem dX12_gives_105 : decode cX12_gives 105 = .ok (.iload_n 1, 1) := by decide +kernel
theorem dX12_gives_106 : decode cX12_gives 106 = .ok (.aload_n 0, 1) := by decide +kernel
theorem dX12_gives_107 : decode cX12_gives 107 = .ok (.getfield 74, 3) := by decide +kernel
theorem dX12_gives_110 : decode cX12_gives 110 = .ok (.iload_n 1, 1) := by decide +kernel
theorem dX12_gives_111 : decode cX12_gives 111 = .ok (.laload, 1) := by decide +kernel
theorem dX12_gives_112 : decode cX12_gives 112 = .ok (.iload_n 3, 1) := by decide +kernel
theorem dX12_gives_113 : decode cX12_gives 113 = .ok (.i2l, 1) := by decide +kernel
theorem dX12_gives_114 : decode cX12_gives 114 = .ok (.ladd, 1) := by decide +kernel
theorem dX12_gives_115 : decode cX12_gives 115 = .ok (.aload_n 0, 1) := by decide +kernel
theorem dX12_gives_116 : decode cX12_gives 116 = .ok (.getfield 33, 3) := by decide +kernel
theorem dX12_gives_119 : decode cX12_gives 119 = .ok (.iload_n 2, 1) := by decide +kernel
theorem dX12_gives_120 : decode cX12_gives 120 = .ok (.iaload, 1) := by decide +kernel
theorem dX12_gives_121 : decode cX12_gives 121 = .ok (.i2l, 1) := by decide +kernel
theorem dX12_gives_122 : decode cX12_gives 122 = .ok (.lsub, 1) := by decide +kernel
theorem dX12_gives_123 : decode cX12_gives 123 = .ok (.lastore, 1) := by decide +kernel
theorem dX12_gives_124 : decode cX12_gives 124 = .ok (.return_, 1) := by decide +kernel
theorem dX12_leads_0 : decode cX12_leads 0 = .ok (.iconst 0, 1) := by decide +kernel
theorem dX12_leads_1 : decode cX12_leads 1 = .ok (.istore_n 2, 1) := by decide +kernel
theorem dX12_leads_2 : decode cX12_leads 2 = .ok (.iload_n 2, 1) := by decide +kernel
theorem dX12_leads_3 : decode cX12_leads 3 = .ok (.aload_n 0, 1) := by decide +kernel
theorem dX12_leads_4 : decode cX12_leads 4 = .ok (.getfield 180, 3) := by decide +kernel
theorem dX12_leads_7 : decode cX12_leads 7 = .ok (.if_icmp .ge 96, 3) := by decide +kernel
theorem dX12_leads_10 : decode cX12_leads 10 = .ok (.iconst 0, 1) := by decide +kernel
theorem dX12_leads_11 : decode cX12_leads 11 = .ok (.istore_n 3, 1) := by decide +kernel
theorem dX12_leads_12 : decode cX12_leads 12 = .ok (.iload_n 3, 1) := by decide +kernel
theorem dX12_leads_13 : decode cX12_leads 13 = .ok (.aload_n 0, 1) := by decide +kernel
theorem dX12_leads_14 : decode cX12_leads 14 = .ok (.getfield 177, 3) := by decide +kernel
theorem dX12_leads_17 : decode cX12_leads 17 = .ok (.if_icmp .ge 80, 3) := by decide +kernel
theorem dX12_leads_20 : decode cX12_leads 20 = .ok (.aload_n 0, 1) := by decide +kernel
theorem dX12_leads_21 : decode cX12_leads 21 = .ok (.getfield 33, 3) := by decide +kernel
theorem dX12_leads_24 : decode cX12_leads 24 = .ok (.sipush 192, 3) := by decide +kernel
theorem dX12_leads_27 : decode cX12_leads 27 = .ok (.iload_n 1, 1) := by decide +kernel
theorem dX12_leads_28 : decode cX12_leads 28 = .ok (.imul, 1) := by decide +kernel
theorem dX12_leads_29 : decode cX12_leads 29 = .ok (.bipush 16, 2) := by decide +kernel
theorem dX12_leads_31 : decode cX12_leads 31 = .ok (.iload_n 2, 1) := by decide +kernel
theorem dX12_leads_32 : decode cX12_leads 32 = .ok (.imul, 1) := by decide +kernel
theorem dX12_leads_33 : decode cX12_leads 33 = .ok (.iadd, 1) := by decide +kernel
theorem dX12_leads_34 : decode cX12_leads 34 = .ok (.iload_n 3, 1) := by decide +kernel
theorem dX12_leads_35 : decode cX12_leads 35 = .ok (.iadd, 1) := by decide +kernel
theorem dX12_leads_36 : decode cX12_leads 36 = .ok (.iaload, 1) := by decide +kernel
theorem dX12_leads_37 : decode cX12_leads 37 = .ok (.istore 4, 2) := by decide +kernel
theorem dX12_leads_39 : decode cX12_leads 39 = .ok (.iconst 0, 1) := by decide +kernel
theorem dX12_leads_40 : decode cX12_leads 40 = .ok (.istore 5, 2) := by decide +kernel
theorem dX12_leads_42 : decode cX12_leads 42 = .ok (.iload 5, 2) := by decide +kernel
theorem dX12_leads_44 : decode cX12_leads 44 = .ok (.iconst 4, 1) := by decide +kernel
theorem dX12_leads_45 : decode cX12_leads 45 = .ok (.if_icmp .ge 33, 3) := by decide +kernel
theorem dX12_leads_48 : decode cX12_leads 48 = .ok (.aload_n 0, 1) := by decide +kernel
theorem dX12_leads_49 : decode cX12_leads 49 = .ok (.iload_n 1, 1) := by decide +kernel
theorem dX12_leads_50 : decode cX12_leads 50 = .ok (.iload_n 3, 1) := by decide +kernel
theorem dX12_leads_51 : decode cX12_leads 51 = .ok (.iload_n 2, 1) := by decide +kernel
theorem dX12_leads_52 : decode cX12_leads 52 = .ok (.invokevirtual 200, 3) := by decide +kernel
theorem dX12_leads_55 : decode cX12_leads 55 = .ok (.ifCond .eq 23, 3) := by decide +kernel
theorem dX12_leads_58 : decode cX12_leads 58 = .ok (.iload 4, 2) := by decide +kernel
theorem dX12_leads_60 : decode cX12_leads 60 = .ok (.aload_n 0, 1) := by decide +kernel
theorem dX12_leads_61 : decode cX12_leads 61 = .ok (.iload_n 1, 1) := by decide +kernel
theorem dX12_leads_62 : decode cX12_leads 62 = .ok (.iload_n 3, 1) := by decide +kernel
theorem dX12_leads_63 : decode cX12_leads 63 = .ok (.iload_n 2, 1) := by decide +kernel
theorem dX12_leads_64 : decode cX12_leads 64 = .ok (.iload 5, 2) := by decide +kernel
theorem dX12_leads_66 : decode cX12_leads 66 = .ok (.invokevirtual 204, 3) := by decide +kernel
theorem dX12_leads_69 : decode cX12_leads 69 = .ok (.iadd, 1) := by decide +kernel
theorem dX12_leads_70 : decode cX12_leads 70 = .ok (.istore 4, 2) := by decide +kernel
theorem dX12_leads_72 : decode cX12_leads 72 = .ok (.iinc 5 1, 3) := by decide +kernel
theorem dX12_leads_75 : decode cX12_leads 75 = .ok (.goto (-33), 3) := by decide +kernel
theorem dX12_leads_78 : decode cX12_leads 78 = .ok (.aload_n 0, 1) := by decide +kernel
theorem dX12_leads_79 : decode cX12_leads 79 = .ok (.getfield 36, 3) := by decide +kernel
theorem dX12_leads_82 : decode cX12_leads 82 = .ok (.bipush 16, 2) := by decide +kernel
theorem dX12_leads_84 : decode cX12_leads 84 = .ok (.iload_n 2, 1) := by decide +kernel
theorem dX12_leads_85 : decode cX12_leads 85 = .ok (.imul, 1) := by decide +kernel
theorem dX12_leads_86 : decode cX12_leads 86 = .ok (.iload_n 3, 1) := by decide +kernel
theorem dX12_leads_87 : decode cX12_leads 87 = .ok (.iadd, 1) := by decide +kernel
theorem dX12_leads_88 : decode cX12_leads 88 = .ok (.iload 4, 2) := by decide +kernel
theorem dX12_leads_90 : decode cX12_leads 90 = .ok (.iastore, 1) := by decide +kernel
theorem dX12_leads_91 : decode cX12_leads 91 = .ok (.iinc 3 1, 3) := by decide +kernel
theorem dX12_leads_94 : decode cX12_leads 94 = .ok (.goto (-82), 3) := by decide +kernel
theorem dX12_leads_97 : decode cX12_leads 97 = .ok (.iinc 2 1, 3) := by decide +kernel
theorem dX12_leads_100 : decode cX12_leads 100 = .ok (.goto (-98), 3) := by decide +kernel
theorem dX12_leads_103 : decode cX12_leads 103 = .ok (.iconst 0, 1) := by decide +kernel
theorem dX12_leads_104 : decode cX12_leads 104 = .ok (.istore_n 2, 1) := by decide +kernel
theorem dX12_leads_105 : decode cX12_leads 105 = .ok (.iload_n 2, 1) := by decide +kernel
theorem dX12_leads_106 : decode cX12_leads 106 = .ok (.aload_n 0, 1) := by decide +kernel
theorem dX12_leads_107 : decode cX12_leads 107 = .ok (.getfield 180, 3) := by decide +kernel
theorem dX12_leads_110 : decode cX12_leads 110 = .ok (.if_icmp .ge 111, 3) := by decide +kernel
theorem dX12_leads_113 : decode cX12_leads 113 = .ok (.iconst 0, 1) := by decide +kernel
theorem dX12_leads_114 : decode cX12_leads 114 = .ok (.istore_n 3, 1) := by decide +kernel
theorem dX12_leads_115 : decode cX12_leads 115 = .ok (.iload_n 3, 1) := by decide +kernel
theorem dX12_leads_116 : decode cX12_leads 116 = .ok (.aload_n 0, 1) := by decide +kernel
theorem dX12_leads_117 : decode cX12_leads 117 = .ok (.getfield 177, 3) := by decide +kernel
theorem dX12_leads_120 : decode cX12_leads 120 = .ok (.if_icmp .ge 95, 3) := by decide +kernel
theorem dX12_leads_123 : decode cX12_leads 123 = .ok (.aload_n 0, 1) := by decide +kernel
theorem dX12_leads_124 : decode cX12_leads 124 = .ok (.iload_n 1, 1) := by decide +kernel
theorem dX12_leads_125 : decode cX12_leads 125 = .ok (.iload_n 3, 1) := by decide +kernel
theorem dX12_leads_126 : decode cX12_leads 126 = .ok (.iload_n 2, 1) := by decide +kernel
theorem dX12_leads_127 : decode cX12_leads 127 = .ok (.invokevirtual 200, 3) := by decide +kernel
theorem dX12_leads_130 : decode cX12_leads 130 = .ok (.ifCond .ne 6, 3) := by decide +kernel
theorem dX12_leads_133 : decode cX12_leads 133 = .ok (.goto 76, 3) := by decide +kernel
theorem dX12_leads_136 : decode cX12_leads 136 = .ok (.aload_n 0, 1) := by decide +kernel
theorem dX12_leads_137 : decode cX12_leads 137 = .ok (.getfield 36, 3) := by decide +kernel
theorem dX12_leads_140 : decode cX12_leads 140 = .ok (.bipush 16, 2) := by decide +kernel
theorem dX12_leads_142 : decode cX12_leads 142 = .ok (.iload_n 2, 1) := by decide +kernel
theorem dX12_leads_143 : decode cX12_leads 143 = .ok (.imul, 1) := by decide +kernel
theorem dX12_leads_144 : decode cX12_leads 144 = .ok (.iload_n 3, 1) := by decide +kernel
theorem dX12_leads_145 : decode cX12_leads 145 = .ok (.iadd, 1) := by decide +kernel
theorem dX12_leads_146 : decode cX12_leads 146 = .ok (.iaload, 1) := by decide +kernel
theorem dX12_leads_147 : decode cX12_leads 147 = .ok (.aload_n 0, 1) := by decide +kernel
theorem dX12_leads_148 : decode cX12_leads 148 = .ok (.getfield 16, 3) := by decide +kernel
theorem dX12_leads_151 : decode cX12_leads 151 = .ok (.aload_n 0, 1) := by decide +kernel
theorem dX12_leads_152 : decode cX12_leads 152 = .ok (.getfield 183, 3) := by decide +kernel
theorem dX12_leads_155 : decode cX12_leads 155 = .ok (.iaload, 1) := by decide +kernel
theorem dX12_leads_156 : decode cX12_leads 156 = .ok (.imul, 1) := by decide +kernel
theorem dX12_leads_157 : decode cX12_leads 157 = .ok (.bipush 100, 2) := by decide +kernel
theorem dX12_leads_159 : decode cX12_leads 159 = .ok (.idiv, 1) := by decide +kernel
theorem dX12_leads_160 : decode cX12_leads 160 = .ok (.istore 4, 2) := by decide +kernel
theorem dX12_leads_162 : decode cX12_leads 162 = .ok (.aload_n 0, 1) := by decide +kernel
theorem dX12_leads_163 : decode cX12_leads 163 = .ok (.getfield 33, 3) := by decide +kernel
theorem dX12_leads_166 : decode cX12_leads 166 = .ok (.sipush 192, 3) := by decide +kernel
theorem dX12_leads_169 : decode cX12_leads 169 = .ok (.iload_n 1, 1) := by decide +kernel
theorem dX12_leads_170 : decode cX12_leads 170 = .ok (.imul, 1) := by decide +kernel
theorem dX12_leads_171 : decode cX12_leads 171 = .ok (.bipush 16, 2) := by decide +kernel
theorem dX12_leads_173 : decode cX12_leads 173 = .ok (.iload_n 2, 1) := by decide +kernel
theorem dX12_leads_174 : decode cX12_leads 174 = .ok (.imul, 1) := by decide +kernel
theorem dX12_leads_175 : decode cX12_leads 175 = .ok (.iadd, 1) := by decide +kernel
theorem dX12_leads_176 : decode cX12_leads 176 = .ok (.iload_n 3, 1) := by decide +kernel
theorem dX12_leads_177 : decode cX12_leads 177 = .ok (.iadd, 1) := by decide +kernel
theorem dX12_leads_178 : decode cX12_leads 178 = .ok (.aload_n 0, 1) := by decide +kernel
theorem dX12_leads_179 : decode cX12_leads 179 = .ok (.getfield 36, 3) := by decide +kernel
theorem dX12_leads_182 : decode cX12_leads 182 = .ok (.bipush 16, 2) := by decide +kernel
theorem dX12_leads_184 : decode cX12_leads 184 = .ok (.iload_n 2, 1) := by decide +kernel
theorem dX12_leads_185 : decode cX12_leads 185 = .ok (.imul, 1) := by decide +kernel
theorem dX12_leads_186 : decode cX12_leads 186 = .ok (.iload_n 3, 1) := by decide +kernel
theorem dX12_leads_187 : decode cX12_leads 187 = .ok (.iadd, 1) := by decide +kernel
theorem dX12_leads_188 : decode cX12_leads 188 = .ok (.iaload, 1) := by decide +kernel
theorem dX12_leads_189 : decode cX12_leads 189 = .ok (.iload 4, 2) := by decide +kernel
theorem dX12_leads_191 : decode cX12_leads 191 = .ok (.isub, 1) := by decide +kernel
theorem dX12_leads_192 : decode cX12_leads 192 = .ok (.iastore, 1) := by decide +kernel
theorem dX12_leads_193 : decode cX12_leads 193 = .ok (.aload_n 0, 1) := by decide +kernel
theorem dX12_leads_194 : decode cX12_leads 194 = .ok (.getfield 74, 3) := by decide +kernel
theorem dX12_leads_197 : decode cX12_leads 197 = .ok (.iload_n 1, 1) := by decide +kernel
theorem dX12_leads_198 : decode cX12_leads 198 = .ok (.aload_n 0, 1) := by decide +kernel
theorem dX12_leads_199 : decode cX12_leads 199 = .ok (.getfield 74, 3) := by decide +kernel
theorem dX12_leads_202 : decode cX12_leads 202 = .ok (.iload_n 1, 1) := by decide +kernel
theorem dX12_leads_203 : decode cX12_leads 203 = .ok (.laload, 1) := by decide +kernel
theorem dX12_leads_204 : decode cX12_leads 204 = .ok (.iload 4, 2) := by decide +kernel
theorem dX12_leads_206 : decode cX12_leads 206 = .ok (.i2l, 1) := by decide +kernel
theorem dX12_leads_207 : decode cX12_leads 207 = .ok (.ladd, 1) := by decide +kernel
theorem dX12_leads_208 : decode cX12_leads 208 = .ok (.lastore, 1) := by decide +kernel
theorem dX12_leads_209 : decode cX12_leads 209 = .ok (.iinc 3 1, 3) := by decide +kernel
theorem dX12_leads_212 : decode cX12_leads 212 = .ok (.goto (-97), 3) := by decide +kernel
theorem dX12_leads_215 : decode cX12_leads 215 = .ok (.iinc 2 1, 3) := by decide +kernel
theorem dX12_leads_218 : decode cX12_leads 218 = .ok (.goto (-113), 3) := by decide +kernel
theorem dX12_leads_221 : decode cX12_leads 221 = .ok (.return_, 1) := by decide +kernel
theorem dX12_goesAway_0 : decode cX12_goesAway 0 = .ok (.aload_n 0, 1) := by decide +kernel
theorem dX12_goesAway_1 : decode cX12_goesAway 1 = .ok (.getfield 77, 3) := by decide +kernel
theorem dX12_goesAway_4 : decode cX12_goesAway 4 = .ok (.iload_n 2, 1) := by decide +kernel
theorem dX12_goesAway_5 : decode cX12_goesAway 5 = .ok (.aload_n 0, 1) := by decide +kernel
theorem dX12_goesAway_6 : decode cX12_goesAway 6 = .ok (.getfield 77, 3) := by decide +kernel
theorem dX12_goesAway_9 : decode cX12_goesAway 9 = .ok (.iload_n 2, 1) := by decide +kernel
theorem dX12_goesAway_10 : decode cX12_goesAway 10 = .ok (.laload, 1) := by decide +kernel
theorem dX12_goesAway_11 : decode cX12_goesAway 11 = .ok (.aload_n 0, 1) := by decide +kernel
theorem dX12_goesAway_12 : decode cX12_goesAway 12 = .ok (.getfield 33, 3) := by decide +kernel
theorem dX12_goesAway_15 : decode cX12_goesAway 15 = .ok (.iload_n 1, 1) := by decide +kernel
theorem dX12_goesAway_16 : decode cX12_goesAway 16 = .ok (.iaload, 1) := by decide +kernel
theorem dX12_goesAway_17 : decode cX12_goesAway 17 = .ok (.i2l, 1) := by decide +kernel
theorem dX12_goesAway_18 : decode cX12_goesAway 18 = .ok (.ladd, 1) := by decide +kernel
theorem dX12_goesAway_19 : decode cX12_goesAway 19 = .ok (.lastore, 1) := by decide +kernel
theorem dX12_goesAway_20 : decode cX12_goesAway 20 = .ok (.aload_n 0, 1) := by decide +kernel
theorem dX12_goesAway_21 : decode cX12_goesAway 21 = .ok (.getfield 33, 3) := by decide +kernel
theorem dX12_goesAway_24 : decode cX12_goesAway 24 = .ok (.iload_n 1, 1) := by decide +kernel
theorem dX12_goesAway_25 : decode cX12_goesAway 25 = .ok (.iconst 0, 1) := by decide +kernel
theorem dX12_goesAway_26 : decode cX12_goesAway 26 = .ok (.iastore, 1) := by decide +kernel
theorem dX12_goesAway_27 : decode cX12_goesAway 27 = .ok (.aload_n 0, 1) := by decide +kernel
theorem dX12_goesAway_28 : decode cX12_goesAway 28 = .ok (.getfield 39, 3) := by decide +kernel
theorem dX12_goesAway_31 : decode cX12_goesAway 31 = .ok (.iload_n 1, 1) := by decide +kernel
theorem dX12_goesAway_32 : decode cX12_goesAway 32 = .ok (.iload_n 3, 1) := by decide +kernel
theorem dX12_goesAway_33 : decode cX12_goesAway 33 = .ok (.iastore, 1) := by decide +kernel
theorem dX12_goesAway_34 : decode cX12_goesAway 34 = .ok (.return_, 1) := by decide +kernel
theorem dX12_cuts_0 : decode cX12_cuts 0 = .ok (.iconst 0, 1) := by decide +kernel
theorem dX12_cuts_1 : decode cX12_cuts 1 = .ok (.istore_n 2, 1) := by decide +kernel
theorem dX12_cuts_2 : decode cX12_cuts 2 = .ok (.iconst 0, 1) := by decide +kernel
theorem dX12_cuts_3 : decode cX12_cuts 3 = .ok (.istore_n 3, 1) := by decide +kernel
theorem dX12_cuts_4 : decode cX12_cuts 4 = .ok (.iload_n 3, 1) := by decide +kernel
theorem dX12_cuts_5 : decode cX12_cuts 5 = .ok (.bipush 16, 2) := by decide +kernel
theorem dX12_cuts_7 : decode cX12_cuts 7 = .ok (.aload_n 0, 1) := by decide +kernel
theorem dX12_cuts_8 : decode cX12_cuts 8 = .ok (.getfield 180, 3) := by decide +kernel
theorem dX12_cuts_11 : decode cX12_cuts 11 = .ok (.imul, 1) := by decide +kernel
theorem dX12_cuts_12 : decode cX12_cuts 12 = .ok (.if_icmp .ge 83, 3) := by decide +kernel
theorem dX12_cuts_15 : decode cX12_cuts 15 = .ok (.aload_n 0, 1) := by decide +kernel
theorem dX12_cuts_16 : decode cX12_cuts 16 = .ok (.getfield 26, 3) := by decide +kernel
theorem dX12_cuts_19 : decode cX12_cuts 19 = .ok (.ifCond .eq 76, 3) := by decide +kernel
theorem dX12_cuts_22 : decode cX12_cuts 22 = .ok (.sipush 192, 3) := by decide +kernel
theorem dX12_cuts_25 : decode cX12_cuts 25 = .ok (.iload_n 1, 1) := by decide +kernel
theorem dX12_cuts_26 : decode cX12_cuts 26 = .ok (.imul, 1) := by decide +kernel
theorem dX12_cuts_27 : decode cX12_cuts 27 = .ok (.iload_n 3, 1) := by decide +kernel
theorem dX12_cuts_28 : decode cX12_cuts 28 = .ok (.iadd, 1) := by decide +kernel
theorem dX12_cuts_29 : decode cX12_cuts 29 = .ok (.istore 4, 2) := by decide +kernel
theorem dX12_cuts_31 : decode cX12_cuts 31 = .ok (.iload_n 3, 1) := by decide +kernel
theorem dX12_cuts_32 : decode cX12_cuts 32 = .ok (.bipush 16, 2) := by decide +kernel
theorem dX12_cuts_34 : decode cX12_cuts 34 = .ok (.irem, 1) := by decide +kernel
theorem dX12_cuts_35 : decode cX12_cuts 35 = .ok (.aload_n 0, 1) := by decide +kernel
theorem dX12_cuts_36 : decode cX12_cuts 36 = .ok (.getfield 177, 3) := by decide +kernel
theorem dX12_cuts_39 : decode cX12_cuts 39 = .ok (.if_icmp .ge 50, 3) := by decide +kernel
theorem dX12_cuts_42 : decode cX12_cuts 42 = .ok (.aload_n 0, 1) := by decide +kernel
theorem dX12_cuts_43 : decode cX12_cuts 43 = .ok (.getfield 39, 3) := by decide +kernel
theorem dX12_cuts_46 : decode cX12_cuts 46 = .ok (.iload 4, 2) := by decide +kernel
theorem dX12_cuts_48 : decode cX12_cuts 48 = .ok (.iaload, 1) := by decide +kernel
theorem dX12_cuts_49 : decode cX12_cuts 49 = .ok (.ifCond .ne 40, 3) := by decide +kernel
theorem dX12_cuts_52 : decode cX12_cuts 52 = .ok (.aload_n 0, 1) := by decide +kernel
theorem dX12_cuts_53 : decode cX12_cuts 53 = .ok (.getfield 33, 3) := by decide +kernel
theorem dX12_cuts_56 : decode cX12_cuts 56 = .ok (.iload 4, 2) := by decide +kernel
theorem dX12_cuts_58 : decode cX12_cuts 58 = .ok (.iaload, 1) := by decide +kernel
theorem dX12_cuts_59 : decode cX12_cuts 59 = .ok (.aload_n 0, 1) := by decide +kernel
theorem dX12_cuts_60 : decode cX12_cuts 60 = .ok (.getfield 7, 3) := by decide +kernel
theorem dX12_cuts_63 : decode cX12_cuts 63 = .ok (.aload_n 0, 1) := by decide +kernel
theorem dX12_cuts_64 : decode cX12_cuts 64 = .ok (.getfield 183, 3) := by decide +kernel
theorem dX12_cuts_67 : decode cX12_cuts 67 = .ok (.iaload, 1) := by decide +kernel
theorem dX12_cuts_68 : decode cX12_cuts 68 = .ok (.aload_n 0, 1) := by decide +kernel
theorem dX12_cuts_69 : decode cX12_cuts 69 = .ok (.getfield 186, 3) := by decide +kernel
theorem dX12_cuts_72 : decode cX12_cuts 72 = .ok (.imul, 1) := by decide +kernel
theorem dX12_cuts_73 : decode cX12_cuts 73 = .ok (.if_icmp .ge 6, 3) := by decide +kernel
theorem dX12_cuts_76 : decode cX12_cuts 76 = .ok (.goto 13, 3) := by decide +kernel
theorem dX12_cuts_79 : decode cX12_cuts 79 = .ok (.aload_n 0, 1) := by decide +kernel
theorem dX12_cuts_80 : decode cX12_cuts 80 = .ok (.iload 4, 2) := by decide +kernel
theorem dX12_cuts_82 : decode cX12_cuts 82 = .ok (.iload_n 1, 1) := by decide +kernel
theorem dX12_cuts_83 : decode cX12_cuts 83 = .ok (.iconst 1, 1) := by decide +kernel
theorem dX12_cuts_84 : decode cX12_cuts 84 = .ok (.invokevirtual 208, 3) := by decide +kernel
theorem dX12_cuts_87 : decode cX12_cuts 87 = .ok (.iconst 1, 1) := by decide +kernel
theorem dX12_cuts_88 : decode cX12_cuts 88 = .ok (.istore_n 2, 1) := by decide +kernel
theorem dX12_cuts_89 : decode cX12_cuts 89 = .ok (.iinc 3 1, 3) := by decide +kernel
theorem dX12_cuts_92 : decode cX12_cuts 92 = .ok (.goto (-88), 3) := by decide +kernel
theorem dX12_cuts_95 : decode cX12_cuts 95 = .ok (.iload_n 2, 1) := by decide +kernel
theorem dX12_cuts_96 : decode cX12_cuts 96 = .ok (.ireturn, 1) := by decide +kernel
theorem dX12_ticksOnce_0 : decode cX12_ticksOnce 0 = .ok (.aload_n 0, 1) := by decide +kernel
theorem dX12_ticksOnce_1 : decode cX12_ticksOnce 1 = .ok (.iload_n 1, 1) := by decide +kernel
theorem dX12_ticksOnce_2 : decode cX12_ticksOnce 2 = .ok (.invokevirtual 212, 3) := by decide +kernel
theorem dX12_ticksOnce_5 : decode cX12_ticksOnce 5 = .ok (.aload_n 0, 1) := by decide +kernel
theorem dX12_ticksOnce_6 : decode cX12_ticksOnce 6 = .ok (.iload_n 1, 1) := by decide +kernel
theorem dX12_ticksOnce_7 : decode cX12_ticksOnce 7 = .ok (.invokevirtual 216, 3) := by decide +kernel
theorem dX12_ticksOnce_10 : decode cX12_ticksOnce 10 = .ok (.aload_n 0, 1) := by decide +kernel
theorem dX12_ticksOnce_11 : decode cX12_ticksOnce 11 = .ok (.iload_n 1, 1) := by decide +kernel
theorem dX12_ticksOnce_12 : decode cX12_ticksOnce 12 = .ok (.invokevirtual 219, 3) := by decide +kernel
theorem dX12_ticksOnce_15 : decode cX12_ticksOnce 15 = .ok (.istore_n 2, 1) := by decide +kernel
theorem dX12_ticksOnce_16 : decode cX12_ticksOnce 16 = .ok (.iconst 0, 1) := by decide +kernel
theorem dX12_ticksOnce_17 : decode cX12_ticksOnce 17 = .ok (.istore_n 3, 1) := by decide +kernel
theorem dX12_ticksOnce_18 : decode cX12_ticksOnce 18 = .ok (.iload_n 3, 1) := by decide +kernel
theorem dX12_ticksOnce_19 : decode cX12_ticksOnce 19 = .ok (.aload_n 0, 1) := by decide +kernel
theorem dX12_ticksOnce_20 : decode cX12_ticksOnce 20 = .ok (.getfield 180, 3) := by decide +kernel
theorem dX12_ticksOnce_23 : decode cX12_ticksOnce 23 = .ok (.if_icmp .ge 79, 3) := by decide +kernel
theorem dX12_ticksOnce_26 : decode cX12_ticksOnce 26 = .ok (.iconst 0, 1) := by decide +kernel
theorem dX12_ticksOnce_27 : decode cX12_ticksOnce 27 = .ok (.istore 4, 2) := by decide +kernel
theorem dX12_ticksOnce_29 : decode cX12_ticksOnce 29 = .ok (.iload 4, 2) := by decide +kernel
theorem dX12_ticksOnce_31 : decode cX12_ticksOnce 31 = .ok (.aload_n 0, 1) := by decide +kernel
theorem dX12_ticksOnce_32 : decode cX12_ticksOnce 32 = .ok (.getfield 177, 3) := by decide +kernel
theorem dX12_ticksOnce_35 : decode cX12_ticksOnce 35 = .ok (.if_icmp .ge 61, 3) := by decide +kernel
theorem dX12_ticksOnce_38 : decode cX12_ticksOnce 38 = .ok (.sipush 192, 3) := by decide +kernel
theorem dX12_ticksOnce_41 : decode cX12_ticksOnce 41 = .ok (.iload_n 1, 1) := by decide +kernel
theorem dX12_ticksOnce_42 : decode cX12_ticksOnce 42 = .ok (.imul, 1) := by decide +kernel
theorem dX12_ticksOnce_43 : decode cX12_ticksOnce 43 = .ok (.bipush 16, 2) := by decide +kernel
theorem dX12_ticksOnce_45 : decode cX12_ticksOnce 45 = .ok (.iload_n 3, 1) := by decide +kernel
theorem dX12_ticksOnce_46 : decode cX12_ticksOnce 46 = .ok (.imul, 1) := by decide +kernel
theorem dX12_ticksOnce_47 : decode cX12_ticksOnce 47 = .ok (.iadd, 1) := by decide +kernel
theorem dX12_ticksOnce_48 : decode cX12_ticksOnce 48 = .ok (.iload 4, 2) := by decide +kernel
theorem dX12_ticksOnce_50 : decode cX12_ticksOnce 50 = .ok (.iadd, 1) := by decide +kernel
theorem dX12_ticksOnce_51 : decode cX12_ticksOnce 51 = .ok (.istore 5, 2) := by decide +kernel
theorem dX12_ticksOnce_53 : decode cX12_ticksOnce 53 = .ok (.aload_n 0, 1) := by decide +kernel
theorem dX12_ticksOnce_54 : decode cX12_ticksOnce 54 = .ok (.getfield 39, 3) := by decide +kernel
theorem dX12_ticksOnce_57 : decode cX12_ticksOnce 57 = .ok (.iload 5, 2) := by decide +kernel
theorem dX12_ticksOnce_59 : decode cX12_ticksOnce 59 = .ok (.iaload, 1) := by decide +kernel
theorem dX12_ticksOnce_60 : decode cX12_ticksOnce 60 = .ok (.ifCond .ne 30, 3) := by decide +kernel
theorem dX12_ticksOnce_63 : decode cX12_ticksOnce 63 = .ok (.aload_n 0, 1) := by decide +kernel
theorem dX12_ticksOnce_64 : decode cX12_ticksOnce 64 = .ok (.getfield 33, 3) := by decide +kernel
theorem dX12_ticksOnce_67 : decode cX12_ticksOnce 67 = .ok (.iload 5, 2) := by decide +kernel
theorem dX12_ticksOnce_69 : decode cX12_ticksOnce 69 = .ok (.iaload, 1) := by decide +kernel
theorem dX12_ticksOnce_70 : decode cX12_ticksOnce 70 = .ok (.aload_n 0, 1) := by decide +kernel
theorem dX12_ticksOnce_71 : decode cX12_ticksOnce 71 = .ok (.getfield 19, 3) := by decide +kernel
theorem dX12_ticksOnce_74 : decode cX12_ticksOnce 74 = .ok (.aload_n 0, 1) := by decide +kernel
theorem dX12_ticksOnce_75 : decode cX12_ticksOnce 75 = .ok (.getfield 183, 3) := by decide +kernel
theorem dX12_ticksOnce_78 : decode cX12_ticksOnce 78 = .ok (.iaload, 1) := by decide +kernel
theorem dX12_ticksOnce_79 : decode cX12_ticksOnce 79 = .ok (.if_icmp .lt 11, 3) := by decide +kernel
theorem dX12_ticksOnce_82 : decode cX12_ticksOnce 82 = .ok (.aload_n 0, 1) := by decide +kernel
theorem dX12_ticksOnce_83 : decode cX12_ticksOnce 83 = .ok (.getfield 42, 3) := by decide +kernel
theorem dX12_ticksOnce_86 : decode cX12_ticksOnce 86 = .ok (.iload 5, 2) := by decide +kernel
theorem dX12_ticksOnce_88 : decode cX12_ticksOnce 88 = .ok (.iconst 1, 1) := by decide +kernel
theorem dX12_ticksOnce_89 : decode cX12_ticksOnce 89 = .ok (.bastore, 1) := by decide +kernel
theorem dX12_ticksOnce_90 : decode cX12_ticksOnce 90 = .ok (.iinc 4 1, 3) := by decide +kernel
theorem dX12_ticksOnce_93 : decode cX12_ticksOnce 93 = .ok (.goto (-64), 3) := by decide +kernel
theorem dX12_ticksOnce_96 : decode cX12_ticksOnce 96 = .ok (.iinc 3 1, 3) := by decide +kernel
theorem dX12_ticksOnce_99 : decode cX12_ticksOnce 99 = .ok (.goto (-81), 3) := by decide +kernel
theorem dX12_ticksOnce_102 : decode cX12_ticksOnce 102 = .ok (.iload_n 2, 1) := by decide +kernel
theorem dX12_ticksOnce_103 : decode cX12_ticksOnce 103 = .ok (.ifCond .eq 8, 3) := by decide +kernel
theorem dX12_ticksOnce_106 : decode cX12_ticksOnce 106 = .ok (.aload_n 0, 1) := by decide +kernel
theorem dX12_ticksOnce_107 : decode cX12_ticksOnce 107 = .ok (.iload_n 1, 1) := by decide +kernel
theorem dX12_ticksOnce_108 : decode cX12_ticksOnce 108 = .ok (.invokevirtual 223, 3) := by decide +kernel
theorem dX12_ticksOnce_111 : decode cX12_ticksOnce 111 = .ok (.aload_n 0, 1) := by decide +kernel
theorem dX12_ticksOnce_112 : decode cX12_ticksOnce 112 = .ok (.getfield 61, 3) := by decide +kernel
theorem dX12_ticksOnce_115 : decode cX12_ticksOnce 115 = .ok (.iload_n 1, 1) := by decide +kernel
theorem dX12_ticksOnce_116 : decode cX12_ticksOnce 116 = .ok (.aload_n 0, 1) := by decide +kernel
theorem dX12_ticksOnce_117 : decode cX12_ticksOnce 117 = .ok (.getfield 61, 3) := by decide +kernel
theorem dX12_ticksOnce_120 : decode cX12_ticksOnce 120 = .ok (.iload_n 1, 1) := by decide +kernel
theorem dX12_ticksOnce_121 : decode cX12_ticksOnce 121 = .ok (.iaload, 1) := by decide +kernel
theorem dX12_ticksOnce_122 : decode cX12_ticksOnce 122 = .ok (.iconst 1, 1) := by decide +kernel
theorem dX12_ticksOnce_123 : decode cX12_ticksOnce 123 = .ok (.iadd, 1) := by decide +kernel
theorem dX12_ticksOnce_124 : decode cX12_ticksOnce 124 = .ok (.iastore, 1) := by decide +kernel
theorem dX12_ticksOnce_125 : decode cX12_ticksOnce 125 = .ok (.return_, 1) := by decide +kernel
theorem dX12_findsParts_0 : decode cX12_findsParts 0 = .ok (.aload_n 0, 1) := by decide +kernel
theorem dX12_findsParts_1 : decode cX12_findsParts 1 = .ok (.iconst 0, 1) := by decide +kernel
theorem dX12_findsParts_2 : decode cX12_findsParts 2 = .ok (.putfield 226, 3) := by decide +kernel
theorem dX12_findsParts_5 : decode cX12_findsParts 5 = .ok (.iconst 0, 1) := by decide +kernel
theorem dX12_findsParts_6 : decode cX12_findsParts 6 = .ok (.istore_n 2, 1) := by decide +kernel
theorem dX12_findsParts_7 : decode cX12_findsParts 7 = .ok (.iload_n 2, 1) := by decide +kernel
theorem dX12_findsParts_8 : decode cX12_findsParts 8 = .ok (.sipush 192, 3) := by decide +kernel
theorem dX12_findsParts_11 : decode cX12_findsParts 11 = .ok (.if_icmp .ge 16, 3) := by decide +kernel
theorem dX12_findsParts_14 : decode cX12_findsParts 14 = .ok (.aload_n 0, 1) := by decide +kernel
theorem dX12_findsParts_15 : decode cX12_findsParts 15 = .ok (.getfield 80, 3) := by decide +kernel
theorem dX12_findsParts_18 : decode cX12_findsParts 18 = .ok (.iload_n 2, 1) := by decide +kernel
theorem dX12_findsParts_19 : decode cX12_findsParts 19 = .ok (.iconst 0, 1) := by decide +kernel
theorem dX12_findsParts_20 : decode cX12_findsParts 20 = .ok (.iastore, 1) := by decide +kernel
theorem dX12_findsParts_21 : decode cX12_findsParts 21 = .ok (.iinc 2 1, 3) := by decide +kernel
theorem dX12_findsParts_24 : decode cX12_findsParts 24 = .ok (.goto (-17), 3) := by decide +kernel
theorem dX12_findsParts_27 : decode cX12_findsParts 27 = .ok (.iconst 0, 1) := by decide +kernel
theorem dX12_findsParts_28 : decode cX12_findsParts 28 = .ok (.istore_n 2, 1) := by decide +kernel
theorem dX12_findsParts_29 : decode cX12_findsParts 29 = .ok (.iload_n 2, 1) := by decide +kernel
theorem dX12_findsParts_30 : decode cX12_findsParts 30 = .ok (.aload_n 0, 1) := by decide +kernel
theorem dX12_findsParts_31 : decode cX12_findsParts 31 = .ok (.getfield 180, 3) := by decide +kernel
theorem dX12_findsParts_34 : decode cX12_findsParts 34 = .ok (.if_icmp .ge 73, 3) := by decide +kernel
theorem dX12_findsParts_37 : decode cX12_findsParts 37 = .ok (.iconst 0, 1) := by decide +kernel
theorem dX12_findsParts_38 : decode cX12_findsParts 38 = .ok (.istore_n 3, 1) := by decide +kernel
theorem dX12_findsParts_39 : decode cX12_findsParts 39 = .ok (.iload_n 3, 1) := by decide +kernel
theorem dX12_findsParts_40 : decode cX12_findsParts 40 = .ok (.aload_n 0, 1) := by decide +kernel
theorem dX12_findsParts_41 : decode cX12_findsParts 41 = .ok (.getfield 177, 3) := by decide +kernel
theorem dX12_findsParts_44 : decode cX12_findsParts 44 = .ok (.if_icmp .ge 57, 3) := by decide +kernel
theorem dX12_findsParts_47 : decode cX12_findsParts 47 = .ok (.aload_n 0, 1) := by decide +kernel
theorem dX12_findsParts_48 : decode cX12_findsParts 48 = .ok (.iload_n 1, 1) := by decide +kernel
theorem dX12_findsParts_49 : decode cX12_findsParts 49 = .ok (.iload_n 3, 1) := by decide +kernel
theorem dX12_findsParts_50 : decode cX12_findsParts 50 = .ok (.iload_n 2, 1) := by decide +kernel
theorem dX12_findsParts_51 : decode cX12_findsParts 51 = .ok (.invokevirtual 200, 3) := by decide +kernel
theorem dX12_findsParts_54 : decode cX12_findsParts 54 = .ok (.ifCond .eq 41, 3) := by decide +kernel
theorem dX12_findsParts_57 : decode cX12_findsParts 57 = .ok (.aload_n 0, 1) := by decide +kernel
theorem dX12_findsParts_58 : decode cX12_findsParts 58 = .ok (.getfield 80, 3) := by decide +kernel
theorem dX12_findsParts_61 : decode cX12_findsParts 61 = .ok (.bipush 16, 2) := by decide +kernel
theorem dX12_findsParts_63 : decode cX12_findsParts 63 = .ok (.iload_n 2, 1) := by decide +kernel
theorem dX12_findsParts_64 : decode cX12_findsParts 64 = .ok (.imul, 1) := by decide +kernel
theorem dX12_findsParts_65 : decode cX12_findsParts 65 = .ok (.iload_n 3, 1) := by decide +kernel
theorem dX12_findsParts_66 : decode cX12_findsParts 66 = .ok (.iadd, 1) := by decide +kernel
theorem dX12_findsParts_67 : decode cX12_findsParts 67 = .ok (.iaload, 1) := by decide +kernel
theorem dX12_findsParts_68 : decode cX12_findsParts 68 = .ok (.ifCond .le 6, 3) := by decide +kernel
theorem dX12_findsParts_71 : decode cX12_findsParts 71 = .ok (.goto 24, 3) := by decide +kernel
theorem dX12_findsParts_74 : decode cX12_findsParts 74 = .ok (.aload_n 0, 1) := by decide +kernel
theorem dX12_findsParts_75 : decode cX12_findsParts 75 = .ok (.aload_n 0, 1) := by decide +kernel
theorem dX12_findsParts_76 : decode cX12_findsParts 76 = .ok (.getfield 226, 3) := by decide +kernel
theorem dX12_findsParts_79 : decode cX12_findsParts 79 = .ok (.iconst 1, 1) := by decide +kernel
theorem dX12_findsParts_80 : decode cX12_findsParts 80 = .ok (.iadd, 1) := by decide +kernel
theorem dX12_findsParts_81 : decode cX12_findsParts 81 = .ok (.putfield 226, 3) := by decide +kernel
theorem dX12_findsParts_84 : decode cX12_findsParts 84 = .ok (.aload_n 0, 1) := by decide +kernel
theorem dX12_findsParts_85 : decode cX12_findsParts 85 = .ok (.iload_n 1, 1) := by decide +kernel
theorem dX12_findsParts_86 : decode cX12_findsParts 86 = .ok (.bipush 16, 2) := by decide +kernel
theorem dX12_findsParts_88 : decode cX12_findsParts 88 = .ok (.iload_n 2, 1) := by decide +kernel
theorem dX12_findsParts_89 : decode cX12_findsParts 89 = .ok (.imul, 1) := by decide +kernel
theorem dX12_findsParts_90 : decode cX12_findsParts 90 = .ok (.iload_n 3, 1) := by decide +kernel
theorem dX12_findsParts_91 : decode cX12_findsParts 91 = .ok (.iadd, 1) := by decide +kernel
theorem dX12_findsParts_92 : decode cX12_findsParts 92 = .ok (.invokevirtual 229, 3) := by decide +kernel
theorem dX12_findsParts_95 : decode cX12_findsParts 95 = .ok (.iinc 3 1, 3) := by decide +kernel
theorem dX12_findsParts_98 : decode cX12_findsParts 98 = .ok (.goto (-59), 3) := by decide +kernel
theorem dX12_findsParts_101 : decode cX12_findsParts 101 = .ok (.iinc 2 1, 3) := by decide +kernel
theorem dX12_findsParts_104 : decode cX12_findsParts 104 = .ok (.goto (-75), 3) := by decide +kernel
theorem dX12_findsParts_107 : decode cX12_findsParts 107 = .ok (.return_, 1) := by decide +kernel
theorem dX12_spreads_0 : decode cX12_spreads 0 = .ok (.aload_n 0, 1) := by decide +kernel
theorem dX12_spreads_1 : decode cX12_spreads 1 = .ok (.getfield 86, 3) := by decide +kernel
theorem dX12_spreads_4 : decode cX12_spreads 4 = .ok (.aload_n 0, 1) := by decide +kernel
theorem dX12_spreads_5 : decode cX12_spreads 5 = .ok (.getfield 226, 3) := by decide +kernel
theorem dX12_spreads_8 : decode cX12_spreads 8 = .ok (.iconst 0, 1) := by decide +kernel
theorem dX12_spreads_9 : decode cX12_spreads 9 = .ok (.iastore, 1) := by decide +kernel
theorem dX12_spreads_10 : decode cX12_spreads 10 = .ok (.aload_n 0, 1) := by decide +kernel
theorem dX12_spreads_11 : decode cX12_spreads 11 = .ok (.getfield 89, 3) := by decide +kernel
theorem dX12_spreads_14 : decode cX12_spreads 14 = .ok (.aload_n 0, 1) := by decide +kernel
theorem dX12_spreads_15 : decode cX12_spreads 15 = .ok (.getfield 226, 3) := by decide +kernel
theorem dX12_spreads_18 : decode cX12_spreads 18 = .ok (.iconst 0, 1) := by decide +kernel
theorem dX12_spreads_19 : decode cX12_spreads 19 = .ok (.iastore, 1) := by decide +kernel
theorem dX12_spreads_20 : decode cX12_spreads 20 = .ok (.aload_n 0, 1) := by decide +kernel
theorem dX12_spreads_21 : decode cX12_spreads 21 = .ok (.getfield 92, 3) := by decide +kernel
theorem dX12_spreads_24 : decode cX12_spreads 24 = .ok (.aload_n 0, 1) := by decide +kernel
theorem dX12_spreads_25 : decode cX12_spreads 25 = .ok (.getfield 226, 3) := by decide +kernel
theorem dX12_spreads_28 : decode cX12_spreads 28 = .ok (.iconst 0, 1) := by decide +kernel
theorem dX12_spreads_29 : decode cX12_spreads 29 = .ok (.bastore, 1) := by decide +kernel
theorem dX12_spreads_30 : decode cX12_spreads 30 = .ok (.iconst 1, 1) := by decide +kernel
theorem dX12_spreads_31 : decode cX12_spreads 31 = .ok (.istore_n 3, 1) := by decide +kernel
theorem dX12_spreads_32 : decode cX12_spreads 32 = .ok (.aload_n 0, 1) := by decide +kernel
theorem dX12_spreads_33 : decode cX12_spreads 33 = .ok (.getfield 83, 3) := by decide +kernel
theorem dX12_spreads_36 : decode cX12_spreads 36 = .ok (.iconst 0, 1) := by decide +kernel
theorem dX12_spreads_37 : decode cX12_spreads 37 = .ok (.iload_n 2, 1) := by decide +kernel
theorem dX12_spreads_38 : decode cX12_spreads 38 = .ok (.iastore, 1) := by decide +kernel
theorem dX12_spreads_39 : decode cX12_spreads 39 = .ok (.aload_n 0, 1) := by decide +kernel
theorem dX12_spreads_40 : decode cX12_spreads 40 = .ok (.getfield 80, 3) := by decide +kernel
theorem dX12_spreads_43 : decode cX12_spreads 43 = .ok (.iload_n 2, 1) := by decide +kernel
theorem dX12_spreads_44 : decode cX12_spreads 44 = .ok (.aload_n 0, 1) := by decide +kernel
theorem dX12_spreads_45 : decode cX12_spreads 45 = .ok (.getfield 226, 3) := by decide +kernel
theorem dX12_spreads_48 : decode cX12_spreads 48 = .ok (.iastore, 1) := by decide +kernel
theorem dX12_spreads_49 : decode cX12_spreads 49 = .ok (.iload_n 3, 1) := by decide +kernel
theorem dX12_spreads_50 : decode cX12_spreads 50 = .ok (.ifCond .le 218, 3) := by decide +kernel
theorem dX12_spreads_53 : decode cX12_spreads 53 = .ok (.iload_n 3, 1) := by decide +kernel
theorem dX12_spreads_54 : decode cX12_spreads 54 = .ok (.iconst 1, 1) := by decide +kernel
theorem dX12_spreads_55 : decode cX12_spreads 55 = .ok (.isub, 1) := by decide +kernel
theorem dX12_spreads_56 : decode cX12_spreads 56 = .ok (.istore_n 3, 1) := by decide +kernel
theorem dX12_spreads_57 : decode cX12_spreads 57 = .ok (.aload_n 0, 1) := by decide +kernel
theorem dX12_spreads_58 : decode cX12_spreads 58 = .ok (.getfield 83, 3) := by decide +kernel
theorem dX12_spreads_61 : decode cX12_spreads 61 = .ok (.iload_n 3, 1) := by decide +kernel
theorem dX12_spreads_62 : decode cX12_spreads 62 = .ok (.iaload, 1) := by decide +kernel
theorem dX12_spreads_63 : decode cX12_spreads 63 = .ok (.bipush 16, 2) := by decide +kernel
theorem dX12_spreads_65 : decode cX12_spreads 65 = .ok (.irem, 1) := by decide +kernel
theorem dX12_spreads_66 : decode cX12_spreads 66 = .ok (.istore 4, 2) := by decide +kernel
theorem dX12_spreads_68 : decode cX12_spreads 68 = .ok (.aload_n 0, 1) := by decide +kernel
theorem dX12_spreads_69 : decode cX12_spreads 69 = .ok (.getfield 83, 3) := by decide +kernel
theorem dX12_spreads_72 : decode cX12_spreads 72 = .ok (.iload_n 3, 1) := by decide +kernel
theorem dX12_spreads_73 : decode cX12_spreads 73 = .ok (.iaload, 1) := by decide +kernel
theorem dX12_spreads_74 : decode cX12_spreads 74 = .ok (.bipush 16, 2) := by decide +kernel
theorem dX12_spreads_76 : decode cX12_spreads 76 = .ok (.idiv, 1) := by decide +kernel
theorem dX12_spreads_77 : decode cX12_spreads 77 = .ok (.istore 5, 2) := by decide +kernel
theorem dX12_spreads_79 : decode cX12_spreads 79 = .ok (.aload_n 0, 1) := by decide +kernel
theorem dX12_spreads_80 : decode cX12_spreads 80 = .ok (.getfield 86, 3) := by decide +kernel
theorem dX12_spreads_83 : decode cX12_spreads 83 = .ok (.aload_n 0, 1) := by decide +kernel
theorem dX12_spreads_84 : decode cX12_spreads 84 = .ok (.getfield 226, 3) := by decide +kernel
theorem dX12_spreads_87 : decode cX12_spreads 87 = .ok (.aload_n 0, 1) := by decide +kernel
theorem dX12_spreads_88 : decode cX12_spreads 88 = .ok (.getfield 86, 3) := by decide +kernel
theorem dX12_spreads_91 : decode cX12_spreads 91 = .ok (.aload_n 0, 1) := by decide +kernel
theorem dX12_spreads_92 : decode cX12_spreads 92 = .ok (.getfield 226, 3) := by decide +kernel
theorem dX12_spreads_95 : decode cX12_spreads 95 = .ok (.iaload, 1) := by decide +kernel
theorem dX12_spreads_96 : decode cX12_spreads 96 = .ok (.iconst 1, 1) := by decide +kernel
theorem dX12_spreads_97 : decode cX12_spreads 97 = .ok (.iadd, 1) := by decide +kernel
theorem dX12_spreads_98 : decode cX12_spreads 98 = .ok (.iastore, 1) := by decide +kernel
theorem dX12_spreads_99 : decode cX12_spreads 99 = .ok (.aload_n 0, 1) := by decide +kernel
theorem dX12_spreads_100 : decode cX12_spreads 100 = .ok (.getfield 89, 3) := by decide +kernel
theorem dX12_spreads_103 : decode cX12_spreads 103 = .ok (.aload_n 0, 1) := by decide +kernel
theorem dX12_spreads_104 : decode cX12_spreads 104 = .ok (.getfield 226, 3) := by decide +kernel
theorem dX12_spreads_107 : decode cX12_spreads 107 = .ok (.aload_n 0, 1) := by decide +kernel
theorem dX12_spreads_108 : decode cX12_spreads 108 = .ok (.getfield 89, 3) := by decide +kernel
theorem dX12_spreads_111 : decode cX12_spreads 111 = .ok (.aload_n 0, 1) := by decide +kernel
theorem dX12_spreads_112 : decode cX12_spreads 112 = .ok (.getfield 226, 3) := by decide +kernel
theorem dX12_spreads_115 : decode cX12_spreads 115 = .ok (.iaload, 1) := by decide +kernel
theorem dX12_spreads_116 : decode cX12_spreads 116 = .ok (.iload 4, 2) := by decide +kernel
theorem dX12_spreads_118 : decode cX12_spreads 118 = .ok (.iadd, 1) := by decide +kernel
theorem dX12_spreads_119 : decode cX12_spreads 119 = .ok (.iastore, 1) := by decide +kernel
theorem dX12_spreads_120 : decode cX12_spreads 120 = .ok (.iload 4, 2) := by decide +kernel
theorem dX12_spreads_122 : decode cX12_spreads 122 = .ok (.ifCond .eq 30, 3) := by decide +kernel
theorem dX12_spreads_125 : decode cX12_spreads 125 = .ok (.iload 5, 2) := by decide +kernel
theorem dX12_spreads_127 : decode cX12_spreads 127 = .ok (.ifCond .eq 25, 3) := by decide +kernel
theorem dX12_spreads_130 : decode cX12_spreads 130 = .ok (.iload 4, 2) := by decide +kernel
theorem dX12_spreads_132 : decode cX12_spreads 132 = .ok (.aload_n 0, 1) := by decide +kernel
theorem dX12_spreads_133 : decode cX12_spreads 133 = .ok (.getfield 177, 3) := by decide +kernel
theorem dX12_spreads_136 : decode cX12_spreads 136 = .ok (.iconst 1, 1) := by decide +kernel
theorem dX12_spreads_137 : decode cX12_spreads 137 = .ok (.isub, 1) := by decide +kernel
theorem dX12_spreads_138 : decode cX12_spreads 138 = .ok (.if_icmp .eq 14, 3) := by decide +kernel
theorem dX12_spreads_141 : decode cX12_spreads 141 = .ok (.iload 5, 2) := by decide +kernel
theorem dX12_spreads_143 : decode cX12_spreads 143 = .ok (.aload_n 0, 1) := by decide +kernel
theorem dX12_spreads_144 : decode cX12_spreads 144 = .ok (.getfield 180, 3) := by decide +kernel
theorem dX12_spreads_147 : decode cX12_spreads 147 = .ok (.iconst 1, 1) := by decide +kernel
theorem dX12_spreads_148 : decode cX12_spreads 148 = .ok (.isub, 1) := by decide +kernel
theorem dX12_spreads_149 : decode cX12_spreads 149 = .ok (.if_icmp .ne 13, 3) := by decide +kernel
theorem dX12_spreads_152 : decode cX12_spreads 152 = .ok (.aload_n 0, 1) := by decide +kernel
theorem dX12_spreads_153 : decode cX12_spreads 153 = .ok (.getfield 92, 3) := by decide +kernel
theorem dX12_spreads_156 : decode cX12_spreads 156 = .ok (.aload_n 0, 1) := by decide +kernel
theorem dX12_spreads_157 : decode cX12_spreads 157 = .ok (.getfield 226, 3) := by decide +kernel
theorem dX12_spreads_160 : decode cX12_spreads 160 = .ok (.iconst 1, 1) := by decide +kernel
theorem dX12_spreads_161 : decode cX12_spreads 161 = .ok (.bastore, 1) := by decide +kernel
theorem dX12_spreads_162 : decode cX12_spreads 162 = .ok (.iconst 0, 1) := by decide +kernel
theorem dX12_spreads_163 : decode cX12_spreads 163 = .ok (.istore 6, 2) := by decide +kernel
theorem dX12_spreads_165 : decode cX12_spreads 165 = .ok (.iload 6, 2) := by decide +kernel
theorem dX12_spreads_167 : decode cX12_spreads 167 = .ok (.iconst 4, 1) := by decide +kernel
theorem dX12_spreads_168 : decode cX12_spreads 168 = .ok (.if_icmp .ge 97, 3) := by decide +kernel
theorem dX12_spreads_171 : decode cX12_spreads 171 = .ok (.iload 4, 2) := by decide +kernel
theorem dX12_spreads_173 : decode cX12_spreads 173 = .ok (.aload_n 0, 1) := by decide +kernel
theorem dX12_spreads_174 : decode cX12_spreads 174 = .ok (.iload 6, 2) := by decide +kernel
theorem dX12_spreads_176 : decode cX12_spreads 176 = .ok (.invokevirtual 193, 3) := by decide +kernel
theorem dX12_spreads_179 : decode cX12_spreads 179 = .ok (.iadd, 1) := by decide +kernel
theorem dX12_spreads_180 : decode cX12_spreads 180 = .ok (.istore 7, 2) := by decide +kernel
theorem dX12_spreads_182 : decode cX12_spreads 182 = .ok (.iload 5, 2) := by decide +kernel
theorem dX12_spreads_184 : decode cX12_spreads 184 = .ok (.aload_n 0, 1) := by decide +kernel
theorem dX12_spreads_185 : decode cX12_spreads 185 = .ok (.iload 6, 2) := by decide +kernel
theorem dX12_spreads_187 : decode cX12_spreads 187 = .ok (.invokevirtual 197, 3) := by decide +kernel
theorem dX12_spreads_190 : decode cX12_spreads 190 = .ok (.iadd, 1) := by decide +kernel
theorem dX12_spreads_191 : decode cX12_spreads 191 = .ok (.istore 8, 2) := by decide +kernel
theorem dX12_spreads_193 : decode cX12_spreads 193 = .ok (.aload_n 0, 1) := by decide +kernel
theorem dX12_spreads_194 : decode cX12_spreads 194 = .ok (.iload_n 1, 1) := by decide +kernel
theorem dX12_spreads_195 : decode cX12_spreads 195 = .ok (.iload 7, 2) := by decide +kernel
theorem dX12_spreads_197 : decode cX12_spreads 197 = .ok (.iload 8, 2) := by decide +kernel
theorem dX12_spreads_199 : decode cX12_spreads 199 = .ok (.invokevirtual 200, 3) := by decide +kernel
theorem dX12_spreads_202 : decode cX12_spreads 202 = .ok (.ifCond .eq 57, 3) := by decide +kernel
theorem dX12_spreads_205 : decode cX12_spreads 205 = .ok (.aload_n 0, 1) := by decide +kernel
theorem dX12_spreads_206 : decode cX12_spreads 206 = .ok (.getfield 80, 3) := by decide +kernel
theorem dX12_spreads_209 : decode cX12_spreads 209 = .ok (.bipush 16, 2) := by decide +kernel
theorem dX12_spreads_211 : decode cX12_spreads 211 = .ok (.iload 8, 2) := by decide +kernel
theorem dX12_spreads_213 : decode cX12_spreads 213 = .ok (.imul, 1) := by decide +kernel
theorem dX12_spreads_214 : decode cX12_spreads 214 = .ok (.iload 7, 2) := by decide +kernel
theorem dX12_spreads_216 : decode cX12_spreads 216 = .ok (.iadd, 1) := by decide +kernel
theorem dX12_spreads_217 : decode cX12_spreads 217 = .ok (.iaload, 1) := by decide +kernel
theorem dX12_spreads_218 : decode cX12_spreads 218 = .ok (.ifCond .le 6, 3) := by decide +kernel
theorem dX12_spreads_221 : decode cX12_spreads 221 = .ok (.goto 38, 3) := by decide +kernel
theorem dX12_spreads_224 : decode cX12_spreads 224 = .ok (.aload_n 0, 1) := by decide +kernel
theorem dX12_spreads_225 : decode cX12_spreads 225 = .ok (.getfield 80, 3) := by decide +kernel
theorem dX12_spreads_228 : decode cX12_spreads 228 = .ok (.bipush 16, 2) := by decide +kernel
theorem dX12_spreads_230 : decode cX12_spreads 230 = .ok (.iload 8, 2) := by decide +kernel
theorem dX12_spreads_232 : decode cX12_spreads 232 = .ok (.imul, 1) := by decide +kernel
theorem dX12_spreads_233 : decode cX12_spreads 233 = .ok (.iload 7, 2) := by decide +kernel
theorem dX12_spreads_235 : decode cX12_spreads 235 = .ok (.iadd, 1) := by decide +kernel
theorem dX12_spreads_236 : decode cX12_spreads 236 = .ok (.aload_n 0, 1) := by decide +kernel
theorem dX12_spreads_237 : decode cX12_spreads 237 = .ok (.getfield 226, 3) := by decide +kernel
theorem dX12_spreads_240 : decode cX12_spreads 240 = .ok (.iastore, 1) := by decide +kernel
theorem dX12_spreads_241 : decode cX12_spreads 241 = .ok (.aload_n 0, 1) := by decide +kernel
theorem dX12_spreads_242 : decode cX12_spreads 242 = .ok (.getfield 83, 3) := by decide +kernel
theorem dX12_spreads_245 : decode cX12_spreads 245 = .ok (.iload_n 3, 1) := by decide +kernel
theorem dX12_spreads_246 : decode cX12_spreads 246 = .ok (.bipush 16, 2) := by decide +kernel
theorem dX12_spreads_248 : decode cX12_spreads 248 = .ok (.iload 8, 2) := by decide +kernel
theorem dX12_spreads_250 : decode cX12_spreads 250 = .ok (.imul, 1) := by decide +kernel
theorem dX12_spreads_251 : decode cX12_spreads 251 = .ok (.iload 7, 2) := by decide +kernel
theorem dX12_spreads_253 : decode cX12_spreads 253 = .ok (.iadd, 1) := by decide +kernel
theorem dX12_spreads_254 : decode cX12_spreads 254 = .ok (.iastore, 1) := by decide +kernel
theorem dX12_spreads_255 : decode cX12_spreads 255 = .ok (.iload_n 3, 1) := by decide +kernel
theorem dX12_spreads_256 : decode cX12_spreads 256 = .ok (.iconst 1, 1) := by decide +kernel
theorem dX12_spreads_257 : decode cX12_spreads 257 = .ok (.iadd, 1) := by decide +kernel
theorem dX12_spreads_258 : decode cX12_spreads 258 = .ok (.istore_n 3, 1) := by decide +kernel
theorem dX12_spreads_259 : decode cX12_spreads 259 = .ok (.iinc 6 1, 3) := by decide +kernel
theorem dX12_spreads_262 : decode cX12_spreads 262 = .ok (.goto (-97), 3) := by decide +kernel
theorem dX12_spreads_265 : decode cX12_spreads 265 = .ok (.goto (-216), 3) := by decide +kernel
theorem dX12_spreads_268 : decode cX12_spreads 268 = .ok (.return_, 1) := by decide +kernel
theorem dX12_lying_0 : decode cX12_lying 0 = .ok (.iconst 0, 1) := by decide +kernel
theorem dX12_lying_1 : decode cX12_lying 1 = .ok (.istore_n 2, 1) := by decide +kernel
theorem dX12_lying_2 : decode cX12_lying 2 = .ok (.iconst 0, 1) := by decide +kernel
theorem dX12_lying_3 : decode cX12_lying 3 = .ok (.istore_n 3, 1) := by decide +kernel
theorem dX12_lying_4 : decode cX12_lying 4 = .ok (.iconst 0, 1) := by decide +kernel
theorem dX12_lying_5 : decode cX12_lying 5 = .ok (.istore 4, 2) := by decide +kernel
theorem dX12_lying_7 : decode cX12_lying 7 = .ok (.iconst 0, 1) := by decide +kernel
theorem dX12_lying_8 : decode cX12_lying 8 = .ok (.istore 5, 2) := by decide +kernel
theorem dX12_lying_10 : decode cX12_lying 10 = .ok (.iload 5, 2) := by decide +kernel
theorem dX12_lying_12 : decode cX12_lying 12 = .ok (.bipush 16, 2) := by decide +kernel
theorem dX12_lying_14 : decode cX12_lying 14 = .ok (.aload_n 0, 1) := by decide +kernel
theorem dX12_lying_15 : decode cX12_lying 15 = .ok (.getfield 180, 3) := by decide +kernel
theorem dX12_lying_18 : decode cX12_lying 18 = .ok (.imul, 1) := by decide +kernel
theorem dX12_lying_19 : decode cX12_lying 19 = .ok (.if_icmp .ge 100, 3) := by decide +kernel
theorem dX12_lying_22 : decode cX12_lying 22 = .ok (.iload 5, 2) := by decide +kernel
theorem dX12_lying_24 : decode cX12_lying 24 = .ok (.bipush 16, 2) := by decide +kernel
theorem dX12_lying_26 : decode cX12_lying 26 = .ok (.irem, 1) := by decide +kernel
theorem dX12_lying_27 : decode cX12_lying 27 = .ok (.istore 6, 2) := by decide +kernel
theorem dX12_lying_29 : decode cX12_lying 29 = .ok (.aload_n 0, 1) := by decide +kernel
theorem dX12_lying_30 : decode cX12_lying 30 = .ok (.getfield 80, 3) := by decide +kernel
theorem dX12_lying_33 : decode cX12_lying 33 = .ok (.iload 5, 2) := by decide +kernel
theorem dX12_lying_35 : decode cX12_lying 35 = .ok (.iaload, 1) := by decide +kernel
theorem dX12_lying_36 : decode cX12_lying 36 = .ok (.iload_n 1, 1) := by decide +kernel
theorem dX12_lying_37 : decode cX12_lying 37 = .ok (.if_icmp .ne 76, 3) := by decide +kernel
theorem dX12_lying_40 : decode cX12_lying 40 = .ok (.iload 6, 2) := by decide +kernel
theorem dX12_lying_42 : decode cX12_lying 42 = .ok (.aload_n 0, 1) := by decide +kernel
theorem dX12_lying_43 : decode cX12_lying 43 = .ok (.getfield 30, 3) := by decide +kernel
theorem dX12_lying_46 : decode cX12_lying 46 = .ok (.irem, 1) := by decide +kernel
theorem dX12_lying_47 : decode cX12_lying 47 = .ok (.ifCond .eq 6, 3) := by decide +kernel
theorem dX12_lying_50 : decode cX12_lying 50 = .ok (.goto 63, 3) := by decide +kernel
theorem dX12_lying_53 : decode cX12_lying 53 = .ok (.iconst 1, 1) := by decide +kernel
theorem dX12_lying_54 : decode cX12_lying 54 = .ok (.istore_n 2, 1) := by decide +kernel
theorem dX12_lying_55 : decode cX12_lying 55 = .ok (.iload_n 3, 1) := by decide +kernel
theorem dX12_lying_56 : decode cX12_lying 56 = .ok (.ifCond .ne 21, 3) := by decide +kernel
theorem dX12_lying_59 : decode cX12_lying 59 = .ok (.iload 6, 2) := by decide +kernel
theorem dX12_lying_61 : decode cX12_lying 61 = .ok (.aload_n 0, 1) := by decide +kernel
theorem dX12_lying_62 : decode cX12_lying 62 = .ok (.getfield 86, 3) := by decide +kernel
theorem dX12_lying_65 : decode cX12_lying 65 = .ok (.iload_n 1, 1) := by decide +kernel
theorem dX12_lying_66 : decode cX12_lying 66 = .ok (.iaload, 1) := by decide +kernel
theorem dX12_lying_67 : decode cX12_lying 67 = .ok (.imul, 1) := by decide +kernel
theorem dX12_lying_68 : decode cX12_lying 68 = .ok (.aload_n 0, 1) := by decide +kernel
theorem dX12_lying_69 : decode cX12_lying 69 = .ok (.getfield 89, 3) := by decide +kernel
theorem dX12_lying_72 : decode cX12_lying 72 = .ok (.iload_n 1, 1) := by decide +kernel
theorem dX12_lying_73 : decode cX12_lying 73 = .ok (.iaload, 1) := by decide +kernel
theorem dX12_lying_74 : decode cX12_lying 74 = .ok (.if_icmp .gt 7, 3) := by decide +kernel
theorem dX12_lying_77 : decode cX12_lying 77 = .ok (.iconst 1, 1) := by decide +kernel
theorem dX12_lying_78 : decode cX12_lying 78 = .ok (.goto 4, 3) := by decide +kernel
theorem dX12_lying_81 : decode cX12_lying 81 = .ok (.iconst 0, 1) := by decide +kernel
theorem dX12_lying_82 : decode cX12_lying 82 = .ok (.istore_n 3, 1) := by decide +kernel
theorem dX12_lying_83 : decode cX12_lying 83 = .ok (.iload 4, 2) := by decide +kernel
theorem dX12_lying_85 : decode cX12_lying 85 = .ok (.ifCond .ne 21, 3) := by decide +kernel
theorem dX12_lying_88 : decode cX12_lying 88 = .ok (.iload 6, 2) := by decide +kernel
theorem dX12_lying_90 : decode cX12_lying 90 = .ok (.aload_n 0, 1) := by decide +kernel
theorem dX12_lying_91 : decode cX12_lying 91 = .ok (.getfield 86, 3) := by decide +kernel
theorem dX12_lying_94 : decode cX12_lying 94 = .ok (.iload_n 1, 1) := by decide +kernel
theorem dX12_lying_95 : decode cX12_lying 95 = .ok (.iaload, 1) := by decide +kernel
theorem dX12_lying_96 : decode cX12_lying 96 = .ok (.imul, 1) := by decide +kernel
theorem dX12_lying_97 : decode cX12_lying 97 = .ok (.aload_n 0, 1) := by decide +kernel
theorem dX12_lying_98 : decode cX12_lying 98 = .ok (.getfield 89, 3) := by decide +kernel
theorem dX12_lying_101 : decode cX12_lying 101 = .ok (.iload_n 1, 1) := by decide +kernel
theorem dX12_lying_102 : decode cX12_lying 102 = .ok (.iaload, 1) := by decide +kernel
theorem dX12_lying_103 : decode cX12_lying 103 = .ok (.if_icmp .lt 7, 3) := by decide +kernel
theorem dX12_lying_106 : decode cX12_lying 106 = .ok (.iconst 1, 1) := by decide +kernel
theorem dX12_lying_107 : decode cX12_lying 107 = .ok (.goto 4, 3) := by decide +kernel
theorem dX12_lying_110 : decode cX12_lying 110 = .ok (.iconst 0, 1) := by decide +kernel
theorem dX12_lying_111 : decode cX12_lying 111 = .ok (.istore 4, 2) := by decide +kernel
theorem dX12_lying_113 : decode cX12_lying 113 = .ok (.iinc 5 1, 3) := by decide +kernel
theorem dX12_lying_116 : decode cX12_lying 116 = .ok (.goto (-106), 3) := by decide +kernel
theorem dX12_lying_119 : decode cX12_lying 119 = .ok (.iload_n 2, 1) := by decide +kernel
theorem dX12_lying_120 : decode cX12_lying 120 = .ok (.ifCond .ne 7, 3) := by decide +kernel
theorem dX12_lying_123 : decode cX12_lying 123 = .ok (.iconst 1, 1) := by decide +kernel
theorem dX12_lying_124 : decode cX12_lying 124 = .ok (.goto 17, 3) := by decide +kernel
theorem dX12_lying_127 : decode cX12_lying 127 = .ok (.iload_n 3, 1) := by decide +kernel
theorem dX12_lying_128 : decode cX12_lying 128 = .ok (.ifCond .eq 12, 3) := by decide +kernel
theorem dX12_lying_131 : decode cX12_lying 131 = .ok (.iload 4, 2) := by decide +kernel
theorem dX12_lying_133 : decode cX12_lying 133 = .ok (.ifCond .eq 7, 3) := by decide +kernel
theorem dX12_lying_136 : decode cX12_lying 136 = .ok (.iconst 0, 1) := by decide +kernel
theorem dX12_lying_137 : decode cX12_lying 137 = .ok (.goto 4, 3) := by decide +kernel
theorem dX12_lying_140 : decode cX12_lying 140 = .ok (.iconst 2, 1) := by decide +kernel
theorem dX12_lying_141 : decode cX12_lying 141 = .ok (.ireturn, 1) := by decide +kernel
theorem dX12_loosens_0 : decode cX12_loosens 0 = .ok (.aload_n 0, 1) := by decide +kernel
theorem dX12_loosens_1 : decode cX12_loosens 1 = .ok (.iload_n 1, 1) := by decide +kernel
theorem dX12_loosens_2 : decode cX12_loosens 2 = .ok (.invokevirtual 233, 3) := by decide +kernel
theorem dX12_loosens_5 : decode cX12_loosens 5 = .ok (.iconst 1, 1) := by decide +kernel
theorem dX12_loosens_6 : decode cX12_loosens 6 = .ok (.istore_n 2, 1) := by decide +kernel
theorem dX12_loosens_7 : decode cX12_loosens 7 = .ok (.iload_n 2, 1) := by decide +kernel
theorem dX12_loosens_8 : decode cX12_loosens 8 = .ok (.aload_n 0, 1) := by decide +kernel
theorem dX12_loosens_9 : decode cX12_loosens 9 = .ok (.getfield 226, 3) := by decide +kernel
theorem dX12_loosens_12 : decode cX12_loosens 12 = .ok (.if_icmp .gt 103, 3) := by decide +kernel
theorem dX12_loosens_15 : decode cX12_loosens 15 = .ok (.aload_n 0, 1) := by decide +kernel
theorem dX12_loosens_16 : decode cX12_loosens 16 = .ok (.getfield 92, 3) := by decide +kernel
theorem dX12_loosens_19 : decode cX12_loosens 19 = .ok (.iload_n 2, 1) := by decide +kernel
theorem dX12_loosens_20 : decode cX12_loosens 20 = .ok (.baload, 1) := by decide +kernel
theorem dX12_loosens_21 : decode cX12_loosens 21 = .ok (.ifCond .eq 7, 3) := by decide +kernel
theorem dX12_loosens_24 : decode cX12_loosens 24 = .ok (.iconst 0, 1) := by decide +kernel
theorem dX12_loosens_25 : decode cX12_loosens 25 = .ok (.goto 8, 3) := by decide +kernel
theorem dX12_loosens_28 : decode cX12_loosens 28 = .ok (.aload_n 0, 1) := by decide +kernel
theorem dX12_loosens_29 : decode cX12_loosens 29 = .ok (.iload_n 2, 1) := by decide +kernel
theorem dX12_loosens_30 : decode cX12_loosens 30 = .ok (.invokevirtual 236, 3) := by decide +kernel
theorem dX12_loosens_33 : decode cX12_loosens 33 = .ok (.istore_n 3, 1) := by decide +kernel
theorem dX12_loosens_34 : decode cX12_loosens 34 = .ok (.iconst 0, 1) := by decide +kernel
theorem dX12_loosens_35 : decode cX12_loosens 35 = .ok (.istore 4, 2) := by decide +kernel
theorem dX12_loosens_37 : decode cX12_loosens 37 = .ok (.iload 4, 2) := by decide +kernel
theorem dX12_loosens_39 : decode cX12_loosens 39 = .ok (.bipush 16, 2) := by decide +kernel
theorem dX12_loosens_41 : decode cX12_loosens 41 = .ok (.aload_n 0, 1) := by decide +kernel
theorem dX12_loosens_42 : decode cX12_loosens 42 = .ok (.getfield 180, 3) := by decide +kernel
theorem dX12_loosens_45 : decode cX12_loosens 45 = .ok (.imul, 1) := by decide +kernel
theorem dX12_loosens_46 : decode cX12_loosens 46 = .ok (.if_icmp .ge 63, 3) := by decide +kernel
theorem dX12_loosens_49 : decode cX12_loosens 49 = .ok (.iload_n 3, 1) := by decide +kernel
theorem dX12_loosens_50 : decode cX12_loosens 50 = .ok (.ifCond .le 59, 3) := by decide +kernel
theorem dX12_loosens_53 : decode cX12_loosens 53 = .ok (.aload_n 0, 1) := by decide +kernel
theorem dX12_loosens_54 : decode cX12_loosens 54 = .ok (.getfield 80, 3) := by decide +kernel
theorem dX12_loosens_57 : decode cX12_loosens 57 = .ok (.iload 4, 2) := by decide +kernel
theorem dX12_loosens_59 : decode cX12_loosens 59 = .ok (.iaload, 1) := by decide +kernel
theorem dX12_loosens_60 : decode cX12_loosens 60 = .ok (.iload_n 2, 1) := by decide +kernel
theorem dX12_loosens_61 : decode cX12_loosens 61 = .ok (.if_icmp .eq 6, 3) := by decide +kernel
theorem dX12_loosens_64 : decode cX12_loosens 64 = .ok (.goto 39, 3) := by decide +kernel
theorem dX12_loosens_67 : decode cX12_loosens 67 = .ok (.iload_n 3, 1) := by decide +kernel
theorem dX12_loosens_68 : decode cX12_loosens 68 = .ok (.iconst 1, 1) := by decide +kernel
theorem dX12_loosens_69 : decode cX12_loosens 69 = .ok (.if_icmp .ne 20, 3) := by decide +kernel
theorem dX12_loosens_72 : decode cX12_loosens 72 = .ok (.aload_n 0, 1) := by decide +kernel
theorem dX12_loosens_73 : decode cX12_loosens 73 = .ok (.sipush 192, 3) := by decide +kernel
theorem dX12_loosens_76 : decode cX12_loosens 76 = .ok (.iload_n 1, 1) := by decide +kernel
theorem dX12_loosens_77 : decode cX12_loosens 77 = .ok (.imul, 1) := by decide +kernel
theorem dX12_loosens_78 : decode cX12_loosens 78 = .ok (.iload 4, 2) := by decide +kernel
theorem dX12_loosens_80 : decode cX12_loosens 80 = .ok (.iadd, 1) := by decide +kernel
theorem dX12_loosens_81 : decode cX12_loosens 81 = .ok (.iload_n 1, 1) := by decide +kernel
theorem dX12_loosens_82 : decode cX12_loosens 82 = .ok (.iconst 2, 1) := by decide +kernel
theorem dX12_loosens_83 : decode cX12_loosens 83 = .ok (.invokevirtual 208, 3) := by decide +kernel
theorem dX12_loosens_86 : decode cX12_loosens 86 = .ok (.goto 17, 3) := by decide +kernel
theorem dX12_loosens_89 : decode cX12_loosens 89 = .ok (.aload_n 0, 1) := by decide +kernel
theorem dX12_loosens_90 : decode cX12_loosens 90 = .ok (.getfield 46, 3) := by decide +kernel
theorem dX12_loosens_93 : decode cX12_loosens 93 = .ok (.sipush 192, 3) := by decide +kernel
theorem dX12_loosens_96 : decode cX12_loosens 96 = .ok (.iload_n 1, 1) := by decide +kernel
theorem dX12_loosens_97 : decode cX12_loosens 97 = .ok (.imul, 1) := by decide +kernel
theorem dX12_loosens_98 : decode cX12_loosens 98 = .ok (.iload 4, 2) := by decide +kernel
theorem dX12_loosens_100 : decode cX12_loosens 100 = .ok (.iadd, 1) := by decide +kernel
theorem dX12_loosens_101 : decode cX12_loosens 101 = .ok (.iconst 1, 1) := by decide +kernel
theorem dX12_loosens_102 : decode cX12_loosens 102 = .ok (.bastore, 1) := by decide +kernel
theorem dX12_loosens_103 : decode cX12_loosens 103 = .ok (.iinc 4 1, 3) := by decide +kernel
theorem dX12_loosens_106 : decode cX12_loosens 106 = .ok (.goto (-69), 3) := by decide +kernel
theorem dX12_loosens_109 : decode cX12_loosens 109 = .ok (.iinc 2 1, 3) := by decide +kernel
theorem dX12_loosens_112 : decode cX12_loosens 112 = .ok (.goto (-105), 3) := by decide +kernel
theorem dX12_loosens_115 : decode cX12_loosens 115 = .ok (.return_, 1) := by decide +kernel
theorem dX12_puts_0 : decode cX12_puts 0 = .ok (.bipush 24, 2) := by decide +kernel
theorem dX12_puts_2 : decode cX12_puts 2 = .ok (.istore_n 2, 1) := by decide +kernel
theorem dX12_puts_3 : decode cX12_puts 3 = .ok (.iload_n 2, 1) := by decide +kernel
theorem dX12_puts_4 : decode cX12_puts 4 = .ok (.ifCond .lt 35, 3) := by decide +kernel
theorem dX12_puts_7 : decode cX12_puts 7 = .ok (.aload_n 0, 1) := by decide +kernel
theorem dX12_puts_8 : decode cX12_puts 8 = .ok (.getfield 95, 3) := by decide +kernel
theorem dX12_puts_11 : decode cX12_puts 11 = .ok (.aload_n 0, 1) := by decide +kernel
theorem dX12_puts_12 : decode cX12_puts 12 = .ok (.getfield 239, 3) := by decide +kernel
theorem dX12_puts_15 : decode cX12_puts 15 = .ok (.iload_n 1, 1) := by decide +kernel
theorem dX12_puts_16 : decode cX12_puts 16 = .ok (.iload_n 2, 1) := by decide +kernel
theorem dX12_puts_17 : decode cX12_puts 17 = .ok (.ishr, 1) := by decide +kernel
theorem dX12_puts_18 : decode cX12_puts 18 = .ok (.sipush 255, 3) := by decide +kernel
theorem dX12_puts_21 : decode cX12_puts 21 = .ok (.iand, 1) := by decide +kernel
theorem dX12_puts_22 : decode cX12_puts 22 = .ok (.iastore, 1) := by decide +kernel
theorem dX12_puts_23 : decode cX12_puts 23 = .ok (.aload_n 0, 1) := by decide +kernel
theorem dX12_puts_24 : decode cX12_puts 24 = .ok (.aload_n 0, 1) := by decide +kernel
theorem dX12_puts_25 : decode cX12_puts 25 = .ok (.getfield 239, 3) := by decide +kernel
theorem dX12_puts_28 : decode cX12_puts 28 = .ok (.iconst 1, 1) := by decide +kernel
theorem dX12_puts_29 : decode cX12_puts 29 = .ok (.iadd, 1) := by decide +kernel
theorem dX12_puts_30 : decode cX12_puts 30 = .ok (.putfield 239, 3) := by decide +kernel
theorem dX12_puts_33 : decode cX12_puts 33 = .ok (.iinc 2 (-8), 3) := by decide +kernel
theorem dX12_puts_36 : decode cX12_puts 36 = .ok (.goto (-33), 3) := by decide +kernel
theorem dX12_puts_39 : decode cX12_puts 39 = .ok (.return_, 1) := by decide +kernel
theorem dX12_feed_0 : decode cX12_feed 0 = .ok (.aload_n 0, 1) := by decide +kernel
theorem dX12_feed_1 : decode cX12_feed 1 = .ok (.iconst 0, 1) := by decide +kernel
theorem dX12_feed_2 : decode cX12_feed 2 = .ok (.putfield 167, 3) := by decide +kernel
theorem dX12_feed_5 : decode cX12_feed 5 = .ok (.aload_n 0, 1) := by decide +kernel
theorem dX12_feed_6 : decode cX12_feed 6 = .ok (.getfield 239, 3) := by decide +kernel
theorem dX12_feed_9 : decode cX12_feed 9 = .ok (.sipush 380, 3) := by decide +kernel
theorem dX12_feed_12 : decode cX12_feed 12 = .ok (.if_icmp .le 5, 3) := by decide +kernel
theorem dX12_feed_15 : decode cX12_feed 15 = .ok (.iconst (-1), 1) := by decide +kernel
theorem dX12_feed_16 : decode cX12_feed 16 = .ok (.ireturn, 1) := by decide +kernel
theorem dX12_feed_17 : decode cX12_feed 17 = .ok (.aload_n 0, 1) := by decide +kernel
theorem dX12_feed_18 : decode cX12_feed 18 = .ok (.iload_n 1, 1) := by decide +kernel
theorem dX12_feed_19 : decode cX12_feed 19 = .ok (.invokevirtual 242, 3) := by decide +kernel
theorem dX12_feed_22 : decode cX12_feed 22 = .ok (.aload_n 0, 1) := by decide +kernel
theorem dX12_feed_23 : decode cX12_feed 23 = .ok (.iload_n 2, 1) := by decide +kernel
theorem dX12_feed_24 : decode cX12_feed 24 = .ok (.invokevirtual 242, 3) := by decide +kernel
theorem dX12_feed_27 : decode cX12_feed 27 = .ok (.aload_n 0, 1) := by decide +kernel
theorem dX12_feed_28 : decode cX12_feed 28 = .ok (.iload_n 3, 1) := by decide +kernel
theorem dX12_feed_29 : decode cX12_feed 29 = .ok (.invokevirtual 242, 3) := by decide +kernel
theorem dX12_feed_32 : decode cX12_feed 32 = .ok (.aload_n 0, 1) := by decide +kernel
theorem dX12_feed_33 : decode cX12_feed 33 = .ok (.iload 4, 2) := by decide +kernel
theorem dX12_feed_35 : decode cX12_feed 35 = .ok (.invokevirtual 242, 3) := by decide +kernel
theorem dX12_feed_38 : decode cX12_feed 38 = .ok (.aload_n 0, 1) := by decide +kernel
theorem dX12_feed_39 : decode cX12_feed 39 = .ok (.iload 5, 2) := by decide +kernel
theorem dX12_feed_41 : decode cX12_feed 41 = .ok (.invokevirtual 242, 3) := by decide +kernel
theorem dX12_feed_44 : decode cX12_feed 44 = .ok (.aload_n 0, 1) := by decide +kernel
theorem dX12_feed_45 : decode cX12_feed 45 = .ok (.getfield 239, 3) := by decide +kernel
theorem dX12_feed_48 : decode cX12_feed 48 = .ok (.ireturn, 1) := by decide +kernel
theorem dX12_end_0 : decode cX12_end 0 = .ok (.aload_n 0, 1) := by decide +kernel
theorem dX12_end_1 : decode cX12_end 1 = .ok (.iconst 0, 1) := by decide +kernel
theorem dX12_end_2 : decode cX12_end 2 = .ok (.putfield 167, 3) := by decide +kernel
theorem dX12_end_5 : decode cX12_end 5 = .ok (.aload_n 0, 1) := by decide +kernel
theorem dX12_end_6 : decode cX12_end 6 = .ok (.iload_n 1, 1) := by decide +kernel
theorem dX12_end_7 : decode cX12_end 7 = .ok (.iconst 0, 1) := by decide +kernel
theorem dX12_end_8 : decode cX12_end 8 = .ok (.aload_n 0, 1) := by decide +kernel
theorem dX12_end_9 : decode cX12_end 9 = .ok (.getfield 239, 3) := by decide +kernel
theorem dX12_end_12 : decode cX12_end 12 = .ok (.invokevirtual 170, 3) := by decide +kernel
theorem dX12_end_15 : decode cX12_end 15 = .ok (.ifCond .ne 5, 3) := by decide +kernel
theorem dX12_end_18 : decode cX12_end 18 = .ok (.iconst 0, 1) := by decide +kernel
theorem dX12_end_19 : decode cX12_end 19 = .ok (.ireturn, 1) := by decide +kernel
theorem dX12_end_20 : decode cX12_end 20 = .ok (.aload_n 0, 1) := by decide +kernel
theorem dX12_end_21 : decode cX12_end 21 = .ok (.iload_n 1, 1) := by decide +kernel
theorem dX12_end_22 : decode cX12_end 22 = .ok (.putfield 239, 3) := by decide +kernel
theorem dX12_end_25 : decode cX12_end 25 = .ok (.iconst 1, 1) := by decide +kernel
theorem dX12_end_26 : decode cX12_end 26 = .ok (.ireturn, 1) := by decide +kernel
theorem dX12_raw_0 : decode cX12_raw 0 = .ok (.iload_n 1, 1) := by decide +kernel
theorem dX12_raw_1 : decode cX12_raw 1 = .ok (.aload_n 0, 1) := by decide +kernel
theorem dX12_raw_2 : decode cX12_raw 2 = .ok (.getfield 239, 3) := by decide +kernel
theorem dX12_raw_5 : decode cX12_raw 5 = .ok (.if_icmp .ge 12, 3) := by decide +kernel
theorem dX12_raw_8 : decode cX12_raw 8 = .ok (.aload_n 0, 1) := by decide +kernel
theorem dX12_raw_9 : decode cX12_raw 9 = .ok (.getfield 95, 3) := by decide +kernel
theorem dX12_raw_12 : decode cX12_raw 12 = .ok (.iload_n 1, 1) := by decide +kernel
theorem dX12_raw_13 : decode cX12_raw 13 = .ok (.iaload, 1) := by decide +kernel
theorem dX12_raw_14 : decode cX12_raw 14 = .ok (.goto 4, 3) := by decide +kernel
theorem dX12_raw_17 : decode cX12_raw 17 = .ok (.iconst (-1), 1) := by decide +kernel
theorem dX12_raw_18 : decode cX12_raw 18 = .ok (.ireturn, 1) := by decide +kernel
theorem dX12_isLetter_0 : decode cX12_isLetter 0 = .ok (.aload_n 0, 1) := by decide +kernel
theorem dX12_isLetter_1 : decode cX12_isLetter 1 = .ok (.iload_n 1, 1) := by decide +kernel
theorem dX12_isLetter_2 : decode cX12_isLetter 2 = .ok (.bipush 97, 2) := by decide +kernel
theorem dX12_isLetter_4 : decode cX12_isLetter 4 = .ok (.bipush 122, 2) := by decide +kernel
theorem dX12_isLetter_6 : decode cX12_isLetter 6 = .ok (.invokevirtual 170, 3) := by decide +kernel
theorem dX12_isLetter_9 : decode cX12_isLetter 9 = .ok (.ifCond .ne 15, 3) := by decide +kernel
theorem dX12_isLetter_12 : decode cX12_isLetter 12 = .ok (.aload_n 0, 1) := by decide +kernel
theorem dX12_isLetter_13 : decode cX12_isLetter 13 = .ok (.iload_n 1, 1) := by decide +kernel
theorem dX12_isLetter_14 : decode cX12_isLetter 14 = .ok (.bipush 65, 2) := by decide +kernel
theorem dX12_isLetter_16 : decode cX12_isLetter 16 = .ok (.bipush 90, 2) := by decide +kernel
theorem dX12_isLetter_18 : decode cX12_isLetter 18 = .ok (.invokevirtual 170, 3) := by decide +kernel
theorem dX12_isLetter_21 : decode cX12_isLetter 21 = .ok (.ifCond .eq 7, 3) := by decide +kernel
theorem dX12_isLetter_24 : decode cX12_isLetter 24 = .ok (.iconst 1, 1) := by decide +kernel
theorem dX12_isLetter_25 : decode cX12_isLetter 25 = .ok (.goto 4, 3) := by decide +kernel
theorem dX12_isLetter_28 : decode cX12_isLetter 28 = .ok (.iconst 0, 1) := by decide +kernel
theorem dX12_isLetter_29 : decode cX12_isLetter 29 = .ok (.ireturn, 1) := by decide +kernel
theorem dX12_isDigit_0 : decode cX12_isDigit 0 = .ok (.aload_n 0, 1) := by decide +kernel
theorem dX12_isDigit_1 : decode cX12_isDigit 1 = .ok (.iload_n 1, 1) := by decide +kernel
theorem dX12_isDigit_2 : decode cX12_isDigit 2 = .ok (.bipush 48, 2) := by decide +kernel
theorem dX12_isDigit_4 : decode cX12_isDigit 4 = .ok (.bipush 57, 2) := by decide +kernel
theorem dX12_isDigit_6 : decode cX12_isDigit 6 = .ok (.invokevirtual 170, 3) := by decide +kernel
theorem dX12_isDigit_9 : decode cX12_isDigit 9 = .ok (.ireturn, 1) := by decide +kernel
theorem dX12_isMarkSign_0 : decode cX12_isMarkSign 0 = .ok (.iload_n 1, 1) := by decide +kernel
theorem dX12_isMarkSign_1 : decode cX12_isMarkSign 1 = .ok (.bipush 59, 2) := by decide +kernel
theorem dX12_isMarkSign_3 : decode cX12_isMarkSign 3 = .ok (.if_icmp .eq 33, 3) := by decide +kernel
theorem dX12_isMarkSign_6 : decode cX12_isMarkSign 6 = .ok (.iload_n 1, 1) := by decide +kernel
theorem dX12_isMarkSign_7 : decode cX12_isMarkSign 7 = .ok (.bipush 43, 2) := by decide +kernel
theorem dX12_isMarkSign_9 : decode cX12_isMarkSign 9 = .ok (.if_icmp .eq 27, 3) := by decide +kernel
theorem dX12_isMarkSign_12 : decode cX12_isMarkSign 12 = .ok (.iload_n 1, 1) := by decide +kernel
theorem dX12_isMarkSign_13 : decode cX12_isMarkSign 13 = .ok (.bipush 45, 2) := by decide +kernel
theorem dX12_isMarkSign_15 : decode cX12_isMarkSign 15 = .ok (.if_icmp .eq 21, 3) := by decide +kernel
theorem dX12_isMarkSign_18 : decode cX12_isMarkSign 18 = .ok (.iload_n 1, 1) := by decide +kernel
theorem dX12_isMarkSign_19 : decode cX12_isMarkSign 19 = .ok (.bipush 60, 2) := by decide +kernel
theorem dX12_isMarkSign_21 : decode cX12_isMarkSign 21 = .ok (.if_icmp .eq 15, 3) := by decide +kernel
theorem dX12_isMarkSign_24 : decode cX12_isMarkSign 24 = .ok (.iload_n 1, 1) := by decide +kernel
theorem dX12_isMarkSign_25 : decode cX12_isMarkSign 25 = .ok (.bipush 61, 2) := by decide +kernel
theorem dX12_isMarkSign_27 : decode cX12_isMarkSign 27 = .ok (.if_icmp .eq 9, 3) := by decide +kernel
theorem dX12_isMarkSign_30 : decode cX12_isMarkSign 30 = .ok (.iload_n 1, 1) := by decide +kernel
theorem dX12_isMarkSign_31 : decode cX12_isMarkSign 31 = .ok (.bipush 62, 2) := by decide +kernel
theorem dX12_isMarkSign_33 : decode cX12_isMarkSign 33 = .ok (.if_icmp .ne 7, 3) := by decide +kernel
theorem dX12_isMarkSign_36 : decode cX12_isMarkSign 36 = .ok (.iconst 1, 1) := by decide +kernel
theorem dX12_isMarkSign_37 : decode cX12_isMarkSign 37 = .ok (.goto 4, 3) := by decide +kernel
theorem dX12_isMarkSign_40 : decode cX12_isMarkSign 40 = .ok (.iconst 0, 1) := by decide +kernel
theorem dX12_isMarkSign_41 : decode cX12_isMarkSign 41 = .ok (.ireturn, 1) := by decide +kernel
theorem dX12_wordAt_0 : decode cX12_wordAt 0 = .ok (.iconst (-1), 1) := by decide +kernel
theorem dX12_wordAt_1 : decode cX12_wordAt 1 = .ok (.istore_n 3, 1) := by decide +kernel
theorem dX12_wordAt_2 : decode cX12_wordAt 2 = .ok (.iconst 0, 1) := by decide +kernel
theorem dX12_wordAt_3 : decode cX12_wordAt 3 = .ok (.istore 4, 2) := by decide +kernel
theorem dX12_wordAt_5 : decode cX12_wordAt 5 = .ok (.iload 4, 2) := by decide +kernel
theorem dX12_wordAt_7 : decode cX12_wordAt 7 = .ok (.bipush 82, 2) := by decide +kernel
theorem dX12_wordAt_9 : decode cX12_wordAt 9 = .ok (.if_icmp .ge 108, 3) := by decide +kernel
theorem dX12_wordAt_12 : decode cX12_wordAt 12 = .ok (.iconst 0, 1) := by decide +kernel
theorem dX12_wordAt_13 : decode cX12_wordAt 13 = .ok (.istore 5, 2) := by decide +kernel
theorem dX12_wordAt_15 : decode cX12_wordAt 15 = .ok (.iload_n 3, 1) := by decide +kernel
theorem dX12_wordAt_16 : decode cX12_wordAt 16 = .ok (.iconst 1, 1) := by decide +kernel
theorem dX12_wordAt_17 : decode cX12_wordAt 17 = .ok (.iadd, 1) := by decide +kernel
theorem dX12_wordAt_18 : decode cX12_wordAt 18 = .ok (.istore_n 3, 1) := by decide +kernel
theorem dX12_wordAt_19 : decode cX12_wordAt 19 = .ok (.iload_n 1, 1) := by decide +kernel
theorem dX12_wordAt_20 : decode cX12_wordAt 20 = .ok (.iload 5, 2) := by decide +kernel
theorem dX12_wordAt_22 : decode cX12_wordAt 22 = .ok (.iadd, 1) := by decide +kernel
theorem dX12_wordAt_23 : decode cX12_wordAt 23 = .ok (.iload_n 2, 1) := by decide +kernel
theorem dX12_wordAt_24 : decode cX12_wordAt 24 = .ok (.if_icmp .ge 36, 3) := by decide +kernel
theorem dX12_wordAt_27 : decode cX12_wordAt 27 = .ok (.aload_n 0, 1) := by decide +kernel
theorem dX12_wordAt_28 : decode cX12_wordAt 28 = .ok (.getfield 98, 3) := by decide +kernel
theorem dX12_wordAt_31 : decode cX12_wordAt 31 = .ok (.iload 4, 2) := by decide +kernel
theorem dX12_wordAt_33 : decode cX12_wordAt 33 = .ok (.iconst 1, 1) := by decide +kernel
theorem dX12_wordAt_34 : decode cX12_wordAt 34 = .ok (.iadd, 1) := by decide +kernel
theorem dX12_wordAt_35 : decode cX12_wordAt 35 = .ok (.iload 5, 2) := by decide +kernel
theorem dX12_wordAt_37 : decode cX12_wordAt 37 = .ok (.iadd, 1) := by decide +kernel
theorem dX12_wordAt_38 : decode cX12_wordAt 38 = .ok (.iaload, 1) := by decide +kernel
theorem dX12_wordAt_39 : decode cX12_wordAt 39 = .ok (.aload_n 0, 1) := by decide +kernel
theorem dX12_wordAt_40 : decode cX12_wordAt 40 = .ok (.getfield 95, 3) := by decide +kernel
theorem dX12_wordAt_43 : decode cX12_wordAt 43 = .ok (.iload_n 1, 1) := by decide +kernel
theorem dX12_wordAt_44 : decode cX12_wordAt 44 = .ok (.iload 5, 2) := by decide +kernel
theorem dX12_wordAt_46 : decode cX12_wordAt 46 = .ok (.iadd, 1) := by decide +kernel
theorem dX12_wordAt_47 : decode cX12_wordAt 47 = .ok (.iaload, 1) := by decide +kernel
theorem dX12_wordAt_48 : decode cX12_wordAt 48 = .ok (.if_icmp .ne 12, 3) := by decide +kernel
theorem dX12_wordAt_51 : decode cX12_wordAt 51 = .ok (.iload 5, 2) := by decide +kernel
theorem dX12_wordAt_53 : decode cX12_wordAt 53 = .ok (.iconst 1, 1) := by decide +kernel
theorem dX12_wordAt_54 : decode cX12_wordAt 54 = .ok (.iadd, 1) := by decide +kernel
theorem dX12_wordAt_55 : decode cX12_wordAt 55 = .ok (.istore 5, 2) := by decide +kernel
theorem dX12_wordAt_57 : decode cX12_wordAt 57 = .ok (.goto (-38), 3) := by decide +kernel
theorem dX12_wordAt_60 : decode cX12_wordAt 60 = .ok (.iload_n 1, 1) := by decide +kernel
theorem dX12_wordAt_61 : decode cX12_wordAt 61 = .ok (.iload 5, 2) := by decide +kernel
theorem dX12_wordAt_63 : decode cX12_wordAt 63 = .ok (.iadd, 1) := by decide +kernel
theorem dX12_wordAt_64 : decode cX12_wordAt 64 = .ok (.iload_n 2, 1) := by decide +kernel
theorem dX12_wordAt_65 : decode cX12_wordAt 65 = .ok (.if_icmp .ne 22, 3) := by decide +kernel
theorem dX12_wordAt_68 : decode cX12_wordAt 68 = .ok (.aload_n 0, 1) := by decide +kernel
theorem dX12_wordAt_69 : decode cX12_wordAt 69 = .ok (.getfield 98, 3) := by decide +kernel
theorem dX12_wordAt_72 : decode cX12_wordAt 72 = .ok (.iload 4, 2) := by decide +kernel
theorem dX12_wordAt_74 : decode cX12_wordAt 74 = .ok (.iconst 1, 1) := by decide +kernel
theorem dX12_wordAt_75 : decode cX12_wordAt 75 = .ok (.iadd, 1) := by decide +kernel
theorem dX12_wordAt_76 : decode cX12_wordAt 76 = .ok (.iload 5, 2) := by decide +kernel
theorem dX12_wordAt_78 : decode cX12_wordAt 78 = .ok (.iadd, 1) := by decide +kernel
theorem dX12_wordAt_79 : decode cX12_wordAt 79 = .ok (.iaload, 1) := by decide +kernel
theorem dX12_wordAt_80 : decode cX12_wordAt 80 = .ok (.bipush 32, 2) := by decide +kernel
theorem dX12_wordAt_82 : decode cX12_wordAt 82 = .ok (.if_icmp .ne 5, 3) := by decide +kernel
theorem dX12_wordAt_85 : decode cX12_wordAt 85 = .ok (.iload_n 3, 1) := by decide +kernel
theorem dX12_wordAt_86 : decode cX12_wordAt 86 = .ok (.ireturn, 1) := by decide +kernel
theorem dX12_wordAt_87 : decode cX12_wordAt 87 = .ok (.iload 4, 2) := by decide +kernel
theorem dX12_wordAt_89 : decode cX12_wordAt 89 = .ok (.iconst 1, 1) := by decide +kernel
theorem dX12_wordAt_90 : decode cX12_wordAt 90 = .ok (.iadd, 1) := by decide +kernel
theorem dX12_wordAt_91 : decode cX12_wordAt 91 = .ok (.istore 4, 2) := by decide +kernel
theorem dX12_wordAt_93 : decode cX12_wordAt 93 = .ok (.aload_n 0, 1) := by decide +kernel
theorem dX12_wordAt_94 : decode cX12_wordAt 94 = .ok (.getfield 98, 3) := by decide +kernel
theorem dX12_wordAt_97 : decode cX12_wordAt 97 = .ok (.iload 4, 2) := by decide +kernel
theorem dX12_wordAt_99 : decode cX12_wordAt 99 = .ok (.iaload, 1) := by decide +kernel
theorem dX12_wordAt_100 : decode cX12_wordAt 100 = .ok (.bipush 32, 2) := by decide +kernel
theorem dX12_wordAt_102 : decode cX12_wordAt 102 = .ok (.if_icmp .eq 12, 3) := by decide +kernel
theorem dX12_wordAt_105 : decode cX12_wordAt 105 = .ok (.iload 4, 2) := by decide +kernel
theorem dX12_wordAt_107 : decode cX12_wordAt 107 = .ok (.iconst 1, 1) := by decide +kernel
theorem dX12_wordAt_108 : decode cX12_wordAt 108 = .ok (.iadd, 1) := by decide +kernel
theorem dX12_wordAt_109 : decode cX12_wordAt 109 = .ok (.istore 4, 2) := by decide +kernel
theorem dX12_wordAt_111 : decode cX12_wordAt 111 = .ok (.goto (-18), 3) := by decide +kernel
theorem dX12_wordAt_114 : decode cX12_wordAt 114 = .ok (.goto (-109), 3) := by decide +kernel
theorem dX12_wordAt_117 : decode cX12_wordAt 117 = .ok (.iconst (-1), 1) := by decide +kernel
theorem dX12_wordAt_118 : decode cX12_wordAt 118 = .ok (.ireturn, 1) := by decide +kernel
theorem dX12_reads_0 : decode cX12_reads 0 = .ok (.aload_n 0, 1) := by decide +kernel
theorem dX12_reads_1 : decode cX12_reads 1 = .ok (.aload_n 0, 1) := by decide +kernel
theorem dX12_reads_2 : decode cX12_reads 2 = .ok (.getfield 245, 3) := by decide +kernel
theorem dX12_reads_5 : decode cX12_reads 5 = .ok (.invokevirtual 248, 3) := by decide +kernel
theorem dX12_reads_8 : decode cX12_reads 8 = .ok (.bipush 32, 2) := by decide +kernel
theorem dX12_reads_10 : decode cX12_reads 10 = .ok (.if_icmp .eq 16, 3) := by decide +kernel
theorem dX12_reads_13 : decode cX12_reads 13 = .ok (.aload_n 0, 1) := by decide +kernel
theorem dX12_reads_14 : decode cX12_reads 14 = .ok (.aload_n 0, 1) := by decide +kernel
theorem dX12_reads_15 : decode cX12_reads 15 = .ok (.getfield 245, 3) := by decide +kernel
theorem dX12_reads_18 : decode cX12_reads 18 = .ok (.invokevirtual 248, 3) := by decide +kernel
theorem dX12_reads_21 : decode cX12_reads 21 = .ok (.bipush 10, 2) := by decide +kernel
theorem dX12_reads_23 : decode cX12_reads 23 = .ok (.if_icmp .ne 16, 3) := by decide +kernel
theorem dX12_reads_26 : decode cX12_reads 26 = .ok (.aload_n 0, 1) := by decide +kernel
theorem dX12_reads_27 : decode cX12_reads 27 = .ok (.aload_n 0, 1) := by decide +kernel
theorem dX12_reads_28 : decode cX12_reads 28 = .ok (.getfield 245, 3) := by decide +kernel
theorem dX12_reads_31 : decode cX12_reads 31 = .ok (.iconst 1, 1) := by decide +kernel
theorem dX12_reads_32 : decode cX12_reads 32 = .ok (.iadd, 1) := by decide +kernel
theorem dX12_reads_33 : decode cX12_reads 33 = .ok (.putfield 245, 3) := by decide +kernel
theorem dX12_reads_36 : decode cX12_reads 36 = .ok (.goto (-36), 3) := by decide +kernel
theorem dX12_reads_39 : decode cX12_reads 39 = .ok (.aload_n 0, 1) := by decide +kernel
theorem dX12_reads_40 : decode cX12_reads 40 = .ok (.aload_n 0, 1) := by decide +kernel
theorem dX12_reads_41 : decode cX12_reads 41 = .ok (.getfield 245, 3) := by decide +kernel
theorem dX12_reads_44 : decode cX12_reads 44 = .ok (.putfield 251, 3) := by decide +kernel
theorem dX12_reads_47 : decode cX12_reads 47 = .ok (.aload_n 0, 1) := by decide +kernel
theorem dX12_reads_48 : decode cX12_reads 48 = .ok (.iconst 1, 1) := by decide +kernel
theorem dX12_reads_49 : decode cX12_reads 49 = .ok (.putfield 254, 3) := by decide +kernel
theorem dX12_reads_52 : decode cX12_reads 52 = .ok (.aload_n 0, 1) := by decide +kernel
theorem dX12_reads_53 : decode cX12_reads 53 = .ok (.aload_n 0, 1) := by decide +kernel
theorem dX12_reads_54 : decode cX12_reads 54 = .ok (.getfield 245, 3) := by decide +kernel
theorem dX12_reads_57 : decode cX12_reads 57 = .ok (.invokevirtual 248, 3) := by decide +kernel
theorem dX12_reads_60 : decode cX12_reads 60 = .ok (.istore_n 1, 1) := by decide +kernel
theorem dX12_reads_61 : decode cX12_reads 61 = .ok (.iload_n 1, 1) := by decide +kernel
theorem dX12_reads_62 : decode cX12_reads 62 = .ok (.iconst (-1), 1) := by decide +kernel
theorem dX12_reads_63 : decode cX12_reads 63 = .ok (.if_icmp .ne 9, 3) := by decide +kernel
theorem dX12_reads_66 : decode cX12_reads 66 = .ok (.aload_n 0, 1) := by decide +kernel
theorem dX12_reads_67 : decode cX12_reads 67 = .ok (.iconst 0, 1) := by decide +kernel
theorem dX12_reads_68 : decode cX12_reads 68 = .ok (.putfield 254, 3) := by decide +kernel
theorem dX12_reads_71 : decode cX12_reads 71 = .ok (.return_, 1) := by decide +kernel
theorem dX12_reads_72 : decode cX12_reads 72 = .ok (.aload_n 0, 1) := by decide +kernel
theorem dX12_reads_73 : decode cX12_reads 73 = .ok (.aload_n 0, 1) := by decide +kernel
theorem dX12_reads_74 : decode cX12_reads 74 = .ok (.getfield 245, 3) := by decide +kernel
theorem dX12_reads_77 : decode cX12_reads 77 = .ok (.iconst 1, 1) := by decide +kernel
theorem dX12_reads_78 : decode cX12_reads 78 = .ok (.iadd, 1) := by decide +kernel
theorem dX12_reads_79 : decode cX12_reads 79 = .ok (.putfield 245, 3) := by decide +kernel
theorem dX12_reads_82 : decode cX12_reads 82 = .ok (.aload_n 0, 1) := by decide +kernel
theorem dX12_reads_83 : decode cX12_reads 83 = .ok (.iload_n 1, 1) := by decide +kernel
theorem dX12_reads_84 : decode cX12_reads 84 = .ok (.putfield 257, 3) := by decide +kernel
theorem dX12_reads_87 : decode cX12_reads 87 = .ok (.aload_n 0, 1) := by decide +kernel
theorem dX12_reads_88 : decode cX12_reads 88 = .ok (.iload_n 1, 1) := by decide +kernel
theorem dX12_reads_89 : decode cX12_reads 89 = .ok (.invokevirtual 260, 3) := by decide +kernel
theorem dX12_reads_92 : decode cX12_reads 92 = .ok (.ifCond .eq 63, 3) := by decide +kernel
theorem dX12_reads_95 : decode cX12_reads 95 = .ok (.aload_n 0, 1) := by decide +kernel
theorem dX12_reads_96 : decode cX12_reads 96 = .ok (.aload_n 0, 1) := by decide +kernel
theorem dX12_reads_97 : decode cX12_reads 97 = .ok (.aload_n 0, 1) := by decide +kernel
theorem dX12_reads_98 : decode cX12_reads 98 = .ok (.getfield 245, 3) := by decide +kernel
theorem dX12_reads_101 : decode cX12_reads 101 = .ok (.invokevirtual 248, 3) := by decide +kernel
theorem dX12_reads_104 : decode cX12_reads 104 = .ok (.invokevirtual 260, 3) := by decide +kernel
theorem dX12_reads_107 : decode cX12_reads 107 = .ok (.ifCond .eq 16, 3) := by decide +kernel
theorem dX12_reads_110 : decode cX12_reads 110 = .ok (.aload_n 0, 1) := by decide +kernel
theorem dX12_reads_111 : decode cX12_reads 111 = .ok (.aload_n 0, 1) := by decide +kernel
theorem dX12_reads_112 : decode cX12_reads 112 = .ok (.getfield 245, 3) := by decide +kernel
theorem dX12_reads_115 : decode cX12_reads 115 = .ok (.iconst 1, 1) := by decide +kernel
theorem dX12_reads_116 : decode cX12_reads 116 = .ok (.iadd, 1) := by decide +kernel
theorem dX12_reads_117 : decode cX12_reads 117 = .ok (.putfield 245, 3) := by decide +kernel
theorem dX12_reads_120 : decode cX12_reads 120 = .ok (.goto (-25), 3) := by decide +kernel
theorem dX12_reads_123 : decode cX12_reads 123 = .ok (.aload_n 0, 1) := by decide +kernel
theorem dX12_reads_124 : decode cX12_reads 124 = .ok (.aload_n 0, 1) := by decide +kernel
theorem dX12_reads_125 : decode cX12_reads 125 = .ok (.aload_n 0, 1) := by decide +kernel
theorem dX12_reads_126 : decode cX12_reads 126 = .ok (.getfield 251, 3) := by decide +kernel
theorem dX12_reads_129 : decode cX12_reads 129 = .ok (.aload_n 0, 1) := by decide +kernel
theorem dX12_reads_130 : decode cX12_reads 130 = .ok (.getfield 245, 3) := by decide +kernel
theorem dX12_reads_133 : decode cX12_reads 133 = .ok (.invokevirtual 263, 3) := by decide +kernel
theorem dX12_reads_136 : decode cX12_reads 136 = .ok (.putfield 257, 3) := by decide +kernel
theorem dX12_reads_139 : decode cX12_reads 139 = .ok (.aload_n 0, 1) := by decide +kernel
theorem dX12_reads_140 : decode cX12_reads 140 = .ok (.getfield 257, 3) := by decide +kernel
theorem dX12_reads_143 : decode cX12_reads 143 = .ok (.iconst (-1), 1) := by decide +kernel
theorem dX12_reads_144 : decode cX12_reads 144 = .ok (.if_icmp .eq 129, 3) := by decide +kernel
theorem dX12_reads_147 : decode cX12_reads 147 = .ok (.aload_n 0, 1) := by decide +kernel
theorem dX12_reads_148 : decode cX12_reads 148 = .ok (.iconst 2, 1) := by decide +kernel
theorem dX12_reads_149 : decode cX12_reads 149 = .ok (.putfield 254, 3) := by decide +kernel
theorem dX12_reads_152 : decode cX12_reads 152 = .ok (.goto 121, 3) := by decide +kernel
theorem dX12_reads_155 : decode cX12_reads 155 = .ok (.aload_n 0, 1) := by decide +kernel
theorem dX12_reads_156 : decode cX12_reads 156 = .ok (.iload_n 1, 1) := by decide +kernel
theorem dX12_reads_157 : decode cX12_reads 157 = .ok (.invokevirtual 267, 3) := by decide +kernel
theorem dX12_reads_160 : decode cX12_reads 160 = .ok (.ifCond .eq 100, 3) := by decide +kernel
theorem dX12_reads_163 : decode cX12_reads 163 = .ok (.aload_n 0, 1) := by decide +kernel
theorem dX12_reads_164 : decode cX12_reads 164 = .ok (.iload_n 1, 1) := by decide +kernel
theorem dX12_reads_165 : decode cX12_reads 165 = .ok (.bipush 48, 2) := by decide +kernel
theorem dX12_reads_167 : decode cX12_reads 167 = .ok (.isub, 1) := by decide +kernel
theorem dX12_reads_168 : decode cX12_reads 168 = .ok (.putfield 257, 3) := by decide +kernel
theorem dX12_reads_171 : decode cX12_reads 171 = .ok (.aload_n 0, 1) := by decide +kernel
theorem dX12_reads_172 : decode cX12_reads 172 = .ok (.aload_n 0, 1) := by decide +kernel
theorem dX12_reads_173 : decode cX12_reads 173 = .ok (.aload_n 0, 1) := by decide +kernel
theorem dX12_reads_174 : decode cX12_reads 174 = .ok (.getfield 245, 3) := by decide +kernel
theorem dX12_reads_177 : decode cX12_reads 177 = .ok (.invokevirtual 248, 3) := by decide +kernel
theorem dX12_reads_180 : decode cX12_reads 180 = .ok (.invokevirtual 267, 3) := by decide +kernel
theorem dX12_reads_183 : decode cX12_reads 183 = .ok (.ifCond .eq 56, 3) := by decide +kernel
theorem dX12_reads_186 : decode cX12_reads 186 = .ok (.aload_n 0, 1) := by decide +kernel
theorem dX12_reads_187 : decode cX12_reads 187 = .ok (.aload_n 0, 1) := by decide +kernel
theorem dX12_reads_188 : decode cX12_reads 188 = .ok (.getfield 257, 3) := by decide +kernel
theorem dX12_reads_191 : decode cX12_reads 191 = .ok (.sipush 10000, 3) := by decide +kernel
theorem dX12_reads_194 : decode cX12_reads 194 = .ok (.if_icmp .ge 25, 3) := by decide +kernel
theorem dX12_reads_197 : decode cX12_reads 197 = .ok (.bipush 10, 2) := by decide +kernel
theorem dX12_reads_199 : decode cX12_reads 199 = .ok (.aload_n 0, 1) := by decide +kernel
theorem dX12_reads_200 : decode cX12_reads 200 = .ok (.getfield 257, 3) := by decide +kernel
theorem dX12_reads_203 : decode cX12_reads 203 = .ok (.imul, 1) := by decide +kernel
theorem dX12_reads_204 : decode cX12_reads 204 = .ok (.aload_n 0, 1) := by decide +kernel
theorem dX12_reads_205 : decode cX12_reads 205 = .ok (.aload_n 0, 1) := by decide +kernel
theorem dX12_reads_206 : decode cX12_reads 206 = .ok (.getfield 245, 3) := by decide +kernel
theorem dX12_reads_209 : decode cX12_reads 209 = .ok (.invokevirtual 248, 3) := by decide +kernel
theorem dX12_reads_212 : decode cX12_reads 212 = .ok (.iadd, 1) := by decide +kernel
theorem dX12_reads_213 : decode cX12_reads 213 = .ok (.bipush 48, 2) := by decide +kernel
theorem dX12_reads_215 : decode cX12_reads 215 = .ok (.isub, 1) := by decide +kernel
theorem dX12_reads_216 : decode cX12_reads 216 = .ok (.goto 7, 3) := by decide +kernel
theorem dX12_reads_219 : decode cX12_reads 219 = .ok (.aload_n 0, 1) := by decide +kernel
theorem dX12_reads_220 : decode cX12_reads 220 = .ok (.getfield 257, 3) := by decide +kernel
theorem dX12_reads_223 : decode cX12_reads 223 = .ok (.putfield 257, 3) := by decide +kernel
theorem dX12_reads_226 : decode cX12_reads 226 = .ok (.aload_n 0, 1) := by decide +kernel
theorem dX12_reads_227 : decode cX12_reads 227 = .ok (.aload_n 0, 1) := by decide +kernel
theorem dX12_reads_228 : decode cX12_reads 228 = .ok (.getfield 245, 3) := by decide +kernel
theorem dX12_reads_231 : decode cX12_reads 231 = .ok (.iconst 1, 1) := by decide +kernel
theorem dX12_reads_232 : decode cX12_reads 232 = .ok (.iadd, 1) := by decide +kernel
theorem dX12_reads_233 : decode cX12_reads 233 = .ok (.putfield 245, 3) := by decide +kernel
theorem dX12_reads_236 : decode cX12_reads 236 = .ok (.goto (-65), 3) := by decide +kernel
theorem dX12_reads_239 : decode cX12_reads 239 = .ok (.aload_n 0, 1) := by decide +kernel
theorem dX12_reads_240 : decode cX12_reads 240 = .ok (.getfield 245, 3) := by decide +kernel
theorem dX12_reads_243 : decode cX12_reads 243 = .ok (.aload_n 0, 1) := by decide +kernel
theorem dX12_reads_244 : decode cX12_reads 244 = .ok (.getfield 251, 3) := by decide +kernel
theorem dX12_reads_247 : decode cX12_reads 247 = .ok (.isub, 1) := by decide +kernel
theorem dX12_reads_248 : decode cX12_reads 248 = .ok (.iconst 5, 1) := by decide +kernel
theorem dX12_reads_249 : decode cX12_reads 249 = .ok (.if_icmp .ge 24, 3) := by decide +kernel
theorem dX12_reads_252 : decode cX12_reads 252 = .ok (.aload_n 0, 1) := by decide +kernel
theorem dX12_reads_253 : decode cX12_reads 253 = .ok (.iconst 3, 1) := by decide +kernel
theorem dX12_reads_254 : decode cX12_reads 254 = .ok (.putfield 254, 3) := by decide +kernel
theorem dX12_reads_257 : decode cX12_reads 257 = .ok (.goto 16, 3) := by decide +kernel
theorem dX12_reads_260 : decode cX12_reads 260 = .ok (.aload_n 0, 1) := by decide +kernel
theorem dX12_reads_261 : decode cX12_reads 261 = .ok (.iload_n 1, 1) := by decide +kernel
theorem dX12_reads_262 : decode cX12_reads 262 = .ok (.invokevirtual 270, 3) := by decide +kernel
theorem dX12_reads_265 : decode cX12_reads 265 = .ok (.ifCond .eq 8, 3) := by decide +kernel
theorem dX12_reads_268 : decode cX12_reads 268 = .ok (.aload_n 0, 1) := by decide +kernel
theorem dX12_reads_269 : decode cX12_reads 269 = .ok (.iconst 4, 1) := by decide +kernel
theorem dX12_reads_270 : decode cX12_reads 270 = .ok (.putfield 254, 3) := by decide +kernel
theorem dX12_reads_273 : decode cX12_reads 273 = .ok (.return_, 1) := by decide +kernel
theorem dX12_fails_0 : decode cX12_fails 0 = .ok (.aload_n 0, 1) := by decide +kernel
theorem dX12_fails_1 : decode cX12_fails 1 = .ok (.iload_n 1, 1) := by decide +kernel
theorem dX12_fails_2 : decode cX12_fails 2 = .ok (.putfield 273, 3) := by decide +kernel
theorem dX12_fails_5 : decode cX12_fails 5 = .ok (.aload_n 0, 1) := by decide +kernel
theorem dX12_fails_6 : decode cX12_fails 6 = .ok (.aload_n 0, 1) := by decide +kernel
theorem dX12_fails_7 : decode cX12_fails 7 = .ok (.getfield 251, 3) := by decide +kernel
theorem dX12_fails_10 : decode cX12_fails 10 = .ok (.putfield 276, 3) := by decide +kernel
theorem dX12_fails_13 : decode cX12_fails 13 = .ok (.iconst (-1), 1) := by decide +kernel
theorem dX12_fails_14 : decode cX12_fails 14 = .ok (.ireturn, 1) := by decide +kernel
theorem dX12_isWord_0 : decode cX12_isWord 0 = .ok (.aload_n 0, 1) := by decide +kernel
theorem dX12_isWord_1 : decode cX12_isWord 1 = .ok (.getfield 254, 3) := by decide +kernel
theorem dX12_isWord_4 : decode cX12_isWord 4 = .ok (.iconst 2, 1) := by decide +kernel
theorem dX12_isWord_5 : decode cX12_isWord 5 = .ok (.if_icmp .ne 15, 3) := by decide +kernel
theorem dX12_isWord_8 : decode cX12_isWord 8 = .ok (.aload_n 0, 1) := by decide +kernel
theorem dX12_isWord_9 : decode cX12_isWord 9 = .ok (.getfield 257, 3) := by decide +kernel
theorem dX12_isWord_12 : decode cX12_isWord 12 = .ok (.iload_n 1, 1) := by decide +kernel
theorem dX12_isWord_13 : decode cX12_isWord 13 = .ok (.if_icmp .ne 7, 3) := by decide +kernel
theorem dX12_isWord_16 : decode cX12_isWord 16 = .ok (.iconst 1, 1) := by decide +kernel
theorem dX12_isWord_17 : decode cX12_isWord 17 = .ok (.goto 4, 3) := by decide +kernel
theorem dX12_isWord_20 : decode cX12_isWord 20 = .ok (.iconst 0, 1) := by decide +kernel
theorem dX12_isWord_21 : decode cX12_isWord 21 = .ok (.ireturn, 1) := by decide +kernel
theorem dX12_isSign_0 : decode cX12_isSign 0 = .ok (.aload_n 0, 1) := by decide +kernel
theorem dX12_isSign_1 : decode cX12_isSign 1 = .ok (.getfield 254, 3) := by decide +kernel
theorem dX12_isSign_4 : decode cX12_isSign 4 = .ok (.iconst 4, 1) := by decide +kernel
theorem dX12_isSign_5 : decode cX12_isSign 5 = .ok (.if_icmp .ne 15, 3) := by decide +kernel
theorem dX12_isSign_8 : decode cX12_isSign 8 = .ok (.aload_n 0, 1) := by decide +kernel
theorem dX12_isSign_9 : decode cX12_isSign 9 = .ok (.getfield 257, 3) := by decide +kernel
theorem dX12_isSign_12 : decode cX12_isSign 12 = .ok (.iload_n 1, 1) := by decide +kernel
theorem dX12_isSign_13 : decode cX12_isSign 13 = .ok (.if_icmp .ne 7, 3) := by decide +kernel
theorem dX12_isSign_16 : decode cX12_isSign 16 = .ok (.iconst 1, 1) := by decide +kernel
theorem dX12_isSign_17 : decode cX12_isSign 17 = .ok (.goto 4, 3) := by decide +kernel
theorem dX12_isSign_20 : decode cX12_isSign 20 = .ok (.iconst 0, 1) := by decide +kernel
theorem dX12_isSign_21 : decode cX12_isSign 21 = .ok (.ireturn, 1) := by decide +kernel
theorem dX12_emits_0 : decode cX12_emits 0 = .ok (.sipush 3200, 3) := by decide +kernel
theorem dX12_emits_3 : decode cX12_emits 3 = .ok (.aload_n 0, 1) := by decide +kernel
theorem dX12_emits_4 : decode cX12_emits 4 = .ok (.getfield 110, 3) := by decide +kernel
theorem dX12_emits_7 : decode cX12_emits 7 = .ok (.bipush 8, 2) := by decide +kernel
theorem dX12_emits_9 : decode cX12_emits 9 = .ok (.iaload, 1) := by decide +kernel
theorem dX12_emits_10 : decode cX12_emits 10 = .ok (.iadd, 1) := by decide +kernel
theorem dX12_emits_11 : decode cX12_emits 11 = .ok (.istore 4, 2) := by decide +kernel
theorem dX12_emits_13 : decode cX12_emits 13 = .ok (.aload_n 0, 1) := by decide +kernel
theorem dX12_emits_14 : decode cX12_emits 14 = .ok (.getfield 101, 3) := by decide +kernel
theorem dX12_emits_17 : decode cX12_emits 17 = .ok (.iload 4, 2) := by decide +kernel
theorem dX12_emits_19 : decode cX12_emits 19 = .ok (.iload_n 1, 1) := by decide +kernel
theorem dX12_emits_20 : decode cX12_emits 20 = .ok (.iastore, 1) := by decide +kernel
theorem dX12_emits_21 : decode cX12_emits 21 = .ok (.aload_n 0, 1) := by decide +kernel
theorem dX12_emits_22 : decode cX12_emits 22 = .ok (.getfield 104, 3) := by decide +kernel
theorem dX12_emits_25 : decode cX12_emits 25 = .ok (.iload 4, 2) := by decide +kernel
theorem dX12_emits_27 : decode cX12_emits 27 = .ok (.iload_n 2, 1) := by decide +kernel
theorem dX12_emits_28 : decode cX12_emits 28 = .ok (.iastore, 1) := by decide +kernel
theorem dX12_emits_29 : decode cX12_emits 29 = .ok (.aload_n 0, 1) := by decide +kernel
theorem dX12_emits_30 : decode cX12_emits 30 = .ok (.getfield 107, 3) := by decide +kernel
theorem dX12_emits_33 : decode cX12_emits 33 = .ok (.iload 4, 2) := by decide +kernel
theorem dX12_emits_35 : decode cX12_emits 35 = .ok (.iload_n 3, 1) := by decide +kernel
theorem dX12_emits_36 : decode cX12_emits 36 = .ok (.iastore, 1) := by decide +kernel
theorem dX12_emits_37 : decode cX12_emits 37 = .ok (.aload_n 0, 1) := by decide +kernel
theorem dX12_emits_38 : decode cX12_emits 38 = .ok (.getfield 110, 3) := by decide +kernel
theorem dX12_emits_41 : decode cX12_emits 41 = .ok (.bipush 8, 2) := by decide +kernel
theorem dX12_emits_43 : decode cX12_emits 43 = .ok (.aload_n 0, 1) := by decide +kernel
theorem dX12_emits_44 : decode cX12_emits 44 = .ok (.getfield 110, 3) := by decide +kernel
theorem dX12_emits_47 : decode cX12_emits 47 = .ok (.bipush 8, 2) := by decide +kernel
theorem dX12_emits_49 : decode cX12_emits 49 = .ok (.iaload, 1) := by decide +kernel
theorem dX12_emits_50 : decode cX12_emits 50 = .ok (.iconst 1, 1) := by decide +kernel
theorem dX12_emits_51 : decode cX12_emits 51 = .ok (.iadd, 1) := by decide +kernel
theorem dX12_emits_52 : decode cX12_emits 52 = .ok (.iastore, 1) := by decide +kernel
theorem dX12_emits_53 : decode cX12_emits 53 = .ok (.return_, 1) := by decide +kernel
theorem dX12_readNumber_0 : decode cX12_readNumber 0 = .ok (.aload_n 0, 1) := by decide +kernel
theorem dX12_readNumber_1 : decode cX12_readNumber 1 = .ok (.invokevirtual 279, 3) := by decide +kernel
theorem dX12_readNumber_4 : decode cX12_readNumber 4 = .ok (.aload_n 0, 1) := by decide +kernel
theorem dX12_readNumber_5 : decode cX12_readNumber 5 = .ok (.getfield 254, 3) := by decide +kernel
theorem dX12_readNumber_8 : decode cX12_readNumber 8 = .ok (.iconst 3, 1) := by decide +kernel
theorem dX12_readNumber_9 : decode cX12_readNumber 9 = .ok (.if_icmp .ne 10, 3) := by decide +kernel
theorem dX12_readNumber_12 : decode cX12_readNumber 12 = .ok (.aload_n 0, 1) := by decide +kernel
theorem dX12_readNumber_13 : decode cX12_readNumber 13 = .ok (.getfield 257, 3) := by decide +kernel
theorem dX12_readNumber_16 : decode cX12_readNumber 16 = .ok (.goto 8, 3) := by decide +kernel
theorem dX12_readNumber_19 : decode cX12_readNumber 19 = .ok (.aload_n 0, 1) := by decide +kernel
theorem dX12_readNumber_20 : decode cX12_readNumber 20 = .ok (.iconst 1, 1) := by decide +kernel
theorem dX12_readNumber_21 : decode cX12_readNumber 21 = .ok (.invokevirtual 282, 3) := by decide +kernel
theorem dX12_readNumber_24 : decode cX12_readNumber 24 = .ok (.ireturn, 1) := by decide +kernel
theorem dX12_readUnit_0 : decode cX12_readUnit 0 = .ok (.aload_n 0, 1) := by decide +kernel
theorem dX12_readUnit_1 : decode cX12_readUnit 1 = .ok (.getfield 254, 3) := by decide +kernel
theorem dX12_readUnit_4 : decode cX12_readUnit 4 = .ok (.iconst 2, 1) := by decide +kernel
theorem dX12_readUnit_5 : decode cX12_readUnit 5 = .ok (.if_icmp .ne 22, 3) := by decide +kernel
theorem dX12_readUnit_8 : decode cX12_readUnit 8 = .ok (.aload_n 0, 1) := by decide +kernel
theorem dX12_readUnit_9 : decode cX12_readUnit 9 = .ok (.aload_n 0, 1) := by decide +kernel
theorem dX12_readUnit_10 : decode cX12_readUnit 10 = .ok (.getfield 257, 3) := by decide +kernel
theorem dX12_readUnit_13 : decode cX12_readUnit 13 = .ok (.bipush 14, 2) := by decide +kernel
theorem dX12_readUnit_15 : decode cX12_readUnit 15 = .ok (.bipush 18, 2) := by decide +kernel
theorem dX12_readUnit_17 : decode cX12_readUnit 17 = .ok (.invokevirtual 170, 3) := by decide +kernel
theorem dX12_readUnit_20 : decode cX12_readUnit 20 = .ok (.ifCond .eq 7, 3) := by decide +kernel
theorem dX12_readUnit_23 : decode cX12_readUnit 23 = .ok (.iconst 1, 1) := by decide +kernel
theorem dX12_readUnit_24 : decode cX12_readUnit 24 = .ok (.goto 4, 3) := by decide +kernel
theorem dX12_readUnit_27 : decode cX12_readUnit 27 = .ok (.iconst 0, 1) := by decide +kernel
theorem dX12_readUnit_28 : decode cX12_readUnit 28 = .ok (.istore_n 2, 1) := by decide +kernel
theorem dX12_readUnit_29 : decode cX12_readUnit 29 = .ok (.iload_n 2, 1) := by decide +kernel
theorem dX12_readUnit_30 : decode cX12_readUnit 30 = .ok (.ifCond .ne 17, 3) := by decide +kernel
theorem dX12_readUnit_33 : decode cX12_readUnit 33 = .ok (.aload_n 0, 1) := by decide +kernel
theorem dX12_readUnit_34 : decode cX12_readUnit 34 = .ok (.getfield 254, 3) := by decide +kernel
theorem dX12_readUnit_37 : decode cX12_readUnit 37 = .ok (.iconst 3, 1) := by decide +kernel
theorem dX12_readUnit_38 : decode cX12_readUnit 38 = .ok (.if_icmp .eq 9, 3) := by decide +kernel
theorem dX12_readUnit_41 : decode cX12_readUnit 41 = .ok (.aload_n 0, 1) := by decide +kernel
theorem dX12_readUnit_42 : decode cX12_readUnit 42 = .ok (.iconst 1, 1) := by decide +kernel
theorem dX12_readUnit_43 : decode cX12_readUnit 43 = .ok (.invokevirtual 282, 3) := by decide +kernel
theorem dX12_readUnit_46 : decode cX12_readUnit 46 = .ok (.ireturn, 1) := by decide +kernel
theorem dX12_readUnit_47 : decode cX12_readUnit 47 = .ok (.sipush 3200, 3) := by decide +kernel
theorem dX12_readUnit_50 : decode cX12_readUnit 50 = .ok (.aload_n 0, 1) := by decide +kernel
theorem dX12_readUnit_51 : decode cX12_readUnit 51 = .ok (.getfield 285, 3) := by decide +kernel
theorem dX12_readUnit_54 : decode cX12_readUnit 54 = .ok (.iadd, 1) := by decide +kernel
theorem dX12_readUnit_55 : decode cX12_readUnit 55 = .ok (.istore_n 3, 1) := by decide +kernel
theorem dX12_readUnit_56 : decode cX12_readUnit 56 = .ok (.aload_n 0, 1) := by decide +kernel
theorem dX12_readUnit_57 : decode cX12_readUnit 57 = .ok (.getfield 122, 3) := by decide +kernel
theorem dX12_readUnit_60 : decode cX12_readUnit 60 = .ok (.iload_n 3, 1) := by decide +kernel
theorem dX12_readUnit_61 : decode cX12_readUnit 61 = .ok (.iload_n 1, 1) := by decide +kernel
theorem dX12_readUnit_62 : decode cX12_readUnit 62 = .ok (.iastore, 1) := by decide +kernel
theorem dX12_readUnit_63 : decode cX12_readUnit 63 = .ok (.aload_n 0, 1) := by decide +kernel
theorem dX12_readUnit_64 : decode cX12_readUnit 64 = .ok (.getfield 125, 3) := by decide +kernel
theorem dX12_readUnit_67 : decode cX12_readUnit 67 = .ok (.iload_n 3, 1) := by decide +kernel
theorem dX12_readUnit_68 : decode cX12_readUnit 68 = .ok (.iload_n 2, 1) := by decide +kernel
theorem dX12_readUnit_69 : decode cX12_readUnit 69 = .ok (.ifCond .eq 10, 3) := by decide +kernel
theorem dX12_readUnit_72 : decode cX12_readUnit 72 = .ok (.aload_n 0, 1) := by decide +kernel
theorem dX12_readUnit_73 : decode cX12_readUnit 73 = .ok (.getfield 257, 3) := by decide +kernel
theorem dX12_readUnit_76 : decode cX12_readUnit 76 = .ok (.goto 4, 3) := by decide +kernel
theorem dX12_readUnit_79 : decode cX12_readUnit 79 = .ok (.iconst 0, 1) := by decide +kernel
theorem dX12_readUnit_80 : decode cX12_readUnit 80 = .ok (.iastore, 1) := by decide +kernel
theorem dX12_readUnit_81 : decode cX12_readUnit 81 = .ok (.aload_n 0, 1) := by decide +kernel
theorem dX12_readUnit_82 : decode cX12_readUnit 82 = .ok (.getfield 128, 3) := by decide +kernel
theorem dX12_readUnit_85 : decode cX12_readUnit 85 = .ok (.iload_n 3, 1) := by decide +kernel
theorem dX12_readUnit_86 : decode cX12_readUnit 86 = .ok (.aload_n 0, 1) := by decide +kernel
theorem dX12_readUnit_87 : decode cX12_readUnit 87 = .ok (.getfield 257, 3) := by decide +kernel
theorem dX12_readUnit_90 : decode cX12_readUnit 90 = .ok (.iastore, 1) := by decide +kernel
theorem dX12_readUnit_91 : decode cX12_readUnit 91 = .ok (.aload_n 0, 1) := by decide +kernel
theorem dX12_readUnit_92 : decode cX12_readUnit 92 = .ok (.aload_n 0, 1) := by decide +kernel
theorem dX12_readUnit_93 : decode cX12_readUnit 93 = .ok (.getfield 285, 3) := by decide +kernel
theorem dX12_readUnit_96 : decode cX12_readUnit 96 = .ok (.iconst 1, 1) := by decide +kernel
theorem dX12_readUnit_97 : decode cX12_readUnit 97 = .ok (.iadd, 1) := by decide +kernel
theorem dX12_readUnit_98 : decode cX12_readUnit 98 = .ok (.putfield 285, 3) := by decide +kernel
theorem dX12_readUnit_101 : decode cX12_readUnit 101 = .ok (.aload_n 0, 1) := by decide +kernel
theorem dX12_readUnit_102 : decode cX12_readUnit 102 = .ok (.invokevirtual 279, 3) := by decide +kernel
theorem dX12_readUnit_105 : decode cX12_readUnit 105 = .ok (.iconst 0, 1) := by decide +kernel
theorem dX12_readUnit_106 : decode cX12_readUnit 106 = .ok (.ireturn, 1) := by decide +kernel
theorem dX12_readSum_0 : decode cX12_readSum 0 = .ok (.aload_n 0, 1) := by decide +kernel
theorem dX12_readSum_1 : decode cX12_readSum 1 = .ok (.iconst 1, 1) := by decide +kernel
theorem dX12_readSum_2 : decode cX12_readSum 2 = .ok (.invokevirtual 288, 3) := by decide +kernel
theorem dX12_readSum_5 : decode cX12_readSum 5 = .ok (.iconst (-1), 1) := by decide +kernel
theorem dX12_readSum_6 : decode cX12_readSum 6 = .ok (.if_icmp .ne 5, 3) := by decide +kernel
theorem dX12_readSum_9 : decode cX12_readSum 9 = .ok (.iconst (-1), 1) := by decide +kernel
theorem dX12_readSum_10 : decode cX12_readSum 10 = .ok (.ireturn, 1) := by decide +kernel
theorem dX12_readSum_11 : decode cX12_readSum 11 = .ok (.aload_n 0, 1) := by decide +kernel
theorem dX12_readSum_12 : decode cX12_readSum 12 = .ok (.bipush 43, 2) := by decide +kernel
theorem dX12_readSum_14 : decode cX12_readSum 14 = .ok (.invokevirtual 291, 3) := by decide +kernel
theorem dX12_readSum_17 : decode cX12_readSum 17 = .ok (.ifCond .ne 12, 3) := by decide +kernel
theorem dX12_readSum_20 : decode cX12_readSum 20 = .ok (.aload_n 0, 1) := by decide +kernel
theorem dX12_readSum_21 : decode cX12_readSum 21 = .ok (.bipush 45, 2) := by decide +kernel
theorem dX12_readSum_23 : decode cX12_readSum 23 = .ok (.invokevirtual 291, 3) := by decide +kernel
theorem dX12_readSum_26 : decode cX12_readSum 26 = .ok (.ifCond .eq 36, 3) := by decide +kernel
theorem dX12_readSum_29 : decode cX12_readSum 29 = .ok (.aload_n 0, 1) := by decide +kernel
theorem dX12_readSum_30 : decode cX12_readSum 30 = .ok (.getfield 257, 3) := by decide +kernel
theorem dX12_readSum_33 : decode cX12_readSum 33 = .ok (.bipush 43, 2) := by decide +kernel
theorem dX12_readSum_35 : decode cX12_readSum 35 = .ok (.if_icmp .ne 7, 3) := by decide +kernel
theorem dX12_readSum_38 : decode cX12_readSum 38 = .ok (.iconst 1, 1) := by decide +kernel
theorem dX12_readSum_39 : decode cX12_readSum 39 = .ok (.goto 4, 3) := by decide +kernel
theorem dX12_readSum_42 : decode cX12_readSum 42 = .ok (.iconst (-1), 1) := by decide +kernel
theorem dX12_readSum_43 : decode cX12_readSum 43 = .ok (.istore_n 1, 1) := by decide +kernel
theorem dX12_readSum_44 : decode cX12_readSum 44 = .ok (.aload_n 0, 1) := by decide +kernel
theorem dX12_readSum_45 : decode cX12_readSum 45 = .ok (.invokevirtual 279, 3) := by decide +kernel
theorem dX12_readSum_48 : decode cX12_readSum 48 = .ok (.aload_n 0, 1) := by decide +kernel
theorem dX12_readSum_49 : decode cX12_readSum 49 = .ok (.iload_n 1, 1) := by decide +kernel
theorem dX12_readSum_50 : decode cX12_readSum 50 = .ok (.invokevirtual 288, 3) := by decide +kernel
theorem dX12_readSum_53 : decode cX12_readSum 53 = .ok (.iconst (-1), 1) := by decide +kernel
theorem dX12_readSum_54 : decode cX12_readSum 54 = .ok (.if_icmp .ne 5, 3) := by decide +kernel
theorem dX12_readSum_57 : decode cX12_readSum 57 = .ok (.iconst (-1), 1) := by decide +kernel
theorem dX12_readSum_58 : decode cX12_readSum 58 = .ok (.ireturn, 1) := by decide +kernel
theorem dX12_readSum_59 : decode cX12_readSum 59 = .ok (.goto (-48), 3) := by decide +kernel
theorem dX12_readSum_62 : decode cX12_readSum 62 = .ok (.iconst 0, 1) := by decide +kernel
theorem dX12_readSum_63 : decode cX12_readSum 63 = .ok (.ireturn, 1) := by decide +kernel
theorem dX12_readIf_0 : decode cX12_readIf 0 = .ok (.aload_n 0, 1) := by decide +kernel
theorem dX12_readIf_1 : decode cX12_readIf 1 = .ok (.getfield 294, 3) := by decide +kernel
theorem dX12_readIf_4 : decode cX12_readIf 4 = .ok (.iconst 4, 1) := by decide +kernel
theorem dX12_readIf_5 : decode cX12_readIf 5 = .ok (.if_icmp .ne 9, 3) := by decide +kernel
theorem dX12_readIf_8 : decode cX12_readIf 8 = .ok (.aload_n 0, 1) := by decide +kernel
theorem dX12_readIf_9 : decode cX12_readIf 9 = .ok (.iconst 3, 1) := by decide +kernel
theorem dX12_readIf_10 : decode cX12_readIf 10 = .ok (.invokevirtual 282, 3) := by decide +kernel
theorem dX12_readIf_13 : decode cX12_readIf 13 = .ok (.ireturn, 1) := by decide +kernel
theorem dX12_readIf_14 : decode cX12_readIf 14 = .ok (.aload_n 0, 1) := by decide +kernel
theorem dX12_readIf_15 : decode cX12_readIf 15 = .ok (.invokevirtual 279, 3) := by decide +kernel
theorem dX12_readIf_18 : decode cX12_readIf 18 = .ok (.sipush 3200, 3) := by decide +kernel
theorem dX12_readIf_21 : decode cX12_readIf 21 = .ok (.aload_n 0, 1) := by decide +kernel
theorem dX12_readIf_22 : decode cX12_readIf 22 = .ok (.getfield 110, 3) := by decide +kernel
theorem dX12_readIf_25 : decode cX12_readIf 25 = .ok (.bipush 8, 2) := by decide +kernel
theorem dX12_readIf_27 : decode cX12_readIf 27 = .ok (.iaload, 1) := by decide +kernel
theorem dX12_readIf_28 : decode cX12_readIf 28 = .ok (.iadd, 1) := by decide +kernel
theorem dX12_readIf_29 : decode cX12_readIf 29 = .ok (.istore_n 1, 1) := by decide +kernel
theorem dX12_readIf_30 : decode cX12_readIf 30 = .ok (.aload_n 0, 1) := by decide +kernel
theorem dX12_readIf_31 : decode cX12_readIf 31 = .ok (.getfield 113, 3) := by decide +kernel
theorem dX12_readIf_34 : decode cX12_readIf 34 = .ok (.iload_n 1, 1) := by decide +kernel
theorem dX12_readIf_35 : decode cX12_readIf 35 = .ok (.aload_n 0, 1) := by decide +kernel
theorem dX12_readIf_36 : decode cX12_readIf 36 = .ok (.getfield 285, 3) := by decide +kernel
theorem dX12_readIf_39 : decode cX12_readIf 39 = .ok (.iastore, 1) := by decide +kernel
theorem dX12_readIf_40 : decode cX12_readIf 40 = .ok (.aload_n 0, 1) := by decide +kernel
theorem dX12_readIf_41 : decode cX12_readIf 41 = .ok (.invokevirtual 297, 3) := by decide +kernel
theorem dX12_readIf_44 : decode cX12_readIf 44 = .ok (.iconst (-1), 1) := by decide +kernel
theorem dX12_readIf_45 : decode cX12_readIf 45 = .ok (.if_icmp .ne 5, 3) := by decide +kernel
theorem dX12_readIf_48 : decode cX12_readIf 48 = .ok (.iconst (-1), 1) := by decide +kernel
theorem dX12_readIf_49 : decode cX12_readIf 49 = .ok (.ireturn, 1) := by decide +kernel
theorem dX12_readIf_50 : decode cX12_readIf 50 = .ok (.aload_n 0, 1) := by decide +kernel
theorem dX12_readIf_51 : decode cX12_readIf 51 = .ok (.getfield 116, 3) := by decide +kernel
theorem dX12_readIf_54 : decode cX12_readIf 54 = .ok (.iload_n 1, 1) := by decide +kernel
theorem dX12_readIf_55 : decode cX12_readIf 55 = .ok (.aload_n 0, 1) := by decide +kernel
theorem dX12_readIf_56 : decode cX12_readIf 56 = .ok (.getfield 285, 3) := by decide +kernel
theorem dX12_readIf_59 : decode cX12_readIf 59 = .ok (.iastore, 1) := by decide +kernel
theorem dX12_readIf_60 : decode cX12_readIf 60 = .ok (.aload_n 0, 1) := by decide +kernel
theorem dX12_readIf_61 : decode cX12_readIf 61 = .ok (.bipush 60, 2) := by decide +kernel
theorem dX12_readIf_63 : decode cX12_readIf 63 = .ok (.invokevirtual 291, 3) := by decide +kernel
theorem dX12_readIf_66 : decode cX12_readIf 66 = .ok (.ifCond .ne 27, 3) := by decide +kernel
theorem dX12_readIf_69 : decode cX12_readIf 69 = .ok (.aload_n 0, 1) := by decide +kernel
theorem dX12_readIf_70 : decode cX12_readIf 70 = .ok (.bipush 61, 2) := by decide +kernel
theorem dX12_readIf_72 : decode cX12_readIf 72 = .ok (.invokevirtual 291, 3) := by decide +kernel
theorem dX12_readIf_75 : decode cX12_readIf 75 = .ok (.ifCond .ne 18, 3) := by decide +kernel
theorem dX12_readIf_78 : decode cX12_readIf 78 = .ok (.aload_n 0, 1) := by decide +kernel
theorem dX12_readIf_79 : decode cX12_readIf 79 = .ok (.bipush 62, 2) := by decide +kernel
theorem dX12_readIf_81 : decode cX12_readIf 81 = .ok (.invokevirtual 291, 3) := by decide +kernel
theorem dX12_readIf_84 : decode cX12_readIf 84 = .ok (.ifCond .ne 9, 3) := by decide +kernel
theorem dX12_readIf_87 : decode cX12_readIf 87 = .ok (.aload_n 0, 1) := by decide +kernel
theorem dX12_readIf_88 : decode cX12_readIf 88 = .ok (.iconst 1, 1) := by decide +kernel
theorem dX12_readIf_89 : decode cX12_readIf 89 = .ok (.invokevirtual 282, 3) := by decide +kernel
theorem dX12_readIf_92 : decode cX12_readIf 92 = .ok (.ireturn, 1) := by decide +kernel
theorem dX12_readIf_93 : decode cX12_readIf 93 = .ok (.aload_n 0, 1) := by decide +kernel
theorem dX12_readIf_94 : decode cX12_readIf 94 = .ok (.getfield 257, 3) := by decide +kernel
theorem dX12_readIf_97 : decode cX12_readIf 97 = .ok (.istore_n 2, 1) := by decide +kernel
theorem dX12_readIf_98 : decode cX12_readIf 98 = .ok (.aload_n 0, 1) := by decide +kernel
theorem dX12_readIf_99 : decode cX12_readIf 99 = .ok (.invokevirtual 279, 3) := by decide +kernel
theorem dX12_readIf_102 : decode cX12_readIf 102 = .ok (.aload_n 0, 1) := by decide +kernel
theorem dX12_readIf_103 : decode cX12_readIf 103 = .ok (.invokevirtual 297, 3) := by decide +kernel
theorem dX12_readIf_106 : decode cX12_readIf 106 = .ok (.iconst (-1), 1) := by decide +kernel
theorem dX12_readIf_107 : decode cX12_readIf 107 = .ok (.if_icmp .ne 5, 3) := by decide +kernel
theorem dX12_readIf_110 : decode cX12_readIf 110 = .ok (.iconst (-1), 1) := by decide +kernel
theorem dX12_readIf_111 : decode cX12_readIf 111 = .ok (.ireturn, 1) := by decide +kernel
theorem dX12_readIf_112 : decode cX12_readIf 112 = .ok (.aload_n 0, 1) := by decide +kernel
theorem dX12_readIf_113 : decode cX12_readIf 113 = .ok (.getfield 119, 3) := by decide +kernel
theorem dX12_readIf_116 : decode cX12_readIf 116 = .ok (.iload_n 1, 1) := by decide +kernel
theorem dX12_readIf_117 : decode cX12_readIf 117 = .ok (.aload_n 0, 1) := by decide +kernel
theorem dX12_readIf_118 : decode cX12_readIf 118 = .ok (.getfield 285, 3) := by decide +kernel
theorem dX12_readIf_121 : decode cX12_readIf 121 = .ok (.iastore, 1) := by decide +kernel
theorem dX12_readIf_122 : decode cX12_readIf 122 = .ok (.aload_n 0, 1) := by decide +kernel
theorem dX12_readIf_123 : decode cX12_readIf 123 = .ok (.getfield 131, 3) := by decide +kernel
theorem dX12_readIf_126 : decode cX12_readIf 126 = .ok (.aload_n 0, 1) := by decide +kernel
theorem dX12_readIf_127 : decode cX12_readIf 127 = .ok (.getfield 294, 3) := by decide +kernel
theorem dX12_readIf_130 : decode cX12_readIf 130 = .ok (.aload_n 0, 1) := by decide +kernel
theorem dX12_readIf_131 : decode cX12_readIf 131 = .ok (.getfield 110, 3) := by decide +kernel
theorem dX12_readIf_134 : decode cX12_readIf 134 = .ok (.bipush 8, 2) := by decide +kernel
theorem dX12_readIf_136 : decode cX12_readIf 136 = .ok (.iaload, 1) := by decide +kernel
theorem dX12_readIf_137 : decode cX12_readIf 137 = .ok (.sipush 1000, 3) := by decide +kernel
theorem dX12_readIf_140 : decode cX12_readIf 140 = .ok (.isub, 1) := by decide +kernel
theorem dX12_readIf_141 : decode cX12_readIf 141 = .ok (.iastore, 1) := by decide +kernel
theorem dX12_readIf_142 : decode cX12_readIf 142 = .ok (.aload_n 0, 1) := by decide +kernel
theorem dX12_readIf_143 : decode cX12_readIf 143 = .ok (.aload_n 0, 1) := by decide +kernel
theorem dX12_readIf_144 : decode cX12_readIf 144 = .ok (.getfield 294, 3) := by decide +kernel
theorem dX12_readIf_147 : decode cX12_readIf 147 = .ok (.iconst 1, 1) := by decide +kernel
theorem dX12_readIf_148 : decode cX12_readIf 148 = .ok (.iadd, 1) := by decide +kernel
theorem dX12_readIf_149 : decode cX12_readIf 149 = .ok (.putfield 294, 3) := by decide +kernel
theorem dX12_readIf_152 : decode cX12_readIf 152 = .ok (.aload_n 0, 1) := by decide +kernel
theorem dX12_readIf_153 : decode cX12_readIf 153 = .ok (.bipush 8, 2) := by decide +kernel
theorem dX12_readIf_155 : decode cX12_readIf 155 = .ok (.iconst 0, 1) := by decide +kernel
theorem dX12_readIf_156 : decode cX12_readIf 156 = .ok (.iload_n 2, 1) := by decide +kernel
theorem dX12_readIf_157 : decode cX12_readIf 157 = .ok (.invokevirtual 301, 3) := by decide +kernel
theorem dX12_readIf_160 : decode cX12_readIf 160 = .ok (.iconst 0, 1) := by decide +kernel
theorem dX12_readIf_161 : decode cX12_readIf 161 = .ok (.ireturn, 1) := by decide +kernel
theorem dX12_readAgain_0 : decode cX12_readAgain 0 = .ok (.aload_n 0, 1) := by decide +kernel
theorem dX12_readAgain_1 : decode cX12_readAgain 1 = .ok (.getfield 294, 3) := by decide +kernel
theorem dX12_readAgain_4 : decode cX12_readAgain 4 = .ok (.iconst 4, 1) := by decide +kernel
theorem dX12_readAgain_5 : decode cX12_readAgain 5 = .ok (.if_icmp .ne 9, 3) := by decide +kernel
theorem dX12_readAgain_8 : decode cX12_readAgain 8 = .ok (.aload_n 0, 1) := by decide +kernel
theorem dX12_readAgain_9 : decode cX12_readAgain 9 = .ok (.iconst 3, 1) := by decide +kernel
theorem dX12_readAgain_10 : decode cX12_readAgain 10 = .ok (.invokevirtual 282, 3) := by decide +kernel
theorem dX12_readAgain_13 : decode cX12_readAgain 13 = .ok (.ireturn, 1) := by decide +kernel
theorem dX12_readAgain_14 : decode cX12_readAgain 14 = .ok (.aload_n 0, 1) := by decide +kernel
theorem dX12_readAgain_15 : decode cX12_readAgain 15 = .ok (.invokevirtual 304, 3) := by decide +kernel
theorem dX12_readAgain_18 : decode cX12_readAgain 18 = .ok (.istore_n 1, 1) := by decide +kernel
theorem dX12_readAgain_19 : decode cX12_readAgain 19 = .ok (.iload_n 1, 1) := by decide +kernel
theorem dX12_readAgain_20 : decode cX12_readAgain 20 = .ok (.iconst (-1), 1) := by decide +kernel
theorem dX12_readAgain_21 : decode cX12_readAgain 21 = .ok (.if_icmp .ne 5, 3) := by decide +kernel
theorem dX12_readAgain_24 : decode cX12_readAgain 24 = .ok (.iconst (-1), 1) := by decide +kernel
theorem dX12_readAgain_25 : decode cX12_readAgain 25 = .ok (.ireturn, 1) := by decide +kernel
theorem dX12_readAgain_26 : decode cX12_readAgain 26 = .ok (.aload_n 0, 1) := by decide +kernel
theorem dX12_readAgain_27 : decode cX12_readAgain 27 = .ok (.iload_n 1, 1) := by decide +kernel
theorem dX12_readAgain_28 : decode cX12_readAgain 28 = .ok (.iconst 1, 1) := by decide +kernel
theorem dX12_readAgain_29 : decode cX12_readAgain 29 = .ok (.bipush 99, 2) := by decide +kernel
theorem dX12_readAgain_31 : decode cX12_readAgain 31 = .ok (.invokevirtual 170, 3) := by decide +kernel
theorem dX12_readAgain_34 : decode cX12_readAgain 34 = .ok (.ifCond .ne 9, 3) := by decide +kernel
theorem dX12_readAgain_37 : decode cX12_readAgain 37 = .ok (.aload_n 0, 1) := by decide +kernel
theorem dX12_readAgain_38 : decode cX12_readAgain 38 = .ok (.iconst 2, 1) := by decide +kernel
theorem dX12_readAgain_39 : decode cX12_readAgain 39 = .ok (.invokevirtual 282, 3) := by decide +kernel
theorem dX12_readAgain_42 : decode cX12_readAgain 42 = .ok (.ireturn, 1) := by decide +kernel
theorem dX12_readAgain_43 : decode cX12_readAgain 43 = .ok (.aload_n 0, 1) := by decide +kernel
theorem dX12_readAgain_44 : decode cX12_readAgain 44 = .ok (.invokevirtual 279, 3) := by decide +kernel
theorem dX12_readAgain_47 : decode cX12_readAgain 47 = .ok (.aload_n 0, 1) := by decide +kernel
theorem dX12_readAgain_48 : decode cX12_readAgain 48 = .ok (.bipush 7, 2) := by decide +kernel
theorem dX12_readAgain_50 : decode cX12_readAgain 50 = .ok (.invokevirtual 307, 3) := by decide +kernel
theorem dX12_readAgain_53 : decode cX12_readAgain 53 = .ok (.ifCond .ne 9, 3) := by decide +kernel
theorem dX12_readAgain_56 : decode cX12_readAgain 56 = .ok (.aload_n 0, 1) := by decide +kernel
theorem dX12_readAgain_57 : decode cX12_readAgain 57 = .ok (.iconst 1, 1) := by decide +kernel
theorem dX12_readAgain_58 : decode cX12_readAgain 58 = .ok (.invokevirtual 282, 3) := by decide +kernel
theorem dX12_readAgain_61 : decode cX12_readAgain 61 = .ok (.ireturn, 1) := by decide +kernel
theorem dX12_readAgain_62 : decode cX12_readAgain 62 = .ok (.aload_n 0, 1) := by decide +kernel
theorem dX12_readAgain_63 : decode cX12_readAgain 63 = .ok (.invokevirtual 279, 3) := by decide +kernel
theorem dX12_readAgain_66 : decode cX12_readAgain 66 = .ok (.aload_n 0, 1) := by decide +kernel
theorem dX12_readAgain_67 : decode cX12_readAgain 67 = .ok (.getfield 131, 3) := by decide +kernel
theorem dX12_readAgain_70 : decode cX12_readAgain 70 = .ok (.aload_n 0, 1) := by decide +kernel
theorem dX12_readAgain_71 : decode cX12_readAgain 71 = .ok (.getfield 294, 3) := by decide +kernel
theorem dX12_readAgain_74 : decode cX12_readAgain 74 = .ok (.aload_n 0, 1) := by decide +kernel
theorem dX12_readAgain_75 : decode cX12_readAgain 75 = .ok (.getfield 110, 3) := by decide +kernel
theorem dX12_readAgain_78 : decode cX12_readAgain 78 = .ok (.bipush 8, 2) := by decide +kernel
theorem dX12_readAgain_80 : decode cX12_readAgain 80 = .ok (.iaload, 1) := by decide +kernel
theorem dX12_readAgain_81 : decode cX12_readAgain 81 = .ok (.iastore, 1) := by decide +kernel
theorem dX12_readAgain_82 : decode cX12_readAgain 82 = .ok (.aload_n 0, 1) := by decide +kernel
theorem dX12_readAgain_83 : decode cX12_readAgain 83 = .ok (.aload_n 0, 1) := by decide +kernel
theorem dX12_readAgain_84 : decode cX12_readAgain 84 = .ok (.getfield 294, 3) := by decide +kernel
theorem dX12_readAgain_87 : decode cX12_readAgain 87 = .ok (.iconst 1, 1) := by decide +kernel
theorem dX12_readAgain_88 : decode cX12_readAgain 88 = .ok (.iadd, 1) := by decide +kernel
theorem dX12_readAgain_89 : decode cX12_readAgain 89 = .ok (.putfield 294, 3) := by decide +kernel
theorem dX12_readAgain_92 : decode cX12_readAgain 92 = .ok (.aload_n 0, 1) := by decide +kernel
theorem dX12_readAgain_93 : decode cX12_readAgain 93 = .ok (.bipush 6, 2) := by decide +kernel
theorem dX12_readAgain_95 : decode cX12_readAgain 95 = .ok (.iload_n 1, 1) := by decide +kernel
theorem dX12_readAgain_96 : decode cX12_readAgain 96 = .ok (.iconst 0, 1) := by decide +kernel
theorem dX12_readAgain_97 : decode cX12_readAgain 97 = .ok (.invokevirtual 301, 3) := by decide +kernel
theorem dX12_readAgain_100 : decode cX12_readAgain 100 = .ok (.iconst 0, 1) := by decide +kernel
theorem dX12_readAgain_101 : decode cX12_readAgain 101 = .ok (.ireturn, 1) := by decide +kernel
theorem dX12_readPlain_0 : decode cX12_readPlain 0 = .ok (.aload_n 0, 1) := by decide +kernel
theorem dX12_readPlain_1 : decode cX12_readPlain 1 = .ok (.getfield 257, 3) := by decide +kernel
theorem dX12_readPlain_4 : decode cX12_readPlain 4 = .ok (.istore_n 1, 1) := by decide +kernel
theorem dX12_readPlain_5 : decode cX12_readPlain 5 = .ok (.iload_n 1, 1) := by decide +kernel
theorem dX12_readPlain_6 : decode cX12_readPlain 6 = .ok (.ifCond .eq 8, 3) := by decide +kernel
theorem dX12_readPlain_9 : decode cX12_readPlain 9 = .ok (.iload_n 1, 1) := by decide +kernel
theorem dX12_readPlain_10 : decode cX12_readPlain 10 = .ok (.iconst 1, 1) := by decide +kernel
theorem dX12_readPlain_11 : decode cX12_readPlain 11 = .ok (.if_icmp .ne 13, 3) := by decide +kernel
theorem dX12_readPlain_14 : decode cX12_readPlain 14 = .ok (.aload_n 0, 1) := by decide +kernel
theorem dX12_readPlain_15 : decode cX12_readPlain 15 = .ok (.iload_n 1, 1) := by decide +kernel
theorem dX12_readPlain_16 : decode cX12_readPlain 16 = .ok (.iconst 0, 1) := by decide +kernel
theorem dX12_readPlain_17 : decode cX12_readPlain 17 = .ok (.iconst 0, 1) := by decide +kernel
theorem dX12_readPlain_18 : decode cX12_readPlain 18 = .ok (.invokevirtual 301, 3) := by decide +kernel
theorem dX12_readPlain_21 : decode cX12_readPlain 21 = .ok (.goto 153, 3) := by decide +kernel
theorem dX12_readPlain_24 : decode cX12_readPlain 24 = .ok (.iload_n 1, 1) := by decide +kernel
theorem dX12_readPlain_25 : decode cX12_readPlain 25 = .ok (.iconst 2, 1) := by decide +kernel
theorem dX12_readPlain_26 : decode cX12_readPlain 26 = .ok (.if_icmp .ne 39, 3) := by decide +kernel
theorem dX12_readPlain_29 : decode cX12_readPlain 29 = .ok (.aload_n 0, 1) := by decide +kernel
theorem dX12_readPlain_30 : decode cX12_readPlain 30 = .ok (.invokevirtual 304, 3) := by decide +kernel
theorem dX12_readPlain_33 : decode cX12_readPlain 33 = .ok (.istore_n 2, 1) := by decide +kernel
theorem dX12_readPlain_34 : decode cX12_readPlain 34 = .ok (.iload_n 2, 1) := by decide +kernel
theorem dX12_readPlain_35 : decode cX12_readPlain 35 = .ok (.iconst (-1), 1) := by decide +kernel
theorem dX12_readPlain_36 : decode cX12_readPlain 36 = .ok (.if_icmp .ne 7, 3) := by decide +kernel
theorem dX12_readPlain_39 : decode cX12_readPlain 39 = .ok (.iconst (-1), 1) := by decide +kernel
theorem dX12_readPlain_40 : decode cX12_readPlain 40 = .ok (.goto 7, 3) := by decide +kernel
theorem dX12_readPlain_43 : decode cX12_readPlain 43 = .ok (.aload_n 0, 1) := by decide +kernel
theorem dX12_readPlain_44 : decode cX12_readPlain 44 = .ok (.invokevirtual 304, 3) := by decide +kernel
theorem dX12_readPlain_47 : decode cX12_readPlain 47 = .ok (.istore_n 3, 1) := by decide +kernel
theorem dX12_readPlain_48 : decode cX12_readPlain 48 = .ok (.iload_n 3, 1) := by decide +kernel
theorem dX12_readPlain_49 : decode cX12_readPlain 49 = .ok (.iconst (-1), 1) := by decide +kernel
theorem dX12_readPlain_50 : decode cX12_readPlain 50 = .ok (.if_icmp .ne 5, 3) := by decide +kernel
theorem dX12_readPlain_53 : decode cX12_readPlain 53 = .ok (.iconst (-1), 1) := by decide +kernel
theorem dX12_readPlain_54 : decode cX12_readPlain 54 = .ok (.ireturn, 1) := by decide +kernel
theorem dX12_readPlain_55 : decode cX12_readPlain 55 = .ok (.aload_n 0, 1) := by decide +kernel
theorem dX12_readPlain_56 : decode cX12_readPlain 56 = .ok (.iconst 2, 1) := by decide +kernel
theorem dX12_readPlain_57 : decode cX12_readPlain 57 = .ok (.iload_n 2, 1) := by decide +kernel
theorem dX12_readPlain_58 : decode cX12_readPlain 58 = .ok (.iload_n 3, 1) := by decide +kernel
theorem dX12_readPlain_59 : decode cX12_readPlain 59 = .ok (.invokevirtual 301, 3) := by decide +kernel
theorem dX12_readPlain_62 : decode cX12_readPlain 62 = .ok (.goto 112, 3) := by decide +kernel
theorem dX12_readPlain_65 : decode cX12_readPlain 65 = .ok (.iload_n 1, 1) := by decide +kernel
theorem dX12_readPlain_66 : decode cX12_readPlain 66 = .ok (.iconst 3, 1) := by decide +kernel
theorem dX12_readPlain_67 : decode cX12_readPlain 67 = .ok (.if_icmp .ne 66, 3) := by decide +kernel
theorem dX12_readPlain_70 : decode cX12_readPlain 70 = .ok (.aload_n 0, 1) := by decide +kernel
theorem dX12_readPlain_71 : decode cX12_readPlain 71 = .ok (.invokevirtual 279, 3) := by decide +kernel
theorem dX12_readPlain_74 : decode cX12_readPlain 74 = .ok (.aload_n 0, 1) := by decide +kernel
theorem dX12_readPlain_75 : decode cX12_readPlain 75 = .ok (.getfield 254, 3) := by decide +kernel
theorem dX12_readPlain_78 : decode cX12_readPlain 78 = .ok (.iconst 2, 1) := by decide +kernel
theorem dX12_readPlain_79 : decode cX12_readPlain 79 = .ok (.if_icmp .ne 18, 3) := by decide +kernel
theorem dX12_readPlain_82 : decode cX12_readPlain 82 = .ok (.aload_n 0, 1) := by decide +kernel
theorem dX12_readPlain_83 : decode cX12_readPlain 83 = .ok (.aload_n 0, 1) := by decide +kernel
theorem dX12_readPlain_84 : decode cX12_readPlain 84 = .ok (.getfield 257, 3) := by decide +kernel
theorem dX12_readPlain_87 : decode cX12_readPlain 87 = .ok (.bipush 10, 2) := by decide +kernel
theorem dX12_readPlain_89 : decode cX12_readPlain 89 = .ok (.bipush 13, 2) := by decide +kernel
theorem dX12_readPlain_91 : decode cX12_readPlain 91 = .ok (.invokevirtual 170, 3) := by decide +kernel
theorem dX12_readPlain_94 : decode cX12_readPlain 94 = .ok (.ifCond .ne 9, 3) := by decide +kernel
theorem dX12_readPlain_97 : decode cX12_readPlain 97 = .ok (.aload_n 0, 1) := by decide +kernel
theorem dX12_readPlain_98 : decode cX12_readPlain 98 = .ok (.iconst 1, 1) := by decide +kernel
theorem dX12_readPlain_99 : decode cX12_readPlain 99 = .ok (.invokevirtual 282, 3) := by decide +kernel
theorem dX12_readPlain_102 : decode cX12_readPlain 102 = .ok (.ireturn, 1) := by decide +kernel
theorem dX12_readPlain_103 : decode cX12_readPlain 103 = .ok (.aload_n 0, 1) := by decide +kernel
theorem dX12_readPlain_104 : decode cX12_readPlain 104 = .ok (.getfield 257, 3) := by decide +kernel
theorem dX12_readPlain_107 : decode cX12_readPlain 107 = .ok (.bipush 10, 2) := by decide +kernel
theorem dX12_readPlain_109 : decode cX12_readPlain 109 = .ok (.isub, 1) := by decide +kernel
theorem dX12_readPlain_110 : decode cX12_readPlain 110 = .ok (.istore_n 2, 1) := by decide +kernel
theorem dX12_readPlain_111 : decode cX12_readPlain 111 = .ok (.aload_n 0, 1) := by decide +kernel
theorem dX12_readPlain_112 : decode cX12_readPlain 112 = .ok (.invokevirtual 304, 3) := by decide +kernel
theorem dX12_readPlain_115 : decode cX12_readPlain 115 = .ok (.istore_n 3, 1) := by decide +kernel
theorem dX12_readPlain_116 : decode cX12_readPlain 116 = .ok (.iload_n 3, 1) := by decide +kernel
theorem dX12_readPlain_117 : decode cX12_readPlain 117 = .ok (.iconst (-1), 1) := by decide +kernel
theorem dX12_readPlain_118 : decode cX12_readPlain 118 = .ok (.if_icmp .ne 5, 3) := by decide +kernel
theorem dX12_readPlain_121 : decode cX12_readPlain 121 = .ok (.iconst (-1), 1) := by decide +kernel
theorem dX12_readPlain_122 : decode cX12_readPlain 122 = .ok (.ireturn, 1) := by decide +kernel
theorem dX12_readPlain_123 : decode cX12_readPlain 123 = .ok (.aload_n 0, 1) := by decide +kernel
theorem dX12_readPlain_124 : decode cX12_readPlain 124 = .ok (.iconst 3, 1) := by decide +kernel
theorem dX12_readPlain_125 : decode cX12_readPlain 125 = .ok (.iload_n 2, 1) := by decide +kernel
theorem dX12_readPlain_126 : decode cX12_readPlain 126 = .ok (.iload_n 3, 1) := by decide +kernel
theorem dX12_readPlain_127 : decode cX12_readPlain 127 = .ok (.invokevirtual 301, 3) := by decide +kernel
theorem dX12_readPlain_130 : decode cX12_readPlain 130 = .ok (.goto 44, 3) := by decide +kernel
theorem dX12_readPlain_133 : decode cX12_readPlain 133 = .ok (.aload_n 0, 1) := by decide +kernel
theorem dX12_readPlain_134 : decode cX12_readPlain 134 = .ok (.invokevirtual 304, 3) := by decide +kernel
theorem dX12_readPlain_137 : decode cX12_readPlain 137 = .ok (.istore_n 2, 1) := by decide +kernel
theorem dX12_readPlain_138 : decode cX12_readPlain 138 = .ok (.iload_n 2, 1) := by decide +kernel
theorem dX12_readPlain_139 : decode cX12_readPlain 139 = .ok (.iconst (-1), 1) := by decide +kernel
theorem dX12_readPlain_140 : decode cX12_readPlain 140 = .ok (.if_icmp .ne 5, 3) := by decide +kernel
theorem dX12_readPlain_143 : decode cX12_readPlain 143 = .ok (.iconst (-1), 1) := by decide +kernel
theorem dX12_readPlain_144 : decode cX12_readPlain 144 = .ok (.ireturn, 1) := by decide +kernel
theorem dX12_readPlain_145 : decode cX12_readPlain 145 = .ok (.iload_n 1, 1) := by decide +kernel
theorem dX12_readPlain_146 : decode cX12_readPlain 146 = .ok (.iconst 5, 1) := by decide +kernel
theorem dX12_readPlain_147 : decode cX12_readPlain 147 = .ok (.if_icmp .ne 20, 3) := by decide +kernel
theorem dX12_readPlain_150 : decode cX12_readPlain 150 = .ok (.aload_n 0, 1) := by decide +kernel
theorem dX12_readPlain_151 : decode cX12_readPlain 151 = .ok (.iload_n 2, 1) := by decide +kernel
theorem dX12_readPlain_152 : decode cX12_readPlain 152 = .ok (.iconst 1, 1) := by decide +kernel
theorem dX12_readPlain_153 : decode cX12_readPlain 153 = .ok (.bipush 20, 2) := by decide +kernel
theorem dX12_readPlain_155 : decode cX12_readPlain 155 = .ok (.invokevirtual 170, 3) := by decide +kernel
theorem dX12_readPlain_158 : decode cX12_readPlain 158 = .ok (.ifCond .ne 9, 3) := by decide +kernel
theorem dX12_readPlain_161 : decode cX12_readPlain 161 = .ok (.aload_n 0, 1) := by decide +kernel
theorem dX12_readPlain_162 : decode cX12_readPlain 162 = .ok (.iconst 2, 1) := by decide +kernel
theorem dX12_readPlain_163 : decode cX12_readPlain 163 = .ok (.invokevirtual 282, 3) := by decide +kernel
theorem dX12_readPlain_166 : decode cX12_readPlain 166 = .ok (.ireturn, 1) := by decide +kernel
theorem dX12_readPlain_167 : decode cX12_readPlain 167 = .ok (.aload_n 0, 1) := by decide +kernel
theorem dX12_readPlain_168 : decode cX12_readPlain 168 = .ok (.iload_n 1, 1) := by decide +kernel
theorem dX12_readPlain_169 : decode cX12_readPlain 169 = .ok (.iload_n 2, 1) := by decide +kernel
theorem dX12_readPlain_170 : decode cX12_readPlain 170 = .ok (.iconst 0, 1) := by decide +kernel
theorem dX12_readPlain_171 : decode cX12_readPlain 171 = .ok (.invokevirtual 301, 3) := by decide +kernel
theorem dX12_readPlain_174 : decode cX12_readPlain 174 = .ok (.aload_n 0, 1) := by decide +kernel
theorem dX12_readPlain_175 : decode cX12_readPlain 175 = .ok (.invokevirtual 279, 3) := by decide +kernel
theorem dX12_readPlain_178 : decode cX12_readPlain 178 = .ok (.iconst 0, 1) := by decide +kernel
theorem dX12_readPlain_179 : decode cX12_readPlain 179 = .ok (.ireturn, 1) := by decide +kernel
theorem dX12_isInAgain_0 : decode cX12_isInAgain 0 = .ok (.aload_n 0, 1) := by decide +kernel
theorem dX12_isInAgain_1 : decode cX12_isInAgain 1 = .ok (.getfield 294, 3) := by decide +kernel
theorem dX12_isInAgain_4 : decode cX12_isInAgain 4 = .ok (.ifCond .le 21, 3) := by decide +kernel
theorem dX12_isInAgain_7 : decode cX12_isInAgain 7 = .ok (.aload_n 0, 1) := by decide +kernel
theorem dX12_isInAgain_8 : decode cX12_isInAgain 8 = .ok (.getfield 131, 3) := by decide +kernel
theorem dX12_isInAgain_11 : decode cX12_isInAgain 11 = .ok (.aload_n 0, 1) := by decide +kernel
theorem dX12_isInAgain_12 : decode cX12_isInAgain 12 = .ok (.getfield 294, 3) := by decide +kernel
theorem dX12_isInAgain_15 : decode cX12_isInAgain 15 = .ok (.iconst 1, 1) := by decide +kernel
theorem dX12_isInAgain_16 : decode cX12_isInAgain 16 = .ok (.isub, 1) := by decide +kernel
theorem dX12_isInAgain_17 : decode cX12_isInAgain 17 = .ok (.iaload, 1) := by decide +kernel
theorem dX12_isInAgain_18 : decode cX12_isInAgain 18 = .ok (.ifCond .lt 7, 3) := by decide +kernel
theorem dX12_isInAgain_21 : decode cX12_isInAgain 21 = .ok (.iconst 1, 1) := by decide +kernel
theorem dX12_isInAgain_22 : decode cX12_isInAgain 22 = .ok (.goto 4, 3) := by decide +kernel
theorem dX12_isInAgain_25 : decode cX12_isInAgain 25 = .ok (.iconst 0, 1) := by decide +kernel
theorem dX12_isInAgain_26 : decode cX12_isInAgain 26 = .ok (.ireturn, 1) := by decide +kernel
theorem dX12_closes_0 : decode cX12_closes 0 = .ok (.aload_n 0, 1) := by decide +kernel
theorem dX12_closes_1 : decode cX12_closes 1 = .ok (.aload_n 0, 1) := by decide +kernel
theorem dX12_closes_2 : decode cX12_closes 2 = .ok (.getfield 294, 3) := by decide +kernel
theorem dX12_closes_5 : decode cX12_closes 5 = .ok (.iconst 1, 1) := by decide +kernel
theorem dX12_closes_6 : decode cX12_closes 6 = .ok (.isub, 1) := by decide +kernel
theorem dX12_closes_7 : decode cX12_closes 7 = .ok (.putfield 294, 3) := by decide +kernel
theorem dX12_closes_10 : decode cX12_closes 10 = .ok (.aload_n 0, 1) := by decide +kernel
theorem dX12_closes_11 : decode cX12_closes 11 = .ok (.getfield 131, 3) := by decide +kernel
theorem dX12_closes_14 : decode cX12_closes 14 = .ok (.aload_n 0, 1) := by decide +kernel
theorem dX12_closes_15 : decode cX12_closes 15 = .ok (.getfield 294, 3) := by decide +kernel
theorem dX12_closes_18 : decode cX12_closes 18 = .ok (.iaload, 1) := by decide +kernel
theorem dX12_closes_19 : decode cX12_closes 19 = .ok (.istore_n 1, 1) := by decide +kernel
theorem dX12_closes_20 : decode cX12_closes 20 = .ok (.aload_n 0, 1) := by decide +kernel
theorem dX12_closes_21 : decode cX12_closes 21 = .ok (.bipush 7, 2) := by decide +kernel
theorem dX12_closes_23 : decode cX12_closes 23 = .ok (.iload_n 1, 1) := by decide +kernel
theorem dX12_closes_24 : decode cX12_closes 24 = .ok (.iconst 1, 1) := by decide +kernel
theorem dX12_closes_25 : decode cX12_closes 25 = .ok (.iadd, 1) := by decide +kernel
theorem dX12_closes_26 : decode cX12_closes 26 = .ok (.iconst 0, 1) := by decide +kernel
theorem dX12_closes_27 : decode cX12_closes 27 = .ok (.invokevirtual 301, 3) := by decide +kernel
theorem dX12_closes_30 : decode cX12_closes 30 = .ok (.aload_n 0, 1) := by decide +kernel
theorem dX12_closes_31 : decode cX12_closes 31 = .ok (.invokevirtual 279, 3) := by decide +kernel
theorem dX12_closes_34 : decode cX12_closes 34 = .ok (.return_, 1) := by decide +kernel
theorem dX12_ends_0 : decode cX12_ends 0 = .ok (.aload_n 0, 1) := by decide +kernel
theorem dX12_ends_1 : decode cX12_ends 1 = .ok (.getfield 294, 3) := by decide +kernel
theorem dX12_ends_4 : decode cX12_ends 4 = .ok (.ifCond .le 59, 3) := by decide +kernel
theorem dX12_ends_7 : decode cX12_ends 7 = .ok (.aload_n 0, 1) := by decide +kernel
theorem dX12_ends_8 : decode cX12_ends 8 = .ok (.getfield 131, 3) := by decide +kernel
theorem dX12_ends_11 : decode cX12_ends 11 = .ok (.aload_n 0, 1) := by decide +kernel
theorem dX12_ends_12 : decode cX12_ends 12 = .ok (.getfield 294, 3) := by decide +kernel
theorem dX12_ends_15 : decode cX12_ends 15 = .ok (.iconst 1, 1) := by decide +kernel
theorem dX12_ends_16 : decode cX12_ends 16 = .ok (.isub, 1) := by decide +kernel
theorem dX12_ends_17 : decode cX12_ends 17 = .ok (.iaload, 1) := by decide +kernel
theorem dX12_ends_18 : decode cX12_ends 18 = .ok (.ifCond .ge 45, 3) := by decide +kernel
theorem dX12_ends_21 : decode cX12_ends 21 = .ok (.aload_n 0, 1) := by decide +kernel
theorem dX12_ends_22 : decode cX12_ends 22 = .ok (.aload_n 0, 1) := by decide +kernel
theorem dX12_ends_23 : decode cX12_ends 23 = .ok (.getfield 294, 3) := by decide +kernel
theorem dX12_ends_26 : decode cX12_ends 26 = .ok (.iconst 1, 1) := by decide +kernel
theorem dX12_ends_27 : decode cX12_ends 27 = .ok (.isub, 1) := by decide +kernel
theorem dX12_ends_28 : decode cX12_ends 28 = .ok (.putfield 294, 3) := by decide +kernel
theorem dX12_ends_31 : decode cX12_ends 31 = .ok (.aload_n 0, 1) := by decide +kernel
theorem dX12_ends_32 : decode cX12_ends 32 = .ok (.getfield 104, 3) := by decide +kernel
theorem dX12_ends_35 : decode cX12_ends 35 = .ok (.sipush 3200, 3) := by decide +kernel
theorem dX12_ends_38 : decode cX12_ends 38 = .ok (.aload_n 0, 1) := by decide +kernel
theorem dX12_ends_39 : decode cX12_ends 39 = .ok (.getfield 131, 3) := by decide +kernel
theorem dX12_ends_42 : decode cX12_ends 42 = .ok (.aload_n 0, 1) := by decide +kernel
theorem dX12_ends_43 : decode cX12_ends 43 = .ok (.getfield 294, 3) := by decide +kernel
theorem dX12_ends_46 : decode cX12_ends 46 = .ok (.iaload, 1) := by decide +kernel
theorem dX12_ends_47 : decode cX12_ends 47 = .ok (.iadd, 1) := by decide +kernel
theorem dX12_ends_48 : decode cX12_ends 48 = .ok (.sipush 1000, 3) := by decide +kernel
theorem dX12_ends_51 : decode cX12_ends 51 = .ok (.iadd, 1) := by decide +kernel
theorem dX12_ends_52 : decode cX12_ends 52 = .ok (.aload_n 0, 1) := by decide +kernel
theorem dX12_ends_53 : decode cX12_ends 53 = .ok (.getfield 110, 3) := by decide +kernel
theorem dX12_ends_56 : decode cX12_ends 56 = .ok (.bipush 8, 2) := by decide +kernel
theorem dX12_ends_58 : decode cX12_ends 58 = .ok (.iaload, 1) := by decide +kernel
theorem dX12_ends_59 : decode cX12_ends 59 = .ok (.iastore, 1) := by decide +kernel
theorem dX12_ends_60 : decode cX12_ends 60 = .ok (.goto (-60), 3) := by decide +kernel
theorem dX12_ends_63 : decode cX12_ends 63 = .ok (.aload_n 0, 1) := by decide +kernel
theorem dX12_ends_64 : decode cX12_ends 64 = .ok (.bipush 59, 2) := by decide +kernel
theorem dX12_ends_66 : decode cX12_ends 66 = .ok (.invokevirtual 291, 3) := by decide +kernel
theorem dX12_ends_69 : decode cX12_ends 69 = .ok (.ifCond .ne 9, 3) := by decide +kernel
theorem dX12_ends_72 : decode cX12_ends 72 = .ok (.aload_n 0, 1) := by decide +kernel
theorem dX12_ends_73 : decode cX12_ends 73 = .ok (.iconst 1, 1) := by decide +kernel
theorem dX12_ends_74 : decode cX12_ends 74 = .ok (.invokevirtual 282, 3) := by decide +kernel
theorem dX12_ends_77 : decode cX12_ends 77 = .ok (.ireturn, 1) := by decide +kernel
theorem dX12_ends_78 : decode cX12_ends 78 = .ok (.aload_n 0, 1) := by decide +kernel
theorem dX12_ends_79 : decode cX12_ends 79 = .ok (.invokevirtual 279, 3) := by decide +kernel
theorem dX12_ends_82 : decode cX12_ends 82 = .ok (.iconst 0, 1) := by decide +kernel
theorem dX12_ends_83 : decode cX12_ends 83 = .ok (.ireturn, 1) := by decide +kernel
theorem dX12_readAll_0 : decode cX12_readAll 0 = .ok (.aload_n 0, 1) := by decide +kernel
theorem dX12_readAll_1 : decode cX12_readAll 1 = .ok (.iconst 0, 1) := by decide +kernel
theorem dX12_readAll_2 : decode cX12_readAll 2 = .ok (.putfield 245, 3) := by decide +kernel
theorem dX12_readAll_5 : decode cX12_readAll 5 = .ok (.aload_n 0, 1) := by decide +kernel
theorem dX12_readAll_6 : decode cX12_readAll 6 = .ok (.getfield 110, 3) := by decide +kernel
theorem dX12_readAll_9 : decode cX12_readAll 9 = .ok (.bipush 8, 2) := by decide +kernel
theorem dX12_readAll_11 : decode cX12_readAll 11 = .ok (.iconst 0, 1) := by decide +kernel
theorem dX12_readAll_12 : decode cX12_readAll 12 = .ok (.iastore, 1) := by decide +kernel
theorem dX12_readAll_13 : decode cX12_readAll 13 = .ok (.aload_n 0, 1) := by decide +kernel
theorem dX12_readAll_14 : decode cX12_readAll 14 = .ok (.iconst 0, 1) := by decide +kernel
theorem dX12_readAll_15 : decode cX12_readAll 15 = .ok (.putfield 285, 3) := by decide +kernel
theorem dX12_readAll_18 : decode cX12_readAll 18 = .ok (.aload_n 0, 1) := by decide +kernel
theorem dX12_readAll_19 : decode cX12_readAll 19 = .ok (.iconst 0, 1) := by decide +kernel
theorem dX12_readAll_20 : decode cX12_readAll 20 = .ok (.putfield 294, 3) := by decide +kernel
theorem dX12_readAll_23 : decode cX12_readAll 23 = .ok (.aload_n 0, 1) := by decide +kernel
theorem dX12_readAll_24 : decode cX12_readAll 24 = .ok (.invokevirtual 279, 3) := by decide +kernel
theorem dX12_readAll_27 : decode cX12_readAll 27 = .ok (.iconst 0, 1) := by decide +kernel
theorem dX12_readAll_28 : decode cX12_readAll 28 = .ok (.istore_n 1, 1) := by decide +kernel
theorem dX12_readAll_29 : decode cX12_readAll 29 = .ok (.aload_n 0, 1) := by decide +kernel
theorem dX12_readAll_30 : decode cX12_readAll 30 = .ok (.getfield 254, 3) := by decide +kernel
theorem dX12_readAll_33 : decode cX12_readAll 33 = .ok (.ifCond .ne 14, 3) := by decide +kernel
theorem dX12_readAll_36 : decode cX12_readAll 36 = .ok (.iload_n 1, 1) := by decide +kernel
theorem dX12_readAll_37 : decode cX12_readAll 37 = .ok (.ifCond .ne 10, 3) := by decide +kernel
theorem dX12_readAll_40 : decode cX12_readAll 40 = .ok (.aload_n 0, 1) := by decide +kernel
theorem dX12_readAll_41 : decode cX12_readAll 41 = .ok (.getfield 294, 3) := by decide +kernel
theorem dX12_readAll_44 : decode cX12_readAll 44 = .ok (.ifCond .le 136, 3) := by decide +kernel
theorem dX12_readAll_47 : decode cX12_readAll 47 = .ok (.iload_n 1, 1) := by decide +kernel
theorem dX12_readAll_48 : decode cX12_readAll 48 = .ok (.ifCond .ne 33, 3) := by decide +kernel
theorem dX12_readAll_51 : decode cX12_readAll 51 = .ok (.aload_n 0, 1) := by decide +kernel
theorem dX12_readAll_52 : decode cX12_readAll 52 = .ok (.bipush 8, 2) := by decide +kernel
theorem dX12_readAll_54 : decode cX12_readAll 54 = .ok (.invokevirtual 307, 3) := by decide +kernel
theorem dX12_readAll_57 : decode cX12_readAll 57 = .ok (.ifCond .eq 24, 3) := by decide +kernel
theorem dX12_readAll_60 : decode cX12_readAll 60 = .ok (.aload_n 0, 1) := by decide +kernel
theorem dX12_readAll_61 : decode cX12_readAll 61 = .ok (.invokevirtual 310, 3) := by decide +kernel
theorem dX12_readAll_64 : decode cX12_readAll 64 = .ok (.ifCond .eq 17, 3) := by decide +kernel
theorem dX12_readAll_67 : decode cX12_readAll 67 = .ok (.aload_n 0, 1) := by decide +kernel
theorem dX12_readAll_68 : decode cX12_readAll 68 = .ok (.invokevirtual 314, 3) := by decide +kernel
theorem dX12_readAll_71 : decode cX12_readAll 71 = .ok (.aload_n 0, 1) := by decide +kernel
theorem dX12_readAll_72 : decode cX12_readAll 72 = .ok (.invokevirtual 317, 3) := by decide +kernel
theorem dX12_readAll_75 : decode cX12_readAll 75 = .ok (.iconst (-1), 1) := by decide +kernel
theorem dX12_readAll_76 : decode cX12_readAll 76 = .ok (.if_icmp .ne (-47), 3) := by decide +kernel
theorem dX12_readAll_79 : decode cX12_readAll 79 = .ok (.iconst (-1), 1) := by decide +kernel
theorem dX12_readAll_80 : decode cX12_readAll 80 = .ok (.ireturn, 1) := by decide +kernel
theorem dX12_readAll_81 : decode cX12_readAll 81 = .ok (.aload_n 0, 1) := by decide +kernel
theorem dX12_readAll_82 : decode cX12_readAll 82 = .ok (.getfield 254, 3) := by decide +kernel
theorem dX12_readAll_85 : decode cX12_readAll 85 = .ok (.iconst 2, 1) := by decide +kernel
theorem dX12_readAll_86 : decode cX12_readAll 86 = .ok (.if_icmp .eq 9, 3) := by decide +kernel
theorem dX12_readAll_89 : decode cX12_readAll 89 = .ok (.aload_n 0, 1) := by decide +kernel
theorem dX12_readAll_90 : decode cX12_readAll 90 = .ok (.iconst 1, 1) := by decide +kernel
theorem dX12_readAll_91 : decode cX12_readAll 91 = .ok (.invokevirtual 282, 3) := by decide +kernel
theorem dX12_readAll_94 : decode cX12_readAll 94 = .ok (.ireturn, 1) := by decide +kernel
theorem dX12_readAll_95 : decode cX12_readAll 95 = .ok (.aload_n 0, 1) := by decide +kernel
theorem dX12_readAll_96 : decode cX12_readAll 96 = .ok (.getfield 257, 3) := by decide +kernel
theorem dX12_readAll_99 : decode cX12_readAll 99 = .ok (.bipush 9, 2) := by decide +kernel
theorem dX12_readAll_101 : decode cX12_readAll 101 = .ok (.if_icmp .ne 18, 3) := by decide +kernel
theorem dX12_readAll_104 : decode cX12_readAll 104 = .ok (.aload_n 0, 1) := by decide +kernel
theorem dX12_readAll_105 : decode cX12_readAll 105 = .ok (.invokevirtual 320, 3) := by decide +kernel
theorem dX12_readAll_108 : decode cX12_readAll 108 = .ok (.iconst (-1), 1) := by decide +kernel
theorem dX12_readAll_109 : decode cX12_readAll 109 = .ok (.if_icmp .ne 5, 3) := by decide +kernel
theorem dX12_readAll_112 : decode cX12_readAll 112 = .ok (.iconst (-1), 1) := by decide +kernel
theorem dX12_readAll_113 : decode cX12_readAll 113 = .ok (.ireturn, 1) := by decide +kernel
theorem dX12_readAll_114 : decode cX12_readAll 114 = .ok (.iconst 1, 1) := by decide +kernel
theorem dX12_readAll_115 : decode cX12_readAll 115 = .ok (.istore_n 1, 1) := by decide +kernel
theorem dX12_readAll_116 : decode cX12_readAll 116 = .ok (.goto (-87), 3) := by decide +kernel
theorem dX12_readAll_119 : decode cX12_readAll 119 = .ok (.aload_n 0, 1) := by decide +kernel
theorem dX12_readAll_120 : decode cX12_readAll 120 = .ok (.getfield 257, 3) := by decide +kernel
theorem dX12_readAll_123 : decode cX12_readAll 123 = .ok (.bipush 6, 2) := by decide +kernel
theorem dX12_readAll_125 : decode cX12_readAll 125 = .ok (.if_icmp .ne 18, 3) := by decide +kernel
theorem dX12_readAll_128 : decode cX12_readAll 128 = .ok (.aload_n 0, 1) := by decide +kernel
theorem dX12_readAll_129 : decode cX12_readAll 129 = .ok (.invokevirtual 323, 3) := by decide +kernel
theorem dX12_readAll_132 : decode cX12_readAll 132 = .ok (.iconst (-1), 1) := by decide +kernel
theorem dX12_readAll_133 : decode cX12_readAll 133 = .ok (.if_icmp .ne 5, 3) := by decide +kernel
theorem dX12_readAll_136 : decode cX12_readAll 136 = .ok (.iconst (-1), 1) := by decide +kernel
theorem dX12_readAll_137 : decode cX12_readAll 137 = .ok (.ireturn, 1) := by decide +kernel
theorem dX12_readAll_138 : decode cX12_readAll 138 = .ok (.iconst 0, 1) := by decide +kernel
theorem dX12_readAll_139 : decode cX12_readAll 139 = .ok (.istore_n 1, 1) := by decide +kernel
theorem dX12_readAll_140 : decode cX12_readAll 140 = .ok (.goto (-111), 3) := by decide +kernel
theorem dX12_readAll_143 : decode cX12_readAll 143 = .ok (.aload_n 0, 1) := by decide +kernel
theorem dX12_readAll_144 : decode cX12_readAll 144 = .ok (.getfield 257, 3) := by decide +kernel
theorem dX12_readAll_147 : decode cX12_readAll 147 = .ok (.iconst 5, 1) := by decide +kernel
theorem dX12_readAll_148 : decode cX12_readAll 148 = .ok (.if_icmp .gt 26, 3) := by decide +kernel
theorem dX12_readAll_151 : decode cX12_readAll 151 = .ok (.aload_n 0, 1) := by decide +kernel
theorem dX12_readAll_152 : decode cX12_readAll 152 = .ok (.invokevirtual 326, 3) := by decide +kernel
theorem dX12_readAll_155 : decode cX12_readAll 155 = .ok (.iconst (-1), 1) := by decide +kernel
theorem dX12_readAll_156 : decode cX12_readAll 156 = .ok (.if_icmp .eq 11, 3) := by decide +kernel
theorem dX12_readAll_159 : decode cX12_readAll 159 = .ok (.aload_n 0, 1) := by decide +kernel
theorem dX12_readAll_160 : decode cX12_readAll 160 = .ok (.invokevirtual 317, 3) := by decide +kernel
theorem dX12_readAll_163 : decode cX12_readAll 163 = .ok (.iconst (-1), 1) := by decide +kernel
theorem dX12_readAll_164 : decode cX12_readAll 164 = .ok (.if_icmp .ne 5, 3) := by decide +kernel
theorem dX12_readAll_167 : decode cX12_readAll 167 = .ok (.iconst (-1), 1) := by decide +kernel
theorem dX12_readAll_168 : decode cX12_readAll 168 = .ok (.ireturn, 1) := by decide +kernel
theorem dX12_readAll_169 : decode cX12_readAll 169 = .ok (.iconst 0, 1) := by decide +kernel
theorem dX12_readAll_170 : decode cX12_readAll 170 = .ok (.istore_n 1, 1) := by decide +kernel
theorem dX12_readAll_171 : decode cX12_readAll 171 = .ok (.goto (-142), 3) := by decide +kernel
theorem dX12_readAll_174 : decode cX12_readAll 174 = .ok (.aload_n 0, 1) := by decide +kernel
theorem dX12_readAll_175 : decode cX12_readAll 175 = .ok (.iconst 1, 1) := by decide +kernel
theorem dX12_readAll_176 : decode cX12_readAll 176 = .ok (.invokevirtual 282, 3) := by decide +kernel
theorem dX12_readAll_179 : decode cX12_readAll 179 = .ok (.ireturn, 1) := by decide +kernel
theorem dX12_readAll_180 : decode cX12_readAll 180 = .ok (.iconst 0, 1) := by decide +kernel
theorem dX12_readAll_181 : decode cX12_readAll 181 = .ok (.ireturn, 1) := by decide +kernel
theorem dX12_way_0 : decode cX12_way 0 = .ok (.aload_n 0, 1) := by decide +kernel
theorem dX12_way_1 : decode cX12_way 1 = .ok (.iconst 0, 1) := by decide +kernel
theorem dX12_way_2 : decode cX12_way 2 = .ok (.putfield 167, 3) := by decide +kernel
theorem dX12_way_5 : decode cX12_way 5 = .ok (.aload_n 0, 1) := by decide +kernel
theorem dX12_way_6 : decode cX12_way 6 = .ok (.iconst 0, 1) := by decide +kernel
theorem dX12_way_7 : decode cX12_way 7 = .ok (.putfield 329, 3) := by decide +kernel
theorem dX12_way_10 : decode cX12_way 10 = .ok (.aload_n 0, 1) := by decide +kernel
theorem dX12_way_11 : decode cX12_way 11 = .ok (.iconst (-1), 1) := by decide +kernel
theorem dX12_way_12 : decode cX12_way 12 = .ok (.putfield 134, 3) := by decide +kernel
theorem dX12_way_15 : decode cX12_way 15 = .ok (.aload_n 0, 1) := by decide +kernel
theorem dX12_way_16 : decode cX12_way 16 = .ok (.iload_n 1, 1) := by decide +kernel
theorem dX12_way_17 : decode cX12_way 17 = .ok (.iconst 0, 1) := by decide +kernel
theorem dX12_way_18 : decode cX12_way 18 = .ok (.bipush 7, 2) := by decide +kernel
theorem dX12_way_20 : decode cX12_way 20 = .ok (.invokevirtual 170, 3) := by decide +kernel
theorem dX12_way_23 : decode cX12_way 23 = .ok (.istore_n 2, 1) := by decide +kernel
theorem dX12_way_24 : decode cX12_way 24 = .ok (.iload_n 2, 1) := by decide +kernel
theorem dX12_way_25 : decode cX12_way 25 = .ok (.ifCond .eq 14, 3) := by decide +kernel
theorem dX12_way_28 : decode cX12_way 28 = .ok (.aload_n 0, 1) := by decide +kernel
theorem dX12_way_29 : decode cX12_way 29 = .ok (.invokevirtual 332, 3) := by decide +kernel
theorem dX12_way_32 : decode cX12_way 32 = .ok (.ifCond .ne 7, 3) := by decide +kernel
theorem dX12_way_35 : decode cX12_way 35 = .ok (.iconst 1, 1) := by decide +kernel
theorem dX12_way_36 : decode cX12_way 36 = .ok (.goto 4, 3) := by decide +kernel
theorem dX12_way_39 : decode cX12_way 39 = .ok (.iconst 0, 1) := by decide +kernel
theorem dX12_way_40 : decode cX12_way 40 = .ok (.istore_n 3, 1) := by decide +kernel
theorem dX12_way_41 : decode cX12_way 41 = .ok (.aload_n 0, 1) := by decide +kernel
theorem dX12_way_42 : decode cX12_way 42 = .ok (.iconst 0, 1) := by decide +kernel
theorem dX12_way_43 : decode cX12_way 43 = .ok (.putfield 239, 3) := by decide +kernel
theorem dX12_way_46 : decode cX12_way 46 = .ok (.iload_n 2, 1) := by decide +kernel
theorem dX12_way_47 : decode cX12_way 47 = .ok (.ifCond .ne 5, 3) := by decide +kernel
theorem dX12_way_50 : decode cX12_way 50 = .ok (.iconst 0, 1) := by decide +kernel
theorem dX12_way_51 : decode cX12_way 51 = .ok (.ireturn, 1) := by decide +kernel
theorem dX12_way_52 : decode cX12_way 52 = .ok (.iload_n 3, 1) := by decide +kernel
theorem dX12_way_53 : decode cX12_way 53 = .ok (.ifCond .ne 21, 3) := by decide +kernel
theorem dX12_way_56 : decode cX12_way 56 = .ok (.aload_n 0, 1) := by decide +kernel
theorem dX12_way_57 : decode cX12_way 57 = .ok (.aload_n 0, 1) := by decide +kernel
theorem dX12_way_58 : decode cX12_way 58 = .ok (.getfield 273, 3) := by decide +kernel
theorem dX12_way_61 : decode cX12_way 61 = .ok (.putfield 329, 3) := by decide +kernel
theorem dX12_way_64 : decode cX12_way 64 = .ok (.aload_n 0, 1) := by decide +kernel
theorem dX12_way_65 : decode cX12_way 65 = .ok (.aload_n 0, 1) := by decide +kernel
theorem dX12_way_66 : decode cX12_way 66 = .ok (.getfield 276, 3) := by decide +kernel
theorem dX12_way_69 : decode cX12_way 69 = .ok (.putfield 134, 3) := by decide +kernel
theorem dX12_way_72 : decode cX12_way 72 = .ok (.iconst 0, 1) := by decide +kernel
theorem dX12_way_73 : decode cX12_way 73 = .ok (.ireturn, 1) := by decide +kernel
theorem dX12_way_74 : decode cX12_way 74 = .ok (.iconst 0, 1) := by decide +kernel
theorem dX12_way_75 : decode cX12_way 75 = .ok (.istore 4, 2) := by decide +kernel
theorem dX12_way_77 : decode cX12_way 77 = .ok (.iload 4, 2) := by decide +kernel
theorem dX12_way_79 : decode cX12_way 79 = .ok (.sipush 400, 3) := by decide +kernel
theorem dX12_way_82 : decode cX12_way 82 = .ok (.if_icmp .ge 153, 3) := by decide +kernel
theorem dX12_way_85 : decode cX12_way 85 = .ok (.sipush 400, 3) := by decide +kernel
theorem dX12_way_88 : decode cX12_way 88 = .ok (.iload_n 1, 1) := by decide +kernel
theorem dX12_way_89 : decode cX12_way 89 = .ok (.imul, 1) := by decide +kernel
theorem dX12_way_90 : decode cX12_way 90 = .ok (.iload 4, 2) := by decide +kernel
theorem dX12_way_92 : decode cX12_way 92 = .ok (.iadd, 1) := by decide +kernel
theorem dX12_way_93 : decode cX12_way 93 = .ok (.istore 5, 2) := by decide +kernel
theorem dX12_way_95 : decode cX12_way 95 = .ok (.sipush 3200, 3) := by decide +kernel
theorem dX12_way_98 : decode cX12_way 98 = .ok (.iload 4, 2) := by decide +kernel
theorem dX12_way_100 : decode cX12_way 100 = .ok (.iadd, 1) := by decide +kernel
theorem dX12_way_101 : decode cX12_way 101 = .ok (.istore 6, 2) := by decide +kernel
theorem dX12_way_103 : decode cX12_way 103 = .ok (.aload_n 0, 1) := by decide +kernel
theorem dX12_way_104 : decode cX12_way 104 = .ok (.getfield 101, 3) := by decide +kernel
theorem dX12_way_107 : decode cX12_way 107 = .ok (.iload 5, 2) := by decide +kernel
theorem dX12_way_109 : decode cX12_way 109 = .ok (.aload_n 0, 1) := by decide +kernel
theorem dX12_way_110 : decode cX12_way 110 = .ok (.getfield 101, 3) := by decide +kernel
theorem dX12_way_113 : decode cX12_way 113 = .ok (.iload 6, 2) := by decide +kernel
theorem dX12_way_115 : decode cX12_way 115 = .ok (.iaload, 1) := by decide +kernel
theorem dX12_way_116 : decode cX12_way 116 = .ok (.iastore, 1) := by decide +kernel
theorem dX12_way_117 : decode cX12_way 117 = .ok (.aload_n 0, 1) := by decide +kernel
theorem dX12_way_118 : decode cX12_way 118 = .ok (.getfield 104, 3) := by decide +kernel
theorem dX12_way_121 : decode cX12_way 121 = .ok (.iload 5, 2) := by decide +kernel
theorem dX12_way_123 : decode cX12_way 123 = .ok (.aload_n 0, 1) := by decide +kernel
theorem dX12_way_124 : decode cX12_way 124 = .ok (.getfield 104, 3) := by decide +kernel
theorem dX12_way_127 : decode cX12_way 127 = .ok (.iload 6, 2) := by decide +kernel
theorem dX12_way_129 : decode cX12_way 129 = .ok (.iaload, 1) := by decide +kernel
theorem dX12_way_130 : decode cX12_way 130 = .ok (.iastore, 1) := by decide +kernel
theorem dX12_way_131 : decode cX12_way 131 = .ok (.aload_n 0, 1) := by decide +kernel
theorem dX12_way_132 : decode cX12_way 132 = .ok (.getfield 107, 3) := by decide +kernel
theorem dX12_way_135 : decode cX12_way 135 = .ok (.iload 5, 2) := by decide +kernel
theorem dX12_way_137 : decode cX12_way 137 = .ok (.aload_n 0, 1) := by decide +kernel
theorem dX12_way_138 : decode cX12_way 138 = .ok (.getfield 107, 3) := by decide +kernel
theorem dX12_way_141 : decode cX12_way 141 = .ok (.iload 6, 2) := by decide +kernel
theorem dX12_way_143 : decode cX12_way 143 = .ok (.iaload, 1) := by decide +kernel
theorem dX12_way_144 : decode cX12_way 144 = .ok (.iastore, 1) := by decide +kernel
theorem dX12_way_145 : decode cX12_way 145 = .ok (.aload_n 0, 1) := by decide +kernel
theorem dX12_way_146 : decode cX12_way 146 = .ok (.getfield 113, 3) := by decide +kernel
theorem dX12_way_149 : decode cX12_way 149 = .ok (.iload 5, 2) := by decide +kernel
theorem dX12_way_151 : decode cX12_way 151 = .ok (.aload_n 0, 1) := by decide +kernel
theorem dX12_way_152 : decode cX12_way 152 = .ok (.getfield 113, 3) := by decide +kernel
theorem dX12_way_155 : decode cX12_way 155 = .ok (.iload 6, 2) := by decide +kernel
theorem dX12_way_157 : decode cX12_way 157 = .ok (.iaload, 1) := by decide +kernel
theorem dX12_way_158 : decode cX12_way 158 = .ok (.iastore, 1) := by decide +kernel
theorem dX12_way_159 : decode cX12_way 159 = .ok (.aload_n 0, 1) := by decide +kernel
theorem dX12_way_160 : decode cX12_way 160 = .ok (.getfield 116, 3) := by decide +kernel
theorem dX12_way_163 : decode cX12_way 163 = .ok (.iload 5, 2) := by decide +kernel
theorem dX12_way_165 : decode cX12_way 165 = .ok (.aload_n 0, 1) := by decide +kernel
theorem dX12_way_166 : decode cX12_way 166 = .ok (.getfield 116, 3) := by decide +kernel
theorem dX12_way_169 : decode cX12_way 169 = .ok (.iload 6, 2) := by decide +kernel
theorem dX12_way_171 : decode cX12_way 171 = .ok (.iaload, 1) := by decide +kernel
theorem dX12_way_172 : decode cX12_way 172 = .ok (.iastore, 1) := by decide +kernel
theorem dX12_way_173 : decode cX12_way 173 = .ok (.aload_n 0, 1) := by decide +kernel
theorem dX12_way_174 : decode cX12_way 174 = .ok (.getfield 119, 3) := by decide +kernel
theorem dX12_way_177 : decode cX12_way 177 = .ok (.iload 5, 2) := by decide +kernel
theorem dX12_way_179 : decode cX12_way 179 = .ok (.aload_n 0, 1) := by decide +kernel
theorem dX12_way_180 : decode cX12_way 180 = .ok (.getfield 119, 3) := by decide +kernel
theorem dX12_way_183 : decode cX12_way 183 = .ok (.iload 6, 2) := by decide +kernel
theorem dX12_way_185 : decode cX12_way 185 = .ok (.iaload, 1) := by decide +kernel
theorem dX12_way_186 : decode cX12_way 186 = .ok (.iastore, 1) := by decide +kernel
theorem dX12_way_187 : decode cX12_way 187 = .ok (.aload_n 0, 1) := by decide +kernel
theorem dX12_way_188 : decode cX12_way 188 = .ok (.getfield 122, 3) := by decide +kernel
theorem dX12_way_191 : decode cX12_way 191 = .ok (.iload 5, 2) := by decide +kernel
theorem dX12_way_193 : decode cX12_way 193 = .ok (.aload_n 0, 1) := by decide +kernel
theorem dX12_way_194 : decode cX12_way 194 = .ok (.getfield 122, 3) := by decide +kernel
theorem dX12_way_197 : decode cX12_way 197 = .ok (.iload 6, 2) := by decide +kernel
theorem dX12_way_199 : decode cX12_way 199 = .ok (.iaload, 1) := by decide +kernel
theorem dX12_way_200 : decode cX12_way 200 = .ok (.iastore, 1) := by decide +kernel
theorem dX12_way_201 : decode cX12_way 201 = .ok (.aload_n 0, 1) := by decide +kernel
theorem dX12_way_202 : decode cX12_way 202 = .ok (.getfield 125, 3) := by decide +kernel
theorem dX12_way_205 : decode cX12_way 205 = .ok (.iload 5, 2) := by decide +kernel
theorem dX12_way_207 : decode cX12_way 207 = .ok (.aload_n 0, 1) := by decide +kernel
theorem dX12_way_208 : decode cX12_way 208 = .ok (.getfield 125, 3) := by decide +kernel
theorem dX12_way_211 : decode cX12_way 211 = .ok (.iload 6, 2) := by decide +kernel
theorem dX12_way_213 : decode cX12_way 213 = .ok (.iaload, 1) := by decide +kernel
theorem dX12_way_214 : decode cX12_way 214 = .ok (.iastore, 1) := by decide +kernel
theorem dX12_way_215 : decode cX12_way 215 = .ok (.aload_n 0, 1) := by decide +kernel
theorem dX12_way_216 : decode cX12_way 216 = .ok (.getfield 128, 3) := by decide +kernel
theorem dX12_way_219 : decode cX12_way 219 = .ok (.iload 5, 2) := by decide +kernel
theorem dX12_way_221 : decode cX12_way 221 = .ok (.aload_n 0, 1) := by decide +kernel
theorem dX12_way_222 : decode cX12_way 222 = .ok (.getfield 128, 3) := by decide +kernel
theorem dX12_way_225 : decode cX12_way 225 = .ok (.iload 6, 2) := by decide +kernel
theorem dX12_way_227 : decode cX12_way 227 = .ok (.iaload, 1) := by decide +kernel
theorem dX12_way_228 : decode cX12_way 228 = .ok (.iastore, 1) := by decide +kernel
theorem dX12_way_229 : decode cX12_way 229 = .ok (.iinc 4 1, 3) := by decide +kernel
theorem dX12_way_232 : decode cX12_way 232 = .ok (.goto (-155), 3) := by decide +kernel
theorem dX12_way_235 : decode cX12_way 235 = .ok (.aload_n 0, 1) := by decide +kernel
theorem dX12_way_236 : decode cX12_way 236 = .ok (.getfield 110, 3) := by decide +kernel
theorem dX12_way_239 : decode cX12_way 239 = .ok (.iload_n 1, 1) := by decide +kernel
theorem dX12_way_240 : decode cX12_way 240 = .ok (.aload_n 0, 1) := by decide +kernel
theorem dX12_way_241 : decode cX12_way 241 = .ok (.getfield 110, 3) := by decide +kernel
theorem dX12_way_244 : decode cX12_way 244 = .ok (.bipush 8, 2) := by decide +kernel
theorem dX12_way_246 : decode cX12_way 246 = .ok (.iaload, 1) := by decide +kernel
theorem dX12_way_247 : decode cX12_way 247 = .ok (.iastore, 1) := by decide +kernel
theorem dX12_way_248 : decode cX12_way 248 = .ok (.iconst 1, 1) := by decide +kernel
theorem dX12_way_249 : decode cX12_way 249 = .ok (.ireturn, 1) := by decide +kernel
theorem dX12_fault_0 : decode cX12_fault 0 = .ok (.aload_n 0, 1) := by decide +kernel
theorem dX12_fault_1 : decode cX12_fault 1 = .ok (.iconst 0, 1) := by decide +kernel
theorem dX12_fault_2 : decode cX12_fault 2 = .ok (.putfield 167, 3) := by decide +kernel
theorem dX12_fault_5 : decode cX12_fault 5 = .ok (.iload_n 1, 1) := by decide +kernel
theorem dX12_fault_6 : decode cX12_fault 6 = .ok (.ifCond .ne 10, 3) := by decide +kernel
theorem dX12_fault_9 : decode cX12_fault 9 = .ok (.aload_n 0, 1) := by decide +kernel
theorem dX12_fault_10 : decode cX12_fault 10 = .ok (.getfield 329, 3) := by decide +kernel
theorem dX12_fault_13 : decode cX12_fault 13 = .ok (.goto 16, 3) := by decide +kernel
theorem dX12_fault_16 : decode cX12_fault 16 = .ok (.iload_n 1, 1) := by decide +kernel
theorem dX12_fault_17 : decode cX12_fault 17 = .ok (.iconst 1, 1) := by decide +kernel
theorem dX12_fault_18 : decode cX12_fault 18 = .ok (.if_icmp .ne 10, 3) := by decide +kernel
theorem dX12_fault_21 : decode cX12_fault 21 = .ok (.aload_n 0, 1) := by decide +kernel
theorem dX12_fault_22 : decode cX12_fault 22 = .ok (.getfield 134, 3) := by decide +kernel
theorem dX12_fault_25 : decode cX12_fault 25 = .ok (.goto 4, 3) := by decide +kernel
theorem dX12_fault_28 : decode cX12_fault 28 = .ok (.iconst (-1), 1) := by decide +kernel
theorem dX12_fault_29 : decode cX12_fault 29 = .ok (.ireturn, 1) := by decide +kernel
theorem dX12_pays_0 : decode cX12_pays 0 = .ok (.aload_n 0, 1) := by decide +kernel
theorem dX12_pays_1 : decode cX12_pays 1 = .ok (.getfield 335, 3) := by decide +kernel
theorem dX12_pays_4 : decode cX12_pays 4 = .ok (.sipush 1000, 3) := by decide +kernel
theorem dX12_pays_7 : decode cX12_pays 7 = .ok (.if_icmp .ne 10, 3) := by decide +kernel
theorem dX12_pays_10 : decode cX12_pays 10 = .ok (.aload_n 0, 1) := by decide +kernel
theorem dX12_pays_11 : decode cX12_pays 11 = .ok (.iconst 1, 1) := by decide +kernel
theorem dX12_pays_12 : decode cX12_pays 12 = .ok (.putfield 338, 3) := by decide +kernel
theorem dX12_pays_15 : decode cX12_pays 15 = .ok (.iconst 0, 1) := by decide +kernel
theorem dX12_pays_16 : decode cX12_pays 16 = .ok (.ireturn, 1) := by decide +kernel
theorem dX12_pays_17 : decode cX12_pays 17 = .ok (.aload_n 0, 1) := by decide +kernel
theorem dX12_pays_18 : decode cX12_pays 18 = .ok (.aload_n 0, 1) := by decide +kernel
theorem dX12_pays_19 : decode cX12_pays 19 = .ok (.getfield 335, 3) := by decide +kernel
theorem dX12_pays_22 : decode cX12_pays 22 = .ok (.iconst 1, 1) := by decide +kernel
theorem dX12_pays_23 : decode cX12_pays 23 = .ok (.iadd, 1) := by decide +kernel
theorem dX12_pays_24 : decode cX12_pays 24 = .ok (.putfield 335, 3) := by decide +kernel
theorem dX12_pays_27 : decode cX12_pays 27 = .ok (.iconst 1, 1) := by decide +kernel
theorem dX12_pays_28 : decode cX12_pays 28 = .ok (.ireturn, 1) := by decide +kernel
theorem dX12_waits_0 : decode cX12_waits 0 = .ok (.iconst 0, 1) := by decide +kernel
theorem dX12_waits_1 : decode cX12_waits 1 = .ok (.istore_n 3, 1) := by decide +kernel
theorem dX12_waits_2 : decode cX12_waits 2 = .ok (.iload_n 3, 1) := by decide +kernel
theorem dX12_waits_3 : decode cX12_waits 3 = .ok (.iload_n 2, 1) := by decide +kernel
theorem dX12_waits_4 : decode cX12_waits 4 = .ok (.if_icmp .ge 31, 3) := by decide +kernel
theorem dX12_waits_7 : decode cX12_waits 7 = .ok (.aload_n 0, 1) := by decide +kernel
theorem dX12_waits_8 : decode cX12_waits 8 = .ok (.invokevirtual 341, 3) := by decide +kernel
theorem dX12_waits_11 : decode cX12_waits 11 = .ok (.ifCond .eq 24, 3) := by decide +kernel
theorem dX12_waits_14 : decode cX12_waits 14 = .ok (.aload_n 0, 1) := by decide +kernel
theorem dX12_waits_15 : decode cX12_waits 15 = .ok (.iload_n 1, 1) := by decide +kernel
theorem dX12_waits_16 : decode cX12_waits 16 = .ok (.invokevirtual 344, 3) := by decide +kernel
theorem dX12_waits_19 : decode cX12_waits 19 = .ok (.aload_n 0, 1) := by decide +kernel
theorem dX12_waits_20 : decode cX12_waits 20 = .ok (.aload_n 0, 1) := by decide +kernel
theorem dX12_waits_21 : decode cX12_waits 21 = .ok (.getfield 347, 3) := by decide +kernel
theorem dX12_waits_24 : decode cX12_waits 24 = .ok (.iconst 1, 1) := by decide +kernel
theorem dX12_waits_25 : decode cX12_waits 25 = .ok (.iadd, 1) := by decide +kernel
theorem dX12_waits_26 : decode cX12_waits 26 = .ok (.putfield 347, 3) := by decide +kernel
theorem dX12_waits_29 : decode cX12_waits 29 = .ok (.iinc 3 1, 3) := by decide +kernel
theorem dX12_waits_32 : decode cX12_waits 32 = .ok (.goto (-30), 3) := by decide +kernel
theorem dX12_waits_35 : decode cX12_waits 35 = .ok (.return_, 1) := by decide +kernel
theorem dX12_comes_0 : decode cX12_comes 0 = .ok (.aload_n 0, 1) := by decide +kernel
theorem dX12_comes_1 : decode cX12_comes 1 = .ok (.getfield 49, 3) := by decide +kernel
theorem dX12_comes_4 : decode cX12_comes 4 = .ok (.iload_n 1, 1) := by decide +kernel
theorem dX12_comes_5 : decode cX12_comes 5 = .ok (.iload_n 2, 1) := by decide +kernel
theorem dX12_comes_6 : decode cX12_comes 6 = .ok (.iastore, 1) := by decide +kernel
theorem dX12_comes_7 : decode cX12_comes 7 = .ok (.aload_n 0, 1) := by decide +kernel
theorem dX12_comes_8 : decode cX12_comes 8 = .ok (.getfield 52, 3) := by decide +kernel
theorem dX12_comes_11 : decode cX12_comes 11 = .ok (.iload_n 1, 1) := by decide +kernel
theorem dX12_comes_12 : decode cX12_comes 12 = .ok (.iload_n 3, 1) := by decide +kernel
theorem dX12_comes_13 : decode cX12_comes 13 = .ok (.iastore, 1) := by decide +kernel
theorem dX12_comes_14 : decode cX12_comes 14 = .ok (.aload_n 0, 1) := by decide +kernel
theorem dX12_comes_15 : decode cX12_comes 15 = .ok (.iload_n 1, 1) := by decide +kernel
theorem dX12_comes_16 : decode cX12_comes 16 = .ok (.iload_n 2, 1) := by decide +kernel
theorem dX12_comes_17 : decode cX12_comes 17 = .ok (.iload_n 3, 1) := by decide +kernel
theorem dX12_comes_18 : decode cX12_comes 18 = .ok (.invokevirtual 200, 3) := by decide +kernel
theorem dX12_comes_21 : decode cX12_comes 21 = .ok (.ifCond .eq 37, 3) := by decide +kernel
theorem dX12_comes_24 : decode cX12_comes 24 = .ok (.aload_n 0, 1) := by decide +kernel
theorem dX12_comes_25 : decode cX12_comes 25 = .ok (.getfield 46, 3) := by decide +kernel
theorem dX12_comes_28 : decode cX12_comes 28 = .ok (.sipush 192, 3) := by decide +kernel
theorem dX12_comes_31 : decode cX12_comes 31 = .ok (.iload_n 1, 1) := by decide +kernel
theorem dX12_comes_32 : decode cX12_comes 32 = .ok (.imul, 1) := by decide +kernel
theorem dX12_comes_33 : decode cX12_comes 33 = .ok (.bipush 16, 2) := by decide +kernel
theorem dX12_comes_35 : decode cX12_comes 35 = .ok (.iload_n 3, 1) := by decide +kernel
theorem dX12_comes_36 : decode cX12_comes 36 = .ok (.imul, 1) := by decide +kernel
theorem dX12_comes_37 : decode cX12_comes 37 = .ok (.iadd, 1) := by decide +kernel
theorem dX12_comes_38 : decode cX12_comes 38 = .ok (.iload_n 2, 1) := by decide +kernel
theorem dX12_comes_39 : decode cX12_comes 39 = .ok (.iadd, 1) := by decide +kernel
theorem dX12_comes_40 : decode cX12_comes 40 = .ok (.baload, 1) := by decide +kernel
theorem dX12_comes_41 : decode cX12_comes 41 = .ok (.ifCond .eq 17, 3) := by decide +kernel
theorem dX12_comes_44 : decode cX12_comes 44 = .ok (.aload_n 0, 1) := by decide +kernel
theorem dX12_comes_45 : decode cX12_comes 45 = .ok (.getfield 64, 3) := by decide +kernel
theorem dX12_comes_48 : decode cX12_comes 48 = .ok (.iload_n 1, 1) := by decide +kernel
theorem dX12_comes_49 : decode cX12_comes 49 = .ok (.aload_n 0, 1) := by decide +kernel
theorem dX12_comes_50 : decode cX12_comes 50 = .ok (.getfield 64, 3) := by decide +kernel
theorem dX12_comes_53 : decode cX12_comes 53 = .ok (.iload_n 1, 1) := by decide +kernel
theorem dX12_comes_54 : decode cX12_comes 54 = .ok (.iaload, 1) := by decide +kernel
theorem dX12_comes_55 : decode cX12_comes 55 = .ok (.iconst 1, 1) := by decide +kernel
theorem dX12_comes_56 : decode cX12_comes 56 = .ok (.iadd, 1) := by decide +kernel
theorem dX12_comes_57 : decode cX12_comes 57 = .ok (.iastore, 1) := by decide +kernel
theorem dX12_comes_58 : decode cX12_comes 58 = .ok (.return_, 1) := by decide +kernel
theorem dX12_goes_0 : decode cX12_goes 0 = .ok (.iconst 0, 1) := by decide +kernel
theorem dX12_goes_1 : decode cX12_goes 1 = .ok (.istore 4, 2) := by decide +kernel
theorem dX12_goes_3 : decode cX12_goes 3 = .ok (.iload 4, 2) := by decide +kernel
theorem dX12_goes_5 : decode cX12_goes 5 = .ok (.iload_n 3, 1) := by decide +kernel
theorem dX12_goes_6 : decode cX12_goes 6 = .ok (.if_icmp .ge 76, 3) := by decide +kernel
theorem dX12_goes_9 : decode cX12_goes 9 = .ok (.aload_n 0, 1) := by decide +kernel
theorem dX12_goes_10 : decode cX12_goes 10 = .ok (.getfield 338, 3) := by decide +kernel
theorem dX12_goes_13 : decode cX12_goes 13 = .ok (.ifCond .ne 69, 3) := by decide +kernel
theorem dX12_goes_16 : decode cX12_goes 16 = .ok (.aload_n 0, 1) := by decide +kernel
theorem dX12_goes_17 : decode cX12_goes 17 = .ok (.getfield 49, 3) := by decide +kernel
theorem dX12_goes_20 : decode cX12_goes 20 = .ok (.iload_n 1, 1) := by decide +kernel
theorem dX12_goes_21 : decode cX12_goes 21 = .ok (.iaload, 1) := by decide +kernel
theorem dX12_goes_22 : decode cX12_goes 22 = .ok (.aload_n 0, 1) := by decide +kernel
theorem dX12_goes_23 : decode cX12_goes 23 = .ok (.iload_n 2, 1) := by decide +kernel
theorem dX12_goes_24 : decode cX12_goes 24 = .ok (.invokevirtual 193, 3) := by decide +kernel
theorem dX12_goes_27 : decode cX12_goes 27 = .ok (.iadd, 1) := by decide +kernel
theorem dX12_goes_28 : decode cX12_goes 28 = .ok (.istore 5, 2) := by decide +kernel
theorem dX12_goes_30 : decode cX12_goes 30 = .ok (.aload_n 0, 1) := by decide +kernel
theorem dX12_goes_31 : decode cX12_goes 31 = .ok (.getfield 52, 3) := by decide +kernel
theorem dX12_goes_34 : decode cX12_goes 34 = .ok (.iload_n 1, 1) := by decide +kernel
theorem dX12_goes_35 : decode cX12_goes 35 = .ok (.iaload, 1) := by decide +kernel
theorem dX12_goes_36 : decode cX12_goes 36 = .ok (.aload_n 0, 1) := by decide +kernel
theorem dX12_goes_37 : decode cX12_goes 37 = .ok (.iload_n 2, 1) := by decide +kernel
theorem dX12_goes_38 : decode cX12_goes 38 = .ok (.invokevirtual 197, 3) := by decide +kernel
theorem dX12_goes_41 : decode cX12_goes 41 = .ok (.iadd, 1) := by decide +kernel
theorem dX12_goes_42 : decode cX12_goes 42 = .ok (.istore 6, 2) := by decide +kernel
theorem dX12_goes_44 : decode cX12_goes 44 = .ok (.aload_n 0, 1) := by decide +kernel
theorem dX12_goes_45 : decode cX12_goes 45 = .ok (.iload 5, 2) := by decide +kernel
theorem dX12_goes_47 : decode cX12_goes 47 = .ok (.iload 6, 2) := by decide +kernel
theorem dX12_goes_49 : decode cX12_goes 49 = .ok (.invokevirtual 189, 3) := by decide +kernel
theorem dX12_goes_52 : decode cX12_goes 52 = .ok (.ifCond .ne 4, 3) := by decide +kernel
theorem dX12_goes_55 : decode cX12_goes 55 = .ok (.return_, 1) := by decide +kernel
theorem dX12_goes_56 : decode cX12_goes 56 = .ok (.aload_n 0, 1) := by decide +kernel
theorem dX12_goes_57 : decode cX12_goes 57 = .ok (.iload_n 1, 1) := by decide +kernel
theorem dX12_goes_58 : decode cX12_goes 58 = .ok (.iload 5, 2) := by decide +kernel
theorem dX12_goes_60 : decode cX12_goes 60 = .ok (.iload 6, 2) := by decide +kernel
theorem dX12_goes_62 : decode cX12_goes 62 = .ok (.invokevirtual 350, 3) := by decide +kernel
theorem dX12_goes_65 : decode cX12_goes 65 = .ok (.aload_n 0, 1) := by decide +kernel
theorem dX12_goes_66 : decode cX12_goes 66 = .ok (.iload_n 1, 1) := by decide +kernel
theorem dX12_goes_67 : decode cX12_goes 67 = .ok (.aload_n 0, 1) := by decide +kernel
theorem dX12_goes_68 : decode cX12_goes 68 = .ok (.getfield 58, 3) := by decide +kernel
theorem dX12_goes_71 : decode cX12_goes 71 = .ok (.iload_n 1, 1) := by decide +kernel
theorem dX12_goes_72 : decode cX12_goes 72 = .ok (.iaload, 1) := by decide +kernel
theorem dX12_goes_73 : decode cX12_goes 73 = .ok (.invokevirtual 353, 3) := by decide +kernel
theorem dX12_goes_76 : decode cX12_goes 76 = .ok (.iinc 4 1, 3) := by decide +kernel
theorem dX12_goes_79 : decode cX12_goes 79 = .ok (.goto (-76), 3) := by decide +kernel
theorem dX12_goes_82 : decode cX12_goes 82 = .ok (.return_, 1) := by decide +kernel
theorem dX12_askedOf_0 : decode cX12_askedOf 0 = .ok (.aload_n 0, 1) := by decide +kernel
theorem dX12_askedOf_1 : decode cX12_askedOf 1 = .ok (.iload_n 1, 1) := by decide +kernel
theorem dX12_askedOf_2 : decode cX12_askedOf 2 = .ok (.aload_n 0, 1) := by decide +kernel
theorem dX12_askedOf_3 : decode cX12_askedOf 3 = .ok (.getfield 49, 3) := by decide +kernel
theorem dX12_askedOf_6 : decode cX12_askedOf 6 = .ok (.iload_n 1, 1) := by decide +kernel
theorem dX12_askedOf_7 : decode cX12_askedOf 7 = .ok (.iaload, 1) := by decide +kernel
theorem dX12_askedOf_8 : decode cX12_askedOf 8 = .ok (.aload_n 0, 1) := by decide +kernel
theorem dX12_askedOf_9 : decode cX12_askedOf 9 = .ok (.getfield 52, 3) := by decide +kernel
theorem dX12_askedOf_12 : decode cX12_askedOf 12 = .ok (.iload_n 1, 1) := by decide +kernel
theorem dX12_askedOf_13 : decode cX12_askedOf 13 = .ok (.iaload, 1) := by decide +kernel
theorem dX12_askedOf_14 : decode cX12_askedOf 14 = .ok (.invokevirtual 200, 3) := by decide +kernel
theorem dX12_askedOf_17 : decode cX12_askedOf 17 = .ok (.istore_n 3, 1) := by decide +kernel
theorem dX12_askedOf_18 : decode cX12_askedOf 18 = .ok (.iload_n 2, 1) := by decide +kernel
theorem dX12_askedOf_19 : decode cX12_askedOf 19 = .ok (.bipush 14, 2) := by decide +kernel
theorem dX12_askedOf_21 : decode cX12_askedOf 21 = .ok (.if_icmp .ne 39, 3) := by decide +kernel
theorem dX12_askedOf_24 : decode cX12_askedOf 24 = .ok (.iload_n 3, 1) := by decide +kernel
theorem dX12_askedOf_25 : decode cX12_askedOf 25 = .ok (.ifCond .eq 33, 3) := by decide +kernel
theorem dX12_askedOf_28 : decode cX12_askedOf 28 = .ok (.aload_n 0, 1) := by decide +kernel
theorem dX12_askedOf_29 : decode cX12_askedOf 29 = .ok (.getfield 33, 3) := by decide +kernel
theorem dX12_askedOf_32 : decode cX12_askedOf 32 = .ok (.sipush 192, 3) := by decide +kernel
theorem dX12_askedOf_35 : decode cX12_askedOf 35 = .ok (.iload_n 1, 1) := by decide +kernel
theorem dX12_askedOf_36 : decode cX12_askedOf 36 = .ok (.imul, 1) := by decide +kernel
theorem dX12_askedOf_37 : decode cX12_askedOf 37 = .ok (.bipush 16, 2) := by decide +kernel
theorem dX12_askedOf_39 : decode cX12_askedOf 39 = .ok (.aload_n 0, 1) := by decide +kernel
theorem dX12_askedOf_40 : decode cX12_askedOf 40 = .ok (.getfield 52, 3) := by decide +kernel
theorem dX12_askedOf_43 : decode cX12_askedOf 43 = .ok (.iload_n 1, 1) := by decide +kernel
theorem dX12_askedOf_44 : decode cX12_askedOf 44 = .ok (.iaload, 1) := by decide +kernel
theorem dX12_askedOf_45 : decode cX12_askedOf 45 = .ok (.imul, 1) := by decide +kernel
theorem dX12_askedOf_46 : decode cX12_askedOf 46 = .ok (.iadd, 1) := by decide +kernel
theorem dX12_askedOf_47 : decode cX12_askedOf 47 = .ok (.aload_n 0, 1) := by decide +kernel
theorem dX12_askedOf_48 : decode cX12_askedOf 48 = .ok (.getfield 49, 3) := by decide +kernel
theorem dX12_askedOf_51 : decode cX12_askedOf 51 = .ok (.iload_n 1, 1) := by decide +kernel
theorem dX12_askedOf_52 : decode cX12_askedOf 52 = .ok (.iaload, 1) := by decide +kernel
theorem dX12_askedOf_53 : decode cX12_askedOf 53 = .ok (.iadd, 1) := by decide +kernel
theorem dX12_askedOf_54 : decode cX12_askedOf 54 = .ok (.iaload, 1) := by decide +kernel
theorem dX12_askedOf_55 : decode cX12_askedOf 55 = .ok (.goto 4, 3) := by decide +kernel
theorem dX12_askedOf_58 : decode cX12_askedOf 58 = .ok (.iconst 0, 1) := by decide +kernel
theorem dX12_askedOf_59 : decode cX12_askedOf 59 = .ok (.ireturn, 1) := by decide +kernel
theorem dX12_askedOf_60 : decode cX12_askedOf 60 = .ok (.iload_n 2, 1) := by decide +kernel
theorem dX12_askedOf_61 : decode cX12_askedOf 61 = .ok (.bipush 15, 2) := by decide +kernel
theorem dX12_askedOf_63 : decode cX12_askedOf 63 = .ok (.if_icmp .ne 10, 3) := by decide +kernel
theorem dX12_askedOf_66 : decode cX12_askedOf 66 = .ok (.aload_n 0, 1) := by decide +kernel
theorem dX12_askedOf_67 : decode cX12_askedOf 67 = .ok (.getfield 49, 3) := by decide +kernel
theorem dX12_askedOf_70 : decode cX12_askedOf 70 = .ok (.iload_n 1, 1) := by decide +kernel
theorem dX12_askedOf_71 : decode cX12_askedOf 71 = .ok (.iaload, 1) := by decide +kernel
theorem dX12_askedOf_72 : decode cX12_askedOf 72 = .ok (.ireturn, 1) := by decide +kernel
theorem dX12_askedOf_73 : decode cX12_askedOf 73 = .ok (.iload_n 2, 1) := by decide +kernel
theorem dX12_askedOf_74 : decode cX12_askedOf 74 = .ok (.bipush 16, 2) := by decide +kernel
theorem dX12_askedOf_76 : decode cX12_askedOf 76 = .ok (.if_icmp .ne 10, 3) := by decide +kernel
theorem dX12_askedOf_79 : decode cX12_askedOf 79 = .ok (.aload_n 0, 1) := by decide +kernel
theorem dX12_askedOf_80 : decode cX12_askedOf 80 = .ok (.getfield 52, 3) := by decide +kernel
theorem dX12_askedOf_83 : decode cX12_askedOf 83 = .ok (.iload_n 1, 1) := by decide +kernel
theorem dX12_askedOf_84 : decode cX12_askedOf 84 = .ok (.iaload, 1) := by decide +kernel
theorem dX12_askedOf_85 : decode cX12_askedOf 85 = .ok (.ireturn, 1) := by decide +kernel
theorem dX12_askedOf_86 : decode cX12_askedOf 86 = .ok (.iload_n 2, 1) := by decide +kernel
theorem dX12_askedOf_87 : decode cX12_askedOf 87 = .ok (.bipush 17, 2) := by decide +kernel
theorem dX12_askedOf_89 : decode cX12_askedOf 89 = .ok (.if_icmp .ne 8, 3) := by decide +kernel
theorem dX12_askedOf_92 : decode cX12_askedOf 92 = .ok (.aload_n 0, 1) := by decide +kernel
theorem dX12_askedOf_93 : decode cX12_askedOf 93 = .ok (.getfield 347, 3) := by decide +kernel
theorem dX12_askedOf_96 : decode cX12_askedOf 96 = .ok (.ireturn, 1) := by decide +kernel
theorem dX12_askedOf_97 : decode cX12_askedOf 97 = .ok (.iload_n 3, 1) := by decide +kernel
theorem dX12_askedOf_98 : decode cX12_askedOf 98 = .ok (.ifCond .eq 7, 3) := by decide +kernel
theorem dX12_askedOf_101 : decode cX12_askedOf 101 = .ok (.iconst 0, 1) := by decide +kernel
theorem dX12_askedOf_102 : decode cX12_askedOf 102 = .ok (.goto 4, 3) := by decide +kernel
theorem dX12_askedOf_105 : decode cX12_askedOf 105 = .ok (.iconst 1, 1) := by decide +kernel
theorem dX12_askedOf_106 : decode cX12_askedOf 106 = .ok (.ireturn, 1) := by decide +kernel
theorem dX12_sumOf_0 : decode cX12_sumOf 0 = .ok (.iconst 0, 1) := by decide +kernel
theorem dX12_sumOf_1 : decode cX12_sumOf 1 = .ok (.istore 5, 2) := by decide +kernel
theorem dX12_sumOf_3 : decode cX12_sumOf 3 = .ok (.sipush 400, 3) := by decide +kernel
theorem dX12_sumOf_6 : decode cX12_sumOf 6 = .ok (.iload_n 2, 1) := by decide +kernel
theorem dX12_sumOf_7 : decode cX12_sumOf 7 = .ok (.imul, 1) := by decide +kernel
theorem dX12_sumOf_8 : decode cX12_sumOf 8 = .ok (.iload_n 3, 1) := by decide +kernel
theorem dX12_sumOf_9 : decode cX12_sumOf 9 = .ok (.iadd, 1) := by decide +kernel
theorem dX12_sumOf_10 : decode cX12_sumOf 10 = .ok (.istore 6, 2) := by decide +kernel
theorem dX12_sumOf_12 : decode cX12_sumOf 12 = .ok (.iload 6, 2) := by decide +kernel
theorem dX12_sumOf_14 : decode cX12_sumOf 14 = .ok (.sipush 400, 3) := by decide +kernel
theorem dX12_sumOf_17 : decode cX12_sumOf 17 = .ok (.iload_n 2, 1) := by decide +kernel
theorem dX12_sumOf_18 : decode cX12_sumOf 18 = .ok (.imul, 1) := by decide +kernel
theorem dX12_sumOf_19 : decode cX12_sumOf 19 = .ok (.iload 4, 2) := by decide +kernel
theorem dX12_sumOf_21 : decode cX12_sumOf 21 = .ok (.iadd, 1) := by decide +kernel
theorem dX12_sumOf_22 : decode cX12_sumOf 22 = .ok (.if_icmp .ge 54, 3) := by decide +kernel
theorem dX12_sumOf_25 : decode cX12_sumOf 25 = .ok (.iload 5, 2) := by decide +kernel
theorem dX12_sumOf_27 : decode cX12_sumOf 27 = .ok (.aload_n 0, 1) := by decide +kernel
theorem dX12_sumOf_28 : decode cX12_sumOf 28 = .ok (.getfield 122, 3) := by decide +kernel
theorem dX12_sumOf_31 : decode cX12_sumOf 31 = .ok (.iload 6, 2) := by decide +kernel
theorem dX12_sumOf_33 : decode cX12_sumOf 33 = .ok (.iaload, 1) := by decide +kernel
theorem dX12_sumOf_34 : decode cX12_sumOf 34 = .ok (.aload_n 0, 1) := by decide +kernel
theorem dX12_sumOf_35 : decode cX12_sumOf 35 = .ok (.getfield 125, 3) := by decide +kernel
theorem dX12_sumOf_38 : decode cX12_sumOf 38 = .ok (.iload 6, 2) := by decide +kernel
theorem dX12_sumOf_40 : decode cX12_sumOf 40 = .ok (.iaload, 1) := by decide +kernel
theorem dX12_sumOf_41 : decode cX12_sumOf 41 = .ok (.ifCond .ne 13, 3) := by decide +kernel
theorem dX12_sumOf_44 : decode cX12_sumOf 44 = .ok (.aload_n 0, 1) := by decide +kernel
theorem dX12_sumOf_45 : decode cX12_sumOf 45 = .ok (.getfield 128, 3) := by decide +kernel
theorem dX12_sumOf_48 : decode cX12_sumOf 48 = .ok (.iload 6, 2) := by decide +kernel
theorem dX12_sumOf_50 : decode cX12_sumOf 50 = .ok (.iaload, 1) := by decide +kernel
theorem dX12_sumOf_51 : decode cX12_sumOf 51 = .ok (.goto 15, 3) := by decide +kernel
theorem dX12_sumOf_54 : decode cX12_sumOf 54 = .ok (.aload_n 0, 1) := by decide +kernel
theorem dX12_sumOf_55 : decode cX12_sumOf 55 = .ok (.iload_n 1, 1) := by decide +kernel
theorem dX12_sumOf_56 : decode cX12_sumOf 56 = .ok (.aload_n 0, 1) := by decide +kernel
theorem dX12_sumOf_57 : decode cX12_sumOf 57 = .ok (.getfield 125, 3) := by decide +kernel
theorem dX12_sumOf_60 : decode cX12_sumOf 60 = .ok (.iload 6, 2) := by decide +kernel
theorem dX12_sumOf_62 : decode cX12_sumOf 62 = .ok (.iaload, 1) := by decide +kernel
theorem dX12_sumOf_63 : decode cX12_sumOf 63 = .ok (.invokevirtual 356, 3) := by decide +kernel
theorem dX12_sumOf_66 : decode cX12_sumOf 66 = .ok (.imul, 1) := by decide +kernel
theorem dX12_sumOf_67 : decode cX12_sumOf 67 = .ok (.iadd, 1) := by decide +kernel
theorem dX12_sumOf_68 : decode cX12_sumOf 68 = .ok (.istore 5, 2) := by decide +kernel
theorem dX12_sumOf_70 : decode cX12_sumOf 70 = .ok (.iinc 6 1, 3) := by decide +kernel
theorem dX12_sumOf_73 : decode cX12_sumOf 73 = .ok (.goto (-61), 3) := by decide +kernel
theorem dX12_sumOf_76 : decode cX12_sumOf 76 = .ok (.iload 5, 2) := by decide +kernel
theorem dX12_sumOf_78 : decode cX12_sumOf 78 = .ok (.ireturn, 1) := by decide +kernel
theorem dX12_isSo_0 : decode cX12_isSo 0 = .ok (.sipush 400, 3) := by decide +kernel
theorem dX12_isSo_3 : decode cX12_isSo 3 = .ok (.iload_n 2, 1) := by decide +kernel
theorem dX12_isSo_4 : decode cX12_isSo 4 = .ok (.imul, 1) := by decide +kernel
theorem dX12_isSo_5 : decode cX12_isSo 5 = .ok (.iload_n 3, 1) := by decide +kernel
theorem dX12_isSo_6 : decode cX12_isSo 6 = .ok (.iadd, 1) := by decide +kernel
theorem dX12_isSo_7 : decode cX12_isSo 7 = .ok (.istore 4, 2) := by decide +kernel
theorem dX12_isSo_9 : decode cX12_isSo 9 = .ok (.aload_n 0, 1) := by decide +kernel
theorem dX12_isSo_10 : decode cX12_isSo 10 = .ok (.iload_n 1, 1) := by decide +kernel
theorem dX12_isSo_11 : decode cX12_isSo 11 = .ok (.iload_n 2, 1) := by decide +kernel
theorem dX12_isSo_12 : decode cX12_isSo 12 = .ok (.aload_n 0, 1) := by decide +kernel
theorem dX12_isSo_13 : decode cX12_isSo 13 = .ok (.getfield 113, 3) := by decide +kernel
theorem dX12_isSo_16 : decode cX12_isSo 16 = .ok (.iload 4, 2) := by decide +kernel
theorem dX12_isSo_18 : decode cX12_isSo 18 = .ok (.iaload, 1) := by decide +kernel
theorem dX12_isSo_19 : decode cX12_isSo 19 = .ok (.aload_n 0, 1) := by decide +kernel
theorem dX12_isSo_20 : decode cX12_isSo 20 = .ok (.getfield 116, 3) := by decide +kernel
theorem dX12_isSo_23 : decode cX12_isSo 23 = .ok (.iload 4, 2) := by decide +kernel
theorem dX12_isSo_25 : decode cX12_isSo 25 = .ok (.iaload, 1) := by decide +kernel
theorem dX12_isSo_26 : decode cX12_isSo 26 = .ok (.invokevirtual 359, 3) := by decide +kernel
theorem dX12_isSo_29 : decode cX12_isSo 29 = .ok (.istore 5, 2) := by decide +kernel
theorem dX12_isSo_31 : decode cX12_isSo 31 = .ok (.aload_n 0, 1) := by decide +kernel
theorem dX12_isSo_32 : decode cX12_isSo 32 = .ok (.iload_n 1, 1) := by decide +kernel
theorem dX12_isSo_33 : decode cX12_isSo 33 = .ok (.iload_n 2, 1) := by decide +kernel
theorem dX12_isSo_34 : decode cX12_isSo 34 = .ok (.aload_n 0, 1) := by decide +kernel
theorem dX12_isSo_35 : decode cX12_isSo 35 = .ok (.getfield 116, 3) := by decide +kernel
theorem dX12_isSo_38 : decode cX12_isSo 38 = .ok (.iload 4, 2) := by decide +kernel
theorem dX12_isSo_40 : decode cX12_isSo 40 = .ok (.iaload, 1) := by decide +kernel
theorem dX12_isSo_41 : decode cX12_isSo 41 = .ok (.aload_n 0, 1) := by decide +kernel
theorem dX12_isSo_42 : decode cX12_isSo 42 = .ok (.getfield 119, 3) := by decide +kernel
theorem dX12_isSo_45 : decode cX12_isSo 45 = .ok (.iload 4, 2) := by decide +kernel
theorem dX12_isSo_47 : decode cX12_isSo 47 = .ok (.iaload, 1) := by decide +kernel
theorem dX12_isSo_48 : decode cX12_isSo 48 = .ok (.invokevirtual 359, 3) := by decide +kernel
theorem dX12_isSo_51 : decode cX12_isSo 51 = .ok (.istore 6, 2) := by decide +kernel
theorem dX12_isSo_53 : decode cX12_isSo 53 = .ok (.aload_n 0, 1) := by decide +kernel
theorem dX12_isSo_54 : decode cX12_isSo 54 = .ok (.getfield 107, 3) := by decide +kernel
theorem dX12_isSo_57 : decode cX12_isSo 57 = .ok (.iload 4, 2) := by decide +kernel
theorem dX12_isSo_59 : decode cX12_isSo 59 = .ok (.iaload, 1) := by decide +kernel
theorem dX12_isSo_60 : decode cX12_isSo 60 = .ok (.bipush 60, 2) := by decide +kernel
theorem dX12_isSo_62 : decode cX12_isSo 62 = .ok (.if_icmp .ne 18, 3) := by decide +kernel
theorem dX12_isSo_65 : decode cX12_isSo 65 = .ok (.iload 5, 2) := by decide +kernel
theorem dX12_isSo_67 : decode cX12_isSo 67 = .ok (.iload 6, 2) := by decide +kernel
theorem dX12_isSo_69 : decode cX12_isSo 69 = .ok (.if_icmp .ge 7, 3) := by decide +kernel
theorem dX12_isSo_72 : decode cX12_isSo 72 = .ok (.iconst 1, 1) := by decide +kernel
theorem dX12_isSo_73 : decode cX12_isSo 73 = .ok (.goto 46, 3) := by decide +kernel
theorem dX12_isSo_76 : decode cX12_isSo 76 = .ok (.iconst 0, 1) := by decide +kernel
theorem dX12_isSo_77 : decode cX12_isSo 77 = .ok (.goto 42, 3) := by decide +kernel
theorem dX12_isSo_80 : decode cX12_isSo 80 = .ok (.aload_n 0, 1) := by decide +kernel
theorem dX12_isSo_81 : decode cX12_isSo 81 = .ok (.getfield 107, 3) := by decide +kernel
theorem dX12_isSo_84 : decode cX12_isSo 84 = .ok (.iload 4, 2) := by decide +kernel
theorem dX12_isSo_86 : decode cX12_isSo 86 = .ok (.iaload, 1) := by decide +kernel
theorem dX12_isSo_87 : decode cX12_isSo 87 = .ok (.bipush 61, 2) := by decide +kernel
theorem dX12_isSo_89 : decode cX12_isSo 89 = .ok (.if_icmp .ne 18, 3) := by decide +kernel
theorem dX12_isSo_92 : decode cX12_isSo 92 = .ok (.iload 5, 2) := by decide +kernel
theorem dX12_isSo_94 : decode cX12_isSo 94 = .ok (.iload 6, 2) := by decide +kernel
theorem dX12_isSo_96 : decode cX12_isSo 96 = .ok (.if_icmp .ne 7, 3) := by decide +kernel
theorem dX12_isSo_99 : decode cX12_isSo 99 = .ok (.iconst 1, 1) := by decide +kernel
theorem dX12_isSo_100 : decode cX12_isSo 100 = .ok (.goto 19, 3) := by decide +kernel
theorem dX12_isSo_103 : decode cX12_isSo 103 = .ok (.iconst 0, 1) := by decide +kernel
theorem dX12_isSo_104 : decode cX12_isSo 104 = .ok (.goto 15, 3) := by decide +kernel
theorem dX12_isSo_107 : decode cX12_isSo 107 = .ok (.iload 5, 2) := by decide +kernel
theorem dX12_isSo_109 : decode cX12_isSo 109 = .ok (.iload 6, 2) := by decide +kernel
theorem dX12_isSo_111 : decode cX12_isSo 111 = .ok (.if_icmp .le 7, 3) := by decide +kernel
theorem dX12_isSo_114 : decode cX12_isSo 114 = .ok (.iconst 1, 1) := by decide +kernel
theorem dX12_isSo_115 : decode cX12_isSo 115 = .ok (.goto 4, 3) := by decide +kernel
theorem dX12_isSo_118 : decode cX12_isSo 118 = .ok (.iconst 0, 1) := by decide +kernel
theorem dX12_isSo_119 : decode cX12_isSo 119 = .ok (.ireturn, 1) := by decide +kernel
theorem dX12_doesPlain_0 : decode cX12_doesPlain 0 = .ok (.iload_n 2, 1) := by decide +kernel
theorem dX12_doesPlain_1 : decode cX12_doesPlain 1 = .ok (.ifCond .eq 8, 3) := by decide +kernel
theorem dX12_doesPlain_4 : decode cX12_doesPlain 4 = .ok (.iload_n 2, 1) := by decide +kernel
theorem dX12_doesPlain_5 : decode cX12_doesPlain 5 = .ok (.iconst 1, 1) := by decide +kernel
theorem dX12_doesPlain_6 : decode cX12_doesPlain 6 = .ok (.if_icmp .ne 18, 3) := by decide +kernel
theorem dX12_doesPlain_9 : decode cX12_doesPlain 9 = .ok (.aload_n 0, 1) := by decide +kernel
theorem dX12_doesPlain_10 : decode cX12_doesPlain 10 = .ok (.getfield 55, 3) := by decide +kernel
theorem dX12_doesPlain_13 : decode cX12_doesPlain 13 = .ok (.iload_n 1, 1) := by decide +kernel
theorem dX12_doesPlain_14 : decode cX12_doesPlain 14 = .ok (.iload_n 2, 1) := by decide +kernel
theorem dX12_doesPlain_15 : decode cX12_doesPlain 15 = .ok (.ifCond .ne 7, 3) := by decide +kernel
theorem dX12_doesPlain_18 : decode cX12_doesPlain 18 = .ok (.iconst 1, 1) := by decide +kernel
theorem dX12_doesPlain_19 : decode cX12_doesPlain 19 = .ok (.goto 4, 3) := by decide +kernel
theorem dX12_doesPlain_22 : decode cX12_doesPlain 22 = .ok (.iconst 0, 1) := by decide +kernel
theorem dX12_doesPlain_23 : decode cX12_doesPlain 23 = .ok (.bastore, 1) := by decide +kernel
theorem dX12_doesPlain_24 : decode cX12_doesPlain 24 = .ok (.iload_n 2, 1) := by decide +kernel
theorem dX12_doesPlain_25 : decode cX12_doesPlain 25 = .ok (.iconst 2, 1) := by decide +kernel
theorem dX12_doesPlain_26 : decode cX12_doesPlain 26 = .ok (.if_icmp .ne 21, 3) := by decide +kernel
theorem dX12_doesPlain_29 : decode cX12_doesPlain 29 = .ok (.aload_n 0, 1) := by decide +kernel
theorem dX12_doesPlain_30 : decode cX12_doesPlain 30 = .ok (.iload_n 3, 1) := by decide +kernel
theorem dX12_doesPlain_31 : decode cX12_doesPlain 31 = .ok (.iload 4, 2) := by decide +kernel
theorem dX12_doesPlain_33 : decode cX12_doesPlain 33 = .ok (.invokevirtual 189, 3) := by decide +kernel
theorem dX12_doesPlain_36 : decode cX12_doesPlain 36 = .ok (.ifCond .eq 11, 3) := by decide +kernel
theorem dX12_doesPlain_39 : decode cX12_doesPlain 39 = .ok (.aload_n 0, 1) := by decide +kernel
theorem dX12_doesPlain_40 : decode cX12_doesPlain 40 = .ok (.iload_n 1, 1) := by decide +kernel
theorem dX12_doesPlain_41 : decode cX12_doesPlain 41 = .ok (.iload_n 3, 1) := by decide +kernel
theorem dX12_doesPlain_42 : decode cX12_doesPlain 42 = .ok (.iload 4, 2) := by decide +kernel
theorem dX12_doesPlain_44 : decode cX12_doesPlain 44 = .ok (.invokevirtual 350, 3) := by decide +kernel
theorem dX12_doesPlain_47 : decode cX12_doesPlain 47 = .ok (.iload_n 2, 1) := by decide +kernel
theorem dX12_doesPlain_48 : decode cX12_doesPlain 48 = .ok (.iconst 3, 1) := by decide +kernel
theorem dX12_doesPlain_49 : decode cX12_doesPlain 49 = .ok (.if_icmp .ne 11, 3) := by decide +kernel
theorem dX12_doesPlain_52 : decode cX12_doesPlain 52 = .ok (.aload_n 0, 1) := by decide +kernel
theorem dX12_doesPlain_53 : decode cX12_doesPlain 53 = .ok (.iload_n 1, 1) := by decide +kernel
theorem dX12_doesPlain_54 : decode cX12_doesPlain 54 = .ok (.iload_n 3, 1) := by decide +kernel
theorem dX12_doesPlain_55 : decode cX12_doesPlain 55 = .ok (.iload 4, 2) := by decide +kernel
theorem dX12_doesPlain_57 : decode cX12_doesPlain 57 = .ok (.invokevirtual 362, 3) := by decide +kernel
theorem dX12_doesPlain_60 : decode cX12_doesPlain 60 = .ok (.iload_n 2, 1) := by decide +kernel
theorem dX12_doesPlain_61 : decode cX12_doesPlain 61 = .ok (.iconst 4, 1) := by decide +kernel
theorem dX12_doesPlain_62 : decode cX12_doesPlain 62 = .ok (.if_icmp .ne 9, 3) := by decide +kernel
theorem dX12_doesPlain_65 : decode cX12_doesPlain 65 = .ok (.aload_n 0, 1) := by decide +kernel
theorem dX12_doesPlain_66 : decode cX12_doesPlain 66 = .ok (.iload_n 1, 1) := by decide +kernel
theorem dX12_doesPlain_67 : decode cX12_doesPlain 67 = .ok (.iload_n 3, 1) := by decide +kernel
theorem dX12_doesPlain_68 : decode cX12_doesPlain 68 = .ok (.invokevirtual 353, 3) := by decide +kernel
theorem dX12_doesPlain_71 : decode cX12_doesPlain 71 = .ok (.iload_n 2, 1) := by decide +kernel
theorem dX12_doesPlain_72 : decode cX12_doesPlain 72 = .ok (.iconst 5, 1) := by decide +kernel
theorem dX12_doesPlain_73 : decode cX12_doesPlain 73 = .ok (.if_icmp .ne 10, 3) := by decide +kernel
theorem dX12_doesPlain_76 : decode cX12_doesPlain 76 = .ok (.aload_n 0, 1) := by decide +kernel
theorem dX12_doesPlain_77 : decode cX12_doesPlain 77 = .ok (.getfield 58, 3) := by decide +kernel
theorem dX12_doesPlain_80 : decode cX12_doesPlain 80 = .ok (.iload_n 1, 1) := by decide +kernel
theorem dX12_doesPlain_81 : decode cX12_doesPlain 81 = .ok (.iload_n 3, 1) := by decide +kernel
theorem dX12_doesPlain_82 : decode cX12_doesPlain 82 = .ok (.iastore, 1) := by decide +kernel
theorem dX12_doesPlain_83 : decode cX12_doesPlain 83 = .ok (.return_, 1) := by decide +kernel
theorem dX12_runs_0 : decode cX12_runs 0 = .ok (.aload_n 0, 1) := by decide +kernel
theorem dX12_runs_1 : decode cX12_runs 1 = .ok (.iconst 0, 1) := by decide +kernel
theorem dX12_runs_2 : decode cX12_runs 2 = .ok (.putfield 335, 3) := by decide +kernel
theorem dX12_runs_5 : decode cX12_runs 5 = .ok (.aload_n 0, 1) := by decide +kernel
theorem dX12_runs_6 : decode cX12_runs 6 = .ok (.iconst 0, 1) := by decide +kernel
theorem dX12_runs_7 : decode cX12_runs 7 = .ok (.putfield 338, 3) := by decide +kernel
theorem dX12_runs_10 : decode cX12_runs 10 = .ok (.aload_n 0, 1) := by decide +kernel
theorem dX12_runs_11 : decode cX12_runs 11 = .ok (.iconst 0, 1) := by decide +kernel
theorem dX12_runs_12 : decode cX12_runs 12 = .ok (.putfield 347, 3) := by decide +kernel
theorem dX12_runs_15 : decode cX12_runs 15 = .ok (.iconst 0, 1) := by decide +kernel
theorem dX12_runs_16 : decode cX12_runs 16 = .ok (.istore_n 3, 1) := by decide +kernel
theorem dX12_runs_17 : decode cX12_runs 17 = .ok (.iconst 0, 1) := by decide +kernel
theorem dX12_runs_18 : decode cX12_runs 18 = .ok (.istore 4, 2) := by decide +kernel
theorem dX12_runs_20 : decode cX12_runs 20 = .ok (.iload_n 3, 1) := by decide +kernel
theorem dX12_runs_21 : decode cX12_runs 21 = .ok (.aload_n 0, 1) := by decide +kernel
theorem dX12_runs_22 : decode cX12_runs 22 = .ok (.getfield 110, 3) := by decide +kernel
theorem dX12_runs_25 : decode cX12_runs 25 = .ok (.iload_n 2, 1) := by decide +kernel
theorem dX12_runs_26 : decode cX12_runs 26 = .ok (.iaload, 1) := by decide +kernel
theorem dX12_runs_27 : decode cX12_runs 27 = .ok (.if_icmp .ge 198, 3) := by decide +kernel
theorem dX12_runs_30 : decode cX12_runs 30 = .ok (.aload_n 0, 1) := by decide +kernel
theorem dX12_runs_31 : decode cX12_runs 31 = .ok (.getfield 338, 3) := by decide +kernel
theorem dX12_runs_34 : decode cX12_runs 34 = .ok (.ifCond .ne 191, 3) := by decide +kernel
theorem dX12_runs_37 : decode cX12_runs 37 = .ok (.sipush 400, 3) := by decide +kernel
theorem dX12_runs_40 : decode cX12_runs 40 = .ok (.iload_n 2, 1) := by decide +kernel
theorem dX12_runs_41 : decode cX12_runs 41 = .ok (.imul, 1) := by decide +kernel
theorem dX12_runs_42 : decode cX12_runs 42 = .ok (.iload_n 3, 1) := by decide +kernel
theorem dX12_runs_43 : decode cX12_runs 43 = .ok (.iadd, 1) := by decide +kernel
theorem dX12_runs_44 : decode cX12_runs 44 = .ok (.istore 5, 2) := by decide +kernel
theorem dX12_runs_46 : decode cX12_runs 46 = .ok (.aload_n 0, 1) := by decide +kernel
theorem dX12_runs_47 : decode cX12_runs 47 = .ok (.getfield 101, 3) := by decide +kernel
theorem dX12_runs_50 : decode cX12_runs 50 = .ok (.iload 5, 2) := by decide +kernel
theorem dX12_runs_52 : decode cX12_runs 52 = .ok (.iaload, 1) := by decide +kernel
theorem dX12_runs_53 : decode cX12_runs 53 = .ok (.bipush 7, 2) := by decide +kernel
theorem dX12_runs_55 : decode cX12_runs 55 = .ok (.if_icmp .ne 57, 3) := by decide +kernel
theorem dX12_runs_58 : decode cX12_runs 58 = .ok (.aload_n 0, 1) := by decide +kernel
theorem dX12_runs_59 : decode cX12_runs 59 = .ok (.getfield 137, 3) := by decide +kernel
theorem dX12_runs_62 : decode cX12_runs 62 = .ok (.iload 4, 2) := by decide +kernel
theorem dX12_runs_64 : decode cX12_runs 64 = .ok (.iconst 1, 1) := by decide +kernel
theorem dX12_runs_65 : decode cX12_runs 65 = .ok (.isub, 1) := by decide +kernel
theorem dX12_runs_66 : decode cX12_runs 66 = .ok (.aload_n 0, 1) := by decide +kernel
theorem dX12_runs_67 : decode cX12_runs 67 = .ok (.getfield 137, 3) := by decide +kernel
theorem dX12_runs_70 : decode cX12_runs 70 = .ok (.iload 4, 2) := by decide +kernel
theorem dX12_runs_72 : decode cX12_runs 72 = .ok (.iconst 1, 1) := by decide +kernel
theorem dX12_runs_73 : decode cX12_runs 73 = .ok (.isub, 1) := by decide +kernel
theorem dX12_runs_74 : decode cX12_runs 74 = .ok (.iaload, 1) := by decide +kernel
theorem dX12_runs_75 : decode cX12_runs 75 = .ok (.iconst 1, 1) := by decide +kernel
theorem dX12_runs_76 : decode cX12_runs 76 = .ok (.isub, 1) := by decide +kernel
theorem dX12_runs_77 : decode cX12_runs 77 = .ok (.iastore, 1) := by decide +kernel
theorem dX12_runs_78 : decode cX12_runs 78 = .ok (.aload_n 0, 1) := by decide +kernel
theorem dX12_runs_79 : decode cX12_runs 79 = .ok (.getfield 137, 3) := by decide +kernel
theorem dX12_runs_82 : decode cX12_runs 82 = .ok (.iload 4, 2) := by decide +kernel
theorem dX12_runs_84 : decode cX12_runs 84 = .ok (.iconst 1, 1) := by decide +kernel
theorem dX12_runs_85 : decode cX12_runs 85 = .ok (.isub, 1) := by decide +kernel
theorem dX12_runs_86 : decode cX12_runs 86 = .ok (.iaload, 1) := by decide +kernel
theorem dX12_runs_87 : decode cX12_runs 87 = .ok (.ifCond .ne 12, 3) := by decide +kernel
theorem dX12_runs_90 : decode cX12_runs 90 = .ok (.iload 4, 2) := by decide +kernel
theorem dX12_runs_92 : decode cX12_runs 92 = .ok (.iconst 1, 1) := by decide +kernel
theorem dX12_runs_93 : decode cX12_runs 93 = .ok (.isub, 1) := by decide +kernel
theorem dX12_runs_94 : decode cX12_runs 94 = .ok (.istore 4, 2) := by decide +kernel
theorem dX12_runs_96 : decode cX12_runs 96 = .ok (.goto 122, 3) := by decide +kernel
theorem dX12_runs_99 : decode cX12_runs 99 = .ok (.aload_n 0, 1) := by decide +kernel
theorem dX12_runs_100 : decode cX12_runs 100 = .ok (.getfield 104, 3) := by decide +kernel
theorem dX12_runs_103 : decode cX12_runs 103 = .ok (.iload 5, 2) := by decide +kernel
theorem dX12_runs_105 : decode cX12_runs 105 = .ok (.iaload, 1) := by decide +kernel
theorem dX12_runs_106 : decode cX12_runs 106 = .ok (.iconst 1, 1) := by decide +kernel
theorem dX12_runs_107 : decode cX12_runs 107 = .ok (.isub, 1) := by decide +kernel
theorem dX12_runs_108 : decode cX12_runs 108 = .ok (.istore_n 3, 1) := by decide +kernel
theorem dX12_runs_109 : decode cX12_runs 109 = .ok (.goto 109, 3) := by decide +kernel
theorem dX12_runs_112 : decode cX12_runs 112 = .ok (.aload_n 0, 1) := by decide +kernel
theorem dX12_runs_113 : decode cX12_runs 113 = .ok (.invokevirtual 341, 3) := by decide +kernel
theorem dX12_runs_116 : decode cX12_runs 116 = .ok (.ifCond .ne 6, 3) := by decide +kernel
theorem dX12_runs_119 : decode cX12_runs 119 = .ok (.goto 106, 3) := by decide +kernel
theorem dX12_runs_122 : decode cX12_runs 122 = .ok (.aload_n 0, 1) := by decide +kernel
theorem dX12_runs_123 : decode cX12_runs 123 = .ok (.getfield 101, 3) := by decide +kernel
theorem dX12_runs_126 : decode cX12_runs 126 = .ok (.iload 5, 2) := by decide +kernel
theorem dX12_runs_128 : decode cX12_runs 128 = .ok (.iaload, 1) := by decide +kernel
theorem dX12_runs_129 : decode cX12_runs 129 = .ok (.bipush 6, 2) := by decide +kernel
theorem dX12_runs_131 : decode cX12_runs 131 = .ok (.if_icmp .ne 26, 3) := by decide +kernel
theorem dX12_runs_134 : decode cX12_runs 134 = .ok (.aload_n 0, 1) := by decide +kernel
theorem dX12_runs_135 : decode cX12_runs 135 = .ok (.getfield 137, 3) := by decide +kernel
theorem dX12_runs_138 : decode cX12_runs 138 = .ok (.iload 4, 2) := by decide +kernel
theorem dX12_runs_140 : decode cX12_runs 140 = .ok (.aload_n 0, 1) := by decide +kernel
theorem dX12_runs_141 : decode cX12_runs 141 = .ok (.getfield 104, 3) := by decide +kernel
theorem dX12_runs_144 : decode cX12_runs 144 = .ok (.iload 5, 2) := by decide +kernel
theorem dX12_runs_146 : decode cX12_runs 146 = .ok (.iaload, 1) := by decide +kernel
theorem dX12_runs_147 : decode cX12_runs 147 = .ok (.iastore, 1) := by decide +kernel
theorem dX12_runs_148 : decode cX12_runs 148 = .ok (.iload 4, 2) := by decide +kernel
theorem dX12_runs_150 : decode cX12_runs 150 = .ok (.iconst 1, 1) := by decide +kernel
theorem dX12_runs_151 : decode cX12_runs 151 = .ok (.iadd, 1) := by decide +kernel
theorem dX12_runs_152 : decode cX12_runs 152 = .ok (.istore 4, 2) := by decide +kernel
theorem dX12_runs_154 : decode cX12_runs 154 = .ok (.goto 64, 3) := by decide +kernel
theorem dX12_runs_157 : decode cX12_runs 157 = .ok (.aload_n 0, 1) := by decide +kernel
theorem dX12_runs_158 : decode cX12_runs 158 = .ok (.getfield 101, 3) := by decide +kernel
theorem dX12_runs_161 : decode cX12_runs 161 = .ok (.iload 5, 2) := by decide +kernel
theorem dX12_runs_163 : decode cX12_runs 163 = .ok (.iaload, 1) := by decide +kernel
theorem dX12_runs_164 : decode cX12_runs 164 = .ok (.bipush 8, 2) := by decide +kernel
theorem dX12_runs_166 : decode cX12_runs 166 = .ok (.if_icmp .ne 26, 3) := by decide +kernel
theorem dX12_runs_169 : decode cX12_runs 169 = .ok (.aload_n 0, 1) := by decide +kernel
theorem dX12_runs_170 : decode cX12_runs 170 = .ok (.iload_n 1, 1) := by decide +kernel
theorem dX12_runs_171 : decode cX12_runs 171 = .ok (.iload_n 2, 1) := by decide +kernel
theorem dX12_runs_172 : decode cX12_runs 172 = .ok (.iload_n 3, 1) := by decide +kernel
theorem dX12_runs_173 : decode cX12_runs 173 = .ok (.invokevirtual 365, 3) := by decide +kernel
theorem dX12_runs_176 : decode cX12_runs 176 = .ok (.ifCond .ne 42, 3) := by decide +kernel
theorem dX12_runs_179 : decode cX12_runs 179 = .ok (.aload_n 0, 1) := by decide +kernel
theorem dX12_runs_180 : decode cX12_runs 180 = .ok (.getfield 104, 3) := by decide +kernel
theorem dX12_runs_183 : decode cX12_runs 183 = .ok (.iload 5, 2) := by decide +kernel
theorem dX12_runs_185 : decode cX12_runs 185 = .ok (.iaload, 1) := by decide +kernel
theorem dX12_runs_186 : decode cX12_runs 186 = .ok (.iconst 1, 1) := by decide +kernel
theorem dX12_runs_187 : decode cX12_runs 187 = .ok (.isub, 1) := by decide +kernel
theorem dX12_runs_188 : decode cX12_runs 188 = .ok (.istore_n 3, 1) := by decide +kernel
theorem dX12_runs_189 : decode cX12_runs 189 = .ok (.goto 29, 3) := by decide +kernel
theorem dX12_runs_192 : decode cX12_runs 192 = .ok (.aload_n 0, 1) := by decide +kernel
theorem dX12_runs_193 : decode cX12_runs 193 = .ok (.iload_n 1, 1) := by decide +kernel
theorem dX12_runs_194 : decode cX12_runs 194 = .ok (.aload_n 0, 1) := by decide +kernel
theorem dX12_runs_195 : decode cX12_runs 195 = .ok (.getfield 101, 3) := by decide +kernel
theorem dX12_runs_198 : decode cX12_runs 198 = .ok (.iload 5, 2) := by decide +kernel
theorem dX12_runs_200 : decode cX12_runs 200 = .ok (.iaload, 1) := by decide +kernel
theorem dX12_runs_201 : decode cX12_runs 201 = .ok (.aload_n 0, 1) := by decide +kernel
theorem dX12_runs_202 : decode cX12_runs 202 = .ok (.getfield 104, 3) := by decide +kernel
theorem dX12_runs_205 : decode cX12_runs 205 = .ok (.iload 5, 2) := by decide +kernel
theorem dX12_runs_207 : decode cX12_runs 207 = .ok (.iaload, 1) := by decide +kernel
theorem dX12_runs_208 : decode cX12_runs 208 = .ok (.aload_n 0, 1) := by decide +kernel
theorem dX12_runs_209 : decode cX12_runs 209 = .ok (.getfield 107, 3) := by decide +kernel
theorem dX12_runs_212 : decode cX12_runs 212 = .ok (.iload 5, 2) := by decide +kernel
theorem dX12_runs_214 : decode cX12_runs 214 = .ok (.iaload, 1) := by decide +kernel
theorem dX12_runs_215 : decode cX12_runs 215 = .ok (.invokevirtual 368, 3) := by decide +kernel
theorem dX12_runs_218 : decode cX12_runs 218 = .ok (.iload_n 3, 1) := by decide +kernel
theorem dX12_runs_219 : decode cX12_runs 219 = .ok (.iconst 1, 1) := by decide +kernel
theorem dX12_runs_220 : decode cX12_runs 220 = .ok (.iadd, 1) := by decide +kernel
theorem dX12_runs_221 : decode cX12_runs 221 = .ok (.istore_n 3, 1) := by decide +kernel
theorem dX12_runs_222 : decode cX12_runs 222 = .ok (.goto (-202), 3) := by decide +kernel
theorem dX12_runs_225 : decode cX12_runs 225 = .ok (.aload_n 0, 1) := by decide +kernel
theorem dX12_runs_226 : decode cX12_runs 226 = .ok (.getfield 338, 3) := by decide +kernel
theorem dX12_runs_229 : decode cX12_runs 229 = .ok (.ifCond .eq 17, 3) := by decide +kernel
theorem dX12_runs_232 : decode cX12_runs 232 = .ok (.aload_n 0, 1) := by decide +kernel
theorem dX12_runs_233 : decode cX12_runs 233 = .ok (.getfield 67, 3) := by decide +kernel
theorem dX12_runs_236 : decode cX12_runs 236 = .ok (.iload_n 1, 1) := by decide +kernel
theorem dX12_runs_237 : decode cX12_runs 237 = .ok (.aload_n 0, 1) := by decide +kernel
theorem dX12_runs_238 : decode cX12_runs 238 = .ok (.getfield 67, 3) := by decide +kernel
theorem dX12_runs_241 : decode cX12_runs 241 = .ok (.iload_n 1, 1) := by decide +kernel
theorem dX12_runs_242 : decode cX12_runs 242 = .ok (.iaload, 1) := by decide +kernel
theorem dX12_runs_243 : decode cX12_runs 243 = .ok (.iconst 1, 1) := by decide +kernel
theorem dX12_runs_244 : decode cX12_runs 244 = .ok (.iadd, 1) := by decide +kernel
theorem dX12_runs_245 : decode cX12_runs 245 = .ok (.iastore, 1) := by decide +kernel
theorem dX12_runs_246 : decode cX12_runs 246 = .ok (.return_, 1) := by decide +kernel
theorem dX12_run_0 : decode cX12_run 0 = .ok (.aload_n 0, 1) := by decide +kernel
theorem dX12_run_1 : decode cX12_run 1 = .ok (.iconst 0, 1) := by decide +kernel
theorem dX12_run_2 : decode cX12_run 2 = .ok (.putfield 167, 3) := by decide +kernel
theorem dX12_run_5 : decode cX12_run 5 = .ok (.aload_n 0, 1) := by decide +kernel
theorem dX12_run_6 : decode cX12_run 6 = .ok (.iload_n 1, 1) := by decide +kernel
theorem dX12_run_7 : decode cX12_run 7 = .ok (.iconst 0, 1) := by decide +kernel
theorem dX12_run_8 : decode cX12_run 8 = .ok (.bipush 7, 2) := by decide +kernel
theorem dX12_run_10 : decode cX12_run 10 = .ok (.invokevirtual 170, 3) := by decide +kernel
theorem dX12_run_13 : decode cX12_run 13 = .ok (.ifCond .eq 10, 3) := by decide +kernel
theorem dX12_run_16 : decode cX12_run 16 = .ok (.aload_n 0, 1) := by decide +kernel
theorem dX12_run_17 : decode cX12_run 17 = .ok (.getfield 174, 3) := by decide +kernel
theorem dX12_run_20 : decode cX12_run 20 = .ok (.ifCond .ne 5, 3) := by decide +kernel
theorem dX12_run_23 : decode cX12_run 23 = .ok (.iconst (-1), 1) := by decide +kernel
theorem dX12_run_24 : decode cX12_run 24 = .ok (.ireturn, 1) := by decide +kernel
theorem dX12_run_25 : decode cX12_run 25 = .ok (.aload_n 0, 1) := by decide +kernel
theorem dX12_run_26 : decode cX12_run 26 = .ok (.iconst 0, 1) := by decide +kernel
theorem dX12_run_27 : decode cX12_run 27 = .ok (.iload_n 1, 1) := by decide +kernel
theorem dX12_run_28 : decode cX12_run 28 = .ok (.invokevirtual 372, 3) := by decide +kernel
theorem dX12_run_31 : decode cX12_run 31 = .ok (.aload_n 0, 1) := by decide +kernel
theorem dX12_run_32 : decode cX12_run 32 = .ok (.getfield 347, 3) := by decide +kernel
theorem dX12_run_35 : decode cX12_run 35 = .ok (.ireturn, 1) := by decide +kernel
theorem dX12_bridgeOf_0 : decode cX12_bridgeOf 0 = .ok (.aload_n 0, 1) := by decide +kernel
theorem dX12_bridgeOf_1 : decode cX12_bridgeOf 1 = .ok (.getfield 92, 3) := by decide +kernel
theorem dX12_bridgeOf_4 : decode cX12_bridgeOf 4 = .ok (.aload_n 0, 1) := by decide +kernel
theorem dX12_bridgeOf_5 : decode cX12_bridgeOf 5 = .ok (.getfield 80, 3) := by decide +kernel
theorem dX12_bridgeOf_8 : decode cX12_bridgeOf 8 = .ok (.bipush 16, 2) := by decide +kernel
theorem dX12_bridgeOf_10 : decode cX12_bridgeOf 10 = .ok (.iload_n 2, 1) := by decide +kernel
theorem dX12_bridgeOf_11 : decode cX12_bridgeOf 11 = .ok (.imul, 1) := by decide +kernel
theorem dX12_bridgeOf_12 : decode cX12_bridgeOf 12 = .ok (.iload_n 1, 1) := by decide +kernel
theorem dX12_bridgeOf_13 : decode cX12_bridgeOf 13 = .ok (.iadd, 1) := by decide +kernel
theorem dX12_bridgeOf_14 : decode cX12_bridgeOf 14 = .ok (.iaload, 1) := by decide +kernel
theorem dX12_bridgeOf_15 : decode cX12_bridgeOf 15 = .ok (.baload, 1) := by decide +kernel
theorem dX12_bridgeOf_16 : decode cX12_bridgeOf 16 = .ok (.ifCond .eq 5, 3) := by decide +kernel
theorem dX12_bridgeOf_19 : decode cX12_bridgeOf 19 = .ok (.iconst 0, 1) := by decide +kernel
theorem dX12_bridgeOf_20 : decode cX12_bridgeOf 20 = .ok (.ireturn, 1) := by decide +kernel
theorem dX12_bridgeOf_21 : decode cX12_bridgeOf 21 = .ok (.iconst 0, 1) := by decide +kernel
theorem dX12_bridgeOf_22 : decode cX12_bridgeOf 22 = .ok (.istore_n 3, 1) := by decide +kernel
theorem dX12_bridgeOf_23 : decode cX12_bridgeOf 23 = .ok (.iload_n 3, 1) := by decide +kernel
theorem dX12_bridgeOf_24 : decode cX12_bridgeOf 24 = .ok (.sipush 192, 3) := by decide +kernel
theorem dX12_bridgeOf_27 : decode cX12_bridgeOf 27 = .ok (.if_icmp .ge 42, 3) := by decide +kernel
theorem dX12_bridgeOf_30 : decode cX12_bridgeOf 30 = .ok (.aload_n 0, 1) := by decide +kernel
theorem dX12_bridgeOf_31 : decode cX12_bridgeOf 31 = .ok (.getfield 36, 3) := by decide +kernel
theorem dX12_bridgeOf_34 : decode cX12_bridgeOf 34 = .ok (.iload_n 3, 1) := by decide +kernel
theorem dX12_bridgeOf_35 : decode cX12_bridgeOf 35 = .ok (.aload_n 0, 1) := by decide +kernel
theorem dX12_bridgeOf_36 : decode cX12_bridgeOf 36 = .ok (.getfield 80, 3) := by decide +kernel
theorem dX12_bridgeOf_39 : decode cX12_bridgeOf 39 = .ok (.iload_n 3, 1) := by decide +kernel
theorem dX12_bridgeOf_40 : decode cX12_bridgeOf 40 = .ok (.iaload, 1) := by decide +kernel
theorem dX12_bridgeOf_41 : decode cX12_bridgeOf 41 = .ok (.aload_n 0, 1) := by decide +kernel
theorem dX12_bridgeOf_42 : decode cX12_bridgeOf 42 = .ok (.getfield 80, 3) := by decide +kernel
theorem dX12_bridgeOf_45 : decode cX12_bridgeOf 45 = .ok (.bipush 16, 2) := by decide +kernel
theorem dX12_bridgeOf_47 : decode cX12_bridgeOf 47 = .ok (.iload_n 2, 1) := by decide +kernel
theorem dX12_bridgeOf_48 : decode cX12_bridgeOf 48 = .ok (.imul, 1) := by decide +kernel
theorem dX12_bridgeOf_49 : decode cX12_bridgeOf 49 = .ok (.iload_n 1, 1) := by decide +kernel
theorem dX12_bridgeOf_50 : decode cX12_bridgeOf 50 = .ok (.iadd, 1) := by decide +kernel
theorem dX12_bridgeOf_51 : decode cX12_bridgeOf 51 = .ok (.iaload, 1) := by decide +kernel
theorem dX12_bridgeOf_52 : decode cX12_bridgeOf 52 = .ok (.if_icmp .ne 7, 3) := by decide +kernel
theorem dX12_bridgeOf_55 : decode cX12_bridgeOf 55 = .ok (.iconst 0, 1) := by decide +kernel
theorem dX12_bridgeOf_56 : decode cX12_bridgeOf 56 = .ok (.goto 6, 3) := by decide +kernel
theorem dX12_bridgeOf_59 : decode cX12_bridgeOf 59 = .ok (.sipush 192, 3) := by decide +kernel
theorem dX12_bridgeOf_62 : decode cX12_bridgeOf 62 = .ok (.iastore, 1) := by decide +kernel
theorem dX12_bridgeOf_63 : decode cX12_bridgeOf 63 = .ok (.iinc 3 1, 3) := by decide +kernel
theorem dX12_bridgeOf_66 : decode cX12_bridgeOf 66 = .ok (.goto (-43), 3) := by decide +kernel
theorem dX12_bridgeOf_69 : decode cX12_bridgeOf 69 = .ok (.iconst 1, 1) := by decide +kernel
theorem dX12_bridgeOf_70 : decode cX12_bridgeOf 70 = .ok (.istore_n 3, 1) := by decide +kernel
theorem dX12_bridgeOf_71 : decode cX12_bridgeOf 71 = .ok (.iload_n 3, 1) := by decide +kernel
theorem dX12_bridgeOf_72 : decode cX12_bridgeOf 72 = .ok (.ifCond .eq 164, 3) := by decide +kernel
theorem dX12_bridgeOf_75 : decode cX12_bridgeOf 75 = .ok (.iconst 0, 1) := by decide +kernel
theorem dX12_bridgeOf_76 : decode cX12_bridgeOf 76 = .ok (.istore_n 3, 1) := by decide +kernel
theorem dX12_bridgeOf_77 : decode cX12_bridgeOf 77 = .ok (.iconst 0, 1) := by decide +kernel
theorem dX12_bridgeOf_78 : decode cX12_bridgeOf 78 = .ok (.istore 4, 2) := by decide +kernel
theorem dX12_bridgeOf_80 : decode cX12_bridgeOf 80 = .ok (.iload 4, 2) := by decide +kernel
theorem dX12_bridgeOf_82 : decode cX12_bridgeOf 82 = .ok (.bipush 16, 2) := by decide +kernel
theorem dX12_bridgeOf_84 : decode cX12_bridgeOf 84 = .ok (.aload_n 0, 1) := by decide +kernel
theorem dX12_bridgeOf_85 : decode cX12_bridgeOf 85 = .ok (.getfield 180, 3) := by decide +kernel
theorem dX12_bridgeOf_88 : decode cX12_bridgeOf 88 = .ok (.imul, 1) := by decide +kernel
theorem dX12_bridgeOf_89 : decode cX12_bridgeOf 89 = .ok (.if_icmp .ge 144, 3) := by decide +kernel
theorem dX12_bridgeOf_92 : decode cX12_bridgeOf 92 = .ok (.iconst 0, 1) := by decide +kernel
theorem dX12_bridgeOf_93 : decode cX12_bridgeOf 93 = .ok (.istore 5, 2) := by decide +kernel
theorem dX12_bridgeOf_95 : decode cX12_bridgeOf 95 = .ok (.iload 5, 2) := by decide +kernel
theorem dX12_bridgeOf_97 : decode cX12_bridgeOf 97 = .ok (.iconst 4, 1) := by decide +kernel
theorem dX12_bridgeOf_98 : decode cX12_bridgeOf 98 = .ok (.if_icmp .ge 129, 3) := by decide +kernel
theorem dX12_bridgeOf_101 : decode cX12_bridgeOf 101 = .ok (.aload_n 0, 1) := by decide +kernel
theorem dX12_bridgeOf_102 : decode cX12_bridgeOf 102 = .ok (.getfield 36, 3) := by decide +kernel
theorem dX12_bridgeOf_105 : decode cX12_bridgeOf 105 = .ok (.iload 4, 2) := by decide +kernel
theorem dX12_bridgeOf_107 : decode cX12_bridgeOf 107 = .ok (.iaload, 1) := by decide +kernel
theorem dX12_bridgeOf_108 : decode cX12_bridgeOf 108 = .ok (.sipush 192, 3) := by decide +kernel
theorem dX12_bridgeOf_111 : decode cX12_bridgeOf 111 = .ok (.if_icmp .ge 116, 3) := by decide +kernel
theorem dX12_bridgeOf_114 : decode cX12_bridgeOf 114 = .ok (.iload 4, 2) := by decide +kernel
theorem dX12_bridgeOf_116 : decode cX12_bridgeOf 116 = .ok (.bipush 16, 2) := by decide +kernel
theorem dX12_bridgeOf_118 : decode cX12_bridgeOf 118 = .ok (.irem, 1) := by decide +kernel
theorem dX12_bridgeOf_119 : decode cX12_bridgeOf 119 = .ok (.aload_n 0, 1) := by decide +kernel
theorem dX12_bridgeOf_120 : decode cX12_bridgeOf 120 = .ok (.iload 5, 2) := by decide +kernel
theorem dX12_bridgeOf_122 : decode cX12_bridgeOf 122 = .ok (.invokevirtual 193, 3) := by decide +kernel
theorem dX12_bridgeOf_125 : decode cX12_bridgeOf 125 = .ok (.iadd, 1) := by decide +kernel
theorem dX12_bridgeOf_126 : decode cX12_bridgeOf 126 = .ok (.istore 6, 2) := by decide +kernel
theorem dX12_bridgeOf_128 : decode cX12_bridgeOf 128 = .ok (.iload 4, 2) := by decide +kernel
theorem dX12_bridgeOf_130 : decode cX12_bridgeOf 130 = .ok (.bipush 16, 2) := by decide +kernel
theorem dX12_bridgeOf_132 : decode cX12_bridgeOf 132 = .ok (.idiv, 1) := by decide +kernel
theorem dX12_bridgeOf_133 : decode cX12_bridgeOf 133 = .ok (.aload_n 0, 1) := by decide +kernel
theorem dX12_bridgeOf_134 : decode cX12_bridgeOf 134 = .ok (.iload 5, 2) := by decide +kernel
theorem dX12_bridgeOf_136 : decode cX12_bridgeOf 136 = .ok (.invokevirtual 197, 3) := by decide +kernel
theorem dX12_bridgeOf_139 : decode cX12_bridgeOf 139 = .ok (.iadd, 1) := by decide +kernel
theorem dX12_bridgeOf_140 : decode cX12_bridgeOf 140 = .ok (.istore 7, 2) := by decide +kernel
theorem dX12_bridgeOf_142 : decode cX12_bridgeOf 142 = .ok (.aload_n 0, 1) := by decide +kernel
theorem dX12_bridgeOf_143 : decode cX12_bridgeOf 143 = .ok (.iload 6, 2) := by decide +kernel
theorem dX12_bridgeOf_145 : decode cX12_bridgeOf 145 = .ok (.iload 7, 2) := by decide +kernel
theorem dX12_bridgeOf_147 : decode cX12_bridgeOf 147 = .ok (.invokevirtual 189, 3) := by decide +kernel
theorem dX12_bridgeOf_150 : decode cX12_bridgeOf 150 = .ok (.ifCond .ne 6, 3) := by decide +kernel
theorem dX12_bridgeOf_153 : decode cX12_bridgeOf 153 = .ok (.goto 68, 3) := by decide +kernel
theorem dX12_bridgeOf_156 : decode cX12_bridgeOf 156 = .ok (.aload_n 0, 1) := by decide +kernel
theorem dX12_bridgeOf_157 : decode cX12_bridgeOf 157 = .ok (.getfield 36, 3) := by decide +kernel
theorem dX12_bridgeOf_160 : decode cX12_bridgeOf 160 = .ok (.iload 4, 2) := by decide +kernel
theorem dX12_bridgeOf_162 : decode cX12_bridgeOf 162 = .ok (.iaload, 1) := by decide +kernel
theorem dX12_bridgeOf_163 : decode cX12_bridgeOf 163 = .ok (.aload_n 0, 1) := by decide +kernel
theorem dX12_bridgeOf_164 : decode cX12_bridgeOf 164 = .ok (.iconst 0, 1) := by decide +kernel
theorem dX12_bridgeOf_165 : decode cX12_bridgeOf 165 = .ok (.iload 6, 2) := by decide +kernel
theorem dX12_bridgeOf_167 : decode cX12_bridgeOf 167 = .ok (.iload 7, 2) := by decide +kernel
theorem dX12_bridgeOf_169 : decode cX12_bridgeOf 169 = .ok (.invokevirtual 200, 3) := by decide +kernel
theorem dX12_bridgeOf_172 : decode cX12_bridgeOf 172 = .ok (.ifCond .eq 7, 3) := by decide +kernel
theorem dX12_bridgeOf_175 : decode cX12_bridgeOf 175 = .ok (.iconst 0, 1) := by decide +kernel
theorem dX12_bridgeOf_176 : decode cX12_bridgeOf 176 = .ok (.goto 4, 3) := by decide +kernel
theorem dX12_bridgeOf_179 : decode cX12_bridgeOf 179 = .ok (.iconst 1, 1) := by decide +kernel
theorem dX12_bridgeOf_180 : decode cX12_bridgeOf 180 = .ok (.iadd, 1) := by decide +kernel
theorem dX12_bridgeOf_181 : decode cX12_bridgeOf 181 = .ok (.istore 8, 2) := by decide +kernel
theorem dX12_bridgeOf_183 : decode cX12_bridgeOf 183 = .ok (.iload 8, 2) := by decide +kernel
theorem dX12_bridgeOf_185 : decode cX12_bridgeOf 185 = .ok (.aload_n 0, 1) := by decide +kernel
theorem dX12_bridgeOf_186 : decode cX12_bridgeOf 186 = .ok (.getfield 36, 3) := by decide +kernel
theorem dX12_bridgeOf_189 : decode cX12_bridgeOf 189 = .ok (.bipush 16, 2) := by decide +kernel
theorem dX12_bridgeOf_191 : decode cX12_bridgeOf 191 = .ok (.iload 7, 2) := by decide +kernel
theorem dX12_bridgeOf_193 : decode cX12_bridgeOf 193 = .ok (.imul, 1) := by decide +kernel
theorem dX12_bridgeOf_194 : decode cX12_bridgeOf 194 = .ok (.iload 6, 2) := by decide +kernel
theorem dX12_bridgeOf_196 : decode cX12_bridgeOf 196 = .ok (.iadd, 1) := by decide +kernel
theorem dX12_bridgeOf_197 : decode cX12_bridgeOf 197 = .ok (.iaload, 1) := by decide +kernel
theorem dX12_bridgeOf_198 : decode cX12_bridgeOf 198 = .ok (.if_icmp .lt 6, 3) := by decide +kernel
theorem dX12_bridgeOf_201 : decode cX12_bridgeOf 201 = .ok (.goto 20, 3) := by decide +kernel
theorem dX12_bridgeOf_204 : decode cX12_bridgeOf 204 = .ok (.aload_n 0, 1) := by decide +kernel
theorem dX12_bridgeOf_205 : decode cX12_bridgeOf 205 = .ok (.getfield 36, 3) := by decide +kernel
theorem dX12_bridgeOf_208 : decode cX12_bridgeOf 208 = .ok (.bipush 16, 2) := by decide +kernel
theorem dX12_bridgeOf_210 : decode cX12_bridgeOf 210 = .ok (.iload 7, 2) := by decide +kernel
theorem dX12_bridgeOf_212 : decode cX12_bridgeOf 212 = .ok (.imul, 1) := by decide +kernel
theorem dX12_bridgeOf_213 : decode cX12_bridgeOf 213 = .ok (.iload 6, 2) := by decide +kernel
theorem dX12_bridgeOf_215 : decode cX12_bridgeOf 215 = .ok (.iadd, 1) := by decide +kernel
theorem dX12_bridgeOf_216 : decode cX12_bridgeOf 216 = .ok (.iload 8, 2) := by decide +kernel
theorem dX12_bridgeOf_218 : decode cX12_bridgeOf 218 = .ok (.iastore, 1) := by decide +kernel
theorem dX12_bridgeOf_219 : decode cX12_bridgeOf 219 = .ok (.iconst 1, 1) := by decide +kernel
theorem dX12_bridgeOf_220 : decode cX12_bridgeOf 220 = .ok (.istore_n 3, 1) := by decide +kernel
theorem dX12_bridgeOf_221 : decode cX12_bridgeOf 221 = .ok (.iinc 5 1, 3) := by decide +kernel
theorem dX12_bridgeOf_224 : decode cX12_bridgeOf 224 = .ok (.goto (-129), 3) := by decide +kernel
theorem dX12_bridgeOf_227 : decode cX12_bridgeOf 227 = .ok (.iinc 4 1, 3) := by decide +kernel
theorem dX12_bridgeOf_230 : decode cX12_bridgeOf 230 = .ok (.goto (-150), 3) := by decide +kernel
theorem dX12_bridgeOf_233 : decode cX12_bridgeOf 233 = .ok (.goto (-162), 3) := by decide +kernel
theorem dX12_bridgeOf_236 : decode cX12_bridgeOf 236 = .ok (.sipush 192, 3) := by decide +kernel
theorem dX12_bridgeOf_239 : decode cX12_bridgeOf 239 = .ok (.istore 4, 2) := by decide +kernel
theorem dX12_bridgeOf_241 : decode cX12_bridgeOf 241 = .ok (.iconst 0, 1) := by decide +kernel
theorem dX12_bridgeOf_242 : decode cX12_bridgeOf 242 = .ok (.istore 5, 2) := by decide +kernel
theorem dX12_bridgeOf_244 : decode cX12_bridgeOf 244 = .ok (.iload 5, 2) := by decide +kernel
theorem dX12_bridgeOf_246 : decode cX12_bridgeOf 246 = .ok (.bipush 16, 2) := by decide +kernel
theorem dX12_bridgeOf_248 : decode cX12_bridgeOf 248 = .ok (.aload_n 0, 1) := by decide +kernel
theorem dX12_bridgeOf_249 : decode cX12_bridgeOf 249 = .ok (.getfield 180, 3) := by decide +kernel
theorem dX12_bridgeOf_252 : decode cX12_bridgeOf 252 = .ok (.imul, 1) := by decide +kernel
theorem dX12_bridgeOf_253 : decode cX12_bridgeOf 253 = .ok (.if_icmp .ge 127, 3) := by decide +kernel
theorem dX12_bridgeOf_256 : decode cX12_bridgeOf 256 = .ok (.iload 5, 2) := by decide +kernel
theorem dX12_bridgeOf_258 : decode cX12_bridgeOf 258 = .ok (.bipush 16, 2) := by decide +kernel
theorem dX12_bridgeOf_260 : decode cX12_bridgeOf 260 = .ok (.irem, 1) := by decide +kernel
theorem dX12_bridgeOf_261 : decode cX12_bridgeOf 261 = .ok (.istore 6, 2) := by decide +kernel
theorem dX12_bridgeOf_263 : decode cX12_bridgeOf 263 = .ok (.iload 5, 2) := by decide +kernel
theorem dX12_bridgeOf_265 : decode cX12_bridgeOf 265 = .ok (.bipush 16, 2) := by decide +kernel
theorem dX12_bridgeOf_267 : decode cX12_bridgeOf 267 = .ok (.idiv, 1) := by decide +kernel
theorem dX12_bridgeOf_268 : decode cX12_bridgeOf 268 = .ok (.istore 7, 2) := by decide +kernel
theorem dX12_bridgeOf_270 : decode cX12_bridgeOf 270 = .ok (.iload 6, 2) := by decide +kernel
theorem dX12_bridgeOf_272 : decode cX12_bridgeOf 272 = .ok (.aload_n 0, 1) := by decide +kernel
theorem dX12_bridgeOf_273 : decode cX12_bridgeOf 273 = .ok (.getfield 177, 3) := by decide +kernel
theorem dX12_bridgeOf_276 : decode cX12_bridgeOf 276 = .ok (.if_icmp .lt 6, 3) := by decide +kernel
theorem dX12_bridgeOf_279 : decode cX12_bridgeOf 279 = .ok (.goto 95, 3) := by decide +kernel
theorem dX12_bridgeOf_282 : decode cX12_bridgeOf 282 = .ok (.aload_n 0, 1) := by decide +kernel
theorem dX12_bridgeOf_283 : decode cX12_bridgeOf 283 = .ok (.iconst 0, 1) := by decide +kernel
theorem dX12_bridgeOf_284 : decode cX12_bridgeOf 284 = .ok (.iload 6, 2) := by decide +kernel
theorem dX12_bridgeOf_286 : decode cX12_bridgeOf 286 = .ok (.iload 7, 2) := by decide +kernel
theorem dX12_bridgeOf_288 : decode cX12_bridgeOf 288 = .ok (.invokevirtual 200, 3) := by decide +kernel
theorem dX12_bridgeOf_291 : decode cX12_bridgeOf 291 = .ok (.ifCond .eq 18, 3) := by decide +kernel
theorem dX12_bridgeOf_294 : decode cX12_bridgeOf 294 = .ok (.aload_n 0, 1) := by decide +kernel
theorem dX12_bridgeOf_295 : decode cX12_bridgeOf 295 = .ok (.getfield 92, 3) := by decide +kernel
theorem dX12_bridgeOf_298 : decode cX12_bridgeOf 298 = .ok (.aload_n 0, 1) := by decide +kernel
theorem dX12_bridgeOf_299 : decode cX12_bridgeOf 299 = .ok (.getfield 80, 3) := by decide +kernel
theorem dX12_bridgeOf_302 : decode cX12_bridgeOf 302 = .ok (.iload 5, 2) := by decide +kernel
theorem dX12_bridgeOf_304 : decode cX12_bridgeOf 304 = .ok (.iaload, 1) := by decide +kernel
theorem dX12_bridgeOf_305 : decode cX12_bridgeOf 305 = .ok (.baload, 1) := by decide +kernel
theorem dX12_bridgeOf_306 : decode cX12_bridgeOf 306 = .ok (.goto 40, 3) := by decide +kernel
theorem dX12_bridgeOf_309 : decode cX12_bridgeOf 309 = .ok (.iload 6, 2) := by decide +kernel
theorem dX12_bridgeOf_311 : decode cX12_bridgeOf 311 = .ok (.ifCond .eq 30, 3) := by decide +kernel
theorem dX12_bridgeOf_314 : decode cX12_bridgeOf 314 = .ok (.iload 7, 2) := by decide +kernel
theorem dX12_bridgeOf_316 : decode cX12_bridgeOf 316 = .ok (.ifCond .eq 25, 3) := by decide +kernel
theorem dX12_bridgeOf_319 : decode cX12_bridgeOf 319 = .ok (.iload 6, 2) := by decide +kernel
theorem dX12_bridgeOf_321 : decode cX12_bridgeOf 321 = .ok (.aload_n 0, 1) := by decide +kernel
theorem dX12_bridgeOf_322 : decode cX12_bridgeOf 322 = .ok (.getfield 177, 3) := by decide +kernel
theorem dX12_bridgeOf_325 : decode cX12_bridgeOf 325 = .ok (.iconst 1, 1) := by decide +kernel
theorem dX12_bridgeOf_326 : decode cX12_bridgeOf 326 = .ok (.isub, 1) := by decide +kernel
theorem dX12_bridgeOf_327 : decode cX12_bridgeOf 327 = .ok (.if_icmp .eq 14, 3) := by decide +kernel
theorem dX12_bridgeOf_330 : decode cX12_bridgeOf 330 = .ok (.iload 7, 2) := by decide +kernel
theorem dX12_bridgeOf_332 : decode cX12_bridgeOf 332 = .ok (.aload_n 0, 1) := by decide +kernel
theorem dX12_bridgeOf_333 : decode cX12_bridgeOf 333 = .ok (.getfield 180, 3) := by decide +kernel
theorem dX12_bridgeOf_336 : decode cX12_bridgeOf 336 = .ok (.iconst 1, 1) := by decide +kernel
theorem dX12_bridgeOf_337 : decode cX12_bridgeOf 337 = .ok (.isub, 1) := by decide +kernel
theorem dX12_bridgeOf_338 : decode cX12_bridgeOf 338 = .ok (.if_icmp .ne 7, 3) := by decide +kernel
theorem dX12_bridgeOf_341 : decode cX12_bridgeOf 341 = .ok (.iconst 1, 1) := by decide +kernel
theorem dX12_bridgeOf_342 : decode cX12_bridgeOf 342 = .ok (.goto 4, 3) := by decide +kernel
theorem dX12_bridgeOf_345 : decode cX12_bridgeOf 345 = .ok (.iconst 0, 1) := by decide +kernel
theorem dX12_bridgeOf_346 : decode cX12_bridgeOf 346 = .ok (.istore 8, 2) := by decide +kernel
theorem dX12_bridgeOf_348 : decode cX12_bridgeOf 348 = .ok (.iload 8, 2) := by decide +kernel
theorem dX12_bridgeOf_350 : decode cX12_bridgeOf 350 = .ok (.ifCond .eq 24, 3) := by decide +kernel
theorem dX12_bridgeOf_353 : decode cX12_bridgeOf 353 = .ok (.aload_n 0, 1) := by decide +kernel
theorem dX12_bridgeOf_354 : decode cX12_bridgeOf 354 = .ok (.getfield 36, 3) := by decide +kernel
theorem dX12_bridgeOf_357 : decode cX12_bridgeOf 357 = .ok (.iload 5, 2) := by decide +kernel
theorem dX12_bridgeOf_359 : decode cX12_bridgeOf 359 = .ok (.iaload, 1) := by decide +kernel
theorem dX12_bridgeOf_360 : decode cX12_bridgeOf 360 = .ok (.iload 4, 2) := by decide +kernel
theorem dX12_bridgeOf_362 : decode cX12_bridgeOf 362 = .ok (.if_icmp .ge 12, 3) := by decide +kernel
theorem dX12_bridgeOf_365 : decode cX12_bridgeOf 365 = .ok (.aload_n 0, 1) := by decide +kernel
theorem dX12_bridgeOf_366 : decode cX12_bridgeOf 366 = .ok (.getfield 36, 3) := by decide +kernel
theorem dX12_bridgeOf_369 : decode cX12_bridgeOf 369 = .ok (.iload 5, 2) := by decide +kernel
theorem dX12_bridgeOf_371 : decode cX12_bridgeOf 371 = .ok (.iaload, 1) := by decide +kernel
theorem dX12_bridgeOf_372 : decode cX12_bridgeOf 372 = .ok (.istore 4, 2) := by decide +kernel
theorem dX12_bridgeOf_374 : decode cX12_bridgeOf 374 = .ok (.iinc 5 1, 3) := by decide +kernel
theorem dX12_bridgeOf_377 : decode cX12_bridgeOf 377 = .ok (.goto (-133), 3) := by decide +kernel
theorem dX12_bridgeOf_380 : decode cX12_bridgeOf 380 = .ok (.iload 4, 2) := by decide +kernel
theorem dX12_bridgeOf_382 : decode cX12_bridgeOf 382 = .ok (.ireturn, 1) := by decide +kernel
theorem dX12_cell_0 : decode cX12_cell 0 = .ok (.aload_n 0, 1) := by decide +kernel
theorem dX12_cell_1 : decode cX12_cell 1 = .ok (.iconst 0, 1) := by decide +kernel
theorem dX12_cell_2 : decode cX12_cell 2 = .ok (.putfield 167, 3) := by decide +kernel
theorem dX12_cell_5 : decode cX12_cell 5 = .ok (.aload_n 0, 1) := by decide +kernel
theorem dX12_cell_6 : decode cX12_cell 6 = .ok (.getfield 174, 3) := by decide +kernel
theorem dX12_cell_9 : decode cX12_cell 9 = .ok (.ifCond .eq 22, 3) := by decide +kernel
theorem dX12_cell_12 : decode cX12_cell 12 = .ok (.aload_n 0, 1) := by decide +kernel
theorem dX12_cell_13 : decode cX12_cell 13 = .ok (.iload_n 1, 1) := by decide +kernel
theorem dX12_cell_14 : decode cX12_cell 14 = .ok (.iload_n 2, 1) := by decide +kernel
theorem dX12_cell_15 : decode cX12_cell 15 = .ok (.invokevirtual 189, 3) := by decide +kernel
theorem dX12_cell_18 : decode cX12_cell 18 = .ok (.ifCond .eq 13, 3) := by decide +kernel
theorem dX12_cell_21 : decode cX12_cell 21 = .ok (.aload_n 0, 1) := by decide +kernel
theorem dX12_cell_22 : decode cX12_cell 22 = .ok (.iload_n 3, 1) := by decide +kernel
theorem dX12_cell_23 : decode cX12_cell 23 = .ok (.iconst 0, 1) := by decide +kernel
theorem dX12_cell_24 : decode cX12_cell 24 = .ok (.iconst 5, 1) := by decide +kernel
theorem dX12_cell_25 : decode cX12_cell 25 = .ok (.invokevirtual 170, 3) := by decide +kernel
theorem dX12_cell_28 : decode cX12_cell 28 = .ok (.ifCond .ne 5, 3) := by decide +kernel
theorem dX12_cell_31 : decode cX12_cell 31 = .ok (.iconst (-1), 1) := by decide +kernel
theorem dX12_cell_32 : decode cX12_cell 32 = .ok (.ireturn, 1) := by decide +kernel
theorem dX12_cell_33 : decode cX12_cell 33 = .ok (.bipush 16, 2) := by decide +kernel
theorem dX12_cell_35 : decode cX12_cell 35 = .ok (.iload_n 2, 1) := by decide +kernel
theorem dX12_cell_36 : decode cX12_cell 36 = .ok (.imul, 1) := by decide +kernel
theorem dX12_cell_37 : decode cX12_cell 37 = .ok (.iload_n 1, 1) := by decide +kernel
theorem dX12_cell_38 : decode cX12_cell 38 = .ok (.iadd, 1) := by decide +kernel
theorem dX12_cell_39 : decode cX12_cell 39 = .ok (.istore 4, 2) := by decide +kernel
theorem dX12_cell_41 : decode cX12_cell 41 = .ok (.aload_n 0, 1) := by decide +kernel
theorem dX12_cell_42 : decode cX12_cell 42 = .ok (.getfield 39, 3) := by decide +kernel
theorem dX12_cell_45 : decode cX12_cell 45 = .ok (.iload 4, 2) := by decide +kernel
theorem dX12_cell_47 : decode cX12_cell 47 = .ok (.iaload, 1) := by decide +kernel
theorem dX12_cell_48 : decode cX12_cell 48 = .ok (.ifCond .ne 7, 3) := by decide +kernel
theorem dX12_cell_51 : decode cX12_cell 51 = .ok (.iconst 1, 1) := by decide +kernel
theorem dX12_cell_52 : decode cX12_cell 52 = .ok (.goto 4, 3) := by decide +kernel
theorem dX12_cell_55 : decode cX12_cell 55 = .ok (.iconst 0, 1) := by decide +kernel
theorem dX12_cell_56 : decode cX12_cell 56 = .ok (.istore 5, 2) := by decide +kernel
theorem dX12_cell_58 : decode cX12_cell 58 = .ok (.iload_n 3, 1) := by decide +kernel
theorem dX12_cell_59 : decode cX12_cell 59 = .ok (.ifCond .ne 20, 3) := by decide +kernel
theorem dX12_cell_62 : decode cX12_cell 62 = .ok (.iload 5, 2) := by decide +kernel
theorem dX12_cell_64 : decode cX12_cell 64 = .ok (.ifCond .eq 13, 3) := by decide +kernel
theorem dX12_cell_67 : decode cX12_cell 67 = .ok (.aload_n 0, 1) := by decide +kernel
theorem dX12_cell_68 : decode cX12_cell 68 = .ok (.getfield 33, 3) := by decide +kernel
theorem dX12_cell_71 : decode cX12_cell 71 = .ok (.iload 4, 2) := by decide +kernel
theorem dX12_cell_73 : decode cX12_cell 73 = .ok (.iaload, 1) := by decide +kernel
theorem dX12_cell_74 : decode cX12_cell 74 = .ok (.goto 4, 3) := by decide +kernel
theorem dX12_cell_77 : decode cX12_cell 77 = .ok (.iconst 0, 1) := by decide +kernel
theorem dX12_cell_78 : decode cX12_cell 78 = .ok (.ireturn, 1) := by decide +kernel
theorem dX12_cell_79 : decode cX12_cell 79 = .ok (.iload_n 3, 1) := by decide +kernel
theorem dX12_cell_80 : decode cX12_cell 80 = .ok (.iconst 1, 1) := by decide +kernel
theorem dX12_cell_81 : decode cX12_cell 81 = .ok (.if_icmp .ne 34, 3) := by decide +kernel
theorem dX12_cell_84 : decode cX12_cell 84 = .ok (.iload 5, 2) := by decide +kernel
theorem dX12_cell_86 : decode cX12_cell 86 = .ok (.ifCond .ne 13, 3) := by decide +kernel
theorem dX12_cell_89 : decode cX12_cell 89 = .ok (.aload_n 0, 1) := by decide +kernel
theorem dX12_cell_90 : decode cX12_cell 90 = .ok (.getfield 39, 3) := by decide +kernel
theorem dX12_cell_93 : decode cX12_cell 93 = .ok (.iload 4, 2) := by decide +kernel
theorem dX12_cell_95 : decode cX12_cell 95 = .ok (.iaload, 1) := by decide +kernel
theorem dX12_cell_96 : decode cX12_cell 96 = .ok (.goto 18, 3) := by decide +kernel
theorem dX12_cell_99 : decode cX12_cell 99 = .ok (.aload_n 0, 1) := by decide +kernel
theorem dX12_cell_100 : decode cX12_cell 100 = .ok (.getfield 46, 3) := by decide +kernel
theorem dX12_cell_103 : decode cX12_cell 103 = .ok (.iload 4, 2) := by decide +kernel
theorem dX12_cell_105 : decode cX12_cell 105 = .ok (.baload, 1) := by decide +kernel
theorem dX12_cell_106 : decode cX12_cell 106 = .ok (.ifCond .eq 7, 3) := by decide +kernel
theorem dX12_cell_109 : decode cX12_cell 109 = .ok (.iconst 3, 1) := by decide +kernel
theorem dX12_cell_110 : decode cX12_cell 110 = .ok (.goto 4, 3) := by decide +kernel
theorem dX12_cell_113 : decode cX12_cell 113 = .ok (.iconst 0, 1) := by decide +kernel
theorem dX12_cell_114 : decode cX12_cell 114 = .ok (.ireturn, 1) := by decide +kernel
theorem dX12_cell_115 : decode cX12_cell 115 = .ok (.iload_n 3, 1) := by decide +kernel
theorem dX12_cell_116 : decode cX12_cell 116 = .ok (.iconst 2, 1) := by decide +kernel
theorem dX12_cell_117 : decode cX12_cell 117 = .ok (.if_icmp .ne 19, 3) := by decide +kernel
theorem dX12_cell_120 : decode cX12_cell 120 = .ok (.aload_n 0, 1) := by decide +kernel
theorem dX12_cell_121 : decode cX12_cell 121 = .ok (.getfield 42, 3) := by decide +kernel
theorem dX12_cell_124 : decode cX12_cell 124 = .ok (.iload 4, 2) := by decide +kernel
theorem dX12_cell_126 : decode cX12_cell 126 = .ok (.baload, 1) := by decide +kernel
theorem dX12_cell_127 : decode cX12_cell 127 = .ok (.ifCond .eq 7, 3) := by decide +kernel
theorem dX12_cell_130 : decode cX12_cell 130 = .ok (.iconst 1, 1) := by decide +kernel
theorem dX12_cell_131 : decode cX12_cell 131 = .ok (.goto 4, 3) := by decide +kernel
theorem dX12_cell_134 : decode cX12_cell 134 = .ok (.iconst 0, 1) := by decide +kernel
theorem dX12_cell_135 : decode cX12_cell 135 = .ok (.ireturn, 1) := by decide +kernel
theorem dX12_cell_136 : decode cX12_cell 136 = .ok (.aload_n 0, 1) := by decide +kernel
theorem dX12_cell_137 : decode cX12_cell 137 = .ok (.iconst 0, 1) := by decide +kernel
theorem dX12_cell_138 : decode cX12_cell 138 = .ok (.invokevirtual 233, 3) := by decide +kernel
theorem dX12_cell_141 : decode cX12_cell 141 = .ok (.iload_n 3, 1) := by decide +kernel
theorem dX12_cell_142 : decode cX12_cell 142 = .ok (.iconst 3, 1) := by decide +kernel
theorem dX12_cell_143 : decode cX12_cell 143 = .ok (.if_icmp .ne 25, 3) := by decide +kernel
theorem dX12_cell_146 : decode cX12_cell 146 = .ok (.iload 5, 2) := by decide +kernel
theorem dX12_cell_148 : decode cX12_cell 148 = .ok (.ifCond .eq 18, 3) := by decide +kernel
theorem dX12_cell_151 : decode cX12_cell 151 = .ok (.aload_n 0, 1) := by decide +kernel
theorem dX12_cell_152 : decode cX12_cell 152 = .ok (.getfield 86, 3) := by decide +kernel
theorem dX12_cell_155 : decode cX12_cell 155 = .ok (.aload_n 0, 1) := by decide +kernel
theorem dX12_cell_156 : decode cX12_cell 156 = .ok (.getfield 80, 3) := by decide +kernel
theorem dX12_cell_159 : decode cX12_cell 159 = .ok (.iload 4, 2) := by decide +kernel
theorem dX12_cell_161 : decode cX12_cell 161 = .ok (.iaload, 1) := by decide +kernel
theorem dX12_cell_162 : decode cX12_cell 162 = .ok (.iaload, 1) := by decide +kernel
theorem dX12_cell_163 : decode cX12_cell 163 = .ok (.goto 4, 3) := by decide +kernel
theorem dX12_cell_166 : decode cX12_cell 166 = .ok (.iconst 0, 1) := by decide +kernel
theorem dX12_cell_167 : decode cX12_cell 167 = .ok (.ireturn, 1) := by decide +kernel
theorem dX12_cell_168 : decode cX12_cell 168 = .ok (.iload_n 3, 1) := by decide +kernel
theorem dX12_cell_169 : decode cX12_cell 169 = .ok (.iconst 4, 1) := by decide +kernel
theorem dX12_cell_170 : decode cX12_cell 170 = .ok (.if_icmp .ne 29, 3) := by decide +kernel
theorem dX12_cell_173 : decode cX12_cell 173 = .ok (.iload 5, 2) := by decide +kernel
theorem dX12_cell_175 : decode cX12_cell 175 = .ok (.ifCond .eq 22, 3) := by decide +kernel
theorem dX12_cell_178 : decode cX12_cell 178 = .ok (.aload_n 0, 1) := by decide +kernel
theorem dX12_cell_179 : decode cX12_cell 179 = .ok (.getfield 92, 3) := by decide +kernel
theorem dX12_cell_182 : decode cX12_cell 182 = .ok (.aload_n 0, 1) := by decide +kernel
theorem dX12_cell_183 : decode cX12_cell 183 = .ok (.getfield 80, 3) := by decide +kernel
theorem dX12_cell_186 : decode cX12_cell 186 = .ok (.iload 4, 2) := by decide +kernel
theorem dX12_cell_188 : decode cX12_cell 188 = .ok (.iaload, 1) := by decide +kernel
theorem dX12_cell_189 : decode cX12_cell 189 = .ok (.baload, 1) := by decide +kernel
theorem dX12_cell_190 : decode cX12_cell 190 = .ok (.ifCond .eq 7, 3) := by decide +kernel
theorem dX12_cell_193 : decode cX12_cell 193 = .ok (.iconst 1, 1) := by decide +kernel
theorem dX12_cell_194 : decode cX12_cell 194 = .ok (.goto 4, 3) := by decide +kernel
theorem dX12_cell_197 : decode cX12_cell 197 = .ok (.iconst 0, 1) := by decide +kernel
theorem dX12_cell_198 : decode cX12_cell 198 = .ok (.ireturn, 1) := by decide +kernel
theorem dX12_cell_199 : decode cX12_cell 199 = .ok (.iload 5, 2) := by decide +kernel
theorem dX12_cell_201 : decode cX12_cell 201 = .ok (.ifCond .eq 12, 3) := by decide +kernel
theorem dX12_cell_204 : decode cX12_cell 204 = .ok (.aload_n 0, 1) := by decide +kernel
theorem dX12_cell_205 : decode cX12_cell 205 = .ok (.iload_n 1, 1) := by decide +kernel
theorem dX12_cell_206 : decode cX12_cell 206 = .ok (.iload_n 2, 1) := by decide +kernel
theorem dX12_cell_207 : decode cX12_cell 207 = .ok (.invokevirtual 375, 3) := by decide +kernel
theorem dX12_cell_210 : decode cX12_cell 210 = .ok (.goto 4, 3) := by decide +kernel
theorem dX12_cell_213 : decode cX12_cell 213 = .ok (.iconst (-1), 1) := by decide +kernel
theorem dX12_cell_214 : decode cX12_cell 214 = .ok (.ireturn, 1) := by decide +kernel
theorem dX12_cellsAs_0 : decode cX12_cellsAs 0 = .ok (.iconst 0, 1) := by decide +kernel
theorem dX12_cellsAs_1 : decode cX12_cellsAs 1 = .ok (.istore_n 3, 1) := by decide +kernel
theorem dX12_cellsAs_2 : decode cX12_cellsAs 2 = .ok (.iconst 0, 1) := by decide +kernel
theorem dX12_cellsAs_3 : decode cX12_cellsAs 3 = .ok (.istore 4, 2) := by decide +kernel
theorem dX12_cellsAs_5 : decode cX12_cellsAs 5 = .ok (.iload 4, 2) := by decide +kernel
theorem dX12_cellsAs_7 : decode cX12_cellsAs 7 = .ok (.aload_n 0, 1) := by decide +kernel
theorem dX12_cellsAs_8 : decode cX12_cellsAs 8 = .ok (.getfield 180, 3) := by decide +kernel
theorem dX12_cellsAs_11 : decode cX12_cellsAs 11 = .ok (.if_icmp .ge 121, 3) := by decide +kernel
theorem dX12_cellsAs_14 : decode cX12_cellsAs 14 = .ok (.iconst 0, 1) := by decide +kernel
theorem dX12_cellsAs_15 : decode cX12_cellsAs 15 = .ok (.istore 5, 2) := by decide +kernel
theorem dX12_cellsAs_17 : decode cX12_cellsAs 17 = .ok (.iload 5, 2) := by decide +kernel
theorem dX12_cellsAs_19 : decode cX12_cellsAs 19 = .ok (.aload_n 0, 1) := by decide +kernel
theorem dX12_cellsAs_20 : decode cX12_cellsAs 20 = .ok (.getfield 177, 3) := by decide +kernel
theorem dX12_cellsAs_23 : decode cX12_cellsAs 23 = .ok (.if_icmp .ge 103, 3) := by decide +kernel
theorem dX12_cellsAs_26 : decode cX12_cellsAs 26 = .ok (.sipush 192, 3) := by decide +kernel
theorem dX12_cellsAs_29 : decode cX12_cellsAs 29 = .ok (.iload_n 1, 1) := by decide +kernel
theorem dX12_cellsAs_30 : decode cX12_cellsAs 30 = .ok (.imul, 1) := by decide +kernel
theorem dX12_cellsAs_31 : decode cX12_cellsAs 31 = .ok (.bipush 16, 2) := by decide +kernel
theorem dX12_cellsAs_33 : decode cX12_cellsAs 33 = .ok (.iload 4, 2) := by decide +kernel
theorem dX12_cellsAs_35 : decode cX12_cellsAs 35 = .ok (.imul, 1) := by decide +kernel
theorem dX12_cellsAs_36 : decode cX12_cellsAs 36 = .ok (.iadd, 1) := by decide +kernel
theorem dX12_cellsAs_37 : decode cX12_cellsAs 37 = .ok (.iload 5, 2) := by decide +kernel
theorem dX12_cellsAs_39 : decode cX12_cellsAs 39 = .ok (.iadd, 1) := by decide +kernel
theorem dX12_cellsAs_40 : decode cX12_cellsAs 40 = .ok (.istore 6, 2) := by decide +kernel
theorem dX12_cellsAs_42 : decode cX12_cellsAs 42 = .ok (.iload_n 2, 1) := by decide +kernel
theorem dX12_cellsAs_43 : decode cX12_cellsAs 43 = .ok (.iconst 3, 1) := by decide +kernel
theorem dX12_cellsAs_44 : decode cX12_cellsAs 44 = .ok (.if_icmp .ge 22, 3) := by decide +kernel
theorem dX12_cellsAs_47 : decode cX12_cellsAs 47 = .ok (.aload_n 0, 1) := by decide +kernel
theorem dX12_cellsAs_48 : decode cX12_cellsAs 48 = .ok (.getfield 39, 3) := by decide +kernel
theorem dX12_cellsAs_51 : decode cX12_cellsAs 51 = .ok (.iload 6, 2) := by decide +kernel
theorem dX12_cellsAs_53 : decode cX12_cellsAs 53 = .ok (.iaload, 1) := by decide +kernel
theorem dX12_cellsAs_54 : decode cX12_cellsAs 54 = .ok (.iload_n 2, 1) := by decide +kernel
theorem dX12_cellsAs_55 : decode cX12_cellsAs 55 = .ok (.if_icmp .ne 7, 3) := by decide +kernel
theorem dX12_cellsAs_58 : decode cX12_cellsAs 58 = .ok (.iconst 1, 1) := by decide +kernel
theorem dX12_cellsAs_59 : decode cX12_cellsAs 59 = .ok (.goto 50, 3) := by decide +kernel
theorem dX12_cellsAs_62 : decode cX12_cellsAs 62 = .ok (.iconst 0, 1) := by decide +kernel
theorem dX12_cellsAs_63 : decode cX12_cellsAs 63 = .ok (.goto 46, 3) := by decide +kernel
theorem dX12_cellsAs_66 : decode cX12_cellsAs 66 = .ok (.aload_n 0, 1) := by decide +kernel
theorem dX12_cellsAs_67 : decode cX12_cellsAs 67 = .ok (.getfield 39, 3) := by decide +kernel
theorem dX12_cellsAs_70 : decode cX12_cellsAs 70 = .ok (.iload 6, 2) := by decide +kernel
theorem dX12_cellsAs_72 : decode cX12_cellsAs 72 = .ok (.iaload, 1) := by decide +kernel
theorem dX12_cellsAs_73 : decode cX12_cellsAs 73 = .ok (.ifCond .ne 35, 3) := by decide +kernel
theorem dX12_cellsAs_76 : decode cX12_cellsAs 76 = .ok (.iload_n 2, 1) := by decide +kernel
theorem dX12_cellsAs_77 : decode cX12_cellsAs 77 = .ok (.iconst 3, 1) := by decide +kernel
theorem dX12_cellsAs_78 : decode cX12_cellsAs 78 = .ok (.if_icmp .ne 16, 3) := by decide +kernel
theorem dX12_cellsAs_81 : decode cX12_cellsAs 81 = .ok (.aload_n 0, 1) := by decide +kernel
theorem dX12_cellsAs_82 : decode cX12_cellsAs 82 = .ok (.getfield 46, 3) := by decide +kernel
theorem dX12_cellsAs_85 : decode cX12_cellsAs 85 = .ok (.iload 6, 2) := by decide +kernel
theorem dX12_cellsAs_87 : decode cX12_cellsAs 87 = .ok (.baload, 1) := by decide +kernel
theorem dX12_cellsAs_88 : decode cX12_cellsAs 88 = .ok (.ifCond .eq 20, 3) := by decide +kernel
theorem dX12_cellsAs_91 : decode cX12_cellsAs 91 = .ok (.goto 13, 3) := by decide +kernel
theorem dX12_cellsAs_94 : decode cX12_cellsAs 94 = .ok (.aload_n 0, 1) := by decide +kernel
theorem dX12_cellsAs_95 : decode cX12_cellsAs 95 = .ok (.getfield 42, 3) := by decide +kernel
theorem dX12_cellsAs_98 : decode cX12_cellsAs 98 = .ok (.iload 6, 2) := by decide +kernel
theorem dX12_cellsAs_100 : decode cX12_cellsAs 100 = .ok (.baload, 1) := by decide +kernel
theorem dX12_cellsAs_101 : decode cX12_cellsAs 101 = .ok (.ifCond .eq 7, 3) := by decide +kernel
theorem dX12_cellsAs_104 : decode cX12_cellsAs 104 = .ok (.iconst 1, 1) := by decide +kernel
theorem dX12_cellsAs_105 : decode cX12_cellsAs 105 = .ok (.goto 4, 3) := by decide +kernel
theorem dX12_cellsAs_108 : decode cX12_cellsAs 108 = .ok (.iconst 0, 1) := by decide +kernel
theorem dX12_cellsAs_109 : decode cX12_cellsAs 109 = .ok (.istore 7, 2) := by decide +kernel
theorem dX12_cellsAs_111 : decode cX12_cellsAs 111 = .ok (.iload 7, 2) := by decide +kernel
theorem dX12_cellsAs_113 : decode cX12_cellsAs 113 = .ok (.ifCond .eq 7, 3) := by decide +kernel
theorem dX12_cellsAs_116 : decode cX12_cellsAs 116 = .ok (.iload_n 3, 1) := by decide +kernel
theorem dX12_cellsAs_117 : decode cX12_cellsAs 117 = .ok (.iconst 1, 1) := by decide +kernel
theorem dX12_cellsAs_118 : decode cX12_cellsAs 118 = .ok (.iadd, 1) := by decide +kernel
theorem dX12_cellsAs_119 : decode cX12_cellsAs 119 = .ok (.istore_n 3, 1) := by decide +kernel
theorem dX12_cellsAs_120 : decode cX12_cellsAs 120 = .ok (.iinc 5 1, 3) := by decide +kernel
theorem dX12_cellsAs_123 : decode cX12_cellsAs 123 = .ok (.goto (-106), 3) := by decide +kernel
theorem dX12_cellsAs_126 : decode cX12_cellsAs 126 = .ok (.iinc 4 1, 3) := by decide +kernel
theorem dX12_cellsAs_129 : decode cX12_cellsAs 129 = .ok (.goto (-124), 3) := by decide +kernel
theorem dX12_cellsAs_132 : decode cX12_cellsAs 132 = .ok (.iload_n 3, 1) := by decide +kernel
theorem dX12_cellsAs_133 : decode cX12_cellsAs 133 = .ok (.ireturn, 1) := by decide +kernel
theorem dX12_look_0 : decode cX12_look 0 = .ok (.aload_n 0, 1) := by decide +kernel
theorem dX12_look_1 : decode cX12_look 1 = .ok (.iconst 0, 1) := by decide +kernel
theorem dX12_look_2 : decode cX12_look 2 = .ok (.putfield 167, 3) := by decide +kernel
theorem dX12_look_5 : decode cX12_look 5 = .ok (.aload_n 0, 1) := by decide +kernel
theorem dX12_look_6 : decode cX12_look 6 = .ok (.iload_n 1, 1) := by decide +kernel
theorem dX12_look_7 : decode cX12_look 7 = .ok (.iconst 0, 1) := by decide +kernel
theorem dX12_look_8 : decode cX12_look 8 = .ok (.bipush 13, 2) := by decide +kernel
theorem dX12_look_10 : decode cX12_look 10 = .ok (.invokevirtual 170, 3) := by decide +kernel
theorem dX12_look_13 : decode cX12_look 13 = .ok (.ifCond .ne 5, 3) := by decide +kernel
theorem dX12_look_16 : decode cX12_look 16 = .ok (.iconst (-1), 1) := by decide +kernel
theorem dX12_look_17 : decode cX12_look 17 = .ok (.ireturn, 1) := by decide +kernel
theorem dX12_look_18 : decode cX12_look 18 = .ok (.aload_n 0, 1) := by decide +kernel
theorem dX12_look_19 : decode cX12_look 19 = .ok (.getfield 174, 3) := by decide +kernel
theorem dX12_look_22 : decode cX12_look 22 = .ok (.ifCond .ne 5, 3) := by decide +kernel
theorem dX12_look_25 : decode cX12_look 25 = .ok (.iconst 0, 1) := by decide +kernel
theorem dX12_look_26 : decode cX12_look 26 = .ok (.ireturn, 1) := by decide +kernel
theorem dX12_look_27 : decode cX12_look 27 = .ok (.iload_n 1, 1) := by decide +kernel
theorem dX12_look_28 : decode cX12_look 28 = .ok (.ifCond .ne 10, 3) := by decide +kernel
theorem dX12_look_31 : decode cX12_look 31 = .ok (.aload_n 0, 1) := by decide +kernel
theorem dX12_look_32 : decode cX12_look 32 = .ok (.getfield 61, 3) := by decide +kernel
theorem dX12_look_35 : decode cX12_look 35 = .ok (.iconst 0, 1) := by decide +kernel
theorem dX12_look_36 : decode cX12_look 36 = .ok (.iaload, 1) := by decide +kernel
theorem dX12_look_37 : decode cX12_look 37 = .ok (.ireturn, 1) := by decide +kernel
theorem dX12_look_38 : decode cX12_look 38 = .ok (.iload_n 1, 1) := by decide +kernel
theorem dX12_look_39 : decode cX12_look 39 = .ok (.iconst 1, 1) := by decide +kernel
theorem dX12_look_40 : decode cX12_look 40 = .ok (.if_icmp .ne 10, 3) := by decide +kernel
theorem dX12_look_43 : decode cX12_look 43 = .ok (.aload_n 0, 1) := by decide +kernel
theorem dX12_look_44 : decode cX12_look 44 = .ok (.getfield 49, 3) := by decide +kernel
theorem dX12_look_47 : decode cX12_look 47 = .ok (.iconst 0, 1) := by decide +kernel
theorem dX12_look_48 : decode cX12_look 48 = .ok (.iaload, 1) := by decide +kernel
theorem dX12_look_49 : decode cX12_look 49 = .ok (.ireturn, 1) := by decide +kernel
theorem dX12_look_50 : decode cX12_look 50 = .ok (.iload_n 1, 1) := by decide +kernel
theorem dX12_look_51 : decode cX12_look 51 = .ok (.iconst 2, 1) := by decide +kernel
theorem dX12_look_52 : decode cX12_look 52 = .ok (.if_icmp .ne 10, 3) := by decide +kernel
theorem dX12_look_55 : decode cX12_look 55 = .ok (.aload_n 0, 1) := by decide +kernel
theorem dX12_look_56 : decode cX12_look 56 = .ok (.getfield 52, 3) := by decide +kernel
theorem dX12_look_59 : decode cX12_look 59 = .ok (.iconst 0, 1) := by decide +kernel
theorem dX12_look_60 : decode cX12_look 60 = .ok (.iaload, 1) := by decide +kernel
theorem dX12_look_61 : decode cX12_look 61 = .ok (.ireturn, 1) := by decide +kernel
theorem dX12_look_62 : decode cX12_look 62 = .ok (.iload_n 1, 1) := by decide +kernel
theorem dX12_look_63 : decode cX12_look 63 = .ok (.iconst 3, 1) := by decide +kernel
theorem dX12_look_64 : decode cX12_look 64 = .ok (.if_icmp .ne 18, 3) := by decide +kernel
theorem dX12_look_67 : decode cX12_look 67 = .ok (.aload_n 0, 1) := by decide +kernel
theorem dX12_look_68 : decode cX12_look 68 = .ok (.getfield 55, 3) := by decide +kernel
theorem dX12_look_71 : decode cX12_look 71 = .ok (.iconst 0, 1) := by decide +kernel
theorem dX12_look_72 : decode cX12_look 72 = .ok (.baload, 1) := by decide +kernel
theorem dX12_look_73 : decode cX12_look 73 = .ok (.ifCond .eq 7, 3) := by decide +kernel
theorem dX12_look_76 : decode cX12_look 76 = .ok (.iconst 1, 1) := by decide +kernel
theorem dX12_look_77 : decode cX12_look 77 = .ok (.goto 4, 3) := by decide +kernel
theorem dX12_look_80 : decode cX12_look 80 = .ok (.iconst 0, 1) := by decide +kernel
theorem dX12_look_81 : decode cX12_look 81 = .ok (.ireturn, 1) := by decide +kernel
theorem dX12_look_82 : decode cX12_look 82 = .ok (.iload_n 1, 1) := by decide +kernel
theorem dX12_look_83 : decode cX12_look 83 = .ok (.iconst 4, 1) := by decide +kernel
theorem dX12_look_84 : decode cX12_look 84 = .ok (.if_icmp .ne 10, 3) := by decide +kernel
theorem dX12_look_87 : decode cX12_look 87 = .ok (.aload_n 0, 1) := by decide +kernel
theorem dX12_look_88 : decode cX12_look 88 = .ok (.getfield 58, 3) := by decide +kernel
theorem dX12_look_91 : decode cX12_look 91 = .ok (.iconst 0, 1) := by decide +kernel
theorem dX12_look_92 : decode cX12_look 92 = .ok (.iaload, 1) := by decide +kernel
theorem dX12_look_93 : decode cX12_look 93 = .ok (.ireturn, 1) := by decide +kernel
theorem dX12_look_94 : decode cX12_look 94 = .ok (.iload_n 1, 1) := by decide +kernel
theorem dX12_look_95 : decode cX12_look 95 = .ok (.iconst 5, 1) := by decide +kernel
theorem dX12_look_96 : decode cX12_look 96 = .ok (.if_icmp .ne 10, 3) := by decide +kernel
theorem dX12_look_99 : decode cX12_look 99 = .ok (.aload_n 0, 1) := by decide +kernel
theorem dX12_look_100 : decode cX12_look 100 = .ok (.getfield 64, 3) := by decide +kernel
theorem dX12_look_103 : decode cX12_look 103 = .ok (.iconst 0, 1) := by decide +kernel
theorem dX12_look_104 : decode cX12_look 104 = .ok (.iaload, 1) := by decide +kernel
theorem dX12_look_105 : decode cX12_look 105 = .ok (.ireturn, 1) := by decide +kernel
theorem dX12_look_106 : decode cX12_look 106 = .ok (.iload_n 1, 1) := by decide +kernel
theorem dX12_look_107 : decode cX12_look 107 = .ok (.bipush 11, 2) := by decide +kernel
theorem dX12_look_109 : decode cX12_look 109 = .ok (.if_icmp .ge 13, 3) := by decide +kernel
theorem dX12_look_112 : decode cX12_look 112 = .ok (.aload_n 0, 1) := by decide +kernel
theorem dX12_look_113 : decode cX12_look 113 = .ok (.iconst 0, 1) := by decide +kernel
theorem dX12_look_114 : decode cX12_look 114 = .ok (.iload_n 1, 1) := by decide +kernel
theorem dX12_look_115 : decode cX12_look 115 = .ok (.bipush 6, 2) := by decide +kernel
theorem dX12_look_117 : decode cX12_look 117 = .ok (.isub, 1) := by decide +kernel
theorem dX12_look_118 : decode cX12_look 118 = .ok (.invokevirtual 378, 3) := by decide +kernel
theorem dX12_look_121 : decode cX12_look 121 = .ok (.ireturn, 1) := by decide +kernel
theorem dX12_look_122 : decode cX12_look 122 = .ok (.iload_n 1, 1) := by decide +kernel
theorem dX12_look_123 : decode cX12_look 123 = .ok (.bipush 13, 2) := by decide +kernel
theorem dX12_look_125 : decode cX12_look 125 = .ok (.if_icmp .ne 10, 3) := by decide +kernel
theorem dX12_look_128 : decode cX12_look 128 = .ok (.aload_n 0, 1) := by decide +kernel
theorem dX12_look_129 : decode cX12_look 129 = .ok (.getfield 67, 3) := by decide +kernel
theorem dX12_look_132 : decode cX12_look 132 = .ok (.iconst 0, 1) := by decide +kernel
theorem dX12_look_133 : decode cX12_look 133 = .ok (.iaload, 1) := by decide +kernel
theorem dX12_look_134 : decode cX12_look 134 = .ok (.ireturn, 1) := by decide +kernel
theorem dX12_look_135 : decode cX12_look 135 = .ok (.aload_n 0, 1) := by decide +kernel
theorem dX12_look_136 : decode cX12_look 136 = .ok (.iconst 0, 1) := by decide +kernel
theorem dX12_look_137 : decode cX12_look 137 = .ok (.invokevirtual 233, 3) := by decide +kernel
theorem dX12_look_140 : decode cX12_look 140 = .ok (.iconst 0, 1) := by decide +kernel
theorem dX12_look_141 : decode cX12_look 141 = .ok (.istore_n 2, 1) := by decide +kernel
theorem dX12_look_142 : decode cX12_look 142 = .ok (.iconst 1, 1) := by decide +kernel
theorem dX12_look_143 : decode cX12_look 143 = .ok (.istore_n 3, 1) := by decide +kernel
theorem dX12_look_144 : decode cX12_look 144 = .ok (.iload_n 3, 1) := by decide +kernel
theorem dX12_look_145 : decode cX12_look 145 = .ok (.aload_n 0, 1) := by decide +kernel
theorem dX12_look_146 : decode cX12_look 146 = .ok (.getfield 226, 3) := by decide +kernel
theorem dX12_look_149 : decode cX12_look 149 = .ok (.if_icmp .gt 22, 3) := by decide +kernel
theorem dX12_look_152 : decode cX12_look 152 = .ok (.aload_n 0, 1) := by decide +kernel
theorem dX12_look_153 : decode cX12_look 153 = .ok (.getfield 92, 3) := by decide +kernel
theorem dX12_look_156 : decode cX12_look 156 = .ok (.iload_n 3, 1) := by decide +kernel
theorem dX12_look_157 : decode cX12_look 157 = .ok (.baload, 1) := by decide +kernel
theorem dX12_look_158 : decode cX12_look 158 = .ok (.ifCond .ne 7, 3) := by decide +kernel
theorem dX12_look_161 : decode cX12_look 161 = .ok (.iload_n 2, 1) := by decide +kernel
theorem dX12_look_162 : decode cX12_look 162 = .ok (.iconst 1, 1) := by decide +kernel
theorem dX12_look_163 : decode cX12_look 163 = .ok (.iadd, 1) := by decide +kernel
theorem dX12_look_164 : decode cX12_look 164 = .ok (.istore_n 2, 1) := by decide +kernel
theorem dX12_look_165 : decode cX12_look 165 = .ok (.iinc 3 1, 3) := by decide +kernel
theorem dX12_look_168 : decode cX12_look 168 = .ok (.goto (-24), 3) := by decide +kernel
theorem dX12_look_171 : decode cX12_look 171 = .ok (.iload_n 1, 1) := by decide +kernel
theorem dX12_look_172 : decode cX12_look 172 = .ok (.bipush 11, 2) := by decide +kernel
theorem dX12_look_174 : decode cX12_look 174 = .ok (.if_icmp .ne 10, 3) := by decide +kernel
theorem dX12_look_177 : decode cX12_look 177 = .ok (.aload_n 0, 1) := by decide +kernel
theorem dX12_look_178 : decode cX12_look 178 = .ok (.getfield 226, 3) := by decide +kernel
theorem dX12_look_181 : decode cX12_look 181 = .ok (.goto 4, 3) := by decide +kernel
theorem dX12_look_184 : decode cX12_look 184 = .ok (.iload_n 2, 1) := by decide +kernel
theorem dX12_look_185 : decode cX12_look 185 = .ok (.ireturn, 1) := by decide +kernel
theorem dX12_heat_0 : decode cX12_heat 0 = .ok (.aload_n 0, 1) := by decide +kernel
theorem dX12_heat_1 : decode cX12_heat 1 = .ok (.iconst 0, 1) := by decide +kernel
theorem dX12_heat_2 : decode cX12_heat 2 = .ok (.putfield 167, 3) := by decide +kernel
theorem dX12_heat_5 : decode cX12_heat 5 = .ok (.iload_n 1, 1) := by decide +kernel
theorem dX12_heat_6 : decode cX12_heat 6 = .ok (.ifCond .ne 10, 3) := by decide +kernel
theorem dX12_heat_9 : decode cX12_heat 9 = .ok (.aload_n 0, 1) := by decide +kernel
theorem dX12_heat_10 : decode cX12_heat 10 = .ok (.getfield 70, 3) := by decide +kernel
theorem dX12_heat_13 : decode cX12_heat 13 = .ok (.iconst 0, 1) := by decide +kernel
theorem dX12_heat_14 : decode cX12_heat 14 = .ok (.laload, 1) := by decide +kernel
theorem dX12_heat_15 : decode cX12_heat 15 = .ok (.lreturn, 1) := by decide +kernel
theorem dX12_heat_16 : decode cX12_heat 16 = .ok (.iload_n 1, 1) := by decide +kernel
theorem dX12_heat_17 : decode cX12_heat 17 = .ok (.iconst 2, 1) := by decide +kernel
theorem dX12_heat_18 : decode cX12_heat 18 = .ok (.if_icmp .ne 10, 3) := by decide +kernel
theorem dX12_heat_21 : decode cX12_heat 21 = .ok (.aload_n 0, 1) := by decide +kernel
theorem dX12_heat_22 : decode cX12_heat 22 = .ok (.getfield 74, 3) := by decide +kernel
theorem dX12_heat_25 : decode cX12_heat 25 = .ok (.iconst 0, 1) := by decide +kernel
theorem dX12_heat_26 : decode cX12_heat 26 = .ok (.laload, 1) := by decide +kernel
theorem dX12_heat_27 : decode cX12_heat 27 = .ok (.lreturn, 1) := by decide +kernel
theorem dX12_heat_28 : decode cX12_heat 28 = .ok (.iload_n 1, 1) := by decide +kernel
theorem dX12_heat_29 : decode cX12_heat 29 = .ok (.iconst 3, 1) := by decide +kernel
theorem dX12_heat_30 : decode cX12_heat 30 = .ok (.if_icmp .ne 10, 3) := by decide +kernel
theorem dX12_heat_33 : decode cX12_heat 33 = .ok (.aload_n 0, 1) := by decide +kernel
theorem dX12_heat_34 : decode cX12_heat 34 = .ok (.getfield 77, 3) := by decide +kernel
theorem dX12_heat_37 : decode cX12_heat 37 = .ok (.iconst 0, 1) := by decide +kernel
theorem dX12_heat_38 : decode cX12_heat 38 = .ok (.laload, 1) := by decide +kernel
theorem dX12_heat_39 : decode cX12_heat 39 = .ok (.lreturn, 1) := by decide +kernel
theorem dX12_heat_40 : decode cX12_heat 40 = .ok (.iload_n 1, 1) := by decide +kernel
theorem dX12_heat_41 : decode cX12_heat 41 = .ok (.iconst 1, 1) := by decide +kernel
theorem dX12_heat_42 : decode cX12_heat 42 = .ok (.if_icmp .eq 7, 3) := by decide +kernel
theorem dX12_heat_45 : decode cX12_heat 45 = .ok (.ldc2_w 381, 3) := by decide +kernel
theorem dX12_heat_48 : decode cX12_heat 48 = .ok (.lreturn, 1) := by decide +kernel
theorem dX12_heat_49 : decode cX12_heat 49 = .ok (.lconst 0, 1) := by decide +kernel
theorem dX12_heat_50 : decode cX12_heat 50 = .ok (.lstore_n 2, 1) := by decide +kernel
theorem dX12_heat_51 : decode cX12_heat 51 = .ok (.iconst 0, 1) := by decide +kernel
theorem dX12_heat_52 : decode cX12_heat 52 = .ok (.istore 4, 2) := by decide +kernel
theorem dX12_heat_54 : decode cX12_heat 54 = .ok (.iload 4, 2) := by decide +kernel
theorem dX12_heat_56 : decode cX12_heat 56 = .ok (.sipush 192, 3) := by decide +kernel
theorem dX12_heat_59 : decode cX12_heat 59 = .ok (.if_icmp .ge 20, 3) := by decide +kernel
theorem dX12_heat_62 : decode cX12_heat 62 = .ok (.lload_n 2, 1) := by decide +kernel
theorem dX12_heat_63 : decode cX12_heat 63 = .ok (.aload_n 0, 1) := by decide +kernel
theorem dX12_heat_64 : decode cX12_heat 64 = .ok (.getfield 33, 3) := by decide +kernel
theorem dX12_heat_67 : decode cX12_heat 67 = .ok (.iload 4, 2) := by decide +kernel
theorem dX12_heat_69 : decode cX12_heat 69 = .ok (.iaload, 1) := by decide +kernel
theorem dX12_heat_70 : decode cX12_heat 70 = .ok (.i2l, 1) := by decide +kernel
theorem dX12_heat_71 : decode cX12_heat 71 = .ok (.ladd, 1) := by decide +kernel
theorem dX12_heat_72 : decode cX12_heat 72 = .ok (.lstore_n 2, 1) := by decide +kernel
theorem dX12_heat_73 : decode cX12_heat 73 = .ok (.iinc 4 1, 3) := by decide +kernel
theorem dX12_heat_76 : decode cX12_heat 76 = .ok (.goto (-22), 3) := by decide +kernel
theorem dX12_heat_79 : decode cX12_heat 79 = .ok (.lload_n 2, 1) := by decide +kernel
theorem dX12_heat_80 : decode cX12_heat 80 = .ok (.lreturn, 1) := by decide +kernel
theorem dX12_ones_0 : decode cX12_ones 0 = .ok (.iconst 0, 1) := by decide +kernel
theorem dX12_ones_1 : decode cX12_ones 1 = .ok (.istore_n 2, 1) := by decide +kernel
theorem dX12_ones_2 : decode cX12_ones 2 = .ok (.iload_n 1, 1) := by decide +kernel
theorem dX12_ones_3 : decode cX12_ones 3 = .ok (.istore_n 3, 1) := by decide +kernel
theorem dX12_ones_4 : decode cX12_ones 4 = .ok (.iload_n 3, 1) := by decide +kernel
theorem dX12_ones_5 : decode cX12_ones 5 = .ok (.ifCond .eq 16, 3) := by decide +kernel
theorem dX12_ones_8 : decode cX12_ones 8 = .ok (.iload_n 2, 1) := by decide +kernel
theorem dX12_ones_9 : decode cX12_ones 9 = .ok (.iconst 1, 1) := by decide +kernel
theorem dX12_ones_10 : decode cX12_ones 10 = .ok (.iadd, 1) := by decide +kernel
theorem dX12_ones_11 : decode cX12_ones 11 = .ok (.istore_n 2, 1) := by decide +kernel
theorem dX12_ones_12 : decode cX12_ones 12 = .ok (.iload_n 3, 1) := by decide +kernel
theorem dX12_ones_13 : decode cX12_ones 13 = .ok (.iload_n 3, 1) := by decide +kernel
theorem dX12_ones_14 : decode cX12_ones 14 = .ok (.iconst 1, 1) := by decide +kernel
theorem dX12_ones_15 : decode cX12_ones 15 = .ok (.isub, 1) := by decide +kernel
theorem dX12_ones_16 : decode cX12_ones 16 = .ok (.iand, 1) := by decide +kernel
theorem dX12_ones_17 : decode cX12_ones 17 = .ok (.istore_n 3, 1) := by decide +kernel
theorem dX12_ones_18 : decode cX12_ones 18 = .ok (.goto (-14), 3) := by decide +kernel
theorem dX12_ones_21 : decode cX12_ones 21 = .ok (.iload_n 2, 1) := by decide +kernel
theorem dX12_ones_22 : decode cX12_ones 22 = .ok (.ireturn, 1) := by decide +kernel
theorem dX12_isOrder_0 : decode cX12_isOrder 0 = .ok (.iconst 0, 1) := by decide +kernel
theorem dX12_isOrder_1 : decode cX12_isOrder 1 = .ok (.istore 4, 2) := by decide +kernel
theorem dX12_isOrder_3 : decode cX12_isOrder 3 = .ok (.iconst 0, 1) := by decide +kernel
theorem dX12_isOrder_4 : decode cX12_isOrder 4 = .ok (.istore 5, 2) := by decide +kernel
theorem dX12_isOrder_6 : decode cX12_isOrder 6 = .ok (.iload 5, 2) := by decide +kernel
theorem dX12_isOrder_8 : decode cX12_isOrder 8 = .ok (.iload_n 2, 1) := by decide +kernel
theorem dX12_isOrder_9 : decode cX12_isOrder 9 = .ok (.if_icmp .ge 25, 3) := by decide +kernel
theorem dX12_isOrder_12 : decode cX12_isOrder 12 = .ok (.iload 4, 2) := by decide +kernel
theorem dX12_isOrder_14 : decode cX12_isOrder 14 = .ok (.iconst 1, 1) := by decide +kernel
theorem dX12_isOrder_15 : decode cX12_isOrder 15 = .ok (.iload_n 1, 1) := by decide +kernel
theorem dX12_isOrder_16 : decode cX12_isOrder 16 = .ok (.iconst 3, 1) := by decide +kernel
theorem dX12_isOrder_17 : decode cX12_isOrder 17 = .ok (.iload 5, 2) := by decide +kernel
theorem dX12_isOrder_19 : decode cX12_isOrder 19 = .ok (.imul, 1) := by decide +kernel
theorem dX12_isOrder_20 : decode cX12_isOrder 20 = .ok (.ishr, 1) := by decide +kernel
theorem dX12_isOrder_21 : decode cX12_isOrder 21 = .ok (.bipush 7, 2) := by decide +kernel
theorem dX12_isOrder_23 : decode cX12_isOrder 23 = .ok (.iand, 1) := by decide +kernel
theorem dX12_isOrder_24 : decode cX12_isOrder 24 = .ok (.ishl, 1) := by decide +kernel
theorem dX12_isOrder_25 : decode cX12_isOrder 25 = .ok (.ior, 1) := by decide +kernel
theorem dX12_isOrder_26 : decode cX12_isOrder 26 = .ok (.istore 4, 2) := by decide +kernel
theorem dX12_isOrder_28 : decode cX12_isOrder 28 = .ok (.iinc 5 1, 3) := by decide +kernel
theorem dX12_isOrder_31 : decode cX12_isOrder 31 = .ok (.goto (-25), 3) := by decide +kernel
theorem dX12_isOrder_34 : decode cX12_isOrder 34 = .ok (.iload 4, 2) := by decide +kernel
theorem dX12_isOrder_36 : decode cX12_isOrder 36 = .ok (.iload_n 3, 1) := by decide +kernel
theorem dX12_isOrder_37 : decode cX12_isOrder 37 = .ok (.if_icmp .ne 7, 3) := by decide +kernel
theorem dX12_isOrder_40 : decode cX12_isOrder 40 = .ok (.iconst 1, 1) := by decide +kernel
theorem dX12_isOrder_41 : decode cX12_isOrder 41 = .ok (.goto 4, 3) := by decide +kernel
theorem dX12_isOrder_44 : decode cX12_isOrder 44 = .ok (.iconst 0, 1) := by decide +kernel
theorem dX12_isOrder_45 : decode cX12_isOrder 45 = .ok (.ireturn, 1) := by decide +kernel
theorem dX12_order_0 : decode cX12_order 0 = .ok (.aload_n 0, 1) := by decide +kernel
theorem dX12_order_1 : decode cX12_order 1 = .ok (.iconst 0, 1) := by decide +kernel
theorem dX12_order_2 : decode cX12_order 2 = .ok (.putfield 167, 3) := by decide +kernel
theorem dX12_order_5 : decode cX12_order 5 = .ok (.aload_n 0, 1) := by decide +kernel
theorem dX12_order_6 : decode cX12_order 6 = .ok (.iload_n 1, 1) := by decide +kernel
theorem dX12_order_7 : decode cX12_order 7 = .ok (.iconst 1, 1) := by decide +kernel
theorem dX12_order_8 : decode cX12_order 8 = .ok (.sipush 255, 3) := by decide +kernel
theorem dX12_order_11 : decode cX12_order 11 = .ok (.invokevirtual 170, 3) := by decide +kernel
theorem dX12_order_14 : decode cX12_order 14 = .ok (.ifCond .eq 29, 3) := by decide +kernel
theorem dX12_order_17 : decode cX12_order 17 = .ok (.aload_n 0, 1) := by decide +kernel
theorem dX12_order_18 : decode cX12_order 18 = .ok (.iload_n 1, 1) := by decide +kernel
theorem dX12_order_19 : decode cX12_order 19 = .ok (.invokevirtual 383, 3) := by decide +kernel
theorem dX12_order_22 : decode cX12_order 22 = .ok (.iconst 3, 1) := by decide +kernel
theorem dX12_order_23 : decode cX12_order 23 = .ok (.if_icmp .gt 20, 3) := by decide +kernel
theorem dX12_order_26 : decode cX12_order 26 = .ok (.aload_n 0, 1) := by decide +kernel
theorem dX12_order_27 : decode cX12_order 27 = .ok (.getfield 174, 3) := by decide +kernel
theorem dX12_order_30 : decode cX12_order 30 = .ok (.ifCond .eq 13, 3) := by decide +kernel
theorem dX12_order_33 : decode cX12_order 33 = .ok (.aload_n 0, 1) := by decide +kernel
theorem dX12_order_34 : decode cX12_order 34 = .ok (.iload_n 2, 1) := by decide +kernel
theorem dX12_order_35 : decode cX12_order 35 = .ok (.iconst 0, 1) := by decide +kernel
theorem dX12_order_36 : decode cX12_order 36 = .ok (.iconst 2, 1) := by decide +kernel
theorem dX12_order_37 : decode cX12_order 37 = .ok (.invokevirtual 170, 3) := by decide +kernel
theorem dX12_order_40 : decode cX12_order 40 = .ok (.ifCond .ne 5, 3) := by decide +kernel
theorem dX12_order_43 : decode cX12_order 43 = .ok (.iconst (-1), 1) := by decide +kernel
theorem dX12_order_44 : decode cX12_order 44 = .ok (.ireturn, 1) := by decide +kernel
theorem dX12_order_45 : decode cX12_order 45 = .ok (.aload_n 0, 1) := by decide +kernel
theorem dX12_order_46 : decode cX12_order 46 = .ok (.iload_n 1, 1) := by decide +kernel
theorem dX12_order_47 : decode cX12_order 47 = .ok (.invokevirtual 383, 3) := by decide +kernel
theorem dX12_order_50 : decode cX12_order 50 = .ok (.istore_n 3, 1) := by decide +kernel
theorem dX12_order_51 : decode cX12_order 51 = .ok (.iconst (-1), 1) := by decide +kernel
theorem dX12_order_52 : decode cX12_order 52 = .ok (.istore 4, 2) := by decide +kernel
theorem dX12_order_54 : decode cX12_order 54 = .ok (.iconst 0, 1) := by decide +kernel
theorem dX12_order_55 : decode cX12_order 55 = .ok (.istore 5, 2) := by decide +kernel
theorem dX12_order_57 : decode cX12_order 57 = .ok (.iconst 0, 1) := by decide +kernel
theorem dX12_order_58 : decode cX12_order 58 = .ok (.istore 6, 2) := by decide +kernel
theorem dX12_order_60 : decode cX12_order 60 = .ok (.iconst 0, 1) := by decide +kernel
theorem dX12_order_61 : decode cX12_order 61 = .ok (.istore 7, 2) := by decide +kernel
theorem dX12_order_63 : decode cX12_order 63 = .ok (.iload 7, 2) := by decide +kernel
theorem dX12_order_65 : decode cX12_order 65 = .ok (.iconst 1, 1) := by decide +kernel
theorem dX12_order_66 : decode cX12_order 66 = .ok (.iconst 3, 1) := by decide +kernel
theorem dX12_order_67 : decode cX12_order 67 = .ok (.iload_n 3, 1) := by decide +kernel
theorem dX12_order_68 : decode cX12_order 68 = .ok (.imul, 1) := by decide +kernel
theorem dX12_order_69 : decode cX12_order 69 = .ok (.ishl, 1) := by decide +kernel
theorem dX12_order_70 : decode cX12_order 70 = .ok (.if_icmp .ge 123, 3) := by decide +kernel
theorem dX12_order_73 : decode cX12_order 73 = .ok (.aload_n 0, 1) := by decide +kernel
theorem dX12_order_74 : decode cX12_order 74 = .ok (.iload 7, 2) := by decide +kernel
theorem dX12_order_76 : decode cX12_order 76 = .ok (.iload_n 3, 1) := by decide +kernel
theorem dX12_order_77 : decode cX12_order 77 = .ok (.iload_n 1, 1) := by decide +kernel
theorem dX12_order_78 : decode cX12_order 78 = .ok (.invokevirtual 386, 3) := by decide +kernel
theorem dX12_order_81 : decode cX12_order 81 = .ok (.ifCond .ne 6, 3) := by decide +kernel
theorem dX12_order_84 : decode cX12_order 84 = .ok (.goto 103, 3) := by decide +kernel
theorem dX12_order_87 : decode cX12_order 87 = .ok (.aload_n 0, 1) := by decide +kernel
theorem dX12_order_88 : decode cX12_order 88 = .ok (.invokevirtual 389, 3) := by decide +kernel
theorem dX12_order_91 : decode cX12_order 91 = .ok (.iload_n 3, 1) := by decide +kernel
theorem dX12_order_92 : decode cX12_order 92 = .ok (.iconst 1, 1) := by decide +kernel
theorem dX12_order_93 : decode cX12_order 93 = .ok (.isub, 1) := by decide +kernel
theorem dX12_order_94 : decode cX12_order 94 = .ok (.istore 8, 2) := by decide +kernel
theorem dX12_order_96 : decode cX12_order 96 = .ok (.iload 8, 2) := by decide +kernel
theorem dX12_order_98 : decode cX12_order 98 = .ok (.ifCond .lt 24, 3) := by decide +kernel
theorem dX12_order_101 : decode cX12_order 101 = .ok (.aload_n 0, 1) := by decide +kernel
theorem dX12_order_102 : decode cX12_order 102 = .ok (.iconst 1, 1) := by decide +kernel
theorem dX12_order_103 : decode cX12_order 103 = .ok (.iload 7, 2) := by decide +kernel
theorem dX12_order_105 : decode cX12_order 105 = .ok (.iconst 3, 1) := by decide +kernel
theorem dX12_order_106 : decode cX12_order 106 = .ok (.iload 8, 2) := by decide +kernel
theorem dX12_order_108 : decode cX12_order 108 = .ok (.imul, 1) := by decide +kernel
theorem dX12_order_109 : decode cX12_order 109 = .ok (.ishr, 1) := by decide +kernel
theorem dX12_order_110 : decode cX12_order 110 = .ok (.bipush 7, 2) := by decide +kernel
theorem dX12_order_112 : decode cX12_order 112 = .ok (.iand, 1) := by decide +kernel
theorem dX12_order_113 : decode cX12_order 113 = .ok (.invokevirtual 372, 3) := by decide +kernel
theorem dX12_order_116 : decode cX12_order 116 = .ok (.iinc 8 (-1), 3) := by decide +kernel
theorem dX12_order_119 : decode cX12_order 119 = .ok (.goto (-23), 3) := by decide +kernel
theorem dX12_order_122 : decode cX12_order 122 = .ok (.aload_n 0, 1) := by decide +kernel
theorem dX12_order_123 : decode cX12_order 123 = .ok (.iconst 1, 1) := by decide +kernel
theorem dX12_order_124 : decode cX12_order 124 = .ok (.iconst 4, 1) := by decide +kernel
theorem dX12_order_125 : decode cX12_order 125 = .ok (.invokevirtual 378, 3) := by decide +kernel
theorem dX12_order_128 : decode cX12_order 128 = .ok (.istore 8, 2) := by decide +kernel
theorem dX12_order_130 : decode cX12_order 130 = .ok (.aload_n 0, 1) := by decide +kernel
theorem dX12_order_131 : decode cX12_order 131 = .ok (.getfield 61, 3) := by decide +kernel
theorem dX12_order_134 : decode cX12_order 134 = .ok (.iconst 1, 1) := by decide +kernel
theorem dX12_order_135 : decode cX12_order 135 = .ok (.iaload, 1) := by decide +kernel
theorem dX12_order_136 : decode cX12_order 136 = .ok (.aload_n 0, 1) := by decide +kernel
theorem dX12_order_137 : decode cX12_order 137 = .ok (.getfield 61, 3) := by decide +kernel
theorem dX12_order_140 : decode cX12_order 140 = .ok (.iconst 0, 1) := by decide +kernel
theorem dX12_order_141 : decode cX12_order 141 = .ok (.iaload, 1) := by decide +kernel
theorem dX12_order_142 : decode cX12_order 142 = .ok (.isub, 1) := by decide +kernel
theorem dX12_order_143 : decode cX12_order 143 = .ok (.istore 9, 2) := by decide +kernel
theorem dX12_order_145 : decode cX12_order 145 = .ok (.iload 4, 2) := by decide +kernel
theorem dX12_order_147 : decode cX12_order 147 = .ok (.iconst (-1), 1) := by decide +kernel
theorem dX12_order_148 : decode cX12_order 148 = .ok (.if_icmp .eq 27, 3) := by decide +kernel
theorem dX12_order_151 : decode cX12_order 151 = .ok (.iload 8, 2) := by decide +kernel
theorem dX12_order_153 : decode cX12_order 153 = .ok (.iload 5, 2) := by decide +kernel
theorem dX12_order_155 : decode cX12_order 155 = .ok (.if_icmp .gt 32, 3) := by decide +kernel
theorem dX12_order_158 : decode cX12_order 158 = .ok (.iload 8, 2) := by decide +kernel
theorem dX12_order_160 : decode cX12_order 160 = .ok (.iload 5, 2) := by decide +kernel
theorem dX12_order_162 : decode cX12_order 162 = .ok (.if_icmp .ne 13, 3) := by decide +kernel
theorem dX12_order_165 : decode cX12_order 165 = .ok (.iload 9, 2) := by decide +kernel
theorem dX12_order_167 : decode cX12_order 167 = .ok (.iload 6, 2) := by decide +kernel
theorem dX12_order_169 : decode cX12_order 169 = .ok (.if_icmp .lt 6, 3) := by decide +kernel
theorem dX12_order_172 : decode cX12_order 172 = .ok (.goto 15, 3) := by decide +kernel
theorem dX12_order_175 : decode cX12_order 175 = .ok (.iload 7, 2) := by decide +kernel
theorem dX12_order_177 : decode cX12_order 177 = .ok (.istore 4, 2) := by decide +kernel
theorem dX12_order_179 : decode cX12_order 179 = .ok (.iload 8, 2) := by decide +kernel
theorem dX12_order_181 : decode cX12_order 181 = .ok (.istore 5, 2) := by decide +kernel
theorem dX12_order_183 : decode cX12_order 183 = .ok (.iload 9, 2) := by decide +kernel
theorem dX12_order_185 : decode cX12_order 185 = .ok (.istore 6, 2) := by decide +kernel
theorem dX12_order_187 : decode cX12_order 187 = .ok (.iinc 7 1, 3) := by decide +kernel
theorem dX12_order_190 : decode cX12_order 190 = .ok (.goto (-127), 3) := by decide +kernel
theorem dX12_order_193 : decode cX12_order 193 = .ok (.iload_n 2, 1) := by decide +kernel
theorem dX12_order_194 : decode cX12_order 194 = .ok (.iconst 2, 1) := by decide +kernel
theorem dX12_order_195 : decode cX12_order 195 = .ok (.if_icmp .ge 15, 3) := by decide +kernel
theorem dX12_order_198 : decode cX12_order 198 = .ok (.iload_n 2, 1) := by decide +kernel
theorem dX12_order_199 : decode cX12_order 199 = .ok (.ifCond .ne 8, 3) := by decide +kernel
theorem dX12_order_202 : decode cX12_order 202 = .ok (.iload 5, 2) := by decide +kernel
theorem dX12_order_204 : decode cX12_order 204 = .ok (.goto 5, 3) := by decide +kernel
theorem dX12_order_207 : decode cX12_order 207 = .ok (.iload 6, 2) := by decide +kernel
theorem dX12_order_209 : decode cX12_order 209 = .ok (.ireturn, 1) := by decide +kernel
theorem dX12_order_210 : decode cX12_order 210 = .ok (.bipush 9, 2) := by decide +kernel
theorem dX12_order_212 : decode cX12_order 212 = .ok (.istore 7, 2) := by decide +kernel
theorem dX12_order_214 : decode cX12_order 214 = .ok (.iload_n 3, 1) := by decide +kernel
theorem dX12_order_215 : decode cX12_order 215 = .ok (.iconst 1, 1) := by decide +kernel
theorem dX12_order_216 : decode cX12_order 216 = .ok (.isub, 1) := by decide +kernel
theorem dX12_order_217 : decode cX12_order 217 = .ok (.istore 8, 2) := by decide +kernel
theorem dX12_order_219 : decode cX12_order 219 = .ok (.iload 8, 2) := by decide +kernel
theorem dX12_order_221 : decode cX12_order 221 = .ok (.ifCond .lt 27, 3) := by decide +kernel
theorem dX12_order_224 : decode cX12_order 224 = .ok (.bipush 10, 2) := by decide +kernel
theorem dX12_order_226 : decode cX12_order 226 = .ok (.iload 7, 2) := by decide +kernel
theorem dX12_order_228 : decode cX12_order 228 = .ok (.imul, 1) := by decide +kernel
theorem dX12_order_229 : decode cX12_order 229 = .ok (.iload 4, 2) := by decide +kernel
theorem dX12_order_231 : decode cX12_order 231 = .ok (.iconst 3, 1) := by decide +kernel
theorem dX12_order_232 : decode cX12_order 232 = .ok (.iload 8, 2) := by decide +kernel
theorem dX12_order_234 : decode cX12_order 234 = .ok (.imul, 1) := by decide +kernel
theorem dX12_order_235 : decode cX12_order 235 = .ok (.ishr, 1) := by decide +kernel
theorem dX12_order_236 : decode cX12_order 236 = .ok (.bipush 7, 2) := by decide +kernel
theorem dX12_order_238 : decode cX12_order 238 = .ok (.iand, 1) := by decide +kernel
theorem dX12_order_239 : decode cX12_order 239 = .ok (.iadd, 1) := by decide +kernel
theorem dX12_order_240 : decode cX12_order 240 = .ok (.istore 7, 2) := by decide +kernel
theorem dX12_order_242 : decode cX12_order 242 = .ok (.iinc 8 (-1), 3) := by decide +kernel
theorem dX12_order_245 : decode cX12_order 245 = .ok (.goto (-26), 3) := by decide +kernel
theorem dX12_order_248 : decode cX12_order 248 = .ok (.iload 7, 2) := by decide +kernel
theorem dX12_order_250 : decode cX12_order 250 = .ok (.ireturn, 1) := by decide +kernel
theorem dX12_cutsThrough_0 : decode cX12_cutsThrough 0 = .ok (.aload_n 0, 1) := by decide +kernel
theorem dX12_cutsThrough_1 : decode cX12_cutsThrough 1 = .ok (.invokevirtual 389, 3) := by decide +kernel
theorem dX12_cutsThrough_4 : decode cX12_cutsThrough 4 = .ok (.aload_n 0, 1) := by decide +kernel
theorem dX12_cutsThrough_5 : decode cX12_cutsThrough 5 = .ok (.getfield 58, 3) := by decide +kernel
theorem dX12_cutsThrough_8 : decode cX12_cutsThrough 8 = .ok (.iconst 1, 1) := by decide +kernel
theorem dX12_cutsThrough_9 : decode cX12_cutsThrough 9 = .ok (.iload_n 3, 1) := by decide +kernel
theorem dX12_cutsThrough_10 : decode cX12_cutsThrough 10 = .ok (.iastore, 1) := by decide +kernel
theorem dX12_cutsThrough_11 : decode cX12_cutsThrough 11 = .ok (.aload_n 0, 1) := by decide +kernel
theorem dX12_cutsThrough_12 : decode cX12_cutsThrough 12 = .ok (.getfield 55, 3) := by decide +kernel
theorem dX12_cutsThrough_15 : decode cX12_cutsThrough 15 = .ok (.iconst 1, 1) := by decide +kernel
theorem dX12_cutsThrough_16 : decode cX12_cutsThrough 16 = .ok (.iconst 1, 1) := by decide +kernel
theorem dX12_cutsThrough_17 : decode cX12_cutsThrough 17 = .ok (.bastore, 1) := by decide +kernel
theorem dX12_cutsThrough_18 : decode cX12_cutsThrough 18 = .ok (.aload_n 0, 1) := by decide +kernel
theorem dX12_cutsThrough_19 : decode cX12_cutsThrough 19 = .ok (.iconst 0, 1) := by decide +kernel
theorem dX12_cutsThrough_20 : decode cX12_cutsThrough 20 = .ok (.putfield 335, 3) := by decide +kernel
theorem dX12_cutsThrough_23 : decode cX12_cutsThrough 23 = .ok (.aload_n 0, 1) := by decide +kernel
theorem dX12_cutsThrough_24 : decode cX12_cutsThrough 24 = .ok (.iconst 0, 1) := by decide +kernel
theorem dX12_cutsThrough_25 : decode cX12_cutsThrough 25 = .ok (.putfield 338, 3) := by decide +kernel
theorem dX12_cutsThrough_28 : decode cX12_cutsThrough 28 = .ok (.aload_n 0, 1) := by decide +kernel
theorem dX12_cutsThrough_29 : decode cX12_cutsThrough 29 = .ok (.iconst 1, 1) := by decide +kernel
theorem dX12_cutsThrough_30 : decode cX12_cutsThrough 30 = .ok (.iload_n 1, 1) := by decide +kernel
theorem dX12_cutsThrough_31 : decode cX12_cutsThrough 31 = .ok (.iload_n 2, 1) := by decide +kernel
theorem dX12_cutsThrough_32 : decode cX12_cutsThrough 32 = .ok (.invokevirtual 362, 3) := by decide +kernel
theorem dX12_cutsThrough_35 : decode cX12_cutsThrough 35 = .ok (.iconst 1, 1) := by decide +kernel
theorem dX12_cutsThrough_36 : decode cX12_cutsThrough 36 = .ok (.istore 4, 2) := by decide +kernel
theorem dX12_cutsThrough_38 : decode cX12_cutsThrough 38 = .ok (.iconst 1, 1) := by decide +kernel
theorem dX12_cutsThrough_39 : decode cX12_cutsThrough 39 = .ok (.istore 5, 2) := by decide +kernel
theorem dX12_cutsThrough_41 : decode cX12_cutsThrough 41 = .ok (.iload 5, 2) := by decide +kernel
theorem dX12_cutsThrough_43 : decode cX12_cutsThrough 43 = .ok (.iload_n 2, 1) := by decide +kernel
theorem dX12_cutsThrough_44 : decode cX12_cutsThrough 44 = .ok (.if_icmp .gt 59, 3) := by decide +kernel
theorem dX12_cutsThrough_47 : decode cX12_cutsThrough 47 = .ok (.iload 4, 2) := by decide +kernel
theorem dX12_cutsThrough_49 : decode cX12_cutsThrough 49 = .ok (.ifCond .eq 45, 3) := by decide +kernel
theorem dX12_cutsThrough_52 : decode cX12_cutsThrough 52 = .ok (.aload_n 0, 1) := by decide +kernel
theorem dX12_cutsThrough_53 : decode cX12_cutsThrough 53 = .ok (.iconst 1, 1) := by decide +kernel
theorem dX12_cutsThrough_54 : decode cX12_cutsThrough 54 = .ok (.aload_n 0, 1) := by decide +kernel
theorem dX12_cutsThrough_55 : decode cX12_cutsThrough 55 = .ok (.getfield 49, 3) := by decide +kernel
theorem dX12_cutsThrough_58 : decode cX12_cutsThrough 58 = .ok (.iconst 0, 1) := by decide +kernel
theorem dX12_cutsThrough_59 : decode cX12_cutsThrough 59 = .ok (.iaload, 1) := by decide +kernel
theorem dX12_cutsThrough_60 : decode cX12_cutsThrough 60 = .ok (.iload 5, 2) := by decide +kernel
theorem dX12_cutsThrough_62 : decode cX12_cutsThrough 62 = .ok (.aload_n 0, 1) := by decide +kernel
theorem dX12_cutsThrough_63 : decode cX12_cutsThrough 63 = .ok (.iload_n 1, 1) := by decide +kernel
theorem dX12_cutsThrough_64 : decode cX12_cutsThrough 64 = .ok (.invokevirtual 193, 3) := by decide +kernel
theorem dX12_cutsThrough_67 : decode cX12_cutsThrough 67 = .ok (.imul, 1) := by decide +kernel
theorem dX12_cutsThrough_68 : decode cX12_cutsThrough 68 = .ok (.iadd, 1) := by decide +kernel
theorem dX12_cutsThrough_69 : decode cX12_cutsThrough 69 = .ok (.aload_n 0, 1) := by decide +kernel
theorem dX12_cutsThrough_70 : decode cX12_cutsThrough 70 = .ok (.getfield 52, 3) := by decide +kernel
theorem dX12_cutsThrough_73 : decode cX12_cutsThrough 73 = .ok (.iconst 0, 1) := by decide +kernel
theorem dX12_cutsThrough_74 : decode cX12_cutsThrough 74 = .ok (.iaload, 1) := by decide +kernel
theorem dX12_cutsThrough_75 : decode cX12_cutsThrough 75 = .ok (.iload 5, 2) := by decide +kernel
theorem dX12_cutsThrough_77 : decode cX12_cutsThrough 77 = .ok (.aload_n 0, 1) := by decide +kernel
theorem dX12_cutsThrough_78 : decode cX12_cutsThrough 78 = .ok (.iload_n 1, 1) := by decide +kernel
theorem dX12_cutsThrough_79 : decode cX12_cutsThrough 79 = .ok (.invokevirtual 197, 3) := by decide +kernel
theorem dX12_cutsThrough_82 : decode cX12_cutsThrough 82 = .ok (.imul, 1) := by decide +kernel
theorem dX12_cutsThrough_83 : decode cX12_cutsThrough 83 = .ok (.iadd, 1) := by decide +kernel
theorem dX12_cutsThrough_84 : decode cX12_cutsThrough 84 = .ok (.invokevirtual 200, 3) := by decide +kernel
theorem dX12_cutsThrough_87 : decode cX12_cutsThrough 87 = .ok (.ifCond .ne 7, 3) := by decide +kernel
theorem dX12_cutsThrough_90 : decode cX12_cutsThrough 90 = .ok (.iconst 1, 1) := by decide +kernel
theorem dX12_cutsThrough_91 : decode cX12_cutsThrough 91 = .ok (.goto 4, 3) := by decide +kernel
theorem dX12_cutsThrough_94 : decode cX12_cutsThrough 94 = .ok (.iconst 0, 1) := by decide +kernel
theorem dX12_cutsThrough_95 : decode cX12_cutsThrough 95 = .ok (.istore 4, 2) := by decide +kernel
theorem dX12_cutsThrough_97 : decode cX12_cutsThrough 97 = .ok (.iinc 5 1, 3) := by decide +kernel
theorem dX12_cutsThrough_100 : decode cX12_cutsThrough 100 = .ok (.goto (-59), 3) := by decide +kernel
theorem dX12_cutsThrough_103 : decode cX12_cutsThrough 103 = .ok (.iload 4, 2) := by decide +kernel
theorem dX12_cutsThrough_105 : decode cX12_cutsThrough 105 = .ok (.ireturn, 1) := by decide +kernel
theorem dX12_speed_0 : decode cX12_speed 0 = .ok (.aload_n 0, 1) := by decide +kernel
theorem dX12_speed_1 : decode cX12_speed 1 = .ok (.iconst 0, 1) := by decide +kernel
theorem dX12_speed_2 : decode cX12_speed 2 = .ok (.putfield 167, 3) := by decide +kernel
theorem dX12_speed_5 : decode cX12_speed 5 = .ok (.aload_n 0, 1) := by decide +kernel
theorem dX12_speed_6 : decode cX12_speed 6 = .ok (.iload_n 1, 1) := by decide +kernel
theorem dX12_speed_7 : decode cX12_speed 7 = .ok (.iconst 0, 1) := by decide +kernel
theorem dX12_speed_8 : decode cX12_speed 8 = .ok (.iconst 3, 1) := by decide +kernel
theorem dX12_speed_9 : decode cX12_speed 9 = .ok (.invokevirtual 170, 3) := by decide +kernel
theorem dX12_speed_12 : decode cX12_speed 12 = .ok (.ifCond .eq 56, 3) := by decide +kernel
theorem dX12_speed_15 : decode cX12_speed 15 = .ok (.aload_n 0, 1) := by decide +kernel
theorem dX12_speed_16 : decode cX12_speed 16 = .ok (.iload_n 2, 1) := by decide +kernel
theorem dX12_speed_17 : decode cX12_speed 17 = .ok (.iconst 1, 1) := by decide +kernel
theorem dX12_speed_18 : decode cX12_speed 18 = .ok (.bipush 15, 2) := by decide +kernel
theorem dX12_speed_20 : decode cX12_speed 20 = .ok (.invokevirtual 170, 3) := by decide +kernel
theorem dX12_speed_23 : decode cX12_speed 23 = .ok (.ifCond .eq 45, 3) := by decide +kernel
theorem dX12_speed_26 : decode cX12_speed 26 = .ok (.aload_n 0, 1) := by decide +kernel
theorem dX12_speed_27 : decode cX12_speed 27 = .ok (.getfield 174, 3) := by decide +kernel
theorem dX12_speed_30 : decode cX12_speed 30 = .ok (.ifCond .eq 38, 3) := by decide +kernel
theorem dX12_speed_33 : decode cX12_speed 33 = .ok (.aload_n 0, 1) := by decide +kernel
theorem dX12_speed_34 : decode cX12_speed 34 = .ok (.aload_n 0, 1) := by decide +kernel
theorem dX12_speed_35 : decode cX12_speed 35 = .ok (.getfield 49, 3) := by decide +kernel
theorem dX12_speed_38 : decode cX12_speed 38 = .ok (.iconst 0, 1) := by decide +kernel
theorem dX12_speed_39 : decode cX12_speed 39 = .ok (.iaload, 1) := by decide +kernel
theorem dX12_speed_40 : decode cX12_speed 40 = .ok (.iload_n 2, 1) := by decide +kernel
theorem dX12_speed_41 : decode cX12_speed 41 = .ok (.aload_n 0, 1) := by decide +kernel
theorem dX12_speed_42 : decode cX12_speed 42 = .ok (.iload_n 1, 1) := by decide +kernel
theorem dX12_speed_43 : decode cX12_speed 43 = .ok (.invokevirtual 193, 3) := by decide +kernel
theorem dX12_speed_46 : decode cX12_speed 46 = .ok (.imul, 1) := by decide +kernel
theorem dX12_speed_47 : decode cX12_speed 47 = .ok (.iadd, 1) := by decide +kernel
theorem dX12_speed_48 : decode cX12_speed 48 = .ok (.aload_n 0, 1) := by decide +kernel
theorem dX12_speed_49 : decode cX12_speed 49 = .ok (.getfield 52, 3) := by decide +kernel
theorem dX12_speed_52 : decode cX12_speed 52 = .ok (.iconst 0, 1) := by decide +kernel
theorem dX12_speed_53 : decode cX12_speed 53 = .ok (.iaload, 1) := by decide +kernel
theorem dX12_speed_54 : decode cX12_speed 54 = .ok (.iload_n 2, 1) := by decide +kernel
theorem dX12_speed_55 : decode cX12_speed 55 = .ok (.aload_n 0, 1) := by decide +kernel
theorem dX12_speed_56 : decode cX12_speed 56 = .ok (.iload_n 1, 1) := by decide +kernel
theorem dX12_speed_57 : decode cX12_speed 57 = .ok (.invokevirtual 197, 3) := by decide +kernel
theorem dX12_speed_60 : decode cX12_speed 60 = .ok (.imul, 1) := by decide +kernel
theorem dX12_speed_61 : decode cX12_speed 61 = .ok (.iadd, 1) := by decide +kernel
theorem dX12_speed_62 : decode cX12_speed 62 = .ok (.invokevirtual 189, 3) := by decide +kernel
theorem dX12_speed_65 : decode cX12_speed 65 = .ok (.ifCond .ne 5, 3) := by decide +kernel
theorem dX12_speed_68 : decode cX12_speed 68 = .ok (.iconst (-1), 1) := by decide +kernel
theorem dX12_speed_69 : decode cX12_speed 69 = .ok (.ireturn, 1) := by decide +kernel
theorem dX12_speed_70 : decode cX12_speed 70 = .ok (.iconst 1, 1) := by decide +kernel
theorem dX12_speed_71 : decode cX12_speed 71 = .ok (.istore_n 3, 1) := by decide +kernel
theorem dX12_speed_72 : decode cX12_speed 72 = .ok (.iload_n 3, 1) := by decide +kernel
theorem dX12_speed_73 : decode cX12_speed 73 = .ok (.bipush 20, 2) := by decide +kernel
theorem dX12_speed_75 : decode cX12_speed 75 = .ok (.if_icmp .gt 21, 3) := by decide +kernel
theorem dX12_speed_78 : decode cX12_speed 78 = .ok (.aload_n 0, 1) := by decide +kernel
theorem dX12_speed_79 : decode cX12_speed 79 = .ok (.iload_n 1, 1) := by decide +kernel
theorem dX12_speed_80 : decode cX12_speed 80 = .ok (.iload_n 2, 1) := by decide +kernel
theorem dX12_speed_81 : decode cX12_speed 81 = .ok (.iload_n 3, 1) := by decide +kernel
theorem dX12_speed_82 : decode cX12_speed 82 = .ok (.invokevirtual 392, 3) := by decide +kernel
theorem dX12_speed_85 : decode cX12_speed 85 = .ok (.ifCond .eq 5, 3) := by decide +kernel
theorem dX12_speed_88 : decode cX12_speed 88 = .ok (.iload_n 3, 1) := by decide +kernel
theorem dX12_speed_89 : decode cX12_speed 89 = .ok (.ireturn, 1) := by decide +kernel
theorem dX12_speed_90 : decode cX12_speed 90 = .ok (.iinc 3 1, 3) := by decide +kernel
theorem dX12_speed_93 : decode cX12_speed 93 = .ok (.goto (-21), 3) := by decide +kernel
theorem dX12_speed_96 : decode cX12_speed 96 = .ok (.iconst (-1), 1) := by decide +kernel
theorem dX12_speed_97 : decode cX12_speed 97 = .ok (.ireturn, 1) := by decide +kernel
theorem dX12_kind_0 : decode cX12_kind 0 = .ok (.aload_n 0, 1) := by decide +kernel
theorem dX12_kind_1 : decode cX12_kind 1 = .ok (.iconst 0, 1) := by decide +kernel
theorem dX12_kind_2 : decode cX12_kind 2 = .ok (.putfield 167, 3) := by decide +kernel
theorem dX12_kind_5 : decode cX12_kind 5 = .ok (.aload_n 0, 1) := by decide +kernel
theorem dX12_kind_6 : decode cX12_kind 6 = .ok (.iload_n 1, 1) := by decide +kernel
theorem dX12_kind_7 : decode cX12_kind 7 = .ok (.iconst 1, 1) := by decide +kernel
theorem dX12_kind_8 : decode cX12_kind 8 = .ok (.bipush 40, 2) := by decide +kernel
theorem dX12_kind_10 : decode cX12_kind 10 = .ok (.invokevirtual 170, 3) := by decide +kernel
theorem dX12_kind_13 : decode cX12_kind 13 = .ok (.ifCond .eq 35, 3) := by decide +kernel
theorem dX12_kind_16 : decode cX12_kind 16 = .ok (.aload_n 0, 1) := by decide +kernel
theorem dX12_kind_17 : decode cX12_kind 17 = .ok (.iload_n 2, 1) := by decide +kernel
theorem dX12_kind_18 : decode cX12_kind 18 = .ok (.iconst 1, 1) := by decide +kernel
theorem dX12_kind_19 : decode cX12_kind 19 = .ok (.bipush 40, 2) := by decide +kernel
theorem dX12_kind_21 : decode cX12_kind 21 = .ok (.invokevirtual 170, 3) := by decide +kernel
theorem dX12_kind_24 : decode cX12_kind 24 = .ok (.ifCond .eq 24, 3) := by decide +kernel
theorem dX12_kind_27 : decode cX12_kind 27 = .ok (.aload_n 0, 1) := by decide +kernel
theorem dX12_kind_28 : decode cX12_kind 28 = .ok (.iload_n 3, 1) := by decide +kernel
theorem dX12_kind_29 : decode cX12_kind 29 = .ok (.iconst 0, 1) := by decide +kernel
theorem dX12_kind_30 : decode cX12_kind 30 = .ok (.sipush 999, 3) := by decide +kernel
theorem dX12_kind_33 : decode cX12_kind 33 = .ok (.invokevirtual 170, 3) := by decide +kernel
theorem dX12_kind_36 : decode cX12_kind 36 = .ok (.ifCond .eq 12, 3) := by decide +kernel
theorem dX12_kind_39 : decode cX12_kind 39 = .ok (.aload_n 0, 1) := by decide +kernel
theorem dX12_kind_40 : decode cX12_kind 40 = .ok (.getfield 395, 3) := by decide +kernel
theorem dX12_kind_43 : decode cX12_kind 43 = .ok (.bipush 6, 2) := by decide +kernel
theorem dX12_kind_45 : decode cX12_kind 45 = .ok (.if_icmp .ne 5, 3) := by decide +kernel
theorem dX12_kind_48 : decode cX12_kind 48 = .ok (.iconst (-1), 1) := by decide +kernel
theorem dX12_kind_49 : decode cX12_kind 49 = .ok (.ireturn, 1) := by decide +kernel
theorem dX12_kind_50 : decode cX12_kind 50 = .ok (.aload_n 0, 1) := by decide +kernel
theorem dX12_kind_51 : decode cX12_kind 51 = .ok (.getfield 140, 3) := by decide +kernel
theorem dX12_kind_54 : decode cX12_kind 54 = .ok (.aload_n 0, 1) := by decide +kernel
theorem dX12_kind_55 : decode cX12_kind 55 = .ok (.getfield 395, 3) := by decide +kernel
theorem dX12_kind_58 : decode cX12_kind 58 = .ok (.iload_n 1, 1) := by decide +kernel
theorem dX12_kind_59 : decode cX12_kind 59 = .ok (.iastore, 1) := by decide +kernel
theorem dX12_kind_60 : decode cX12_kind 60 = .ok (.aload_n 0, 1) := by decide +kernel
theorem dX12_kind_61 : decode cX12_kind 61 = .ok (.getfield 143, 3) := by decide +kernel
theorem dX12_kind_64 : decode cX12_kind 64 = .ok (.aload_n 0, 1) := by decide +kernel
theorem dX12_kind_65 : decode cX12_kind 65 = .ok (.getfield 395, 3) := by decide +kernel
theorem dX12_kind_68 : decode cX12_kind 68 = .ok (.iload_n 2, 1) := by decide +kernel
theorem dX12_kind_69 : decode cX12_kind 69 = .ok (.iastore, 1) := by decide +kernel
theorem dX12_kind_70 : decode cX12_kind 70 = .ok (.aload_n 0, 1) := by decide +kernel
theorem dX12_kind_71 : decode cX12_kind 71 = .ok (.getfield 146, 3) := by decide +kernel
theorem dX12_kind_74 : decode cX12_kind 74 = .ok (.aload_n 0, 1) := by decide +kernel
theorem dX12_kind_75 : decode cX12_kind 75 = .ok (.getfield 395, 3) := by decide +kernel
theorem dX12_kind_78 : decode cX12_kind 78 = .ok (.iload_n 3, 1) := by decide +kernel
theorem dX12_kind_79 : decode cX12_kind 79 = .ok (.iastore, 1) := by decide +kernel
theorem dX12_kind_80 : decode cX12_kind 80 = .ok (.aload_n 0, 1) := by decide +kernel
theorem dX12_kind_81 : decode cX12_kind 81 = .ok (.aload_n 0, 1) := by decide +kernel
theorem dX12_kind_82 : decode cX12_kind 82 = .ok (.getfield 395, 3) := by decide +kernel
theorem dX12_kind_85 : decode cX12_kind 85 = .ok (.iconst 1, 1) := by decide +kernel
theorem dX12_kind_86 : decode cX12_kind 86 = .ok (.iadd, 1) := by decide +kernel
theorem dX12_kind_87 : decode cX12_kind 87 = .ok (.putfield 395, 3) := by decide +kernel
theorem dX12_kind_90 : decode cX12_kind 90 = .ok (.aload_n 0, 1) := by decide +kernel
theorem dX12_kind_91 : decode cX12_kind 91 = .ok (.getfield 395, 3) := by decide +kernel
theorem dX12_kind_94 : decode cX12_kind 94 = .ok (.iconst 1, 1) := by decide +kernel
theorem dX12_kind_95 : decode cX12_kind 95 = .ok (.isub, 1) := by decide +kernel
theorem dX12_kind_96 : decode cX12_kind 96 = .ok (.ireturn, 1) := by decide +kernel
theorem dX12_mostOf_0 : decode cX12_mostOf 0 = .ok (.iconst 0, 1) := by decide +kernel
theorem dX12_mostOf_1 : decode cX12_mostOf 1 = .ok (.istore_n 3, 1) := by decide +kernel
theorem dX12_mostOf_2 : decode cX12_mostOf 2 = .ok (.iconst 0, 1) := by decide +kernel
theorem dX12_mostOf_3 : decode cX12_mostOf 3 = .ok (.istore 4, 2) := by decide +kernel
theorem dX12_mostOf_5 : decode cX12_mostOf 5 = .ok (.iload 4, 2) := by decide +kernel
theorem dX12_mostOf_7 : decode cX12_mostOf 7 = .ok (.aload_n 0, 1) := by decide +kernel
theorem dX12_mostOf_8 : decode cX12_mostOf 8 = .ok (.getfield 395, 3) := by decide +kernel
theorem dX12_mostOf_11 : decode cX12_mostOf 11 = .ok (.if_icmp .ge 84, 3) := by decide +kernel
theorem dX12_mostOf_14 : decode cX12_mostOf 14 = .ok (.aload_n 0, 1) := by decide +kernel
theorem dX12_mostOf_15 : decode cX12_mostOf 15 = .ok (.getfield 140, 3) := by decide +kernel
theorem dX12_mostOf_18 : decode cX12_mostOf 18 = .ok (.iload 4, 2) := by decide +kernel
theorem dX12_mostOf_20 : decode cX12_mostOf 20 = .ok (.iaload, 1) := by decide +kernel
theorem dX12_mostOf_21 : decode cX12_mostOf 21 = .ok (.iload_n 1, 1) := by decide +kernel
theorem dX12_mostOf_22 : decode cX12_mostOf 22 = .ok (.if_icmp .ne 14, 3) := by decide +kernel
theorem dX12_mostOf_25 : decode cX12_mostOf 25 = .ok (.aload_n 0, 1) := by decide +kernel
theorem dX12_mostOf_26 : decode cX12_mostOf 26 = .ok (.getfield 143, 3) := by decide +kernel
theorem dX12_mostOf_29 : decode cX12_mostOf 29 = .ok (.iload 4, 2) := by decide +kernel
theorem dX12_mostOf_31 : decode cX12_mostOf 31 = .ok (.iaload, 1) := by decide +kernel
theorem dX12_mostOf_32 : decode cX12_mostOf 32 = .ok (.iload_n 2, 1) := by decide +kernel
theorem dX12_mostOf_33 : decode cX12_mostOf 33 = .ok (.if_icmp .eq 25, 3) := by decide +kernel
theorem dX12_mostOf_36 : decode cX12_mostOf 36 = .ok (.aload_n 0, 1) := by decide +kernel
theorem dX12_mostOf_37 : decode cX12_mostOf 37 = .ok (.getfield 140, 3) := by decide +kernel
theorem dX12_mostOf_40 : decode cX12_mostOf 40 = .ok (.iload 4, 2) := by decide +kernel
theorem dX12_mostOf_42 : decode cX12_mostOf 42 = .ok (.iaload, 1) := by decide +kernel
theorem dX12_mostOf_43 : decode cX12_mostOf 43 = .ok (.iload_n 2, 1) := by decide +kernel
theorem dX12_mostOf_44 : decode cX12_mostOf 44 = .ok (.if_icmp .ne 18, 3) := by decide +kernel
theorem dX12_mostOf_47 : decode cX12_mostOf 47 = .ok (.aload_n 0, 1) := by decide +kernel
theorem dX12_mostOf_48 : decode cX12_mostOf 48 = .ok (.getfield 143, 3) := by decide +kernel
theorem dX12_mostOf_51 : decode cX12_mostOf 51 = .ok (.iload 4, 2) := by decide +kernel
theorem dX12_mostOf_53 : decode cX12_mostOf 53 = .ok (.iaload, 1) := by decide +kernel
theorem dX12_mostOf_54 : decode cX12_mostOf 54 = .ok (.iload_n 1, 1) := by decide +kernel
theorem dX12_mostOf_55 : decode cX12_mostOf 55 = .ok (.if_icmp .ne 7, 3) := by decide +kernel
theorem dX12_mostOf_58 : decode cX12_mostOf 58 = .ok (.iconst 1, 1) := by decide +kernel
theorem dX12_mostOf_59 : decode cX12_mostOf 59 = .ok (.goto 4, 3) := by decide +kernel
theorem dX12_mostOf_62 : decode cX12_mostOf 62 = .ok (.iconst 0, 1) := by decide +kernel
theorem dX12_mostOf_63 : decode cX12_mostOf 63 = .ok (.istore 5, 2) := by decide +kernel
theorem dX12_mostOf_65 : decode cX12_mostOf 65 = .ok (.iload 5, 2) := by decide +kernel
theorem dX12_mostOf_67 : decode cX12_mostOf 67 = .ok (.ifCond .eq 22, 3) := by decide +kernel
theorem dX12_mostOf_70 : decode cX12_mostOf 70 = .ok (.aload_n 0, 1) := by decide +kernel
theorem dX12_mostOf_71 : decode cX12_mostOf 71 = .ok (.getfield 146, 3) := by decide +kernel
theorem dX12_mostOf_74 : decode cX12_mostOf 74 = .ok (.iload 4, 2) := by decide +kernel
theorem dX12_mostOf_76 : decode cX12_mostOf 76 = .ok (.iaload, 1) := by decide +kernel
theorem dX12_mostOf_77 : decode cX12_mostOf 77 = .ok (.iload_n 3, 1) := by decide +kernel
theorem dX12_mostOf_78 : decode cX12_mostOf 78 = .ok (.if_icmp .le 11, 3) := by decide +kernel
theorem dX12_mostOf_81 : decode cX12_mostOf 81 = .ok (.aload_n 0, 1) := by decide +kernel
theorem dX12_mostOf_82 : decode cX12_mostOf 82 = .ok (.getfield 146, 3) := by decide +kernel
theorem dX12_mostOf_85 : decode cX12_mostOf 85 = .ok (.iload 4, 2) := by decide +kernel
theorem dX12_mostOf_87 : decode cX12_mostOf 87 = .ok (.iaload, 1) := by decide +kernel
theorem dX12_mostOf_88 : decode cX12_mostOf 88 = .ok (.istore_n 3, 1) := by decide +kernel
theorem dX12_mostOf_89 : decode cX12_mostOf 89 = .ok (.iinc 4 1, 3) := by decide +kernel
theorem dX12_mostOf_92 : decode cX12_mostOf 92 = .ok (.goto (-87), 3) := by decide +kernel
theorem dX12_mostOf_95 : decode cX12_mostOf 95 = .ok (.iconst 1, 1) := by decide +kernel
theorem dX12_mostOf_96 : decode cX12_mostOf 96 = .ok (.istore 4, 2) := by decide +kernel
theorem dX12_mostOf_98 : decode cX12_mostOf 98 = .ok (.iload 4, 2) := by decide +kernel
theorem dX12_mostOf_100 : decode cX12_mostOf 100 = .ok (.iload_n 1, 1) := by decide +kernel
theorem dX12_mostOf_101 : decode cX12_mostOf 101 = .ok (.iconst 2, 1) := by decide +kernel
theorem dX12_mostOf_102 : decode cX12_mostOf 102 = .ok (.idiv, 1) := by decide +kernel
theorem dX12_mostOf_103 : decode cX12_mostOf 103 = .ok (.if_icmp .gt 47, 3) := by decide +kernel
theorem dX12_mostOf_106 : decode cX12_mostOf 106 = .ok (.aload_n 0, 1) := by decide +kernel
theorem dX12_mostOf_107 : decode cX12_mostOf 107 = .ok (.getfield 149, 3) := by decide +kernel
theorem dX12_mostOf_110 : decode cX12_mostOf 110 = .ok (.bipush 41, 2) := by decide +kernel
theorem dX12_mostOf_112 : decode cX12_mostOf 112 = .ok (.iload 4, 2) := by decide +kernel
theorem dX12_mostOf_114 : decode cX12_mostOf 114 = .ok (.imul, 1) := by decide +kernel
theorem dX12_mostOf_115 : decode cX12_mostOf 115 = .ok (.iload_n 2, 1) := by decide +kernel
theorem dX12_mostOf_116 : decode cX12_mostOf 116 = .ok (.iadd, 1) := by decide +kernel
theorem dX12_mostOf_117 : decode cX12_mostOf 117 = .ok (.iaload, 1) := by decide +kernel
theorem dX12_mostOf_118 : decode cX12_mostOf 118 = .ok (.aload_n 0, 1) := by decide +kernel
theorem dX12_mostOf_119 : decode cX12_mostOf 119 = .ok (.getfield 149, 3) := by decide +kernel
theorem dX12_mostOf_122 : decode cX12_mostOf 122 = .ok (.bipush 41, 2) := by decide +kernel
theorem dX12_mostOf_124 : decode cX12_mostOf 124 = .ok (.iload_n 1, 1) := by decide +kernel
theorem dX12_mostOf_125 : decode cX12_mostOf 125 = .ok (.iload 4, 2) := by decide +kernel
theorem dX12_mostOf_127 : decode cX12_mostOf 127 = .ok (.isub, 1) := by decide +kernel
theorem dX12_mostOf_128 : decode cX12_mostOf 128 = .ok (.imul, 1) := by decide +kernel
theorem dX12_mostOf_129 : decode cX12_mostOf 129 = .ok (.iload_n 2, 1) := by decide +kernel
theorem dX12_mostOf_130 : decode cX12_mostOf 130 = .ok (.iadd, 1) := by decide +kernel
theorem dX12_mostOf_131 : decode cX12_mostOf 131 = .ok (.iaload, 1) := by decide +kernel
theorem dX12_mostOf_132 : decode cX12_mostOf 132 = .ok (.iadd, 1) := by decide +kernel
theorem dX12_mostOf_133 : decode cX12_mostOf 133 = .ok (.istore 5, 2) := by decide +kernel
theorem dX12_mostOf_135 : decode cX12_mostOf 135 = .ok (.iload 5, 2) := by decide +kernel
theorem dX12_mostOf_137 : decode cX12_mostOf 137 = .ok (.iload_n 3, 1) := by decide +kernel
theorem dX12_mostOf_138 : decode cX12_mostOf 138 = .ok (.if_icmp .le 6, 3) := by decide +kernel
theorem dX12_mostOf_141 : decode cX12_mostOf 141 = .ok (.iload 5, 2) := by decide +kernel
theorem dX12_mostOf_143 : decode cX12_mostOf 143 = .ok (.istore_n 3, 1) := by decide +kernel
theorem dX12_mostOf_144 : decode cX12_mostOf 144 = .ok (.iinc 4 1, 3) := by decide +kernel
theorem dX12_mostOf_147 : decode cX12_mostOf 147 = .ok (.goto (-49), 3) := by decide +kernel
theorem dX12_mostOf_150 : decode cX12_mostOf 150 = .ok (.iconst 1, 1) := by decide +kernel
theorem dX12_mostOf_151 : decode cX12_mostOf 151 = .ok (.istore 4, 2) := by decide +kernel
theorem dX12_mostOf_153 : decode cX12_mostOf 153 = .ok (.iload 4, 2) := by decide +kernel
theorem dX12_mostOf_155 : decode cX12_mostOf 155 = .ok (.iload_n 2, 1) := by decide +kernel
theorem dX12_mostOf_156 : decode cX12_mostOf 156 = .ok (.iconst 2, 1) := by decide +kernel
theorem dX12_mostOf_157 : decode cX12_mostOf 157 = .ok (.idiv, 1) := by decide +kernel
theorem dX12_mostOf_158 : decode cX12_mostOf 158 = .ok (.if_icmp .gt 47, 3) := by decide +kernel
theorem dX12_mostOf_161 : decode cX12_mostOf 161 = .ok (.aload_n 0, 1) := by decide +kernel
theorem dX12_mostOf_162 : decode cX12_mostOf 162 = .ok (.getfield 149, 3) := by decide +kernel
theorem dX12_mostOf_165 : decode cX12_mostOf 165 = .ok (.bipush 41, 2) := by decide +kernel
theorem dX12_mostOf_167 : decode cX12_mostOf 167 = .ok (.iload_n 1, 1) := by decide +kernel
theorem dX12_mostOf_168 : decode cX12_mostOf 168 = .ok (.imul, 1) := by decide +kernel
theorem dX12_mostOf_169 : decode cX12_mostOf 169 = .ok (.iload 4, 2) := by decide +kernel
theorem dX12_mostOf_171 : decode cX12_mostOf 171 = .ok (.iadd, 1) := by decide +kernel
theorem dX12_mostOf_172 : decode cX12_mostOf 172 = .ok (.iaload, 1) := by decide +kernel
theorem dX12_mostOf_173 : decode cX12_mostOf 173 = .ok (.aload_n 0, 1) := by decide +kernel
theorem dX12_mostOf_174 : decode cX12_mostOf 174 = .ok (.getfield 149, 3) := by decide +kernel
theorem dX12_mostOf_177 : decode cX12_mostOf 177 = .ok (.bipush 41, 2) := by decide +kernel
theorem dX12_mostOf_179 : decode cX12_mostOf 179 = .ok (.iload_n 1, 1) := by decide +kernel
theorem dX12_mostOf_180 : decode cX12_mostOf 180 = .ok (.imul, 1) := by decide +kernel
theorem dX12_mostOf_181 : decode cX12_mostOf 181 = .ok (.iload_n 2, 1) := by decide +kernel
theorem dX12_mostOf_182 : decode cX12_mostOf 182 = .ok (.iadd, 1) := by decide +kernel
theorem dX12_mostOf_183 : decode cX12_mostOf 183 = .ok (.iload 4, 2) := by decide +kernel
theorem dX12_mostOf_185 : decode cX12_mostOf 185 = .ok (.isub, 1) := by decide +kernel
theorem dX12_mostOf_186 : decode cX12_mostOf 186 = .ok (.iaload, 1) := by decide +kernel
theorem dX12_mostOf_187 : decode cX12_mostOf 187 = .ok (.iadd, 1) := by decide +kernel
theorem dX12_mostOf_188 : decode cX12_mostOf 188 = .ok (.istore 5, 2) := by decide +kernel
theorem dX12_mostOf_190 : decode cX12_mostOf 190 = .ok (.iload 5, 2) := by decide +kernel
theorem dX12_mostOf_192 : decode cX12_mostOf 192 = .ok (.iload_n 3, 1) := by decide +kernel
theorem dX12_mostOf_193 : decode cX12_mostOf 193 = .ok (.if_icmp .le 6, 3) := by decide +kernel
theorem dX12_mostOf_196 : decode cX12_mostOf 196 = .ok (.iload 5, 2) := by decide +kernel
theorem dX12_mostOf_198 : decode cX12_mostOf 198 = .ok (.istore_n 3, 1) := by decide +kernel
theorem dX12_mostOf_199 : decode cX12_mostOf 199 = .ok (.iinc 4 1, 3) := by decide +kernel
theorem dX12_mostOf_202 : decode cX12_mostOf 202 = .ok (.goto (-49), 3) := by decide +kernel
theorem dX12_mostOf_205 : decode cX12_mostOf 205 = .ok (.iload_n 3, 1) := by decide +kernel
theorem dX12_mostOf_206 : decode cX12_mostOf 206 = .ok (.ireturn, 1) := by decide +kernel
theorem dX12_fill_0 : decode cX12_fill 0 = .ok (.aload_n 0, 1) := by decide +kernel
theorem dX12_fill_1 : decode cX12_fill 1 = .ok (.iconst 0, 1) := by decide +kernel
theorem dX12_fill_2 : decode cX12_fill 2 = .ok (.putfield 167, 3) := by decide +kernel
theorem dX12_fill_5 : decode cX12_fill 5 = .ok (.aload_n 0, 1) := by decide +kernel
theorem dX12_fill_6 : decode cX12_fill 6 = .ok (.iload_n 1, 1) := by decide +kernel
theorem dX12_fill_7 : decode cX12_fill 7 = .ok (.iconst 0, 1) := by decide +kernel
theorem dX12_fill_8 : decode cX12_fill 8 = .ok (.bipush 40, 2) := by decide +kernel
theorem dX12_fill_10 : decode cX12_fill 10 = .ok (.invokevirtual 170, 3) := by decide +kernel
theorem dX12_fill_13 : decode cX12_fill 13 = .ok (.ifCond .eq 14, 3) := by decide +kernel
theorem dX12_fill_16 : decode cX12_fill 16 = .ok (.aload_n 0, 1) := by decide +kernel
theorem dX12_fill_17 : decode cX12_fill 17 = .ok (.iload_n 2, 1) := by decide +kernel
theorem dX12_fill_18 : decode cX12_fill 18 = .ok (.iconst 0, 1) := by decide +kernel
theorem dX12_fill_19 : decode cX12_fill 19 = .ok (.bipush 40, 2) := by decide +kernel
theorem dX12_fill_21 : decode cX12_fill 21 = .ok (.invokevirtual 170, 3) := by decide +kernel
theorem dX12_fill_24 : decode cX12_fill 24 = .ok (.ifCond .ne 5, 3) := by decide +kernel
theorem dX12_fill_27 : decode cX12_fill 27 = .ok (.iconst (-1), 1) := by decide +kernel
theorem dX12_fill_28 : decode cX12_fill 28 = .ok (.ireturn, 1) := by decide +kernel
theorem dX12_fill_29 : decode cX12_fill 29 = .ok (.iload_n 1, 1) := by decide +kernel
theorem dX12_fill_30 : decode cX12_fill 30 = .ok (.ifCond .eq 7, 3) := by decide +kernel
theorem dX12_fill_33 : decode cX12_fill 33 = .ok (.iload_n 2, 1) := by decide +kernel
theorem dX12_fill_34 : decode cX12_fill 34 = .ok (.ifCond .ne 5, 3) := by decide +kernel
theorem dX12_fill_37 : decode cX12_fill 37 = .ok (.iconst 0, 1) := by decide +kernel
theorem dX12_fill_38 : decode cX12_fill 38 = .ok (.ireturn, 1) := by decide +kernel
theorem dX12_fill_39 : decode cX12_fill 39 = .ok (.iconst 1, 1) := by decide +kernel
theorem dX12_fill_40 : decode cX12_fill 40 = .ok (.istore_n 3, 1) := by decide +kernel
theorem dX12_fill_41 : decode cX12_fill 41 = .ok (.iload_n 3, 1) := by decide +kernel
theorem dX12_fill_42 : decode cX12_fill 42 = .ok (.iload_n 1, 1) := by decide +kernel
theorem dX12_fill_43 : decode cX12_fill 43 = .ok (.if_icmp .gt 43, 3) := by decide +kernel
theorem dX12_fill_46 : decode cX12_fill 46 = .ok (.iconst 1, 1) := by decide +kernel
theorem dX12_fill_47 : decode cX12_fill 47 = .ok (.istore 4, 2) := by decide +kernel
theorem dX12_fill_49 : decode cX12_fill 49 = .ok (.iload 4, 2) := by decide +kernel
theorem dX12_fill_51 : decode cX12_fill 51 = .ok (.iload_n 2, 1) := by decide +kernel
theorem dX12_fill_52 : decode cX12_fill 52 = .ok (.if_icmp .gt 28, 3) := by decide +kernel
theorem dX12_fill_55 : decode cX12_fill 55 = .ok (.aload_n 0, 1) := by decide +kernel
theorem dX12_fill_56 : decode cX12_fill 56 = .ok (.getfield 149, 3) := by decide +kernel
theorem dX12_fill_59 : decode cX12_fill 59 = .ok (.bipush 41, 2) := by decide +kernel
theorem dX12_fill_61 : decode cX12_fill 61 = .ok (.iload_n 3, 1) := by decide +kernel
theorem dX12_fill_62 : decode cX12_fill 62 = .ok (.imul, 1) := by decide +kernel
theorem dX12_fill_63 : decode cX12_fill 63 = .ok (.iload 4, 2) := by decide +kernel
theorem dX12_fill_65 : decode cX12_fill 65 = .ok (.iadd, 1) := by decide +kernel
theorem dX12_fill_66 : decode cX12_fill 66 = .ok (.aload_n 0, 1) := by decide +kernel
theorem dX12_fill_67 : decode cX12_fill 67 = .ok (.iload_n 3, 1) := by decide +kernel
theorem dX12_fill_68 : decode cX12_fill 68 = .ok (.iload 4, 2) := by decide +kernel
theorem dX12_fill_70 : decode cX12_fill 70 = .ok (.invokevirtual 398, 3) := by decide +kernel
theorem dX12_fill_73 : decode cX12_fill 73 = .ok (.iastore, 1) := by decide +kernel
theorem dX12_fill_74 : decode cX12_fill 74 = .ok (.iinc 4 1, 3) := by decide +kernel
theorem dX12_fill_77 : decode cX12_fill 77 = .ok (.goto (-28), 3) := by decide +kernel
theorem dX12_fill_80 : decode cX12_fill 80 = .ok (.iinc 3 1, 3) := by decide +kernel
theorem dX12_fill_83 : decode cX12_fill 83 = .ok (.goto (-42), 3) := by decide +kernel
theorem dX12_fill_86 : decode cX12_fill 86 = .ok (.aload_n 0, 1) := by decide +kernel
theorem dX12_fill_87 : decode cX12_fill 87 = .ok (.getfield 149, 3) := by decide +kernel
theorem dX12_fill_90 : decode cX12_fill 90 = .ok (.bipush 41, 2) := by decide +kernel
theorem dX12_fill_92 : decode cX12_fill 92 = .ok (.iload_n 1, 1) := by decide +kernel
theorem dX12_fill_93 : decode cX12_fill 93 = .ok (.imul, 1) := by decide +kernel
theorem dX12_fill_94 : decode cX12_fill 94 = .ok (.iload_n 2, 1) := by decide +kernel
theorem dX12_fill_95 : decode cX12_fill 95 = .ok (.iadd, 1) := by decide +kernel
theorem dX12_fill_96 : decode cX12_fill 96 = .ok (.iaload, 1) := by decide +kernel
theorem dX12_fill_97 : decode cX12_fill 97 = .ok (.ireturn, 1) := by decide +kernel
theorem dX12_test_0 : decode cX12_test 0 = .ok (.aload_n 0, 1) := by decide +kernel
theorem dX12_test_1 : decode cX12_test 1 = .ok (.iconst 0, 1) := by decide +kernel
theorem dX12_test_2 : decode cX12_test 2 = .ok (.putfield 167, 3) := by decide +kernel
theorem dX12_test_5 : decode cX12_test 5 = .ok (.aload_n 0, 1) := by decide +kernel
theorem dX12_test_6 : decode cX12_test 6 = .ok (.iload_n 1, 1) := by decide +kernel
theorem dX12_test_7 : decode cX12_test 7 = .ok (.iconst 0, 1) := by decide +kernel
theorem dX12_test_8 : decode cX12_test 8 = .ok (.iconst 3, 1) := by decide +kernel
theorem dX12_test_9 : decode cX12_test 9 = .ok (.invokevirtual 170, 3) := by decide +kernel
theorem dX12_test_12 : decode cX12_test 12 = .ok (.ifCond .eq 59, 3) := by decide +kernel
theorem dX12_test_15 : decode cX12_test 15 = .ok (.aload_n 0, 1) := by decide +kernel
theorem dX12_test_16 : decode cX12_test 16 = .ok (.iload_n 2, 1) := by decide +kernel
theorem dX12_test_17 : decode cX12_test 17 = .ok (.iconst 1, 1) := by decide +kernel
theorem dX12_test_18 : decode cX12_test 18 = .ok (.sipush 9999, 3) := by decide +kernel
theorem dX12_test_21 : decode cX12_test 21 = .ok (.invokevirtual 170, 3) := by decide +kernel
theorem dX12_test_24 : decode cX12_test 24 = .ok (.ifCond .eq 47, 3) := by decide +kernel
theorem dX12_test_27 : decode cX12_test 27 = .ok (.aload_n 0, 1) := by decide +kernel
theorem dX12_test_28 : decode cX12_test 28 = .ok (.iload 4, 2) := by decide +kernel
theorem dX12_test_30 : decode cX12_test 30 = .ok (.aload_n 0, 1) := by decide +kernel
theorem dX12_test_31 : decode cX12_test 31 = .ok (.getfield 401, 3) := by decide +kernel
theorem dX12_test_34 : decode cX12_test 34 = .ok (.ifCond .ne 7, 3) := by decide +kernel
theorem dX12_test_37 : decode cX12_test 37 = .ok (.iconst 0, 1) := by decide +kernel
theorem dX12_test_38 : decode cX12_test 38 = .ok (.goto 14, 3) := by decide +kernel
theorem dX12_test_41 : decode cX12_test 41 = .ok (.aload_n 0, 1) := by decide +kernel
theorem dX12_test_42 : decode cX12_test 42 = .ok (.getfield 161, 3) := by decide +kernel
theorem dX12_test_45 : decode cX12_test 45 = .ok (.aload_n 0, 1) := by decide +kernel
theorem dX12_test_46 : decode cX12_test 46 = .ok (.getfield 401, 3) := by decide +kernel
theorem dX12_test_49 : decode cX12_test 49 = .ok (.iconst 1, 1) := by decide +kernel
theorem dX12_test_50 : decode cX12_test 50 = .ok (.isub, 1) := by decide +kernel
theorem dX12_test_51 : decode cX12_test 51 = .ok (.iaload, 1) := by decide +kernel
theorem dX12_test_52 : decode cX12_test 52 = .ok (.sipush 999, 3) := by decide +kernel
theorem dX12_test_55 : decode cX12_test 55 = .ok (.invokevirtual 170, 3) := by decide +kernel
theorem dX12_test_58 : decode cX12_test 58 = .ok (.ifCond .eq 13, 3) := by decide +kernel
theorem dX12_test_61 : decode cX12_test 61 = .ok (.aload_n 0, 1) := by decide +kernel
theorem dX12_test_62 : decode cX12_test 62 = .ok (.getfield 401, 3) := by decide +kernel
theorem dX12_test_65 : decode cX12_test 65 = .ok (.sipush 200, 3) := by decide +kernel
theorem dX12_test_68 : decode cX12_test 68 = .ok (.if_icmp .ne 5, 3) := by decide +kernel
theorem dX12_test_71 : decode cX12_test 71 = .ok (.iconst 0, 1) := by decide +kernel
theorem dX12_test_72 : decode cX12_test 72 = .ok (.ireturn, 1) := by decide +kernel
theorem dX12_test_73 : decode cX12_test 73 = .ok (.aload_n 0, 1) := by decide +kernel
theorem dX12_test_74 : decode cX12_test 74 = .ok (.getfield 152, 3) := by decide +kernel
theorem dX12_test_77 : decode cX12_test 77 = .ok (.aload_n 0, 1) := by decide +kernel
theorem dX12_test_78 : decode cX12_test 78 = .ok (.getfield 401, 3) := by decide +kernel
theorem dX12_test_81 : decode cX12_test 81 = .ok (.iload_n 1, 1) := by decide +kernel
theorem dX12_test_82 : decode cX12_test 82 = .ok (.iastore, 1) := by decide +kernel
theorem dX12_test_83 : decode cX12_test 83 = .ok (.aload_n 0, 1) := by decide +kernel
theorem dX12_test_84 : decode cX12_test 84 = .ok (.getfield 155, 3) := by decide +kernel
theorem dX12_test_87 : decode cX12_test 87 = .ok (.aload_n 0, 1) := by decide +kernel
theorem dX12_test_88 : decode cX12_test 88 = .ok (.getfield 401, 3) := by decide +kernel
theorem dX12_test_91 : decode cX12_test 91 = .ok (.iload_n 2, 1) := by decide +kernel
theorem dX12_test_92 : decode cX12_test 92 = .ok (.iastore, 1) := by decide +kernel
theorem dX12_test_93 : decode cX12_test 93 = .ok (.aload_n 0, 1) := by decide +kernel
theorem dX12_test_94 : decode cX12_test 94 = .ok (.getfield 158, 3) := by decide +kernel
theorem dX12_test_97 : decode cX12_test 97 = .ok (.aload_n 0, 1) := by decide +kernel
theorem dX12_test_98 : decode cX12_test 98 = .ok (.getfield 401, 3) := by decide +kernel
theorem dX12_test_101 : decode cX12_test 101 = .ok (.iload_n 3, 1) := by decide +kernel
theorem dX12_test_102 : decode cX12_test 102 = .ok (.bastore, 1) := by decide +kernel
theorem dX12_test_103 : decode cX12_test 103 = .ok (.aload_n 0, 1) := by decide +kernel
theorem dX12_test_104 : decode cX12_test 104 = .ok (.getfield 161, 3) := by decide +kernel
theorem dX12_test_107 : decode cX12_test 107 = .ok (.aload_n 0, 1) := by decide +kernel
theorem dX12_test_108 : decode cX12_test 108 = .ok (.getfield 401, 3) := by decide +kernel
theorem dX12_test_111 : decode cX12_test 111 = .ok (.iload 4, 2) := by decide +kernel
theorem dX12_test_113 : decode cX12_test 113 = .ok (.iastore, 1) := by decide +kernel
theorem dX12_test_114 : decode cX12_test 114 = .ok (.aload_n 0, 1) := by decide +kernel
theorem dX12_test_115 : decode cX12_test 115 = .ok (.aload_n 0, 1) := by decide +kernel
theorem dX12_test_116 : decode cX12_test 116 = .ok (.getfield 401, 3) := by decide +kernel
theorem dX12_test_119 : decode cX12_test 119 = .ok (.iconst 1, 1) := by decide +kernel
theorem dX12_test_120 : decode cX12_test 120 = .ok (.iadd, 1) := by decide +kernel
theorem dX12_test_121 : decode cX12_test 121 = .ok (.putfield 401, 3) := by decide +kernel
theorem dX12_test_124 : decode cX12_test 124 = .ok (.iconst 1, 1) := by decide +kernel
theorem dX12_test_125 : decode cX12_test 125 = .ok (.ireturn, 1) := by decide +kernel
theorem dX12_known_0 : decode cX12_known 0 = .ok (.aload_n 0, 1) := by decide +kernel
theorem dX12_known_1 : decode cX12_known 1 = .ok (.iconst 0, 1) := by decide +kernel
theorem dX12_known_2 : decode cX12_known 2 = .ok (.putfield 167, 3) := by decide +kernel
theorem dX12_known_5 : decode cX12_known 5 = .ok (.aload_n 0, 1) := by decide +kernel
theorem dX12_known_6 : decode cX12_known 6 = .ok (.iload_n 1, 1) := by decide +kernel
theorem dX12_known_7 : decode cX12_known 7 = .ok (.iconst 0, 1) := by decide +kernel
theorem dX12_known_8 : decode cX12_known 8 = .ok (.iconst 3, 1) := by decide +kernel
theorem dX12_known_9 : decode cX12_known 9 = .ok (.invokevirtual 170, 3) := by decide +kernel
theorem dX12_known_12 : decode cX12_known 12 = .ok (.ifCond .eq 25, 3) := by decide +kernel
theorem dX12_known_15 : decode cX12_known 15 = .ok (.aload_n 0, 1) := by decide +kernel
theorem dX12_known_16 : decode cX12_known 16 = .ok (.iload_n 2, 1) := by decide +kernel
theorem dX12_known_17 : decode cX12_known 17 = .ok (.iconst 0, 1) := by decide +kernel
theorem dX12_known_18 : decode cX12_known 18 = .ok (.sipush 999, 3) := by decide +kernel
theorem dX12_known_21 : decode cX12_known 21 = .ok (.invokevirtual 170, 3) := by decide +kernel
theorem dX12_known_24 : decode cX12_known 24 = .ok (.ifCond .eq 13, 3) := by decide +kernel
theorem dX12_known_27 : decode cX12_known 27 = .ok (.aload_n 0, 1) := by decide +kernel
theorem dX12_known_28 : decode cX12_known 28 = .ok (.iload_n 3, 1) := by decide +kernel
theorem dX12_known_29 : decode cX12_known 29 = .ok (.iconst 0, 1) := by decide +kernel
theorem dX12_known_30 : decode cX12_known 30 = .ok (.iconst 3, 1) := by decide +kernel
theorem dX12_known_31 : decode cX12_known 31 = .ok (.invokevirtual 170, 3) := by decide +kernel
theorem dX12_known_34 : decode cX12_known 34 = .ok (.ifCond .ne 5, 3) := by decide +kernel
theorem dX12_known_37 : decode cX12_known 37 = .ok (.iconst (-1), 1) := by decide +kernel
theorem dX12_known_38 : decode cX12_known 38 = .ok (.ireturn, 1) := by decide +kernel
theorem dX12_known_39 : decode cX12_known 39 = .ok (.iconst 1, 1) := by decide +kernel
theorem dX12_known_40 : decode cX12_known 40 = .ok (.istore 4, 2) := by decide +kernel
theorem dX12_known_42 : decode cX12_known 42 = .ok (.sipush 999, 3) := by decide +kernel
theorem dX12_known_45 : decode cX12_known 45 = .ok (.istore 5, 2) := by decide +kernel
theorem dX12_known_47 : decode cX12_known 47 = .ok (.iconst 0, 1) := by decide +kernel
theorem dX12_known_48 : decode cX12_known 48 = .ok (.istore 6, 2) := by decide +kernel
theorem dX12_known_50 : decode cX12_known 50 = .ok (.iload 6, 2) := by decide +kernel
theorem dX12_known_52 : decode cX12_known 52 = .ok (.aload_n 0, 1) := by decide +kernel
theorem dX12_known_53 : decode cX12_known 53 = .ok (.getfield 401, 3) := by decide +kernel
theorem dX12_known_56 : decode cX12_known 56 = .ok (.if_icmp .ge 98, 3) := by decide +kernel
theorem dX12_known_59 : decode cX12_known 59 = .ok (.aload_n 0, 1) := by decide +kernel
theorem dX12_known_60 : decode cX12_known 60 = .ok (.getfield 152, 3) := by decide +kernel
theorem dX12_known_63 : decode cX12_known 63 = .ok (.iload 6, 2) := by decide +kernel
theorem dX12_known_65 : decode cX12_known 65 = .ok (.iaload, 1) := by decide +kernel
theorem dX12_known_66 : decode cX12_known 66 = .ok (.iload_n 1, 1) := by decide +kernel
theorem dX12_known_67 : decode cX12_known 67 = .ok (.if_icmp .ne 81, 3) := by decide +kernel
theorem dX12_known_70 : decode cX12_known 70 = .ok (.aload_n 0, 1) := by decide +kernel
theorem dX12_known_71 : decode cX12_known 71 = .ok (.getfield 161, 3) := by decide +kernel
theorem dX12_known_74 : decode cX12_known 74 = .ok (.iload 6, 2) := by decide +kernel
theorem dX12_known_76 : decode cX12_known 76 = .ok (.iaload, 1) := by decide +kernel
theorem dX12_known_77 : decode cX12_known 77 = .ok (.iload_n 2, 1) := by decide +kernel
theorem dX12_known_78 : decode cX12_known 78 = .ok (.if_icmp .le 6, 3) := by decide +kernel
theorem dX12_known_81 : decode cX12_known 81 = .ok (.goto 67, 3) := by decide +kernel
theorem dX12_known_84 : decode cX12_known 84 = .ok (.aload_n 0, 1) := by decide +kernel
theorem dX12_known_85 : decode cX12_known 85 = .ok (.getfield 158, 3) := by decide +kernel
theorem dX12_known_88 : decode cX12_known 88 = .ok (.iload 6, 2) := by decide +kernel
theorem dX12_known_90 : decode cX12_known 90 = .ok (.baload, 1) := by decide +kernel
theorem dX12_known_91 : decode cX12_known 91 = .ok (.ifCond .eq 24, 3) := by decide +kernel
theorem dX12_known_94 : decode cX12_known 94 = .ok (.aload_n 0, 1) := by decide +kernel
theorem dX12_known_95 : decode cX12_known 95 = .ok (.getfield 155, 3) := by decide +kernel
theorem dX12_known_98 : decode cX12_known 98 = .ok (.iload 6, 2) := by decide +kernel
theorem dX12_known_100 : decode cX12_known 100 = .ok (.iaload, 1) := by decide +kernel
theorem dX12_known_101 : decode cX12_known 101 = .ok (.iload 5, 2) := by decide +kernel
theorem dX12_known_103 : decode cX12_known 103 = .ok (.if_icmp .ge 12, 3) := by decide +kernel
theorem dX12_known_106 : decode cX12_known 106 = .ok (.aload_n 0, 1) := by decide +kernel
theorem dX12_known_107 : decode cX12_known 107 = .ok (.getfield 155, 3) := by decide +kernel
theorem dX12_known_110 : decode cX12_known 110 = .ok (.iload 6, 2) := by decide +kernel
theorem dX12_known_112 : decode cX12_known 112 = .ok (.iaload, 1) := by decide +kernel
theorem dX12_known_113 : decode cX12_known 113 = .ok (.istore 5, 2) := by decide +kernel
theorem dX12_known_115 : decode cX12_known 115 = .ok (.aload_n 0, 1) := by decide +kernel
theorem dX12_known_116 : decode cX12_known 116 = .ok (.getfield 158, 3) := by decide +kernel
theorem dX12_known_119 : decode cX12_known 119 = .ok (.iload 6, 2) := by decide +kernel
theorem dX12_known_121 : decode cX12_known 121 = .ok (.baload, 1) := by decide +kernel
theorem dX12_known_122 : decode cX12_known 122 = .ok (.ifCond .ne 26, 3) := by decide +kernel
theorem dX12_known_125 : decode cX12_known 125 = .ok (.aload_n 0, 1) := by decide +kernel
theorem dX12_known_126 : decode cX12_known 126 = .ok (.getfield 155, 3) := by decide +kernel
theorem dX12_known_129 : decode cX12_known 129 = .ok (.iload 6, 2) := by decide +kernel
theorem dX12_known_131 : decode cX12_known 131 = .ok (.iaload, 1) := by decide +kernel
theorem dX12_known_132 : decode cX12_known 132 = .ok (.iload 4, 2) := by decide +kernel
theorem dX12_known_134 : decode cX12_known 134 = .ok (.if_icmp .lt 14, 3) := by decide +kernel
theorem dX12_known_137 : decode cX12_known 137 = .ok (.aload_n 0, 1) := by decide +kernel
theorem dX12_known_138 : decode cX12_known 138 = .ok (.getfield 155, 3) := by decide +kernel
theorem dX12_known_141 : decode cX12_known 141 = .ok (.iload 6, 2) := by decide +kernel
theorem dX12_known_143 : decode cX12_known 143 = .ok (.iaload, 1) := by decide +kernel
theorem dX12_known_144 : decode cX12_known 144 = .ok (.iconst 1, 1) := by decide +kernel
theorem dX12_known_145 : decode cX12_known 145 = .ok (.iadd, 1) := by decide +kernel
theorem dX12_known_146 : decode cX12_known 146 = .ok (.istore 4, 2) := by decide +kernel
theorem dX12_known_148 : decode cX12_known 148 = .ok (.iinc 6 1, 3) := by decide +kernel
theorem dX12_known_151 : decode cX12_known 151 = .ok (.goto (-101), 3) := by decide +kernel
theorem dX12_known_154 : decode cX12_known 154 = .ok (.iload_n 3, 1) := by decide +kernel
theorem dX12_known_155 : decode cX12_known 155 = .ok (.ifCond .ne 6, 3) := by decide +kernel
theorem dX12_known_158 : decode cX12_known 158 = .ok (.iload 4, 2) := by decide +kernel
theorem dX12_known_160 : decode cX12_known 160 = .ok (.ireturn, 1) := by decide +kernel
theorem dX12_known_161 : decode cX12_known 161 = .ok (.iload_n 3, 1) := by decide +kernel
theorem dX12_known_162 : decode cX12_known 162 = .ok (.iconst 1, 1) := by decide +kernel
theorem dX12_known_163 : decode cX12_known 163 = .ok (.if_icmp .ne 6, 3) := by decide +kernel
theorem dX12_known_166 : decode cX12_known 166 = .ok (.iload 5, 2) := by decide +kernel
theorem dX12_known_168 : decode cX12_known 168 = .ok (.ireturn, 1) := by decide +kernel
theorem dX12_known_169 : decode cX12_known 169 = .ok (.iload_n 3, 1) := by decide +kernel
theorem dX12_known_170 : decode cX12_known 170 = .ok (.iconst 2, 1) := by decide +kernel
theorem dX12_known_171 : decode cX12_known 171 = .ok (.if_icmp .ne 16, 3) := by decide +kernel
theorem dX12_known_174 : decode cX12_known 174 = .ok (.iload 4, 2) := by decide +kernel
theorem dX12_known_176 : decode cX12_known 176 = .ok (.iload 5, 2) := by decide +kernel
theorem dX12_known_178 : decode cX12_known 178 = .ok (.if_icmp .le 7, 3) := by decide +kernel
theorem dX12_known_181 : decode cX12_known 181 = .ok (.iconst 1, 1) := by decide +kernel
theorem dX12_known_182 : decode cX12_known 182 = .ok (.goto 4, 3) := by decide +kernel
theorem dX12_known_185 : decode cX12_known 185 = .ok (.iconst 0, 1) := by decide +kernel
theorem dX12_known_186 : decode cX12_known 186 = .ok (.ireturn, 1) := by decide +kernel
theorem dX12_known_187 : decode cX12_known 187 = .ok (.iload 4, 2) := by decide +kernel
theorem dX12_known_189 : decode cX12_known 189 = .ok (.iload 5, 2) := by decide +kernel
theorem dX12_known_191 : decode cX12_known 191 = .ok (.if_icmp .ge 13, 3) := by decide +kernel
theorem dX12_known_194 : decode cX12_known 194 = .ok (.iload 4, 2) := by decide +kernel
theorem dX12_known_196 : decode cX12_known 196 = .ok (.iload 5, 2) := by decide +kernel
theorem dX12_known_198 : decode cX12_known 198 = .ok (.iadd, 1) := by decide +kernel
theorem dX12_known_199 : decode cX12_known 199 = .ok (.iconst 2, 1) := by decide +kernel
theorem dX12_known_200 : decode cX12_known 200 = .ok (.idiv, 1) := by decide +kernel
theorem dX12_known_201 : decode cX12_known 201 = .ok (.goto 4, 3) := by decide +kernel
theorem dX12_known_204 : decode cX12_known 204 = .ok (.iconst (-1), 1) := by decide +kernel
theorem dX12_known_205 : decode cX12_known 205 = .ok (.ireturn, 1) := by decide +kernel
theorem dX12_sparks_0 : decode cX12_sparks 0 = .ok (.aload_n 0, 1) := by decide +kernel
theorem dX12_sparks_1 : decode cX12_sparks 1 = .ok (.iconst 0, 1) := by decide +kernel
theorem dX12_sparks_2 : decode cX12_sparks 2 = .ok (.putfield 167, 3) := by decide +kernel
theorem dX12_sparks_5 : decode cX12_sparks 5 = .ok (.iconst 0, 1) := by decide +kernel
theorem dX12_sparks_6 : decode cX12_sparks 6 = .ok (.istore_n 1, 1) := by decide +kernel
theorem dX12_sparks_7 : decode cX12_sparks 7 = .ok (.iload_n 1, 1) := by decide +kernel
theorem dX12_sparks_8 : decode cX12_sparks 8 = .ok (.aload_n 0, 1) := by decide +kernel
theorem dX12_sparks_9 : decode cX12_sparks 9 = .ok (.getfield 239, 3) := by decide +kernel
theorem dX12_sparks_12 : decode cX12_sparks 12 = .ok (.if_icmp .ge 21, 3) := by decide +kernel
theorem dX12_sparks_15 : decode cX12_sparks 15 = .ok (.aload_n 0, 1) := by decide +kernel
theorem dX12_sparks_16 : decode cX12_sparks 16 = .ok (.getfield 164, 3) := by decide +kernel
theorem dX12_sparks_19 : decode cX12_sparks 19 = .ok (.iload_n 1, 1) := by decide +kernel
theorem dX12_sparks_20 : decode cX12_sparks 20 = .ok (.aload_n 0, 1) := by decide +kernel
theorem dX12_sparks_21 : decode cX12_sparks 21 = .ok (.getfield 95, 3) := by decide +kernel
theorem dX12_sparks_24 : decode cX12_sparks 24 = .ok (.iload_n 1, 1) := by decide +kernel
theorem dX12_sparks_25 : decode cX12_sparks 25 = .ok (.iaload, 1) := by decide +kernel
theorem dX12_sparks_26 : decode cX12_sparks 26 = .ok (.iastore, 1) := by decide +kernel
theorem dX12_sparks_27 : decode cX12_sparks 27 = .ok (.iinc 1 1, 3) := by decide +kernel
theorem dX12_sparks_30 : decode cX12_sparks 30 = .ok (.goto (-23), 3) := by decide +kernel
theorem dX12_sparks_33 : decode cX12_sparks 33 = .ok (.aload_n 0, 1) := by decide +kernel
theorem dX12_sparks_34 : decode cX12_sparks 34 = .ok (.aload_n 0, 1) := by decide +kernel
theorem dX12_sparks_35 : decode cX12_sparks 35 = .ok (.getfield 239, 3) := by decide +kernel
theorem dX12_sparks_38 : decode cX12_sparks 38 = .ok (.putfield 404, 3) := by decide +kernel
theorem dX12_sparks_41 : decode cX12_sparks 41 = .ok (.aload_n 0, 1) := by decide +kernel
theorem dX12_sparks_42 : decode cX12_sparks 42 = .ok (.iconst 0, 1) := by decide +kernel
theorem dX12_sparks_43 : decode cX12_sparks 43 = .ok (.putfield 239, 3) := by decide +kernel
theorem dX12_sparks_46 : decode cX12_sparks 46 = .ok (.aload_n 0, 1) := by decide +kernel
theorem dX12_sparks_47 : decode cX12_sparks 47 = .ok (.getfield 404, 3) := by decide +kernel
theorem dX12_sparks_50 : decode cX12_sparks 50 = .ok (.ireturn, 1) := by decide +kernel
theorem dX12_lost_0 : decode cX12_lost 0 = .ok (.aload_n 0, 1) := by decide +kernel
theorem dX12_lost_1 : decode cX12_lost 1 = .ok (.iconst 0, 1) := by decide +kernel
theorem dX12_lost_2 : decode cX12_lost 2 = .ok (.putfield 167, 3) := by decide +kernel
theorem dX12_lost_5 : decode cX12_lost 5 = .ok (.aload_n 0, 1) := by decide +kernel
theorem dX12_lost_6 : decode cX12_lost 6 = .ok (.iload_n 1, 1) := by decide +kernel
theorem dX12_lost_7 : decode cX12_lost 7 = .ok (.iconst 0, 1) := by decide +kernel
theorem dX12_lost_8 : decode cX12_lost 8 = .ok (.sipush 256, 3) := by decide +kernel
theorem dX12_lost_11 : decode cX12_lost 11 = .ok (.invokevirtual 170, 3) := by decide +kernel
theorem dX12_lost_14 : decode cX12_lost 14 = .ok (.ifCond .eq 14, 3) := by decide +kernel
theorem dX12_lost_17 : decode cX12_lost 17 = .ok (.aload_n 0, 1) := by decide +kernel
theorem dX12_lost_18 : decode cX12_lost 18 = .ok (.iload_n 2, 1) := by decide +kernel
theorem dX12_lost_19 : decode cX12_lost 19 = .ok (.iconst 1, 1) := by decide +kernel
theorem dX12_lost_20 : decode cX12_lost 20 = .ok (.bipush 99, 2) := by decide +kernel
theorem dX12_lost_22 : decode cX12_lost 22 = .ok (.invokevirtual 170, 3) := by decide +kernel
theorem dX12_lost_25 : decode cX12_lost 25 = .ok (.ifCond .ne 5, 3) := by decide +kernel
theorem dX12_lost_28 : decode cX12_lost 28 = .ok (.iconst (-1), 1) := by decide +kernel
theorem dX12_lost_29 : decode cX12_lost 29 = .ok (.ireturn, 1) := by decide +kernel
theorem dX12_lost_30 : decode cX12_lost 30 = .ok (.iconst 0, 1) := by decide +kernel
theorem dX12_lost_31 : decode cX12_lost 31 = .ok (.istore_n 3, 1) := by decide +kernel
theorem dX12_lost_32 : decode cX12_lost 32 = .ok (.iconst 0, 1) := by decide +kernel
theorem dX12_lost_33 : decode cX12_lost 33 = .ok (.istore 4, 2) := by decide +kernel
theorem dX12_lost_35 : decode cX12_lost 35 = .ok (.iload 4, 2) := by decide +kernel
theorem dX12_lost_37 : decode cX12_lost 37 = .ok (.aload_n 0, 1) := by decide +kernel
theorem dX12_lost_38 : decode cX12_lost 38 = .ok (.getfield 404, 3) := by decide +kernel
theorem dX12_lost_41 : decode cX12_lost 41 = .ok (.if_icmp .ge 40, 3) := by decide +kernel
theorem dX12_lost_44 : decode cX12_lost 44 = .ok (.aload_n 0, 1) := by decide +kernel
theorem dX12_lost_45 : decode cX12_lost 45 = .ok (.getfield 164, 3) := by decide +kernel
theorem dX12_lost_48 : decode cX12_lost 48 = .ok (.iload 4, 2) := by decide +kernel
theorem dX12_lost_50 : decode cX12_lost 50 = .ok (.iaload, 1) := by decide +kernel
theorem dX12_lost_51 : decode cX12_lost 51 = .ok (.iload_n 1, 1) := by decide +kernel
theorem dX12_lost_52 : decode cX12_lost 52 = .ok (.if_icmp .ge 9, 3) := by decide +kernel
theorem dX12_lost_55 : decode cX12_lost 55 = .ok (.iload_n 3, 1) := by decide +kernel
theorem dX12_lost_56 : decode cX12_lost 56 = .ok (.iconst 1, 1) := by decide +kernel
theorem dX12_lost_57 : decode cX12_lost 57 = .ok (.iadd, 1) := by decide +kernel
theorem dX12_lost_58 : decode cX12_lost 58 = .ok (.goto 4, 3) := by decide +kernel
theorem dX12_lost_61 : decode cX12_lost 61 = .ok (.iconst 0, 1) := by decide +kernel
theorem dX12_lost_62 : decode cX12_lost 62 = .ok (.istore_n 3, 1) := by decide +kernel
theorem dX12_lost_63 : decode cX12_lost 63 = .ok (.iload_n 3, 1) := by decide +kernel
theorem dX12_lost_64 : decode cX12_lost 64 = .ok (.iload_n 2, 1) := by decide +kernel
theorem dX12_lost_65 : decode cX12_lost 65 = .ok (.if_icmp .ne 10, 3) := by decide +kernel
theorem dX12_lost_68 : decode cX12_lost 68 = .ok (.iload 4, 2) := by decide +kernel
theorem dX12_lost_70 : decode cX12_lost 70 = .ok (.iload_n 2, 1) := by decide +kernel
theorem dX12_lost_71 : decode cX12_lost 71 = .ok (.isub, 1) := by decide +kernel
theorem dX12_lost_72 : decode cX12_lost 72 = .ok (.iconst 1, 1) := by decide +kernel
theorem dX12_lost_73 : decode cX12_lost 73 = .ok (.iadd, 1) := by decide +kernel
theorem dX12_lost_74 : decode cX12_lost 74 = .ok (.ireturn, 1) := by decide +kernel
theorem dX12_lost_75 : decode cX12_lost 75 = .ok (.iinc 4 1, 3) := by decide +kernel
theorem dX12_lost_78 : decode cX12_lost 78 = .ok (.goto (-43), 3) := by decide +kernel
theorem dX12_lost_81 : decode cX12_lost 81 = .ok (.iconst (-1), 1) := by decide +kernel
theorem dX12_lost_82 : decode cX12_lost 82 = .ok (.ireturn, 1) := by decide +kernel
theorem dJ6_bitCount_0f7a4_0 : decode cJ6_bitCount_0f7a4 0 = .ok (.iload_n 0, 1) := by decide +kernel
theorem dJ6_bitCount_0f7a4_1 : decode cJ6_bitCount_0f7a4 1 = .ok (.iload_n 0, 1) := by decide +kernel
theorem dJ6_bitCount_0f7a4_2 : decode cJ6_bitCount_0f7a4 2 = .ok (.iconst 1, 1) := by decide +kernel
theorem dJ6_bitCount_0f7a4_3 : decode cJ6_bitCount_0f7a4 3 = .ok (.iushr, 1) := by decide +kernel
theorem dJ6_bitCount_0f7a4_4 : decode cJ6_bitCount_0f7a4 4 = .ok (.ldc_w 265, 3) := by decide +kernel
theorem dJ6_bitCount_0f7a4_7 : decode cJ6_bitCount_0f7a4 7 = .ok (.iand, 1) := by decide +kernel
theorem dJ6_bitCount_0f7a4_8 : decode cJ6_bitCount_0f7a4 8 = .ok (.isub, 1) := by decide +kernel
theorem dJ6_bitCount_0f7a4_9 : decode cJ6_bitCount_0f7a4 9 = .ok (.istore_n 0, 1) := by decide +kernel
theorem dJ6_bitCount_0f7a4_10 : decode cJ6_bitCount_0f7a4 10 = .ok (.iload_n 0, 1) := by decide +kernel
theorem dJ6_bitCount_0f7a4_11 : decode cJ6_bitCount_0f7a4 11 = .ok (.ldc_w 266, 3) := by decide +kernel
theorem dJ6_bitCount_0f7a4_14 : decode cJ6_bitCount_0f7a4 14 = .ok (.iand, 1) := by decide +kernel
theorem dJ6_bitCount_0f7a4_15 : decode cJ6_bitCount_0f7a4 15 = .ok (.iload_n 0, 1) := by decide +kernel
theorem dJ6_bitCount_0f7a4_16 : decode cJ6_bitCount_0f7a4 16 = .ok (.iconst 2, 1) := by decide +kernel
theorem dJ6_bitCount_0f7a4_17 : decode cJ6_bitCount_0f7a4 17 = .ok (.iushr, 1) := by decide +kernel
theorem dJ6_bitCount_0f7a4_18 : decode cJ6_bitCount_0f7a4 18 = .ok (.ldc_w 266, 3) := by decide +kernel
theorem dJ6_bitCount_0f7a4_21 : decode cJ6_bitCount_0f7a4 21 = .ok (.iand, 1) := by decide +kernel
theorem dJ6_bitCount_0f7a4_22 : decode cJ6_bitCount_0f7a4 22 = .ok (.iadd, 1) := by decide +kernel
theorem dJ6_bitCount_0f7a4_23 : decode cJ6_bitCount_0f7a4 23 = .ok (.istore_n 0, 1) := by decide +kernel
theorem dJ6_bitCount_0f7a4_24 : decode cJ6_bitCount_0f7a4 24 = .ok (.iload_n 0, 1) := by decide +kernel
theorem dJ6_bitCount_0f7a4_25 : decode cJ6_bitCount_0f7a4 25 = .ok (.iload_n 0, 1) := by decide +kernel
theorem dJ6_bitCount_0f7a4_26 : decode cJ6_bitCount_0f7a4 26 = .ok (.iconst 4, 1) := by decide +kernel
theorem dJ6_bitCount_0f7a4_27 : decode cJ6_bitCount_0f7a4 27 = .ok (.iushr, 1) := by decide +kernel
theorem dJ6_bitCount_0f7a4_28 : decode cJ6_bitCount_0f7a4 28 = .ok (.iadd, 1) := by decide +kernel
theorem dJ6_bitCount_0f7a4_29 : decode cJ6_bitCount_0f7a4 29 = .ok (.ldc_w 267, 3) := by decide +kernel
theorem dJ6_bitCount_0f7a4_32 : decode cJ6_bitCount_0f7a4 32 = .ok (.iand, 1) := by decide +kernel
theorem dJ6_bitCount_0f7a4_33 : decode cJ6_bitCount_0f7a4 33 = .ok (.istore_n 0, 1) := by decide +kernel
theorem dJ6_bitCount_0f7a4_34 : decode cJ6_bitCount_0f7a4 34 = .ok (.iload_n 0, 1) := by decide +kernel
theorem dJ6_bitCount_0f7a4_35 : decode cJ6_bitCount_0f7a4 35 = .ok (.iload_n 0, 1) := by decide +kernel
theorem dJ6_bitCount_0f7a4_36 : decode cJ6_bitCount_0f7a4 36 = .ok (.bipush 8, 2) := by decide +kernel
theorem dJ6_bitCount_0f7a4_38 : decode cJ6_bitCount_0f7a4 38 = .ok (.iushr, 1) := by decide +kernel
theorem dJ6_bitCount_0f7a4_39 : decode cJ6_bitCount_0f7a4 39 = .ok (.iadd, 1) := by decide +kernel
theorem dJ6_bitCount_0f7a4_40 : decode cJ6_bitCount_0f7a4 40 = .ok (.istore_n 0, 1) := by decide +kernel
theorem dJ6_bitCount_0f7a4_41 : decode cJ6_bitCount_0f7a4 41 = .ok (.iload_n 0, 1) := by decide +kernel
theorem dJ6_bitCount_0f7a4_42 : decode cJ6_bitCount_0f7a4 42 = .ok (.iload_n 0, 1) := by decide +kernel
theorem dJ6_bitCount_0f7a4_43 : decode cJ6_bitCount_0f7a4 43 = .ok (.bipush 16, 2) := by decide +kernel
theorem dJ6_bitCount_0f7a4_45 : decode cJ6_bitCount_0f7a4 45 = .ok (.iushr, 1) := by decide +kernel
theorem dJ6_bitCount_0f7a4_46 : decode cJ6_bitCount_0f7a4 46 = .ok (.iadd, 1) := by decide +kernel
theorem dJ6_bitCount_0f7a4_47 : decode cJ6_bitCount_0f7a4 47 = .ok (.istore_n 0, 1) := by decide +kernel
theorem dJ6_bitCount_0f7a4_48 : decode cJ6_bitCount_0f7a4 48 = .ok (.iload_n 0, 1) := by decide +kernel
theorem dJ6_bitCount_0f7a4_49 : decode cJ6_bitCount_0f7a4 49 = .ok (.bipush 63, 2) := by decide +kernel
theorem dJ6_bitCount_0f7a4_51 : decode cJ6_bitCount_0f7a4 51 = .ok (.iand, 1) := by decide +kernel
theorem dJ6_bitCount_0f7a4_52 : decode cJ6_bitCount_0f7a4 52 = .ok (.ireturn, 1) := by decide +kernel
theorem dJ9_abs_0f7a4_0 : decode cJ9_abs_0f7a4 0 = .ok (.iload_n 0, 1) := by decide +kernel
theorem dJ9_abs_0f7a4_1 : decode cJ9_abs_0f7a4 1 = .ok (.ifCond .ge 8, 3) := by decide +kernel
theorem dJ9_abs_0f7a4_4 : decode cJ9_abs_0f7a4 4 = .ok (.iload_n 0, 1) := by decide +kernel
theorem dJ9_abs_0f7a4_5 : decode cJ9_abs_0f7a4 5 = .ok (.ineg, 1) := by decide +kernel
theorem dJ9_abs_0f7a4_6 : decode cJ9_abs_0f7a4 6 = .ok (.goto 4, 3) := by decide +kernel
theorem dJ9_abs_0f7a4_9 : decode cJ9_abs_0f7a4 9 = .ok (.iload_n 0, 1) := by decide +kernel
theorem dJ9_abs_0f7a4_10 : decode cJ9_abs_0f7a4 10 = .ok (.ireturn, 1) := by decide +kernel
theorem dJ9_max_7cf53_0 : decode cJ9_max_7cf53 0 = .ok (.iload_n 0, 1) := by decide +kernel
theorem dJ9_max_7cf53_1 : decode cJ9_max_7cf53 1 = .ok (.iload_n 1, 1) := by decide +kernel
theorem dJ9_max_7cf53_2 : decode cJ9_max_7cf53 2 = .ok (.if_icmp .lt 7, 3) := by decide +kernel
theorem dJ9_max_7cf53_5 : decode cJ9_max_7cf53 5 = .ok (.iload_n 0, 1) := by decide +kernel
theorem dJ9_max_7cf53_6 : decode cJ9_max_7cf53 6 = .ok (.goto 4, 3) := by decide +kernel
theorem dJ9_max_7cf53_9 : decode cJ9_max_7cf53 9 = .ok (.iload_n 1, 1) := by decide +kernel
theorem dJ9_max_7cf53_10 : decode cJ9_max_7cf53 10 = .ok (.ireturn, 1) := by decide +kernel
theorem dJ9_min_7cf53_0 : decode cJ9_min_7cf53 0 = .ok (.iload_n 0, 1) := by decide +kernel
theorem dJ9_min_7cf53_1 : decode cJ9_min_7cf53 1 = .ok (.iload_n 1, 1) := by decide +kernel
theorem dJ9_min_7cf53_2 : decode cJ9_min_7cf53 2 = .ok (.if_icmp .gt 7, 3) := by decide +kernel
theorem dJ9_min_7cf53_5 : decode cJ9_min_7cf53 5 = .ok (.iload_n 0, 1) := by decide +kernel
theorem dJ9_min_7cf53_6 : decode cJ9_min_7cf53 6 = .ok (.goto 4, 3) := by decide +kernel
theorem dJ9_min_7cf53_9 : decode cJ9_min_7cf53 9 = .ok (.iload_n 1, 1) := by decide +kernel
theorem dJ9_min_7cf53_10 : decode cJ9_min_7cf53 10 = .ok (.ireturn, 1) := by decide +kernel
theorem dJ0_length_8abf5_0 : decode cJ0_length_8abf5 0 = .ok (.aload_n 0, 1) := by decide +kernel
theorem dJ0_length_8abf5_1 : decode cJ0_length_8abf5 1 = .ok (.getfield 9, 3) := by decide +kernel
theorem dJ0_length_8abf5_4 : decode cJ0_length_8abf5 4 = .ok (.arraylength, 1) := by decide +kernel
theorem dJ0_length_8abf5_5 : decode cJ0_length_8abf5 5 = .ok (.aload_n 0, 1) := by decide +kernel
theorem dJ0_length_8abf5_6 : decode cJ0_length_8abf5 6 = .ok (.invokevirtual 335, 3) := by decide +kernel
theorem dJ0_length_8abf5_9 : decode cJ0_length_8abf5 9 = .ok (.ishr, 1) := by decide +kernel
theorem dJ0_length_8abf5_10 : decode cJ0_length_8abf5 10 = .ok (.ireturn, 1) := by decide +kernel
theorem dJ0_charAt_5068e_0 : decode cJ0_charAt_5068e 0 = .ok (.aload_n 0, 1) := by decide +kernel
theorem dJ0_charAt_5068e_1 : decode cJ0_charAt_5068e 1 = .ok (.invokevirtual 492, 3) := by decide +kernel
theorem dJ0_charAt_5068e_4 : decode cJ0_charAt_5068e 4 = .ok (.ifCond .eq 12, 3) := by decide +kernel
theorem dJ0_charAt_5068e_7 : decode cJ0_charAt_5068e 7 = .ok (.aload_n 0, 1) := by decide +kernel
theorem dJ0_charAt_5068e_8 : decode cJ0_charAt_5068e 8 = .ok (.getfield 9, 3) := by decide +kernel
theorem dJ0_charAt_5068e_11 : decode cJ0_charAt_5068e 11 = .ok (.iload_n 1, 1) := by decide +kernel
theorem dJ0_charAt_5068e_12 : decode cJ0_charAt_5068e 12 = .ok (.invokestatic 495, 3) := by decide +kernel
theorem dJ0_charAt_5068e_15 : decode cJ0_charAt_5068e 15 = .ok (.ireturn, 1) := by decide +kernel
theorem dJ0_charAt_5068e_16 : decode cJ0_charAt_5068e 16 = .ok (.aload_n 0, 1) := by decide +kernel
theorem dJ0_charAt_5068e_17 : decode cJ0_charAt_5068e 17 = .ok (.getfield 9, 3) := by decide +kernel
theorem dJ0_charAt_5068e_20 : decode cJ0_charAt_5068e 20 = .ok (.iload_n 1, 1) := by decide +kernel
theorem dJ0_charAt_5068e_21 : decode cJ0_charAt_5068e 21 = .ok (.invokestatic 498, 3) := by decide +kernel
theorem dJ0_charAt_5068e_24 : decode cJ0_charAt_5068e 24 = .ok (.ireturn, 1) := by decide +kernel
theorem dJ0_coder_7d493_0 : decode cJ0_coder_7d493 0 = .ok (.getstatic 38, 3) := by decide +kernel
theorem dJ0_coder_7d493_3 : decode cJ0_coder_7d493 3 = .ok (.ifCond .eq 10, 3) := by decide +kernel
theorem dJ0_coder_7d493_6 : decode cJ0_coder_7d493 6 = .ok (.aload_n 0, 1) := by decide +kernel
theorem dJ0_coder_7d493_7 : decode cJ0_coder_7d493 7 = .ok (.getfield 15, 3) := by decide +kernel
theorem dJ0_coder_7d493_10 : decode cJ0_coder_7d493 10 = .ok (.goto 4, 3) := by decide +kernel
theorem dJ0_coder_7d493_13 : decode cJ0_coder_7d493 13 = .ok (.iconst 1, 1) := by decide +kernel
theorem dJ0_coder_7d493_14 : decode cJ0_coder_7d493 14 = .ok (.ireturn, 1) := by decide +kernel
theorem dJ0_isLatin1_aae02_0 : decode cJ0_isLatin1_aae02 0 = .ok (.getstatic 38, 3) := by decide +kernel
theorem dJ0_isLatin1_aae02_3 : decode cJ0_isLatin1_aae02 3 = .ok (.ifCond .eq 14, 3) := by decide +kernel
theorem dJ0_isLatin1_aae02_6 : decode cJ0_isLatin1_aae02 6 = .ok (.aload_n 0, 1) := by decide +kernel
theorem dJ0_isLatin1_aae02_7 : decode cJ0_isLatin1_aae02 7 = .ok (.getfield 15, 3) := by decide +kernel
theorem dJ0_isLatin1_aae02_10 : decode cJ0_isLatin1_aae02 10 = .ok (.ifCond .ne 7, 3) := by decide +kernel
theorem dJ0_isLatin1_aae02_13 : decode cJ0_isLatin1_aae02 13 = .ok (.iconst 1, 1) := by decide +kernel
theorem dJ0_isLatin1_aae02_14 : decode cJ0_isLatin1_aae02 14 = .ok (.goto 4, 3) := by decide +kernel
theorem dJ0_isLatin1_aae02_17 : decode cJ0_isLatin1_aae02 17 = .ok (.iconst 0, 1) := by decide +kernel
theorem dJ0_isLatin1_aae02_18 : decode cJ0_isLatin1_aae02 18 = .ok (.ireturn, 1) := by decide +kernel
theorem dJ0_checkIndex_df160_0 : decode cJ0_checkIndex_df160 0 = .ok (.iload_n 0, 1) := by decide +kernel
theorem dJ0_checkIndex_df160_1 : decode cJ0_checkIndex_df160 1 = .ok (.iload_n 1, 1) := by decide +kernel
theorem dJ0_checkIndex_df160_2 : decode cJ0_checkIndex_df160 2 = .ok (.getstatic 1053, 3) := by decide +kernel
theorem dJ0_checkIndex_df160_5 : decode cJ0_checkIndex_df160 5 = .ok (.invokestatic 1059, 3) := by decide +kernel
theorem dJ0_checkIndex_df160_8 : decode cJ0_checkIndex_df160 8 = .ok (.pop, 1) := by decide +kernel
theorem dJ0_checkIndex_df160_9 : decode cJ0_checkIndex_df160 9 = .ok (.return_, 1) := by decide +kernel
theorem dJ1_charAt_3b067_0 : decode cJ1_charAt_3b067 0 = .ok (.iload_n 1, 1) := by decide +kernel
theorem dJ1_charAt_3b067_1 : decode cJ1_charAt_3b067 1 = .ok (.aload_n 0, 1) := by decide +kernel
theorem dJ1_charAt_3b067_2 : decode cJ1_charAt_3b067 2 = .ok (.arraylength, 1) := by decide +kernel
theorem dJ1_charAt_3b067_3 : decode cJ1_charAt_3b067 3 = .ok (.invokestatic 9, 3) := by decide +kernel
theorem dJ1_charAt_3b067_6 : decode cJ1_charAt_3b067 6 = .ok (.aload_n 0, 1) := by decide +kernel
theorem dJ1_charAt_3b067_7 : decode cJ1_charAt_3b067 7 = .ok (.iload_n 1, 1) := by decide +kernel
theorem dJ1_charAt_3b067_8 : decode cJ1_charAt_3b067 8 = .ok (.baload, 1) := by decide +kernel
theorem dJ1_charAt_3b067_9 : decode cJ1_charAt_3b067 9 = .ok (.sipush 255, 3) := by decide +kernel
theorem dJ1_charAt_3b067_12 : decode cJ1_charAt_3b067 12 = .ok (.iand, 1) := by decide +kernel
theorem dJ1_charAt_3b067_13 : decode cJ1_charAt_3b067 13 = .ok (.i2c, 1) := by decide +kernel
theorem dJ1_charAt_3b067_14 : decode cJ1_charAt_3b067 14 = .ok (.ireturn, 1) := by decide +kernel
theorem dJ2_getChar_3b067_0 : decode cJ2_getChar_3b067 0 = .ok (.getstatic 44, 3) := by decide +kernel
theorem dJ2_getChar_3b067_3 : decode cJ2_getChar_3b067 3 = .ok (.ifCond .ne 25, 3) := by decide +kernel
theorem dJ2_getChar_3b067_6 : decode cJ2_getChar_3b067 6 = .ok (.iload_n 1, 1) := by decide +kernel
theorem dJ2_getChar_3b067_7 : decode cJ2_getChar_3b067 7 = .ok (.ifCond .lt 11, 3) := by decide +kernel
theorem dJ2_getChar_3b067_10 : decode cJ2_getChar_3b067 10 = .ok (.iload_n 1, 1) := by decide +kernel
theorem dJ2_getChar_3b067_11 : decode cJ2_getChar_3b067 11 = .ok (.aload_n 0, 1) := by decide +kernel
theorem dJ2_getChar_3b067_12 : decode cJ2_getChar_3b067 12 = .ok (.invokestatic 48, 3) := by decide +kernel
theorem dJ2_getChar_3b067_15 : decode cJ2_getChar_3b067 15 = .ok (.if_icmp .lt 13, 3) := by decide +kernel
theorem dJ2_getChar_3b067_18 : decode cJ2_getChar_3b067 18 = .ok (.new 52, 3) := by decide +kernel
theorem dJ2_getChar_3b067_21 : decode cJ2_getChar_3b067 21 = .ok (.dup, 1) := by decide +kernel
theorem dJ2_getChar_3b067_22 : decode cJ2_getChar_3b067 22 = .ok (.ldc 54, 2) := by decide +kernel
theorem dJ2_getChar_3b067_24 : decode cJ2_getChar_3b067 24 = .ok (.invokespecial 56, 3) := by decide +kernel
theorem dJ2_getChar_3b067_27 : decode cJ2_getChar_3b067 27 = .ok (.athrow, 1) := by decide +kernel
theorem dJ2_getChar_3b067_28 : decode cJ2_getChar_3b067 28 = .ok (.iload_n 1, 1) := by decide +kernel
theorem dJ2_getChar_3b067_29 : decode cJ2_getChar_3b067 29 = .ok (.iconst 1, 1) := by decide +kernel
theorem dJ2_getChar_3b067_30 : decode cJ2_getChar_3b067 30 = .ok (.ishl, 1) := by decide +kernel
theorem dJ2_getChar_3b067_31 : decode cJ2_getChar_3b067 31 = .ok (.istore_n 1, 1) := by decide +kernel
theorem dJ2_getChar_3b067_32 : decode cJ2_getChar_3b067 32 = .ok (.aload_n 0, 1) := by decide +kernel
theorem dJ2_getChar_3b067_33 : decode cJ2_getChar_3b067 33 = .ok (.iload_n 1, 1) := by decide +kernel
theorem dJ2_getChar_3b067_34 : decode cJ2_getChar_3b067 34 = .ok (.iinc 1 1, 3) := by decide +kernel
theorem dJ2_getChar_3b067_37 : decode cJ2_getChar_3b067 37 = .ok (.baload, 1) := by decide +kernel
theorem dJ2_getChar_3b067_38 : decode cJ2_getChar_3b067 38 = .ok (.sipush 255, 3) := by decide +kernel
theorem dJ2_getChar_3b067_41 : decode cJ2_getChar_3b067 41 = .ok (.iand, 1) := by decide +kernel
theorem dJ2_getChar_3b067_42 : decode cJ2_getChar_3b067 42 = .ok (.getstatic 59, 3) := by decide +kernel
theorem dJ2_getChar_3b067_45 : decode cJ2_getChar_3b067 45 = .ok (.ishl, 1) := by decide +kernel
theorem dJ2_getChar_3b067_46 : decode cJ2_getChar_3b067 46 = .ok (.aload_n 0, 1) := by decide +kernel
theorem dJ2_getChar_3b067_47 : decode cJ2_getChar_3b067 47 = .ok (.iload_n 1, 1) := by decide +kernel
theorem dJ2_getChar_3b067_48 : decode cJ2_getChar_3b067 48 = .ok (.baload, 1) := by decide +kernel
theorem dJ2_getChar_3b067_49 : decode cJ2_getChar_3b067 49 = .ok (.sipush 255, 3) := by decide +kernel
theorem dJ2_getChar_3b067_52 : decode cJ2_getChar_3b067 52 = .ok (.iand, 1) := by decide +kernel
theorem dJ2_getChar_3b067_53 : decode cJ2_getChar_3b067 53 = .ok (.getstatic 63, 3) := by decide +kernel
theorem dJ2_getChar_3b067_56 : decode cJ2_getChar_3b067 56 = .ok (.ishl, 1) := by decide +kernel
theorem dJ2_getChar_3b067_57 : decode cJ2_getChar_3b067 57 = .ok (.ior, 1) := by decide +kernel
theorem dJ2_getChar_3b067_58 : decode cJ2_getChar_3b067 58 = .ok (.i2c, 1) := by decide +kernel
theorem dJ2_getChar_3b067_59 : decode cJ2_getChar_3b067 59 = .ok (.ireturn, 1) := by decide +kernel
theorem dJ2_length_9d52b_0 : decode cJ2_length_9d52b 0 = .ok (.aload_n 0, 1) := by decide +kernel
theorem dJ2_length_9d52b_1 : decode cJ2_length_9d52b 1 = .ok (.arraylength, 1) := by decide +kernel
theorem dJ2_length_9d52b_2 : decode cJ2_length_9d52b 2 = .ok (.iconst 1, 1) := by decide +kernel
theorem dJ2_length_9d52b_3 : decode cJ2_length_9d52b 3 = .ok (.ishr, 1) := by decide +kernel
theorem dJ2_length_9d52b_4 : decode cJ2_length_9d52b 4 = .ok (.ireturn, 1) := by decide +kernel
theorem dJ2_charAt_3b067_0 : decode cJ2_charAt_3b067 0 = .ok (.iload_n 1, 1) := by decide +kernel
theorem dJ2_charAt_3b067_1 : decode cJ2_charAt_3b067 1 = .ok (.aload_n 0, 1) := by decide +kernel
theorem dJ2_charAt_3b067_2 : decode cJ2_charAt_3b067 2 = .ok (.invokestatic 67, 3) := by decide +kernel
theorem dJ2_charAt_3b067_5 : decode cJ2_charAt_3b067 5 = .ok (.aload_n 0, 1) := by decide +kernel
theorem dJ2_charAt_3b067_6 : decode cJ2_charAt_3b067 6 = .ok (.iload_n 1, 1) := by decide +kernel
theorem dJ2_charAt_3b067_7 : decode cJ2_charAt_3b067 7 = .ok (.invokestatic 71, 3) := by decide +kernel
theorem dJ2_charAt_3b067_10 : decode cJ2_charAt_3b067 10 = .ok (.ireturn, 1) := by decide +kernel
theorem dJ2_checkIndex_2214a_0 : decode cJ2_checkIndex_2214a 0 = .ok (.iload_n 0, 1) := by decide +kernel
theorem dJ2_checkIndex_2214a_1 : decode cJ2_checkIndex_2214a 1 = .ok (.aload_n 1, 1) := by decide +kernel
theorem dJ2_checkIndex_2214a_2 : decode cJ2_checkIndex_2214a 2 = .ok (.invokestatic 48, 3) := by decide +kernel
theorem dJ2_checkIndex_2214a_5 : decode cJ2_checkIndex_2214a 5 = .ok (.invokestatic 414, 3) := by decide +kernel
theorem dJ2_checkIndex_2214a_8 : decode cJ2_checkIndex_2214a 8 = .ok (.return_, 1) := by decide +kernel
theorem dJ7_fill_53178_0 : decode cJ7_fill_53178 0 = .ok (.iconst 0, 1) := by decide +kernel
theorem dJ7_fill_53178_1 : decode cJ7_fill_53178 1 = .ok (.istore_n 2, 1) := by decide +kernel
theorem dJ7_fill_53178_2 : decode cJ7_fill_53178 2 = .ok (.aload_n 0, 1) := by decide +kernel
theorem dJ7_fill_53178_3 : decode cJ7_fill_53178 3 = .ok (.arraylength, 1) := by decide +kernel
theorem dJ7_fill_53178_4 : decode cJ7_fill_53178 4 = .ok (.istore_n 3, 1) := by decide +kernel
theorem dJ7_fill_53178_5 : decode cJ7_fill_53178 5 = .ok (.iload_n 2, 1) := by decide +kernel
theorem dJ7_fill_53178_6 : decode cJ7_fill_53178 6 = .ok (.iload_n 3, 1) := by decide +kernel
theorem dJ7_fill_53178_7 : decode cJ7_fill_53178 7 = .ok (.if_icmp .ge 13, 3) := by decide +kernel
theorem dJ7_fill_53178_10 : decode cJ7_fill_53178 10 = .ok (.aload_n 0, 1) := by decide +kernel
theorem dJ7_fill_53178_11 : decode cJ7_fill_53178 11 = .ok (.iload_n 2, 1) := by decide +kernel
theorem dJ7_fill_53178_12 : decode cJ7_fill_53178 12 = .ok (.iload_n 1, 1) := by decide +kernel
theorem dJ7_fill_53178_13 : decode cJ7_fill_53178 13 = .ok (.iastore, 1) := by decide +kernel
theorem dJ7_fill_53178_14 : decode cJ7_fill_53178 14 = .ok (.iinc 2 1, 3) := by decide +kernel
theorem dJ7_fill_53178_17 : decode cJ7_fill_53178 17 = .ok (.goto (-12), 3) := by decide +kernel
theorem dJ7_fill_53178_20 : decode cJ7_fill_53178 20 = .ok (.return_, 1) := by decide +kernel
theorem dJ3_checkIndex_8e157_0 : decode cJ3_checkIndex_8e157 0 = .ok (.iload_n 0, 1) := by decide +kernel
theorem dJ3_checkIndex_8e157_1 : decode cJ3_checkIndex_8e157 1 = .ok (.ifCond .lt 8, 3) := by decide +kernel
theorem dJ3_checkIndex_8e157_4 : decode cJ3_checkIndex_8e157 4 = .ok (.iload_n 0, 1) := by decide +kernel
theorem dJ3_checkIndex_8e157_5 : decode cJ3_checkIndex_8e157 5 = .ok (.iload_n 1, 1) := by decide +kernel
theorem dJ3_checkIndex_8e157_6 : decode cJ3_checkIndex_8e157 6 = .ok (.if_icmp .lt 10, 3) := by decide +kernel
theorem dJ3_checkIndex_8e157_9 : decode cJ3_checkIndex_8e157 9 = .ok (.aload_n 2, 1) := by decide +kernel
theorem dJ3_checkIndex_8e157_10 : decode cJ3_checkIndex_8e157 10 = .ok (.iload_n 0, 1) := by decide +kernel
theorem dJ3_checkIndex_8e157_11 : decode cJ3_checkIndex_8e157 11 = .ok (.iload_n 1, 1) := by decide +kernel
theorem dJ3_checkIndex_8e157_12 : decode cJ3_checkIndex_8e157 12 = .ok (.invokestatic 95, 3) := by decide +kernel
theorem dJ3_checkIndex_8e157_15 : decode cJ3_checkIndex_8e157 15 = .ok (.athrow, 1) := by decide +kernel
theorem dJ3_checkIndex_8e157_16 : decode cJ3_checkIndex_8e157 16 = .ok (.iload_n 0, 1) := by decide +kernel
theorem dJ3_checkIndex_8e157_17 : decode cJ3_checkIndex_8e157 17 = .ok (.ireturn, 1) := by decide +kernel
theorem dL_law_0 : decode cL_law 0 = .ok (.new 7, 3) := by decide +kernel
theorem dL_law_3 : decode cL_law 3 = .ok (.dup, 1) := by decide +kernel
theorem dL_law_4 : decode cL_law 4 = .ok (.invokespecial 9, 3) := by decide +kernel
theorem dL_law_7 : decode cL_law 7 = .ok (.astore_n 1, 1) := by decide +kernel
theorem dL_law_8 : decode cL_law 8 = .ok (.new 10, 3) := by decide +kernel
theorem dL_law_11 : decode cL_law 11 = .ok (.dup, 1) := by decide +kernel
theorem dL_law_12 : decode cL_law 12 = .ok (.invokespecial 12, 3) := by decide +kernel
theorem dL_law_15 : decode cL_law 15 = .ok (.astore_n 2, 1) := by decide +kernel
theorem dL_law_16 : decode cL_law 16 = .ok (.iconst 0, 1) := by decide +kernel
theorem dL_law_17 : decode cL_law 17 = .ok (.istore_n 3, 1) := by decide +kernel
theorem dL_law_18 : decode cL_law 18 = .ok (.iload_n 3, 1) := by decide +kernel
theorem dL_law_19 : decode cL_law 19 = .ok (.aload_n 0, 1) := by decide +kernel
theorem dL_law_20 : decode cL_law 20 = .ok (.arraylength, 1) := by decide +kernel
theorem dL_law_21 : decode cL_law 21 = .ok (.bipush 6, 2) := by decide +kernel
theorem dL_law_23 : decode cL_law 23 = .ok (.isub, 1) := by decide +kernel
theorem dL_law_24 : decode cL_law 24 = .ok (.if_icmp .gt 842, 3) := by decide +kernel
theorem dL_law_27 : decode cL_law 27 = .ok (.aload_n 0, 1) := by decide +kernel
theorem dL_law_28 : decode cL_law 28 = .ok (.iload_n 3, 1) := by decide +kernel
theorem dL_law_29 : decode cL_law 29 = .ok (.iaload, 1) := by decide +kernel
theorem dL_law_30 : decode cL_law 30 = .ok (.bipush 31, 2) := by decide +kernel
theorem dL_law_32 : decode cL_law 32 = .ok (.iand, 1) := by decide +kernel
theorem dL_law_33 : decode cL_law 33 = .ok (.tableswitch 827 0 19 #[95, 158, 211, 260, 283, 346, 369, 392, 415, 438, 481, 504, 527, 560, 593, 636, 669, 738, 781, 794], 95) := by decide +kernel
theorem dL_law_128 : decode cL_law 128 = .ok (.aload_n 1, 1) := by decide +kernel
theorem dL_law_129 : decode cL_law 129 = .ok (.aload_n 0, 1) := by decide +kernel
theorem dL_law_130 : decode cL_law 130 = .ok (.iload_n 3, 1) := by decide +kernel
theorem dL_law_131 : decode cL_law 131 = .ok (.iconst 1, 1) := by decide +kernel
theorem dL_law_132 : decode cL_law 132 = .ok (.iadd, 1) := by decide +kernel
theorem dL_law_133 : decode cL_law 133 = .ok (.iaload, 1) := by decide +kernel
theorem dL_law_134 : decode cL_law 134 = .ok (.aload_n 0, 1) := by decide +kernel
theorem dL_law_135 : decode cL_law 135 = .ok (.iload_n 3, 1) := by decide +kernel
theorem dL_law_136 : decode cL_law 136 = .ok (.iconst 2, 1) := by decide +kernel
theorem dL_law_137 : decode cL_law 137 = .ok (.iadd, 1) := by decide +kernel
theorem dL_law_138 : decode cL_law 138 = .ok (.iaload, 1) := by decide +kernel
theorem dL_law_139 : decode cL_law 139 = .ok (.aload_n 0, 1) := by decide +kernel
theorem dL_law_140 : decode cL_law 140 = .ok (.iload_n 3, 1) := by decide +kernel
theorem dL_law_141 : decode cL_law 141 = .ok (.iconst 3, 1) := by decide +kernel
theorem dL_law_142 : decode cL_law 142 = .ok (.iadd, 1) := by decide +kernel
theorem dL_law_143 : decode cL_law 143 = .ok (.iaload, 1) := by decide +kernel
theorem dL_law_144 : decode cL_law 144 = .ok (.aload_n 0, 1) := by decide +kernel
theorem dL_law_145 : decode cL_law 145 = .ok (.iload_n 3, 1) := by decide +kernel
theorem dL_law_146 : decode cL_law 146 = .ok (.iconst 4, 1) := by decide +kernel
theorem dL_law_147 : decode cL_law 147 = .ok (.iadd, 1) := by decide +kernel
theorem dL_law_148 : decode cL_law 148 = .ok (.iaload, 1) := by decide +kernel
theorem dL_law_149 : decode cL_law 149 = .ok (.aload_n 0, 1) := by decide +kernel
theorem dL_law_150 : decode cL_law 150 = .ok (.iload_n 3, 1) := by decide +kernel
theorem dL_law_151 : decode cL_law 151 = .ok (.iconst 5, 1) := by decide +kernel
theorem dL_law_152 : decode cL_law 152 = .ok (.iadd, 1) := by decide +kernel
theorem dL_law_153 : decode cL_law 153 = .ok (.iaload, 1) := by decide +kernel
theorem dL_law_154 : decode cL_law 154 = .ok (.invokevirtual 13, 3) := by decide +kernel
theorem dL_law_157 : decode cL_law 157 = .ok (.pop, 1) := by decide +kernel
theorem dL_law_158 : decode cL_law 158 = .ok (.aload_n 2, 1) := by decide +kernel
theorem dL_law_159 : decode cL_law 159 = .ok (.aload_n 0, 1) := by decide +kernel
theorem dL_law_160 : decode cL_law 160 = .ok (.iload_n 3, 1) := by decide +kernel
theorem dL_law_161 : decode cL_law 161 = .ok (.iconst 1, 1) := by decide +kernel
theorem dL_law_162 : decode cL_law 162 = .ok (.iadd, 1) := by decide +kernel
theorem dL_law_163 : decode cL_law 163 = .ok (.iaload, 1) := by decide +kernel
theorem dL_law_164 : decode cL_law 164 = .ok (.aload_n 0, 1) := by decide +kernel
theorem dL_law_165 : decode cL_law 165 = .ok (.iload_n 3, 1) := by decide +kernel
theorem dL_law_166 : decode cL_law 166 = .ok (.iconst 2, 1) := by decide +kernel
theorem dL_law_167 : decode cL_law 167 = .ok (.iadd, 1) := by decide +kernel
theorem dL_law_168 : decode cL_law 168 = .ok (.iaload, 1) := by decide +kernel
theorem dL_law_169 : decode cL_law 169 = .ok (.aload_n 0, 1) := by decide +kernel
theorem dL_law_170 : decode cL_law 170 = .ok (.iload_n 3, 1) := by decide +kernel
theorem dL_law_171 : decode cL_law 171 = .ok (.iconst 3, 1) := by decide +kernel
theorem dL_law_172 : decode cL_law 172 = .ok (.iadd, 1) := by decide +kernel
theorem dL_law_173 : decode cL_law 173 = .ok (.iaload, 1) := by decide +kernel
theorem dL_law_174 : decode cL_law 174 = .ok (.aload_n 0, 1) := by decide +kernel
theorem dL_law_175 : decode cL_law 175 = .ok (.iload_n 3, 1) := by decide +kernel
theorem dL_law_176 : decode cL_law 176 = .ok (.iconst 4, 1) := by decide +kernel
theorem dL_law_177 : decode cL_law 177 = .ok (.iadd, 1) := by decide +kernel
theorem dL_law_178 : decode cL_law 178 = .ok (.iaload, 1) := by decide +kernel
theorem dL_law_179 : decode cL_law 179 = .ok (.aload_n 0, 1) := by decide +kernel
theorem dL_law_180 : decode cL_law 180 = .ok (.iload_n 3, 1) := by decide +kernel
theorem dL_law_181 : decode cL_law 181 = .ok (.iconst 5, 1) := by decide +kernel
theorem dL_law_182 : decode cL_law 182 = .ok (.iadd, 1) := by decide +kernel
theorem dL_law_183 : decode cL_law 183 = .ok (.iaload, 1) := by decide +kernel
theorem dL_law_184 : decode cL_law 184 = .ok (.invokevirtual 17, 3) := by decide +kernel
theorem dL_law_187 : decode cL_law 187 = .ok (.pop, 1) := by decide +kernel
theorem dL_law_188 : decode cL_law 188 = .ok (.goto 672, 3) := by decide +kernel
theorem dL_law_191 : decode cL_law 191 = .ok (.aload_n 1, 1) := by decide +kernel
theorem dL_law_192 : decode cL_law 192 = .ok (.aload_n 0, 1) := by decide +kernel
theorem dL_law_193 : decode cL_law 193 = .ok (.iload_n 3, 1) := by decide +kernel
theorem dL_law_194 : decode cL_law 194 = .ok (.iconst 1, 1) := by decide +kernel
theorem dL_law_195 : decode cL_law 195 = .ok (.iadd, 1) := by decide +kernel
theorem dL_law_196 : decode cL_law 196 = .ok (.iaload, 1) := by decide +kernel
theorem dL_law_197 : decode cL_law 197 = .ok (.aload_n 0, 1) := by decide +kernel
theorem dL_law_198 : decode cL_law 198 = .ok (.iload_n 3, 1) := by decide +kernel
theorem dL_law_199 : decode cL_law 199 = .ok (.iconst 2, 1) := by decide +kernel
theorem dL_law_200 : decode cL_law 200 = .ok (.iadd, 1) := by decide +kernel
theorem dL_law_201 : decode cL_law 201 = .ok (.iaload, 1) := by decide +kernel
theorem dL_law_202 : decode cL_law 202 = .ok (.aload_n 0, 1) := by decide +kernel
theorem dL_law_203 : decode cL_law 203 = .ok (.iload_n 3, 1) := by decide +kernel
theorem dL_law_204 : decode cL_law 204 = .ok (.iconst 3, 1) := by decide +kernel
theorem dL_law_205 : decode cL_law 205 = .ok (.iadd, 1) := by decide +kernel
theorem dL_law_206 : decode cL_law 206 = .ok (.iaload, 1) := by decide +kernel
theorem dL_law_207 : decode cL_law 207 = .ok (.aload_n 0, 1) := by decide +kernel
theorem dL_law_208 : decode cL_law 208 = .ok (.iload_n 3, 1) := by decide +kernel
theorem dL_law_209 : decode cL_law 209 = .ok (.iconst 4, 1) := by decide +kernel
theorem dL_law_210 : decode cL_law 210 = .ok (.iadd, 1) := by decide +kernel
theorem dL_law_211 : decode cL_law 211 = .ok (.iaload, 1) := by decide +kernel
theorem dL_law_212 : decode cL_law 212 = .ok (.invokevirtual 18, 3) := by decide +kernel
theorem dL_law_215 : decode cL_law 215 = .ok (.pop, 1) := by decide +kernel
theorem dL_law_216 : decode cL_law 216 = .ok (.aload_n 2, 1) := by decide +kernel
theorem dL_law_217 : decode cL_law 217 = .ok (.aload_n 0, 1) := by decide +kernel
theorem dL_law_218 : decode cL_law 218 = .ok (.iload_n 3, 1) := by decide +kernel
theorem dL_law_219 : decode cL_law 219 = .ok (.iconst 1, 1) := by decide +kernel
theorem dL_law_220 : decode cL_law 220 = .ok (.iadd, 1) := by decide +kernel
theorem dL_law_221 : decode cL_law 221 = .ok (.iaload, 1) := by decide +kernel
theorem dL_law_222 : decode cL_law 222 = .ok (.aload_n 0, 1) := by decide +kernel
theorem dL_law_223 : decode cL_law 223 = .ok (.iload_n 3, 1) := by decide +kernel
theorem dL_law_224 : decode cL_law 224 = .ok (.iconst 2, 1) := by decide +kernel
theorem dL_law_225 : decode cL_law 225 = .ok (.iadd, 1) := by decide +kernel
theorem dL_law_226 : decode cL_law 226 = .ok (.iaload, 1) := by decide +kernel
theorem dL_law_227 : decode cL_law 227 = .ok (.aload_n 0, 1) := by decide +kernel
theorem dL_law_228 : decode cL_law 228 = .ok (.iload_n 3, 1) := by decide +kernel
theorem dL_law_229 : decode cL_law 229 = .ok (.iconst 3, 1) := by decide +kernel
theorem dL_law_230 : decode cL_law 230 = .ok (.iadd, 1) := by decide +kernel
theorem dL_law_231 : decode cL_law 231 = .ok (.iaload, 1) := by decide +kernel
theorem dL_law_232 : decode cL_law 232 = .ok (.aload_n 0, 1) := by decide +kernel
theorem dL_law_233 : decode cL_law 233 = .ok (.iload_n 3, 1) := by decide +kernel
theorem dL_law_234 : decode cL_law 234 = .ok (.iconst 4, 1) := by decide +kernel
theorem dL_law_235 : decode cL_law 235 = .ok (.iadd, 1) := by decide +kernel
theorem dL_law_236 : decode cL_law 236 = .ok (.iaload, 1) := by decide +kernel
theorem dL_law_237 : decode cL_law 237 = .ok (.invokevirtual 22, 3) := by decide +kernel
theorem dL_law_240 : decode cL_law 240 = .ok (.pop, 1) := by decide +kernel
theorem dL_law_241 : decode cL_law 241 = .ok (.goto 619, 3) := by decide +kernel
theorem dL_law_244 : decode cL_law 244 = .ok (.aload_n 1, 1) := by decide +kernel
theorem dL_law_245 : decode cL_law 245 = .ok (.aload_n 0, 1) := by decide +kernel
theorem dL_law_246 : decode cL_law 246 = .ok (.iload_n 3, 1) := by decide +kernel
theorem dL_law_247 : decode cL_law 247 = .ok (.iconst 1, 1) := by decide +kernel
theorem dL_law_248 : decode cL_law 248 = .ok (.iadd, 1) := by decide +kernel
theorem dL_law_249 : decode cL_law 249 = .ok (.iaload, 1) := by decide +kernel
theorem dL_law_250 : decode cL_law 250 = .ok (.aload_n 0, 1) := by decide +kernel
theorem dL_law_251 : decode cL_law 251 = .ok (.iload_n 3, 1) := by decide +kernel
theorem dL_law_252 : decode cL_law 252 = .ok (.iconst 2, 1) := by decide +kernel
theorem dL_law_253 : decode cL_law 253 = .ok (.iadd, 1) := by decide +kernel
theorem dL_law_254 : decode cL_law 254 = .ok (.iaload, 1) := by decide +kernel
theorem dL_law_255 : decode cL_law 255 = .ok (.ifCond .eq 7, 3) := by decide +kernel
theorem dL_law_258 : decode cL_law 258 = .ok (.iconst 1, 1) := by decide +kernel
theorem dL_law_259 : decode cL_law 259 = .ok (.goto 4, 3) := by decide +kernel
theorem dL_law_262 : decode cL_law 262 = .ok (.iconst 0, 1) := by decide +kernel
theorem dL_law_263 : decode cL_law 263 = .ok (.invokevirtual 23, 3) := by decide +kernel
theorem dL_law_266 : decode cL_law 266 = .ok (.pop, 1) := by decide +kernel
theorem dL_law_267 : decode cL_law 267 = .ok (.aload_n 2, 1) := by decide +kernel
theorem dL_law_268 : decode cL_law 268 = .ok (.aload_n 0, 1) := by decide +kernel
theorem dL_law_269 : decode cL_law 269 = .ok (.iload_n 3, 1) := by decide +kernel
theorem dL_law_270 : decode cL_law 270 = .ok (.iconst 1, 1) := by decide +kernel
theorem dL_law_271 : decode cL_law 271 = .ok (.iadd, 1) := by decide +kernel
theorem dL_law_272 : decode cL_law 272 = .ok (.iaload, 1) := by decide +kernel
theorem dL_law_273 : decode cL_law 273 = .ok (.aload_n 0, 1) := by decide +kernel
theorem dL_law_274 : decode cL_law 274 = .ok (.iload_n 3, 1) := by decide +kernel
theorem dL_law_275 : decode cL_law 275 = .ok (.iconst 2, 1) := by decide +kernel
theorem dL_law_276 : decode cL_law 276 = .ok (.iadd, 1) := by decide +kernel
theorem dL_law_277 : decode cL_law 277 = .ok (.iaload, 1) := by decide +kernel
theorem dL_law_278 : decode cL_law 278 = .ok (.ifCond .eq 7, 3) := by decide +kernel
theorem dL_law_281 : decode cL_law 281 = .ok (.iconst 1, 1) := by decide +kernel
theorem dL_law_282 : decode cL_law 282 = .ok (.goto 4, 3) := by decide +kernel
theorem dL_law_285 : decode cL_law 285 = .ok (.iconst 0, 1) := by decide +kernel
theorem dL_law_286 : decode cL_law 286 = .ok (.invokevirtual 27, 3) := by decide +kernel
theorem dL_law_289 : decode cL_law 289 = .ok (.pop, 1) := by decide +kernel
theorem dL_law_290 : decode cL_law 290 = .ok (.goto 570, 3) := by decide +kernel
theorem dL_law_293 : decode cL_law 293 = .ok (.aload_n 1, 1) := by decide +kernel
theorem dL_law_294 : decode cL_law 294 = .ok (.aload_n 0, 1) := by decide +kernel
theorem dL_law_295 : decode cL_law 295 = .ok (.iload_n 3, 1) := by decide +kernel
theorem dL_law_296 : decode cL_law 296 = .ok (.iconst 1, 1) := by decide +kernel
theorem dL_law_297 : decode cL_law 297 = .ok (.iadd, 1) := by decide +kernel
theorem dL_law_298 : decode cL_law 298 = .ok (.iaload, 1) := by decide +kernel
theorem dL_law_299 : decode cL_law 299 = .ok (.invokevirtual 28, 3) := by decide +kernel
theorem dL_law_302 : decode cL_law 302 = .ok (.pop, 1) := by decide +kernel
theorem dL_law_303 : decode cL_law 303 = .ok (.aload_n 2, 1) := by decide +kernel
theorem dL_law_304 : decode cL_law 304 = .ok (.aload_n 0, 1) := by decide +kernel
theorem dL_law_305 : decode cL_law 305 = .ok (.iload_n 3, 1) := by decide +kernel
theorem dL_law_306 : decode cL_law 306 = .ok (.iconst 1, 1) := by decide +kernel
theorem dL_law_307 : decode cL_law 307 = .ok (.iadd, 1) := by decide +kernel
theorem dL_law_308 : decode cL_law 308 = .ok (.iaload, 1) := by decide +kernel
theorem dL_law_309 : decode cL_law 309 = .ok (.invokevirtual 32, 3) := by decide +kernel
theorem dL_law_312 : decode cL_law 312 = .ok (.pop, 1) := by decide +kernel
theorem dL_law_313 : decode cL_law 313 = .ok (.goto 547, 3) := by decide +kernel
theorem dL_law_316 : decode cL_law 316 = .ok (.aload_n 1, 1) := by decide +kernel
theorem dL_law_317 : decode cL_law 317 = .ok (.aload_n 0, 1) := by decide +kernel
theorem dL_law_318 : decode cL_law 318 = .ok (.iload_n 3, 1) := by decide +kernel
theorem dL_law_319 : decode cL_law 319 = .ok (.iconst 1, 1) := by decide +kernel
theorem dL_law_320 : decode cL_law 320 = .ok (.iadd, 1) := by decide +kernel
theorem dL_law_321 : decode cL_law 321 = .ok (.iaload, 1) := by decide +kernel
theorem dL_law_322 : decode cL_law 322 = .ok (.aload_n 0, 1) := by decide +kernel
theorem dL_law_323 : decode cL_law 323 = .ok (.iload_n 3, 1) := by decide +kernel
theorem dL_law_324 : decode cL_law 324 = .ok (.iconst 2, 1) := by decide +kernel
theorem dL_law_325 : decode cL_law 325 = .ok (.iadd, 1) := by decide +kernel
theorem dL_law_326 : decode cL_law 326 = .ok (.iaload, 1) := by decide +kernel
theorem dL_law_327 : decode cL_law 327 = .ok (.aload_n 0, 1) := by decide +kernel
theorem dL_law_328 : decode cL_law 328 = .ok (.iload_n 3, 1) := by decide +kernel
theorem dL_law_329 : decode cL_law 329 = .ok (.iconst 3, 1) := by decide +kernel
theorem dL_law_330 : decode cL_law 330 = .ok (.iadd, 1) := by decide +kernel
theorem dL_law_331 : decode cL_law 331 = .ok (.iaload, 1) := by decide +kernel
theorem dL_law_332 : decode cL_law 332 = .ok (.aload_n 0, 1) := by decide +kernel
theorem dL_law_333 : decode cL_law 333 = .ok (.iload_n 3, 1) := by decide +kernel
theorem dL_law_334 : decode cL_law 334 = .ok (.iconst 4, 1) := by decide +kernel
theorem dL_law_335 : decode cL_law 335 = .ok (.iadd, 1) := by decide +kernel
theorem dL_law_336 : decode cL_law 336 = .ok (.iaload, 1) := by decide +kernel
theorem dL_law_337 : decode cL_law 337 = .ok (.aload_n 0, 1) := by decide +kernel
theorem dL_law_338 : decode cL_law 338 = .ok (.iload_n 3, 1) := by decide +kernel
theorem dL_law_339 : decode cL_law 339 = .ok (.iconst 5, 1) := by decide +kernel
theorem dL_law_340 : decode cL_law 340 = .ok (.iadd, 1) := by decide +kernel
theorem dL_law_341 : decode cL_law 341 = .ok (.iaload, 1) := by decide +kernel
theorem dL_law_342 : decode cL_law 342 = .ok (.invokevirtual 33, 3) := by decide +kernel
theorem dL_law_345 : decode cL_law 345 = .ok (.pop, 1) := by decide +kernel
theorem dL_law_346 : decode cL_law 346 = .ok (.aload_n 2, 1) := by decide +kernel
theorem dL_law_347 : decode cL_law 347 = .ok (.aload_n 0, 1) := by decide +kernel
theorem dL_law_348 : decode cL_law 348 = .ok (.iload_n 3, 1) := by decide +kernel
theorem dL_law_349 : decode cL_law 349 = .ok (.iconst 1, 1) := by decide +kernel
theorem dL_law_350 : decode cL_law 350 = .ok (.iadd, 1) := by decide +kernel
theorem dL_law_351 : decode cL_law 351 = .ok (.iaload, 1) := by decide +kernel
theorem dL_law_352 : decode cL_law 352 = .ok (.aload_n 0, 1) := by decide +kernel
theorem dL_law_353 : decode cL_law 353 = .ok (.iload_n 3, 1) := by decide +kernel
theorem dL_law_354 : decode cL_law 354 = .ok (.iconst 2, 1) := by decide +kernel
theorem dL_law_355 : decode cL_law 355 = .ok (.iadd, 1) := by decide +kernel
theorem dL_law_356 : decode cL_law 356 = .ok (.iaload, 1) := by decide +kernel
theorem dL_law_357 : decode cL_law 357 = .ok (.aload_n 0, 1) := by decide +kernel
theorem dL_law_358 : decode cL_law 358 = .ok (.iload_n 3, 1) := by decide +kernel
theorem dL_law_359 : decode cL_law 359 = .ok (.iconst 3, 1) := by decide +kernel
theorem dL_law_360 : decode cL_law 360 = .ok (.iadd, 1) := by decide +kernel
theorem dL_law_361 : decode cL_law 361 = .ok (.iaload, 1) := by decide +kernel
theorem dL_law_362 : decode cL_law 362 = .ok (.aload_n 0, 1) := by decide +kernel
theorem dL_law_363 : decode cL_law 363 = .ok (.iload_n 3, 1) := by decide +kernel
theorem dL_law_364 : decode cL_law 364 = .ok (.iconst 4, 1) := by decide +kernel
theorem dL_law_365 : decode cL_law 365 = .ok (.iadd, 1) := by decide +kernel
theorem dL_law_366 : decode cL_law 366 = .ok (.iaload, 1) := by decide +kernel
theorem dL_law_367 : decode cL_law 367 = .ok (.aload_n 0, 1) := by decide +kernel
theorem dL_law_368 : decode cL_law 368 = .ok (.iload_n 3, 1) := by decide +kernel
theorem dL_law_369 : decode cL_law 369 = .ok (.iconst 5, 1) := by decide +kernel
theorem dL_law_370 : decode cL_law 370 = .ok (.iadd, 1) := by decide +kernel
theorem dL_law_371 : decode cL_law 371 = .ok (.iaload, 1) := by decide +kernel
theorem dL_law_372 : decode cL_law 372 = .ok (.invokevirtual 37, 3) := by decide +kernel
theorem dL_law_375 : decode cL_law 375 = .ok (.pop, 1) := by decide +kernel
theorem dL_law_376 : decode cL_law 376 = .ok (.goto 484, 3) := by decide +kernel
theorem dL_law_379 : decode cL_law 379 = .ok (.aload_n 1, 1) := by decide +kernel
theorem dL_law_380 : decode cL_law 380 = .ok (.aload_n 0, 1) := by decide +kernel
theorem dL_law_381 : decode cL_law 381 = .ok (.iload_n 3, 1) := by decide +kernel
theorem dL_law_382 : decode cL_law 382 = .ok (.iconst 1, 1) := by decide +kernel
theorem dL_law_383 : decode cL_law 383 = .ok (.iadd, 1) := by decide +kernel
theorem dL_law_384 : decode cL_law 384 = .ok (.iaload, 1) := by decide +kernel
theorem dL_law_385 : decode cL_law 385 = .ok (.invokevirtual 38, 3) := by decide +kernel
theorem dL_law_388 : decode cL_law 388 = .ok (.pop, 1) := by decide +kernel
theorem dL_law_389 : decode cL_law 389 = .ok (.aload_n 2, 1) := by decide +kernel
theorem dL_law_390 : decode cL_law 390 = .ok (.aload_n 0, 1) := by decide +kernel
theorem dL_law_391 : decode cL_law 391 = .ok (.iload_n 3, 1) := by decide +kernel
theorem dL_law_392 : decode cL_law 392 = .ok (.iconst 1, 1) := by decide +kernel
theorem dL_law_393 : decode cL_law 393 = .ok (.iadd, 1) := by decide +kernel
theorem dL_law_394 : decode cL_law 394 = .ok (.iaload, 1) := by decide +kernel
theorem dL_law_395 : decode cL_law 395 = .ok (.invokevirtual 41, 3) := by decide +kernel
theorem dL_law_398 : decode cL_law 398 = .ok (.pop, 1) := by decide +kernel
theorem dL_law_399 : decode cL_law 399 = .ok (.goto 461, 3) := by decide +kernel
theorem dL_law_402 : decode cL_law 402 = .ok (.aload_n 1, 1) := by decide +kernel
theorem dL_law_403 : decode cL_law 403 = .ok (.aload_n 0, 1) := by decide +kernel
theorem dL_law_404 : decode cL_law 404 = .ok (.iload_n 3, 1) := by decide +kernel
theorem dL_law_405 : decode cL_law 405 = .ok (.iconst 1, 1) := by decide +kernel
theorem dL_law_406 : decode cL_law 406 = .ok (.iadd, 1) := by decide +kernel
theorem dL_law_407 : decode cL_law 407 = .ok (.iaload, 1) := by decide +kernel
theorem dL_law_408 : decode cL_law 408 = .ok (.invokevirtual 42, 3) := by decide +kernel
theorem dL_law_411 : decode cL_law 411 = .ok (.pop, 1) := by decide +kernel
theorem dL_law_412 : decode cL_law 412 = .ok (.aload_n 2, 1) := by decide +kernel
theorem dL_law_413 : decode cL_law 413 = .ok (.aload_n 0, 1) := by decide +kernel
theorem dL_law_414 : decode cL_law 414 = .ok (.iload_n 3, 1) := by decide +kernel
theorem dL_law_415 : decode cL_law 415 = .ok (.iconst 1, 1) := by decide +kernel
theorem dL_law_416 : decode cL_law 416 = .ok (.iadd, 1) := by decide +kernel
theorem dL_law_417 : decode cL_law 417 = .ok (.iaload, 1) := by decide +kernel
theorem dL_law_418 : decode cL_law 418 = .ok (.invokevirtual 45, 3) := by decide +kernel
theorem dL_law_421 : decode cL_law 421 = .ok (.pop, 1) := by decide +kernel
theorem dL_law_422 : decode cL_law 422 = .ok (.goto 438, 3) := by decide +kernel
theorem dL_law_425 : decode cL_law 425 = .ok (.aload_n 1, 1) := by decide +kernel
theorem dL_law_426 : decode cL_law 426 = .ok (.aload_n 0, 1) := by decide +kernel
theorem dL_law_427 : decode cL_law 427 = .ok (.iload_n 3, 1) := by decide +kernel
theorem dL_law_428 : decode cL_law 428 = .ok (.iconst 1, 1) := by decide +kernel
theorem dL_law_429 : decode cL_law 429 = .ok (.iadd, 1) := by decide +kernel
theorem dL_law_430 : decode cL_law 430 = .ok (.iaload, 1) := by decide +kernel
theorem dL_law_431 : decode cL_law 431 = .ok (.invokevirtual 46, 3) := by decide +kernel
theorem dL_law_434 : decode cL_law 434 = .ok (.pop, 1) := by decide +kernel
theorem dL_law_435 : decode cL_law 435 = .ok (.aload_n 2, 1) := by decide +kernel
theorem dL_law_436 : decode cL_law 436 = .ok (.aload_n 0, 1) := by decide +kernel
theorem dL_law_437 : decode cL_law 437 = .ok (.iload_n 3, 1) := by decide +kernel
theorem dL_law_438 : decode cL_law 438 = .ok (.iconst 1, 1) := by decide +kernel
theorem dL_law_439 : decode cL_law 439 = .ok (.iadd, 1) := by decide +kernel
theorem dL_law_440 : decode cL_law 440 = .ok (.iaload, 1) := by decide +kernel
theorem dL_law_441 : decode cL_law 441 = .ok (.invokevirtual 50, 3) := by decide +kernel
theorem dL_law_444 : decode cL_law 444 = .ok (.pop, 1) := by decide +kernel
theorem dL_law_445 : decode cL_law 445 = .ok (.goto 415, 3) := by decide +kernel
theorem dL_law_448 : decode cL_law 448 = .ok (.aload_n 1, 1) := by decide +kernel
theorem dL_law_449 : decode cL_law 449 = .ok (.aload_n 0, 1) := by decide +kernel
theorem dL_law_450 : decode cL_law 450 = .ok (.iload_n 3, 1) := by decide +kernel
theorem dL_law_451 : decode cL_law 451 = .ok (.iconst 1, 1) := by decide +kernel
theorem dL_law_452 : decode cL_law 452 = .ok (.iadd, 1) := by decide +kernel
theorem dL_law_453 : decode cL_law 453 = .ok (.iaload, 1) := by decide +kernel
theorem dL_law_454 : decode cL_law 454 = .ok (.invokevirtual 51, 3) := by decide +kernel
theorem dL_law_457 : decode cL_law 457 = .ok (.pop, 1) := by decide +kernel
theorem dL_law_458 : decode cL_law 458 = .ok (.aload_n 2, 1) := by decide +kernel
theorem dL_law_459 : decode cL_law 459 = .ok (.aload_n 0, 1) := by decide +kernel
theorem dL_law_460 : decode cL_law 460 = .ok (.iload_n 3, 1) := by decide +kernel
theorem dL_law_461 : decode cL_law 461 = .ok (.iconst 1, 1) := by decide +kernel
theorem dL_law_462 : decode cL_law 462 = .ok (.iadd, 1) := by decide +kernel
theorem dL_law_463 : decode cL_law 463 = .ok (.iaload, 1) := by decide +kernel
theorem dL_law_464 : decode cL_law 464 = .ok (.invokevirtual 54, 3) := by decide +kernel
theorem dL_law_467 : decode cL_law 467 = .ok (.pop, 1) := by decide +kernel
theorem dL_law_468 : decode cL_law 468 = .ok (.goto 392, 3) := by decide +kernel
theorem dL_law_471 : decode cL_law 471 = .ok (.aload_n 1, 1) := by decide +kernel
theorem dL_law_472 : decode cL_law 472 = .ok (.aload_n 0, 1) := by decide +kernel
theorem dL_law_473 : decode cL_law 473 = .ok (.iload_n 3, 1) := by decide +kernel
theorem dL_law_474 : decode cL_law 474 = .ok (.iconst 1, 1) := by decide +kernel
theorem dL_law_475 : decode cL_law 475 = .ok (.iadd, 1) := by decide +kernel
theorem dL_law_476 : decode cL_law 476 = .ok (.iaload, 1) := by decide +kernel
theorem dL_law_477 : decode cL_law 477 = .ok (.aload_n 0, 1) := by decide +kernel
theorem dL_law_478 : decode cL_law 478 = .ok (.iload_n 3, 1) := by decide +kernel
theorem dL_law_479 : decode cL_law 479 = .ok (.iconst 2, 1) := by decide +kernel
theorem dL_law_480 : decode cL_law 480 = .ok (.iadd, 1) := by decide +kernel
theorem dL_law_481 : decode cL_law 481 = .ok (.iaload, 1) := by decide +kernel
theorem dL_law_482 : decode cL_law 482 = .ok (.aload_n 0, 1) := by decide +kernel
theorem dL_law_483 : decode cL_law 483 = .ok (.iload_n 3, 1) := by decide +kernel
theorem dL_law_484 : decode cL_law 484 = .ok (.iconst 3, 1) := by decide +kernel
theorem dL_law_485 : decode cL_law 485 = .ok (.iadd, 1) := by decide +kernel
theorem dL_law_486 : decode cL_law 486 = .ok (.iaload, 1) := by decide +kernel
theorem dL_law_487 : decode cL_law 487 = .ok (.invokevirtual 55, 3) := by decide +kernel
theorem dL_law_490 : decode cL_law 490 = .ok (.pop, 1) := by decide +kernel
theorem dL_law_491 : decode cL_law 491 = .ok (.aload_n 2, 1) := by decide +kernel
theorem dL_law_492 : decode cL_law 492 = .ok (.aload_n 0, 1) := by decide +kernel
theorem dL_law_493 : decode cL_law 493 = .ok (.iload_n 3, 1) := by decide +kernel
theorem dL_law_494 : decode cL_law 494 = .ok (.iconst 1, 1) := by decide +kernel
theorem dL_law_495 : decode cL_law 495 = .ok (.iadd, 1) := by decide +kernel
theorem dL_law_496 : decode cL_law 496 = .ok (.iaload, 1) := by decide +kernel
theorem dL_law_497 : decode cL_law 497 = .ok (.aload_n 0, 1) := by decide +kernel
theorem dL_law_498 : decode cL_law 498 = .ok (.iload_n 3, 1) := by decide +kernel
theorem dL_law_499 : decode cL_law 499 = .ok (.iconst 2, 1) := by decide +kernel
theorem dL_law_500 : decode cL_law 500 = .ok (.iadd, 1) := by decide +kernel
theorem dL_law_501 : decode cL_law 501 = .ok (.iaload, 1) := by decide +kernel
theorem dL_law_502 : decode cL_law 502 = .ok (.aload_n 0, 1) := by decide +kernel
theorem dL_law_503 : decode cL_law 503 = .ok (.iload_n 3, 1) := by decide +kernel
theorem dL_law_504 : decode cL_law 504 = .ok (.iconst 3, 1) := by decide +kernel
theorem dL_law_505 : decode cL_law 505 = .ok (.iadd, 1) := by decide +kernel
theorem dL_law_506 : decode cL_law 506 = .ok (.iaload, 1) := by decide +kernel
theorem dL_law_507 : decode cL_law 507 = .ok (.invokevirtual 59, 3) := by decide +kernel
theorem dL_law_510 : decode cL_law 510 = .ok (.pop, 1) := by decide +kernel
theorem dL_law_511 : decode cL_law 511 = .ok (.goto 349, 3) := by decide +kernel
theorem dL_law_514 : decode cL_law 514 = .ok (.aload_n 1, 1) := by decide +kernel
theorem dL_law_515 : decode cL_law 515 = .ok (.aload_n 0, 1) := by decide +kernel
theorem dL_law_516 : decode cL_law 516 = .ok (.iload_n 3, 1) := by decide +kernel
theorem dL_law_517 : decode cL_law 517 = .ok (.iconst 1, 1) := by decide +kernel
theorem dL_law_518 : decode cL_law 518 = .ok (.iadd, 1) := by decide +kernel
theorem dL_law_519 : decode cL_law 519 = .ok (.iaload, 1) := by decide +kernel
theorem dL_law_520 : decode cL_law 520 = .ok (.invokevirtual 60, 3) := by decide +kernel
theorem dL_law_523 : decode cL_law 523 = .ok (.pop, 1) := by decide +kernel
theorem dL_law_524 : decode cL_law 524 = .ok (.aload_n 2, 1) := by decide +kernel
theorem dL_law_525 : decode cL_law 525 = .ok (.aload_n 0, 1) := by decide +kernel
theorem dL_law_526 : decode cL_law 526 = .ok (.iload_n 3, 1) := by decide +kernel
theorem dL_law_527 : decode cL_law 527 = .ok (.iconst 1, 1) := by decide +kernel
theorem dL_law_528 : decode cL_law 528 = .ok (.iadd, 1) := by decide +kernel
theorem dL_law_529 : decode cL_law 529 = .ok (.iaload, 1) := by decide +kernel
theorem dL_law_530 : decode cL_law 530 = .ok (.invokevirtual 63, 3) := by decide +kernel
theorem dL_law_533 : decode cL_law 533 = .ok (.pop, 1) := by decide +kernel
theorem dL_law_534 : decode cL_law 534 = .ok (.goto 326, 3) := by decide +kernel
theorem dL_law_537 : decode cL_law 537 = .ok (.aload_n 1, 1) := by decide +kernel
theorem dL_law_538 : decode cL_law 538 = .ok (.aload_n 0, 1) := by decide +kernel
theorem dL_law_539 : decode cL_law 539 = .ok (.iload_n 3, 1) := by decide +kernel
theorem dL_law_540 : decode cL_law 540 = .ok (.iconst 1, 1) := by decide +kernel
theorem dL_law_541 : decode cL_law 541 = .ok (.iadd, 1) := by decide +kernel
theorem dL_law_542 : decode cL_law 542 = .ok (.iaload, 1) := by decide +kernel
theorem dL_law_543 : decode cL_law 543 = .ok (.invokevirtual 64, 3) := by decide +kernel
theorem dL_law_546 : decode cL_law 546 = .ok (.pop2, 1) := by decide +kernel
theorem dL_law_547 : decode cL_law 547 = .ok (.aload_n 2, 1) := by decide +kernel
theorem dL_law_548 : decode cL_law 548 = .ok (.aload_n 0, 1) := by decide +kernel
theorem dL_law_549 : decode cL_law 549 = .ok (.iload_n 3, 1) := by decide +kernel
theorem dL_law_550 : decode cL_law 550 = .ok (.iconst 1, 1) := by decide +kernel
theorem dL_law_551 : decode cL_law 551 = .ok (.iadd, 1) := by decide +kernel
theorem dL_law_552 : decode cL_law 552 = .ok (.iaload, 1) := by decide +kernel
theorem dL_law_553 : decode cL_law 553 = .ok (.invokevirtual 68, 3) := by decide +kernel
theorem dL_law_556 : decode cL_law 556 = .ok (.pop2, 1) := by decide +kernel
theorem dL_law_557 : decode cL_law 557 = .ok (.goto 303, 3) := by decide +kernel
theorem dL_law_560 : decode cL_law 560 = .ok (.aload_n 1, 1) := by decide +kernel
theorem dL_law_561 : decode cL_law 561 = .ok (.aload_n 0, 1) := by decide +kernel
theorem dL_law_562 : decode cL_law 562 = .ok (.iload_n 3, 1) := by decide +kernel
theorem dL_law_563 : decode cL_law 563 = .ok (.iconst 1, 1) := by decide +kernel
theorem dL_law_564 : decode cL_law 564 = .ok (.iadd, 1) := by decide +kernel
theorem dL_law_565 : decode cL_law 565 = .ok (.iaload, 1) := by decide +kernel
theorem dL_law_566 : decode cL_law 566 = .ok (.aload_n 0, 1) := by decide +kernel
theorem dL_law_567 : decode cL_law 567 = .ok (.iload_n 3, 1) := by decide +kernel
theorem dL_law_568 : decode cL_law 568 = .ok (.iconst 2, 1) := by decide +kernel
theorem dL_law_569 : decode cL_law 569 = .ok (.iadd, 1) := by decide +kernel
theorem dL_law_570 : decode cL_law 570 = .ok (.iaload, 1) := by decide +kernel
theorem dL_law_571 : decode cL_law 571 = .ok (.invokevirtual 69, 3) := by decide +kernel
theorem dL_law_574 : decode cL_law 574 = .ok (.pop, 1) := by decide +kernel
theorem dL_law_575 : decode cL_law 575 = .ok (.aload_n 2, 1) := by decide +kernel
theorem dL_law_576 : decode cL_law 576 = .ok (.aload_n 0, 1) := by decide +kernel
theorem dL_law_577 : decode cL_law 577 = .ok (.iload_n 3, 1) := by decide +kernel
theorem dL_law_578 : decode cL_law 578 = .ok (.iconst 1, 1) := by decide +kernel
theorem dL_law_579 : decode cL_law 579 = .ok (.iadd, 1) := by decide +kernel
theorem dL_law_580 : decode cL_law 580 = .ok (.iaload, 1) := by decide +kernel
theorem dL_law_581 : decode cL_law 581 = .ok (.aload_n 0, 1) := by decide +kernel
theorem dL_law_582 : decode cL_law 582 = .ok (.iload_n 3, 1) := by decide +kernel
theorem dL_law_583 : decode cL_law 583 = .ok (.iconst 2, 1) := by decide +kernel
theorem dL_law_584 : decode cL_law 584 = .ok (.iadd, 1) := by decide +kernel
theorem dL_law_585 : decode cL_law 585 = .ok (.iaload, 1) := by decide +kernel
theorem dL_law_586 : decode cL_law 586 = .ok (.invokevirtual 73, 3) := by decide +kernel
theorem dL_law_589 : decode cL_law 589 = .ok (.pop, 1) := by decide +kernel
theorem dL_law_590 : decode cL_law 590 = .ok (.goto 270, 3) := by decide +kernel
theorem dL_law_593 : decode cL_law 593 = .ok (.aload_n 1, 1) := by decide +kernel
theorem dL_law_594 : decode cL_law 594 = .ok (.aload_n 0, 1) := by decide +kernel
theorem dL_law_595 : decode cL_law 595 = .ok (.iload_n 3, 1) := by decide +kernel
theorem dL_law_596 : decode cL_law 596 = .ok (.iconst 1, 1) := by decide +kernel
theorem dL_law_597 : decode cL_law 597 = .ok (.iadd, 1) := by decide +kernel
theorem dL_law_598 : decode cL_law 598 = .ok (.iaload, 1) := by decide +kernel
theorem dL_law_599 : decode cL_law 599 = .ok (.aload_n 0, 1) := by decide +kernel
theorem dL_law_600 : decode cL_law 600 = .ok (.iload_n 3, 1) := by decide +kernel
theorem dL_law_601 : decode cL_law 601 = .ok (.iconst 2, 1) := by decide +kernel
theorem dL_law_602 : decode cL_law 602 = .ok (.iadd, 1) := by decide +kernel
theorem dL_law_603 : decode cL_law 603 = .ok (.iaload, 1) := by decide +kernel
theorem dL_law_604 : decode cL_law 604 = .ok (.invokevirtual 74, 3) := by decide +kernel
theorem dL_law_607 : decode cL_law 607 = .ok (.pop, 1) := by decide +kernel
theorem dL_law_608 : decode cL_law 608 = .ok (.aload_n 2, 1) := by decide +kernel
theorem dL_law_609 : decode cL_law 609 = .ok (.aload_n 0, 1) := by decide +kernel
theorem dL_law_610 : decode cL_law 610 = .ok (.iload_n 3, 1) := by decide +kernel
theorem dL_law_611 : decode cL_law 611 = .ok (.iconst 1, 1) := by decide +kernel
theorem dL_law_612 : decode cL_law 612 = .ok (.iadd, 1) := by decide +kernel
theorem dL_law_613 : decode cL_law 613 = .ok (.iaload, 1) := by decide +kernel
theorem dL_law_614 : decode cL_law 614 = .ok (.aload_n 0, 1) := by decide +kernel
theorem dL_law_615 : decode cL_law 615 = .ok (.iload_n 3, 1) := by decide +kernel
theorem dL_law_616 : decode cL_law 616 = .ok (.iconst 2, 1) := by decide +kernel
theorem dL_law_617 : decode cL_law 617 = .ok (.iadd, 1) := by decide +kernel
theorem dL_law_618 : decode cL_law 618 = .ok (.iaload, 1) := by decide +kernel
theorem dL_law_619 : decode cL_law 619 = .ok (.invokevirtual 77, 3) := by decide +kernel
theorem dL_law_622 : decode cL_law 622 = .ok (.pop, 1) := by decide +kernel
theorem dL_law_623 : decode cL_law 623 = .ok (.goto 237, 3) := by decide +kernel
theorem dL_law_626 : decode cL_law 626 = .ok (.aload_n 1, 1) := by decide +kernel
theorem dL_law_627 : decode cL_law 627 = .ok (.aload_n 0, 1) := by decide +kernel
theorem dL_law_628 : decode cL_law 628 = .ok (.iload_n 3, 1) := by decide +kernel
theorem dL_law_629 : decode cL_law 629 = .ok (.iconst 1, 1) := by decide +kernel
theorem dL_law_630 : decode cL_law 630 = .ok (.iadd, 1) := by decide +kernel
theorem dL_law_631 : decode cL_law 631 = .ok (.iaload, 1) := by decide +kernel
theorem dL_law_632 : decode cL_law 632 = .ok (.aload_n 0, 1) := by decide +kernel
theorem dL_law_633 : decode cL_law 633 = .ok (.iload_n 3, 1) := by decide +kernel
theorem dL_law_634 : decode cL_law 634 = .ok (.iconst 2, 1) := by decide +kernel
theorem dL_law_635 : decode cL_law 635 = .ok (.iadd, 1) := by decide +kernel
theorem dL_law_636 : decode cL_law 636 = .ok (.iaload, 1) := by decide +kernel
theorem dL_law_637 : decode cL_law 637 = .ok (.aload_n 0, 1) := by decide +kernel
theorem dL_law_638 : decode cL_law 638 = .ok (.iload_n 3, 1) := by decide +kernel
theorem dL_law_639 : decode cL_law 639 = .ok (.iconst 3, 1) := by decide +kernel
theorem dL_law_640 : decode cL_law 640 = .ok (.iadd, 1) := by decide +kernel
theorem dL_law_641 : decode cL_law 641 = .ok (.iaload, 1) := by decide +kernel
theorem dL_law_642 : decode cL_law 642 = .ok (.invokevirtual 78, 3) := by decide +kernel
theorem dL_law_645 : decode cL_law 645 = .ok (.pop, 1) := by decide +kernel
theorem dL_law_646 : decode cL_law 646 = .ok (.aload_n 2, 1) := by decide +kernel
theorem dL_law_647 : decode cL_law 647 = .ok (.aload_n 0, 1) := by decide +kernel
theorem dL_law_648 : decode cL_law 648 = .ok (.iload_n 3, 1) := by decide +kernel
theorem dL_law_649 : decode cL_law 649 = .ok (.iconst 1, 1) := by decide +kernel
theorem dL_law_650 : decode cL_law 650 = .ok (.iadd, 1) := by decide +kernel
theorem dL_law_651 : decode cL_law 651 = .ok (.iaload, 1) := by decide +kernel
theorem dL_law_652 : decode cL_law 652 = .ok (.aload_n 0, 1) := by decide +kernel
theorem dL_law_653 : decode cL_law 653 = .ok (.iload_n 3, 1) := by decide +kernel
theorem dL_law_654 : decode cL_law 654 = .ok (.iconst 2, 1) := by decide +kernel
theorem dL_law_655 : decode cL_law 655 = .ok (.iadd, 1) := by decide +kernel
theorem dL_law_656 : decode cL_law 656 = .ok (.iaload, 1) := by decide +kernel
theorem dL_law_657 : decode cL_law 657 = .ok (.aload_n 0, 1) := by decide +kernel
theorem dL_law_658 : decode cL_law 658 = .ok (.iload_n 3, 1) := by decide +kernel
theorem dL_law_659 : decode cL_law 659 = .ok (.iconst 3, 1) := by decide +kernel
theorem dL_law_660 : decode cL_law 660 = .ok (.iadd, 1) := by decide +kernel
theorem dL_law_661 : decode cL_law 661 = .ok (.iaload, 1) := by decide +kernel
theorem dL_law_662 : decode cL_law 662 = .ok (.invokevirtual 81, 3) := by decide +kernel
theorem dL_law_665 : decode cL_law 665 = .ok (.pop, 1) := by decide +kernel
theorem dL_law_666 : decode cL_law 666 = .ok (.goto 194, 3) := by decide +kernel
theorem dL_law_669 : decode cL_law 669 = .ok (.aload_n 1, 1) := by decide +kernel
theorem dL_law_670 : decode cL_law 670 = .ok (.aload_n 0, 1) := by decide +kernel
theorem dL_law_671 : decode cL_law 671 = .ok (.iload_n 3, 1) := by decide +kernel
theorem dL_law_672 : decode cL_law 672 = .ok (.iconst 1, 1) := by decide +kernel
theorem dL_law_673 : decode cL_law 673 = .ok (.iadd, 1) := by decide +kernel
theorem dL_law_674 : decode cL_law 674 = .ok (.iaload, 1) := by decide +kernel
theorem dL_law_675 : decode cL_law 675 = .ok (.aload_n 0, 1) := by decide +kernel
theorem dL_law_676 : decode cL_law 676 = .ok (.iload_n 3, 1) := by decide +kernel
theorem dL_law_677 : decode cL_law 677 = .ok (.iconst 2, 1) := by decide +kernel
theorem dL_law_678 : decode cL_law 678 = .ok (.iadd, 1) := by decide +kernel
theorem dL_law_679 : decode cL_law 679 = .ok (.iaload, 1) := by decide +kernel
theorem dL_law_680 : decode cL_law 680 = .ok (.invokevirtual 82, 3) := by decide +kernel
theorem dL_law_683 : decode cL_law 683 = .ok (.aload_n 2, 1) := by decide +kernel
theorem dL_law_684 : decode cL_law 684 = .ok (.aload_n 0, 1) := by decide +kernel
theorem dL_law_685 : decode cL_law 685 = .ok (.iload_n 3, 1) := by decide +kernel
theorem dL_law_686 : decode cL_law 686 = .ok (.iconst 1, 1) := by decide +kernel
theorem dL_law_687 : decode cL_law 687 = .ok (.iadd, 1) := by decide +kernel
theorem dL_law_688 : decode cL_law 688 = .ok (.iaload, 1) := by decide +kernel
theorem dL_law_689 : decode cL_law 689 = .ok (.aload_n 0, 1) := by decide +kernel
theorem dL_law_690 : decode cL_law 690 = .ok (.iload_n 3, 1) := by decide +kernel
theorem dL_law_691 : decode cL_law 691 = .ok (.iconst 2, 1) := by decide +kernel
theorem dL_law_692 : decode cL_law 692 = .ok (.iadd, 1) := by decide +kernel
theorem dL_law_693 : decode cL_law 693 = .ok (.iaload, 1) := by decide +kernel
theorem dL_law_694 : decode cL_law 694 = .ok (.invokevirtual 85, 3) := by decide +kernel
theorem dL_law_697 : decode cL_law 697 = .ok (.if_icmp .eq 163, 3) := by decide +kernel
theorem dL_law_700 : decode cL_law 700 = .ok (.iconst 0, 1) := by decide +kernel
theorem dL_law_701 : decode cL_law 701 = .ok (.ireturn, 1) := by decide +kernel
theorem dL_law_702 : decode cL_law 702 = .ok (.aload_n 1, 1) := by decide +kernel
theorem dL_law_703 : decode cL_law 703 = .ok (.aload_n 0, 1) := by decide +kernel
theorem dL_law_704 : decode cL_law 704 = .ok (.iload_n 3, 1) := by decide +kernel
theorem dL_law_705 : decode cL_law 705 = .ok (.iconst 1, 1) := by decide +kernel
theorem dL_law_706 : decode cL_law 706 = .ok (.iadd, 1) := by decide +kernel
theorem dL_law_707 : decode cL_law 707 = .ok (.iaload, 1) := by decide +kernel
theorem dL_law_708 : decode cL_law 708 = .ok (.aload_n 0, 1) := by decide +kernel
theorem dL_law_709 : decode cL_law 709 = .ok (.iload_n 3, 1) := by decide +kernel
theorem dL_law_710 : decode cL_law 710 = .ok (.iconst 2, 1) := by decide +kernel
theorem dL_law_711 : decode cL_law 711 = .ok (.iadd, 1) := by decide +kernel
theorem dL_law_712 : decode cL_law 712 = .ok (.iaload, 1) := by decide +kernel
theorem dL_law_713 : decode cL_law 713 = .ok (.aload_n 0, 1) := by decide +kernel
theorem dL_law_714 : decode cL_law 714 = .ok (.iload_n 3, 1) := by decide +kernel
theorem dL_law_715 : decode cL_law 715 = .ok (.iconst 3, 1) := by decide +kernel
theorem dL_law_716 : decode cL_law 716 = .ok (.iadd, 1) := by decide +kernel
theorem dL_law_717 : decode cL_law 717 = .ok (.iaload, 1) := by decide +kernel
theorem dL_law_718 : decode cL_law 718 = .ok (.ifCond .eq 7, 3) := by decide +kernel
theorem dL_law_721 : decode cL_law 721 = .ok (.iconst 1, 1) := by decide +kernel
theorem dL_law_722 : decode cL_law 722 = .ok (.goto 4, 3) := by decide +kernel
theorem dL_law_725 : decode cL_law 725 = .ok (.iconst 0, 1) := by decide +kernel
theorem dL_law_726 : decode cL_law 726 = .ok (.aload_n 0, 1) := by decide +kernel
theorem dL_law_727 : decode cL_law 727 = .ok (.iload_n 3, 1) := by decide +kernel
theorem dL_law_728 : decode cL_law 728 = .ok (.iconst 4, 1) := by decide +kernel
theorem dL_law_729 : decode cL_law 729 = .ok (.iadd, 1) := by decide +kernel
theorem dL_law_730 : decode cL_law 730 = .ok (.iaload, 1) := by decide +kernel
theorem dL_law_731 : decode cL_law 731 = .ok (.invokevirtual 86, 3) := by decide +kernel
theorem dL_law_734 : decode cL_law 734 = .ok (.pop, 1) := by decide +kernel
theorem dL_law_735 : decode cL_law 735 = .ok (.aload_n 2, 1) := by decide +kernel
theorem dL_law_736 : decode cL_law 736 = .ok (.aload_n 0, 1) := by decide +kernel
theorem dL_law_737 : decode cL_law 737 = .ok (.iload_n 3, 1) := by decide +kernel
theorem dL_law_738 : decode cL_law 738 = .ok (.iconst 1, 1) := by decide +kernel
theorem dL_law_739 : decode cL_law 739 = .ok (.iadd, 1) := by decide +kernel
theorem dL_law_740 : decode cL_law 740 = .ok (.iaload, 1) := by decide +kernel
theorem dL_law_741 : decode cL_law 741 = .ok (.aload_n 0, 1) := by decide +kernel
theorem dL_law_742 : decode cL_law 742 = .ok (.iload_n 3, 1) := by decide +kernel
theorem dL_law_743 : decode cL_law 743 = .ok (.iconst 2, 1) := by decide +kernel
theorem dL_law_744 : decode cL_law 744 = .ok (.iadd, 1) := by decide +kernel
theorem dL_law_745 : decode cL_law 745 = .ok (.iaload, 1) := by decide +kernel
theorem dL_law_746 : decode cL_law 746 = .ok (.aload_n 0, 1) := by decide +kernel
theorem dL_law_747 : decode cL_law 747 = .ok (.iload_n 3, 1) := by decide +kernel
theorem dL_law_748 : decode cL_law 748 = .ok (.iconst 3, 1) := by decide +kernel
theorem dL_law_749 : decode cL_law 749 = .ok (.iadd, 1) := by decide +kernel
theorem dL_law_750 : decode cL_law 750 = .ok (.iaload, 1) := by decide +kernel
theorem dL_law_751 : decode cL_law 751 = .ok (.ifCond .eq 7, 3) := by decide +kernel
theorem dL_law_754 : decode cL_law 754 = .ok (.iconst 1, 1) := by decide +kernel
theorem dL_law_755 : decode cL_law 755 = .ok (.goto 4, 3) := by decide +kernel
theorem dL_law_758 : decode cL_law 758 = .ok (.iconst 0, 1) := by decide +kernel
theorem dL_law_759 : decode cL_law 759 = .ok (.aload_n 0, 1) := by decide +kernel
theorem dL_law_760 : decode cL_law 760 = .ok (.iload_n 3, 1) := by decide +kernel
theorem dL_law_761 : decode cL_law 761 = .ok (.iconst 4, 1) := by decide +kernel
theorem dL_law_762 : decode cL_law 762 = .ok (.iadd, 1) := by decide +kernel
theorem dL_law_763 : decode cL_law 763 = .ok (.iaload, 1) := by decide +kernel
theorem dL_law_764 : decode cL_law 764 = .ok (.invokevirtual 90, 3) := by decide +kernel
theorem dL_law_767 : decode cL_law 767 = .ok (.pop, 1) := by decide +kernel
theorem dL_law_768 : decode cL_law 768 = .ok (.goto 92, 3) := by decide +kernel
theorem dL_law_771 : decode cL_law 771 = .ok (.aload_n 1, 1) := by decide +kernel
theorem dL_law_772 : decode cL_law 772 = .ok (.aload_n 0, 1) := by decide +kernel
theorem dL_law_773 : decode cL_law 773 = .ok (.iload_n 3, 1) := by decide +kernel
theorem dL_law_774 : decode cL_law 774 = .ok (.iconst 1, 1) := by decide +kernel
theorem dL_law_775 : decode cL_law 775 = .ok (.iadd, 1) := by decide +kernel
theorem dL_law_776 : decode cL_law 776 = .ok (.iaload, 1) := by decide +kernel
theorem dL_law_777 : decode cL_law 777 = .ok (.aload_n 0, 1) := by decide +kernel
theorem dL_law_778 : decode cL_law 778 = .ok (.iload_n 3, 1) := by decide +kernel
theorem dL_law_779 : decode cL_law 779 = .ok (.iconst 2, 1) := by decide +kernel
theorem dL_law_780 : decode cL_law 780 = .ok (.iadd, 1) := by decide +kernel
theorem dL_law_781 : decode cL_law 781 = .ok (.iaload, 1) := by decide +kernel
theorem dL_law_782 : decode cL_law 782 = .ok (.aload_n 0, 1) := by decide +kernel
theorem dL_law_783 : decode cL_law 783 = .ok (.iload_n 3, 1) := by decide +kernel
theorem dL_law_784 : decode cL_law 784 = .ok (.iconst 3, 1) := by decide +kernel
theorem dL_law_785 : decode cL_law 785 = .ok (.iadd, 1) := by decide +kernel
theorem dL_law_786 : decode cL_law 786 = .ok (.iaload, 1) := by decide +kernel
theorem dL_law_787 : decode cL_law 787 = .ok (.invokevirtual 91, 3) := by decide +kernel
theorem dL_law_790 : decode cL_law 790 = .ok (.pop, 1) := by decide +kernel
theorem dL_law_791 : decode cL_law 791 = .ok (.aload_n 2, 1) := by decide +kernel
theorem dL_law_792 : decode cL_law 792 = .ok (.aload_n 0, 1) := by decide +kernel
theorem dL_law_793 : decode cL_law 793 = .ok (.iload_n 3, 1) := by decide +kernel
theorem dL_law_794 : decode cL_law 794 = .ok (.iconst 1, 1) := by decide +kernel
theorem dL_law_795 : decode cL_law 795 = .ok (.iadd, 1) := by decide +kernel
theorem dL_law_796 : decode cL_law 796 = .ok (.iaload, 1) := by decide +kernel
theorem dL_law_797 : decode cL_law 797 = .ok (.aload_n 0, 1) := by decide +kernel
theorem dL_law_798 : decode cL_law 798 = .ok (.iload_n 3, 1) := by decide +kernel
theorem dL_law_799 : decode cL_law 799 = .ok (.iconst 2, 1) := by decide +kernel
theorem dL_law_800 : decode cL_law 800 = .ok (.iadd, 1) := by decide +kernel
theorem dL_law_801 : decode cL_law 801 = .ok (.iaload, 1) := by decide +kernel
theorem dL_law_802 : decode cL_law 802 = .ok (.aload_n 0, 1) := by decide +kernel
theorem dL_law_803 : decode cL_law 803 = .ok (.iload_n 3, 1) := by decide +kernel
theorem dL_law_804 : decode cL_law 804 = .ok (.iconst 3, 1) := by decide +kernel
theorem dL_law_805 : decode cL_law 805 = .ok (.iadd, 1) := by decide +kernel
theorem dL_law_806 : decode cL_law 806 = .ok (.iaload, 1) := by decide +kernel
theorem dL_law_807 : decode cL_law 807 = .ok (.invokevirtual 94, 3) := by decide +kernel
theorem dL_law_810 : decode cL_law 810 = .ok (.pop, 1) := by decide +kernel
theorem dL_law_811 : decode cL_law 811 = .ok (.goto 49, 3) := by decide +kernel
theorem dL_law_814 : decode cL_law 814 = .ok (.aload_n 1, 1) := by decide +kernel
theorem dL_law_815 : decode cL_law 815 = .ok (.invokevirtual 95, 3) := by decide +kernel
theorem dL_law_818 : decode cL_law 818 = .ok (.pop, 1) := by decide +kernel
theorem dL_law_819 : decode cL_law 819 = .ok (.aload_n 2, 1) := by decide +kernel
theorem dL_law_820 : decode cL_law 820 = .ok (.invokevirtual 99, 3) := by decide +kernel
theorem dL_law_823 : decode cL_law 823 = .ok (.pop, 1) := by decide +kernel
theorem dL_law_824 : decode cL_law 824 = .ok (.goto 36, 3) := by decide +kernel
theorem dL_law_827 : decode cL_law 827 = .ok (.aload_n 1, 1) := by decide +kernel
theorem dL_law_828 : decode cL_law 828 = .ok (.aload_n 0, 1) := by decide +kernel
theorem dL_law_829 : decode cL_law 829 = .ok (.iload_n 3, 1) := by decide +kernel
theorem dL_law_830 : decode cL_law 830 = .ok (.iconst 1, 1) := by decide +kernel
theorem dL_law_831 : decode cL_law 831 = .ok (.iadd, 1) := by decide +kernel
theorem dL_law_832 : decode cL_law 832 = .ok (.iaload, 1) := by decide +kernel
theorem dL_law_833 : decode cL_law 833 = .ok (.aload_n 0, 1) := by decide +kernel
theorem dL_law_834 : decode cL_law 834 = .ok (.iload_n 3, 1) := by decide +kernel
theorem dL_law_835 : decode cL_law 835 = .ok (.iconst 2, 1) := by decide +kernel
theorem dL_law_836 : decode cL_law 836 = .ok (.iadd, 1) := by decide +kernel
theorem dL_law_837 : decode cL_law 837 = .ok (.iaload, 1) := by decide +kernel
theorem dL_law_838 : decode cL_law 838 = .ok (.invokevirtual 100, 3) := by decide +kernel
theorem dL_law_841 : decode cL_law 841 = .ok (.pop, 1) := by decide +kernel
theorem dL_law_842 : decode cL_law 842 = .ok (.aload_n 2, 1) := by decide +kernel
theorem dL_law_843 : decode cL_law 843 = .ok (.aload_n 0, 1) := by decide +kernel
theorem dL_law_844 : decode cL_law 844 = .ok (.iload_n 3, 1) := by decide +kernel
theorem dL_law_845 : decode cL_law 845 = .ok (.iconst 1, 1) := by decide +kernel
theorem dL_law_846 : decode cL_law 846 = .ok (.iadd, 1) := by decide +kernel
theorem dL_law_847 : decode cL_law 847 = .ok (.iaload, 1) := by decide +kernel
theorem dL_law_848 : decode cL_law 848 = .ok (.aload_n 0, 1) := by decide +kernel
theorem dL_law_849 : decode cL_law 849 = .ok (.iload_n 3, 1) := by decide +kernel
theorem dL_law_850 : decode cL_law 850 = .ok (.iconst 2, 1) := by decide +kernel
theorem dL_law_851 : decode cL_law 851 = .ok (.iadd, 1) := by decide +kernel
theorem dL_law_852 : decode cL_law 852 = .ok (.iaload, 1) := by decide +kernel
theorem dL_law_853 : decode cL_law 853 = .ok (.invokevirtual 103, 3) := by decide +kernel
theorem dL_law_856 : decode cL_law 856 = .ok (.pop, 1) := by decide +kernel
theorem dL_law_857 : decode cL_law 857 = .ok (.goto 3, 3) := by decide +kernel
theorem dL_law_860 : decode cL_law 860 = .ok (.iinc 3 6, 3) := by decide +kernel
theorem dL_law_863 : decode cL_law 863 = .ok (.goto (-845), 3) := by decide +kernel
theorem dL_law_866 : decode cL_law 866 = .ok (.iconst 1, 1) := by decide +kernel
theorem dL_law_867 : decode cL_law 867 = .ok (.ireturn, 1) := by decide +kernel
