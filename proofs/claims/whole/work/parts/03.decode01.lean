theorem d_Board_isCandidate_0 : decode b_Board_isCandidate 0 = .ok (.aload_n 0, 1) := by decide +kernel
theorem d_Board_isCandidate_1 : decode b_Board_isCandidate 1 = .ok (.iload_n 1, 1) := by decide +kernel
theorem d_Board_isCandidate_2 : decode b_Board_isCandidate 2 = .ok (.invokevirtual 38, 3) := by decide +kernel
theorem d_Board_isCandidate_5 : decode b_Board_isCandidate 5 = .ok (.ifCond .eq 28, 3) := by decide +kernel
theorem d_Board_isCandidate_8 : decode b_Board_isCandidate 8 = .ok (.aload_n 0, 1) := by decide +kernel
theorem d_Board_isCandidate_9 : decode b_Board_isCandidate 9 = .ok (.iload_n 2, 1) := by decide +kernel
theorem d_Board_isCandidate_10 : decode b_Board_isCandidate 10 = .ok (.invokevirtual 42, 3) := by decide +kernel
theorem d_Board_isCandidate_13 : decode b_Board_isCandidate 13 = .ok (.ifCond .eq 20, 3) := by decide +kernel
theorem d_Board_isCandidate_16 : decode b_Board_isCandidate 16 = .ok (.aload_n 0, 1) := by decide +kernel
theorem d_Board_isCandidate_17 : decode b_Board_isCandidate 17 = .ok (.getfield 15, 3) := by decide +kernel
theorem d_Board_isCandidate_20 : decode b_Board_isCandidate 20 = .ok (.iload_n 1, 1) := by decide +kernel
theorem d_Board_isCandidate_21 : decode b_Board_isCandidate 21 = .ok (.laload, 1) := by decide +kernel
theorem d_Board_isCandidate_22 : decode b_Board_isCandidate 22 = .ok (.iload_n 2, 1) := by decide +kernel
theorem d_Board_isCandidate_23 : decode b_Board_isCandidate 23 = .ok (.invokestatic 45, 3) := by decide +kernel
theorem d_Board_isCandidate_26 : decode b_Board_isCandidate 26 = .ok (.ifCond .eq 7, 3) := by decide +kernel
theorem d_Board_isCandidate_29 : decode b_Board_isCandidate 29 = .ok (.iconst 1, 1) := by decide +kernel
theorem d_Board_isCandidate_30 : decode b_Board_isCandidate 30 = .ok (.goto 4, 3) := by decide +kernel
theorem d_Board_isCandidate_33 : decode b_Board_isCandidate 33 = .ok (.iconst 0, 1) := by decide +kernel
theorem d_Board_isCandidate_34 : decode b_Board_isCandidate 34 = .ok (.ireturn, 1) := by decide +kernel
theorem d_Board_reasonFor_0 : decode b_Board_reasonFor 0 = .ok (.aload_n 0, 1) := by decide +kernel
theorem d_Board_reasonFor_1 : decode b_Board_reasonFor 1 = .ok (.iload_n 1, 1) := by decide +kernel
theorem d_Board_reasonFor_2 : decode b_Board_reasonFor 2 = .ok (.invokevirtual 38, 3) := by decide +kernel
theorem d_Board_reasonFor_5 : decode b_Board_reasonFor 5 = .ok (.ifCond .eq 24, 3) := by decide +kernel
theorem d_Board_reasonFor_8 : decode b_Board_reasonFor 8 = .ok (.aload_n 0, 1) := by decide +kernel
theorem d_Board_reasonFor_9 : decode b_Board_reasonFor 9 = .ok (.iload_n 2, 1) := by decide +kernel
theorem d_Board_reasonFor_10 : decode b_Board_reasonFor 10 = .ok (.invokevirtual 42, 3) := by decide +kernel
theorem d_Board_reasonFor_13 : decode b_Board_reasonFor 13 = .ok (.ifCond .eq 16, 3) := by decide +kernel
theorem d_Board_reasonFor_16 : decode b_Board_reasonFor 16 = .ok (.aload_n 0, 1) := by decide +kernel
theorem d_Board_reasonFor_17 : decode b_Board_reasonFor 17 = .ok (.getfield 15, 3) := by decide +kernel
theorem d_Board_reasonFor_20 : decode b_Board_reasonFor 20 = .ok (.iload_n 1, 1) := by decide +kernel
theorem d_Board_reasonFor_21 : decode b_Board_reasonFor 21 = .ok (.laload, 1) := by decide +kernel
theorem d_Board_reasonFor_22 : decode b_Board_reasonFor 22 = .ok (.iload_n 2, 1) := by decide +kernel
theorem d_Board_reasonFor_23 : decode b_Board_reasonFor 23 = .ok (.invokestatic 45, 3) := by decide +kernel
theorem d_Board_reasonFor_26 : decode b_Board_reasonFor 26 = .ok (.ifCond .eq 5, 3) := by decide +kernel
theorem d_Board_reasonFor_29 : decode b_Board_reasonFor 29 = .ok (.iconst (-1), 1) := by decide +kernel
theorem d_Board_reasonFor_30 : decode b_Board_reasonFor 30 = .ok (.ireturn, 1) := by decide +kernel
theorem d_Board_reasonFor_31 : decode b_Board_reasonFor 31 = .ok (.aload_n 0, 1) := by decide +kernel
theorem d_Board_reasonFor_32 : decode b_Board_reasonFor 32 = .ok (.getfield 25, 3) := by decide +kernel
theorem d_Board_reasonFor_35 : decode b_Board_reasonFor 35 = .ok (.iload_n 1, 1) := by decide +kernel
theorem d_Board_reasonFor_36 : decode b_Board_reasonFor 36 = .ok (.bipush 6, 2) := by decide +kernel
theorem d_Board_reasonFor_38 : decode b_Board_reasonFor 38 = .ok (.ishl, 1) := by decide +kernel
theorem d_Board_reasonFor_39 : decode b_Board_reasonFor 39 = .ok (.iload_n 2, 1) := by decide +kernel
theorem d_Board_reasonFor_40 : decode b_Board_reasonFor 40 = .ok (.ior, 1) := by decide +kernel
theorem d_Board_reasonFor_41 : decode b_Board_reasonFor 41 = .ok (.iaload, 1) := by decide +kernel
theorem d_Board_reasonFor_42 : decode b_Board_reasonFor 42 = .ok (.ireturn, 1) := by decide +kernel
theorem d_Board_remove_0 : decode b_Board_remove 0 = .ok (.aload_n 0, 1) := by decide +kernel
theorem d_Board_remove_1 : decode b_Board_remove 1 = .ok (.getfield 15, 3) := by decide +kernel
theorem d_Board_remove_4 : decode b_Board_remove 4 = .ok (.iload_n 1, 1) := by decide +kernel
theorem d_Board_remove_5 : decode b_Board_remove 5 = .ok (.laload, 1) := by decide +kernel
theorem d_Board_remove_6 : decode b_Board_remove 6 = .ok (.lload_n 2, 1) := by decide +kernel
theorem d_Board_remove_7 : decode b_Board_remove 7 = .ok (.land, 1) := by decide +kernel
theorem d_Board_remove_8 : decode b_Board_remove 8 = .ok (.lstore 5, 2) := by decide +kernel
theorem d_Board_remove_10 : decode b_Board_remove 10 = .ok (.lload 5, 2) := by decide +kernel
theorem d_Board_remove_12 : decode b_Board_remove 12 = .ok (.lconst 0, 1) := by decide +kernel
theorem d_Board_remove_13 : decode b_Board_remove 13 = .ok (.lcmp, 1) := by decide +kernel
theorem d_Board_remove_14 : decode b_Board_remove 14 = .ok (.ifCond .ne 5, 3) := by decide +kernel
theorem d_Board_remove_17 : decode b_Board_remove 17 = .ok (.iconst 0, 1) := by decide +kernel
theorem d_Board_remove_18 : decode b_Board_remove 18 = .ok (.ireturn, 1) := by decide +kernel
theorem d_Board_remove_19 : decode b_Board_remove 19 = .ok (.iconst 0, 1) := by decide +kernel
theorem d_Board_remove_20 : decode b_Board_remove 20 = .ok (.istore 7, 2) := by decide +kernel
theorem d_Board_remove_22 : decode b_Board_remove 22 = .ok (.iload 7, 2) := by decide +kernel
theorem d_Board_remove_24 : decode b_Board_remove 24 = .ok (.aload_n 0, 1) := by decide +kernel
theorem d_Board_remove_25 : decode b_Board_remove 25 = .ok (.getfield 9, 3) := by decide +kernel
theorem d_Board_remove_28 : decode b_Board_remove 28 = .ok (.if_icmp .ge 70, 3) := by decide +kernel
theorem d_Board_remove_31 : decode b_Board_remove 31 = .ok (.lload 5, 2) := by decide +kernel
theorem d_Board_remove_33 : decode b_Board_remove 33 = .ok (.iload 7, 2) := by decide +kernel
theorem d_Board_remove_35 : decode b_Board_remove 35 = .ok (.invokestatic 45, 3) := by decide +kernel
theorem d_Board_remove_38 : decode b_Board_remove 38 = .ok (.ifCond .eq 54, 3) := by decide +kernel
theorem d_Board_remove_41 : decode b_Board_remove 41 = .ok (.aload_n 0, 1) := by decide +kernel
theorem d_Board_remove_42 : decode b_Board_remove 42 = .ok (.getfield 32, 3) := by decide +kernel
theorem d_Board_remove_45 : decode b_Board_remove 45 = .ok (.aload_n 0, 1) := by decide +kernel
theorem d_Board_remove_46 : decode b_Board_remove 46 = .ok (.getfield 29, 3) := by decide +kernel
theorem d_Board_remove_49 : decode b_Board_remove 49 = .ok (.arraylength, 1) := by decide +kernel
theorem d_Board_remove_50 : decode b_Board_remove 50 = .ok (.if_icmp .ge 42, 3) := by decide +kernel
theorem d_Board_remove_53 : decode b_Board_remove 53 = .ok (.iload_n 1, 1) := by decide +kernel
theorem d_Board_remove_54 : decode b_Board_remove 54 = .ok (.bipush 6, 2) := by decide +kernel
theorem d_Board_remove_56 : decode b_Board_remove 56 = .ok (.ishl, 1) := by decide +kernel
theorem d_Board_remove_57 : decode b_Board_remove 57 = .ok (.iload 7, 2) := by decide +kernel
theorem d_Board_remove_59 : decode b_Board_remove 59 = .ok (.ior, 1) := by decide +kernel
theorem d_Board_remove_60 : decode b_Board_remove 60 = .ok (.istore 8, 2) := by decide +kernel
theorem d_Board_remove_62 : decode b_Board_remove 62 = .ok (.aload_n 0, 1) := by decide +kernel
theorem d_Board_remove_63 : decode b_Board_remove 63 = .ok (.getfield 25, 3) := by decide +kernel
theorem d_Board_remove_66 : decode b_Board_remove 66 = .ok (.iload 8, 2) := by decide +kernel
theorem d_Board_remove_68 : decode b_Board_remove 68 = .ok (.iload 4, 2) := by decide +kernel
theorem d_Board_remove_70 : decode b_Board_remove 70 = .ok (.iastore, 1) := by decide +kernel
theorem d_Board_remove_71 : decode b_Board_remove 71 = .ok (.aload_n 0, 1) := by decide +kernel
theorem d_Board_remove_72 : decode b_Board_remove 72 = .ok (.getfield 29, 3) := by decide +kernel
theorem d_Board_remove_75 : decode b_Board_remove 75 = .ok (.aload_n 0, 1) := by decide +kernel
theorem d_Board_remove_76 : decode b_Board_remove 76 = .ok (.getfield 32, 3) := by decide +kernel
theorem d_Board_remove_79 : decode b_Board_remove 79 = .ok (.iload 8, 2) := by decide +kernel
theorem d_Board_remove_81 : decode b_Board_remove 81 = .ok (.iastore, 1) := by decide +kernel
theorem d_Board_remove_82 : decode b_Board_remove 82 = .ok (.aload_n 0, 1) := by decide +kernel
theorem d_Board_remove_83 : decode b_Board_remove 83 = .ok (.dup, 1) := by decide +kernel
theorem d_Board_remove_84 : decode b_Board_remove 84 = .ok (.getfield 32, 3) := by decide +kernel
theorem d_Board_remove_87 : decode b_Board_remove 87 = .ok (.iconst 1, 1) := by decide +kernel
theorem d_Board_remove_88 : decode b_Board_remove 88 = .ok (.iadd, 1) := by decide +kernel
theorem d_Board_remove_89 : decode b_Board_remove 89 = .ok (.putfield 32, 3) := by decide +kernel
theorem d_Board_remove_92 : decode b_Board_remove 92 = .ok (.iinc 7 1, 3) := by decide +kernel
theorem d_Board_remove_95 : decode b_Board_remove 95 = .ok (.goto (-73), 3) := by decide +kernel
theorem d_Board_remove_98 : decode b_Board_remove 98 = .ok (.aload_n 0, 1) := by decide +kernel
theorem d_Board_remove_99 : decode b_Board_remove 99 = .ok (.getfield 15, 3) := by decide +kernel
theorem d_Board_remove_102 : decode b_Board_remove 102 = .ok (.iload_n 1, 1) := by decide +kernel
theorem d_Board_remove_103 : decode b_Board_remove 103 = .ok (.dup2, 1) := by decide +kernel
theorem d_Board_remove_104 : decode b_Board_remove 104 = .ok (.laload, 1) := by decide +kernel
theorem d_Board_remove_105 : decode b_Board_remove 105 = .ok (.lload 5, 2) := by decide +kernel
theorem d_Board_remove_107 : decode b_Board_remove 107 = .ok (.ldc2_w 49, 3) := by decide +kernel
theorem d_Board_remove_110 : decode b_Board_remove 110 = .ok (.lxor, 1) := by decide +kernel
theorem d_Board_remove_111 : decode b_Board_remove 111 = .ok (.land, 1) := by decide +kernel
theorem d_Board_remove_112 : decode b_Board_remove 112 = .ok (.lastore, 1) := by decide +kernel
theorem d_Board_remove_113 : decode b_Board_remove 113 = .ok (.aload_n 0, 1) := by decide +kernel
theorem d_Board_remove_114 : decode b_Board_remove 114 = .ok (.getfield 15, 3) := by decide +kernel
theorem d_Board_remove_117 : decode b_Board_remove 117 = .ok (.iload_n 1, 1) := by decide +kernel
theorem d_Board_remove_118 : decode b_Board_remove 118 = .ok (.laload, 1) := by decide +kernel
theorem d_Board_remove_119 : decode b_Board_remove 119 = .ok (.lconst 0, 1) := by decide +kernel
theorem d_Board_remove_120 : decode b_Board_remove 120 = .ok (.lcmp, 1) := by decide +kernel
theorem d_Board_remove_121 : decode b_Board_remove 121 = .ok (.ifCond .ne 13, 3) := by decide +kernel
theorem d_Board_remove_124 : decode b_Board_remove 124 = .ok (.aload_n 0, 1) := by decide +kernel
theorem d_Board_remove_125 : decode b_Board_remove 125 = .ok (.dup, 1) := by decide +kernel
theorem d_Board_remove_126 : decode b_Board_remove 126 = .ok (.getfield 35, 3) := by decide +kernel
theorem d_Board_remove_129 : decode b_Board_remove 129 = .ok (.iconst 1, 1) := by decide +kernel
theorem d_Board_remove_130 : decode b_Board_remove 130 = .ok (.iadd, 1) := by decide +kernel
theorem d_Board_remove_131 : decode b_Board_remove 131 = .ok (.putfield 35, 3) := by decide +kernel
theorem d_Board_remove_134 : decode b_Board_remove 134 = .ok (.iconst 1, 1) := by decide +kernel
theorem d_Board_remove_135 : decode b_Board_remove 135 = .ok (.ireturn, 1) := by decide +kernel
theorem d_Board_returnTo_0 : decode b_Board_returnTo 0 = .ok (.aload_n 0, 1) := by decide +kernel
theorem d_Board_returnTo_1 : decode b_Board_returnTo 1 = .ok (.getfield 32, 3) := by decide +kernel
theorem d_Board_returnTo_4 : decode b_Board_returnTo 4 = .ok (.iconst 1, 1) := by decide +kernel
theorem d_Board_returnTo_5 : decode b_Board_returnTo 5 = .ok (.isub, 1) := by decide +kernel
theorem d_Board_returnTo_6 : decode b_Board_returnTo 6 = .ok (.istore_n 2, 1) := by decide +kernel
theorem d_Board_returnTo_7 : decode b_Board_returnTo 7 = .ok (.iload_n 2, 1) := by decide +kernel
theorem d_Board_returnTo_8 : decode b_Board_returnTo 8 = .ok (.iload_n 1, 1) := by decide +kernel
theorem d_Board_returnTo_9 : decode b_Board_returnTo 9 = .ok (.if_icmp .lt 64, 3) := by decide +kernel
theorem d_Board_returnTo_12 : decode b_Board_returnTo 12 = .ok (.iload_n 2, 1) := by decide +kernel
theorem d_Board_returnTo_13 : decode b_Board_returnTo 13 = .ok (.ifCond .lt 60, 3) := by decide +kernel
theorem d_Board_returnTo_16 : decode b_Board_returnTo 16 = .ok (.aload_n 0, 1) := by decide +kernel
theorem d_Board_returnTo_17 : decode b_Board_returnTo 17 = .ok (.getfield 29, 3) := by decide +kernel
theorem d_Board_returnTo_20 : decode b_Board_returnTo 20 = .ok (.iload_n 2, 1) := by decide +kernel
theorem d_Board_returnTo_21 : decode b_Board_returnTo 21 = .ok (.iaload, 1) := by decide +kernel
theorem d_Board_returnTo_22 : decode b_Board_returnTo 22 = .ok (.bipush 6, 2) := by decide +kernel
theorem d_Board_returnTo_24 : decode b_Board_returnTo 24 = .ok (.iushr, 1) := by decide +kernel
theorem d_Board_returnTo_25 : decode b_Board_returnTo 25 = .ok (.istore_n 3, 1) := by decide +kernel
theorem d_Board_returnTo_26 : decode b_Board_returnTo 26 = .ok (.aload_n 0, 1) := by decide +kernel
theorem d_Board_returnTo_27 : decode b_Board_returnTo 27 = .ok (.getfield 15, 3) := by decide +kernel
theorem d_Board_returnTo_30 : decode b_Board_returnTo 30 = .ok (.iload_n 3, 1) := by decide +kernel
theorem d_Board_returnTo_31 : decode b_Board_returnTo 31 = .ok (.laload, 1) := by decide +kernel
theorem d_Board_returnTo_32 : decode b_Board_returnTo 32 = .ok (.lconst 0, 1) := by decide +kernel
theorem d_Board_returnTo_33 : decode b_Board_returnTo 33 = .ok (.lcmp, 1) := by decide +kernel
theorem d_Board_returnTo_34 : decode b_Board_returnTo 34 = .ok (.ifCond .ne 13, 3) := by decide +kernel
theorem d_Board_returnTo_37 : decode b_Board_returnTo 37 = .ok (.aload_n 0, 1) := by decide +kernel
theorem d_Board_returnTo_38 : decode b_Board_returnTo 38 = .ok (.dup, 1) := by decide +kernel
theorem d_Board_returnTo_39 : decode b_Board_returnTo 39 = .ok (.getfield 35, 3) := by decide +kernel
theorem d_Board_returnTo_42 : decode b_Board_returnTo 42 = .ok (.iconst 1, 1) := by decide +kernel
theorem d_Board_returnTo_43 : decode b_Board_returnTo 43 = .ok (.isub, 1) := by decide +kernel
theorem d_Board_returnTo_44 : decode b_Board_returnTo 44 = .ok (.putfield 35, 3) := by decide +kernel
theorem d_Board_returnTo_47 : decode b_Board_returnTo 47 = .ok (.aload_n 0, 1) := by decide +kernel
theorem d_Board_returnTo_48 : decode b_Board_returnTo 48 = .ok (.getfield 15, 3) := by decide +kernel
theorem d_Board_returnTo_51 : decode b_Board_returnTo 51 = .ok (.iload_n 3, 1) := by decide +kernel
theorem d_Board_returnTo_52 : decode b_Board_returnTo 52 = .ok (.dup2, 1) := by decide +kernel
theorem d_Board_returnTo_53 : decode b_Board_returnTo 53 = .ok (.laload, 1) := by decide +kernel
theorem d_Board_returnTo_54 : decode b_Board_returnTo 54 = .ok (.lconst 1, 1) := by decide +kernel
theorem d_Board_returnTo_55 : decode b_Board_returnTo 55 = .ok (.aload_n 0, 1) := by decide +kernel
theorem d_Board_returnTo_56 : decode b_Board_returnTo 56 = .ok (.getfield 29, 3) := by decide +kernel
theorem d_Board_returnTo_59 : decode b_Board_returnTo 59 = .ok (.iload_n 2, 1) := by decide +kernel
theorem d_Board_returnTo_60 : decode b_Board_returnTo 60 = .ok (.iaload, 1) := by decide +kernel
theorem d_Board_returnTo_61 : decode b_Board_returnTo 61 = .ok (.bipush 63, 2) := by decide +kernel
theorem d_Board_returnTo_63 : decode b_Board_returnTo 63 = .ok (.iand, 1) := by decide +kernel
theorem d_Board_returnTo_64 : decode b_Board_returnTo 64 = .ok (.lshl, 1) := by decide +kernel
theorem d_Board_returnTo_65 : decode b_Board_returnTo 65 = .ok (.lor, 1) := by decide +kernel
theorem d_Board_returnTo_66 : decode b_Board_returnTo 66 = .ok (.lastore, 1) := by decide +kernel
theorem d_Board_returnTo_67 : decode b_Board_returnTo 67 = .ok (.iinc 2 (-1), 3) := by decide +kernel
theorem d_Board_returnTo_70 : decode b_Board_returnTo 70 = .ok (.goto (-63), 3) := by decide +kernel
theorem d_Board_returnTo_73 : decode b_Board_returnTo 73 = .ok (.aload_n 0, 1) := by decide +kernel
theorem d_Board_returnTo_74 : decode b_Board_returnTo 74 = .ok (.iload_n 1, 1) := by decide +kernel
theorem d_Board_returnTo_75 : decode b_Board_returnTo 75 = .ok (.putfield 32, 3) := by decide +kernel
theorem d_Board_returnTo_78 : decode b_Board_returnTo 78 = .ok (.return_, 1) := by decide +kernel
theorem d_Board_leastEmptyPlace_0 : decode b_Board_leastEmptyPlace 0 = .ok (.aload_n 0, 1) := by decide +kernel
theorem d_Board_leastEmptyPlace_1 : decode b_Board_leastEmptyPlace 1 = .ok (.getfield 35, 3) := by decide +kernel
theorem d_Board_leastEmptyPlace_4 : decode b_Board_leastEmptyPlace 4 = .ok (.ifCond .ne 5, 3) := by decide +kernel
theorem d_Board_leastEmptyPlace_7 : decode b_Board_leastEmptyPlace 7 = .ok (.iconst (-1), 1) := by decide +kernel
theorem d_Board_leastEmptyPlace_8 : decode b_Board_leastEmptyPlace 8 = .ok (.ireturn, 1) := by decide +kernel
theorem d_Board_leastEmptyPlace_9 : decode b_Board_leastEmptyPlace 9 = .ok (.iconst 0, 1) := by decide +kernel
theorem d_Board_leastEmptyPlace_10 : decode b_Board_leastEmptyPlace 10 = .ok (.istore_n 1, 1) := by decide +kernel
theorem d_Board_leastEmptyPlace_11 : decode b_Board_leastEmptyPlace 11 = .ok (.iload_n 1, 1) := by decide +kernel
theorem d_Board_leastEmptyPlace_12 : decode b_Board_leastEmptyPlace 12 = .ok (.aload_n 0, 1) := by decide +kernel
theorem d_Board_leastEmptyPlace_13 : decode b_Board_leastEmptyPlace 13 = .ok (.getfield 15, 3) := by decide +kernel
theorem d_Board_leastEmptyPlace_16 : decode b_Board_leastEmptyPlace 16 = .ok (.arraylength, 1) := by decide +kernel
theorem d_Board_leastEmptyPlace_17 : decode b_Board_leastEmptyPlace 17 = .ok (.if_icmp .ge 22, 3) := by decide +kernel
theorem d_Board_leastEmptyPlace_20 : decode b_Board_leastEmptyPlace 20 = .ok (.aload_n 0, 1) := by decide +kernel
theorem d_Board_leastEmptyPlace_21 : decode b_Board_leastEmptyPlace 21 = .ok (.getfield 15, 3) := by decide +kernel
theorem d_Board_leastEmptyPlace_24 : decode b_Board_leastEmptyPlace 24 = .ok (.iload_n 1, 1) := by decide +kernel
theorem d_Board_leastEmptyPlace_25 : decode b_Board_leastEmptyPlace 25 = .ok (.laload, 1) := by decide +kernel
theorem d_Board_leastEmptyPlace_26 : decode b_Board_leastEmptyPlace 26 = .ok (.lconst 0, 1) := by decide +kernel
theorem d_Board_leastEmptyPlace_27 : decode b_Board_leastEmptyPlace 27 = .ok (.lcmp, 1) := by decide +kernel
theorem d_Board_leastEmptyPlace_28 : decode b_Board_leastEmptyPlace 28 = .ok (.ifCond .ne 5, 3) := by decide +kernel
theorem d_Board_leastEmptyPlace_31 : decode b_Board_leastEmptyPlace 31 = .ok (.iload_n 1, 1) := by decide +kernel
theorem d_Board_leastEmptyPlace_32 : decode b_Board_leastEmptyPlace 32 = .ok (.ireturn, 1) := by decide +kernel
theorem d_Board_leastEmptyPlace_33 : decode b_Board_leastEmptyPlace 33 = .ok (.iinc 1 1, 3) := by decide +kernel
theorem d_Board_leastEmptyPlace_36 : decode b_Board_leastEmptyPlace 36 = .ok (.goto (-25), 3) := by decide +kernel
theorem d_Board_leastEmptyPlace_39 : decode b_Board_leastEmptyPlace 39 = .ok (.iconst (-1), 1) := by decide +kernel
theorem d_Board_leastEmptyPlace_40 : decode b_Board_leastEmptyPlace 40 = .ok (.ireturn, 1) := by decide +kernel
theorem d_Board_init_0 : decode b_Board_init 0 = .ok (.aload_n 0, 1) := by decide +kernel
theorem d_Board_init_1 : decode b_Board_init 1 = .ok (.invokespecial 3, 3) := by decide +kernel
theorem d_Board_init_4 : decode b_Board_init 4 = .ok (.aload_n 0, 1) := by decide +kernel
theorem d_Board_init_5 : decode b_Board_init 5 = .ok (.iload_n 2, 1) := by decide +kernel
theorem d_Board_init_6 : decode b_Board_init 6 = .ok (.putfield 9, 3) := by decide +kernel
theorem d_Board_init_9 : decode b_Board_init 9 = .ok (.aload_n 0, 1) := by decide +kernel
theorem d_Board_init_10 : decode b_Board_init 10 = .ok (.iload_n 1, 1) := by decide +kernel
theorem d_Board_init_11 : decode b_Board_init 11 = .ok (.newarray .long, 2) := by decide +kernel
theorem d_Board_init_13 : decode b_Board_init 13 = .ok (.putfield 15, 3) := by decide +kernel
theorem d_Board_init_16 : decode b_Board_init 16 = .ok (.aload_n 0, 1) := by decide +kernel
theorem d_Board_init_17 : decode b_Board_init 17 = .ok (.getfield 15, 3) := by decide +kernel
theorem d_Board_init_20 : decode b_Board_init 20 = .ok (.lconst 1, 1) := by decide +kernel
theorem d_Board_init_21 : decode b_Board_init 21 = .ok (.iload_n 2, 1) := by decide +kernel
theorem d_Board_init_22 : decode b_Board_init 22 = .ok (.lshl, 1) := by decide +kernel
theorem d_Board_init_23 : decode b_Board_init 23 = .ok (.lconst 1, 1) := by decide +kernel
theorem d_Board_init_24 : decode b_Board_init 24 = .ok (.lsub, 1) := by decide +kernel
theorem d_Board_init_25 : decode b_Board_init 25 = .ok (.invokestatic 19, 3) := by decide +kernel
theorem d_Board_init_28 : decode b_Board_init 28 = .ok (.aload_n 0, 1) := by decide +kernel
theorem d_Board_init_29 : decode b_Board_init 29 = .ok (.iload_n 1, 1) := by decide +kernel
theorem d_Board_init_30 : decode b_Board_init 30 = .ok (.bipush 6, 2) := by decide +kernel
theorem d_Board_init_32 : decode b_Board_init 32 = .ok (.ishl, 1) := by decide +kernel
theorem d_Board_init_33 : decode b_Board_init 33 = .ok (.newarray .int, 2) := by decide +kernel
theorem d_Board_init_35 : decode b_Board_init 35 = .ok (.putfield 25, 3) := by decide +kernel
theorem d_Board_init_38 : decode b_Board_init 38 = .ok (.aload_n 0, 1) := by decide +kernel
theorem d_Board_init_39 : decode b_Board_init 39 = .ok (.iload_n 1, 1) := by decide +kernel
theorem d_Board_init_40 : decode b_Board_init 40 = .ok (.iload_n 2, 1) := by decide +kernel
theorem d_Board_init_41 : decode b_Board_init 41 = .ok (.imul, 1) := by decide +kernel
theorem d_Board_init_42 : decode b_Board_init 42 = .ok (.newarray .int, 2) := by decide +kernel
theorem d_Board_init_44 : decode b_Board_init 44 = .ok (.putfield 29, 3) := by decide +kernel
theorem d_Board_init_47 : decode b_Board_init 47 = .ok (.aload_n 0, 1) := by decide +kernel
theorem d_Board_init_48 : decode b_Board_init 48 = .ok (.iconst 0, 1) := by decide +kernel
theorem d_Board_init_49 : decode b_Board_init 49 = .ok (.putfield 32, 3) := by decide +kernel
theorem d_Board_init_52 : decode b_Board_init 52 = .ok (.aload_n 0, 1) := by decide +kernel
theorem d_Board_init_53 : decode b_Board_init 53 = .ok (.iconst 0, 1) := by decide +kernel
theorem d_Board_init_54 : decode b_Board_init 54 = .ok (.putfield 35, 3) := by decide +kernel
theorem d_Board_init_57 : decode b_Board_init 57 = .ok (.return_, 1) := by decide +kernel
theorem d_Rule_holds_0 : decode b_Rule_holds 0 = .ok (.iconst 0, 1) := by decide +kernel
theorem d_Rule_holds_1 : decode b_Rule_holds 1 = .ok (.istore_n 2, 1) := by decide +kernel
theorem d_Rule_holds_2 : decode b_Rule_holds 2 = .ok (.iload_n 2, 1) := by decide +kernel
theorem d_Rule_holds_3 : decode b_Rule_holds 3 = .ok (.aload_n 0, 1) := by decide +kernel
theorem d_Rule_holds_4 : decode b_Rule_holds 4 = .ok (.getfield 30, 3) := by decide +kernel
theorem d_Rule_holds_7 : decode b_Rule_holds 7 = .ok (.if_icmp .ge 21, 3) := by decide +kernel
theorem d_Rule_holds_10 : decode b_Rule_holds 10 = .ok (.aload_n 0, 1) := by decide +kernel
theorem d_Rule_holds_11 : decode b_Rule_holds 11 = .ok (.getfield 19, 3) := by decide +kernel
theorem d_Rule_holds_14 : decode b_Rule_holds 14 = .ok (.iload_n 2, 1) := by decide +kernel
theorem d_Rule_holds_15 : decode b_Rule_holds 15 = .ok (.iaload, 1) := by decide +kernel
theorem d_Rule_holds_16 : decode b_Rule_holds 16 = .ok (.iload_n 1, 1) := by decide +kernel
theorem d_Rule_holds_17 : decode b_Rule_holds 17 = .ok (.if_icmp .ne 5, 3) := by decide +kernel
theorem d_Rule_holds_20 : decode b_Rule_holds 20 = .ok (.iconst 1, 1) := by decide +kernel
theorem d_Rule_holds_21 : decode b_Rule_holds 21 = .ok (.ireturn, 1) := by decide +kernel
theorem d_Rule_holds_22 : decode b_Rule_holds 22 = .ok (.iinc 2 1, 3) := by decide +kernel
theorem d_Rule_holds_25 : decode b_Rule_holds 25 = .ok (.goto (-23), 3) := by decide +kernel
theorem d_Rule_holds_28 : decode b_Rule_holds 28 = .ok (.iconst 0, 1) := by decide +kernel
theorem d_Rule_holds_29 : decode b_Rule_holds 29 = .ok (.ireturn, 1) := by decide +kernel
theorem d_Rule_addPlace_0 : decode b_Rule_addPlace 0 = .ok (.aload_n 0, 1) := by decide +kernel
theorem d_Rule_addPlace_1 : decode b_Rule_addPlace 1 = .ok (.getfield 30, 3) := by decide +kernel
theorem d_Rule_addPlace_4 : decode b_Rule_addPlace 4 = .ok (.bipush 16, 2) := by decide +kernel
theorem d_Rule_addPlace_6 : decode b_Rule_addPlace 6 = .ok (.if_icmp .ge 11, 3) := by decide +kernel
theorem d_Rule_addPlace_9 : decode b_Rule_addPlace 9 = .ok (.aload_n 0, 1) := by decide +kernel
theorem d_Rule_addPlace_10 : decode b_Rule_addPlace 10 = .ok (.iload_n 1, 1) := by decide +kernel
theorem d_Rule_addPlace_11 : decode b_Rule_addPlace 11 = .ok (.invokevirtual 36, 3) := by decide +kernel
theorem d_Rule_addPlace_14 : decode b_Rule_addPlace 14 = .ok (.ifCond .eq 5, 3) := by decide +kernel
theorem d_Rule_addPlace_17 : decode b_Rule_addPlace 17 = .ok (.iconst 0, 1) := by decide +kernel
theorem d_Rule_addPlace_18 : decode b_Rule_addPlace 18 = .ok (.ireturn, 1) := by decide +kernel
theorem d_Rule_addPlace_19 : decode b_Rule_addPlace 19 = .ok (.aload_n 0, 1) := by decide +kernel
theorem d_Rule_addPlace_20 : decode b_Rule_addPlace 20 = .ok (.getfield 19, 3) := by decide +kernel
theorem d_Rule_addPlace_23 : decode b_Rule_addPlace 23 = .ok (.aload_n 0, 1) := by decide +kernel
theorem d_Rule_addPlace_24 : decode b_Rule_addPlace 24 = .ok (.getfield 30, 3) := by decide +kernel
theorem d_Rule_addPlace_27 : decode b_Rule_addPlace 27 = .ok (.iload_n 1, 1) := by decide +kernel
theorem d_Rule_addPlace_28 : decode b_Rule_addPlace 28 = .ok (.iastore, 1) := by decide +kernel
theorem d_Rule_addPlace_29 : decode b_Rule_addPlace 29 = .ok (.aload_n 0, 1) := by decide +kernel
theorem d_Rule_addPlace_30 : decode b_Rule_addPlace 30 = .ok (.getfield 23, 3) := by decide +kernel
theorem d_Rule_addPlace_33 : decode b_Rule_addPlace 33 = .ok (.aload_n 0, 1) := by decide +kernel
theorem d_Rule_addPlace_34 : decode b_Rule_addPlace 34 = .ok (.getfield 30, 3) := by decide +kernel
theorem d_Rule_addPlace_37 : decode b_Rule_addPlace 37 = .ok (.iload_n 2, 1) := by decide +kernel
theorem d_Rule_addPlace_38 : decode b_Rule_addPlace 38 = .ok (.iastore, 1) := by decide +kernel
theorem d_Rule_addPlace_39 : decode b_Rule_addPlace 39 = .ok (.aload_n 0, 1) := by decide +kernel
theorem d_Rule_addPlace_40 : decode b_Rule_addPlace 40 = .ok (.dup, 1) := by decide +kernel
theorem d_Rule_addPlace_41 : decode b_Rule_addPlace 41 = .ok (.getfield 30, 3) := by decide +kernel
theorem d_Rule_addPlace_44 : decode b_Rule_addPlace 44 = .ok (.iconst 1, 1) := by decide +kernel
theorem d_Rule_addPlace_45 : decode b_Rule_addPlace 45 = .ok (.iadd, 1) := by decide +kernel
theorem d_Rule_addPlace_46 : decode b_Rule_addPlace 46 = .ok (.putfield 30, 3) := by decide +kernel
theorem d_Rule_addPlace_49 : decode b_Rule_addPlace 49 = .ok (.iconst 1, 1) := by decide +kernel
theorem d_Rule_addPlace_50 : decode b_Rule_addPlace 50 = .ok (.ireturn, 1) := by decide +kernel
theorem d_Rule_addPair_0 : decode b_Rule_addPair 0 = .ok (.iload_n 1, 1) := by decide +kernel
theorem d_Rule_addPair_1 : decode b_Rule_addPair 1 = .ok (.ifCond .lt 22, 3) := by decide +kernel
theorem d_Rule_addPair_4 : decode b_Rule_addPair 4 = .ok (.iload_n 1, 1) := by decide +kernel
theorem d_Rule_addPair_5 : decode b_Rule_addPair 5 = .ok (.aload_n 0, 1) := by decide +kernel
theorem d_Rule_addPair_6 : decode b_Rule_addPair 6 = .ok (.getfield 26, 3) := by decide +kernel
theorem d_Rule_addPair_9 : decode b_Rule_addPair 9 = .ok (.arraylength, 1) := by decide +kernel
theorem d_Rule_addPair_10 : decode b_Rule_addPair 10 = .ok (.if_icmp .ge 13, 3) := by decide +kernel
theorem d_Rule_addPair_13 : decode b_Rule_addPair 13 = .ok (.aload_n 0, 1) := by decide +kernel
theorem d_Rule_addPair_14 : decode b_Rule_addPair 14 = .ok (.getfield 33, 3) := by decide +kernel
theorem d_Rule_addPair_17 : decode b_Rule_addPair 17 = .ok (.sipush 400, 3) := by decide +kernel
theorem d_Rule_addPair_20 : decode b_Rule_addPair 20 = .ok (.if_icmp .lt 5, 3) := by decide +kernel
theorem d_Rule_addPair_23 : decode b_Rule_addPair 23 = .ok (.iconst 0, 1) := by decide +kernel
theorem d_Rule_addPair_24 : decode b_Rule_addPair 24 = .ok (.ireturn, 1) := by decide +kernel
theorem d_Rule_addPair_25 : decode b_Rule_addPair 25 = .ok (.aload_n 0, 1) := by decide +kernel
theorem d_Rule_addPair_26 : decode b_Rule_addPair 26 = .ok (.getfield 26, 3) := by decide +kernel
theorem d_Rule_addPair_29 : decode b_Rule_addPair 29 = .ok (.iload_n 1, 1) := by decide +kernel
theorem d_Rule_addPair_30 : decode b_Rule_addPair 30 = .ok (.laload, 1) := by decide +kernel
theorem d_Rule_addPair_31 : decode b_Rule_addPair 31 = .ok (.iload_n 2, 1) := by decide +kernel
theorem d_Rule_addPair_32 : decode b_Rule_addPair 32 = .ok (.invokestatic 40, 3) := by decide +kernel
theorem d_Rule_addPair_35 : decode b_Rule_addPair 35 = .ok (.ifCond .eq 5, 3) := by decide +kernel
theorem d_Rule_addPair_38 : decode b_Rule_addPair 38 = .ok (.iconst 0, 1) := by decide +kernel
theorem d_Rule_addPair_39 : decode b_Rule_addPair 39 = .ok (.ireturn, 1) := by decide +kernel
theorem d_Rule_addPair_40 : decode b_Rule_addPair 40 = .ok (.aload_n 0, 1) := by decide +kernel
theorem d_Rule_addPair_41 : decode b_Rule_addPair 41 = .ok (.getfield 26, 3) := by decide +kernel
theorem d_Rule_addPair_44 : decode b_Rule_addPair 44 = .ok (.iload_n 1, 1) := by decide +kernel
theorem d_Rule_addPair_45 : decode b_Rule_addPair 45 = .ok (.dup2, 1) := by decide +kernel
theorem d_Rule_addPair_46 : decode b_Rule_addPair 46 = .ok (.laload, 1) := by decide +kernel
theorem d_Rule_addPair_47 : decode b_Rule_addPair 47 = .ok (.lconst 1, 1) := by decide +kernel
theorem d_Rule_addPair_48 : decode b_Rule_addPair 48 = .ok (.iload_n 2, 1) := by decide +kernel
theorem d_Rule_addPair_49 : decode b_Rule_addPair 49 = .ok (.lshl, 1) := by decide +kernel
theorem d_Rule_addPair_50 : decode b_Rule_addPair 50 = .ok (.lor, 1) := by decide +kernel
theorem d_Rule_addPair_51 : decode b_Rule_addPair 51 = .ok (.lastore, 1) := by decide +kernel
theorem d_Rule_addPair_52 : decode b_Rule_addPair 52 = .ok (.aload_n 0, 1) := by decide +kernel
theorem d_Rule_addPair_53 : decode b_Rule_addPair 53 = .ok (.dup, 1) := by decide +kernel
theorem d_Rule_addPair_54 : decode b_Rule_addPair 54 = .ok (.getfield 33, 3) := by decide +kernel
theorem d_Rule_addPair_57 : decode b_Rule_addPair 57 = .ok (.iconst 1, 1) := by decide +kernel
theorem d_Rule_addPair_58 : decode b_Rule_addPair 58 = .ok (.iadd, 1) := by decide +kernel
theorem d_Rule_addPair_59 : decode b_Rule_addPair 59 = .ok (.putfield 33, 3) := by decide +kernel
theorem d_Rule_addPair_62 : decode b_Rule_addPair 62 = .ok (.iconst 1, 1) := by decide +kernel
theorem d_Rule_addPair_63 : decode b_Rule_addPair 63 = .ok (.ireturn, 1) := by decide +kernel
theorem d_Rule_init_0 : decode b_Rule_init 0 = .ok (.aload_n 0, 1) := by decide +kernel
theorem d_Rule_init_1 : decode b_Rule_init 1 = .ok (.invokespecial 3, 3) := by decide +kernel
theorem d_Rule_init_4 : decode b_Rule_init 4 = .ok (.aload_n 0, 1) := by decide +kernel
theorem d_Rule_init_5 : decode b_Rule_init 5 = .ok (.iload_n 1, 1) := by decide +kernel
theorem d_Rule_init_6 : decode b_Rule_init 6 = .ok (.putfield 9, 3) := by decide +kernel
theorem d_Rule_init_9 : decode b_Rule_init 9 = .ok (.aload_n 0, 1) := by decide +kernel
theorem d_Rule_init_10 : decode b_Rule_init 10 = .ok (.lload_n 2, 1) := by decide +kernel
theorem d_Rule_init_11 : decode b_Rule_init 11 = .ok (.putfield 15, 3) := by decide +kernel
theorem d_Rule_init_14 : decode b_Rule_init 14 = .ok (.aload_n 0, 1) := by decide +kernel
theorem d_Rule_init_15 : decode b_Rule_init 15 = .ok (.bipush 16, 2) := by decide +kernel
theorem d_Rule_init_17 : decode b_Rule_init 17 = .ok (.newarray .int, 2) := by decide +kernel
theorem d_Rule_init_19 : decode b_Rule_init 19 = .ok (.putfield 19, 3) := by decide +kernel
theorem d_Rule_init_22 : decode b_Rule_init 22 = .ok (.aload_n 0, 1) := by decide +kernel
theorem d_Rule_init_23 : decode b_Rule_init 23 = .ok (.bipush 16, 2) := by decide +kernel
theorem d_Rule_init_25 : decode b_Rule_init 25 = .ok (.newarray .int, 2) := by decide +kernel
theorem d_Rule_init_27 : decode b_Rule_init 27 = .ok (.putfield 23, 3) := by decide +kernel
theorem d_Rule_init_30 : decode b_Rule_init 30 = .ok (.aload_n 0, 1) := by decide +kernel
theorem d_Rule_init_31 : decode b_Rule_init 31 = .ok (.iload_n 1, 1) := by decide +kernel
theorem d_Rule_init_32 : decode b_Rule_init 32 = .ok (.bipush 7, 2) := by decide +kernel
theorem d_Rule_init_34 : decode b_Rule_init 34 = .ok (.if_icmp .ne 8, 3) := by decide +kernel
theorem d_Rule_init_37 : decode b_Rule_init 37 = .ok (.iload 4, 2) := by decide +kernel
theorem d_Rule_init_39 : decode b_Rule_init 39 = .ok (.goto 4, 3) := by decide +kernel
theorem d_Rule_init_42 : decode b_Rule_init 42 = .ok (.iconst 0, 1) := by decide +kernel
theorem d_Rule_init_43 : decode b_Rule_init 43 = .ok (.newarray .long, 2) := by decide +kernel
theorem d_Rule_init_45 : decode b_Rule_init 45 = .ok (.putfield 26, 3) := by decide +kernel
theorem d_Rule_init_48 : decode b_Rule_init 48 = .ok (.aload_n 0, 1) := by decide +kernel
theorem d_Rule_init_49 : decode b_Rule_init 49 = .ok (.iconst 0, 1) := by decide +kernel
theorem d_Rule_init_50 : decode b_Rule_init 50 = .ok (.putfield 30, 3) := by decide +kernel
theorem d_Rule_init_53 : decode b_Rule_init 53 = .ok (.aload_n 0, 1) := by decide +kernel
theorem d_Rule_init_54 : decode b_Rule_init 54 = .ok (.iconst 0, 1) := by decide +kernel
theorem d_Rule_init_55 : decode b_Rule_init 55 = .ok (.putfield 33, 3) := by decide +kernel
theorem d_Rule_init_58 : decode b_Rule_init 58 = .ok (.return_, 1) := by decide +kernel
theorem d_Giving_moveOn_0 : decode b_Giving_moveOn 0 = .ok (.aload_n 0, 1) := by decide +kernel
theorem d_Giving_moveOn_1 : decode b_Giving_moveOn 1 = .ok (.dup, 1) := by decide +kernel
theorem d_Giving_moveOn_2 : decode b_Giving_moveOn 2 = .ok (.getfield 24, 3) := by decide +kernel
theorem d_Giving_moveOn_5 : decode b_Giving_moveOn 5 = .ok (.lconst 1, 1) := by decide +kernel
theorem d_Giving_moveOn_6 : decode b_Giving_moveOn 6 = .ok (.iload_n 3, 1) := by decide +kernel
theorem d_Giving_moveOn_7 : decode b_Giving_moveOn 7 = .ok (.lshl, 1) := by decide +kernel
theorem d_Giving_moveOn_8 : decode b_Giving_moveOn 8 = .ok (.lor, 1) := by decide +kernel
theorem d_Giving_moveOn_9 : decode b_Giving_moveOn 9 = .ok (.putfield 24, 3) := by decide +kernel
theorem d_Giving_moveOn_12 : decode b_Giving_moveOn 12 = .ok (.iload_n 1, 1) := by decide +kernel
theorem d_Giving_moveOn_13 : decode b_Giving_moveOn 13 = .ok (.istore 4, 2) := by decide +kernel
theorem d_Giving_moveOn_15 : decode b_Giving_moveOn 15 = .ok (.iload_n 3, 1) := by decide +kernel
theorem d_Giving_moveOn_16 : decode b_Giving_moveOn 16 = .ok (.istore 5, 2) := by decide +kernel
theorem d_Giving_moveOn_18 : decode b_Giving_moveOn 18 = .ok (.iconst 0, 1) := by decide +kernel
theorem d_Giving_moveOn_19 : decode b_Giving_moveOn 19 = .ok (.istore 6, 2) := by decide +kernel
theorem d_Giving_moveOn_21 : decode b_Giving_moveOn 21 = .ok (.iload 6, 2) := by decide +kernel
theorem d_Giving_moveOn_23 : decode b_Giving_moveOn 23 = .ok (.aload_n 0, 1) := by decide +kernel
theorem d_Giving_moveOn_24 : decode b_Giving_moveOn 24 = .ok (.getfield 9, 3) := by decide +kernel
theorem d_Giving_moveOn_27 : decode b_Giving_moveOn 27 = .ok (.arraylength, 1) := by decide +kernel
theorem d_Giving_moveOn_28 : decode b_Giving_moveOn 28 = .ok (.if_icmp .ge 46, 3) := by decide +kernel
theorem d_Giving_moveOn_31 : decode b_Giving_moveOn 31 = .ok (.iload 4, 2) := by decide +kernel
theorem d_Giving_moveOn_33 : decode b_Giving_moveOn 33 = .ok (.iload_n 2, 1) := by decide +kernel
theorem d_Giving_moveOn_34 : decode b_Giving_moveOn 34 = .ok (.if_icmp .eq 40, 3) := by decide +kernel
theorem d_Giving_moveOn_37 : decode b_Giving_moveOn 37 = .ok (.aload_n 0, 1) := by decide +kernel
theorem d_Giving_moveOn_38 : decode b_Giving_moveOn 38 = .ok (.getfield 9, 3) := by decide +kernel
theorem d_Giving_moveOn_41 : decode b_Giving_moveOn 41 = .ok (.iload 4, 2) := by decide +kernel
theorem d_Giving_moveOn_43 : decode b_Giving_moveOn 43 = .ok (.iaload, 1) := by decide +kernel
theorem d_Giving_moveOn_44 : decode b_Giving_moveOn 44 = .ok (.istore 7, 2) := by decide +kernel
theorem d_Giving_moveOn_46 : decode b_Giving_moveOn 46 = .ok (.aload_n 0, 1) := by decide +kernel
theorem d_Giving_moveOn_47 : decode b_Giving_moveOn 47 = .ok (.getfield 9, 3) := by decide +kernel
theorem d_Giving_moveOn_50 : decode b_Giving_moveOn 50 = .ok (.iload 4, 2) := by decide +kernel
theorem d_Giving_moveOn_52 : decode b_Giving_moveOn 52 = .ok (.iload 5, 2) := by decide +kernel
theorem d_Giving_moveOn_54 : decode b_Giving_moveOn 54 = .ok (.iastore, 1) := by decide +kernel
theorem d_Giving_moveOn_55 : decode b_Giving_moveOn 55 = .ok (.iload 7, 2) := by decide +kernel
theorem d_Giving_moveOn_57 : decode b_Giving_moveOn 57 = .ok (.istore 5, 2) := by decide +kernel
theorem d_Giving_moveOn_59 : decode b_Giving_moveOn 59 = .ok (.aload_n 0, 1) := by decide +kernel
theorem d_Giving_moveOn_60 : decode b_Giving_moveOn 60 = .ok (.getfield 15, 3) := by decide +kernel
theorem d_Giving_moveOn_63 : decode b_Giving_moveOn 63 = .ok (.iload 4, 2) := by decide +kernel
theorem d_Giving_moveOn_65 : decode b_Giving_moveOn 65 = .ok (.iaload, 1) := by decide +kernel
theorem d_Giving_moveOn_66 : decode b_Giving_moveOn 66 = .ok (.istore 4, 2) := by decide +kernel
theorem d_Giving_moveOn_68 : decode b_Giving_moveOn 68 = .ok (.iinc 6 1, 3) := by decide +kernel
theorem d_Giving_moveOn_71 : decode b_Giving_moveOn 71 = .ok (.goto (-50), 3) := by decide +kernel
theorem d_Giving_moveOn_74 : decode b_Giving_moveOn 74 = .ok (.aload_n 0, 1) := by decide +kernel
theorem d_Giving_moveOn_75 : decode b_Giving_moveOn 75 = .ok (.getfield 9, 3) := by decide +kernel
theorem d_Giving_moveOn_78 : decode b_Giving_moveOn 78 = .ok (.iload_n 2, 1) := by decide +kernel
theorem d_Giving_moveOn_79 : decode b_Giving_moveOn 79 = .ok (.iload 5, 2) := by decide +kernel
theorem d_Giving_moveOn_81 : decode b_Giving_moveOn 81 = .ok (.iastore, 1) := by decide +kernel
theorem d_Giving_moveOn_82 : decode b_Giving_moveOn 82 = .ok (.return_, 1) := by decide +kernel
theorem d_Giving_give_0 : decode b_Giving_give 0 = .ok (.aload_n 0, 1) := by decide +kernel
theorem d_Giving_give_1 : decode b_Giving_give 1 = .ok (.getfield 18, 3) := by decide +kernel
theorem d_Giving_give_4 : decode b_Giving_give 4 = .ok (.iconst 0, 1) := by decide +kernel
theorem d_Giving_give_5 : decode b_Giving_give 5 = .ok (.iload_n 2, 1) := by decide +kernel
theorem d_Giving_give_6 : decode b_Giving_give 6 = .ok (.iastore, 1) := by decide +kernel
theorem d_Giving_give_7 : decode b_Giving_give 7 = .ok (.iconst 1, 1) := by decide +kernel
theorem d_Giving_give_8 : decode b_Giving_give 8 = .ok (.istore_n 3, 1) := by decide +kernel
theorem d_Giving_give_9 : decode b_Giving_give 9 = .ok (.iconst 1, 1) := by decide +kernel
theorem d_Giving_give_10 : decode b_Giving_give 10 = .ok (.iload_n 2, 1) := by decide +kernel
theorem d_Giving_give_11 : decode b_Giving_give 11 = .ok (.ishl, 1) := by decide +kernel
theorem d_Giving_give_12 : decode b_Giving_give 12 = .ok (.istore 4, 2) := by decide +kernel
theorem d_Giving_give_14 : decode b_Giving_give 14 = .ok (.iconst 0, 1) := by decide +kernel
theorem d_Giving_give_15 : decode b_Giving_give 15 = .ok (.istore 5, 2) := by decide +kernel
theorem d_Giving_give_17 : decode b_Giving_give 17 = .ok (.iload 5, 2) := by decide +kernel
theorem d_Giving_give_19 : decode b_Giving_give 19 = .ok (.iload_n 3, 1) := by decide +kernel
theorem d_Giving_give_20 : decode b_Giving_give 20 = .ok (.if_icmp .ge 144, 3) := by decide +kernel
theorem d_Giving_give_23 : decode b_Giving_give 23 = .ok (.iload 5, 2) := by decide +kernel
theorem d_Giving_give_25 : decode b_Giving_give 25 = .ok (.aload_n 0, 1) := by decide +kernel
theorem d_Giving_give_26 : decode b_Giving_give 26 = .ok (.getfield 18, 3) := by decide +kernel
theorem d_Giving_give_29 : decode b_Giving_give 29 = .ok (.arraylength, 1) := by decide +kernel
theorem d_Giving_give_30 : decode b_Giving_give 30 = .ok (.if_icmp .ge 134, 3) := by decide +kernel
theorem d_Giving_give_33 : decode b_Giving_give 33 = .ok (.aload_n 0, 1) := by decide +kernel
theorem d_Giving_give_34 : decode b_Giving_give 34 = .ok (.getfield 18, 3) := by decide +kernel
theorem d_Giving_give_37 : decode b_Giving_give 37 = .ok (.iload 5, 2) := by decide +kernel
theorem d_Giving_give_39 : decode b_Giving_give 39 = .ok (.iaload, 1) := by decide +kernel
theorem d_Giving_give_40 : decode b_Giving_give 40 = .ok (.istore 6, 2) := by decide +kernel
theorem d_Giving_give_42 : decode b_Giving_give 42 = .ok (.aload_n 1, 1) := by decide +kernel
theorem d_Giving_give_43 : decode b_Giving_give 43 = .ok (.iload 6, 2) := by decide +kernel
theorem d_Giving_give_45 : decode b_Giving_give 45 = .ok (.laload, 1) := by decide +kernel
theorem d_Giving_give_46 : decode b_Giving_give 46 = .ok (.aload_n 0, 1) := by decide +kernel
theorem d_Giving_give_47 : decode b_Giving_give 47 = .ok (.getfield 24, 3) := by decide +kernel
theorem d_Giving_give_50 : decode b_Giving_give 50 = .ok (.ldc2_w 36, 3) := by decide +kernel
theorem d_Giving_give_53 : decode b_Giving_give 53 = .ok (.lxor, 1) := by decide +kernel
theorem d_Giving_give_54 : decode b_Giving_give 54 = .ok (.land, 1) := by decide +kernel
theorem d_Giving_give_55 : decode b_Giving_give 55 = .ok (.lstore 7, 2) := by decide +kernel
theorem d_Giving_give_57 : decode b_Giving_give 57 = .ok (.lload 7, 2) := by decide +kernel
theorem d_Giving_give_59 : decode b_Giving_give 59 = .ok (.lconst 0, 1) := by decide +kernel
theorem d_Giving_give_60 : decode b_Giving_give 60 = .ok (.lcmp, 1) := by decide +kernel
theorem d_Giving_give_61 : decode b_Giving_give 61 = .ok (.ifCond .eq 17, 3) := by decide +kernel
theorem d_Giving_give_64 : decode b_Giving_give 64 = .ok (.aload_n 0, 1) := by decide +kernel
theorem d_Giving_give_65 : decode b_Giving_give 65 = .ok (.iload 6, 2) := by decide +kernel
theorem d_Giving_give_67 : decode b_Giving_give 67 = .ok (.iload_n 2, 1) := by decide +kernel
theorem d_Giving_give_68 : decode b_Giving_give 68 = .ok (.lload 7, 2) := by decide +kernel
theorem d_Giving_give_70 : decode b_Giving_give 70 = .ok (.invokestatic 38, 3) := by decide +kernel
theorem d_Giving_give_73 : decode b_Giving_give 73 = .ok (.invokevirtual 44, 3) := by decide +kernel
theorem d_Giving_give_76 : decode b_Giving_give 76 = .ok (.iconst 1, 1) := by decide +kernel
theorem d_Giving_give_77 : decode b_Giving_give 77 = .ok (.ireturn, 1) := by decide +kernel
theorem d_Giving_give_78 : decode b_Giving_give 78 = .ok (.iconst 0, 1) := by decide +kernel
theorem d_Giving_give_79 : decode b_Giving_give 79 = .ok (.istore 9, 2) := by decide +kernel
theorem d_Giving_give_81 : decode b_Giving_give 81 = .ok (.iload 9, 2) := by decide +kernel
theorem d_Giving_give_83 : decode b_Giving_give 83 = .ok (.iload_n 2, 1) := by decide +kernel
theorem d_Giving_give_84 : decode b_Giving_give 84 = .ok (.if_icmp .ge 74, 3) := by decide +kernel
theorem d_Giving_give_87 : decode b_Giving_give 87 = .ok (.iload_n 3, 1) := by decide +kernel
theorem d_Giving_give_88 : decode b_Giving_give 88 = .ok (.aload_n 0, 1) := by decide +kernel
theorem d_Giving_give_89 : decode b_Giving_give 89 = .ok (.getfield 18, 3) := by decide +kernel
theorem d_Giving_give_92 : decode b_Giving_give 92 = .ok (.arraylength, 1) := by decide +kernel
theorem d_Giving_give_93 : decode b_Giving_give 93 = .ok (.if_icmp .ge 65, 3) := by decide +kernel
theorem d_Giving_give_96 : decode b_Giving_give 96 = .ok (.iload 4, 2) := by decide +kernel
theorem d_Giving_give_98 : decode b_Giving_give 98 = .ok (.iload 9, 2) := by decide +kernel
theorem d_Giving_give_100 : decode b_Giving_give 100 = .ok (.iushr, 1) := by decide +kernel
theorem d_Giving_give_101 : decode b_Giving_give 101 = .ok (.iconst 1, 1) := by decide +kernel
theorem d_Giving_give_102 : decode b_Giving_give 102 = .ok (.iand, 1) := by decide +kernel
theorem d_Giving_give_103 : decode b_Giving_give 103 = .ok (.ifCond .ne 49, 3) := by decide +kernel
theorem d_Giving_give_106 : decode b_Giving_give 106 = .ok (.aload_n 1, 1) := by decide +kernel
theorem d_Giving_give_107 : decode b_Giving_give 107 = .ok (.iload 6, 2) := by decide +kernel
theorem d_Giving_give_109 : decode b_Giving_give 109 = .ok (.laload, 1) := by decide +kernel
theorem d_Giving_give_110 : decode b_Giving_give 110 = .ok (.aload_n 0, 1) := by decide +kernel
theorem d_Giving_give_111 : decode b_Giving_give 111 = .ok (.getfield 9, 3) := by decide +kernel
theorem d_Giving_give_114 : decode b_Giving_give 114 = .ok (.iload 9, 2) := by decide +kernel
theorem d_Giving_give_116 : decode b_Giving_give 116 = .ok (.iaload, 1) := by decide +kernel
theorem d_Giving_give_117 : decode b_Giving_give 117 = .ok (.invokestatic 48, 3) := by decide +kernel
theorem d_Giving_give_120 : decode b_Giving_give 120 = .ok (.ifCond .eq 32, 3) := by decide +kernel
theorem d_Giving_give_123 : decode b_Giving_give 123 = .ok (.iload 4, 2) := by decide +kernel
theorem d_Giving_give_125 : decode b_Giving_give 125 = .ok (.iconst 1, 1) := by decide +kernel
theorem d_Giving_give_126 : decode b_Giving_give 126 = .ok (.iload 9, 2) := by decide +kernel
theorem d_Giving_give_128 : decode b_Giving_give 128 = .ok (.ishl, 1) := by decide +kernel
theorem d_Giving_give_129 : decode b_Giving_give 129 = .ok (.ior, 1) := by decide +kernel
theorem d_Giving_give_130 : decode b_Giving_give 130 = .ok (.istore 4, 2) := by decide +kernel
theorem d_Giving_give_132 : decode b_Giving_give 132 = .ok (.aload_n 0, 1) := by decide +kernel
theorem d_Giving_give_133 : decode b_Giving_give 133 = .ok (.getfield 15, 3) := by decide +kernel
theorem d_Giving_give_136 : decode b_Giving_give 136 = .ok (.iload 9, 2) := by decide +kernel
theorem d_Giving_give_138 : decode b_Giving_give 138 = .ok (.iload 6, 2) := by decide +kernel
theorem d_Giving_give_140 : decode b_Giving_give 140 = .ok (.iastore, 1) := by decide +kernel
theorem d_Giving_give_141 : decode b_Giving_give 141 = .ok (.aload_n 0, 1) := by decide +kernel
theorem d_Giving_give_142 : decode b_Giving_give 142 = .ok (.getfield 18, 3) := by decide +kernel
theorem d_Giving_give_145 : decode b_Giving_give 145 = .ok (.iload_n 3, 1) := by decide +kernel
theorem d_Giving_give_146 : decode b_Giving_give 146 = .ok (.iload 9, 2) := by decide +kernel
theorem d_Giving_give_148 : decode b_Giving_give 148 = .ok (.iastore, 1) := by decide +kernel
theorem d_Giving_give_149 : decode b_Giving_give 149 = .ok (.iinc 3 1, 3) := by decide +kernel
theorem d_Giving_give_152 : decode b_Giving_give 152 = .ok (.iinc 9 1, 3) := by decide +kernel
theorem d_Giving_give_155 : decode b_Giving_give 155 = .ok (.goto (-74), 3) := by decide +kernel
theorem d_Giving_give_158 : decode b_Giving_give 158 = .ok (.iinc 5 1, 3) := by decide +kernel
theorem d_Giving_give_161 : decode b_Giving_give 161 = .ok (.goto (-144), 3) := by decide +kernel
theorem d_Giving_give_164 : decode b_Giving_give 164 = .ok (.iconst 0, 1) := by decide +kernel
theorem d_Giving_give_165 : decode b_Giving_give 165 = .ok (.ireturn, 1) := by decide +kernel
