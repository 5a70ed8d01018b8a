theorem d_Mo_isCandidate_0 : decode b_Mo_isCandidate 0 = .ok (.lload_n 2, 1) := by decide +kernel
theorem d_Mo_isCandidate_1 : decode b_Mo_isCandidate 1 = .ok (.lconst 0, 1) := by decide +kernel
theorem d_Mo_isCandidate_2 : decode b_Mo_isCandidate 2 = .ok (.lcmp, 1) := by decide +kernel
theorem d_Mo_isCandidate_3 : decode b_Mo_isCandidate 3 = .ok (.ifCond .lt 31, 3) := by decide +kernel
theorem d_Mo_isCandidate_6 : decode b_Mo_isCandidate 6 = .ok (.lload_n 2, 1) := by decide +kernel
theorem d_Mo_isCandidate_7 : decode b_Mo_isCandidate 7 = .ok (.aload_n 0, 1) := by decide +kernel
theorem d_Mo_isCandidate_8 : decode b_Mo_isCandidate 8 = .ok (.getfield 81, 3) := by decide +kernel
theorem d_Mo_isCandidate_11 : decode b_Mo_isCandidate 11 = .ok (.i2l, 1) := by decide +kernel
theorem d_Mo_isCandidate_12 : decode b_Mo_isCandidate 12 = .ok (.lcmp, 1) := by decide +kernel
theorem d_Mo_isCandidate_13 : decode b_Mo_isCandidate 13 = .ok (.ifCond .ge 21, 3) := by decide +kernel
theorem d_Mo_isCandidate_16 : decode b_Mo_isCandidate 16 = .ok (.aload_n 0, 1) := by decide +kernel
theorem d_Mo_isCandidate_17 : decode b_Mo_isCandidate 17 = .ok (.getfield 67, 3) := by decide +kernel
theorem d_Mo_isCandidate_20 : decode b_Mo_isCandidate 20 = .ok (.iload_n 1, 1) := by decide +kernel
theorem d_Mo_isCandidate_21 : decode b_Mo_isCandidate 21 = .ok (.laload, 1) := by decide +kernel
theorem d_Mo_isCandidate_22 : decode b_Mo_isCandidate 22 = .ok (.lload_n 2, 1) := by decide +kernel
theorem d_Mo_isCandidate_23 : decode b_Mo_isCandidate 23 = .ok (.l2i, 1) := by decide +kernel
theorem d_Mo_isCandidate_24 : decode b_Mo_isCandidate 24 = .ok (.invokestatic 90, 3) := by decide +kernel
theorem d_Mo_isCandidate_27 : decode b_Mo_isCandidate 27 = .ok (.ifCond .eq 7, 3) := by decide +kernel
theorem d_Mo_isCandidate_30 : decode b_Mo_isCandidate 30 = .ok (.iconst 1, 1) := by decide +kernel
theorem d_Mo_isCandidate_31 : decode b_Mo_isCandidate 31 = .ok (.goto 4, 3) := by decide +kernel
theorem d_Mo_isCandidate_34 : decode b_Mo_isCandidate 34 = .ok (.iconst 0, 1) := by decide +kernel
theorem d_Mo_isCandidate_35 : decode b_Mo_isCandidate 35 = .ok (.ireturn, 1) := by decide +kernel
theorem d_Mo_apart_0 : decode b_Mo_apart 0 = .ok (.iconst 0, 1) := by decide +kernel
theorem d_Mo_apart_1 : decode b_Mo_apart 1 = .ok (.istore_n 2, 1) := by decide +kernel
theorem d_Mo_apart_2 : decode b_Mo_apart 2 = .ok (.iload_n 2, 1) := by decide +kernel
theorem d_Mo_apart_3 : decode b_Mo_apart 3 = .ok (.iconst 2, 1) := by decide +kernel
theorem d_Mo_apart_4 : decode b_Mo_apart 4 = .ok (.if_icmp .ge 92, 3) := by decide +kernel
theorem d_Mo_apart_7 : decode b_Mo_apart 7 = .ok (.iconst 0, 1) := by decide +kernel
theorem d_Mo_apart_8 : decode b_Mo_apart 8 = .ok (.istore_n 3, 1) := by decide +kernel
theorem d_Mo_apart_9 : decode b_Mo_apart 9 = .ok (.iload_n 3, 1) := by decide +kernel
theorem d_Mo_apart_10 : decode b_Mo_apart 10 = .ok (.aload_n 0, 1) := by decide +kernel
theorem d_Mo_apart_11 : decode b_Mo_apart 11 = .ok (.getfield 81, 3) := by decide +kernel
theorem d_Mo_apart_14 : decode b_Mo_apart 14 = .ok (.if_icmp .ge 76, 3) := by decide +kernel
theorem d_Mo_apart_17 : decode b_Mo_apart 17 = .ok (.aload_n 0, 1) := by decide +kernel
theorem d_Mo_apart_18 : decode b_Mo_apart 18 = .ok (.getfield 67, 3) := by decide +kernel
theorem d_Mo_apart_21 : decode b_Mo_apart 21 = .ok (.iload_n 2, 1) := by decide +kernel
theorem d_Mo_apart_22 : decode b_Mo_apart 22 = .ok (.laload, 1) := by decide +kernel
theorem d_Mo_apart_23 : decode b_Mo_apart 23 = .ok (.iload_n 3, 1) := by decide +kernel
theorem d_Mo_apart_24 : decode b_Mo_apart 24 = .ok (.invokestatic 90, 3) := by decide +kernel
theorem d_Mo_apart_27 : decode b_Mo_apart 27 = .ok (.ifCond .eq 57, 3) := by decide +kernel
theorem d_Mo_apart_30 : decode b_Mo_apart 30 = .ok (.aload_n 0, 1) := by decide +kernel
theorem d_Mo_apart_31 : decode b_Mo_apart 31 = .ok (.iconst 1, 1) := by decide +kernel
theorem d_Mo_apart_32 : decode b_Mo_apart 32 = .ok (.iload_n 2, 1) := by decide +kernel
theorem d_Mo_apart_33 : decode b_Mo_apart 33 = .ok (.isub, 1) := by decide +kernel
theorem d_Mo_apart_34 : decode b_Mo_apart 34 = .ok (.iload_n 3, 1) := by decide +kernel
theorem d_Mo_apart_35 : decode b_Mo_apart 35 = .ok (.i2l, 1) := by decide +kernel
theorem d_Mo_apart_36 : decode b_Mo_apart 36 = .ok (.aload_n 0, 1) := by decide +kernel
theorem d_Mo_apart_37 : decode b_Mo_apart 37 = .ok (.getfield 20, 3) := by decide +kernel
theorem d_Mo_apart_40 : decode b_Mo_apart 40 = .ok (.iload_n 1, 1) := by decide +kernel
theorem d_Mo_apart_41 : decode b_Mo_apart 41 = .ok (.laload, 1) := by decide +kernel
theorem d_Mo_apart_42 : decode b_Mo_apart 42 = .ok (.ladd, 1) := by decide +kernel
theorem d_Mo_apart_43 : decode b_Mo_apart 43 = .ok (.invokevirtual 159, 3) := by decide +kernel
theorem d_Mo_apart_46 : decode b_Mo_apart 46 = .ok (.ifCond .ne 38, 3) := by decide +kernel
theorem d_Mo_apart_49 : decode b_Mo_apart 49 = .ok (.aload_n 0, 1) := by decide +kernel
theorem d_Mo_apart_50 : decode b_Mo_apart 50 = .ok (.iconst 1, 1) := by decide +kernel
theorem d_Mo_apart_51 : decode b_Mo_apart 51 = .ok (.iload_n 2, 1) := by decide +kernel
theorem d_Mo_apart_52 : decode b_Mo_apart 52 = .ok (.isub, 1) := by decide +kernel
theorem d_Mo_apart_53 : decode b_Mo_apart 53 = .ok (.iload_n 3, 1) := by decide +kernel
theorem d_Mo_apart_54 : decode b_Mo_apart 54 = .ok (.i2l, 1) := by decide +kernel
theorem d_Mo_apart_55 : decode b_Mo_apart 55 = .ok (.aload_n 0, 1) := by decide +kernel
theorem d_Mo_apart_56 : decode b_Mo_apart 56 = .ok (.getfield 20, 3) := by decide +kernel
theorem d_Mo_apart_59 : decode b_Mo_apart 59 = .ok (.iload_n 1, 1) := by decide +kernel
theorem d_Mo_apart_60 : decode b_Mo_apart 60 = .ok (.laload, 1) := by decide +kernel
theorem d_Mo_apart_61 : decode b_Mo_apart 61 = .ok (.lsub, 1) := by decide +kernel
theorem d_Mo_apart_62 : decode b_Mo_apart 62 = .ok (.invokevirtual 159, 3) := by decide +kernel
theorem d_Mo_apart_65 : decode b_Mo_apart 65 = .ok (.ifCond .ne 19, 3) := by decide +kernel
theorem d_Mo_apart_68 : decode b_Mo_apart 68 = .ok (.aload_n 0, 1) := by decide +kernel
theorem d_Mo_apart_69 : decode b_Mo_apart 69 = .ok (.getfield 70, 3) := by decide +kernel
theorem d_Mo_apart_72 : decode b_Mo_apart 72 = .ok (.iload_n 2, 1) := by decide +kernel
theorem d_Mo_apart_73 : decode b_Mo_apart 73 = .ok (.aload_n 0, 1) := by decide +kernel
theorem d_Mo_apart_74 : decode b_Mo_apart 74 = .ok (.getfield 70, 3) := by decide +kernel
theorem d_Mo_apart_77 : decode b_Mo_apart 77 = .ok (.iload_n 2, 1) := by decide +kernel
theorem d_Mo_apart_78 : decode b_Mo_apart 78 = .ok (.laload, 1) := by decide +kernel
theorem d_Mo_apart_79 : decode b_Mo_apart 79 = .ok (.lconst 1, 1) := by decide +kernel
theorem d_Mo_apart_80 : decode b_Mo_apart 80 = .ok (.iload_n 3, 1) := by decide +kernel
theorem d_Mo_apart_81 : decode b_Mo_apart 81 = .ok (.lshl, 1) := by decide +kernel
theorem d_Mo_apart_82 : decode b_Mo_apart 82 = .ok (.lor, 1) := by decide +kernel
theorem d_Mo_apart_83 : decode b_Mo_apart 83 = .ok (.lastore, 1) := by decide +kernel
theorem d_Mo_apart_84 : decode b_Mo_apart 84 = .ok (.iinc 3 1, 3) := by decide +kernel
theorem d_Mo_apart_87 : decode b_Mo_apart 87 = .ok (.goto (-78), 3) := by decide +kernel
theorem d_Mo_apart_90 : decode b_Mo_apart 90 = .ok (.iinc 2 1, 3) := by decide +kernel
theorem d_Mo_apart_93 : decode b_Mo_apart 93 = .ok (.goto (-91), 3) := by decide +kernel
theorem d_Mo_apart_96 : decode b_Mo_apart 96 = .ok (.return_, 1) := by decide +kernel
theorem d_Mo_byTable_0 : decode b_Mo_byTable 0 = .ok (.aload_n 0, 1) := by decide +kernel
theorem d_Mo_byTable_1 : decode b_Mo_byTable 1 = .ok (.getfield 70, 3) := by decide +kernel
theorem d_Mo_byTable_4 : decode b_Mo_byTable 4 = .ok (.iconst 0, 1) := by decide +kernel
theorem d_Mo_byTable_5 : decode b_Mo_byTable 5 = .ok (.aload_n 0, 1) := by decide +kernel
theorem d_Mo_byTable_6 : decode b_Mo_byTable 6 = .ok (.getfield 67, 3) := by decide +kernel
theorem d_Mo_byTable_9 : decode b_Mo_byTable 9 = .ok (.iconst 0, 1) := by decide +kernel
theorem d_Mo_byTable_10 : decode b_Mo_byTable 10 = .ok (.laload, 1) := by decide +kernel
theorem d_Mo_byTable_11 : decode b_Mo_byTable 11 = .ok (.lastore, 1) := by decide +kernel
theorem d_Mo_byTable_12 : decode b_Mo_byTable 12 = .ok (.aload_n 0, 1) := by decide +kernel
theorem d_Mo_byTable_13 : decode b_Mo_byTable 13 = .ok (.getfield 70, 3) := by decide +kernel
theorem d_Mo_byTable_16 : decode b_Mo_byTable 16 = .ok (.iconst 1, 1) := by decide +kernel
theorem d_Mo_byTable_17 : decode b_Mo_byTable 17 = .ok (.aload_n 0, 1) := by decide +kernel
theorem d_Mo_byTable_18 : decode b_Mo_byTable 18 = .ok (.getfield 67, 3) := by decide +kernel
theorem d_Mo_byTable_21 : decode b_Mo_byTable 21 = .ok (.iconst 1, 1) := by decide +kernel
theorem d_Mo_byTable_22 : decode b_Mo_byTable 22 = .ok (.laload, 1) := by decide +kernel
theorem d_Mo_byTable_23 : decode b_Mo_byTable 23 = .ok (.lastore, 1) := by decide +kernel
theorem d_Mo_byTable_24 : decode b_Mo_byTable 24 = .ok (.sipush 400, 3) := by decide +kernel
theorem d_Mo_byTable_27 : decode b_Mo_byTable 27 = .ok (.iload_n 1, 1) := by decide +kernel
theorem d_Mo_byTable_28 : decode b_Mo_byTable 28 = .ok (.imul, 1) := by decide +kernel
theorem d_Mo_byTable_29 : decode b_Mo_byTable 29 = .ok (.istore_n 2, 1) := by decide +kernel
theorem d_Mo_byTable_30 : decode b_Mo_byTable 30 = .ok (.iload_n 2, 1) := by decide +kernel
theorem d_Mo_byTable_31 : decode b_Mo_byTable 31 = .ok (.sipush 400, 3) := by decide +kernel
theorem d_Mo_byTable_34 : decode b_Mo_byTable 34 = .ok (.iload_n 1, 1) := by decide +kernel
theorem d_Mo_byTable_35 : decode b_Mo_byTable 35 = .ok (.imul, 1) := by decide +kernel
theorem d_Mo_byTable_36 : decode b_Mo_byTable 36 = .ok (.aload_n 0, 1) := by decide +kernel
theorem d_Mo_byTable_37 : decode b_Mo_byTable 37 = .ok (.getfield 32, 3) := by decide +kernel
theorem d_Mo_byTable_40 : decode b_Mo_byTable 40 = .ok (.iload_n 1, 1) := by decide +kernel
theorem d_Mo_byTable_41 : decode b_Mo_byTable 41 = .ok (.iaload, 1) := by decide +kernel
theorem d_Mo_byTable_42 : decode b_Mo_byTable 42 = .ok (.iadd, 1) := by decide +kernel
theorem d_Mo_byTable_43 : decode b_Mo_byTable 43 = .ok (.if_icmp .ge 98, 3) := by decide +kernel
theorem d_Mo_byTable_46 : decode b_Mo_byTable 46 = .ok (.aload_n 0, 1) := by decide +kernel
theorem d_Mo_byTable_47 : decode b_Mo_byTable 47 = .ok (.getfield 67, 3) := by decide +kernel
theorem d_Mo_byTable_50 : decode b_Mo_byTable 50 = .ok (.iconst 0, 1) := by decide +kernel
theorem d_Mo_byTable_51 : decode b_Mo_byTable 51 = .ok (.laload, 1) := by decide +kernel
theorem d_Mo_byTable_52 : decode b_Mo_byTable 52 = .ok (.aload_n 0, 1) := by decide +kernel
theorem d_Mo_byTable_53 : decode b_Mo_byTable 53 = .ok (.getfield 36, 3) := by decide +kernel
theorem d_Mo_byTable_56 : decode b_Mo_byTable 56 = .ok (.iload_n 2, 1) := by decide +kernel
theorem d_Mo_byTable_57 : decode b_Mo_byTable 57 = .ok (.iaload, 1) := by decide +kernel
theorem d_Mo_byTable_58 : decode b_Mo_byTable 58 = .ok (.invokestatic 90, 3) := by decide +kernel
theorem d_Mo_byTable_61 : decode b_Mo_byTable 61 = .ok (.ifCond .eq 74, 3) := by decide +kernel
theorem d_Mo_byTable_64 : decode b_Mo_byTable 64 = .ok (.aload_n 0, 1) := by decide +kernel
theorem d_Mo_byTable_65 : decode b_Mo_byTable 65 = .ok (.getfield 67, 3) := by decide +kernel
theorem d_Mo_byTable_68 : decode b_Mo_byTable 68 = .ok (.iconst 1, 1) := by decide +kernel
theorem d_Mo_byTable_69 : decode b_Mo_byTable 69 = .ok (.laload, 1) := by decide +kernel
theorem d_Mo_byTable_70 : decode b_Mo_byTable 70 = .ok (.aload_n 0, 1) := by decide +kernel
theorem d_Mo_byTable_71 : decode b_Mo_byTable 71 = .ok (.getfield 39, 3) := by decide +kernel
theorem d_Mo_byTable_74 : decode b_Mo_byTable 74 = .ok (.iload_n 2, 1) := by decide +kernel
theorem d_Mo_byTable_75 : decode b_Mo_byTable 75 = .ok (.iaload, 1) := by decide +kernel
theorem d_Mo_byTable_76 : decode b_Mo_byTable 76 = .ok (.invokestatic 90, 3) := by decide +kernel
theorem d_Mo_byTable_79 : decode b_Mo_byTable 79 = .ok (.ifCond .ne 6, 3) := by decide +kernel
theorem d_Mo_byTable_82 : decode b_Mo_byTable 82 = .ok (.goto 53, 3) := by decide +kernel
theorem d_Mo_byTable_85 : decode b_Mo_byTable 85 = .ok (.aload_n 0, 1) := by decide +kernel
theorem d_Mo_byTable_86 : decode b_Mo_byTable 86 = .ok (.getfield 70, 3) := by decide +kernel
theorem d_Mo_byTable_89 : decode b_Mo_byTable 89 = .ok (.iconst 0, 1) := by decide +kernel
theorem d_Mo_byTable_90 : decode b_Mo_byTable 90 = .ok (.aload_n 0, 1) := by decide +kernel
theorem d_Mo_byTable_91 : decode b_Mo_byTable 91 = .ok (.getfield 70, 3) := by decide +kernel
theorem d_Mo_byTable_94 : decode b_Mo_byTable 94 = .ok (.iconst 0, 1) := by decide +kernel
theorem d_Mo_byTable_95 : decode b_Mo_byTable 95 = .ok (.laload, 1) := by decide +kernel
theorem d_Mo_byTable_96 : decode b_Mo_byTable 96 = .ok (.lconst 1, 1) := by decide +kernel
theorem d_Mo_byTable_97 : decode b_Mo_byTable 97 = .ok (.aload_n 0, 1) := by decide +kernel
theorem d_Mo_byTable_98 : decode b_Mo_byTable 98 = .ok (.getfield 36, 3) := by decide +kernel
theorem d_Mo_byTable_101 : decode b_Mo_byTable 101 = .ok (.iload_n 2, 1) := by decide +kernel
theorem d_Mo_byTable_102 : decode b_Mo_byTable 102 = .ok (.iaload, 1) := by decide +kernel
theorem d_Mo_byTable_103 : decode b_Mo_byTable 103 = .ok (.lshl, 1) := by decide +kernel
theorem d_Mo_byTable_104 : decode b_Mo_byTable 104 = .ok (.ldc2_w 130, 3) := by decide +kernel
theorem d_Mo_byTable_107 : decode b_Mo_byTable 107 = .ok (.lxor, 1) := by decide +kernel
theorem d_Mo_byTable_108 : decode b_Mo_byTable 108 = .ok (.land, 1) := by decide +kernel
theorem d_Mo_byTable_109 : decode b_Mo_byTable 109 = .ok (.lastore, 1) := by decide +kernel
theorem d_Mo_byTable_110 : decode b_Mo_byTable 110 = .ok (.aload_n 0, 1) := by decide +kernel
theorem d_Mo_byTable_111 : decode b_Mo_byTable 111 = .ok (.getfield 70, 3) := by decide +kernel
theorem d_Mo_byTable_114 : decode b_Mo_byTable 114 = .ok (.iconst 1, 1) := by decide +kernel
theorem d_Mo_byTable_115 : decode b_Mo_byTable 115 = .ok (.aload_n 0, 1) := by decide +kernel
theorem d_Mo_byTable_116 : decode b_Mo_byTable 116 = .ok (.getfield 70, 3) := by decide +kernel
theorem d_Mo_byTable_119 : decode b_Mo_byTable 119 = .ok (.iconst 1, 1) := by decide +kernel
theorem d_Mo_byTable_120 : decode b_Mo_byTable 120 = .ok (.laload, 1) := by decide +kernel
theorem d_Mo_byTable_121 : decode b_Mo_byTable 121 = .ok (.lconst 1, 1) := by decide +kernel
theorem d_Mo_byTable_122 : decode b_Mo_byTable 122 = .ok (.aload_n 0, 1) := by decide +kernel
theorem d_Mo_byTable_123 : decode b_Mo_byTable 123 = .ok (.getfield 39, 3) := by decide +kernel
theorem d_Mo_byTable_126 : decode b_Mo_byTable 126 = .ok (.iload_n 2, 1) := by decide +kernel
theorem d_Mo_byTable_127 : decode b_Mo_byTable 127 = .ok (.iaload, 1) := by decide +kernel
theorem d_Mo_byTable_128 : decode b_Mo_byTable 128 = .ok (.lshl, 1) := by decide +kernel
theorem d_Mo_byTable_129 : decode b_Mo_byTable 129 = .ok (.ldc2_w 130, 3) := by decide +kernel
theorem d_Mo_byTable_132 : decode b_Mo_byTable 132 = .ok (.lxor, 1) := by decide +kernel
theorem d_Mo_byTable_133 : decode b_Mo_byTable 133 = .ok (.land, 1) := by decide +kernel
theorem d_Mo_byTable_134 : decode b_Mo_byTable 134 = .ok (.lastore, 1) := by decide +kernel
theorem d_Mo_byTable_135 : decode b_Mo_byTable 135 = .ok (.iinc 2 1, 3) := by decide +kernel
theorem d_Mo_byTable_138 : decode b_Mo_byTable 138 = .ok (.goto (-108), 3) := by decide +kernel
theorem d_Mo_byTable_141 : decode b_Mo_byTable 141 = .ok (.return_, 1) := by decide +kernel
theorem d_Mo_find_0 : decode b_Mo_find 0 = .ok (.aload_n 0, 1) := by decide +kernel
theorem d_Mo_find_1 : decode b_Mo_find 1 = .ok (.getfield 23, 3) := by decide +kernel
theorem d_Mo_find_4 : decode b_Mo_find 4 = .ok (.iload_n 1, 1) := by decide +kernel
theorem d_Mo_find_5 : decode b_Mo_find 5 = .ok (.iaload, 1) := by decide +kernel
theorem d_Mo_find_6 : decode b_Mo_find 6 = .ok (.istore_n 2, 1) := by decide +kernel
theorem d_Mo_find_7 : decode b_Mo_find 7 = .ok (.iconst 0, 1) := by decide +kernel
theorem d_Mo_find_8 : decode b_Mo_find 8 = .ok (.istore_n 3, 1) := by decide +kernel
theorem d_Mo_find_9 : decode b_Mo_find 9 = .ok (.iload_n 3, 1) := by decide +kernel
theorem d_Mo_find_10 : decode b_Mo_find 10 = .ok (.iload_n 2, 1) := by decide +kernel
theorem d_Mo_find_11 : decode b_Mo_find 11 = .ok (.if_icmp .ge 38, 3) := by decide +kernel
theorem d_Mo_find_14 : decode b_Mo_find 14 = .ok (.aload_n 0, 1) := by decide +kernel
theorem d_Mo_find_15 : decode b_Mo_find 15 = .ok (.getfield 67, 3) := by decide +kernel
theorem d_Mo_find_18 : decode b_Mo_find 18 = .ok (.iload_n 3, 1) := by decide +kernel
theorem d_Mo_find_19 : decode b_Mo_find 19 = .ok (.aload_n 0, 1) := by decide +kernel
theorem d_Mo_find_20 : decode b_Mo_find 20 = .ok (.getfield 7, 3) := by decide +kernel
theorem d_Mo_find_23 : decode b_Mo_find 23 = .ok (.aload_n 0, 1) := by decide +kernel
theorem d_Mo_find_24 : decode b_Mo_find 24 = .ok (.getfield 26, 3) := by decide +kernel
theorem d_Mo_find_27 : decode b_Mo_find 27 = .ok (.bipush 16, 2) := by decide +kernel
theorem d_Mo_find_29 : decode b_Mo_find 29 = .ok (.iload_n 1, 1) := by decide +kernel
theorem d_Mo_find_30 : decode b_Mo_find 30 = .ok (.imul, 1) := by decide +kernel
theorem d_Mo_find_31 : decode b_Mo_find 31 = .ok (.iload_n 3, 1) := by decide +kernel
theorem d_Mo_find_32 : decode b_Mo_find 32 = .ok (.iadd, 1) := by decide +kernel
theorem d_Mo_find_33 : decode b_Mo_find 33 = .ok (.iaload, 1) := by decide +kernel
theorem d_Mo_find_34 : decode b_Mo_find 34 = .ok (.laload, 1) := by decide +kernel
theorem d_Mo_find_35 : decode b_Mo_find 35 = .ok (.lastore, 1) := by decide +kernel
theorem d_Mo_find_36 : decode b_Mo_find 36 = .ok (.aload_n 0, 1) := by decide +kernel
theorem d_Mo_find_37 : decode b_Mo_find 37 = .ok (.getfield 70, 3) := by decide +kernel
theorem d_Mo_find_40 : decode b_Mo_find 40 = .ok (.iload_n 3, 1) := by decide +kernel
theorem d_Mo_find_41 : decode b_Mo_find 41 = .ok (.lconst 0, 1) := by decide +kernel
theorem d_Mo_find_42 : decode b_Mo_find 42 = .ok (.lastore, 1) := by decide +kernel
theorem d_Mo_find_43 : decode b_Mo_find 43 = .ok (.iinc 3 1, 3) := by decide +kernel
theorem d_Mo_find_46 : decode b_Mo_find 46 = .ok (.goto (-37), 3) := by decide +kernel
theorem d_Mo_find_49 : decode b_Mo_find 49 = .ok (.aload_n 0, 1) := by decide +kernel
theorem d_Mo_find_50 : decode b_Mo_find 50 = .ok (.getfield 17, 3) := by decide +kernel
theorem d_Mo_find_53 : decode b_Mo_find 53 = .ok (.iload_n 1, 1) := by decide +kernel
theorem d_Mo_find_54 : decode b_Mo_find 54 = .ok (.iaload, 1) := by decide +kernel
theorem d_Mo_find_55 : decode b_Mo_find 55 = .ok (.tableswitch 107 0 6 #[41, 49, 57, 67, 77, 86, 94], 41) := by decide +kernel
theorem d_Mo_find_96 : decode b_Mo_find 96 = .ok (.aload_n 0, 1) := by decide +kernel
theorem d_Mo_find_97 : decode b_Mo_find 97 = .ok (.iload_n 2, 1) := by decide +kernel
theorem d_Mo_find_98 : decode b_Mo_find 98 = .ok (.invokevirtual 163, 3) := by decide +kernel
theorem d_Mo_find_101 : decode b_Mo_find 101 = .ok (.goto 71, 3) := by decide +kernel
theorem d_Mo_find_104 : decode b_Mo_find 104 = .ok (.aload_n 0, 1) := by decide +kernel
theorem d_Mo_find_105 : decode b_Mo_find 105 = .ok (.iload_n 2, 1) := by decide +kernel
theorem d_Mo_find_106 : decode b_Mo_find 106 = .ok (.invokevirtual 166, 3) := by decide +kernel
theorem d_Mo_find_109 : decode b_Mo_find 109 = .ok (.goto 63, 3) := by decide +kernel
theorem d_Mo_find_112 : decode b_Mo_find 112 = .ok (.aload_n 0, 1) := by decide +kernel
theorem d_Mo_find_113 : decode b_Mo_find 113 = .ok (.iload_n 1, 1) := by decide +kernel
theorem d_Mo_find_114 : decode b_Mo_find 114 = .ok (.iload_n 2, 1) := by decide +kernel
theorem d_Mo_find_115 : decode b_Mo_find 115 = .ok (.iconst 1, 1) := by decide +kernel
theorem d_Mo_find_116 : decode b_Mo_find 116 = .ok (.invokevirtual 169, 3) := by decide +kernel
theorem d_Mo_find_119 : decode b_Mo_find 119 = .ok (.goto 53, 3) := by decide +kernel
theorem d_Mo_find_122 : decode b_Mo_find 122 = .ok (.aload_n 0, 1) := by decide +kernel
theorem d_Mo_find_123 : decode b_Mo_find 123 = .ok (.iload_n 1, 1) := by decide +kernel
theorem d_Mo_find_124 : decode b_Mo_find 124 = .ok (.iload_n 2, 1) := by decide +kernel
theorem d_Mo_find_125 : decode b_Mo_find 125 = .ok (.iconst 0, 1) := by decide +kernel
theorem d_Mo_find_126 : decode b_Mo_find 126 = .ok (.invokevirtual 169, 3) := by decide +kernel
theorem d_Mo_find_129 : decode b_Mo_find 129 = .ok (.goto 43, 3) := by decide +kernel
theorem d_Mo_find_132 : decode b_Mo_find 132 = .ok (.aload_n 0, 1) := by decide +kernel
theorem d_Mo_find_133 : decode b_Mo_find 133 = .ok (.iload_n 1, 1) := by decide +kernel
theorem d_Mo_find_134 : decode b_Mo_find 134 = .ok (.iload_n 2, 1) := by decide +kernel
theorem d_Mo_find_135 : decode b_Mo_find 135 = .ok (.invokevirtual 173, 3) := by decide +kernel
theorem d_Mo_find_138 : decode b_Mo_find 138 = .ok (.goto 34, 3) := by decide +kernel
theorem d_Mo_find_141 : decode b_Mo_find 141 = .ok (.aload_n 0, 1) := by decide +kernel
theorem d_Mo_find_142 : decode b_Mo_find 142 = .ok (.iload_n 2, 1) := by decide +kernel
theorem d_Mo_find_143 : decode b_Mo_find 143 = .ok (.invokevirtual 176, 3) := by decide +kernel
theorem d_Mo_find_146 : decode b_Mo_find 146 = .ok (.goto 26, 3) := by decide +kernel
theorem d_Mo_find_149 : decode b_Mo_find 149 = .ok (.iload_n 2, 1) := by decide +kernel
theorem d_Mo_find_150 : decode b_Mo_find 150 = .ok (.iconst 2, 1) := by decide +kernel
theorem d_Mo_find_151 : decode b_Mo_find 151 = .ok (.if_icmp .ne 21, 3) := by decide +kernel
theorem d_Mo_find_154 : decode b_Mo_find 154 = .ok (.aload_n 0, 1) := by decide +kernel
theorem d_Mo_find_155 : decode b_Mo_find 155 = .ok (.iload_n 1, 1) := by decide +kernel
theorem d_Mo_find_156 : decode b_Mo_find 156 = .ok (.invokevirtual 179, 3) := by decide +kernel
theorem d_Mo_find_159 : decode b_Mo_find 159 = .ok (.goto 13, 3) := by decide +kernel
theorem d_Mo_find_162 : decode b_Mo_find 162 = .ok (.iload_n 2, 1) := by decide +kernel
theorem d_Mo_find_163 : decode b_Mo_find 163 = .ok (.iconst 2, 1) := by decide +kernel
theorem d_Mo_find_164 : decode b_Mo_find 164 = .ok (.if_icmp .ne 8, 3) := by decide +kernel
theorem d_Mo_find_167 : decode b_Mo_find 167 = .ok (.aload_n 0, 1) := by decide +kernel
theorem d_Mo_find_168 : decode b_Mo_find 168 = .ok (.iload_n 1, 1) := by decide +kernel
theorem d_Mo_find_169 : decode b_Mo_find 169 = .ok (.invokevirtual 182, 3) := by decide +kernel
theorem d_Mo_find_172 : decode b_Mo_find 172 = .ok (.return_, 1) := by decide +kernel
theorem d_Mo_emptyPlace_0 : decode b_Mo_emptyPlace 0 = .ok (.iconst 0, 1) := by decide +kernel
theorem d_Mo_emptyPlace_1 : decode b_Mo_emptyPlace 1 = .ok (.istore_n 1, 1) := by decide +kernel
theorem d_Mo_emptyPlace_2 : decode b_Mo_emptyPlace 2 = .ok (.iload_n 1, 1) := by decide +kernel
theorem d_Mo_emptyPlace_3 : decode b_Mo_emptyPlace 3 = .ok (.aload_n 0, 1) := by decide +kernel
theorem d_Mo_emptyPlace_4 : decode b_Mo_emptyPlace 4 = .ok (.getfield 77, 3) := by decide +kernel
theorem d_Mo_emptyPlace_7 : decode b_Mo_emptyPlace 7 = .ok (.if_icmp .ge 22, 3) := by decide +kernel
theorem d_Mo_emptyPlace_10 : decode b_Mo_emptyPlace 10 = .ok (.aload_n 0, 1) := by decide +kernel
theorem d_Mo_emptyPlace_11 : decode b_Mo_emptyPlace 11 = .ok (.getfield 7, 3) := by decide +kernel
theorem d_Mo_emptyPlace_14 : decode b_Mo_emptyPlace 14 = .ok (.iload_n 1, 1) := by decide +kernel
theorem d_Mo_emptyPlace_15 : decode b_Mo_emptyPlace 15 = .ok (.laload, 1) := by decide +kernel
theorem d_Mo_emptyPlace_16 : decode b_Mo_emptyPlace 16 = .ok (.lconst 0, 1) := by decide +kernel
theorem d_Mo_emptyPlace_17 : decode b_Mo_emptyPlace 17 = .ok (.lcmp, 1) := by decide +kernel
theorem d_Mo_emptyPlace_18 : decode b_Mo_emptyPlace 18 = .ok (.ifCond .ne 5, 3) := by decide +kernel
theorem d_Mo_emptyPlace_21 : decode b_Mo_emptyPlace 21 = .ok (.iload_n 1, 1) := by decide +kernel
theorem d_Mo_emptyPlace_22 : decode b_Mo_emptyPlace 22 = .ok (.ireturn, 1) := by decide +kernel
theorem d_Mo_emptyPlace_23 : decode b_Mo_emptyPlace 23 = .ok (.iinc 1 1, 3) := by decide +kernel
theorem d_Mo_emptyPlace_26 : decode b_Mo_emptyPlace 26 = .ok (.goto (-24), 3) := by decide +kernel
theorem d_Mo_emptyPlace_29 : decode b_Mo_emptyPlace 29 = .ok (.iconst (-1), 1) := by decide +kernel
theorem d_Mo_emptyPlace_30 : decode b_Mo_emptyPlace 30 = .ok (.ireturn, 1) := by decide +kernel
theorem d_Mo_run_0 : decode b_Mo_run 0 = .ok (.aload_n 0, 1) := by decide +kernel
theorem d_Mo_run_1 : decode b_Mo_run 1 = .ok (.iconst 0, 1) := by decide +kernel
theorem d_Mo_run_2 : decode b_Mo_run 2 = .ok (.putfield 84, 3) := by decide +kernel
theorem d_Mo_run_5 : decode b_Mo_run 5 = .ok (.aload_n 0, 1) := by decide +kernel
theorem d_Mo_run_6 : decode b_Mo_run 6 = .ok (.iconst 0, 1) := by decide +kernel
theorem d_Mo_run_7 : decode b_Mo_run 7 = .ok (.putfield 185, 3) := by decide +kernel
theorem d_Mo_run_10 : decode b_Mo_run 10 = .ok (.aload_n 0, 1) := by decide +kernel
theorem d_Mo_run_11 : decode b_Mo_run 11 = .ok (.invokevirtual 188, 3) := by decide +kernel
theorem d_Mo_run_14 : decode b_Mo_run 14 = .ok (.ifCond .ge 184, 3) := by decide +kernel
theorem d_Mo_run_17 : decode b_Mo_run 17 = .ok (.aload_n 0, 1) := by decide +kernel
theorem d_Mo_run_18 : decode b_Mo_run 18 = .ok (.getfield 101, 3) := by decide +kernel
theorem d_Mo_run_21 : decode b_Mo_run 21 = .ok (.ifCond .le 177, 3) := by decide +kernel
theorem d_Mo_run_24 : decode b_Mo_run 24 = .ok (.aload_n 0, 1) := by decide +kernel
theorem d_Mo_run_25 : decode b_Mo_run 25 = .ok (.getfield 42, 3) := by decide +kernel
theorem d_Mo_run_28 : decode b_Mo_run 28 = .ok (.iconst 0, 1) := by decide +kernel
theorem d_Mo_run_29 : decode b_Mo_run 29 = .ok (.iaload, 1) := by decide +kernel
theorem d_Mo_run_30 : decode b_Mo_run 30 = .ok (.istore_n 1, 1) := by decide +kernel
theorem d_Mo_run_31 : decode b_Mo_run 31 = .ok (.aload_n 0, 1) := by decide +kernel
theorem d_Mo_run_32 : decode b_Mo_run 32 = .ok (.dup, 1) := by decide +kernel
theorem d_Mo_run_33 : decode b_Mo_run 33 = .ok (.getfield 101, 3) := by decide +kernel
theorem d_Mo_run_36 : decode b_Mo_run 36 = .ok (.iconst 1, 1) := by decide +kernel
theorem d_Mo_run_37 : decode b_Mo_run 37 = .ok (.isub, 1) := by decide +kernel
theorem d_Mo_run_38 : decode b_Mo_run 38 = .ok (.putfield 101, 3) := by decide +kernel
theorem d_Mo_run_41 : decode b_Mo_run 41 = .ok (.iconst 0, 1) := by decide +kernel
theorem d_Mo_run_42 : decode b_Mo_run 42 = .ok (.istore_n 2, 1) := by decide +kernel
theorem d_Mo_run_43 : decode b_Mo_run 43 = .ok (.iload_n 2, 1) := by decide +kernel
theorem d_Mo_run_44 : decode b_Mo_run 44 = .ok (.aload_n 0, 1) := by decide +kernel
theorem d_Mo_run_45 : decode b_Mo_run 45 = .ok (.getfield 101, 3) := by decide +kernel
theorem d_Mo_run_48 : decode b_Mo_run 48 = .ok (.if_icmp .ge 23, 3) := by decide +kernel
theorem d_Mo_run_51 : decode b_Mo_run 51 = .ok (.aload_n 0, 1) := by decide +kernel
theorem d_Mo_run_52 : decode b_Mo_run 52 = .ok (.getfield 42, 3) := by decide +kernel
theorem d_Mo_run_55 : decode b_Mo_run 55 = .ok (.iload_n 2, 1) := by decide +kernel
theorem d_Mo_run_56 : decode b_Mo_run 56 = .ok (.aload_n 0, 1) := by decide +kernel
theorem d_Mo_run_57 : decode b_Mo_run 57 = .ok (.getfield 42, 3) := by decide +kernel
theorem d_Mo_run_60 : decode b_Mo_run 60 = .ok (.iload_n 2, 1) := by decide +kernel
theorem d_Mo_run_61 : decode b_Mo_run 61 = .ok (.iconst 1, 1) := by decide +kernel
theorem d_Mo_run_62 : decode b_Mo_run 62 = .ok (.iadd, 1) := by decide +kernel
theorem d_Mo_run_63 : decode b_Mo_run 63 = .ok (.iaload, 1) := by decide +kernel
theorem d_Mo_run_64 : decode b_Mo_run 64 = .ok (.iastore, 1) := by decide +kernel
theorem d_Mo_run_65 : decode b_Mo_run 65 = .ok (.iinc 2 1, 3) := by decide +kernel
theorem d_Mo_run_68 : decode b_Mo_run 68 = .ok (.goto (-25), 3) := by decide +kernel
theorem d_Mo_run_71 : decode b_Mo_run 71 = .ok (.aload_n 0, 1) := by decide +kernel
theorem d_Mo_run_72 : decode b_Mo_run 72 = .ok (.getfield 185, 3) := by decide +kernel
theorem d_Mo_run_75 : decode b_Mo_run 75 = .ok (.sipush 1000, 3) := by decide +kernel
theorem d_Mo_run_78 : decode b_Mo_run 78 = .ok (.if_icmp .ge 13, 3) := by decide +kernel
theorem d_Mo_run_81 : decode b_Mo_run 81 = .ok (.aload_n 0, 1) := by decide +kernel
theorem d_Mo_run_82 : decode b_Mo_run 82 = .ok (.getfield 45, 3) := by decide +kernel
theorem d_Mo_run_85 : decode b_Mo_run 85 = .ok (.aload_n 0, 1) := by decide +kernel
theorem d_Mo_run_86 : decode b_Mo_run 86 = .ok (.getfield 185, 3) := by decide +kernel
theorem d_Mo_run_89 : decode b_Mo_run 89 = .ok (.iload_n 1, 1) := by decide +kernel
theorem d_Mo_run_90 : decode b_Mo_run 90 = .ok (.iastore, 1) := by decide +kernel
theorem d_Mo_run_91 : decode b_Mo_run 91 = .ok (.aload_n 0, 1) := by decide +kernel
theorem d_Mo_run_92 : decode b_Mo_run 92 = .ok (.dup, 1) := by decide +kernel
theorem d_Mo_run_93 : decode b_Mo_run 93 = .ok (.getfield 185, 3) := by decide +kernel
theorem d_Mo_run_96 : decode b_Mo_run 96 = .ok (.iconst 1, 1) := by decide +kernel
theorem d_Mo_run_97 : decode b_Mo_run 97 = .ok (.iadd, 1) := by decide +kernel
theorem d_Mo_run_98 : decode b_Mo_run 98 = .ok (.putfield 185, 3) := by decide +kernel
theorem d_Mo_run_101 : decode b_Mo_run 101 = .ok (.aload_n 0, 1) := by decide +kernel
theorem d_Mo_run_102 : decode b_Mo_run 102 = .ok (.iload_n 1, 1) := by decide +kernel
theorem d_Mo_run_103 : decode b_Mo_run 103 = .ok (.invokevirtual 192, 3) := by decide +kernel
theorem d_Mo_run_106 : decode b_Mo_run 106 = .ok (.iconst 0, 1) := by decide +kernel
theorem d_Mo_run_107 : decode b_Mo_run 107 = .ok (.istore_n 2, 1) := by decide +kernel
theorem d_Mo_run_108 : decode b_Mo_run 108 = .ok (.iload_n 2, 1) := by decide +kernel
theorem d_Mo_run_109 : decode b_Mo_run 109 = .ok (.aload_n 0, 1) := by decide +kernel
theorem d_Mo_run_110 : decode b_Mo_run 110 = .ok (.getfield 23, 3) := by decide +kernel
theorem d_Mo_run_113 : decode b_Mo_run 113 = .ok (.iload_n 1, 1) := by decide +kernel
theorem d_Mo_run_114 : decode b_Mo_run 114 = .ok (.iaload, 1) := by decide +kernel
theorem d_Mo_run_115 : decode b_Mo_run 115 = .ok (.if_icmp .ge 80, 3) := by decide +kernel
theorem d_Mo_run_118 : decode b_Mo_run 118 = .ok (.aload_n 0, 1) := by decide +kernel
theorem d_Mo_run_119 : decode b_Mo_run 119 = .ok (.getfield 26, 3) := by decide +kernel
theorem d_Mo_run_122 : decode b_Mo_run 122 = .ok (.bipush 16, 2) := by decide +kernel
theorem d_Mo_run_124 : decode b_Mo_run 124 = .ok (.iload_n 1, 1) := by decide +kernel
theorem d_Mo_run_125 : decode b_Mo_run 125 = .ok (.imul, 1) := by decide +kernel
theorem d_Mo_run_126 : decode b_Mo_run 126 = .ok (.iload_n 2, 1) := by decide +kernel
theorem d_Mo_run_127 : decode b_Mo_run 127 = .ok (.iadd, 1) := by decide +kernel
theorem d_Mo_run_128 : decode b_Mo_run 128 = .ok (.iaload, 1) := by decide +kernel
theorem d_Mo_run_129 : decode b_Mo_run 129 = .ok (.istore_n 3, 1) := by decide +kernel
theorem d_Mo_run_130 : decode b_Mo_run 130 = .ok (.iconst 0, 1) := by decide +kernel
theorem d_Mo_run_131 : decode b_Mo_run 131 = .ok (.istore 4, 2) := by decide +kernel
theorem d_Mo_run_133 : decode b_Mo_run 133 = .ok (.iload 4, 2) := by decide +kernel
theorem d_Mo_run_135 : decode b_Mo_run 135 = .ok (.aload_n 0, 1) := by decide +kernel
theorem d_Mo_run_136 : decode b_Mo_run 136 = .ok (.getfield 81, 3) := by decide +kernel
theorem d_Mo_run_139 : decode b_Mo_run 139 = .ok (.if_icmp .ge 33, 3) := by decide +kernel
theorem d_Mo_run_142 : decode b_Mo_run 142 = .ok (.aload_n 0, 1) := by decide +kernel
theorem d_Mo_run_143 : decode b_Mo_run 143 = .ok (.getfield 70, 3) := by decide +kernel
theorem d_Mo_run_146 : decode b_Mo_run 146 = .ok (.iload_n 2, 1) := by decide +kernel
theorem d_Mo_run_147 : decode b_Mo_run 147 = .ok (.laload, 1) := by decide +kernel
theorem d_Mo_run_148 : decode b_Mo_run 148 = .ok (.iload 4, 2) := by decide +kernel
theorem d_Mo_run_150 : decode b_Mo_run 150 = .ok (.invokestatic 90, 3) := by decide +kernel
theorem d_Mo_run_153 : decode b_Mo_run 153 = .ok (.ifCond .eq 13, 3) := by decide +kernel
theorem d_Mo_run_156 : decode b_Mo_run 156 = .ok (.aload_n 0, 1) := by decide +kernel
theorem d_Mo_run_157 : decode b_Mo_run 157 = .ok (.iload_n 3, 1) := by decide +kernel
theorem d_Mo_run_158 : decode b_Mo_run 158 = .ok (.iload 4, 2) := by decide +kernel
theorem d_Mo_run_160 : decode b_Mo_run 160 = .ok (.iload_n 1, 1) := by decide +kernel
theorem d_Mo_run_161 : decode b_Mo_run 161 = .ok (.iconst 1, 1) := by decide +kernel
theorem d_Mo_run_162 : decode b_Mo_run 162 = .ok (.iadd, 1) := by decide +kernel
theorem d_Mo_run_163 : decode b_Mo_run 163 = .ok (.invokevirtual 132, 3) := by decide +kernel
theorem d_Mo_run_166 : decode b_Mo_run 166 = .ok (.iinc 4 1, 3) := by decide +kernel
theorem d_Mo_run_169 : decode b_Mo_run 169 = .ok (.goto (-36), 3) := by decide +kernel
theorem d_Mo_run_172 : decode b_Mo_run 172 = .ok (.aload_n 0, 1) := by decide +kernel
theorem d_Mo_run_173 : decode b_Mo_run 173 = .ok (.getfield 70, 3) := by decide +kernel
theorem d_Mo_run_176 : decode b_Mo_run 176 = .ok (.iload_n 2, 1) := by decide +kernel
theorem d_Mo_run_177 : decode b_Mo_run 177 = .ok (.laload, 1) := by decide +kernel
theorem d_Mo_run_178 : decode b_Mo_run 178 = .ok (.lconst 0, 1) := by decide +kernel
theorem d_Mo_run_179 : decode b_Mo_run 179 = .ok (.lcmp, 1) := by decide +kernel
theorem d_Mo_run_180 : decode b_Mo_run 180 = .ok (.ifCond .eq 9, 3) := by decide +kernel
theorem d_Mo_run_183 : decode b_Mo_run 183 = .ok (.aload_n 0, 1) := by decide +kernel
theorem d_Mo_run_184 : decode b_Mo_run 184 = .ok (.iload_n 3, 1) := by decide +kernel
theorem d_Mo_run_185 : decode b_Mo_run 185 = .ok (.iload_n 1, 1) := by decide +kernel
theorem d_Mo_run_186 : decode b_Mo_run 186 = .ok (.invokevirtual 136, 3) := by decide +kernel
theorem d_Mo_run_189 : decode b_Mo_run 189 = .ok (.iinc 2 1, 3) := by decide +kernel
theorem d_Mo_run_192 : decode b_Mo_run 192 = .ok (.goto (-84), 3) := by decide +kernel
theorem d_Mo_run_195 : decode b_Mo_run 195 = .ok (.goto (-185), 3) := by decide +kernel
theorem d_Mo_run_198 : decode b_Mo_run 198 = .ok (.aload_n 0, 1) := by decide +kernel
theorem d_Mo_run_199 : decode b_Mo_run 199 = .ok (.invokevirtual 188, 3) := by decide +kernel
theorem d_Mo_run_202 : decode b_Mo_run 202 = .ok (.iconst 1, 1) := by decide +kernel
theorem d_Mo_run_203 : decode b_Mo_run 203 = .ok (.iadd, 1) := by decide +kernel
theorem d_Mo_run_204 : decode b_Mo_run 204 = .ok (.ireturn, 1) := by decide +kernel
theorem d_Mo_candidates_0 : decode b_Mo_candidates 0 = .ok (.aload_n 0, 1) := by decide +kernel
theorem d_Mo_candidates_1 : decode b_Mo_candidates 1 = .ok (.iconst 0, 1) := by decide +kernel
theorem d_Mo_candidates_2 : decode b_Mo_candidates 2 = .ok (.putfield 84, 3) := by decide +kernel
theorem d_Mo_candidates_5 : decode b_Mo_candidates 5 = .ok (.aload_n 0, 1) := by decide +kernel
theorem d_Mo_candidates_6 : decode b_Mo_candidates 6 = .ok (.iload_n 1, 1) := by decide +kernel
theorem d_Mo_candidates_7 : decode b_Mo_candidates 7 = .ok (.invokevirtual 108, 3) := by decide +kernel
theorem d_Mo_candidates_10 : decode b_Mo_candidates 10 = .ok (.ifCond .eq 12, 3) := by decide +kernel
theorem d_Mo_candidates_13 : decode b_Mo_candidates 13 = .ok (.aload_n 0, 1) := by decide +kernel
theorem d_Mo_candidates_14 : decode b_Mo_candidates 14 = .ok (.getfield 7, 3) := by decide +kernel
theorem d_Mo_candidates_17 : decode b_Mo_candidates 17 = .ok (.iload_n 1, 1) := by decide +kernel
theorem d_Mo_candidates_18 : decode b_Mo_candidates 18 = .ok (.laload, 1) := by decide +kernel
theorem d_Mo_candidates_19 : decode b_Mo_candidates 19 = .ok (.goto 6, 3) := by decide +kernel
theorem d_Mo_candidates_22 : decode b_Mo_candidates 22 = .ok (.ldc2_w 130, 3) := by decide +kernel
theorem d_Mo_candidates_25 : decode b_Mo_candidates 25 = .ok (.lreturn, 1) := by decide +kernel
theorem d_Mo_reason_0 : decode b_Mo_reason 0 = .ok (.aload_n 0, 1) := by decide +kernel
theorem d_Mo_reason_1 : decode b_Mo_reason 1 = .ok (.iconst 0, 1) := by decide +kernel
theorem d_Mo_reason_2 : decode b_Mo_reason 2 = .ok (.putfield 84, 3) := by decide +kernel
theorem d_Mo_reason_5 : decode b_Mo_reason 5 = .ok (.aload_n 0, 1) := by decide +kernel
theorem d_Mo_reason_6 : decode b_Mo_reason 6 = .ok (.iload_n 1, 1) := by decide +kernel
theorem d_Mo_reason_7 : decode b_Mo_reason 7 = .ok (.invokevirtual 108, 3) := by decide +kernel
theorem d_Mo_reason_10 : decode b_Mo_reason 10 = .ok (.ifCond .eq 15, 3) := by decide +kernel
theorem d_Mo_reason_13 : decode b_Mo_reason 13 = .ok (.aload_n 0, 1) := by decide +kernel
theorem d_Mo_reason_14 : decode b_Mo_reason 14 = .ok (.iload_n 2, 1) := by decide +kernel
theorem d_Mo_reason_15 : decode b_Mo_reason 15 = .ok (.invokevirtual 123, 3) := by decide +kernel
theorem d_Mo_reason_18 : decode b_Mo_reason 18 = .ok (.ifCond .eq 7, 3) := by decide +kernel
theorem d_Mo_reason_21 : decode b_Mo_reason 21 = .ok (.iload_n 3, 1) := by decide +kernel
theorem d_Mo_reason_22 : decode b_Mo_reason 22 = .ok (.ifCond .ge 5, 3) := by decide +kernel
theorem d_Mo_reason_25 : decode b_Mo_reason 25 = .ok (.iconst (-1), 1) := by decide +kernel
theorem d_Mo_reason_26 : decode b_Mo_reason 26 = .ok (.ireturn, 1) := by decide +kernel
theorem d_Mo_reason_27 : decode b_Mo_reason 27 = .ok (.aload_n 0, 1) := by decide +kernel
theorem d_Mo_reason_28 : decode b_Mo_reason 28 = .ok (.getfield 13, 3) := by decide +kernel
theorem d_Mo_reason_31 : decode b_Mo_reason 31 = .ok (.bipush 60, 2) := by decide +kernel
theorem d_Mo_reason_33 : decode b_Mo_reason 33 = .ok (.iload_n 1, 1) := by decide +kernel
theorem d_Mo_reason_34 : decode b_Mo_reason 34 = .ok (.imul, 1) := by decide +kernel
theorem d_Mo_reason_35 : decode b_Mo_reason 35 = .ok (.iload_n 2, 1) := by decide +kernel
theorem d_Mo_reason_36 : decode b_Mo_reason 36 = .ok (.iadd, 1) := by decide +kernel
theorem d_Mo_reason_37 : decode b_Mo_reason 37 = .ok (.iaload, 1) := by decide +kernel
theorem d_Mo_reason_38 : decode b_Mo_reason 38 = .ok (.iconst 1, 1) := by decide +kernel
theorem d_Mo_reason_39 : decode b_Mo_reason 39 = .ok (.isub, 1) := by decide +kernel
theorem d_Mo_reason_40 : decode b_Mo_reason 40 = .ok (.istore 4, 2) := by decide +kernel
theorem d_Mo_reason_42 : decode b_Mo_reason 42 = .ok (.iload 4, 2) := by decide +kernel
theorem d_Mo_reason_44 : decode b_Mo_reason 44 = .ok (.ifCond .lt 16, 3) := by decide +kernel
theorem d_Mo_reason_47 : decode b_Mo_reason 47 = .ok (.aload_n 0, 1) := by decide +kernel
theorem d_Mo_reason_48 : decode b_Mo_reason 48 = .ok (.getfield 7, 3) := by decide +kernel
theorem d_Mo_reason_51 : decode b_Mo_reason 51 = .ok (.iload_n 1, 1) := by decide +kernel
theorem d_Mo_reason_52 : decode b_Mo_reason 52 = .ok (.laload, 1) := by decide +kernel
theorem d_Mo_reason_53 : decode b_Mo_reason 53 = .ok (.iload_n 2, 1) := by decide +kernel
theorem d_Mo_reason_54 : decode b_Mo_reason 54 = .ok (.invokestatic 90, 3) := by decide +kernel
theorem d_Mo_reason_57 : decode b_Mo_reason 57 = .ok (.ifCond .eq 5, 3) := by decide +kernel
theorem d_Mo_reason_60 : decode b_Mo_reason 60 = .ok (.iconst (-1), 1) := by decide +kernel
theorem d_Mo_reason_61 : decode b_Mo_reason 61 = .ok (.ireturn, 1) := by decide +kernel
theorem d_Mo_reason_62 : decode b_Mo_reason 62 = .ok (.iload_n 3, 1) := by decide +kernel
theorem d_Mo_reason_63 : decode b_Mo_reason 63 = .ok (.ifCond .ne 8, 3) := by decide +kernel
theorem d_Mo_reason_66 : decode b_Mo_reason 66 = .ok (.iload 4, 2) := by decide +kernel
theorem d_Mo_reason_68 : decode b_Mo_reason 68 = .ok (.goto 32, 3) := by decide +kernel
theorem d_Mo_reason_71 : decode b_Mo_reason 71 = .ok (.iload_n 3, 1) := by decide +kernel
theorem d_Mo_reason_72 : decode b_Mo_reason 72 = .ok (.aload_n 0, 1) := by decide +kernel
theorem d_Mo_reason_73 : decode b_Mo_reason 73 = .ok (.getfield 23, 3) := by decide +kernel
theorem d_Mo_reason_76 : decode b_Mo_reason 76 = .ok (.iload 4, 2) := by decide +kernel
theorem d_Mo_reason_78 : decode b_Mo_reason 78 = .ok (.iaload, 1) := by decide +kernel
theorem d_Mo_reason_79 : decode b_Mo_reason 79 = .ok (.if_icmp .gt 20, 3) := by decide +kernel
theorem d_Mo_reason_82 : decode b_Mo_reason 82 = .ok (.aload_n 0, 1) := by decide +kernel
theorem d_Mo_reason_83 : decode b_Mo_reason 83 = .ok (.getfield 26, 3) := by decide +kernel
theorem d_Mo_reason_86 : decode b_Mo_reason 86 = .ok (.bipush 16, 2) := by decide +kernel
theorem d_Mo_reason_88 : decode b_Mo_reason 88 = .ok (.iload 4, 2) := by decide +kernel
theorem d_Mo_reason_90 : decode b_Mo_reason 90 = .ok (.imul, 1) := by decide +kernel
theorem d_Mo_reason_91 : decode b_Mo_reason 91 = .ok (.iload_n 3, 1) := by decide +kernel
theorem d_Mo_reason_92 : decode b_Mo_reason 92 = .ok (.iadd, 1) := by decide +kernel
theorem d_Mo_reason_93 : decode b_Mo_reason 93 = .ok (.iconst 1, 1) := by decide +kernel
theorem d_Mo_reason_94 : decode b_Mo_reason 94 = .ok (.isub, 1) := by decide +kernel
theorem d_Mo_reason_95 : decode b_Mo_reason 95 = .ok (.iaload, 1) := by decide +kernel
theorem d_Mo_reason_96 : decode b_Mo_reason 96 = .ok (.goto 4, 3) := by decide +kernel
theorem d_Mo_reason_99 : decode b_Mo_reason 99 = .ok (.iconst (-1), 1) := by decide +kernel
theorem d_Mo_reason_100 : decode b_Mo_reason 100 = .ok (.ireturn, 1) := by decide +kernel
