theorem d_Mo_into_0 : decode b_Mo_into 0 = .ok (.aload_n 0, 1) := by decide +kernel
theorem d_Mo_into_1 : decode b_Mo_into 1 = .ok (.iconst 0, 1) := by decide +kernel
theorem d_Mo_into_2 : decode b_Mo_into 2 = .ok (.putfield 84, 3) := by decide +kernel
theorem d_Mo_into_5 : decode b_Mo_into 5 = .ok (.aload_n 0, 1) := by decide +kernel
theorem d_Mo_into_6 : decode b_Mo_into 6 = .ok (.iload_n 1, 1) := by decide +kernel
theorem d_Mo_into_7 : decode b_Mo_into 7 = .ok (.invokevirtual 104, 3) := by decide +kernel
theorem d_Mo_into_10 : decode b_Mo_into 10 = .ok (.ifCond .eq 34, 3) := by decide +kernel
theorem d_Mo_into_13 : decode b_Mo_into 13 = .ok (.aload_n 0, 1) := by decide +kernel
theorem d_Mo_into_14 : decode b_Mo_into 14 = .ok (.iload_n 2, 1) := by decide +kernel
theorem d_Mo_into_15 : decode b_Mo_into 15 = .ok (.invokevirtual 108, 3) := by decide +kernel
theorem d_Mo_into_18 : decode b_Mo_into 18 = .ok (.ifCond .eq 26, 3) := by decide +kernel
theorem d_Mo_into_21 : decode b_Mo_into 21 = .ok (.lload_n 3, 1) := by decide +kernel
theorem d_Mo_into_22 : decode b_Mo_into 22 = .ok (.ldc2_w 111, 3) := by decide +kernel
theorem d_Mo_into_25 : decode b_Mo_into 25 = .ok (.lcmp, 1) := by decide +kernel
theorem d_Mo_into_26 : decode b_Mo_into 26 = .ok (.ifCond .lt 18, 3) := by decide +kernel
theorem d_Mo_into_29 : decode b_Mo_into 29 = .ok (.lload_n 3, 1) := by decide +kernel
theorem d_Mo_into_30 : decode b_Mo_into 30 = .ok (.ldc2_w 113, 3) := by decide +kernel
theorem d_Mo_into_33 : decode b_Mo_into 33 = .ok (.lcmp, 1) := by decide +kernel
theorem d_Mo_into_34 : decode b_Mo_into 34 = .ok (.ifCond .gt 10, 3) := by decide +kernel
theorem d_Mo_into_37 : decode b_Mo_into 37 = .ok (.aload_n 0, 1) := by decide +kernel
theorem d_Mo_into_38 : decode b_Mo_into 38 = .ok (.getfield 98, 3) := by decide +kernel
theorem d_Mo_into_41 : decode b_Mo_into 41 = .ok (.ifCond .le 5, 3) := by decide +kernel
theorem d_Mo_into_44 : decode b_Mo_into 44 = .ok (.iconst 0, 1) := by decide +kernel
theorem d_Mo_into_45 : decode b_Mo_into 45 = .ok (.ireturn, 1) := by decide +kernel
theorem d_Mo_into_46 : decode b_Mo_into 46 = .ok (.aload_n 0, 1) := by decide +kernel
theorem d_Mo_into_47 : decode b_Mo_into 47 = .ok (.iload_n 1, 1) := by decide +kernel
theorem d_Mo_into_48 : decode b_Mo_into 48 = .ok (.iload_n 2, 1) := by decide +kernel
theorem d_Mo_into_49 : decode b_Mo_into 49 = .ok (.invokevirtual 115, 3) := by decide +kernel
theorem d_Mo_into_52 : decode b_Mo_into 52 = .ok (.ifCond .ge 14, 3) := by decide +kernel
theorem d_Mo_into_55 : decode b_Mo_into 55 = .ok (.aload_n 0, 1) := by decide +kernel
theorem d_Mo_into_56 : decode b_Mo_into 56 = .ok (.getfield 23, 3) := by decide +kernel
theorem d_Mo_into_59 : decode b_Mo_into 59 = .ok (.iload_n 1, 1) := by decide +kernel
theorem d_Mo_into_60 : decode b_Mo_into 60 = .ok (.iaload, 1) := by decide +kernel
theorem d_Mo_into_61 : decode b_Mo_into 61 = .ok (.bipush 16, 2) := by decide +kernel
theorem d_Mo_into_63 : decode b_Mo_into 63 = .ok (.if_icmp .ne 5, 3) := by decide +kernel
theorem d_Mo_into_66 : decode b_Mo_into 66 = .ok (.iconst 0, 1) := by decide +kernel
theorem d_Mo_into_67 : decode b_Mo_into 67 = .ok (.ireturn, 1) := by decide +kernel
theorem d_Mo_into_68 : decode b_Mo_into 68 = .ok (.aload_n 0, 1) := by decide +kernel
theorem d_Mo_into_69 : decode b_Mo_into 69 = .ok (.getfield 26, 3) := by decide +kernel
theorem d_Mo_into_72 : decode b_Mo_into 72 = .ok (.bipush 16, 2) := by decide +kernel
theorem d_Mo_into_74 : decode b_Mo_into 74 = .ok (.iload_n 1, 1) := by decide +kernel
theorem d_Mo_into_75 : decode b_Mo_into 75 = .ok (.imul, 1) := by decide +kernel
theorem d_Mo_into_76 : decode b_Mo_into 76 = .ok (.aload_n 0, 1) := by decide +kernel
theorem d_Mo_into_77 : decode b_Mo_into 77 = .ok (.getfield 23, 3) := by decide +kernel
theorem d_Mo_into_80 : decode b_Mo_into 80 = .ok (.iload_n 1, 1) := by decide +kernel
theorem d_Mo_into_81 : decode b_Mo_into 81 = .ok (.iaload, 1) := by decide +kernel
theorem d_Mo_into_82 : decode b_Mo_into 82 = .ok (.iadd, 1) := by decide +kernel
theorem d_Mo_into_83 : decode b_Mo_into 83 = .ok (.iload_n 2, 1) := by decide +kernel
theorem d_Mo_into_84 : decode b_Mo_into 84 = .ok (.iastore, 1) := by decide +kernel
theorem d_Mo_into_85 : decode b_Mo_into 85 = .ok (.aload_n 0, 1) := by decide +kernel
theorem d_Mo_into_86 : decode b_Mo_into 86 = .ok (.getfield 29, 3) := by decide +kernel
theorem d_Mo_into_89 : decode b_Mo_into 89 = .ok (.bipush 16, 2) := by decide +kernel
theorem d_Mo_into_91 : decode b_Mo_into 91 = .ok (.iload_n 1, 1) := by decide +kernel
theorem d_Mo_into_92 : decode b_Mo_into 92 = .ok (.imul, 1) := by decide +kernel
theorem d_Mo_into_93 : decode b_Mo_into 93 = .ok (.aload_n 0, 1) := by decide +kernel
theorem d_Mo_into_94 : decode b_Mo_into 94 = .ok (.getfield 23, 3) := by decide +kernel
theorem d_Mo_into_97 : decode b_Mo_into 97 = .ok (.iload_n 1, 1) := by decide +kernel
theorem d_Mo_into_98 : decode b_Mo_into 98 = .ok (.iaload, 1) := by decide +kernel
theorem d_Mo_into_99 : decode b_Mo_into 99 = .ok (.iadd, 1) := by decide +kernel
theorem d_Mo_into_100 : decode b_Mo_into 100 = .ok (.lload_n 3, 1) := by decide +kernel
theorem d_Mo_into_101 : decode b_Mo_into 101 = .ok (.lastore, 1) := by decide +kernel
theorem d_Mo_into_102 : decode b_Mo_into 102 = .ok (.aload_n 0, 1) := by decide +kernel
theorem d_Mo_into_103 : decode b_Mo_into 103 = .ok (.getfield 23, 3) := by decide +kernel
theorem d_Mo_into_106 : decode b_Mo_into 106 = .ok (.iload_n 1, 1) := by decide +kernel
theorem d_Mo_into_107 : decode b_Mo_into 107 = .ok (.dup2, 1) := by decide +kernel
theorem d_Mo_into_108 : decode b_Mo_into 108 = .ok (.iaload, 1) := by decide +kernel
theorem d_Mo_into_109 : decode b_Mo_into 109 = .ok (.iconst 1, 1) := by decide +kernel
theorem d_Mo_into_110 : decode b_Mo_into 110 = .ok (.iadd, 1) := by decide +kernel
theorem d_Mo_into_111 : decode b_Mo_into 111 = .ok (.iastore, 1) := by decide +kernel
theorem d_Mo_into_112 : decode b_Mo_into 112 = .ok (.aload_n 0, 1) := by decide +kernel
theorem d_Mo_into_113 : decode b_Mo_into 113 = .ok (.iload_n 1, 1) := by decide +kernel
theorem d_Mo_into_114 : decode b_Mo_into 114 = .ok (.invokevirtual 119, 3) := by decide +kernel
theorem d_Mo_into_117 : decode b_Mo_into 117 = .ok (.iconst 1, 1) := by decide +kernel
theorem d_Mo_into_118 : decode b_Mo_into 118 = .ok (.ireturn, 1) := by decide +kernel
theorem d_Mo_hasPair_0 : decode b_Mo_hasPair 0 = .ok (.sipush 400, 3) := by decide +kernel
theorem d_Mo_hasPair_3 : decode b_Mo_hasPair 3 = .ok (.iload_n 1, 1) := by decide +kernel
theorem d_Mo_hasPair_4 : decode b_Mo_hasPair 4 = .ok (.imul, 1) := by decide +kernel
theorem d_Mo_hasPair_5 : decode b_Mo_hasPair 5 = .ok (.istore 4, 2) := by decide +kernel
theorem d_Mo_hasPair_7 : decode b_Mo_hasPair 7 = .ok (.iload 4, 2) := by decide +kernel
theorem d_Mo_hasPair_9 : decode b_Mo_hasPair 9 = .ok (.sipush 400, 3) := by decide +kernel
theorem d_Mo_hasPair_12 : decode b_Mo_hasPair 12 = .ok (.iload_n 1, 1) := by decide +kernel
theorem d_Mo_hasPair_13 : decode b_Mo_hasPair 13 = .ok (.imul, 1) := by decide +kernel
theorem d_Mo_hasPair_14 : decode b_Mo_hasPair 14 = .ok (.aload_n 0, 1) := by decide +kernel
theorem d_Mo_hasPair_15 : decode b_Mo_hasPair 15 = .ok (.getfield 32, 3) := by decide +kernel
theorem d_Mo_hasPair_18 : decode b_Mo_hasPair 18 = .ok (.iload_n 1, 1) := by decide +kernel
theorem d_Mo_hasPair_19 : decode b_Mo_hasPair 19 = .ok (.iaload, 1) := by decide +kernel
theorem d_Mo_hasPair_20 : decode b_Mo_hasPair 20 = .ok (.iadd, 1) := by decide +kernel
theorem d_Mo_hasPair_21 : decode b_Mo_hasPair 21 = .ok (.if_icmp .ge 33, 3) := by decide +kernel
theorem d_Mo_hasPair_24 : decode b_Mo_hasPair 24 = .ok (.aload_n 0, 1) := by decide +kernel
theorem d_Mo_hasPair_25 : decode b_Mo_hasPair 25 = .ok (.getfield 36, 3) := by decide +kernel
theorem d_Mo_hasPair_28 : decode b_Mo_hasPair 28 = .ok (.iload 4, 2) := by decide +kernel
theorem d_Mo_hasPair_30 : decode b_Mo_hasPair 30 = .ok (.iaload, 1) := by decide +kernel
theorem d_Mo_hasPair_31 : decode b_Mo_hasPair 31 = .ok (.iload_n 2, 1) := by decide +kernel
theorem d_Mo_hasPair_32 : decode b_Mo_hasPair 32 = .ok (.if_icmp .ne 16, 3) := by decide +kernel
theorem d_Mo_hasPair_35 : decode b_Mo_hasPair 35 = .ok (.aload_n 0, 1) := by decide +kernel
theorem d_Mo_hasPair_36 : decode b_Mo_hasPair 36 = .ok (.getfield 39, 3) := by decide +kernel
theorem d_Mo_hasPair_39 : decode b_Mo_hasPair 39 = .ok (.iload 4, 2) := by decide +kernel
theorem d_Mo_hasPair_41 : decode b_Mo_hasPair 41 = .ok (.iaload, 1) := by decide +kernel
theorem d_Mo_hasPair_42 : decode b_Mo_hasPair 42 = .ok (.iload_n 3, 1) := by decide +kernel
theorem d_Mo_hasPair_43 : decode b_Mo_hasPair 43 = .ok (.if_icmp .ne 5, 3) := by decide +kernel
theorem d_Mo_hasPair_46 : decode b_Mo_hasPair 46 = .ok (.iconst 1, 1) := by decide +kernel
theorem d_Mo_hasPair_47 : decode b_Mo_hasPair 47 = .ok (.ireturn, 1) := by decide +kernel
theorem d_Mo_hasPair_48 : decode b_Mo_hasPair 48 = .ok (.iinc 4 1, 3) := by decide +kernel
theorem d_Mo_hasPair_51 : decode b_Mo_hasPair 51 = .ok (.goto (-44), 3) := by decide +kernel
theorem d_Mo_hasPair_54 : decode b_Mo_hasPair 54 = .ok (.iconst 0, 1) := by decide +kernel
theorem d_Mo_hasPair_55 : decode b_Mo_hasPair 55 = .ok (.ireturn, 1) := by decide +kernel
theorem d_Mo_table_0 : decode b_Mo_table 0 = .ok (.aload_n 0, 1) := by decide +kernel
theorem d_Mo_table_1 : decode b_Mo_table 1 = .ok (.iconst 0, 1) := by decide +kernel
theorem d_Mo_table_2 : decode b_Mo_table 2 = .ok (.putfield 84, 3) := by decide +kernel
theorem d_Mo_table_5 : decode b_Mo_table 5 = .ok (.aload_n 0, 1) := by decide +kernel
theorem d_Mo_table_6 : decode b_Mo_table 6 = .ok (.iload_n 1, 1) := by decide +kernel
theorem d_Mo_table_7 : decode b_Mo_table 7 = .ok (.invokevirtual 104, 3) := by decide +kernel
theorem d_Mo_table_10 : decode b_Mo_table 10 = .ok (.ifCond .eq 49, 3) := by decide +kernel
theorem d_Mo_table_13 : decode b_Mo_table 13 = .ok (.aload_n 0, 1) := by decide +kernel
theorem d_Mo_table_14 : decode b_Mo_table 14 = .ok (.getfield 17, 3) := by decide +kernel
theorem d_Mo_table_17 : decode b_Mo_table 17 = .ok (.aload_n 0, 1) := by decide +kernel
theorem d_Mo_table_18 : decode b_Mo_table 18 = .ok (.iload_n 1, 1) := by decide +kernel
theorem d_Mo_table_19 : decode b_Mo_table 19 = .ok (.invokevirtual 104, 3) := by decide +kernel
theorem d_Mo_table_22 : decode b_Mo_table 22 = .ok (.ifCond .eq 7, 3) := by decide +kernel
theorem d_Mo_table_25 : decode b_Mo_table 25 = .ok (.iload_n 1, 1) := by decide +kernel
theorem d_Mo_table_26 : decode b_Mo_table 26 = .ok (.goto 4, 3) := by decide +kernel
theorem d_Mo_table_29 : decode b_Mo_table 29 = .ok (.iconst 0, 1) := by decide +kernel
theorem d_Mo_table_30 : decode b_Mo_table 30 = .ok (.iaload, 1) := by decide +kernel
theorem d_Mo_table_31 : decode b_Mo_table 31 = .ok (.bipush 7, 2) := by decide +kernel
theorem d_Mo_table_33 : decode b_Mo_table 33 = .ok (.if_icmp .ne 26, 3) := by decide +kernel
theorem d_Mo_table_36 : decode b_Mo_table 36 = .ok (.aload_n 0, 1) := by decide +kernel
theorem d_Mo_table_37 : decode b_Mo_table 37 = .ok (.iload_n 2, 1) := by decide +kernel
theorem d_Mo_table_38 : decode b_Mo_table 38 = .ok (.invokevirtual 123, 3) := by decide +kernel
theorem d_Mo_table_41 : decode b_Mo_table 41 = .ok (.ifCond .eq 18, 3) := by decide +kernel
theorem d_Mo_table_44 : decode b_Mo_table 44 = .ok (.aload_n 0, 1) := by decide +kernel
theorem d_Mo_table_45 : decode b_Mo_table 45 = .ok (.iload_n 3, 1) := by decide +kernel
theorem d_Mo_table_46 : decode b_Mo_table 46 = .ok (.invokevirtual 123, 3) := by decide +kernel
theorem d_Mo_table_49 : decode b_Mo_table 49 = .ok (.ifCond .eq 10, 3) := by decide +kernel
theorem d_Mo_table_52 : decode b_Mo_table 52 = .ok (.aload_n 0, 1) := by decide +kernel
theorem d_Mo_table_53 : decode b_Mo_table 53 = .ok (.getfield 98, 3) := by decide +kernel
theorem d_Mo_table_56 : decode b_Mo_table 56 = .ok (.ifCond .le 5, 3) := by decide +kernel
theorem d_Mo_table_59 : decode b_Mo_table 59 = .ok (.iconst 0, 1) := by decide +kernel
theorem d_Mo_table_60 : decode b_Mo_table 60 = .ok (.ireturn, 1) := by decide +kernel
theorem d_Mo_table_61 : decode b_Mo_table 61 = .ok (.aload_n 0, 1) := by decide +kernel
theorem d_Mo_table_62 : decode b_Mo_table 62 = .ok (.iload_n 1, 1) := by decide +kernel
theorem d_Mo_table_63 : decode b_Mo_table 63 = .ok (.iload_n 2, 1) := by decide +kernel
theorem d_Mo_table_64 : decode b_Mo_table 64 = .ok (.iload_n 3, 1) := by decide +kernel
theorem d_Mo_table_65 : decode b_Mo_table 65 = .ok (.invokevirtual 126, 3) := by decide +kernel
theorem d_Mo_table_68 : decode b_Mo_table 68 = .ok (.ifCond .ne 15, 3) := by decide +kernel
theorem d_Mo_table_71 : decode b_Mo_table 71 = .ok (.aload_n 0, 1) := by decide +kernel
theorem d_Mo_table_72 : decode b_Mo_table 72 = .ok (.getfield 32, 3) := by decide +kernel
theorem d_Mo_table_75 : decode b_Mo_table 75 = .ok (.iload_n 1, 1) := by decide +kernel
theorem d_Mo_table_76 : decode b_Mo_table 76 = .ok (.iaload, 1) := by decide +kernel
theorem d_Mo_table_77 : decode b_Mo_table 77 = .ok (.sipush 400, 3) := by decide +kernel
theorem d_Mo_table_80 : decode b_Mo_table 80 = .ok (.if_icmp .ne 5, 3) := by decide +kernel
theorem d_Mo_table_83 : decode b_Mo_table 83 = .ok (.iconst 0, 1) := by decide +kernel
theorem d_Mo_table_84 : decode b_Mo_table 84 = .ok (.ireturn, 1) := by decide +kernel
theorem d_Mo_table_85 : decode b_Mo_table 85 = .ok (.aload_n 0, 1) := by decide +kernel
theorem d_Mo_table_86 : decode b_Mo_table 86 = .ok (.getfield 36, 3) := by decide +kernel
theorem d_Mo_table_89 : decode b_Mo_table 89 = .ok (.sipush 400, 3) := by decide +kernel
theorem d_Mo_table_92 : decode b_Mo_table 92 = .ok (.iload_n 1, 1) := by decide +kernel
theorem d_Mo_table_93 : decode b_Mo_table 93 = .ok (.imul, 1) := by decide +kernel
theorem d_Mo_table_94 : decode b_Mo_table 94 = .ok (.aload_n 0, 1) := by decide +kernel
theorem d_Mo_table_95 : decode b_Mo_table 95 = .ok (.getfield 32, 3) := by decide +kernel
theorem d_Mo_table_98 : decode b_Mo_table 98 = .ok (.iload_n 1, 1) := by decide +kernel
theorem d_Mo_table_99 : decode b_Mo_table 99 = .ok (.iaload, 1) := by decide +kernel
theorem d_Mo_table_100 : decode b_Mo_table 100 = .ok (.iadd, 1) := by decide +kernel
theorem d_Mo_table_101 : decode b_Mo_table 101 = .ok (.iload_n 2, 1) := by decide +kernel
theorem d_Mo_table_102 : decode b_Mo_table 102 = .ok (.iastore, 1) := by decide +kernel
theorem d_Mo_table_103 : decode b_Mo_table 103 = .ok (.aload_n 0, 1) := by decide +kernel
theorem d_Mo_table_104 : decode b_Mo_table 104 = .ok (.getfield 39, 3) := by decide +kernel
theorem d_Mo_table_107 : decode b_Mo_table 107 = .ok (.sipush 400, 3) := by decide +kernel
theorem d_Mo_table_110 : decode b_Mo_table 110 = .ok (.iload_n 1, 1) := by decide +kernel
theorem d_Mo_table_111 : decode b_Mo_table 111 = .ok (.imul, 1) := by decide +kernel
theorem d_Mo_table_112 : decode b_Mo_table 112 = .ok (.aload_n 0, 1) := by decide +kernel
theorem d_Mo_table_113 : decode b_Mo_table 113 = .ok (.getfield 32, 3) := by decide +kernel
theorem d_Mo_table_116 : decode b_Mo_table 116 = .ok (.iload_n 1, 1) := by decide +kernel
theorem d_Mo_table_117 : decode b_Mo_table 117 = .ok (.iaload, 1) := by decide +kernel
theorem d_Mo_table_118 : decode b_Mo_table 118 = .ok (.iadd, 1) := by decide +kernel
theorem d_Mo_table_119 : decode b_Mo_table 119 = .ok (.iload_n 3, 1) := by decide +kernel
theorem d_Mo_table_120 : decode b_Mo_table 120 = .ok (.iastore, 1) := by decide +kernel
theorem d_Mo_table_121 : decode b_Mo_table 121 = .ok (.aload_n 0, 1) := by decide +kernel
theorem d_Mo_table_122 : decode b_Mo_table 122 = .ok (.getfield 32, 3) := by decide +kernel
theorem d_Mo_table_125 : decode b_Mo_table 125 = .ok (.iload_n 1, 1) := by decide +kernel
theorem d_Mo_table_126 : decode b_Mo_table 126 = .ok (.dup2, 1) := by decide +kernel
theorem d_Mo_table_127 : decode b_Mo_table 127 = .ok (.iaload, 1) := by decide +kernel
theorem d_Mo_table_128 : decode b_Mo_table 128 = .ok (.iconst 1, 1) := by decide +kernel
theorem d_Mo_table_129 : decode b_Mo_table 129 = .ok (.iadd, 1) := by decide +kernel
theorem d_Mo_table_130 : decode b_Mo_table 130 = .ok (.iastore, 1) := by decide +kernel
theorem d_Mo_table_131 : decode b_Mo_table 131 = .ok (.aload_n 0, 1) := by decide +kernel
theorem d_Mo_table_132 : decode b_Mo_table 132 = .ok (.iload_n 1, 1) := by decide +kernel
theorem d_Mo_table_133 : decode b_Mo_table 133 = .ok (.invokevirtual 119, 3) := by decide +kernel
theorem d_Mo_table_136 : decode b_Mo_table 136 = .ok (.iconst 1, 1) := by decide +kernel
theorem d_Mo_table_137 : decode b_Mo_table 137 = .ok (.ireturn, 1) := by decide +kernel
theorem d_Mo_remove_0 : decode b_Mo_remove 0 = .ok (.aload_n 0, 1) := by decide +kernel
theorem d_Mo_remove_1 : decode b_Mo_remove 1 = .ok (.getfield 7, 3) := by decide +kernel
theorem d_Mo_remove_4 : decode b_Mo_remove 4 = .ok (.iload_n 1, 1) := by decide +kernel
theorem d_Mo_remove_5 : decode b_Mo_remove 5 = .ok (.aload_n 0, 1) := by decide +kernel
theorem d_Mo_remove_6 : decode b_Mo_remove 6 = .ok (.getfield 7, 3) := by decide +kernel
theorem d_Mo_remove_9 : decode b_Mo_remove 9 = .ok (.iload_n 1, 1) := by decide +kernel
theorem d_Mo_remove_10 : decode b_Mo_remove 10 = .ok (.laload, 1) := by decide +kernel
theorem d_Mo_remove_11 : decode b_Mo_remove 11 = .ok (.lconst 1, 1) := by decide +kernel
theorem d_Mo_remove_12 : decode b_Mo_remove 12 = .ok (.iload_n 2, 1) := by decide +kernel
theorem d_Mo_remove_13 : decode b_Mo_remove 13 = .ok (.lshl, 1) := by decide +kernel
theorem d_Mo_remove_14 : decode b_Mo_remove 14 = .ok (.ldc2_w 130, 3) := by decide +kernel
theorem d_Mo_remove_17 : decode b_Mo_remove 17 = .ok (.lxor, 1) := by decide +kernel
theorem d_Mo_remove_18 : decode b_Mo_remove 18 = .ok (.land, 1) := by decide +kernel
theorem d_Mo_remove_19 : decode b_Mo_remove 19 = .ok (.lastore, 1) := by decide +kernel
theorem d_Mo_remove_20 : decode b_Mo_remove 20 = .ok (.aload_n 0, 1) := by decide +kernel
theorem d_Mo_remove_21 : decode b_Mo_remove 21 = .ok (.getfield 13, 3) := by decide +kernel
theorem d_Mo_remove_24 : decode b_Mo_remove 24 = .ok (.bipush 60, 2) := by decide +kernel
theorem d_Mo_remove_26 : decode b_Mo_remove 26 = .ok (.iload_n 1, 1) := by decide +kernel
theorem d_Mo_remove_27 : decode b_Mo_remove 27 = .ok (.imul, 1) := by decide +kernel
theorem d_Mo_remove_28 : decode b_Mo_remove 28 = .ok (.iload_n 2, 1) := by decide +kernel
theorem d_Mo_remove_29 : decode b_Mo_remove 29 = .ok (.iadd, 1) := by decide +kernel
theorem d_Mo_remove_30 : decode b_Mo_remove 30 = .ok (.iload_n 3, 1) := by decide +kernel
theorem d_Mo_remove_31 : decode b_Mo_remove 31 = .ok (.iastore, 1) := by decide +kernel
theorem d_Mo_remove_32 : decode b_Mo_remove 32 = .ok (.return_, 1) := by decide +kernel
theorem d_Mo_wakeAll_0 : decode b_Mo_wakeAll 0 = .ok (.iconst 0, 1) := by decide +kernel
theorem d_Mo_wakeAll_1 : decode b_Mo_wakeAll 1 = .ok (.istore_n 3, 1) := by decide +kernel
theorem d_Mo_wakeAll_2 : decode b_Mo_wakeAll 2 = .ok (.iload_n 3, 1) := by decide +kernel
theorem d_Mo_wakeAll_3 : decode b_Mo_wakeAll 3 = .ok (.aload_n 0, 1) := by decide +kernel
theorem d_Mo_wakeAll_4 : decode b_Mo_wakeAll 4 = .ok (.getfield 87, 3) := by decide +kernel
theorem d_Mo_wakeAll_7 : decode b_Mo_wakeAll 7 = .ok (.if_icmp .ge 28, 3) := by decide +kernel
theorem d_Mo_wakeAll_10 : decode b_Mo_wakeAll 10 = .ok (.iload_n 3, 1) := by decide +kernel
theorem d_Mo_wakeAll_11 : decode b_Mo_wakeAll 11 = .ok (.iload_n 2, 1) := by decide +kernel
theorem d_Mo_wakeAll_12 : decode b_Mo_wakeAll 12 = .ok (.if_icmp .eq 17, 3) := by decide +kernel
theorem d_Mo_wakeAll_15 : decode b_Mo_wakeAll 15 = .ok (.aload_n 0, 1) := by decide +kernel
theorem d_Mo_wakeAll_16 : decode b_Mo_wakeAll 16 = .ok (.iload_n 3, 1) := by decide +kernel
theorem d_Mo_wakeAll_17 : decode b_Mo_wakeAll 17 = .ok (.iload_n 1, 1) := by decide +kernel
theorem d_Mo_wakeAll_18 : decode b_Mo_wakeAll 18 = .ok (.invokevirtual 115, 3) := by decide +kernel
theorem d_Mo_wakeAll_21 : decode b_Mo_wakeAll 21 = .ok (.ifCond .lt 8, 3) := by decide +kernel
theorem d_Mo_wakeAll_24 : decode b_Mo_wakeAll 24 = .ok (.aload_n 0, 1) := by decide +kernel
theorem d_Mo_wakeAll_25 : decode b_Mo_wakeAll 25 = .ok (.iload_n 3, 1) := by decide +kernel
theorem d_Mo_wakeAll_26 : decode b_Mo_wakeAll 26 = .ok (.invokevirtual 119, 3) := by decide +kernel
theorem d_Mo_wakeAll_29 : decode b_Mo_wakeAll 29 = .ok (.iinc 3 1, 3) := by decide +kernel
theorem d_Mo_wakeAll_32 : decode b_Mo_wakeAll 32 = .ok (.goto (-30), 3) := by decide +kernel
theorem d_Mo_wakeAll_35 : decode b_Mo_wakeAll 35 = .ok (.return_, 1) := by decide +kernel
theorem d_Mo_take_0 : decode b_Mo_take 0 = .ok (.aload_n 0, 1) := by decide +kernel
theorem d_Mo_take_1 : decode b_Mo_take 1 = .ok (.iconst 0, 1) := by decide +kernel
theorem d_Mo_take_2 : decode b_Mo_take 2 = .ok (.putfield 84, 3) := by decide +kernel
theorem d_Mo_take_5 : decode b_Mo_take 5 = .ok (.aload_n 0, 1) := by decide +kernel
theorem d_Mo_take_6 : decode b_Mo_take 6 = .ok (.iload_n 1, 1) := by decide +kernel
theorem d_Mo_take_7 : decode b_Mo_take 7 = .ok (.invokevirtual 108, 3) := by decide +kernel
theorem d_Mo_take_10 : decode b_Mo_take 10 = .ok (.ifCond .eq 48, 3) := by decide +kernel
theorem d_Mo_take_13 : decode b_Mo_take 13 = .ok (.aload_n 0, 1) := by decide +kernel
theorem d_Mo_take_14 : decode b_Mo_take 14 = .ok (.iload_n 2, 1) := by decide +kernel
theorem d_Mo_take_15 : decode b_Mo_take 15 = .ok (.invokevirtual 123, 3) := by decide +kernel
theorem d_Mo_take_18 : decode b_Mo_take 18 = .ok (.ifCond .eq 40, 3) := by decide +kernel
theorem d_Mo_take_21 : decode b_Mo_take 21 = .ok (.aload_n 0, 1) := by decide +kernel
theorem d_Mo_take_22 : decode b_Mo_take 22 = .ok (.getfield 7, 3) := by decide +kernel
theorem d_Mo_take_25 : decode b_Mo_take 25 = .ok (.aload_n 0, 1) := by decide +kernel
theorem d_Mo_take_26 : decode b_Mo_take 26 = .ok (.iload_n 1, 1) := by decide +kernel
theorem d_Mo_take_27 : decode b_Mo_take 27 = .ok (.invokevirtual 108, 3) := by decide +kernel
theorem d_Mo_take_30 : decode b_Mo_take 30 = .ok (.ifCond .eq 7, 3) := by decide +kernel
theorem d_Mo_take_33 : decode b_Mo_take 33 = .ok (.iload_n 1, 1) := by decide +kernel
theorem d_Mo_take_34 : decode b_Mo_take 34 = .ok (.goto 4, 3) := by decide +kernel
theorem d_Mo_take_37 : decode b_Mo_take 37 = .ok (.iconst 0, 1) := by decide +kernel
theorem d_Mo_take_38 : decode b_Mo_take 38 = .ok (.laload, 1) := by decide +kernel
theorem d_Mo_take_39 : decode b_Mo_take 39 = .ok (.aload_n 0, 1) := by decide +kernel
theorem d_Mo_take_40 : decode b_Mo_take 40 = .ok (.iload_n 2, 1) := by decide +kernel
theorem d_Mo_take_41 : decode b_Mo_take 41 = .ok (.invokevirtual 123, 3) := by decide +kernel
theorem d_Mo_take_44 : decode b_Mo_take 44 = .ok (.ifCond .eq 7, 3) := by decide +kernel
theorem d_Mo_take_47 : decode b_Mo_take 47 = .ok (.iload_n 2, 1) := by decide +kernel
theorem d_Mo_take_48 : decode b_Mo_take 48 = .ok (.goto 4, 3) := by decide +kernel
theorem d_Mo_take_51 : decode b_Mo_take 51 = .ok (.iconst 0, 1) := by decide +kernel
theorem d_Mo_take_52 : decode b_Mo_take 52 = .ok (.invokestatic 90, 3) := by decide +kernel
theorem d_Mo_take_55 : decode b_Mo_take 55 = .ok (.ifCond .ne 5, 3) := by decide +kernel
theorem d_Mo_take_58 : decode b_Mo_take 58 = .ok (.iconst 0, 1) := by decide +kernel
theorem d_Mo_take_59 : decode b_Mo_take 59 = .ok (.ireturn, 1) := by decide +kernel
theorem d_Mo_take_60 : decode b_Mo_take 60 = .ok (.aload_n 0, 1) := by decide +kernel
theorem d_Mo_take_61 : decode b_Mo_take 61 = .ok (.iload_n 1, 1) := by decide +kernel
theorem d_Mo_take_62 : decode b_Mo_take 62 = .ok (.iload_n 2, 1) := by decide +kernel
theorem d_Mo_take_63 : decode b_Mo_take 63 = .ok (.iconst 0, 1) := by decide +kernel
theorem d_Mo_take_64 : decode b_Mo_take 64 = .ok (.invokevirtual 132, 3) := by decide +kernel
theorem d_Mo_take_67 : decode b_Mo_take 67 = .ok (.aload_n 0, 1) := by decide +kernel
theorem d_Mo_take_68 : decode b_Mo_take 68 = .ok (.iload_n 1, 1) := by decide +kernel
theorem d_Mo_take_69 : decode b_Mo_take 69 = .ok (.iconst (-1), 1) := by decide +kernel
theorem d_Mo_take_70 : decode b_Mo_take 70 = .ok (.invokevirtual 136, 3) := by decide +kernel
theorem d_Mo_take_73 : decode b_Mo_take 73 = .ok (.iconst 1, 1) := by decide +kernel
theorem d_Mo_take_74 : decode b_Mo_take 74 = .ok (.ireturn, 1) := by decide +kernel
theorem d_Mo_set_0 : decode b_Mo_set 0 = .ok (.aload_n 0, 1) := by decide +kernel
theorem d_Mo_set_1 : decode b_Mo_set 1 = .ok (.iconst 0, 1) := by decide +kernel
theorem d_Mo_set_2 : decode b_Mo_set 2 = .ok (.putfield 84, 3) := by decide +kernel
theorem d_Mo_set_5 : decode b_Mo_set 5 = .ok (.aload_n 0, 1) := by decide +kernel
theorem d_Mo_set_6 : decode b_Mo_set 6 = .ok (.iload_n 1, 1) := by decide +kernel
theorem d_Mo_set_7 : decode b_Mo_set 7 = .ok (.invokevirtual 108, 3) := by decide +kernel
theorem d_Mo_set_10 : decode b_Mo_set 10 = .ok (.ifCond .eq 48, 3) := by decide +kernel
theorem d_Mo_set_13 : decode b_Mo_set 13 = .ok (.aload_n 0, 1) := by decide +kernel
theorem d_Mo_set_14 : decode b_Mo_set 14 = .ok (.iload_n 2, 1) := by decide +kernel
theorem d_Mo_set_15 : decode b_Mo_set 15 = .ok (.invokevirtual 123, 3) := by decide +kernel
theorem d_Mo_set_18 : decode b_Mo_set 18 = .ok (.ifCond .eq 40, 3) := by decide +kernel
theorem d_Mo_set_21 : decode b_Mo_set 21 = .ok (.aload_n 0, 1) := by decide +kernel
theorem d_Mo_set_22 : decode b_Mo_set 22 = .ok (.getfield 7, 3) := by decide +kernel
theorem d_Mo_set_25 : decode b_Mo_set 25 = .ok (.aload_n 0, 1) := by decide +kernel
theorem d_Mo_set_26 : decode b_Mo_set 26 = .ok (.iload_n 1, 1) := by decide +kernel
theorem d_Mo_set_27 : decode b_Mo_set 27 = .ok (.invokevirtual 108, 3) := by decide +kernel
theorem d_Mo_set_30 : decode b_Mo_set 30 = .ok (.ifCond .eq 7, 3) := by decide +kernel
theorem d_Mo_set_33 : decode b_Mo_set 33 = .ok (.iload_n 1, 1) := by decide +kernel
theorem d_Mo_set_34 : decode b_Mo_set 34 = .ok (.goto 4, 3) := by decide +kernel
theorem d_Mo_set_37 : decode b_Mo_set 37 = .ok (.iconst 0, 1) := by decide +kernel
theorem d_Mo_set_38 : decode b_Mo_set 38 = .ok (.laload, 1) := by decide +kernel
theorem d_Mo_set_39 : decode b_Mo_set 39 = .ok (.aload_n 0, 1) := by decide +kernel
theorem d_Mo_set_40 : decode b_Mo_set 40 = .ok (.iload_n 2, 1) := by decide +kernel
theorem d_Mo_set_41 : decode b_Mo_set 41 = .ok (.invokevirtual 123, 3) := by decide +kernel
theorem d_Mo_set_44 : decode b_Mo_set 44 = .ok (.ifCond .eq 7, 3) := by decide +kernel
theorem d_Mo_set_47 : decode b_Mo_set 47 = .ok (.iload_n 2, 1) := by decide +kernel
theorem d_Mo_set_48 : decode b_Mo_set 48 = .ok (.goto 4, 3) := by decide +kernel
theorem d_Mo_set_51 : decode b_Mo_set 51 = .ok (.iconst 0, 1) := by decide +kernel
theorem d_Mo_set_52 : decode b_Mo_set 52 = .ok (.invokestatic 90, 3) := by decide +kernel
theorem d_Mo_set_55 : decode b_Mo_set 55 = .ok (.ifCond .ne 5, 3) := by decide +kernel
theorem d_Mo_set_58 : decode b_Mo_set 58 = .ok (.iconst 0, 1) := by decide +kernel
theorem d_Mo_set_59 : decode b_Mo_set 59 = .ok (.ireturn, 1) := by decide +kernel
theorem d_Mo_set_60 : decode b_Mo_set 60 = .ok (.iconst 0, 1) := by decide +kernel
theorem d_Mo_set_61 : decode b_Mo_set 61 = .ok (.istore_n 3, 1) := by decide +kernel
theorem d_Mo_set_62 : decode b_Mo_set 62 = .ok (.iconst 0, 1) := by decide +kernel
theorem d_Mo_set_63 : decode b_Mo_set 63 = .ok (.istore 4, 2) := by decide +kernel
theorem d_Mo_set_65 : decode b_Mo_set 65 = .ok (.iload 4, 2) := by decide +kernel
theorem d_Mo_set_67 : decode b_Mo_set 67 = .ok (.aload_n 0, 1) := by decide +kernel
theorem d_Mo_set_68 : decode b_Mo_set 68 = .ok (.getfield 81, 3) := by decide +kernel
theorem d_Mo_set_71 : decode b_Mo_set 71 = .ok (.if_icmp .ge 42, 3) := by decide +kernel
theorem d_Mo_set_74 : decode b_Mo_set 74 = .ok (.iload 4, 2) := by decide +kernel
theorem d_Mo_set_76 : decode b_Mo_set 76 = .ok (.iload_n 2, 1) := by decide +kernel
theorem d_Mo_set_77 : decode b_Mo_set 77 = .ok (.if_icmp .eq 30, 3) := by decide +kernel
theorem d_Mo_set_80 : decode b_Mo_set 80 = .ok (.aload_n 0, 1) := by decide +kernel
theorem d_Mo_set_81 : decode b_Mo_set 81 = .ok (.getfield 7, 3) := by decide +kernel
theorem d_Mo_set_84 : decode b_Mo_set 84 = .ok (.iload_n 1, 1) := by decide +kernel
theorem d_Mo_set_85 : decode b_Mo_set 85 = .ok (.laload, 1) := by decide +kernel
theorem d_Mo_set_86 : decode b_Mo_set 86 = .ok (.iload 4, 2) := by decide +kernel
theorem d_Mo_set_88 : decode b_Mo_set 88 = .ok (.invokestatic 90, 3) := by decide +kernel
theorem d_Mo_set_91 : decode b_Mo_set 91 = .ok (.ifCond .ne 6, 3) := by decide +kernel
theorem d_Mo_set_94 : decode b_Mo_set 94 = .ok (.goto 13, 3) := by decide +kernel
theorem d_Mo_set_97 : decode b_Mo_set 97 = .ok (.aload_n 0, 1) := by decide +kernel
theorem d_Mo_set_98 : decode b_Mo_set 98 = .ok (.iload_n 1, 1) := by decide +kernel
theorem d_Mo_set_99 : decode b_Mo_set 99 = .ok (.iload 4, 2) := by decide +kernel
theorem d_Mo_set_101 : decode b_Mo_set 101 = .ok (.iconst 0, 1) := by decide +kernel
theorem d_Mo_set_102 : decode b_Mo_set 102 = .ok (.invokevirtual 132, 3) := by decide +kernel
theorem d_Mo_set_105 : decode b_Mo_set 105 = .ok (.iconst 1, 1) := by decide +kernel
theorem d_Mo_set_106 : decode b_Mo_set 106 = .ok (.istore_n 3, 1) := by decide +kernel
theorem d_Mo_set_107 : decode b_Mo_set 107 = .ok (.iinc 4 1, 3) := by decide +kernel
theorem d_Mo_set_110 : decode b_Mo_set 110 = .ok (.goto (-45), 3) := by decide +kernel
theorem d_Mo_set_113 : decode b_Mo_set 113 = .ok (.iload_n 3, 1) := by decide +kernel
theorem d_Mo_set_114 : decode b_Mo_set 114 = .ok (.ifCond .eq 9, 3) := by decide +kernel
theorem d_Mo_set_117 : decode b_Mo_set 117 = .ok (.aload_n 0, 1) := by decide +kernel
theorem d_Mo_set_118 : decode b_Mo_set 118 = .ok (.iload_n 1, 1) := by decide +kernel
theorem d_Mo_set_119 : decode b_Mo_set 119 = .ok (.iconst (-1), 1) := by decide +kernel
theorem d_Mo_set_120 : decode b_Mo_set 120 = .ok (.invokevirtual 136, 3) := by decide +kernel
theorem d_Mo_set_123 : decode b_Mo_set 123 = .ok (.iconst 1, 1) := by decide +kernel
theorem d_Mo_set_124 : decode b_Mo_set 124 = .ok (.ireturn, 1) := by decide +kernel
theorem d_Mo_factorOf_0 : decode b_Mo_factorOf 0 = .ok (.aload_n 0, 1) := by decide +kernel
theorem d_Mo_factorOf_1 : decode b_Mo_factorOf 1 = .ok (.getfield 29, 3) := by decide +kernel
theorem d_Mo_factorOf_4 : decode b_Mo_factorOf 4 = .ok (.bipush 16, 2) := by decide +kernel
theorem d_Mo_factorOf_6 : decode b_Mo_factorOf 6 = .ok (.iload_n 1, 1) := by decide +kernel
theorem d_Mo_factorOf_7 : decode b_Mo_factorOf 7 = .ok (.imul, 1) := by decide +kernel
theorem d_Mo_factorOf_8 : decode b_Mo_factorOf 8 = .ok (.iload_n 2, 1) := by decide +kernel
theorem d_Mo_factorOf_9 : decode b_Mo_factorOf 9 = .ok (.iadd, 1) := by decide +kernel
theorem d_Mo_factorOf_10 : decode b_Mo_factorOf 10 = .ok (.laload, 1) := by decide +kernel
theorem d_Mo_factorOf_11 : decode b_Mo_factorOf 11 = .ok (.lreturn, 1) := by decide +kernel
theorem d_Mo_unlike_0 : decode b_Mo_unlike 0 = .ok (.iconst 0, 1) := by decide +kernel
theorem d_Mo_unlike_1 : decode b_Mo_unlike 1 = .ok (.istore_n 2, 1) := by decide +kernel
theorem d_Mo_unlike_2 : decode b_Mo_unlike 2 = .ok (.aload_n 0, 1) := by decide +kernel
theorem d_Mo_unlike_3 : decode b_Mo_unlike 3 = .ok (.getfield 74, 3) := by decide +kernel
theorem d_Mo_unlike_6 : decode b_Mo_unlike 6 = .ok (.iconst 0, 1) := by decide +kernel
theorem d_Mo_unlike_7 : decode b_Mo_unlike 7 = .ok (.lconst 0, 1) := by decide +kernel
theorem d_Mo_unlike_8 : decode b_Mo_unlike 8 = .ok (.lastore, 1) := by decide +kernel
theorem d_Mo_unlike_9 : decode b_Mo_unlike 9 = .ok (.iconst 1, 1) := by decide +kernel
theorem d_Mo_unlike_10 : decode b_Mo_unlike 10 = .ok (.istore_n 3, 1) := by decide +kernel
theorem d_Mo_unlike_11 : decode b_Mo_unlike 11 = .ok (.iload_n 3, 1) := by decide +kernel
theorem d_Mo_unlike_12 : decode b_Mo_unlike 12 = .ok (.iconst 1, 1) := by decide +kernel
theorem d_Mo_unlike_13 : decode b_Mo_unlike 13 = .ok (.iload_n 1, 1) := by decide +kernel
theorem d_Mo_unlike_14 : decode b_Mo_unlike 14 = .ok (.ishl, 1) := by decide +kernel
theorem d_Mo_unlike_15 : decode b_Mo_unlike 15 = .ok (.if_icmp .ge 169, 3) := by decide +kernel
theorem d_Mo_unlike_18 : decode b_Mo_unlike 18 = .ok (.iconst 0, 1) := by decide +kernel
theorem d_Mo_unlike_19 : decode b_Mo_unlike 19 = .ok (.istore 4, 2) := by decide +kernel
theorem d_Mo_unlike_21 : decode b_Mo_unlike 21 = .ok (.iload_n 3, 1) := by decide +kernel
theorem d_Mo_unlike_22 : decode b_Mo_unlike 22 = .ok (.iload 4, 2) := by decide +kernel
theorem d_Mo_unlike_24 : decode b_Mo_unlike 24 = .ok (.ishr, 1) := by decide +kernel
theorem d_Mo_unlike_25 : decode b_Mo_unlike 25 = .ok (.iconst 1, 1) := by decide +kernel
theorem d_Mo_unlike_26 : decode b_Mo_unlike 26 = .ok (.iand, 1) := by decide +kernel
theorem d_Mo_unlike_27 : decode b_Mo_unlike 27 = .ok (.ifCond .ne 9, 3) := by decide +kernel
theorem d_Mo_unlike_30 : decode b_Mo_unlike 30 = .ok (.iinc 4 1, 3) := by decide +kernel
theorem d_Mo_unlike_33 : decode b_Mo_unlike 33 = .ok (.goto (-12), 3) := by decide +kernel
theorem d_Mo_unlike_36 : decode b_Mo_unlike 36 = .ok (.aload_n 0, 1) := by decide +kernel
theorem d_Mo_unlike_37 : decode b_Mo_unlike 37 = .ok (.getfield 74, 3) := by decide +kernel
theorem d_Mo_unlike_40 : decode b_Mo_unlike 40 = .ok (.iload_n 3, 1) := by decide +kernel
theorem d_Mo_unlike_41 : decode b_Mo_unlike 41 = .ok (.aload_n 0, 1) := by decide +kernel
theorem d_Mo_unlike_42 : decode b_Mo_unlike 42 = .ok (.getfield 74, 3) := by decide +kernel
theorem d_Mo_unlike_45 : decode b_Mo_unlike 45 = .ok (.iload_n 3, 1) := by decide +kernel
theorem d_Mo_unlike_46 : decode b_Mo_unlike 46 = .ok (.iload_n 3, 1) := by decide +kernel
theorem d_Mo_unlike_47 : decode b_Mo_unlike 47 = .ok (.iconst 1, 1) := by decide +kernel
theorem d_Mo_unlike_48 : decode b_Mo_unlike 48 = .ok (.isub, 1) := by decide +kernel
theorem d_Mo_unlike_49 : decode b_Mo_unlike 49 = .ok (.iand, 1) := by decide +kernel
theorem d_Mo_unlike_50 : decode b_Mo_unlike 50 = .ok (.laload, 1) := by decide +kernel
theorem d_Mo_unlike_51 : decode b_Mo_unlike 51 = .ok (.aload_n 0, 1) := by decide +kernel
theorem d_Mo_unlike_52 : decode b_Mo_unlike 52 = .ok (.getfield 67, 3) := by decide +kernel
theorem d_Mo_unlike_55 : decode b_Mo_unlike 55 = .ok (.iload 4, 2) := by decide +kernel
theorem d_Mo_unlike_57 : decode b_Mo_unlike 57 = .ok (.laload, 1) := by decide +kernel
theorem d_Mo_unlike_58 : decode b_Mo_unlike 58 = .ok (.lor, 1) := by decide +kernel
theorem d_Mo_unlike_59 : decode b_Mo_unlike 59 = .ok (.lastore, 1) := by decide +kernel
theorem d_Mo_unlike_60 : decode b_Mo_unlike 60 = .ok (.iconst 0, 1) := by decide +kernel
theorem d_Mo_unlike_61 : decode b_Mo_unlike 61 = .ok (.istore 5, 2) := by decide +kernel
theorem d_Mo_unlike_63 : decode b_Mo_unlike 63 = .ok (.iload 4, 2) := by decide +kernel
theorem d_Mo_unlike_65 : decode b_Mo_unlike 65 = .ok (.istore 6, 2) := by decide +kernel
theorem d_Mo_unlike_67 : decode b_Mo_unlike 67 = .ok (.iload 6, 2) := by decide +kernel
theorem d_Mo_unlike_69 : decode b_Mo_unlike 69 = .ok (.iload_n 1, 1) := by decide +kernel
theorem d_Mo_unlike_70 : decode b_Mo_unlike 70 = .ok (.if_icmp .ge 20, 3) := by decide +kernel
theorem d_Mo_unlike_73 : decode b_Mo_unlike 73 = .ok (.iload 5, 2) := by decide +kernel
theorem d_Mo_unlike_75 : decode b_Mo_unlike 75 = .ok (.iload_n 3, 1) := by decide +kernel
theorem d_Mo_unlike_76 : decode b_Mo_unlike 76 = .ok (.iload 6, 2) := by decide +kernel
theorem d_Mo_unlike_78 : decode b_Mo_unlike 78 = .ok (.ishr, 1) := by decide +kernel
theorem d_Mo_unlike_79 : decode b_Mo_unlike 79 = .ok (.iconst 1, 1) := by decide +kernel
theorem d_Mo_unlike_80 : decode b_Mo_unlike 80 = .ok (.iand, 1) := by decide +kernel
theorem d_Mo_unlike_81 : decode b_Mo_unlike 81 = .ok (.iadd, 1) := by decide +kernel
theorem d_Mo_unlike_82 : decode b_Mo_unlike 82 = .ok (.istore 5, 2) := by decide +kernel
theorem d_Mo_unlike_84 : decode b_Mo_unlike 84 = .ok (.iinc 6 1, 3) := by decide +kernel
theorem d_Mo_unlike_87 : decode b_Mo_unlike 87 = .ok (.goto (-20), 3) := by decide +kernel
theorem d_Mo_unlike_90 : decode b_Mo_unlike 90 = .ok (.aload_n 0, 1) := by decide +kernel
theorem d_Mo_unlike_91 : decode b_Mo_unlike 91 = .ok (.getfield 74, 3) := by decide +kernel
theorem d_Mo_unlike_94 : decode b_Mo_unlike 94 = .ok (.iload_n 3, 1) := by decide +kernel
theorem d_Mo_unlike_95 : decode b_Mo_unlike 95 = .ok (.laload, 1) := by decide +kernel
theorem d_Mo_unlike_96 : decode b_Mo_unlike 96 = .ok (.invokestatic 140, 3) := by decide +kernel
theorem d_Mo_unlike_99 : decode b_Mo_unlike 99 = .ok (.istore 6, 2) := by decide +kernel
theorem d_Mo_unlike_101 : decode b_Mo_unlike 101 = .ok (.iload_n 2, 1) := by decide +kernel
theorem d_Mo_unlike_102 : decode b_Mo_unlike 102 = .ok (.ifCond .ne 10, 3) := by decide +kernel
theorem d_Mo_unlike_105 : decode b_Mo_unlike 105 = .ok (.iload 6, 2) := by decide +kernel
theorem d_Mo_unlike_107 : decode b_Mo_unlike 107 = .ok (.iload 5, 2) := by decide +kernel
theorem d_Mo_unlike_109 : decode b_Mo_unlike 109 = .ok (.if_icmp .ge 7, 3) := by decide +kernel
theorem d_Mo_unlike_112 : decode b_Mo_unlike 112 = .ok (.iconst 1, 1) := by decide +kernel
theorem d_Mo_unlike_113 : decode b_Mo_unlike 113 = .ok (.goto 4, 3) := by decide +kernel
theorem d_Mo_unlike_116 : decode b_Mo_unlike 116 = .ok (.iconst 0, 1) := by decide +kernel
theorem d_Mo_unlike_117 : decode b_Mo_unlike 117 = .ok (.istore_n 2, 1) := by decide +kernel
theorem d_Mo_unlike_118 : decode b_Mo_unlike 118 = .ok (.iconst 0, 1) := by decide +kernel
theorem d_Mo_unlike_119 : decode b_Mo_unlike 119 = .ok (.istore 7, 2) := by decide +kernel
theorem d_Mo_unlike_121 : decode b_Mo_unlike 121 = .ok (.iload 7, 2) := by decide +kernel
theorem d_Mo_unlike_123 : decode b_Mo_unlike 123 = .ok (.iload_n 1, 1) := by decide +kernel
theorem d_Mo_unlike_124 : decode b_Mo_unlike 124 = .ok (.if_icmp .ge 54, 3) := by decide +kernel
theorem d_Mo_unlike_127 : decode b_Mo_unlike 127 = .ok (.iload 6, 2) := by decide +kernel
theorem d_Mo_unlike_129 : decode b_Mo_unlike 129 = .ok (.iload 5, 2) := by decide +kernel
theorem d_Mo_unlike_131 : decode b_Mo_unlike 131 = .ok (.if_icmp .ne 47, 3) := by decide +kernel
theorem d_Mo_unlike_134 : decode b_Mo_unlike 134 = .ok (.iload_n 3, 1) := by decide +kernel
theorem d_Mo_unlike_135 : decode b_Mo_unlike 135 = .ok (.iload 7, 2) := by decide +kernel
theorem d_Mo_unlike_137 : decode b_Mo_unlike 137 = .ok (.ishr, 1) := by decide +kernel
theorem d_Mo_unlike_138 : decode b_Mo_unlike 138 = .ok (.iconst 1, 1) := by decide +kernel
theorem d_Mo_unlike_139 : decode b_Mo_unlike 139 = .ok (.iand, 1) := by decide +kernel
theorem d_Mo_unlike_140 : decode b_Mo_unlike 140 = .ok (.ifCond .ne 32, 3) := by decide +kernel
theorem d_Mo_unlike_143 : decode b_Mo_unlike 143 = .ok (.aload_n 0, 1) := by decide +kernel
theorem d_Mo_unlike_144 : decode b_Mo_unlike 144 = .ok (.getfield 70, 3) := by decide +kernel
theorem d_Mo_unlike_147 : decode b_Mo_unlike 147 = .ok (.iload 7, 2) := by decide +kernel
theorem d_Mo_unlike_149 : decode b_Mo_unlike 149 = .ok (.aload_n 0, 1) := by decide +kernel
theorem d_Mo_unlike_150 : decode b_Mo_unlike 150 = .ok (.getfield 70, 3) := by decide +kernel
theorem d_Mo_unlike_153 : decode b_Mo_unlike 153 = .ok (.iload 7, 2) := by decide +kernel
theorem d_Mo_unlike_155 : decode b_Mo_unlike 155 = .ok (.laload, 1) := by decide +kernel
theorem d_Mo_unlike_156 : decode b_Mo_unlike 156 = .ok (.aload_n 0, 1) := by decide +kernel
theorem d_Mo_unlike_157 : decode b_Mo_unlike 157 = .ok (.getfield 67, 3) := by decide +kernel
theorem d_Mo_unlike_160 : decode b_Mo_unlike 160 = .ok (.iload 7, 2) := by decide +kernel
theorem d_Mo_unlike_162 : decode b_Mo_unlike 162 = .ok (.laload, 1) := by decide +kernel
theorem d_Mo_unlike_163 : decode b_Mo_unlike 163 = .ok (.aload_n 0, 1) := by decide +kernel
theorem d_Mo_unlike_164 : decode b_Mo_unlike 164 = .ok (.getfield 74, 3) := by decide +kernel
theorem d_Mo_unlike_167 : decode b_Mo_unlike 167 = .ok (.iload_n 3, 1) := by decide +kernel
theorem d_Mo_unlike_168 : decode b_Mo_unlike 168 = .ok (.laload, 1) := by decide +kernel
theorem d_Mo_unlike_169 : decode b_Mo_unlike 169 = .ok (.land, 1) := by decide +kernel
theorem d_Mo_unlike_170 : decode b_Mo_unlike 170 = .ok (.lor, 1) := by decide +kernel
theorem d_Mo_unlike_171 : decode b_Mo_unlike 171 = .ok (.lastore, 1) := by decide +kernel
theorem d_Mo_unlike_172 : decode b_Mo_unlike 172 = .ok (.iinc 7 1, 3) := by decide +kernel
theorem d_Mo_unlike_175 : decode b_Mo_unlike 175 = .ok (.goto (-54), 3) := by decide +kernel
theorem d_Mo_unlike_178 : decode b_Mo_unlike 178 = .ok (.iinc 3 1, 3) := by decide +kernel
theorem d_Mo_unlike_181 : decode b_Mo_unlike 181 = .ok (.goto (-170), 3) := by decide +kernel
theorem d_Mo_unlike_184 : decode b_Mo_unlike 184 = .ok (.iconst 0, 1) := by decide +kernel
theorem d_Mo_unlike_185 : decode b_Mo_unlike 185 = .ok (.istore_n 3, 1) := by decide +kernel
theorem d_Mo_unlike_186 : decode b_Mo_unlike 186 = .ok (.iload_n 3, 1) := by decide +kernel
theorem d_Mo_unlike_187 : decode b_Mo_unlike 187 = .ok (.iload_n 1, 1) := by decide +kernel
theorem d_Mo_unlike_188 : decode b_Mo_unlike 188 = .ok (.if_icmp .ge 25, 3) := by decide +kernel
theorem d_Mo_unlike_191 : decode b_Mo_unlike 191 = .ok (.iload_n 2, 1) := by decide +kernel
theorem d_Mo_unlike_192 : decode b_Mo_unlike 192 = .ok (.ifCond .eq 21, 3) := by decide +kernel
theorem d_Mo_unlike_195 : decode b_Mo_unlike 195 = .ok (.aload_n 0, 1) := by decide +kernel
theorem d_Mo_unlike_196 : decode b_Mo_unlike 196 = .ok (.getfield 70, 3) := by decide +kernel
theorem d_Mo_unlike_199 : decode b_Mo_unlike 199 = .ok (.iload_n 3, 1) := by decide +kernel
theorem d_Mo_unlike_200 : decode b_Mo_unlike 200 = .ok (.aload_n 0, 1) := by decide +kernel
theorem d_Mo_unlike_201 : decode b_Mo_unlike 201 = .ok (.getfield 67, 3) := by decide +kernel
theorem d_Mo_unlike_204 : decode b_Mo_unlike 204 = .ok (.iload_n 3, 1) := by decide +kernel
theorem d_Mo_unlike_205 : decode b_Mo_unlike 205 = .ok (.laload, 1) := by decide +kernel
theorem d_Mo_unlike_206 : decode b_Mo_unlike 206 = .ok (.lastore, 1) := by decide +kernel
theorem d_Mo_unlike_207 : decode b_Mo_unlike 207 = .ok (.iinc 3 1, 3) := by decide +kernel
theorem d_Mo_unlike_210 : decode b_Mo_unlike 210 = .ok (.goto (-24), 3) := by decide +kernel
theorem d_Mo_unlike_213 : decode b_Mo_unlike 213 = .ok (.return_, 1) := by decide +kernel
