theorem d_Giving_giveAll_0 : decode b_Giving_giveAll 0 = .ok (.aload_n 0, 1) := by decide +kernel
theorem d_Giving_giveAll_1 : decode b_Giving_giveAll 1 = .ok (.lconst 0, 1) := by decide +kernel
theorem d_Giving_giveAll_2 : decode b_Giving_giveAll 2 = .ok (.putfield 24, 3) := by decide +kernel
theorem d_Giving_giveAll_5 : decode b_Giving_giveAll 5 = .ok (.iconst 0, 1) := by decide +kernel
theorem d_Giving_giveAll_6 : decode b_Giving_giveAll 6 = .ok (.istore_n 3, 1) := by decide +kernel
theorem d_Giving_giveAll_7 : decode b_Giving_giveAll 7 = .ok (.iload_n 3, 1) := by decide +kernel
theorem d_Giving_giveAll_8 : decode b_Giving_giveAll 8 = .ok (.iload_n 2, 1) := by decide +kernel
theorem d_Giving_giveAll_9 : decode b_Giving_giveAll 9 = .ok (.if_icmp .ge 20, 3) := by decide +kernel
theorem d_Giving_giveAll_12 : decode b_Giving_giveAll 12 = .ok (.aload_n 0, 1) := by decide +kernel
theorem d_Giving_giveAll_13 : decode b_Giving_giveAll 13 = .ok (.aload_n 1, 1) := by decide +kernel
theorem d_Giving_giveAll_14 : decode b_Giving_giveAll 14 = .ok (.iload_n 3, 1) := by decide +kernel
theorem d_Giving_giveAll_15 : decode b_Giving_giveAll 15 = .ok (.invokevirtual 32, 3) := by decide +kernel
theorem d_Giving_giveAll_18 : decode b_Giving_giveAll 18 = .ok (.ifCond .ne 5, 3) := by decide +kernel
theorem d_Giving_giveAll_21 : decode b_Giving_giveAll 21 = .ok (.iconst 0, 1) := by decide +kernel
theorem d_Giving_giveAll_22 : decode b_Giving_giveAll 22 = .ok (.ireturn, 1) := by decide +kernel
theorem d_Giving_giveAll_23 : decode b_Giving_giveAll 23 = .ok (.iinc 3 1, 3) := by decide +kernel
theorem d_Giving_giveAll_26 : decode b_Giving_giveAll 26 = .ok (.goto (-19), 3) := by decide +kernel
theorem d_Giving_giveAll_29 : decode b_Giving_giveAll 29 = .ok (.iconst 1, 1) := by decide +kernel
theorem d_Giving_giveAll_30 : decode b_Giving_giveAll 30 = .ok (.ireturn, 1) := by decide +kernel
theorem d_Giving_findReach_0 : decode b_Giving_findReach 0 = .ok (.aload_n 0, 1) := by decide +kernel
theorem d_Giving_findReach_1 : decode b_Giving_findReach 1 = .ok (.iconst 0, 1) := by decide +kernel
theorem d_Giving_findReach_2 : decode b_Giving_findReach 2 = .ok (.putfield 28, 3) := by decide +kernel
theorem d_Giving_findReach_5 : decode b_Giving_findReach 5 = .ok (.iconst 0, 1) := by decide +kernel
theorem d_Giving_findReach_6 : decode b_Giving_findReach 6 = .ok (.istore_n 3, 1) := by decide +kernel
theorem d_Giving_findReach_7 : decode b_Giving_findReach 7 = .ok (.iload_n 3, 1) := by decide +kernel
theorem d_Giving_findReach_8 : decode b_Giving_findReach 8 = .ok (.iload_n 2, 1) := by decide +kernel
theorem d_Giving_findReach_9 : decode b_Giving_findReach 9 = .ok (.if_icmp .ge 97, 3) := by decide +kernel
theorem d_Giving_findReach_12 : decode b_Giving_findReach 12 = .ok (.aload_n 0, 1) := by decide +kernel
theorem d_Giving_findReach_13 : decode b_Giving_findReach 13 = .ok (.getfield 21, 3) := by decide +kernel
theorem d_Giving_findReach_16 : decode b_Giving_findReach 16 = .ok (.iload_n 3, 1) := by decide +kernel
theorem d_Giving_findReach_17 : decode b_Giving_findReach 17 = .ok (.iconst 0, 1) := by decide +kernel
theorem d_Giving_findReach_18 : decode b_Giving_findReach 18 = .ok (.iastore, 1) := by decide +kernel
theorem d_Giving_findReach_19 : decode b_Giving_findReach 19 = .ok (.iconst 0, 1) := by decide +kernel
theorem d_Giving_findReach_20 : decode b_Giving_findReach 20 = .ok (.istore 4, 2) := by decide +kernel
theorem d_Giving_findReach_22 : decode b_Giving_findReach 22 = .ok (.iload 4, 2) := by decide +kernel
theorem d_Giving_findReach_24 : decode b_Giving_findReach 24 = .ok (.iload_n 2, 1) := by decide +kernel
theorem d_Giving_findReach_25 : decode b_Giving_findReach 25 = .ok (.if_icmp .ge 42, 3) := by decide +kernel
theorem d_Giving_findReach_28 : decode b_Giving_findReach 28 = .ok (.aload_n 0, 1) := by decide +kernel
theorem d_Giving_findReach_29 : decode b_Giving_findReach 29 = .ok (.getfield 21, 3) := by decide +kernel
theorem d_Giving_findReach_32 : decode b_Giving_findReach 32 = .ok (.iload_n 3, 1) := by decide +kernel
theorem d_Giving_findReach_33 : decode b_Giving_findReach 33 = .ok (.dup2, 1) := by decide +kernel
theorem d_Giving_findReach_34 : decode b_Giving_findReach 34 = .ok (.iaload, 1) := by decide +kernel
theorem d_Giving_findReach_35 : decode b_Giving_findReach 35 = .ok (.aload_n 1, 1) := by decide +kernel
theorem d_Giving_findReach_36 : decode b_Giving_findReach 36 = .ok (.iload_n 3, 1) := by decide +kernel
theorem d_Giving_findReach_37 : decode b_Giving_findReach 37 = .ok (.laload, 1) := by decide +kernel
theorem d_Giving_findReach_38 : decode b_Giving_findReach 38 = .ok (.aload_n 0, 1) := by decide +kernel
theorem d_Giving_findReach_39 : decode b_Giving_findReach 39 = .ok (.getfield 9, 3) := by decide +kernel
theorem d_Giving_findReach_42 : decode b_Giving_findReach 42 = .ok (.iload 4, 2) := by decide +kernel
theorem d_Giving_findReach_44 : decode b_Giving_findReach 44 = .ok (.iaload, 1) := by decide +kernel
theorem d_Giving_findReach_45 : decode b_Giving_findReach 45 = .ok (.invokestatic 48, 3) := by decide +kernel
theorem d_Giving_findReach_48 : decode b_Giving_findReach 48 = .ok (.ifCond .eq 10, 3) := by decide +kernel
theorem d_Giving_findReach_51 : decode b_Giving_findReach 51 = .ok (.iconst 1, 1) := by decide +kernel
theorem d_Giving_findReach_52 : decode b_Giving_findReach 52 = .ok (.iload 4, 2) := by decide +kernel
theorem d_Giving_findReach_54 : decode b_Giving_findReach 54 = .ok (.ishl, 1) := by decide +kernel
theorem d_Giving_findReach_55 : decode b_Giving_findReach 55 = .ok (.goto 4, 3) := by decide +kernel
theorem d_Giving_findReach_58 : decode b_Giving_findReach 58 = .ok (.iconst 0, 1) := by decide +kernel
theorem d_Giving_findReach_59 : decode b_Giving_findReach 59 = .ok (.ior, 1) := by decide +kernel
theorem d_Giving_findReach_60 : decode b_Giving_findReach 60 = .ok (.iastore, 1) := by decide +kernel
theorem d_Giving_findReach_61 : decode b_Giving_findReach 61 = .ok (.iinc 4 1, 3) := by decide +kernel
theorem d_Giving_findReach_64 : decode b_Giving_findReach 64 = .ok (.goto (-42), 3) := by decide +kernel
theorem d_Giving_findReach_67 : decode b_Giving_findReach 67 = .ok (.aload_n 0, 1) := by decide +kernel
theorem d_Giving_findReach_68 : decode b_Giving_findReach 68 = .ok (.dup, 1) := by decide +kernel
theorem d_Giving_findReach_69 : decode b_Giving_findReach 69 = .ok (.getfield 28, 3) := by decide +kernel
theorem d_Giving_findReach_72 : decode b_Giving_findReach 72 = .ok (.aload_n 1, 1) := by decide +kernel
theorem d_Giving_findReach_73 : decode b_Giving_findReach 73 = .ok (.iload_n 3, 1) := by decide +kernel
theorem d_Giving_findReach_74 : decode b_Giving_findReach 74 = .ok (.laload, 1) := by decide +kernel
theorem d_Giving_findReach_75 : decode b_Giving_findReach 75 = .ok (.aload_n 0, 1) := by decide +kernel
theorem d_Giving_findReach_76 : decode b_Giving_findReach 76 = .ok (.getfield 24, 3) := by decide +kernel
theorem d_Giving_findReach_79 : decode b_Giving_findReach 79 = .ok (.ldc2_w 36, 3) := by decide +kernel
theorem d_Giving_findReach_82 : decode b_Giving_findReach 82 = .ok (.lxor, 1) := by decide +kernel
theorem d_Giving_findReach_83 : decode b_Giving_findReach 83 = .ok (.land, 1) := by decide +kernel
theorem d_Giving_findReach_84 : decode b_Giving_findReach 84 = .ok (.lconst 0, 1) := by decide +kernel
theorem d_Giving_findReach_85 : decode b_Giving_findReach 85 = .ok (.lcmp, 1) := by decide +kernel
theorem d_Giving_findReach_86 : decode b_Giving_findReach 86 = .ok (.ifCond .eq 9, 3) := by decide +kernel
theorem d_Giving_findReach_89 : decode b_Giving_findReach 89 = .ok (.iconst 1, 1) := by decide +kernel
theorem d_Giving_findReach_90 : decode b_Giving_findReach 90 = .ok (.iload_n 3, 1) := by decide +kernel
theorem d_Giving_findReach_91 : decode b_Giving_findReach 91 = .ok (.ishl, 1) := by decide +kernel
theorem d_Giving_findReach_92 : decode b_Giving_findReach 92 = .ok (.goto 4, 3) := by decide +kernel
theorem d_Giving_findReach_95 : decode b_Giving_findReach 95 = .ok (.iconst 0, 1) := by decide +kernel
theorem d_Giving_findReach_96 : decode b_Giving_findReach 96 = .ok (.ior, 1) := by decide +kernel
theorem d_Giving_findReach_97 : decode b_Giving_findReach 97 = .ok (.putfield 28, 3) := by decide +kernel
theorem d_Giving_findReach_100 : decode b_Giving_findReach 100 = .ok (.iinc 3 1, 3) := by decide +kernel
theorem d_Giving_findReach_103 : decode b_Giving_findReach 103 = .ok (.goto (-96), 3) := by decide +kernel
theorem d_Giving_findReach_106 : decode b_Giving_findReach 106 = .ok (.iconst 0, 1) := by decide +kernel
theorem d_Giving_findReach_107 : decode b_Giving_findReach 107 = .ok (.istore_n 3, 1) := by decide +kernel
theorem d_Giving_findReach_108 : decode b_Giving_findReach 108 = .ok (.iload_n 3, 1) := by decide +kernel
theorem d_Giving_findReach_109 : decode b_Giving_findReach 109 = .ok (.iload_n 2, 1) := by decide +kernel
theorem d_Giving_findReach_110 : decode b_Giving_findReach 110 = .ok (.if_icmp .ge 58, 3) := by decide +kernel
theorem d_Giving_findReach_113 : decode b_Giving_findReach 113 = .ok (.iconst 0, 1) := by decide +kernel
theorem d_Giving_findReach_114 : decode b_Giving_findReach 114 = .ok (.istore 4, 2) := by decide +kernel
theorem d_Giving_findReach_116 : decode b_Giving_findReach 116 = .ok (.iload 4, 2) := by decide +kernel
theorem d_Giving_findReach_118 : decode b_Giving_findReach 118 = .ok (.iload_n 2, 1) := by decide +kernel
theorem d_Giving_findReach_119 : decode b_Giving_findReach 119 = .ok (.if_icmp .ge 43, 3) := by decide +kernel
theorem d_Giving_findReach_122 : decode b_Giving_findReach 122 = .ok (.aload_n 0, 1) := by decide +kernel
theorem d_Giving_findReach_123 : decode b_Giving_findReach 123 = .ok (.getfield 21, 3) := by decide +kernel
theorem d_Giving_findReach_126 : decode b_Giving_findReach 126 = .ok (.iload 4, 2) := by decide +kernel
theorem d_Giving_findReach_128 : decode b_Giving_findReach 128 = .ok (.dup2, 1) := by decide +kernel
theorem d_Giving_findReach_129 : decode b_Giving_findReach 129 = .ok (.iaload, 1) := by decide +kernel
theorem d_Giving_findReach_130 : decode b_Giving_findReach 130 = .ok (.aload_n 0, 1) := by decide +kernel
theorem d_Giving_findReach_131 : decode b_Giving_findReach 131 = .ok (.getfield 21, 3) := by decide +kernel
theorem d_Giving_findReach_134 : decode b_Giving_findReach 134 = .ok (.iload 4, 2) := by decide +kernel
theorem d_Giving_findReach_136 : decode b_Giving_findReach 136 = .ok (.iaload, 1) := by decide +kernel
theorem d_Giving_findReach_137 : decode b_Giving_findReach 137 = .ok (.iload_n 3, 1) := by decide +kernel
theorem d_Giving_findReach_138 : decode b_Giving_findReach 138 = .ok (.iushr, 1) := by decide +kernel
theorem d_Giving_findReach_139 : decode b_Giving_findReach 139 = .ok (.iconst 1, 1) := by decide +kernel
theorem d_Giving_findReach_140 : decode b_Giving_findReach 140 = .ok (.iand, 1) := by decide +kernel
theorem d_Giving_findReach_141 : decode b_Giving_findReach 141 = .ok (.ifCond .eq 12, 3) := by decide +kernel
theorem d_Giving_findReach_144 : decode b_Giving_findReach 144 = .ok (.aload_n 0, 1) := by decide +kernel
theorem d_Giving_findReach_145 : decode b_Giving_findReach 145 = .ok (.getfield 21, 3) := by decide +kernel
theorem d_Giving_findReach_148 : decode b_Giving_findReach 148 = .ok (.iload_n 3, 1) := by decide +kernel
theorem d_Giving_findReach_149 : decode b_Giving_findReach 149 = .ok (.iaload, 1) := by decide +kernel
theorem d_Giving_findReach_150 : decode b_Giving_findReach 150 = .ok (.goto 4, 3) := by decide +kernel
theorem d_Giving_findReach_153 : decode b_Giving_findReach 153 = .ok (.iconst 0, 1) := by decide +kernel
theorem d_Giving_findReach_154 : decode b_Giving_findReach 154 = .ok (.ior, 1) := by decide +kernel
theorem d_Giving_findReach_155 : decode b_Giving_findReach 155 = .ok (.iastore, 1) := by decide +kernel
theorem d_Giving_findReach_156 : decode b_Giving_findReach 156 = .ok (.iinc 4 1, 3) := by decide +kernel
theorem d_Giving_findReach_159 : decode b_Giving_findReach 159 = .ok (.goto (-43), 3) := by decide +kernel
theorem d_Giving_findReach_162 : decode b_Giving_findReach 162 = .ok (.iinc 3 1, 3) := by decide +kernel
theorem d_Giving_findReach_165 : decode b_Giving_findReach 165 = .ok (.goto (-57), 3) := by decide +kernel
theorem d_Giving_findReach_168 : decode b_Giving_findReach 168 = .ok (.return_, 1) := by decide +kernel
theorem d_Giving_possible_0 : decode b_Giving_possible 0 = .ok (.lload_n 1, 1) := by decide +kernel
theorem d_Giving_possible_1 : decode b_Giving_possible 1 = .ok (.aload_n 0, 1) := by decide +kernel
theorem d_Giving_possible_2 : decode b_Giving_possible 2 = .ok (.getfield 24, 3) := by decide +kernel
theorem d_Giving_possible_5 : decode b_Giving_possible 5 = .ok (.ldc2_w 36, 3) := by decide +kernel
theorem d_Giving_possible_8 : decode b_Giving_possible 8 = .ok (.lxor, 1) := by decide +kernel
theorem d_Giving_possible_9 : decode b_Giving_possible 9 = .ok (.land, 1) := by decide +kernel
theorem d_Giving_possible_10 : decode b_Giving_possible 10 = .ok (.lstore 5, 2) := by decide +kernel
theorem d_Giving_possible_12 : decode b_Giving_possible 12 = .ok (.iconst 0, 1) := by decide +kernel
theorem d_Giving_possible_13 : decode b_Giving_possible 13 = .ok (.istore 7, 2) := by decide +kernel
theorem d_Giving_possible_15 : decode b_Giving_possible 15 = .ok (.iload 7, 2) := by decide +kernel
theorem d_Giving_possible_17 : decode b_Giving_possible 17 = .ok (.iload 4, 2) := by decide +kernel
theorem d_Giving_possible_19 : decode b_Giving_possible 19 = .ok (.if_icmp .ge 44, 3) := by decide +kernel
theorem d_Giving_possible_22 : decode b_Giving_possible 22 = .ok (.aload_n 0, 1) := by decide +kernel
theorem d_Giving_possible_23 : decode b_Giving_possible 23 = .ok (.getfield 21, 3) := by decide +kernel
theorem d_Giving_possible_26 : decode b_Giving_possible 26 = .ok (.iload 7, 2) := by decide +kernel
theorem d_Giving_possible_28 : decode b_Giving_possible 28 = .ok (.iaload, 1) := by decide +kernel
theorem d_Giving_possible_29 : decode b_Giving_possible 29 = .ok (.aload_n 0, 1) := by decide +kernel
theorem d_Giving_possible_30 : decode b_Giving_possible 30 = .ok (.getfield 28, 3) := by decide +kernel
theorem d_Giving_possible_33 : decode b_Giving_possible 33 = .ok (.iconst 1, 1) := by decide +kernel
theorem d_Giving_possible_34 : decode b_Giving_possible 34 = .ok (.iload_n 3, 1) := by decide +kernel
theorem d_Giving_possible_35 : decode b_Giving_possible 35 = .ok (.ishl, 1) := by decide +kernel
theorem d_Giving_possible_36 : decode b_Giving_possible 36 = .ok (.ior, 1) := by decide +kernel
theorem d_Giving_possible_37 : decode b_Giving_possible 37 = .ok (.iand, 1) := by decide +kernel
theorem d_Giving_possible_38 : decode b_Giving_possible 38 = .ok (.ifCond .eq 19, 3) := by decide +kernel
theorem d_Giving_possible_41 : decode b_Giving_possible 41 = .ok (.lload 5, 2) := by decide +kernel
theorem d_Giving_possible_43 : decode b_Giving_possible 43 = .ok (.lload_n 1, 1) := by decide +kernel
theorem d_Giving_possible_44 : decode b_Giving_possible 44 = .ok (.lconst 1, 1) := by decide +kernel
theorem d_Giving_possible_45 : decode b_Giving_possible 45 = .ok (.aload_n 0, 1) := by decide +kernel
theorem d_Giving_possible_46 : decode b_Giving_possible 46 = .ok (.getfield 9, 3) := by decide +kernel
theorem d_Giving_possible_49 : decode b_Giving_possible 49 = .ok (.iload 7, 2) := by decide +kernel
theorem d_Giving_possible_51 : decode b_Giving_possible 51 = .ok (.iaload, 1) := by decide +kernel
theorem d_Giving_possible_52 : decode b_Giving_possible 52 = .ok (.lshl, 1) := by decide +kernel
theorem d_Giving_possible_53 : decode b_Giving_possible 53 = .ok (.land, 1) := by decide +kernel
theorem d_Giving_possible_54 : decode b_Giving_possible 54 = .ok (.lor, 1) := by decide +kernel
theorem d_Giving_possible_55 : decode b_Giving_possible 55 = .ok (.lstore 5, 2) := by decide +kernel
theorem d_Giving_possible_57 : decode b_Giving_possible 57 = .ok (.iinc 7 1, 3) := by decide +kernel
theorem d_Giving_possible_60 : decode b_Giving_possible 60 = .ok (.goto (-45), 3) := by decide +kernel
theorem d_Giving_possible_63 : decode b_Giving_possible 63 = .ok (.lload 5, 2) := by decide +kernel
theorem d_Giving_possible_65 : decode b_Giving_possible 65 = .ok (.lreturn, 1) := by decide +kernel
theorem d_Kernel_lowestOf_0 : decode b_Kernel_lowestOf 0 = .ok (.lload_n 0, 1) := by decide +kernel
theorem d_Kernel_lowestOf_1 : decode b_Kernel_lowestOf 1 = .ok (.invokestatic 135, 3) := by decide +kernel
theorem d_Kernel_lowestOf_4 : decode b_Kernel_lowestOf 4 = .ok (.ireturn, 1) := by decide +kernel
theorem d_Kernel_highestOf_0 : decode b_Kernel_highestOf 0 = .ok (.bipush 63, 2) := by decide +kernel
theorem d_Kernel_highestOf_2 : decode b_Kernel_highestOf 2 = .ok (.lload_n 0, 1) := by decide +kernel
theorem d_Kernel_highestOf_3 : decode b_Kernel_highestOf 3 = .ok (.invokestatic 140, 3) := by decide +kernel
theorem d_Kernel_highestOf_6 : decode b_Kernel_highestOf 6 = .ok (.isub, 1) := by decide +kernel
theorem d_Kernel_highestOf_7 : decode b_Kernel_highestOf 7 = .ok (.ireturn, 1) := by decide +kernel
theorem d_Kernel_leastOf_0 : decode b_Kernel_leastOf 0 = .ok (.iload_n 0, 1) := by decide +kernel
theorem d_Kernel_leastOf_1 : decode b_Kernel_leastOf 1 = .ok (.i2l, 1) := by decide +kernel
theorem d_Kernel_leastOf_2 : decode b_Kernel_leastOf 2 = .ok (.iload_n 0, 1) := by decide +kernel
theorem d_Kernel_leastOf_3 : decode b_Kernel_leastOf 3 = .ok (.ifCond .lt 10, 3) := by decide +kernel
theorem d_Kernel_leastOf_6 : decode b_Kernel_leastOf 6 = .ok (.lload_n 1, 1) := by decide +kernel
theorem d_Kernel_leastOf_7 : decode b_Kernel_leastOf 7 = .ok (.invokestatic 108, 3) := by decide +kernel
theorem d_Kernel_leastOf_10 : decode b_Kernel_leastOf 10 = .ok (.goto 7, 3) := by decide +kernel
theorem d_Kernel_leastOf_13 : decode b_Kernel_leastOf 13 = .ok (.lload_n 1, 1) := by decide +kernel
theorem d_Kernel_leastOf_14 : decode b_Kernel_leastOf 14 = .ok (.invokestatic 112, 3) := by decide +kernel
theorem d_Kernel_leastOf_17 : decode b_Kernel_leastOf 17 = .ok (.i2l, 1) := by decide +kernel
theorem d_Kernel_leastOf_18 : decode b_Kernel_leastOf 18 = .ok (.lmul, 1) := by decide +kernel
theorem d_Kernel_leastOf_19 : decode b_Kernel_leastOf 19 = .ok (.lreturn, 1) := by decide +kernel
theorem d_Kernel_mostOf_0 : decode b_Kernel_mostOf 0 = .ok (.iload_n 0, 1) := by decide +kernel
theorem d_Kernel_mostOf_1 : decode b_Kernel_mostOf 1 = .ok (.i2l, 1) := by decide +kernel
theorem d_Kernel_mostOf_2 : decode b_Kernel_mostOf 2 = .ok (.iload_n 0, 1) := by decide +kernel
theorem d_Kernel_mostOf_3 : decode b_Kernel_mostOf 3 = .ok (.ifCond .lt 10, 3) := by decide +kernel
theorem d_Kernel_mostOf_6 : decode b_Kernel_mostOf 6 = .ok (.lload_n 1, 1) := by decide +kernel
theorem d_Kernel_mostOf_7 : decode b_Kernel_mostOf 7 = .ok (.invokestatic 112, 3) := by decide +kernel
theorem d_Kernel_mostOf_10 : decode b_Kernel_mostOf 10 = .ok (.goto 7, 3) := by decide +kernel
theorem d_Kernel_mostOf_13 : decode b_Kernel_mostOf 13 = .ok (.lload_n 1, 1) := by decide +kernel
theorem d_Kernel_mostOf_14 : decode b_Kernel_mostOf 14 = .ok (.invokestatic 108, 3) := by decide +kernel
theorem d_Kernel_mostOf_17 : decode b_Kernel_mostOf 17 = .ok (.i2l, 1) := by decide +kernel
theorem d_Kernel_mostOf_18 : decode b_Kernel_mostOf 18 = .ok (.lmul, 1) := by decide +kernel
theorem d_Kernel_mostOf_19 : decode b_Kernel_mostOf 19 = .ok (.lreturn, 1) := by decide +kernel
theorem d_Kernel_below_0 : decode b_Kernel_below 0 = .ok (.iload_n 0, 1) := by decide +kernel
theorem d_Kernel_below_1 : decode b_Kernel_below 1 = .ok (.bipush 64, 2) := by decide +kernel
theorem d_Kernel_below_3 : decode b_Kernel_below 3 = .ok (.if_icmp .lt 9, 3) := by decide +kernel
theorem d_Kernel_below_6 : decode b_Kernel_below 6 = .ok (.ldc2_w 87, 3) := by decide +kernel
theorem d_Kernel_below_9 : decode b_Kernel_below 9 = .ok (.goto 8, 3) := by decide +kernel
theorem d_Kernel_below_12 : decode b_Kernel_below 12 = .ok (.lconst 1, 1) := by decide +kernel
theorem d_Kernel_below_13 : decode b_Kernel_below 13 = .ok (.iload_n 0, 1) := by decide +kernel
theorem d_Kernel_below_14 : decode b_Kernel_below 14 = .ok (.lshl, 1) := by decide +kernel
theorem d_Kernel_below_15 : decode b_Kernel_below 15 = .ok (.lconst 1, 1) := by decide +kernel
theorem d_Kernel_below_16 : decode b_Kernel_below 16 = .ok (.lsub, 1) := by decide +kernel
theorem d_Kernel_below_17 : decode b_Kernel_below 17 = .ok (.lreturn, 1) := by decide +kernel
theorem d_Kernel_bitOf_0 : decode b_Kernel_bitOf 0 = .ok (.iload_n 1, 1) := by decide +kernel
theorem d_Kernel_bitOf_1 : decode b_Kernel_bitOf 1 = .ok (.ifCond .lt 17, 3) := by decide +kernel
theorem d_Kernel_bitOf_4 : decode b_Kernel_bitOf 4 = .ok (.iload_n 1, 1) := by decide +kernel
theorem d_Kernel_bitOf_5 : decode b_Kernel_bitOf 5 = .ok (.aload_n 0, 1) := by decide +kernel
theorem d_Kernel_bitOf_6 : decode b_Kernel_bitOf 6 = .ok (.getfield 9, 3) := by decide +kernel
theorem d_Kernel_bitOf_9 : decode b_Kernel_bitOf 9 = .ok (.if_icmp .ge 9, 3) := by decide +kernel
theorem d_Kernel_bitOf_12 : decode b_Kernel_bitOf 12 = .ok (.lconst 1, 1) := by decide +kernel
theorem d_Kernel_bitOf_13 : decode b_Kernel_bitOf 13 = .ok (.iload_n 1, 1) := by decide +kernel
theorem d_Kernel_bitOf_14 : decode b_Kernel_bitOf 14 = .ok (.lshl, 1) := by decide +kernel
theorem d_Kernel_bitOf_15 : decode b_Kernel_bitOf 15 = .ok (.goto 4, 3) := by decide +kernel
theorem d_Kernel_bitOf_18 : decode b_Kernel_bitOf 18 = .ok (.lconst 0, 1) := by decide +kernel
theorem d_Kernel_bitOf_19 : decode b_Kernel_bitOf 19 = .ok (.lreturn, 1) := by decide +kernel
theorem d_Kernel_within_0 : decode b_Kernel_within 0 = .ok (.lconst 0, 1) := by decide +kernel
theorem d_Kernel_within_1 : decode b_Kernel_within 1 = .ok (.lstore 8, 2) := by decide +kernel
theorem d_Kernel_within_3 : decode b_Kernel_within 3 = .ok (.iconst 0, 1) := by decide +kernel
theorem d_Kernel_within_4 : decode b_Kernel_within 4 = .ok (.istore 10, 2) := by decide +kernel
theorem d_Kernel_within_6 : decode b_Kernel_within 6 = .ok (.iload 10, 2) := by decide +kernel
theorem d_Kernel_within_8 : decode b_Kernel_within 8 = .ok (.aload_n 0, 1) := by decide +kernel
theorem d_Kernel_within_9 : decode b_Kernel_within 9 = .ok (.getfield 9, 3) := by decide +kernel
theorem d_Kernel_within_12 : decode b_Kernel_within 12 = .ok (.if_icmp .ge 51, 3) := by decide +kernel
theorem d_Kernel_within_15 : decode b_Kernel_within 15 = .ok (.iload_n 3, 1) := by decide +kernel
theorem d_Kernel_within_16 : decode b_Kernel_within 16 = .ok (.i2l, 1) := by decide +kernel
theorem d_Kernel_within_17 : decode b_Kernel_within 17 = .ok (.iload 10, 2) := by decide +kernel
theorem d_Kernel_within_19 : decode b_Kernel_within 19 = .ok (.i2l, 1) := by decide +kernel
theorem d_Kernel_within_20 : decode b_Kernel_within 20 = .ok (.lmul, 1) := by decide +kernel
theorem d_Kernel_within_21 : decode b_Kernel_within 21 = .ok (.lstore 11, 2) := by decide +kernel
theorem d_Kernel_within_23 : decode b_Kernel_within 23 = .ok (.lload_n 1, 1) := by decide +kernel
theorem d_Kernel_within_24 : decode b_Kernel_within 24 = .ok (.iload 10, 2) := by decide +kernel
theorem d_Kernel_within_26 : decode b_Kernel_within 26 = .ok (.invokestatic 115, 3) := by decide +kernel
theorem d_Kernel_within_29 : decode b_Kernel_within 29 = .ok (.ifCond .eq 28, 3) := by decide +kernel
theorem d_Kernel_within_32 : decode b_Kernel_within 32 = .ok (.lload 11, 2) := by decide +kernel
theorem d_Kernel_within_34 : decode b_Kernel_within 34 = .ok (.lload 4, 2) := by decide +kernel
theorem d_Kernel_within_36 : decode b_Kernel_within 36 = .ok (.lcmp, 1) := by decide +kernel
theorem d_Kernel_within_37 : decode b_Kernel_within 37 = .ok (.ifCond .lt 20, 3) := by decide +kernel
theorem d_Kernel_within_40 : decode b_Kernel_within 40 = .ok (.lload 11, 2) := by decide +kernel
theorem d_Kernel_within_42 : decode b_Kernel_within 42 = .ok (.lload 6, 2) := by decide +kernel
theorem d_Kernel_within_44 : decode b_Kernel_within 44 = .ok (.lcmp, 1) := by decide +kernel
theorem d_Kernel_within_45 : decode b_Kernel_within 45 = .ok (.ifCond .gt 12, 3) := by decide +kernel
theorem d_Kernel_within_48 : decode b_Kernel_within 48 = .ok (.lload 8, 2) := by decide +kernel
theorem d_Kernel_within_50 : decode b_Kernel_within 50 = .ok (.lconst 1, 1) := by decide +kernel
theorem d_Kernel_within_51 : decode b_Kernel_within 51 = .ok (.iload 10, 2) := by decide +kernel
theorem d_Kernel_within_53 : decode b_Kernel_within 53 = .ok (.lshl, 1) := by decide +kernel
theorem d_Kernel_within_54 : decode b_Kernel_within 54 = .ok (.lor, 1) := by decide +kernel
theorem d_Kernel_within_55 : decode b_Kernel_within 55 = .ok (.lstore 8, 2) := by decide +kernel
theorem d_Kernel_within_57 : decode b_Kernel_within 57 = .ok (.iinc 10 1, 3) := by decide +kernel
theorem d_Kernel_within_60 : decode b_Kernel_within 60 = .ok (.goto (-54), 3) := by decide +kernel
theorem d_Kernel_within_63 : decode b_Kernel_within 63 = .ok (.lload 8, 2) := by decide +kernel
theorem d_Kernel_within_65 : decode b_Kernel_within 65 = .ok (.lreturn, 1) := by decide +kernel
theorem d_Kernel_keepNothing_0 : decode b_Kernel_keepNothing 0 = .ok (.aload_n 0, 1) := by decide +kernel
theorem d_Kernel_keepNothing_1 : decode b_Kernel_keepNothing 1 = .ok (.getfield 19, 3) := by decide +kernel
theorem d_Kernel_keepNothing_4 : decode b_Kernel_keepNothing 4 = .ok (.lconst 0, 1) := by decide +kernel
theorem d_Kernel_keepNothing_5 : decode b_Kernel_keepNothing 5 = .ok (.invokestatic 66, 3) := by decide +kernel
theorem d_Kernel_keepNothing_8 : decode b_Kernel_keepNothing 8 = .ok (.return_, 1) := by decide +kernel
theorem d_Kernel_keepUnlike_0 : decode b_Kernel_keepUnlike 0 = .ok (.aload_n 0, 1) := by decide +kernel
theorem d_Kernel_keepUnlike_1 : decode b_Kernel_keepUnlike 1 = .ok (.getfield 25, 3) := by decide +kernel
theorem d_Kernel_keepUnlike_4 : decode b_Kernel_keepUnlike 4 = .ok (.aload_n 0, 1) := by decide +kernel
theorem d_Kernel_keepUnlike_5 : decode b_Kernel_keepUnlike 5 = .ok (.getfield 15, 3) := by decide +kernel
theorem d_Kernel_keepUnlike_8 : decode b_Kernel_keepUnlike 8 = .ok (.iload_n 1, 1) := by decide +kernel
theorem d_Kernel_keepUnlike_9 : decode b_Kernel_keepUnlike 9 = .ok (.invokevirtual 72, 3) := by decide +kernel
theorem d_Kernel_keepUnlike_12 : decode b_Kernel_keepUnlike 12 = .ok (.ifCond .ne 8, 3) := by decide +kernel
theorem d_Kernel_keepUnlike_15 : decode b_Kernel_keepUnlike 15 = .ok (.aload_n 0, 1) := by decide +kernel
theorem d_Kernel_keepUnlike_16 : decode b_Kernel_keepUnlike 16 = .ok (.invokevirtual 76, 3) := by decide +kernel
theorem d_Kernel_keepUnlike_19 : decode b_Kernel_keepUnlike 19 = .ok (.return_, 1) := by decide +kernel
theorem d_Kernel_keepUnlike_20 : decode b_Kernel_keepUnlike 20 = .ok (.aload_n 0, 1) := by decide +kernel
theorem d_Kernel_keepUnlike_21 : decode b_Kernel_keepUnlike 21 = .ok (.getfield 25, 3) := by decide +kernel
theorem d_Kernel_keepUnlike_24 : decode b_Kernel_keepUnlike 24 = .ok (.aload_n 0, 1) := by decide +kernel
theorem d_Kernel_keepUnlike_25 : decode b_Kernel_keepUnlike 25 = .ok (.getfield 15, 3) := by decide +kernel
theorem d_Kernel_keepUnlike_28 : decode b_Kernel_keepUnlike 28 = .ok (.iload_n 1, 1) := by decide +kernel
theorem d_Kernel_keepUnlike_29 : decode b_Kernel_keepUnlike 29 = .ok (.invokevirtual 79, 3) := by decide +kernel
theorem d_Kernel_keepUnlike_32 : decode b_Kernel_keepUnlike 32 = .ok (.iconst 0, 1) := by decide +kernel
theorem d_Kernel_keepUnlike_33 : decode b_Kernel_keepUnlike 33 = .ok (.istore_n 2, 1) := by decide +kernel
theorem d_Kernel_keepUnlike_34 : decode b_Kernel_keepUnlike 34 = .ok (.iload_n 2, 1) := by decide +kernel
theorem d_Kernel_keepUnlike_35 : decode b_Kernel_keepUnlike 35 = .ok (.iload_n 1, 1) := by decide +kernel
theorem d_Kernel_keepUnlike_36 : decode b_Kernel_keepUnlike 36 = .ok (.if_icmp .ge 30, 3) := by decide +kernel
theorem d_Kernel_keepUnlike_39 : decode b_Kernel_keepUnlike 39 = .ok (.aload_n 0, 1) := by decide +kernel
theorem d_Kernel_keepUnlike_40 : decode b_Kernel_keepUnlike 40 = .ok (.getfield 19, 3) := by decide +kernel
theorem d_Kernel_keepUnlike_43 : decode b_Kernel_keepUnlike 43 = .ok (.iload_n 2, 1) := by decide +kernel
theorem d_Kernel_keepUnlike_44 : decode b_Kernel_keepUnlike 44 = .ok (.aload_n 0, 1) := by decide +kernel
theorem d_Kernel_keepUnlike_45 : decode b_Kernel_keepUnlike 45 = .ok (.getfield 25, 3) := by decide +kernel
theorem d_Kernel_keepUnlike_48 : decode b_Kernel_keepUnlike 48 = .ok (.aload_n 0, 1) := by decide +kernel
theorem d_Kernel_keepUnlike_49 : decode b_Kernel_keepUnlike 49 = .ok (.getfield 15, 3) := by decide +kernel
theorem d_Kernel_keepUnlike_52 : decode b_Kernel_keepUnlike 52 = .ok (.iload_n 2, 1) := by decide +kernel
theorem d_Kernel_keepUnlike_53 : decode b_Kernel_keepUnlike 53 = .ok (.laload, 1) := by decide +kernel
theorem d_Kernel_keepUnlike_54 : decode b_Kernel_keepUnlike 54 = .ok (.iload_n 2, 1) := by decide +kernel
theorem d_Kernel_keepUnlike_55 : decode b_Kernel_keepUnlike 55 = .ok (.iload_n 1, 1) := by decide +kernel
theorem d_Kernel_keepUnlike_56 : decode b_Kernel_keepUnlike 56 = .ok (.invokevirtual 83, 3) := by decide +kernel
theorem d_Kernel_keepUnlike_59 : decode b_Kernel_keepUnlike 59 = .ok (.lastore, 1) := by decide +kernel
theorem d_Kernel_keepUnlike_60 : decode b_Kernel_keepUnlike 60 = .ok (.iinc 2 1, 3) := by decide +kernel
theorem d_Kernel_keepUnlike_63 : decode b_Kernel_keepUnlike 63 = .ok (.goto (-29), 3) := by decide +kernel
theorem d_Kernel_keepUnlike_66 : decode b_Kernel_keepUnlike 66 = .ok (.return_, 1) := by decide +kernel
theorem d_Kernel_keepEqual_0 : decode b_Kernel_keepEqual 0 = .ok (.ldc2_w 87, 3) := by decide +kernel
theorem d_Kernel_keepEqual_3 : decode b_Kernel_keepEqual 3 = .ok (.lstore_n 2, 1) := by decide +kernel
theorem d_Kernel_keepEqual_4 : decode b_Kernel_keepEqual 4 = .ok (.iconst 0, 1) := by decide +kernel
theorem d_Kernel_keepEqual_5 : decode b_Kernel_keepEqual 5 = .ok (.istore 4, 2) := by decide +kernel
theorem d_Kernel_keepEqual_7 : decode b_Kernel_keepEqual 7 = .ok (.iload 4, 2) := by decide +kernel
theorem d_Kernel_keepEqual_9 : decode b_Kernel_keepEqual 9 = .ok (.iload_n 1, 1) := by decide +kernel
theorem d_Kernel_keepEqual_10 : decode b_Kernel_keepEqual 10 = .ok (.if_icmp .ge 19, 3) := by decide +kernel
theorem d_Kernel_keepEqual_13 : decode b_Kernel_keepEqual 13 = .ok (.lload_n 2, 1) := by decide +kernel
theorem d_Kernel_keepEqual_14 : decode b_Kernel_keepEqual 14 = .ok (.aload_n 0, 1) := by decide +kernel
theorem d_Kernel_keepEqual_15 : decode b_Kernel_keepEqual 15 = .ok (.getfield 15, 3) := by decide +kernel
theorem d_Kernel_keepEqual_18 : decode b_Kernel_keepEqual 18 = .ok (.iload 4, 2) := by decide +kernel
theorem d_Kernel_keepEqual_20 : decode b_Kernel_keepEqual 20 = .ok (.laload, 1) := by decide +kernel
theorem d_Kernel_keepEqual_21 : decode b_Kernel_keepEqual 21 = .ok (.land, 1) := by decide +kernel
theorem d_Kernel_keepEqual_22 : decode b_Kernel_keepEqual 22 = .ok (.lstore_n 2, 1) := by decide +kernel
theorem d_Kernel_keepEqual_23 : decode b_Kernel_keepEqual 23 = .ok (.iinc 4 1, 3) := by decide +kernel
theorem d_Kernel_keepEqual_26 : decode b_Kernel_keepEqual 26 = .ok (.goto (-19), 3) := by decide +kernel
theorem d_Kernel_keepEqual_29 : decode b_Kernel_keepEqual 29 = .ok (.aload_n 0, 1) := by decide +kernel
theorem d_Kernel_keepEqual_30 : decode b_Kernel_keepEqual 30 = .ok (.getfield 19, 3) := by decide +kernel
theorem d_Kernel_keepEqual_33 : decode b_Kernel_keepEqual 33 = .ok (.lload_n 2, 1) := by decide +kernel
theorem d_Kernel_keepEqual_34 : decode b_Kernel_keepEqual 34 = .ok (.invokestatic 66, 3) := by decide +kernel
theorem d_Kernel_keepEqual_37 : decode b_Kernel_keepEqual 37 = .ok (.return_, 1) := by decide +kernel
theorem d_Kernel_keepSum_0 : decode b_Kernel_keepSum 0 = .ok (.lconst 0, 1) := by decide +kernel
theorem d_Kernel_keepSum_1 : decode b_Kernel_keepSum 1 = .ok (.lstore_n 2, 1) := by decide +kernel
theorem d_Kernel_keepSum_2 : decode b_Kernel_keepSum 2 = .ok (.lconst 0, 1) := by decide +kernel
theorem d_Kernel_keepSum_3 : decode b_Kernel_keepSum 3 = .ok (.lstore 4, 2) := by decide +kernel
theorem d_Kernel_keepSum_5 : decode b_Kernel_keepSum 5 = .ok (.iconst 0, 1) := by decide +kernel
theorem d_Kernel_keepSum_6 : decode b_Kernel_keepSum 6 = .ok (.istore 6, 2) := by decide +kernel
theorem d_Kernel_keepSum_8 : decode b_Kernel_keepSum 8 = .ok (.iload 6, 2) := by decide +kernel
theorem d_Kernel_keepSum_10 : decode b_Kernel_keepSum 10 = .ok (.aload_n 1, 1) := by decide +kernel
theorem d_Kernel_keepSum_11 : decode b_Kernel_keepSum 11 = .ok (.getfield 35, 3) := by decide +kernel
theorem d_Kernel_keepSum_14 : decode b_Kernel_keepSum 14 = .ok (.if_icmp .ge 51, 3) := by decide +kernel
theorem d_Kernel_keepSum_17 : decode b_Kernel_keepSum 17 = .ok (.lload_n 2, 1) := by decide +kernel
theorem d_Kernel_keepSum_18 : decode b_Kernel_keepSum 18 = .ok (.aload_n 1, 1) := by decide +kernel
theorem d_Kernel_keepSum_19 : decode b_Kernel_keepSum 19 = .ok (.getfield 89, 3) := by decide +kernel
theorem d_Kernel_keepSum_22 : decode b_Kernel_keepSum 22 = .ok (.iload 6, 2) := by decide +kernel
theorem d_Kernel_keepSum_24 : decode b_Kernel_keepSum 24 = .ok (.iaload, 1) := by decide +kernel
theorem d_Kernel_keepSum_25 : decode b_Kernel_keepSum 25 = .ok (.aload_n 0, 1) := by decide +kernel
theorem d_Kernel_keepSum_26 : decode b_Kernel_keepSum 26 = .ok (.getfield 15, 3) := by decide +kernel
theorem d_Kernel_keepSum_29 : decode b_Kernel_keepSum 29 = .ok (.iload 6, 2) := by decide +kernel
theorem d_Kernel_keepSum_31 : decode b_Kernel_keepSum 31 = .ok (.laload, 1) := by decide +kernel
theorem d_Kernel_keepSum_32 : decode b_Kernel_keepSum 32 = .ok (.invokestatic 93, 3) := by decide +kernel
theorem d_Kernel_keepSum_35 : decode b_Kernel_keepSum 35 = .ok (.ladd, 1) := by decide +kernel
theorem d_Kernel_keepSum_36 : decode b_Kernel_keepSum 36 = .ok (.lstore_n 2, 1) := by decide +kernel
theorem d_Kernel_keepSum_37 : decode b_Kernel_keepSum 37 = .ok (.lload 4, 2) := by decide +kernel
theorem d_Kernel_keepSum_39 : decode b_Kernel_keepSum 39 = .ok (.aload_n 1, 1) := by decide +kernel
theorem d_Kernel_keepSum_40 : decode b_Kernel_keepSum 40 = .ok (.getfield 89, 3) := by decide +kernel
theorem d_Kernel_keepSum_43 : decode b_Kernel_keepSum 43 = .ok (.iload 6, 2) := by decide +kernel
theorem d_Kernel_keepSum_45 : decode b_Kernel_keepSum 45 = .ok (.iaload, 1) := by decide +kernel
theorem d_Kernel_keepSum_46 : decode b_Kernel_keepSum 46 = .ok (.aload_n 0, 1) := by decide +kernel
theorem d_Kernel_keepSum_47 : decode b_Kernel_keepSum 47 = .ok (.getfield 15, 3) := by decide +kernel
theorem d_Kernel_keepSum_50 : decode b_Kernel_keepSum 50 = .ok (.iload 6, 2) := by decide +kernel
theorem d_Kernel_keepSum_52 : decode b_Kernel_keepSum 52 = .ok (.laload, 1) := by decide +kernel
theorem d_Kernel_keepSum_53 : decode b_Kernel_keepSum 53 = .ok (.invokestatic 97, 3) := by decide +kernel
theorem d_Kernel_keepSum_56 : decode b_Kernel_keepSum 56 = .ok (.ladd, 1) := by decide +kernel
theorem d_Kernel_keepSum_57 : decode b_Kernel_keepSum 57 = .ok (.lstore 4, 2) := by decide +kernel
theorem d_Kernel_keepSum_59 : decode b_Kernel_keepSum 59 = .ok (.iinc 6 1, 3) := by decide +kernel
theorem d_Kernel_keepSum_62 : decode b_Kernel_keepSum 62 = .ok (.goto (-54), 3) := by decide +kernel
theorem d_Kernel_keepSum_65 : decode b_Kernel_keepSum 65 = .ok (.iconst 0, 1) := by decide +kernel
theorem d_Kernel_keepSum_66 : decode b_Kernel_keepSum 66 = .ok (.istore 6, 2) := by decide +kernel
theorem d_Kernel_keepSum_68 : decode b_Kernel_keepSum 68 = .ok (.iload 6, 2) := by decide +kernel
theorem d_Kernel_keepSum_70 : decode b_Kernel_keepSum 70 = .ok (.aload_n 1, 1) := by decide +kernel
theorem d_Kernel_keepSum_71 : decode b_Kernel_keepSum 71 = .ok (.getfield 35, 3) := by decide +kernel
theorem d_Kernel_keepSum_74 : decode b_Kernel_keepSum 74 = .ok (.if_icmp .ge 122, 3) := by decide +kernel
theorem d_Kernel_keepSum_77 : decode b_Kernel_keepSum 77 = .ok (.aload_n 1, 1) := by decide +kernel
theorem d_Kernel_keepSum_78 : decode b_Kernel_keepSum 78 = .ok (.getfield 89, 3) := by decide +kernel
theorem d_Kernel_keepSum_81 : decode b_Kernel_keepSum 81 = .ok (.iload 6, 2) := by decide +kernel
theorem d_Kernel_keepSum_83 : decode b_Kernel_keepSum 83 = .ok (.iaload, 1) := by decide +kernel
theorem d_Kernel_keepSum_84 : decode b_Kernel_keepSum 84 = .ok (.istore 7, 2) := by decide +kernel
theorem d_Kernel_keepSum_86 : decode b_Kernel_keepSum 86 = .ok (.iload 7, 2) := by decide +kernel
theorem d_Kernel_keepSum_88 : decode b_Kernel_keepSum 88 = .ok (.aload_n 0, 1) := by decide +kernel
theorem d_Kernel_keepSum_89 : decode b_Kernel_keepSum 89 = .ok (.getfield 15, 3) := by decide +kernel
theorem d_Kernel_keepSum_92 : decode b_Kernel_keepSum 92 = .ok (.iload 6, 2) := by decide +kernel
theorem d_Kernel_keepSum_94 : decode b_Kernel_keepSum 94 = .ok (.laload, 1) := by decide +kernel
theorem d_Kernel_keepSum_95 : decode b_Kernel_keepSum 95 = .ok (.invokestatic 93, 3) := by decide +kernel
theorem d_Kernel_keepSum_98 : decode b_Kernel_keepSum 98 = .ok (.lstore 8, 2) := by decide +kernel
theorem d_Kernel_keepSum_100 : decode b_Kernel_keepSum 100 = .ok (.iload 7, 2) := by decide +kernel
theorem d_Kernel_keepSum_102 : decode b_Kernel_keepSum 102 = .ok (.aload_n 0, 1) := by decide +kernel
theorem d_Kernel_keepSum_103 : decode b_Kernel_keepSum 103 = .ok (.getfield 15, 3) := by decide +kernel
theorem d_Kernel_keepSum_106 : decode b_Kernel_keepSum 106 = .ok (.iload 6, 2) := by decide +kernel
theorem d_Kernel_keepSum_108 : decode b_Kernel_keepSum 108 = .ok (.laload, 1) := by decide +kernel
theorem d_Kernel_keepSum_109 : decode b_Kernel_keepSum 109 = .ok (.invokestatic 97, 3) := by decide +kernel
theorem d_Kernel_keepSum_112 : decode b_Kernel_keepSum 112 = .ok (.lstore 10, 2) := by decide +kernel
theorem d_Kernel_keepSum_114 : decode b_Kernel_keepSum 114 = .ok (.aload_n 1, 1) := by decide +kernel
theorem d_Kernel_keepSum_115 : decode b_Kernel_keepSum 115 = .ok (.getfield 100, 3) := by decide +kernel
theorem d_Kernel_keepSum_118 : decode b_Kernel_keepSum 118 = .ok (.lload_n 2, 1) := by decide +kernel
theorem d_Kernel_keepSum_119 : decode b_Kernel_keepSum 119 = .ok (.lload 8, 2) := by decide +kernel
theorem d_Kernel_keepSum_121 : decode b_Kernel_keepSum 121 = .ok (.lsub, 1) := by decide +kernel
theorem d_Kernel_keepSum_122 : decode b_Kernel_keepSum 122 = .ok (.lsub, 1) := by decide +kernel
theorem d_Kernel_keepSum_123 : decode b_Kernel_keepSum 123 = .ok (.lstore 12, 2) := by decide +kernel
theorem d_Kernel_keepSum_125 : decode b_Kernel_keepSum 125 = .ok (.aload_n 1, 1) := by decide +kernel
theorem d_Kernel_keepSum_126 : decode b_Kernel_keepSum 126 = .ok (.getfield 40, 3) := by decide +kernel
theorem d_Kernel_keepSum_129 : decode b_Kernel_keepSum 129 = .ok (.iconst 2, 1) := by decide +kernel
theorem d_Kernel_keepSum_130 : decode b_Kernel_keepSum 130 = .ok (.if_icmp .ne 16, 3) := by decide +kernel
theorem d_Kernel_keepSum_133 : decode b_Kernel_keepSum 133 = .ok (.aload_n 1, 1) := by decide +kernel
theorem d_Kernel_keepSum_134 : decode b_Kernel_keepSum 134 = .ok (.getfield 100, 3) := by decide +kernel
theorem d_Kernel_keepSum_137 : decode b_Kernel_keepSum 137 = .ok (.lload 4, 2) := by decide +kernel
theorem d_Kernel_keepSum_139 : decode b_Kernel_keepSum 139 = .ok (.lload 10, 2) := by decide +kernel
theorem d_Kernel_keepSum_141 : decode b_Kernel_keepSum 141 = .ok (.lsub, 1) := by decide +kernel
theorem d_Kernel_keepSum_142 : decode b_Kernel_keepSum 142 = .ok (.lsub, 1) := by decide +kernel
theorem d_Kernel_keepSum_143 : decode b_Kernel_keepSum 143 = .ok (.goto 5, 3) := by decide +kernel
theorem d_Kernel_keepSum_146 : decode b_Kernel_keepSum 146 = .ok (.lload 8, 2) := by decide +kernel
theorem d_Kernel_keepSum_148 : decode b_Kernel_keepSum 148 = .ok (.lstore 14, 2) := by decide +kernel
theorem d_Kernel_keepSum_150 : decode b_Kernel_keepSum 150 = .ok (.lload 8, 2) := by decide +kernel
theorem d_Kernel_keepSum_152 : decode b_Kernel_keepSum 152 = .ok (.lload 14, 2) := by decide +kernel
theorem d_Kernel_keepSum_154 : decode b_Kernel_keepSum 154 = .ok (.lcmp, 1) := by decide +kernel
theorem d_Kernel_keepSum_155 : decode b_Kernel_keepSum 155 = .ok (.ifCond .lt 11, 3) := by decide +kernel
theorem d_Kernel_keepSum_158 : decode b_Kernel_keepSum 158 = .ok (.lload 10, 2) := by decide +kernel
theorem d_Kernel_keepSum_160 : decode b_Kernel_keepSum 160 = .ok (.lload 12, 2) := by decide +kernel
theorem d_Kernel_keepSum_162 : decode b_Kernel_keepSum 162 = .ok (.lcmp, 1) := by decide +kernel
theorem d_Kernel_keepSum_163 : decode b_Kernel_keepSum 163 = .ok (.ifCond .le 27, 3) := by decide +kernel
theorem d_Kernel_keepSum_166 : decode b_Kernel_keepSum 166 = .ok (.aload_n 0, 1) := by decide +kernel
theorem d_Kernel_keepSum_167 : decode b_Kernel_keepSum 167 = .ok (.getfield 19, 3) := by decide +kernel
theorem d_Kernel_keepSum_170 : decode b_Kernel_keepSum 170 = .ok (.iload 6, 2) := by decide +kernel
theorem d_Kernel_keepSum_172 : decode b_Kernel_keepSum 172 = .ok (.aload_n 0, 1) := by decide +kernel
theorem d_Kernel_keepSum_173 : decode b_Kernel_keepSum 173 = .ok (.aload_n 0, 1) := by decide +kernel
theorem d_Kernel_keepSum_174 : decode b_Kernel_keepSum 174 = .ok (.getfield 15, 3) := by decide +kernel
theorem d_Kernel_keepSum_177 : decode b_Kernel_keepSum 177 = .ok (.iload 6, 2) := by decide +kernel
theorem d_Kernel_keepSum_179 : decode b_Kernel_keepSum 179 = .ok (.laload, 1) := by decide +kernel
theorem d_Kernel_keepSum_180 : decode b_Kernel_keepSum 180 = .ok (.iload 7, 2) := by decide +kernel
theorem d_Kernel_keepSum_182 : decode b_Kernel_keepSum 182 = .ok (.lload 14, 2) := by decide +kernel
theorem d_Kernel_keepSum_184 : decode b_Kernel_keepSum 184 = .ok (.lload 12, 2) := by decide +kernel
theorem d_Kernel_keepSum_186 : decode b_Kernel_keepSum 186 = .ok (.invokevirtual 104, 3) := by decide +kernel
theorem d_Kernel_keepSum_189 : decode b_Kernel_keepSum 189 = .ok (.lastore, 1) := by decide +kernel
theorem d_Kernel_keepSum_190 : decode b_Kernel_keepSum 190 = .ok (.iinc 6 1, 3) := by decide +kernel
theorem d_Kernel_keepSum_193 : decode b_Kernel_keepSum 193 = .ok (.goto (-125), 3) := by decide +kernel
theorem d_Kernel_keepSum_196 : decode b_Kernel_keepSum 196 = .ok (.return_, 1) := by decide +kernel
theorem d_Kernel_keepCount_0 : decode b_Kernel_keepCount 0 = .ok (.iconst 0, 1) := by decide +kernel
theorem d_Kernel_keepCount_1 : decode b_Kernel_keepCount 1 = .ok (.istore_n 2, 1) := by decide +kernel
theorem d_Kernel_keepCount_2 : decode b_Kernel_keepCount 2 = .ok (.iconst 0, 1) := by decide +kernel
theorem d_Kernel_keepCount_3 : decode b_Kernel_keepCount 3 = .ok (.istore_n 3, 1) := by decide +kernel
theorem d_Kernel_keepCount_4 : decode b_Kernel_keepCount 4 = .ok (.iconst 0, 1) := by decide +kernel
theorem d_Kernel_keepCount_5 : decode b_Kernel_keepCount 5 = .ok (.istore 4, 2) := by decide +kernel
theorem d_Kernel_keepCount_7 : decode b_Kernel_keepCount 7 = .ok (.iload 4, 2) := by decide +kernel
theorem d_Kernel_keepCount_9 : decode b_Kernel_keepCount 9 = .ok (.aload_n 1, 1) := by decide +kernel
theorem d_Kernel_keepCount_10 : decode b_Kernel_keepCount 10 = .ok (.getfield 35, 3) := by decide +kernel
theorem d_Kernel_keepCount_13 : decode b_Kernel_keepCount 13 = .ok (.if_icmp .ge 61, 3) := by decide +kernel
theorem d_Kernel_keepCount_16 : decode b_Kernel_keepCount 16 = .ok (.aload_n 0, 1) := by decide +kernel
theorem d_Kernel_keepCount_17 : decode b_Kernel_keepCount 17 = .ok (.getfield 15, 3) := by decide +kernel
theorem d_Kernel_keepCount_20 : decode b_Kernel_keepCount 20 = .ok (.iload 4, 2) := by decide +kernel
theorem d_Kernel_keepCount_22 : decode b_Kernel_keepCount 22 = .ok (.laload, 1) := by decide +kernel
theorem d_Kernel_keepCount_23 : decode b_Kernel_keepCount 23 = .ok (.aload_n 0, 1) := by decide +kernel
theorem d_Kernel_keepCount_24 : decode b_Kernel_keepCount 24 = .ok (.aload_n 1, 1) := by decide +kernel
theorem d_Kernel_keepCount_25 : decode b_Kernel_keepCount 25 = .ok (.getfield 89, 3) := by decide +kernel
theorem d_Kernel_keepCount_28 : decode b_Kernel_keepCount 28 = .ok (.iload 4, 2) := by decide +kernel
theorem d_Kernel_keepCount_30 : decode b_Kernel_keepCount 30 = .ok (.iaload, 1) := by decide +kernel
theorem d_Kernel_keepCount_31 : decode b_Kernel_keepCount 31 = .ok (.invokevirtual 119, 3) := by decide +kernel
theorem d_Kernel_keepCount_34 : decode b_Kernel_keepCount 34 = .ok (.land, 1) := by decide +kernel
theorem d_Kernel_keepCount_35 : decode b_Kernel_keepCount 35 = .ok (.lstore 5, 2) := by decide +kernel
theorem d_Kernel_keepCount_37 : decode b_Kernel_keepCount 37 = .ok (.lload 5, 2) := by decide +kernel
theorem d_Kernel_keepCount_39 : decode b_Kernel_keepCount 39 = .ok (.lconst 0, 1) := by decide +kernel
theorem d_Kernel_keepCount_40 : decode b_Kernel_keepCount 40 = .ok (.lcmp, 1) := by decide +kernel
theorem d_Kernel_keepCount_41 : decode b_Kernel_keepCount 41 = .ok (.ifCond .eq 27, 3) := by decide +kernel
theorem d_Kernel_keepCount_44 : decode b_Kernel_keepCount 44 = .ok (.iinc 2 1, 3) := by decide +kernel
theorem d_Kernel_keepCount_47 : decode b_Kernel_keepCount 47 = .ok (.iload_n 3, 1) := by decide +kernel
theorem d_Kernel_keepCount_48 : decode b_Kernel_keepCount 48 = .ok (.aload_n 0, 1) := by decide +kernel
theorem d_Kernel_keepCount_49 : decode b_Kernel_keepCount 49 = .ok (.getfield 15, 3) := by decide +kernel
theorem d_Kernel_keepCount_52 : decode b_Kernel_keepCount 52 = .ok (.iload 4, 2) := by decide +kernel
theorem d_Kernel_keepCount_54 : decode b_Kernel_keepCount 54 = .ok (.laload, 1) := by decide +kernel
theorem d_Kernel_keepCount_55 : decode b_Kernel_keepCount 55 = .ok (.lload 5, 2) := by decide +kernel
theorem d_Kernel_keepCount_57 : decode b_Kernel_keepCount 57 = .ok (.lcmp, 1) := by decide +kernel
theorem d_Kernel_keepCount_58 : decode b_Kernel_keepCount 58 = .ok (.ifCond .ne 7, 3) := by decide +kernel
theorem d_Kernel_keepCount_61 : decode b_Kernel_keepCount 61 = .ok (.iconst 1, 1) := by decide +kernel
theorem d_Kernel_keepCount_62 : decode b_Kernel_keepCount 62 = .ok (.goto 4, 3) := by decide +kernel
theorem d_Kernel_keepCount_65 : decode b_Kernel_keepCount 65 = .ok (.iconst 0, 1) := by decide +kernel
theorem d_Kernel_keepCount_66 : decode b_Kernel_keepCount 66 = .ok (.iadd, 1) := by decide +kernel
theorem d_Kernel_keepCount_67 : decode b_Kernel_keepCount 67 = .ok (.istore_n 3, 1) := by decide +kernel
theorem d_Kernel_keepCount_68 : decode b_Kernel_keepCount 68 = .ok (.iinc 4 1, 3) := by decide +kernel
theorem d_Kernel_keepCount_71 : decode b_Kernel_keepCount 71 = .ok (.goto (-64), 3) := by decide +kernel
theorem d_Kernel_keepCount_74 : decode b_Kernel_keepCount 74 = .ok (.iload_n 2, 1) := by decide +kernel
theorem d_Kernel_keepCount_75 : decode b_Kernel_keepCount 75 = .ok (.i2l, 1) := by decide +kernel
theorem d_Kernel_keepCount_76 : decode b_Kernel_keepCount 76 = .ok (.aload_n 1, 1) := by decide +kernel
theorem d_Kernel_keepCount_77 : decode b_Kernel_keepCount 77 = .ok (.getfield 100, 3) := by decide +kernel
theorem d_Kernel_keepCount_80 : decode b_Kernel_keepCount 80 = .ok (.lcmp, 1) := by decide +kernel
theorem d_Kernel_keepCount_81 : decode b_Kernel_keepCount 81 = .ok (.ifCond .lt 13, 3) := by decide +kernel
theorem d_Kernel_keepCount_84 : decode b_Kernel_keepCount 84 = .ok (.iload_n 3, 1) := by decide +kernel
theorem d_Kernel_keepCount_85 : decode b_Kernel_keepCount 85 = .ok (.i2l, 1) := by decide +kernel
theorem d_Kernel_keepCount_86 : decode b_Kernel_keepCount 86 = .ok (.aload_n 1, 1) := by decide +kernel
theorem d_Kernel_keepCount_87 : decode b_Kernel_keepCount 87 = .ok (.getfield 100, 3) := by decide +kernel
theorem d_Kernel_keepCount_90 : decode b_Kernel_keepCount 90 = .ok (.lcmp, 1) := by decide +kernel
theorem d_Kernel_keepCount_91 : decode b_Kernel_keepCount 91 = .ok (.ifCond .le 8, 3) := by decide +kernel
theorem d_Kernel_keepCount_94 : decode b_Kernel_keepCount 94 = .ok (.aload_n 0, 1) := by decide +kernel
theorem d_Kernel_keepCount_95 : decode b_Kernel_keepCount 95 = .ok (.invokevirtual 76, 3) := by decide +kernel
theorem d_Kernel_keepCount_98 : decode b_Kernel_keepCount 98 = .ok (.return_, 1) := by decide +kernel
theorem d_Kernel_keepCount_99 : decode b_Kernel_keepCount 99 = .ok (.iconst 0, 1) := by decide +kernel
theorem d_Kernel_keepCount_100 : decode b_Kernel_keepCount 100 = .ok (.istore 4, 2) := by decide +kernel
theorem d_Kernel_keepCount_102 : decode b_Kernel_keepCount 102 = .ok (.iload 4, 2) := by decide +kernel
theorem d_Kernel_keepCount_104 : decode b_Kernel_keepCount 104 = .ok (.aload_n 1, 1) := by decide +kernel
theorem d_Kernel_keepCount_105 : decode b_Kernel_keepCount 105 = .ok (.getfield 35, 3) := by decide +kernel
theorem d_Kernel_keepCount_108 : decode b_Kernel_keepCount 108 = .ok (.if_icmp .ge 103, 3) := by decide +kernel
theorem d_Kernel_keepCount_111 : decode b_Kernel_keepCount 111 = .ok (.aload_n 0, 1) := by decide +kernel
theorem d_Kernel_keepCount_112 : decode b_Kernel_keepCount 112 = .ok (.getfield 15, 3) := by decide +kernel
theorem d_Kernel_keepCount_115 : decode b_Kernel_keepCount 115 = .ok (.iload 4, 2) := by decide +kernel
theorem d_Kernel_keepCount_117 : decode b_Kernel_keepCount 117 = .ok (.laload, 1) := by decide +kernel
theorem d_Kernel_keepCount_118 : decode b_Kernel_keepCount 118 = .ok (.aload_n 0, 1) := by decide +kernel
theorem d_Kernel_keepCount_119 : decode b_Kernel_keepCount 119 = .ok (.aload_n 1, 1) := by decide +kernel
theorem d_Kernel_keepCount_120 : decode b_Kernel_keepCount 120 = .ok (.getfield 89, 3) := by decide +kernel
theorem d_Kernel_keepCount_123 : decode b_Kernel_keepCount 123 = .ok (.iload 4, 2) := by decide +kernel
theorem d_Kernel_keepCount_125 : decode b_Kernel_keepCount 125 = .ok (.iaload, 1) := by decide +kernel
theorem d_Kernel_keepCount_126 : decode b_Kernel_keepCount 126 = .ok (.invokevirtual 119, 3) := by decide +kernel
theorem d_Kernel_keepCount_129 : decode b_Kernel_keepCount 129 = .ok (.land, 1) := by decide +kernel
theorem d_Kernel_keepCount_130 : decode b_Kernel_keepCount 130 = .ok (.lstore 5, 2) := by decide +kernel
theorem d_Kernel_keepCount_132 : decode b_Kernel_keepCount 132 = .ok (.lload 5, 2) := by decide +kernel
theorem d_Kernel_keepCount_134 : decode b_Kernel_keepCount 134 = .ok (.lconst 0, 1) := by decide +kernel
theorem d_Kernel_keepCount_135 : decode b_Kernel_keepCount 135 = .ok (.lcmp, 1) := by decide +kernel
theorem d_Kernel_keepCount_136 : decode b_Kernel_keepCount 136 = .ok (.ifCond .eq 25, 3) := by decide +kernel
theorem d_Kernel_keepCount_139 : decode b_Kernel_keepCount 139 = .ok (.iload_n 2, 1) := by decide +kernel
theorem d_Kernel_keepCount_140 : decode b_Kernel_keepCount 140 = .ok (.i2l, 1) := by decide +kernel
theorem d_Kernel_keepCount_141 : decode b_Kernel_keepCount 141 = .ok (.aload_n 1, 1) := by decide +kernel
theorem d_Kernel_keepCount_142 : decode b_Kernel_keepCount 142 = .ok (.getfield 100, 3) := by decide +kernel
theorem d_Kernel_keepCount_145 : decode b_Kernel_keepCount 145 = .ok (.lcmp, 1) := by decide +kernel
theorem d_Kernel_keepCount_146 : decode b_Kernel_keepCount 146 = .ok (.ifCond .ne 15, 3) := by decide +kernel
theorem d_Kernel_keepCount_149 : decode b_Kernel_keepCount 149 = .ok (.aload_n 0, 1) := by decide +kernel
theorem d_Kernel_keepCount_150 : decode b_Kernel_keepCount 150 = .ok (.getfield 19, 3) := by decide +kernel
theorem d_Kernel_keepCount_153 : decode b_Kernel_keepCount 153 = .ok (.iload 4, 2) := by decide +kernel
theorem d_Kernel_keepCount_155 : decode b_Kernel_keepCount 155 = .ok (.lload 5, 2) := by decide +kernel
theorem d_Kernel_keepCount_157 : decode b_Kernel_keepCount 157 = .ok (.lastore, 1) := by decide +kernel
theorem d_Kernel_keepCount_158 : decode b_Kernel_keepCount 158 = .ok (.goto 47, 3) := by decide +kernel
theorem d_Kernel_keepCount_161 : decode b_Kernel_keepCount 161 = .ok (.aload_n 0, 1) := by decide +kernel
theorem d_Kernel_keepCount_162 : decode b_Kernel_keepCount 162 = .ok (.getfield 15, 3) := by decide +kernel
theorem d_Kernel_keepCount_165 : decode b_Kernel_keepCount 165 = .ok (.iload 4, 2) := by decide +kernel
theorem d_Kernel_keepCount_167 : decode b_Kernel_keepCount 167 = .ok (.laload, 1) := by decide +kernel
theorem d_Kernel_keepCount_168 : decode b_Kernel_keepCount 168 = .ok (.lload 5, 2) := by decide +kernel
theorem d_Kernel_keepCount_170 : decode b_Kernel_keepCount 170 = .ok (.lcmp, 1) := by decide +kernel
theorem d_Kernel_keepCount_171 : decode b_Kernel_keepCount 171 = .ok (.ifCond .eq 34, 3) := by decide +kernel
theorem d_Kernel_keepCount_174 : decode b_Kernel_keepCount 174 = .ok (.iload_n 3, 1) := by decide +kernel
theorem d_Kernel_keepCount_175 : decode b_Kernel_keepCount 175 = .ok (.i2l, 1) := by decide +kernel
theorem d_Kernel_keepCount_176 : decode b_Kernel_keepCount 176 = .ok (.aload_n 1, 1) := by decide +kernel
theorem d_Kernel_keepCount_177 : decode b_Kernel_keepCount 177 = .ok (.getfield 100, 3) := by decide +kernel
theorem d_Kernel_keepCount_180 : decode b_Kernel_keepCount 180 = .ok (.lcmp, 1) := by decide +kernel
theorem d_Kernel_keepCount_181 : decode b_Kernel_keepCount 181 = .ok (.ifCond .ne 24, 3) := by decide +kernel
theorem d_Kernel_keepCount_184 : decode b_Kernel_keepCount 184 = .ok (.aload_n 0, 1) := by decide +kernel
theorem d_Kernel_keepCount_185 : decode b_Kernel_keepCount 185 = .ok (.getfield 19, 3) := by decide +kernel
theorem d_Kernel_keepCount_188 : decode b_Kernel_keepCount 188 = .ok (.iload 4, 2) := by decide +kernel
theorem d_Kernel_keepCount_190 : decode b_Kernel_keepCount 190 = .ok (.aload_n 0, 1) := by decide +kernel
theorem d_Kernel_keepCount_191 : decode b_Kernel_keepCount 191 = .ok (.getfield 15, 3) := by decide +kernel
theorem d_Kernel_keepCount_194 : decode b_Kernel_keepCount 194 = .ok (.iload 4, 2) := by decide +kernel
theorem d_Kernel_keepCount_196 : decode b_Kernel_keepCount 196 = .ok (.laload, 1) := by decide +kernel
theorem d_Kernel_keepCount_197 : decode b_Kernel_keepCount 197 = .ok (.lload 5, 2) := by decide +kernel
theorem d_Kernel_keepCount_199 : decode b_Kernel_keepCount 199 = .ok (.ldc2_w 87, 3) := by decide +kernel
theorem d_Kernel_keepCount_202 : decode b_Kernel_keepCount 202 = .ok (.lxor, 1) := by decide +kernel
theorem d_Kernel_keepCount_203 : decode b_Kernel_keepCount 203 = .ok (.land, 1) := by decide +kernel
theorem d_Kernel_keepCount_204 : decode b_Kernel_keepCount 204 = .ok (.lastore, 1) := by decide +kernel
theorem d_Kernel_keepCount_205 : decode b_Kernel_keepCount 205 = .ok (.iinc 4 1, 3) := by decide +kernel
theorem d_Kernel_keepCount_208 : decode b_Kernel_keepCount 208 = .ok (.goto (-106), 3) := by decide +kernel
theorem d_Kernel_keepCount_211 : decode b_Kernel_keepCount 211 = .ok (.return_, 1) := by decide +kernel
