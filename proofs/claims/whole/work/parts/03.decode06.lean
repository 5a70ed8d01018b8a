theorem d_Mo_equal_0 : decode b_Mo_equal 0 = .ok (.ldc2_w 130, 3) := by decide +kernel
theorem d_Mo_equal_3 : decode b_Mo_equal 3 = .ok (.lstore_n 2, 1) := by decide +kernel
theorem d_Mo_equal_4 : decode b_Mo_equal 4 = .ok (.iconst 0, 1) := by decide +kernel
theorem d_Mo_equal_5 : decode b_Mo_equal 5 = .ok (.istore 4, 2) := by decide +kernel
theorem d_Mo_equal_7 : decode b_Mo_equal 7 = .ok (.iload 4, 2) := by decide +kernel
theorem d_Mo_equal_9 : decode b_Mo_equal 9 = .ok (.iload_n 1, 1) := by decide +kernel
theorem d_Mo_equal_10 : decode b_Mo_equal 10 = .ok (.if_icmp .ge 19, 3) := by decide +kernel
theorem d_Mo_equal_13 : decode b_Mo_equal 13 = .ok (.lload_n 2, 1) := by decide +kernel
theorem d_Mo_equal_14 : decode b_Mo_equal 14 = .ok (.aload_n 0, 1) := by decide +kernel
theorem d_Mo_equal_15 : decode b_Mo_equal 15 = .ok (.getfield 67, 3) := by decide +kernel
theorem d_Mo_equal_18 : decode b_Mo_equal 18 = .ok (.iload 4, 2) := by decide +kernel
theorem d_Mo_equal_20 : decode b_Mo_equal 20 = .ok (.laload, 1) := by decide +kernel
theorem d_Mo_equal_21 : decode b_Mo_equal 21 = .ok (.land, 1) := by decide +kernel
theorem d_Mo_equal_22 : decode b_Mo_equal 22 = .ok (.lstore_n 2, 1) := by decide +kernel
theorem d_Mo_equal_23 : decode b_Mo_equal 23 = .ok (.iinc 4 1, 3) := by decide +kernel
theorem d_Mo_equal_26 : decode b_Mo_equal 26 = .ok (.goto (-19), 3) := by decide +kernel
theorem d_Mo_equal_29 : decode b_Mo_equal 29 = .ok (.iconst 0, 1) := by decide +kernel
theorem d_Mo_equal_30 : decode b_Mo_equal 30 = .ok (.istore 4, 2) := by decide +kernel
theorem d_Mo_equal_32 : decode b_Mo_equal 32 = .ok (.iload 4, 2) := by decide +kernel
theorem d_Mo_equal_34 : decode b_Mo_equal 34 = .ok (.iload_n 1, 1) := by decide +kernel
theorem d_Mo_equal_35 : decode b_Mo_equal 35 = .ok (.if_icmp .ge 29, 3) := by decide +kernel
theorem d_Mo_equal_38 : decode b_Mo_equal 38 = .ok (.aload_n 0, 1) := by decide +kernel
theorem d_Mo_equal_39 : decode b_Mo_equal 39 = .ok (.getfield 70, 3) := by decide +kernel
theorem d_Mo_equal_42 : decode b_Mo_equal 42 = .ok (.iload 4, 2) := by decide +kernel
theorem d_Mo_equal_44 : decode b_Mo_equal 44 = .ok (.aload_n 0, 1) := by decide +kernel
theorem d_Mo_equal_45 : decode b_Mo_equal 45 = .ok (.getfield 67, 3) := by decide +kernel
theorem d_Mo_equal_48 : decode b_Mo_equal 48 = .ok (.iload 4, 2) := by decide +kernel
theorem d_Mo_equal_50 : decode b_Mo_equal 50 = .ok (.laload, 1) := by decide +kernel
theorem d_Mo_equal_51 : decode b_Mo_equal 51 = .ok (.lload_n 2, 1) := by decide +kernel
theorem d_Mo_equal_52 : decode b_Mo_equal 52 = .ok (.ldc2_w 130, 3) := by decide +kernel
theorem d_Mo_equal_55 : decode b_Mo_equal 55 = .ok (.lxor, 1) := by decide +kernel
theorem d_Mo_equal_56 : decode b_Mo_equal 56 = .ok (.land, 1) := by decide +kernel
theorem d_Mo_equal_57 : decode b_Mo_equal 57 = .ok (.lastore, 1) := by decide +kernel
theorem d_Mo_equal_58 : decode b_Mo_equal 58 = .ok (.iinc 4 1, 3) := by decide +kernel
theorem d_Mo_equal_61 : decode b_Mo_equal 61 = .ok (.goto (-29), 3) := by decide +kernel
theorem d_Mo_equal_64 : decode b_Mo_equal 64 = .ok (.return_, 1) := by decide +kernel
theorem d_Mo_bound_0 : decode b_Mo_bound 0 = .ok (.lconst 0, 1) := by decide +kernel
theorem d_Mo_bound_1 : decode b_Mo_bound 1 = .ok (.lstore 4, 2) := by decide +kernel
theorem d_Mo_bound_3 : decode b_Mo_bound 3 = .ok (.iconst 0, 1) := by decide +kernel
theorem d_Mo_bound_4 : decode b_Mo_bound 4 = .ok (.istore 6, 2) := by decide +kernel
theorem d_Mo_bound_6 : decode b_Mo_bound 6 = .ok (.iconst 0, 1) := by decide +kernel
theorem d_Mo_bound_7 : decode b_Mo_bound 7 = .ok (.istore 7, 2) := by decide +kernel
theorem d_Mo_bound_9 : decode b_Mo_bound 9 = .ok (.iload 7, 2) := by decide +kernel
theorem d_Mo_bound_11 : decode b_Mo_bound 11 = .ok (.aload_n 0, 1) := by decide +kernel
theorem d_Mo_bound_12 : decode b_Mo_bound 12 = .ok (.getfield 81, 3) := by decide +kernel
theorem d_Mo_bound_15 : decode b_Mo_bound 15 = .ok (.if_icmp .ge 73, 3) := by decide +kernel
theorem d_Mo_bound_18 : decode b_Mo_bound 18 = .ok (.aload_n 0, 1) := by decide +kernel
theorem d_Mo_bound_19 : decode b_Mo_bound 19 = .ok (.iload_n 1, 1) := by decide +kernel
theorem d_Mo_bound_20 : decode b_Mo_bound 20 = .ok (.iload_n 2, 1) := by decide +kernel
theorem d_Mo_bound_21 : decode b_Mo_bound 21 = .ok (.invokevirtual 144, 3) := by decide +kernel
theorem d_Mo_bound_24 : decode b_Mo_bound 24 = .ok (.iload 7, 2) := by decide +kernel
theorem d_Mo_bound_26 : decode b_Mo_bound 26 = .ok (.i2l, 1) := by decide +kernel
theorem d_Mo_bound_27 : decode b_Mo_bound 27 = .ok (.lmul, 1) := by decide +kernel
theorem d_Mo_bound_28 : decode b_Mo_bound 28 = .ok (.lstore 8, 2) := by decide +kernel
theorem d_Mo_bound_30 : decode b_Mo_bound 30 = .ok (.aload_n 0, 1) := by decide +kernel
theorem d_Mo_bound_31 : decode b_Mo_bound 31 = .ok (.getfield 67, 3) := by decide +kernel
theorem d_Mo_bound_34 : decode b_Mo_bound 34 = .ok (.iload_n 2, 1) := by decide +kernel
theorem d_Mo_bound_35 : decode b_Mo_bound 35 = .ok (.laload, 1) := by decide +kernel
theorem d_Mo_bound_36 : decode b_Mo_bound 36 = .ok (.iload 7, 2) := by decide +kernel
theorem d_Mo_bound_38 : decode b_Mo_bound 38 = .ok (.invokestatic 90, 3) := by decide +kernel
theorem d_Mo_bound_41 : decode b_Mo_bound 41 = .ok (.ifCond .eq 41, 3) := by decide +kernel
theorem d_Mo_bound_44 : decode b_Mo_bound 44 = .ok (.iload 6, 2) := by decide +kernel
theorem d_Mo_bound_46 : decode b_Mo_bound 46 = .ok (.ifCond .eq 29, 3) := by decide +kernel
theorem d_Mo_bound_49 : decode b_Mo_bound 49 = .ok (.iload_n 3, 1) := by decide +kernel
theorem d_Mo_bound_50 : decode b_Mo_bound 50 = .ok (.ifCond .eq 14, 3) := by decide +kernel
theorem d_Mo_bound_53 : decode b_Mo_bound 53 = .ok (.lload 8, 2) := by decide +kernel
theorem d_Mo_bound_55 : decode b_Mo_bound 55 = .ok (.lload 4, 2) := by decide +kernel
theorem d_Mo_bound_57 : decode b_Mo_bound 57 = .ok (.lcmp, 1) := by decide +kernel
theorem d_Mo_bound_58 : decode b_Mo_bound 58 = .ok (.ifCond .lt 17, 3) := by decide +kernel
theorem d_Mo_bound_61 : decode b_Mo_bound 61 = .ok (.goto 21, 3) := by decide +kernel
theorem d_Mo_bound_64 : decode b_Mo_bound 64 = .ok (.lload 8, 2) := by decide +kernel
theorem d_Mo_bound_66 : decode b_Mo_bound 66 = .ok (.lload 4, 2) := by decide +kernel
theorem d_Mo_bound_68 : decode b_Mo_bound 68 = .ok (.lcmp, 1) := by decide +kernel
theorem d_Mo_bound_69 : decode b_Mo_bound 69 = .ok (.ifCond .gt 6, 3) := by decide +kernel
theorem d_Mo_bound_72 : decode b_Mo_bound 72 = .ok (.goto 10, 3) := by decide +kernel
theorem d_Mo_bound_75 : decode b_Mo_bound 75 = .ok (.lload 8, 2) := by decide +kernel
theorem d_Mo_bound_77 : decode b_Mo_bound 77 = .ok (.lstore 4, 2) := by decide +kernel
theorem d_Mo_bound_79 : decode b_Mo_bound 79 = .ok (.iconst 1, 1) := by decide +kernel
theorem d_Mo_bound_80 : decode b_Mo_bound 80 = .ok (.istore 6, 2) := by decide +kernel
theorem d_Mo_bound_82 : decode b_Mo_bound 82 = .ok (.iinc 7 1, 3) := by decide +kernel
theorem d_Mo_bound_85 : decode b_Mo_bound 85 = .ok (.goto (-76), 3) := by decide +kernel
theorem d_Mo_bound_88 : decode b_Mo_bound 88 = .ok (.lload 4, 2) := by decide +kernel
theorem d_Mo_bound_90 : decode b_Mo_bound 90 = .ok (.lreturn, 1) := by decide +kernel
theorem d_Mo_sum_0 : decode b_Mo_sum 0 = .ok (.iconst 0, 1) := by decide +kernel
theorem d_Mo_sum_1 : decode b_Mo_sum 1 = .ok (.istore 4, 2) := by decide +kernel
theorem d_Mo_sum_3 : decode b_Mo_sum 3 = .ok (.iload 4, 2) := by decide +kernel
theorem d_Mo_sum_5 : decode b_Mo_sum 5 = .ok (.iload_n 2, 1) := by decide +kernel
theorem d_Mo_sum_6 : decode b_Mo_sum 6 = .ok (.if_icmp .ge 177, 3) := by decide +kernel
theorem d_Mo_sum_9 : decode b_Mo_sum 9 = .ok (.lconst 0, 1) := by decide +kernel
theorem d_Mo_sum_10 : decode b_Mo_sum 10 = .ok (.lstore 5, 2) := by decide +kernel
theorem d_Mo_sum_12 : decode b_Mo_sum 12 = .ok (.lconst 0, 1) := by decide +kernel
theorem d_Mo_sum_13 : decode b_Mo_sum 13 = .ok (.lstore 7, 2) := by decide +kernel
theorem d_Mo_sum_15 : decode b_Mo_sum 15 = .ok (.iconst 0, 1) := by decide +kernel
theorem d_Mo_sum_16 : decode b_Mo_sum 16 = .ok (.istore 9, 2) := by decide +kernel
theorem d_Mo_sum_18 : decode b_Mo_sum 18 = .ok (.iload 9, 2) := by decide +kernel
theorem d_Mo_sum_20 : decode b_Mo_sum 20 = .ok (.iload_n 2, 1) := by decide +kernel
theorem d_Mo_sum_21 : decode b_Mo_sum 21 = .ok (.if_icmp .ge 57, 3) := by decide +kernel
theorem d_Mo_sum_24 : decode b_Mo_sum 24 = .ok (.lload 5, 2) := by decide +kernel
theorem d_Mo_sum_26 : decode b_Mo_sum 26 = .ok (.iload 9, 2) := by decide +kernel
theorem d_Mo_sum_28 : decode b_Mo_sum 28 = .ok (.iload 4, 2) := by decide +kernel
theorem d_Mo_sum_30 : decode b_Mo_sum 30 = .ok (.if_icmp .ne 7, 3) := by decide +kernel
theorem d_Mo_sum_33 : decode b_Mo_sum 33 = .ok (.lconst 0, 1) := by decide +kernel
theorem d_Mo_sum_34 : decode b_Mo_sum 34 = .ok (.goto 11, 3) := by decide +kernel
theorem d_Mo_sum_37 : decode b_Mo_sum 37 = .ok (.aload_n 0, 1) := by decide +kernel
theorem d_Mo_sum_38 : decode b_Mo_sum 38 = .ok (.iload_n 1, 1) := by decide +kernel
theorem d_Mo_sum_39 : decode b_Mo_sum 39 = .ok (.iload 9, 2) := by decide +kernel
theorem d_Mo_sum_41 : decode b_Mo_sum 41 = .ok (.iconst 1, 1) := by decide +kernel
theorem d_Mo_sum_42 : decode b_Mo_sum 42 = .ok (.invokevirtual 148, 3) := by decide +kernel
theorem d_Mo_sum_45 : decode b_Mo_sum 45 = .ok (.ladd, 1) := by decide +kernel
theorem d_Mo_sum_46 : decode b_Mo_sum 46 = .ok (.lstore 5, 2) := by decide +kernel
theorem d_Mo_sum_48 : decode b_Mo_sum 48 = .ok (.lload 7, 2) := by decide +kernel
theorem d_Mo_sum_50 : decode b_Mo_sum 50 = .ok (.iload 9, 2) := by decide +kernel
theorem d_Mo_sum_52 : decode b_Mo_sum 52 = .ok (.iload 4, 2) := by decide +kernel
theorem d_Mo_sum_54 : decode b_Mo_sum 54 = .ok (.if_icmp .ne 7, 3) := by decide +kernel
theorem d_Mo_sum_57 : decode b_Mo_sum 57 = .ok (.lconst 0, 1) := by decide +kernel
theorem d_Mo_sum_58 : decode b_Mo_sum 58 = .ok (.goto 11, 3) := by decide +kernel
theorem d_Mo_sum_61 : decode b_Mo_sum 61 = .ok (.aload_n 0, 1) := by decide +kernel
theorem d_Mo_sum_62 : decode b_Mo_sum 62 = .ok (.iload_n 1, 1) := by decide +kernel
theorem d_Mo_sum_63 : decode b_Mo_sum 63 = .ok (.iload 9, 2) := by decide +kernel
theorem d_Mo_sum_65 : decode b_Mo_sum 65 = .ok (.iconst 0, 1) := by decide +kernel
theorem d_Mo_sum_66 : decode b_Mo_sum 66 = .ok (.invokevirtual 148, 3) := by decide +kernel
theorem d_Mo_sum_69 : decode b_Mo_sum 69 = .ok (.ladd, 1) := by decide +kernel
theorem d_Mo_sum_70 : decode b_Mo_sum 70 = .ok (.lstore 7, 2) := by decide +kernel
theorem d_Mo_sum_72 : decode b_Mo_sum 72 = .ok (.iinc 9 1, 3) := by decide +kernel
theorem d_Mo_sum_75 : decode b_Mo_sum 75 = .ok (.goto (-57), 3) := by decide +kernel
theorem d_Mo_sum_78 : decode b_Mo_sum 78 = .ok (.iconst 0, 1) := by decide +kernel
theorem d_Mo_sum_79 : decode b_Mo_sum 79 = .ok (.istore 9, 2) := by decide +kernel
theorem d_Mo_sum_81 : decode b_Mo_sum 81 = .ok (.iload 9, 2) := by decide +kernel
theorem d_Mo_sum_83 : decode b_Mo_sum 83 = .ok (.aload_n 0, 1) := by decide +kernel
theorem d_Mo_sum_84 : decode b_Mo_sum 84 = .ok (.getfield 81, 3) := by decide +kernel
theorem d_Mo_sum_87 : decode b_Mo_sum 87 = .ok (.if_icmp .ge 90, 3) := by decide +kernel
theorem d_Mo_sum_90 : decode b_Mo_sum 90 = .ok (.aload_n 0, 1) := by decide +kernel
theorem d_Mo_sum_91 : decode b_Mo_sum 91 = .ok (.iload_n 1, 1) := by decide +kernel
theorem d_Mo_sum_92 : decode b_Mo_sum 92 = .ok (.iload 4, 2) := by decide +kernel
theorem d_Mo_sum_94 : decode b_Mo_sum 94 = .ok (.invokevirtual 144, 3) := by decide +kernel
theorem d_Mo_sum_97 : decode b_Mo_sum 97 = .ok (.iload 9, 2) := by decide +kernel
theorem d_Mo_sum_99 : decode b_Mo_sum 99 = .ok (.i2l, 1) := by decide +kernel
theorem d_Mo_sum_100 : decode b_Mo_sum 100 = .ok (.lmul, 1) := by decide +kernel
theorem d_Mo_sum_101 : decode b_Mo_sum 101 = .ok (.lstore 10, 2) := by decide +kernel
theorem d_Mo_sum_103 : decode b_Mo_sum 103 = .ok (.aload_n 0, 1) := by decide +kernel
theorem d_Mo_sum_104 : decode b_Mo_sum 104 = .ok (.getfield 67, 3) := by decide +kernel
theorem d_Mo_sum_107 : decode b_Mo_sum 107 = .ok (.iload 4, 2) := by decide +kernel
theorem d_Mo_sum_109 : decode b_Mo_sum 109 = .ok (.laload, 1) := by decide +kernel
theorem d_Mo_sum_110 : decode b_Mo_sum 110 = .ok (.iload 9, 2) := by decide +kernel
theorem d_Mo_sum_112 : decode b_Mo_sum 112 = .ok (.invokestatic 90, 3) := by decide +kernel
theorem d_Mo_sum_115 : decode b_Mo_sum 115 = .ok (.ifCond .eq 56, 3) := by decide +kernel
theorem d_Mo_sum_118 : decode b_Mo_sum 118 = .ok (.lload 10, 2) := by decide +kernel
theorem d_Mo_sum_120 : decode b_Mo_sum 120 = .ok (.lload 5, 2) := by decide +kernel
theorem d_Mo_sum_122 : decode b_Mo_sum 122 = .ok (.ladd, 1) := by decide +kernel
theorem d_Mo_sum_123 : decode b_Mo_sum 123 = .ok (.aload_n 0, 1) := by decide +kernel
theorem d_Mo_sum_124 : decode b_Mo_sum 124 = .ok (.getfield 20, 3) := by decide +kernel
theorem d_Mo_sum_127 : decode b_Mo_sum 127 = .ok (.iload_n 1, 1) := by decide +kernel
theorem d_Mo_sum_128 : decode b_Mo_sum 128 = .ok (.laload, 1) := by decide +kernel
theorem d_Mo_sum_129 : decode b_Mo_sum 129 = .ok (.lcmp, 1) := by decide +kernel
theorem d_Mo_sum_130 : decode b_Mo_sum 130 = .ok (.ifCond .gt 22, 3) := by decide +kernel
theorem d_Mo_sum_133 : decode b_Mo_sum 133 = .ok (.iload_n 3, 1) := by decide +kernel
theorem d_Mo_sum_134 : decode b_Mo_sum 134 = .ok (.ifCond .eq 37, 3) := by decide +kernel
theorem d_Mo_sum_137 : decode b_Mo_sum 137 = .ok (.lload 10, 2) := by decide +kernel
theorem d_Mo_sum_139 : decode b_Mo_sum 139 = .ok (.lload 7, 2) := by decide +kernel
theorem d_Mo_sum_141 : decode b_Mo_sum 141 = .ok (.ladd, 1) := by decide +kernel
theorem d_Mo_sum_142 : decode b_Mo_sum 142 = .ok (.aload_n 0, 1) := by decide +kernel
theorem d_Mo_sum_143 : decode b_Mo_sum 143 = .ok (.getfield 20, 3) := by decide +kernel
theorem d_Mo_sum_146 : decode b_Mo_sum 146 = .ok (.iload_n 1, 1) := by decide +kernel
theorem d_Mo_sum_147 : decode b_Mo_sum 147 = .ok (.laload, 1) := by decide +kernel
theorem d_Mo_sum_148 : decode b_Mo_sum 148 = .ok (.lcmp, 1) := by decide +kernel
theorem d_Mo_sum_149 : decode b_Mo_sum 149 = .ok (.ifCond .ge 22, 3) := by decide +kernel
theorem d_Mo_sum_152 : decode b_Mo_sum 152 = .ok (.aload_n 0, 1) := by decide +kernel
theorem d_Mo_sum_153 : decode b_Mo_sum 153 = .ok (.getfield 70, 3) := by decide +kernel
theorem d_Mo_sum_156 : decode b_Mo_sum 156 = .ok (.iload 4, 2) := by decide +kernel
theorem d_Mo_sum_158 : decode b_Mo_sum 158 = .ok (.aload_n 0, 1) := by decide +kernel
theorem d_Mo_sum_159 : decode b_Mo_sum 159 = .ok (.getfield 70, 3) := by decide +kernel
theorem d_Mo_sum_162 : decode b_Mo_sum 162 = .ok (.iload 4, 2) := by decide +kernel
theorem d_Mo_sum_164 : decode b_Mo_sum 164 = .ok (.laload, 1) := by decide +kernel
theorem d_Mo_sum_165 : decode b_Mo_sum 165 = .ok (.lconst 1, 1) := by decide +kernel
theorem d_Mo_sum_166 : decode b_Mo_sum 166 = .ok (.iload 9, 2) := by decide +kernel
theorem d_Mo_sum_168 : decode b_Mo_sum 168 = .ok (.lshl, 1) := by decide +kernel
theorem d_Mo_sum_169 : decode b_Mo_sum 169 = .ok (.lor, 1) := by decide +kernel
theorem d_Mo_sum_170 : decode b_Mo_sum 170 = .ok (.lastore, 1) := by decide +kernel
theorem d_Mo_sum_171 : decode b_Mo_sum 171 = .ok (.iinc 9 1, 3) := by decide +kernel
theorem d_Mo_sum_174 : decode b_Mo_sum 174 = .ok (.goto (-93), 3) := by decide +kernel
theorem d_Mo_sum_177 : decode b_Mo_sum 177 = .ok (.iinc 4 1, 3) := by decide +kernel
theorem d_Mo_sum_180 : decode b_Mo_sum 180 = .ok (.goto (-177), 3) := by decide +kernel
theorem d_Mo_sum_183 : decode b_Mo_sum 183 = .ok (.return_, 1) := by decide +kernel
theorem d_Mo_can_0 : decode b_Mo_can 0 = .ok (.aload_n 0, 1) := by decide +kernel
theorem d_Mo_can_1 : decode b_Mo_can 1 = .ok (.iload_n 1, 1) := by decide +kernel
theorem d_Mo_can_2 : decode b_Mo_can 2 = .ok (.iload_n 2, 1) := by decide +kernel
theorem d_Mo_can_3 : decode b_Mo_can 3 = .ok (.invokevirtual 144, 3) := by decide +kernel
theorem d_Mo_can_6 : decode b_Mo_can 6 = .ok (.lstore_n 3, 1) := by decide +kernel
theorem d_Mo_can_7 : decode b_Mo_can 7 = .ok (.lload_n 3, 1) := by decide +kernel
theorem d_Mo_can_8 : decode b_Mo_can 8 = .ok (.lconst 0, 1) := by decide +kernel
theorem d_Mo_can_9 : decode b_Mo_can 9 = .ok (.lcmp, 1) := by decide +kernel
theorem d_Mo_can_10 : decode b_Mo_can 10 = .ok (.ifCond .lt 31, 3) := by decide +kernel
theorem d_Mo_can_13 : decode b_Mo_can 13 = .ok (.lload_n 3, 1) := by decide +kernel
theorem d_Mo_can_14 : decode b_Mo_can 14 = .ok (.aload_n 0, 1) := by decide +kernel
theorem d_Mo_can_15 : decode b_Mo_can 15 = .ok (.getfield 81, 3) := by decide +kernel
theorem d_Mo_can_18 : decode b_Mo_can 18 = .ok (.i2l, 1) := by decide +kernel
theorem d_Mo_can_19 : decode b_Mo_can 19 = .ok (.lcmp, 1) := by decide +kernel
theorem d_Mo_can_20 : decode b_Mo_can 20 = .ok (.ifCond .ge 21, 3) := by decide +kernel
theorem d_Mo_can_23 : decode b_Mo_can 23 = .ok (.aload_n 0, 1) := by decide +kernel
theorem d_Mo_can_24 : decode b_Mo_can 24 = .ok (.getfield 67, 3) := by decide +kernel
theorem d_Mo_can_27 : decode b_Mo_can 27 = .ok (.iload_n 2, 1) := by decide +kernel
theorem d_Mo_can_28 : decode b_Mo_can 28 = .ok (.laload, 1) := by decide +kernel
theorem d_Mo_can_29 : decode b_Mo_can 29 = .ok (.lload_n 3, 1) := by decide +kernel
theorem d_Mo_can_30 : decode b_Mo_can 30 = .ok (.l2i, 1) := by decide +kernel
theorem d_Mo_can_31 : decode b_Mo_can 31 = .ok (.invokestatic 90, 3) := by decide +kernel
theorem d_Mo_can_34 : decode b_Mo_can 34 = .ok (.ifCond .eq 7, 3) := by decide +kernel
theorem d_Mo_can_37 : decode b_Mo_can 37 = .ok (.iconst 1, 1) := by decide +kernel
theorem d_Mo_can_38 : decode b_Mo_can 38 = .ok (.goto 4, 3) := by decide +kernel
theorem d_Mo_can_41 : decode b_Mo_can 41 = .ok (.iconst 0, 1) := by decide +kernel
theorem d_Mo_can_42 : decode b_Mo_can 42 = .ok (.ireturn, 1) := by decide +kernel
theorem d_Mo_must_0 : decode b_Mo_must 0 = .ok (.aload_n 0, 1) := by decide +kernel
theorem d_Mo_must_1 : decode b_Mo_must 1 = .ok (.iload_n 1, 1) := by decide +kernel
theorem d_Mo_must_2 : decode b_Mo_must 2 = .ok (.iload_n 2, 1) := by decide +kernel
theorem d_Mo_must_3 : decode b_Mo_must 3 = .ok (.invokevirtual 152, 3) := by decide +kernel
theorem d_Mo_must_6 : decode b_Mo_must 6 = .ok (.ifCond .eq 20, 3) := by decide +kernel
theorem d_Mo_must_9 : decode b_Mo_must 9 = .ok (.aload_n 0, 1) := by decide +kernel
theorem d_Mo_must_10 : decode b_Mo_must 10 = .ok (.getfield 67, 3) := by decide +kernel
theorem d_Mo_must_13 : decode b_Mo_must 13 = .ok (.iload_n 2, 1) := by decide +kernel
theorem d_Mo_must_14 : decode b_Mo_must 14 = .ok (.laload, 1) := by decide +kernel
theorem d_Mo_must_15 : decode b_Mo_must 15 = .ok (.invokestatic 140, 3) := by decide +kernel
theorem d_Mo_must_18 : decode b_Mo_must 18 = .ok (.iconst 1, 1) := by decide +kernel
theorem d_Mo_must_19 : decode b_Mo_must 19 = .ok (.if_icmp .ne 7, 3) := by decide +kernel
theorem d_Mo_must_22 : decode b_Mo_must 22 = .ok (.iconst 1, 1) := by decide +kernel
theorem d_Mo_must_23 : decode b_Mo_must 23 = .ok (.goto 4, 3) := by decide +kernel
theorem d_Mo_must_26 : decode b_Mo_must 26 = .ok (.iconst 0, 1) := by decide +kernel
theorem d_Mo_must_27 : decode b_Mo_must 27 = .ok (.ireturn, 1) := by decide +kernel
theorem d_Mo_count_0 : decode b_Mo_count 0 = .ok (.iconst 0, 1) := by decide +kernel
theorem d_Mo_count_1 : decode b_Mo_count 1 = .ok (.istore_n 3, 1) := by decide +kernel
theorem d_Mo_count_2 : decode b_Mo_count 2 = .ok (.iconst 0, 1) := by decide +kernel
theorem d_Mo_count_3 : decode b_Mo_count 3 = .ok (.istore 4, 2) := by decide +kernel
theorem d_Mo_count_5 : decode b_Mo_count 5 = .ok (.iconst 0, 1) := by decide +kernel
theorem d_Mo_count_6 : decode b_Mo_count 6 = .ok (.istore 5, 2) := by decide +kernel
theorem d_Mo_count_8 : decode b_Mo_count 8 = .ok (.iload 5, 2) := by decide +kernel
theorem d_Mo_count_10 : decode b_Mo_count 10 = .ok (.iload_n 2, 1) := by decide +kernel
theorem d_Mo_count_11 : decode b_Mo_count 11 = .ok (.if_icmp .ge 47, 3) := by decide +kernel
theorem d_Mo_count_14 : decode b_Mo_count 14 = .ok (.iload_n 3, 1) := by decide +kernel
theorem d_Mo_count_15 : decode b_Mo_count 15 = .ok (.aload_n 0, 1) := by decide +kernel
theorem d_Mo_count_16 : decode b_Mo_count 16 = .ok (.iload_n 1, 1) := by decide +kernel
theorem d_Mo_count_17 : decode b_Mo_count 17 = .ok (.iload 5, 2) := by decide +kernel
theorem d_Mo_count_19 : decode b_Mo_count 19 = .ok (.invokevirtual 152, 3) := by decide +kernel
theorem d_Mo_count_22 : decode b_Mo_count 22 = .ok (.ifCond .eq 7, 3) := by decide +kernel
theorem d_Mo_count_25 : decode b_Mo_count 25 = .ok (.iconst 1, 1) := by decide +kernel
theorem d_Mo_count_26 : decode b_Mo_count 26 = .ok (.goto 4, 3) := by decide +kernel
theorem d_Mo_count_29 : decode b_Mo_count 29 = .ok (.iconst 0, 1) := by decide +kernel
theorem d_Mo_count_30 : decode b_Mo_count 30 = .ok (.iadd, 1) := by decide +kernel
theorem d_Mo_count_31 : decode b_Mo_count 31 = .ok (.istore_n 3, 1) := by decide +kernel
theorem d_Mo_count_32 : decode b_Mo_count 32 = .ok (.iload 4, 2) := by decide +kernel
theorem d_Mo_count_34 : decode b_Mo_count 34 = .ok (.aload_n 0, 1) := by decide +kernel
theorem d_Mo_count_35 : decode b_Mo_count 35 = .ok (.iload_n 1, 1) := by decide +kernel
theorem d_Mo_count_36 : decode b_Mo_count 36 = .ok (.iload 5, 2) := by decide +kernel
theorem d_Mo_count_38 : decode b_Mo_count 38 = .ok (.invokevirtual 156, 3) := by decide +kernel
theorem d_Mo_count_41 : decode b_Mo_count 41 = .ok (.ifCond .eq 7, 3) := by decide +kernel
theorem d_Mo_count_44 : decode b_Mo_count 44 = .ok (.iconst 1, 1) := by decide +kernel
theorem d_Mo_count_45 : decode b_Mo_count 45 = .ok (.goto 4, 3) := by decide +kernel
theorem d_Mo_count_48 : decode b_Mo_count 48 = .ok (.iconst 0, 1) := by decide +kernel
theorem d_Mo_count_49 : decode b_Mo_count 49 = .ok (.iadd, 1) := by decide +kernel
theorem d_Mo_count_50 : decode b_Mo_count 50 = .ok (.istore 4, 2) := by decide +kernel
theorem d_Mo_count_52 : decode b_Mo_count 52 = .ok (.iinc 5 1, 3) := by decide +kernel
theorem d_Mo_count_55 : decode b_Mo_count 55 = .ok (.goto (-47), 3) := by decide +kernel
theorem d_Mo_count_58 : decode b_Mo_count 58 = .ok (.iconst 0, 1) := by decide +kernel
theorem d_Mo_count_59 : decode b_Mo_count 59 = .ok (.istore 5, 2) := by decide +kernel
theorem d_Mo_count_61 : decode b_Mo_count 61 = .ok (.iload 5, 2) := by decide +kernel
theorem d_Mo_count_63 : decode b_Mo_count 63 = .ok (.iload_n 2, 1) := by decide +kernel
theorem d_Mo_count_64 : decode b_Mo_count 64 = .ok (.if_icmp .ge 190, 3) := by decide +kernel
theorem d_Mo_count_67 : decode b_Mo_count 67 = .ok (.aload_n 0, 1) := by decide +kernel
theorem d_Mo_count_68 : decode b_Mo_count 68 = .ok (.iload_n 1, 1) := by decide +kernel
theorem d_Mo_count_69 : decode b_Mo_count 69 = .ok (.iload 5, 2) := by decide +kernel
theorem d_Mo_count_71 : decode b_Mo_count 71 = .ok (.invokevirtual 152, 3) := by decide +kernel
theorem d_Mo_count_74 : decode b_Mo_count 74 = .ok (.ifCond .eq 16, 3) := by decide +kernel
theorem d_Mo_count_77 : decode b_Mo_count 77 = .ok (.lconst 1, 1) := by decide +kernel
theorem d_Mo_count_78 : decode b_Mo_count 78 = .ok (.aload_n 0, 1) := by decide +kernel
theorem d_Mo_count_79 : decode b_Mo_count 79 = .ok (.iload_n 1, 1) := by decide +kernel
theorem d_Mo_count_80 : decode b_Mo_count 80 = .ok (.iload 5, 2) := by decide +kernel
theorem d_Mo_count_82 : decode b_Mo_count 82 = .ok (.invokevirtual 144, 3) := by decide +kernel
theorem d_Mo_count_85 : decode b_Mo_count 85 = .ok (.l2i, 1) := by decide +kernel
theorem d_Mo_count_86 : decode b_Mo_count 86 = .ok (.lshl, 1) := by decide +kernel
theorem d_Mo_count_87 : decode b_Mo_count 87 = .ok (.goto 4, 3) := by decide +kernel
theorem d_Mo_count_90 : decode b_Mo_count 90 = .ok (.lconst 0, 1) := by decide +kernel
theorem d_Mo_count_91 : decode b_Mo_count 91 = .ok (.lstore 6, 2) := by decide +kernel
theorem d_Mo_count_93 : decode b_Mo_count 93 = .ok (.iload_n 3, 1) := by decide +kernel
theorem d_Mo_count_94 : decode b_Mo_count 94 = .ok (.i2l, 1) := by decide +kernel
theorem d_Mo_count_95 : decode b_Mo_count 95 = .ok (.aload_n 0, 1) := by decide +kernel
theorem d_Mo_count_96 : decode b_Mo_count 96 = .ok (.getfield 20, 3) := by decide +kernel
theorem d_Mo_count_99 : decode b_Mo_count 99 = .ok (.iload_n 1, 1) := by decide +kernel
theorem d_Mo_count_100 : decode b_Mo_count 100 = .ok (.laload, 1) := by decide +kernel
theorem d_Mo_count_101 : decode b_Mo_count 101 = .ok (.lcmp, 1) := by decide +kernel
theorem d_Mo_count_102 : decode b_Mo_count 102 = .ok (.ifCond .lt 16, 3) := by decide +kernel
theorem d_Mo_count_105 : decode b_Mo_count 105 = .ok (.iload 4, 2) := by decide +kernel
theorem d_Mo_count_107 : decode b_Mo_count 107 = .ok (.i2l, 1) := by decide +kernel
theorem d_Mo_count_108 : decode b_Mo_count 108 = .ok (.aload_n 0, 1) := by decide +kernel
theorem d_Mo_count_109 : decode b_Mo_count 109 = .ok (.getfield 20, 3) := by decide +kernel
theorem d_Mo_count_112 : decode b_Mo_count 112 = .ok (.iload_n 1, 1) := by decide +kernel
theorem d_Mo_count_113 : decode b_Mo_count 113 = .ok (.laload, 1) := by decide +kernel
theorem d_Mo_count_114 : decode b_Mo_count 114 = .ok (.lcmp, 1) := by decide +kernel
theorem d_Mo_count_115 : decode b_Mo_count 115 = .ok (.ifCond .le 20, 3) := by decide +kernel
theorem d_Mo_count_118 : decode b_Mo_count 118 = .ok (.aload_n 0, 1) := by decide +kernel
theorem d_Mo_count_119 : decode b_Mo_count 119 = .ok (.getfield 70, 3) := by decide +kernel
theorem d_Mo_count_122 : decode b_Mo_count 122 = .ok (.iload 5, 2) := by decide +kernel
theorem d_Mo_count_124 : decode b_Mo_count 124 = .ok (.aload_n 0, 1) := by decide +kernel
theorem d_Mo_count_125 : decode b_Mo_count 125 = .ok (.getfield 67, 3) := by decide +kernel
theorem d_Mo_count_128 : decode b_Mo_count 128 = .ok (.iload 5, 2) := by decide +kernel
theorem d_Mo_count_130 : decode b_Mo_count 130 = .ok (.laload, 1) := by decide +kernel
theorem d_Mo_count_131 : decode b_Mo_count 131 = .ok (.lastore, 1) := by decide +kernel
theorem d_Mo_count_132 : decode b_Mo_count 132 = .ok (.goto 54, 3) := by decide +kernel
theorem d_Mo_count_135 : decode b_Mo_count 135 = .ok (.iload_n 3, 1) := by decide +kernel
theorem d_Mo_count_136 : decode b_Mo_count 136 = .ok (.i2l, 1) := by decide +kernel
theorem d_Mo_count_137 : decode b_Mo_count 137 = .ok (.aload_n 0, 1) := by decide +kernel
theorem d_Mo_count_138 : decode b_Mo_count 138 = .ok (.getfield 20, 3) := by decide +kernel
theorem d_Mo_count_141 : decode b_Mo_count 141 = .ok (.iload_n 1, 1) := by decide +kernel
theorem d_Mo_count_142 : decode b_Mo_count 142 = .ok (.laload, 1) := by decide +kernel
theorem d_Mo_count_143 : decode b_Mo_count 143 = .ok (.lcmp, 1) := by decide +kernel
theorem d_Mo_count_144 : decode b_Mo_count 144 = .ok (.ifCond .ne 42, 3) := by decide +kernel
theorem d_Mo_count_147 : decode b_Mo_count 147 = .ok (.aload_n 0, 1) := by decide +kernel
theorem d_Mo_count_148 : decode b_Mo_count 148 = .ok (.iload_n 1, 1) := by decide +kernel
theorem d_Mo_count_149 : decode b_Mo_count 149 = .ok (.iload 5, 2) := by decide +kernel
theorem d_Mo_count_151 : decode b_Mo_count 151 = .ok (.invokevirtual 152, 3) := by decide +kernel
theorem d_Mo_count_154 : decode b_Mo_count 154 = .ok (.ifCond .eq 32, 3) := by decide +kernel
theorem d_Mo_count_157 : decode b_Mo_count 157 = .ok (.aload_n 0, 1) := by decide +kernel
theorem d_Mo_count_158 : decode b_Mo_count 158 = .ok (.getfield 70, 3) := by decide +kernel
theorem d_Mo_count_161 : decode b_Mo_count 161 = .ok (.iload 5, 2) := by decide +kernel
theorem d_Mo_count_163 : decode b_Mo_count 163 = .ok (.aload_n 0, 1) := by decide +kernel
theorem d_Mo_count_164 : decode b_Mo_count 164 = .ok (.getfield 70, 3) := by decide +kernel
theorem d_Mo_count_167 : decode b_Mo_count 167 = .ok (.iload 5, 2) := by decide +kernel
theorem d_Mo_count_169 : decode b_Mo_count 169 = .ok (.laload, 1) := by decide +kernel
theorem d_Mo_count_170 : decode b_Mo_count 170 = .ok (.aload_n 0, 1) := by decide +kernel
theorem d_Mo_count_171 : decode b_Mo_count 171 = .ok (.getfield 67, 3) := by decide +kernel
theorem d_Mo_count_174 : decode b_Mo_count 174 = .ok (.iload 5, 2) := by decide +kernel
theorem d_Mo_count_176 : decode b_Mo_count 176 = .ok (.laload, 1) := by decide +kernel
theorem d_Mo_count_177 : decode b_Mo_count 177 = .ok (.lload 6, 2) := by decide +kernel
theorem d_Mo_count_179 : decode b_Mo_count 179 = .ok (.ldc2_w 130, 3) := by decide +kernel
theorem d_Mo_count_182 : decode b_Mo_count 182 = .ok (.lxor, 1) := by decide +kernel
theorem d_Mo_count_183 : decode b_Mo_count 183 = .ok (.land, 1) := by decide +kernel
theorem d_Mo_count_184 : decode b_Mo_count 184 = .ok (.lor, 1) := by decide +kernel
theorem d_Mo_count_185 : decode b_Mo_count 185 = .ok (.lastore, 1) := by decide +kernel
theorem d_Mo_count_186 : decode b_Mo_count 186 = .ok (.iload_n 3, 1) := by decide +kernel
theorem d_Mo_count_187 : decode b_Mo_count 187 = .ok (.i2l, 1) := by decide +kernel
theorem d_Mo_count_188 : decode b_Mo_count 188 = .ok (.aload_n 0, 1) := by decide +kernel
theorem d_Mo_count_189 : decode b_Mo_count 189 = .ok (.getfield 20, 3) := by decide +kernel
theorem d_Mo_count_192 : decode b_Mo_count 192 = .ok (.iload_n 1, 1) := by decide +kernel
theorem d_Mo_count_193 : decode b_Mo_count 193 = .ok (.laload, 1) := by decide +kernel
theorem d_Mo_count_194 : decode b_Mo_count 194 = .ok (.lcmp, 1) := by decide +kernel
theorem d_Mo_count_195 : decode b_Mo_count 195 = .ok (.ifCond .lt 53, 3) := by decide +kernel
theorem d_Mo_count_198 : decode b_Mo_count 198 = .ok (.iload 4, 2) := by decide +kernel
theorem d_Mo_count_200 : decode b_Mo_count 200 = .ok (.i2l, 1) := by decide +kernel
theorem d_Mo_count_201 : decode b_Mo_count 201 = .ok (.aload_n 0, 1) := by decide +kernel
theorem d_Mo_count_202 : decode b_Mo_count 202 = .ok (.getfield 20, 3) := by decide +kernel
theorem d_Mo_count_205 : decode b_Mo_count 205 = .ok (.iload_n 1, 1) := by decide +kernel
theorem d_Mo_count_206 : decode b_Mo_count 206 = .ok (.laload, 1) := by decide +kernel
theorem d_Mo_count_207 : decode b_Mo_count 207 = .ok (.lcmp, 1) := by decide +kernel
theorem d_Mo_count_208 : decode b_Mo_count 208 = .ok (.ifCond .ne 40, 3) := by decide +kernel
theorem d_Mo_count_211 : decode b_Mo_count 211 = .ok (.aload_n 0, 1) := by decide +kernel
theorem d_Mo_count_212 : decode b_Mo_count 212 = .ok (.iload_n 1, 1) := by decide +kernel
theorem d_Mo_count_213 : decode b_Mo_count 213 = .ok (.iload 5, 2) := by decide +kernel
theorem d_Mo_count_215 : decode b_Mo_count 215 = .ok (.invokevirtual 152, 3) := by decide +kernel
theorem d_Mo_count_218 : decode b_Mo_count 218 = .ok (.ifCond .eq 30, 3) := by decide +kernel
theorem d_Mo_count_221 : decode b_Mo_count 221 = .ok (.aload_n 0, 1) := by decide +kernel
theorem d_Mo_count_222 : decode b_Mo_count 222 = .ok (.iload_n 1, 1) := by decide +kernel
theorem d_Mo_count_223 : decode b_Mo_count 223 = .ok (.iload 5, 2) := by decide +kernel
theorem d_Mo_count_225 : decode b_Mo_count 225 = .ok (.invokevirtual 156, 3) := by decide +kernel
theorem d_Mo_count_228 : decode b_Mo_count 228 = .ok (.ifCond .ne 20, 3) := by decide +kernel
theorem d_Mo_count_231 : decode b_Mo_count 231 = .ok (.aload_n 0, 1) := by decide +kernel
theorem d_Mo_count_232 : decode b_Mo_count 232 = .ok (.getfield 70, 3) := by decide +kernel
theorem d_Mo_count_235 : decode b_Mo_count 235 = .ok (.iload 5, 2) := by decide +kernel
theorem d_Mo_count_237 : decode b_Mo_count 237 = .ok (.aload_n 0, 1) := by decide +kernel
theorem d_Mo_count_238 : decode b_Mo_count 238 = .ok (.getfield 70, 3) := by decide +kernel
theorem d_Mo_count_241 : decode b_Mo_count 241 = .ok (.iload 5, 2) := by decide +kernel
theorem d_Mo_count_243 : decode b_Mo_count 243 = .ok (.laload, 1) := by decide +kernel
theorem d_Mo_count_244 : decode b_Mo_count 244 = .ok (.lload 6, 2) := by decide +kernel
theorem d_Mo_count_246 : decode b_Mo_count 246 = .ok (.lor, 1) := by decide +kernel
theorem d_Mo_count_247 : decode b_Mo_count 247 = .ok (.lastore, 1) := by decide +kernel
theorem d_Mo_count_248 : decode b_Mo_count 248 = .ok (.iinc 5 1, 3) := by decide +kernel
theorem d_Mo_count_251 : decode b_Mo_count 251 = .ok (.goto (-190), 3) := by decide +kernel
theorem d_Mo_count_254 : decode b_Mo_count 254 = .ok (.return_, 1) := by decide +kernel
theorem d_Mo_rising_0 : decode b_Mo_rising 0 = .ok (.iconst (-1), 1) := by decide +kernel
theorem d_Mo_rising_1 : decode b_Mo_rising 1 = .ok (.istore_n 2, 1) := by decide +kernel
theorem d_Mo_rising_2 : decode b_Mo_rising 2 = .ok (.iconst 0, 1) := by decide +kernel
theorem d_Mo_rising_3 : decode b_Mo_rising 3 = .ok (.istore_n 3, 1) := by decide +kernel
theorem d_Mo_rising_4 : decode b_Mo_rising 4 = .ok (.iload_n 3, 1) := by decide +kernel
theorem d_Mo_rising_5 : decode b_Mo_rising 5 = .ok (.iload_n 1, 1) := by decide +kernel
theorem d_Mo_rising_6 : decode b_Mo_rising 6 = .ok (.if_icmp .ge 109, 3) := by decide +kernel
theorem d_Mo_rising_9 : decode b_Mo_rising 9 = .ok (.iconst 0, 1) := by decide +kernel
theorem d_Mo_rising_10 : decode b_Mo_rising 10 = .ok (.istore 4, 2) := by decide +kernel
theorem d_Mo_rising_12 : decode b_Mo_rising 12 = .ok (.iload 4, 2) := by decide +kernel
theorem d_Mo_rising_14 : decode b_Mo_rising 14 = .ok (.iload_n 2, 1) := by decide +kernel
theorem d_Mo_rising_15 : decode b_Mo_rising 15 = .ok (.if_icmp .gt 42, 3) := by decide +kernel
theorem d_Mo_rising_18 : decode b_Mo_rising 18 = .ok (.iload 4, 2) := by decide +kernel
theorem d_Mo_rising_20 : decode b_Mo_rising 20 = .ok (.aload_n 0, 1) := by decide +kernel
theorem d_Mo_rising_21 : decode b_Mo_rising 21 = .ok (.getfield 81, 3) := by decide +kernel
theorem d_Mo_rising_24 : decode b_Mo_rising 24 = .ok (.if_icmp .ge 33, 3) := by decide +kernel
theorem d_Mo_rising_27 : decode b_Mo_rising 27 = .ok (.aload_n 0, 1) := by decide +kernel
theorem d_Mo_rising_28 : decode b_Mo_rising 28 = .ok (.getfield 70, 3) := by decide +kernel
theorem d_Mo_rising_31 : decode b_Mo_rising 31 = .ok (.iload_n 3, 1) := by decide +kernel
theorem d_Mo_rising_32 : decode b_Mo_rising 32 = .ok (.aload_n 0, 1) := by decide +kernel
theorem d_Mo_rising_33 : decode b_Mo_rising 33 = .ok (.getfield 70, 3) := by decide +kernel
theorem d_Mo_rising_36 : decode b_Mo_rising 36 = .ok (.iload_n 3, 1) := by decide +kernel
theorem d_Mo_rising_37 : decode b_Mo_rising 37 = .ok (.laload, 1) := by decide +kernel
theorem d_Mo_rising_38 : decode b_Mo_rising 38 = .ok (.aload_n 0, 1) := by decide +kernel
theorem d_Mo_rising_39 : decode b_Mo_rising 39 = .ok (.getfield 67, 3) := by decide +kernel
theorem d_Mo_rising_42 : decode b_Mo_rising 42 = .ok (.iload_n 3, 1) := by decide +kernel
theorem d_Mo_rising_43 : decode b_Mo_rising 43 = .ok (.laload, 1) := by decide +kernel
theorem d_Mo_rising_44 : decode b_Mo_rising 44 = .ok (.lconst 1, 1) := by decide +kernel
theorem d_Mo_rising_45 : decode b_Mo_rising 45 = .ok (.iload 4, 2) := by decide +kernel
theorem d_Mo_rising_47 : decode b_Mo_rising 47 = .ok (.lshl, 1) := by decide +kernel
theorem d_Mo_rising_48 : decode b_Mo_rising 48 = .ok (.land, 1) := by decide +kernel
theorem d_Mo_rising_49 : decode b_Mo_rising 49 = .ok (.lor, 1) := by decide +kernel
theorem d_Mo_rising_50 : decode b_Mo_rising 50 = .ok (.lastore, 1) := by decide +kernel
theorem d_Mo_rising_51 : decode b_Mo_rising 51 = .ok (.iinc 4 1, 3) := by decide +kernel
theorem d_Mo_rising_54 : decode b_Mo_rising 54 = .ok (.goto (-42), 3) := by decide +kernel
theorem d_Mo_rising_57 : decode b_Mo_rising 57 = .ok (.aload_n 0, 1) := by decide +kernel
theorem d_Mo_rising_58 : decode b_Mo_rising 58 = .ok (.getfield 81, 3) := by decide +kernel
theorem d_Mo_rising_61 : decode b_Mo_rising 61 = .ok (.istore 4, 2) := by decide +kernel
theorem d_Mo_rising_63 : decode b_Mo_rising 63 = .ok (.aload_n 0, 1) := by decide +kernel
theorem d_Mo_rising_64 : decode b_Mo_rising 64 = .ok (.getfield 81, 3) := by decide +kernel
theorem d_Mo_rising_67 : decode b_Mo_rising 67 = .ok (.iconst 1, 1) := by decide +kernel
theorem d_Mo_rising_68 : decode b_Mo_rising 68 = .ok (.isub, 1) := by decide +kernel
theorem d_Mo_rising_69 : decode b_Mo_rising 69 = .ok (.istore 5, 2) := by decide +kernel
theorem d_Mo_rising_71 : decode b_Mo_rising 71 = .ok (.iload 5, 2) := by decide +kernel
theorem d_Mo_rising_73 : decode b_Mo_rising 73 = .ok (.iload_n 2, 1) := by decide +kernel
theorem d_Mo_rising_74 : decode b_Mo_rising 74 = .ok (.if_icmp .le 32, 3) := by decide +kernel
theorem d_Mo_rising_77 : decode b_Mo_rising 77 = .ok (.aload_n 0, 1) := by decide +kernel
theorem d_Mo_rising_78 : decode b_Mo_rising 78 = .ok (.getfield 67, 3) := by decide +kernel
theorem d_Mo_rising_81 : decode b_Mo_rising 81 = .ok (.iload_n 3, 1) := by decide +kernel
theorem d_Mo_rising_82 : decode b_Mo_rising 82 = .ok (.laload, 1) := by decide +kernel
theorem d_Mo_rising_83 : decode b_Mo_rising 83 = .ok (.iload 5, 2) := by decide +kernel
theorem d_Mo_rising_85 : decode b_Mo_rising 85 = .ok (.invokestatic 90, 3) := by decide +kernel
theorem d_Mo_rising_88 : decode b_Mo_rising 88 = .ok (.ifCond .eq 8, 3) := by decide +kernel
theorem d_Mo_rising_91 : decode b_Mo_rising 91 = .ok (.iload 5, 2) := by decide +kernel
theorem d_Mo_rising_93 : decode b_Mo_rising 93 = .ok (.goto 5, 3) := by decide +kernel
theorem d_Mo_rising_96 : decode b_Mo_rising 96 = .ok (.iload 4, 2) := by decide +kernel
theorem d_Mo_rising_98 : decode b_Mo_rising 98 = .ok (.istore 4, 2) := by decide +kernel
theorem d_Mo_rising_100 : decode b_Mo_rising 100 = .ok (.iinc 5 (-1), 3) := by decide +kernel
theorem d_Mo_rising_103 : decode b_Mo_rising 103 = .ok (.goto (-32), 3) := by decide +kernel
theorem d_Mo_rising_106 : decode b_Mo_rising 106 = .ok (.iload 4, 2) := by decide +kernel
theorem d_Mo_rising_108 : decode b_Mo_rising 108 = .ok (.istore_n 2, 1) := by decide +kernel
theorem d_Mo_rising_109 : decode b_Mo_rising 109 = .ok (.iinc 3 1, 3) := by decide +kernel
theorem d_Mo_rising_112 : decode b_Mo_rising 112 = .ok (.goto (-108), 3) := by decide +kernel
theorem d_Mo_rising_115 : decode b_Mo_rising 115 = .ok (.aload_n 0, 1) := by decide +kernel
theorem d_Mo_rising_116 : decode b_Mo_rising 116 = .ok (.getfield 81, 3) := by decide +kernel
theorem d_Mo_rising_119 : decode b_Mo_rising 119 = .ok (.istore_n 3, 1) := by decide +kernel
theorem d_Mo_rising_120 : decode b_Mo_rising 120 = .ok (.iload_n 1, 1) := by decide +kernel
theorem d_Mo_rising_121 : decode b_Mo_rising 121 = .ok (.iconst 1, 1) := by decide +kernel
theorem d_Mo_rising_122 : decode b_Mo_rising 122 = .ok (.isub, 1) := by decide +kernel
theorem d_Mo_rising_123 : decode b_Mo_rising 123 = .ok (.istore 4, 2) := by decide +kernel
theorem d_Mo_rising_125 : decode b_Mo_rising 125 = .ok (.iload 4, 2) := by decide +kernel
theorem d_Mo_rising_127 : decode b_Mo_rising 127 = .ok (.ifCond .lt 106, 3) := by decide +kernel
theorem d_Mo_rising_130 : decode b_Mo_rising 130 = .ok (.aload_n 0, 1) := by decide +kernel
theorem d_Mo_rising_131 : decode b_Mo_rising 131 = .ok (.getfield 81, 3) := by decide +kernel
theorem d_Mo_rising_134 : decode b_Mo_rising 134 = .ok (.iconst 1, 1) := by decide +kernel
theorem d_Mo_rising_135 : decode b_Mo_rising 135 = .ok (.isub, 1) := by decide +kernel
theorem d_Mo_rising_136 : decode b_Mo_rising 136 = .ok (.istore 5, 2) := by decide +kernel
theorem d_Mo_rising_138 : decode b_Mo_rising 138 = .ok (.iload 5, 2) := by decide +kernel
theorem d_Mo_rising_140 : decode b_Mo_rising 140 = .ok (.iload_n 3, 1) := by decide +kernel
theorem d_Mo_rising_141 : decode b_Mo_rising 141 = .ok (.if_icmp .lt 41, 3) := by decide +kernel
theorem d_Mo_rising_144 : decode b_Mo_rising 144 = .ok (.iload 5, 2) := by decide +kernel
theorem d_Mo_rising_146 : decode b_Mo_rising 146 = .ok (.ifCond .lt 36, 3) := by decide +kernel
theorem d_Mo_rising_149 : decode b_Mo_rising 149 = .ok (.aload_n 0, 1) := by decide +kernel
theorem d_Mo_rising_150 : decode b_Mo_rising 150 = .ok (.getfield 70, 3) := by decide +kernel
theorem d_Mo_rising_153 : decode b_Mo_rising 153 = .ok (.iload 4, 2) := by decide +kernel
theorem d_Mo_rising_155 : decode b_Mo_rising 155 = .ok (.aload_n 0, 1) := by decide +kernel
theorem d_Mo_rising_156 : decode b_Mo_rising 156 = .ok (.getfield 70, 3) := by decide +kernel
theorem d_Mo_rising_159 : decode b_Mo_rising 159 = .ok (.iload 4, 2) := by decide +kernel
theorem d_Mo_rising_161 : decode b_Mo_rising 161 = .ok (.laload, 1) := by decide +kernel
theorem d_Mo_rising_162 : decode b_Mo_rising 162 = .ok (.aload_n 0, 1) := by decide +kernel
theorem d_Mo_rising_163 : decode b_Mo_rising 163 = .ok (.getfield 67, 3) := by decide +kernel
theorem d_Mo_rising_166 : decode b_Mo_rising 166 = .ok (.iload 4, 2) := by decide +kernel
theorem d_Mo_rising_168 : decode b_Mo_rising 168 = .ok (.laload, 1) := by decide +kernel
theorem d_Mo_rising_169 : decode b_Mo_rising 169 = .ok (.lconst 1, 1) := by decide +kernel
theorem d_Mo_rising_170 : decode b_Mo_rising 170 = .ok (.iload 5, 2) := by decide +kernel
theorem d_Mo_rising_172 : decode b_Mo_rising 172 = .ok (.lshl, 1) := by decide +kernel
theorem d_Mo_rising_173 : decode b_Mo_rising 173 = .ok (.land, 1) := by decide +kernel
theorem d_Mo_rising_174 : decode b_Mo_rising 174 = .ok (.lor, 1) := by decide +kernel
theorem d_Mo_rising_175 : decode b_Mo_rising 175 = .ok (.lastore, 1) := by decide +kernel
theorem d_Mo_rising_176 : decode b_Mo_rising 176 = .ok (.iinc 5 (-1), 3) := by decide +kernel
theorem d_Mo_rising_179 : decode b_Mo_rising 179 = .ok (.goto (-41), 3) := by decide +kernel
theorem d_Mo_rising_182 : decode b_Mo_rising 182 = .ok (.iconst (-1), 1) := by decide +kernel
theorem d_Mo_rising_183 : decode b_Mo_rising 183 = .ok (.istore 5, 2) := by decide +kernel
theorem d_Mo_rising_185 : decode b_Mo_rising 185 = .ok (.iconst 0, 1) := by decide +kernel
theorem d_Mo_rising_186 : decode b_Mo_rising 186 = .ok (.istore 6, 2) := by decide +kernel
theorem d_Mo_rising_188 : decode b_Mo_rising 188 = .ok (.iload 6, 2) := by decide +kernel
theorem d_Mo_rising_190 : decode b_Mo_rising 190 = .ok (.iload_n 3, 1) := by decide +kernel
theorem d_Mo_rising_191 : decode b_Mo_rising 191 = .ok (.if_icmp .ge 33, 3) := by decide +kernel
theorem d_Mo_rising_194 : decode b_Mo_rising 194 = .ok (.aload_n 0, 1) := by decide +kernel
theorem d_Mo_rising_195 : decode b_Mo_rising 195 = .ok (.getfield 67, 3) := by decide +kernel
theorem d_Mo_rising_198 : decode b_Mo_rising 198 = .ok (.iload 4, 2) := by decide +kernel
theorem d_Mo_rising_200 : decode b_Mo_rising 200 = .ok (.laload, 1) := by decide +kernel
theorem d_Mo_rising_201 : decode b_Mo_rising 201 = .ok (.iload 6, 2) := by decide +kernel
theorem d_Mo_rising_203 : decode b_Mo_rising 203 = .ok (.invokestatic 90, 3) := by decide +kernel
theorem d_Mo_rising_206 : decode b_Mo_rising 206 = .ok (.ifCond .eq 8, 3) := by decide +kernel
theorem d_Mo_rising_209 : decode b_Mo_rising 209 = .ok (.iload 6, 2) := by decide +kernel
theorem d_Mo_rising_211 : decode b_Mo_rising 211 = .ok (.goto 5, 3) := by decide +kernel
theorem d_Mo_rising_214 : decode b_Mo_rising 214 = .ok (.iload 5, 2) := by decide +kernel
theorem d_Mo_rising_216 : decode b_Mo_rising 216 = .ok (.istore 5, 2) := by decide +kernel
theorem d_Mo_rising_218 : decode b_Mo_rising 218 = .ok (.iinc 6 1, 3) := by decide +kernel
theorem d_Mo_rising_221 : decode b_Mo_rising 221 = .ok (.goto (-33), 3) := by decide +kernel
theorem d_Mo_rising_224 : decode b_Mo_rising 224 = .ok (.iload 5, 2) := by decide +kernel
theorem d_Mo_rising_226 : decode b_Mo_rising 226 = .ok (.istore_n 3, 1) := by decide +kernel
theorem d_Mo_rising_227 : decode b_Mo_rising 227 = .ok (.iinc 4 (-1), 3) := by decide +kernel
theorem d_Mo_rising_230 : decode b_Mo_rising 230 = .ok (.goto (-105), 3) := by decide +kernel
theorem d_Mo_rising_233 : decode b_Mo_rising 233 = .ok (.iconst 0, 1) := by decide +kernel
theorem d_Mo_rising_234 : decode b_Mo_rising 234 = .ok (.istore 4, 2) := by decide +kernel
theorem d_Mo_rising_236 : decode b_Mo_rising 236 = .ok (.iload 4, 2) := by decide +kernel
theorem d_Mo_rising_238 : decode b_Mo_rising 238 = .ok (.iload_n 1, 1) := by decide +kernel
theorem d_Mo_rising_239 : decode b_Mo_rising 239 = .ok (.if_icmp .ge 36, 3) := by decide +kernel
theorem d_Mo_rising_242 : decode b_Mo_rising 242 = .ok (.iload_n 2, 1) := by decide +kernel
theorem d_Mo_rising_243 : decode b_Mo_rising 243 = .ok (.aload_n 0, 1) := by decide +kernel
theorem d_Mo_rising_244 : decode b_Mo_rising 244 = .ok (.getfield 81, 3) := by decide +kernel
theorem d_Mo_rising_247 : decode b_Mo_rising 247 = .ok (.if_icmp .eq 8, 3) := by decide +kernel
theorem d_Mo_rising_250 : decode b_Mo_rising 250 = .ok (.iload_n 3, 1) := by decide +kernel
theorem d_Mo_rising_251 : decode b_Mo_rising 251 = .ok (.iconst (-1), 1) := by decide +kernel
theorem d_Mo_rising_252 : decode b_Mo_rising 252 = .ok (.if_icmp .ne 23, 3) := by decide +kernel
theorem d_Mo_rising_255 : decode b_Mo_rising 255 = .ok (.aload_n 0, 1) := by decide +kernel
theorem d_Mo_rising_256 : decode b_Mo_rising 256 = .ok (.getfield 70, 3) := by decide +kernel
theorem d_Mo_rising_259 : decode b_Mo_rising 259 = .ok (.iload 4, 2) := by decide +kernel
theorem d_Mo_rising_261 : decode b_Mo_rising 261 = .ok (.aload_n 0, 1) := by decide +kernel
theorem d_Mo_rising_262 : decode b_Mo_rising 262 = .ok (.getfield 67, 3) := by decide +kernel
theorem d_Mo_rising_265 : decode b_Mo_rising 265 = .ok (.iload 4, 2) := by decide +kernel
theorem d_Mo_rising_267 : decode b_Mo_rising 267 = .ok (.laload, 1) := by decide +kernel
theorem d_Mo_rising_268 : decode b_Mo_rising 268 = .ok (.lastore, 1) := by decide +kernel
theorem d_Mo_rising_269 : decode b_Mo_rising 269 = .ok (.iinc 4 1, 3) := by decide +kernel
theorem d_Mo_rising_272 : decode b_Mo_rising 272 = .ok (.goto (-36), 3) := by decide +kernel
theorem d_Mo_rising_275 : decode b_Mo_rising 275 = .ok (.return_, 1) := by decide +kernel
