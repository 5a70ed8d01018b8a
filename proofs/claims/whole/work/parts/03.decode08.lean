theorem d_Mo_woken_0 : decode b_Mo_woken 0 = .ok (.aload_n 0, 1) := by decide +kernel
theorem d_Mo_woken_1 : decode b_Mo_woken 1 = .ok (.iconst 0, 1) := by decide +kernel
theorem d_Mo_woken_2 : decode b_Mo_woken 2 = .ok (.putfield 84, 3) := by decide +kernel
theorem d_Mo_woken_5 : decode b_Mo_woken 5 = .ok (.aload_n 0, 1) := by decide +kernel
theorem d_Mo_woken_6 : decode b_Mo_woken 6 = .ok (.getfield 185, 3) := by decide +kernel
theorem d_Mo_woken_9 : decode b_Mo_woken 9 = .ok (.ireturn, 1) := by decide +kernel
theorem d_Mo_order_0 : decode b_Mo_order 0 = .ok (.aload_n 0, 1) := by decide +kernel
theorem d_Mo_order_1 : decode b_Mo_order 1 = .ok (.iconst 0, 1) := by decide +kernel
theorem d_Mo_order_2 : decode b_Mo_order 2 = .ok (.putfield 84, 3) := by decide +kernel
theorem d_Mo_order_5 : decode b_Mo_order 5 = .ok (.iload_n 1, 1) := by decide +kernel
theorem d_Mo_order_6 : decode b_Mo_order 6 = .ok (.ifCond .lt 27, 3) := by decide +kernel
theorem d_Mo_order_9 : decode b_Mo_order 9 = .ok (.iload_n 1, 1) := by decide +kernel
theorem d_Mo_order_10 : decode b_Mo_order 10 = .ok (.aload_n 0, 1) := by decide +kernel
theorem d_Mo_order_11 : decode b_Mo_order 11 = .ok (.getfield 185, 3) := by decide +kernel
theorem d_Mo_order_14 : decode b_Mo_order 14 = .ok (.if_icmp .ge 19, 3) := by decide +kernel
theorem d_Mo_order_17 : decode b_Mo_order 17 = .ok (.iload_n 1, 1) := by decide +kernel
theorem d_Mo_order_18 : decode b_Mo_order 18 = .ok (.sipush 1000, 3) := by decide +kernel
theorem d_Mo_order_21 : decode b_Mo_order 21 = .ok (.if_icmp .ge 12, 3) := by decide +kernel
theorem d_Mo_order_24 : decode b_Mo_order 24 = .ok (.aload_n 0, 1) := by decide +kernel
theorem d_Mo_order_25 : decode b_Mo_order 25 = .ok (.getfield 45, 3) := by decide +kernel
theorem d_Mo_order_28 : decode b_Mo_order 28 = .ok (.iload_n 1, 1) := by decide +kernel
theorem d_Mo_order_29 : decode b_Mo_order 29 = .ok (.iaload, 1) := by decide +kernel
theorem d_Mo_order_30 : decode b_Mo_order 30 = .ok (.goto 4, 3) := by decide +kernel
theorem d_Mo_order_33 : decode b_Mo_order 33 = .ok (.iconst (-1), 1) := by decide +kernel
theorem d_Mo_order_34 : decode b_Mo_order 34 = .ok (.ireturn, 1) := by decide +kernel
theorem d_Mo_mark_0 : decode b_Mo_mark 0 = .ok (.aload_n 0, 1) := by decide +kernel
theorem d_Mo_mark_1 : decode b_Mo_mark 1 = .ok (.iconst 0, 1) := by decide +kernel
theorem d_Mo_mark_2 : decode b_Mo_mark 2 = .ok (.putfield 84, 3) := by decide +kernel
theorem d_Mo_mark_5 : decode b_Mo_mark 5 = .ok (.aload_n 0, 1) := by decide +kernel
theorem d_Mo_mark_6 : decode b_Mo_mark 6 = .ok (.getfield 98, 3) := by decide +kernel
theorem d_Mo_mark_9 : decode b_Mo_mark 9 = .ok (.bipush 20, 2) := by decide +kernel
theorem d_Mo_mark_11 : decode b_Mo_mark 11 = .ok (.if_icmp .ne 5, 3) := by decide +kernel
theorem d_Mo_mark_14 : decode b_Mo_mark 14 = .ok (.iconst (-1), 1) := by decide +kernel
theorem d_Mo_mark_15 : decode b_Mo_mark 15 = .ok (.ireturn, 1) := by decide +kernel
theorem d_Mo_mark_16 : decode b_Mo_mark 16 = .ok (.iconst 0, 1) := by decide +kernel
theorem d_Mo_mark_17 : decode b_Mo_mark 17 = .ok (.istore_n 1, 1) := by decide +kernel
theorem d_Mo_mark_18 : decode b_Mo_mark 18 = .ok (.iload_n 1, 1) := by decide +kernel
theorem d_Mo_mark_19 : decode b_Mo_mark 19 = .ok (.sipush 128, 3) := by decide +kernel
theorem d_Mo_mark_22 : decode b_Mo_mark 22 = .ok (.if_icmp .ge 30, 3) := by decide +kernel
theorem d_Mo_mark_25 : decode b_Mo_mark 25 = .ok (.aload_n 0, 1) := by decide +kernel
theorem d_Mo_mark_26 : decode b_Mo_mark 26 = .ok (.getfield 48, 3) := by decide +kernel
theorem d_Mo_mark_29 : decode b_Mo_mark 29 = .ok (.sipush 128, 3) := by decide +kernel
theorem d_Mo_mark_32 : decode b_Mo_mark 32 = .ok (.aload_n 0, 1) := by decide +kernel
theorem d_Mo_mark_33 : decode b_Mo_mark 33 = .ok (.getfield 98, 3) := by decide +kernel
theorem d_Mo_mark_36 : decode b_Mo_mark 36 = .ok (.imul, 1) := by decide +kernel
theorem d_Mo_mark_37 : decode b_Mo_mark 37 = .ok (.iload_n 1, 1) := by decide +kernel
theorem d_Mo_mark_38 : decode b_Mo_mark 38 = .ok (.iadd, 1) := by decide +kernel
theorem d_Mo_mark_39 : decode b_Mo_mark 39 = .ok (.aload_n 0, 1) := by decide +kernel
theorem d_Mo_mark_40 : decode b_Mo_mark 40 = .ok (.getfield 7, 3) := by decide +kernel
theorem d_Mo_mark_43 : decode b_Mo_mark 43 = .ok (.iload_n 1, 1) := by decide +kernel
theorem d_Mo_mark_44 : decode b_Mo_mark 44 = .ok (.laload, 1) := by decide +kernel
theorem d_Mo_mark_45 : decode b_Mo_mark 45 = .ok (.lastore, 1) := by decide +kernel
theorem d_Mo_mark_46 : decode b_Mo_mark 46 = .ok (.iinc 1 1, 3) := by decide +kernel
theorem d_Mo_mark_49 : decode b_Mo_mark 49 = .ok (.goto (-31), 3) := by decide +kernel
theorem d_Mo_mark_52 : decode b_Mo_mark 52 = .ok (.iconst 0, 1) := by decide +kernel
theorem d_Mo_mark_53 : decode b_Mo_mark 53 = .ok (.istore_n 1, 1) := by decide +kernel
theorem d_Mo_mark_54 : decode b_Mo_mark 54 = .ok (.iload_n 1, 1) := by decide +kernel
theorem d_Mo_mark_55 : decode b_Mo_mark 55 = .ok (.sipush 7680, 3) := by decide +kernel
theorem d_Mo_mark_58 : decode b_Mo_mark 58 = .ok (.if_icmp .ge 30, 3) := by decide +kernel
theorem d_Mo_mark_61 : decode b_Mo_mark 61 = .ok (.aload_n 0, 1) := by decide +kernel
theorem d_Mo_mark_62 : decode b_Mo_mark 62 = .ok (.getfield 52, 3) := by decide +kernel
theorem d_Mo_mark_65 : decode b_Mo_mark 65 = .ok (.sipush 7680, 3) := by decide +kernel
theorem d_Mo_mark_68 : decode b_Mo_mark 68 = .ok (.aload_n 0, 1) := by decide +kernel
theorem d_Mo_mark_69 : decode b_Mo_mark 69 = .ok (.getfield 98, 3) := by decide +kernel
theorem d_Mo_mark_72 : decode b_Mo_mark 72 = .ok (.imul, 1) := by decide +kernel
theorem d_Mo_mark_73 : decode b_Mo_mark 73 = .ok (.iload_n 1, 1) := by decide +kernel
theorem d_Mo_mark_74 : decode b_Mo_mark 74 = .ok (.iadd, 1) := by decide +kernel
theorem d_Mo_mark_75 : decode b_Mo_mark 75 = .ok (.aload_n 0, 1) := by decide +kernel
theorem d_Mo_mark_76 : decode b_Mo_mark 76 = .ok (.getfield 13, 3) := by decide +kernel
theorem d_Mo_mark_79 : decode b_Mo_mark 79 = .ok (.iload_n 1, 1) := by decide +kernel
theorem d_Mo_mark_80 : decode b_Mo_mark 80 = .ok (.iaload, 1) := by decide +kernel
theorem d_Mo_mark_81 : decode b_Mo_mark 81 = .ok (.iastore, 1) := by decide +kernel
theorem d_Mo_mark_82 : decode b_Mo_mark 82 = .ok (.iinc 1 1, 3) := by decide +kernel
theorem d_Mo_mark_85 : decode b_Mo_mark 85 = .ok (.goto (-31), 3) := by decide +kernel
theorem d_Mo_mark_88 : decode b_Mo_mark 88 = .ok (.aload_n 0, 1) := by decide +kernel
theorem d_Mo_mark_89 : decode b_Mo_mark 89 = .ok (.getfield 55, 3) := by decide +kernel
theorem d_Mo_mark_92 : decode b_Mo_mark 92 = .ok (.aload_n 0, 1) := by decide +kernel
theorem d_Mo_mark_93 : decode b_Mo_mark 93 = .ok (.getfield 98, 3) := by decide +kernel
theorem d_Mo_mark_96 : decode b_Mo_mark 96 = .ok (.aload_n 0, 1) := by decide +kernel
theorem d_Mo_mark_97 : decode b_Mo_mark 97 = .ok (.getfield 101, 3) := by decide +kernel
theorem d_Mo_mark_100 : decode b_Mo_mark 100 = .ok (.iastore, 1) := by decide +kernel
theorem d_Mo_mark_101 : decode b_Mo_mark 101 = .ok (.iconst 0, 1) := by decide +kernel
theorem d_Mo_mark_102 : decode b_Mo_mark 102 = .ok (.istore_n 1, 1) := by decide +kernel
theorem d_Mo_mark_103 : decode b_Mo_mark 103 = .ok (.iload_n 1, 1) := by decide +kernel
theorem d_Mo_mark_104 : decode b_Mo_mark 104 = .ok (.bipush 120, 2) := by decide +kernel
theorem d_Mo_mark_106 : decode b_Mo_mark 106 = .ok (.if_icmp .ge 29, 3) := by decide +kernel
theorem d_Mo_mark_109 : decode b_Mo_mark 109 = .ok (.aload_n 0, 1) := by decide +kernel
theorem d_Mo_mark_110 : decode b_Mo_mark 110 = .ok (.getfield 58, 3) := by decide +kernel
theorem d_Mo_mark_113 : decode b_Mo_mark 113 = .ok (.bipush 120, 2) := by decide +kernel
theorem d_Mo_mark_115 : decode b_Mo_mark 115 = .ok (.aload_n 0, 1) := by decide +kernel
theorem d_Mo_mark_116 : decode b_Mo_mark 116 = .ok (.getfield 98, 3) := by decide +kernel
theorem d_Mo_mark_119 : decode b_Mo_mark 119 = .ok (.imul, 1) := by decide +kernel
theorem d_Mo_mark_120 : decode b_Mo_mark 120 = .ok (.iload_n 1, 1) := by decide +kernel
theorem d_Mo_mark_121 : decode b_Mo_mark 121 = .ok (.iadd, 1) := by decide +kernel
theorem d_Mo_mark_122 : decode b_Mo_mark 122 = .ok (.aload_n 0, 1) := by decide +kernel
theorem d_Mo_mark_123 : decode b_Mo_mark 123 = .ok (.getfield 42, 3) := by decide +kernel
theorem d_Mo_mark_126 : decode b_Mo_mark 126 = .ok (.iload_n 1, 1) := by decide +kernel
theorem d_Mo_mark_127 : decode b_Mo_mark 127 = .ok (.iaload, 1) := by decide +kernel
theorem d_Mo_mark_128 : decode b_Mo_mark 128 = .ok (.iastore, 1) := by decide +kernel
theorem d_Mo_mark_129 : decode b_Mo_mark 129 = .ok (.iinc 1 1, 3) := by decide +kernel
theorem d_Mo_mark_132 : decode b_Mo_mark 132 = .ok (.goto (-29), 3) := by decide +kernel
theorem d_Mo_mark_135 : decode b_Mo_mark 135 = .ok (.aload_n 0, 1) := by decide +kernel
theorem d_Mo_mark_136 : decode b_Mo_mark 136 = .ok (.getfield 61, 3) := by decide +kernel
theorem d_Mo_mark_139 : decode b_Mo_mark 139 = .ok (.aload_n 0, 1) := by decide +kernel
theorem d_Mo_mark_140 : decode b_Mo_mark 140 = .ok (.getfield 98, 3) := by decide +kernel
theorem d_Mo_mark_143 : decode b_Mo_mark 143 = .ok (.aload_n 0, 1) := by decide +kernel
theorem d_Mo_mark_144 : decode b_Mo_mark 144 = .ok (.getfield 185, 3) := by decide +kernel
theorem d_Mo_mark_147 : decode b_Mo_mark 147 = .ok (.iastore, 1) := by decide +kernel
theorem d_Mo_mark_148 : decode b_Mo_mark 148 = .ok (.iconst 0, 1) := by decide +kernel
theorem d_Mo_mark_149 : decode b_Mo_mark 149 = .ok (.istore_n 1, 1) := by decide +kernel
theorem d_Mo_mark_150 : decode b_Mo_mark 150 = .ok (.iload_n 1, 1) := by decide +kernel
theorem d_Mo_mark_151 : decode b_Mo_mark 151 = .ok (.sipush 1000, 3) := by decide +kernel
theorem d_Mo_mark_154 : decode b_Mo_mark 154 = .ok (.if_icmp .ge 30, 3) := by decide +kernel
theorem d_Mo_mark_157 : decode b_Mo_mark 157 = .ok (.aload_n 0, 1) := by decide +kernel
theorem d_Mo_mark_158 : decode b_Mo_mark 158 = .ok (.getfield 64, 3) := by decide +kernel
theorem d_Mo_mark_161 : decode b_Mo_mark 161 = .ok (.sipush 1000, 3) := by decide +kernel
theorem d_Mo_mark_164 : decode b_Mo_mark 164 = .ok (.aload_n 0, 1) := by decide +kernel
theorem d_Mo_mark_165 : decode b_Mo_mark 165 = .ok (.getfield 98, 3) := by decide +kernel
theorem d_Mo_mark_168 : decode b_Mo_mark 168 = .ok (.imul, 1) := by decide +kernel
theorem d_Mo_mark_169 : decode b_Mo_mark 169 = .ok (.iload_n 1, 1) := by decide +kernel
theorem d_Mo_mark_170 : decode b_Mo_mark 170 = .ok (.iadd, 1) := by decide +kernel
theorem d_Mo_mark_171 : decode b_Mo_mark 171 = .ok (.aload_n 0, 1) := by decide +kernel
theorem d_Mo_mark_172 : decode b_Mo_mark 172 = .ok (.getfield 45, 3) := by decide +kernel
theorem d_Mo_mark_175 : decode b_Mo_mark 175 = .ok (.iload_n 1, 1) := by decide +kernel
theorem d_Mo_mark_176 : decode b_Mo_mark 176 = .ok (.iaload, 1) := by decide +kernel
theorem d_Mo_mark_177 : decode b_Mo_mark 177 = .ok (.iastore, 1) := by decide +kernel
theorem d_Mo_mark_178 : decode b_Mo_mark 178 = .ok (.iinc 1 1, 3) := by decide +kernel
theorem d_Mo_mark_181 : decode b_Mo_mark 181 = .ok (.goto (-31), 3) := by decide +kernel
theorem d_Mo_mark_184 : decode b_Mo_mark 184 = .ok (.aload_n 0, 1) := by decide +kernel
theorem d_Mo_mark_185 : decode b_Mo_mark 185 = .ok (.dup, 1) := by decide +kernel
theorem d_Mo_mark_186 : decode b_Mo_mark 186 = .ok (.getfield 98, 3) := by decide +kernel
theorem d_Mo_mark_189 : decode b_Mo_mark 189 = .ok (.iconst 1, 1) := by decide +kernel
theorem d_Mo_mark_190 : decode b_Mo_mark 190 = .ok (.iadd, 1) := by decide +kernel
theorem d_Mo_mark_191 : decode b_Mo_mark 191 = .ok (.putfield 98, 3) := by decide +kernel
theorem d_Mo_mark_194 : decode b_Mo_mark 194 = .ok (.aload_n 0, 1) := by decide +kernel
theorem d_Mo_mark_195 : decode b_Mo_mark 195 = .ok (.getfield 98, 3) := by decide +kernel
theorem d_Mo_mark_198 : decode b_Mo_mark 198 = .ok (.iconst 1, 1) := by decide +kernel
theorem d_Mo_mark_199 : decode b_Mo_mark 199 = .ok (.isub, 1) := by decide +kernel
theorem d_Mo_mark_200 : decode b_Mo_mark 200 = .ok (.ireturn, 1) := by decide +kernel
theorem d_Mo_back_0 : decode b_Mo_back 0 = .ok (.aload_n 0, 1) := by decide +kernel
theorem d_Mo_back_1 : decode b_Mo_back 1 = .ok (.iconst 0, 1) := by decide +kernel
theorem d_Mo_back_2 : decode b_Mo_back 2 = .ok (.putfield 84, 3) := by decide +kernel
theorem d_Mo_back_5 : decode b_Mo_back 5 = .ok (.iload_n 1, 1) := by decide +kernel
theorem d_Mo_back_6 : decode b_Mo_back 6 = .ok (.ifCond .lt 11, 3) := by decide +kernel
theorem d_Mo_back_9 : decode b_Mo_back 9 = .ok (.iload_n 1, 1) := by decide +kernel
theorem d_Mo_back_10 : decode b_Mo_back 10 = .ok (.aload_n 0, 1) := by decide +kernel
theorem d_Mo_back_11 : decode b_Mo_back 11 = .ok (.getfield 98, 3) := by decide +kernel
theorem d_Mo_back_14 : decode b_Mo_back 14 = .ok (.if_icmp .lt 5, 3) := by decide +kernel
theorem d_Mo_back_17 : decode b_Mo_back 17 = .ok (.iconst 0, 1) := by decide +kernel
theorem d_Mo_back_18 : decode b_Mo_back 18 = .ok (.ireturn, 1) := by decide +kernel
theorem d_Mo_back_19 : decode b_Mo_back 19 = .ok (.aload_n 0, 1) := by decide +kernel
theorem d_Mo_back_20 : decode b_Mo_back 20 = .ok (.iload_n 1, 1) := by decide +kernel
theorem d_Mo_back_21 : decode b_Mo_back 21 = .ok (.putfield 98, 3) := by decide +kernel
theorem d_Mo_back_24 : decode b_Mo_back 24 = .ok (.iconst 0, 1) := by decide +kernel
theorem d_Mo_back_25 : decode b_Mo_back 25 = .ok (.istore_n 2, 1) := by decide +kernel
theorem d_Mo_back_26 : decode b_Mo_back 26 = .ok (.iload_n 2, 1) := by decide +kernel
theorem d_Mo_back_27 : decode b_Mo_back 27 = .ok (.sipush 128, 3) := by decide +kernel
theorem d_Mo_back_30 : decode b_Mo_back 30 = .ok (.if_icmp .ge 27, 3) := by decide +kernel
theorem d_Mo_back_33 : decode b_Mo_back 33 = .ok (.aload_n 0, 1) := by decide +kernel
theorem d_Mo_back_34 : decode b_Mo_back 34 = .ok (.getfield 7, 3) := by decide +kernel
theorem d_Mo_back_37 : decode b_Mo_back 37 = .ok (.iload_n 2, 1) := by decide +kernel
theorem d_Mo_back_38 : decode b_Mo_back 38 = .ok (.aload_n 0, 1) := by decide +kernel
theorem d_Mo_back_39 : decode b_Mo_back 39 = .ok (.getfield 48, 3) := by decide +kernel
theorem d_Mo_back_42 : decode b_Mo_back 42 = .ok (.sipush 128, 3) := by decide +kernel
theorem d_Mo_back_45 : decode b_Mo_back 45 = .ok (.iload_n 1, 1) := by decide +kernel
theorem d_Mo_back_46 : decode b_Mo_back 46 = .ok (.imul, 1) := by decide +kernel
theorem d_Mo_back_47 : decode b_Mo_back 47 = .ok (.iload_n 2, 1) := by decide +kernel
theorem d_Mo_back_48 : decode b_Mo_back 48 = .ok (.iadd, 1) := by decide +kernel
theorem d_Mo_back_49 : decode b_Mo_back 49 = .ok (.laload, 1) := by decide +kernel
theorem d_Mo_back_50 : decode b_Mo_back 50 = .ok (.lastore, 1) := by decide +kernel
theorem d_Mo_back_51 : decode b_Mo_back 51 = .ok (.iinc 2 1, 3) := by decide +kernel
theorem d_Mo_back_54 : decode b_Mo_back 54 = .ok (.goto (-28), 3) := by decide +kernel
theorem d_Mo_back_57 : decode b_Mo_back 57 = .ok (.iconst 0, 1) := by decide +kernel
theorem d_Mo_back_58 : decode b_Mo_back 58 = .ok (.istore_n 2, 1) := by decide +kernel
theorem d_Mo_back_59 : decode b_Mo_back 59 = .ok (.iload_n 2, 1) := by decide +kernel
theorem d_Mo_back_60 : decode b_Mo_back 60 = .ok (.sipush 7680, 3) := by decide +kernel
theorem d_Mo_back_63 : decode b_Mo_back 63 = .ok (.if_icmp .ge 27, 3) := by decide +kernel
theorem d_Mo_back_66 : decode b_Mo_back 66 = .ok (.aload_n 0, 1) := by decide +kernel
theorem d_Mo_back_67 : decode b_Mo_back 67 = .ok (.getfield 13, 3) := by decide +kernel
theorem d_Mo_back_70 : decode b_Mo_back 70 = .ok (.iload_n 2, 1) := by decide +kernel
theorem d_Mo_back_71 : decode b_Mo_back 71 = .ok (.aload_n 0, 1) := by decide +kernel
theorem d_Mo_back_72 : decode b_Mo_back 72 = .ok (.getfield 52, 3) := by decide +kernel
theorem d_Mo_back_75 : decode b_Mo_back 75 = .ok (.sipush 7680, 3) := by decide +kernel
theorem d_Mo_back_78 : decode b_Mo_back 78 = .ok (.iload_n 1, 1) := by decide +kernel
theorem d_Mo_back_79 : decode b_Mo_back 79 = .ok (.imul, 1) := by decide +kernel
theorem d_Mo_back_80 : decode b_Mo_back 80 = .ok (.iload_n 2, 1) := by decide +kernel
theorem d_Mo_back_81 : decode b_Mo_back 81 = .ok (.iadd, 1) := by decide +kernel
theorem d_Mo_back_82 : decode b_Mo_back 82 = .ok (.iaload, 1) := by decide +kernel
theorem d_Mo_back_83 : decode b_Mo_back 83 = .ok (.iastore, 1) := by decide +kernel
theorem d_Mo_back_84 : decode b_Mo_back 84 = .ok (.iinc 2 1, 3) := by decide +kernel
theorem d_Mo_back_87 : decode b_Mo_back 87 = .ok (.goto (-28), 3) := by decide +kernel
theorem d_Mo_back_90 : decode b_Mo_back 90 = .ok (.aload_n 0, 1) := by decide +kernel
theorem d_Mo_back_91 : decode b_Mo_back 91 = .ok (.aload_n 0, 1) := by decide +kernel
theorem d_Mo_back_92 : decode b_Mo_back 92 = .ok (.getfield 55, 3) := by decide +kernel
theorem d_Mo_back_95 : decode b_Mo_back 95 = .ok (.iload_n 1, 1) := by decide +kernel
theorem d_Mo_back_96 : decode b_Mo_back 96 = .ok (.iaload, 1) := by decide +kernel
theorem d_Mo_back_97 : decode b_Mo_back 97 = .ok (.putfield 101, 3) := by decide +kernel
theorem d_Mo_back_100 : decode b_Mo_back 100 = .ok (.iconst 0, 1) := by decide +kernel
theorem d_Mo_back_101 : decode b_Mo_back 101 = .ok (.istore_n 2, 1) := by decide +kernel
theorem d_Mo_back_102 : decode b_Mo_back 102 = .ok (.iload_n 2, 1) := by decide +kernel
theorem d_Mo_back_103 : decode b_Mo_back 103 = .ok (.bipush 120, 2) := by decide +kernel
theorem d_Mo_back_105 : decode b_Mo_back 105 = .ok (.if_icmp .ge 26, 3) := by decide +kernel
theorem d_Mo_back_108 : decode b_Mo_back 108 = .ok (.aload_n 0, 1) := by decide +kernel
theorem d_Mo_back_109 : decode b_Mo_back 109 = .ok (.getfield 42, 3) := by decide +kernel
theorem d_Mo_back_112 : decode b_Mo_back 112 = .ok (.iload_n 2, 1) := by decide +kernel
theorem d_Mo_back_113 : decode b_Mo_back 113 = .ok (.aload_n 0, 1) := by decide +kernel
theorem d_Mo_back_114 : decode b_Mo_back 114 = .ok (.getfield 58, 3) := by decide +kernel
theorem d_Mo_back_117 : decode b_Mo_back 117 = .ok (.bipush 120, 2) := by decide +kernel
theorem d_Mo_back_119 : decode b_Mo_back 119 = .ok (.iload_n 1, 1) := by decide +kernel
theorem d_Mo_back_120 : decode b_Mo_back 120 = .ok (.imul, 1) := by decide +kernel
theorem d_Mo_back_121 : decode b_Mo_back 121 = .ok (.iload_n 2, 1) := by decide +kernel
theorem d_Mo_back_122 : decode b_Mo_back 122 = .ok (.iadd, 1) := by decide +kernel
theorem d_Mo_back_123 : decode b_Mo_back 123 = .ok (.iaload, 1) := by decide +kernel
theorem d_Mo_back_124 : decode b_Mo_back 124 = .ok (.iastore, 1) := by decide +kernel
theorem d_Mo_back_125 : decode b_Mo_back 125 = .ok (.iinc 2 1, 3) := by decide +kernel
theorem d_Mo_back_128 : decode b_Mo_back 128 = .ok (.goto (-26), 3) := by decide +kernel
theorem d_Mo_back_131 : decode b_Mo_back 131 = .ok (.aload_n 0, 1) := by decide +kernel
theorem d_Mo_back_132 : decode b_Mo_back 132 = .ok (.aload_n 0, 1) := by decide +kernel
theorem d_Mo_back_133 : decode b_Mo_back 133 = .ok (.getfield 61, 3) := by decide +kernel
theorem d_Mo_back_136 : decode b_Mo_back 136 = .ok (.iload_n 1, 1) := by decide +kernel
theorem d_Mo_back_137 : decode b_Mo_back 137 = .ok (.iaload, 1) := by decide +kernel
theorem d_Mo_back_138 : decode b_Mo_back 138 = .ok (.putfield 185, 3) := by decide +kernel
theorem d_Mo_back_141 : decode b_Mo_back 141 = .ok (.iconst 0, 1) := by decide +kernel
theorem d_Mo_back_142 : decode b_Mo_back 142 = .ok (.istore_n 2, 1) := by decide +kernel
theorem d_Mo_back_143 : decode b_Mo_back 143 = .ok (.iload_n 2, 1) := by decide +kernel
theorem d_Mo_back_144 : decode b_Mo_back 144 = .ok (.sipush 1000, 3) := by decide +kernel
theorem d_Mo_back_147 : decode b_Mo_back 147 = .ok (.if_icmp .ge 27, 3) := by decide +kernel
theorem d_Mo_back_150 : decode b_Mo_back 150 = .ok (.aload_n 0, 1) := by decide +kernel
theorem d_Mo_back_151 : decode b_Mo_back 151 = .ok (.getfield 45, 3) := by decide +kernel
theorem d_Mo_back_154 : decode b_Mo_back 154 = .ok (.iload_n 2, 1) := by decide +kernel
theorem d_Mo_back_155 : decode b_Mo_back 155 = .ok (.aload_n 0, 1) := by decide +kernel
theorem d_Mo_back_156 : decode b_Mo_back 156 = .ok (.getfield 64, 3) := by decide +kernel
theorem d_Mo_back_159 : decode b_Mo_back 159 = .ok (.sipush 1000, 3) := by decide +kernel
theorem d_Mo_back_162 : decode b_Mo_back 162 = .ok (.iload_n 1, 1) := by decide +kernel
theorem d_Mo_back_163 : decode b_Mo_back 163 = .ok (.imul, 1) := by decide +kernel
theorem d_Mo_back_164 : decode b_Mo_back 164 = .ok (.iload_n 2, 1) := by decide +kernel
theorem d_Mo_back_165 : decode b_Mo_back 165 = .ok (.iadd, 1) := by decide +kernel
theorem d_Mo_back_166 : decode b_Mo_back 166 = .ok (.iaload, 1) := by decide +kernel
theorem d_Mo_back_167 : decode b_Mo_back 167 = .ok (.iastore, 1) := by decide +kernel
theorem d_Mo_back_168 : decode b_Mo_back 168 = .ok (.iinc 2 1, 3) := by decide +kernel
theorem d_Mo_back_171 : decode b_Mo_back 171 = .ok (.goto (-28), 3) := by decide +kernel
theorem d_Mo_back_174 : decode b_Mo_back 174 = .ok (.iconst 1, 1) := by decide +kernel
theorem d_Mo_back_175 : decode b_Mo_back 175 = .ok (.ireturn, 1) := by decide +kernel
theorem d_Mo_init_0 : decode b_Mo_init 0 = .ok (.aload_n 0, 1) := by decide +kernel
theorem d_Mo_init_1 : decode b_Mo_init 1 = .ok (.invokespecial 1, 3) := by decide +kernel
theorem d_Mo_init_4 : decode b_Mo_init 4 = .ok (.aload_n 0, 1) := by decide +kernel
theorem d_Mo_init_5 : decode b_Mo_init 5 = .ok (.sipush 128, 3) := by decide +kernel
theorem d_Mo_init_8 : decode b_Mo_init 8 = .ok (.newarray .long, 2) := by decide +kernel
theorem d_Mo_init_10 : decode b_Mo_init 10 = .ok (.putfield 7, 3) := by decide +kernel
theorem d_Mo_init_13 : decode b_Mo_init 13 = .ok (.aload_n 0, 1) := by decide +kernel
theorem d_Mo_init_14 : decode b_Mo_init 14 = .ok (.sipush 7680, 3) := by decide +kernel
theorem d_Mo_init_17 : decode b_Mo_init 17 = .ok (.newarray .int, 2) := by decide +kernel
theorem d_Mo_init_19 : decode b_Mo_init 19 = .ok (.putfield 13, 3) := by decide +kernel
theorem d_Mo_init_22 : decode b_Mo_init 22 = .ok (.aload_n 0, 1) := by decide +kernel
theorem d_Mo_init_23 : decode b_Mo_init 23 = .ok (.bipush 120, 2) := by decide +kernel
theorem d_Mo_init_25 : decode b_Mo_init 25 = .ok (.newarray .int, 2) := by decide +kernel
theorem d_Mo_init_27 : decode b_Mo_init 27 = .ok (.putfield 17, 3) := by decide +kernel
theorem d_Mo_init_30 : decode b_Mo_init 30 = .ok (.aload_n 0, 1) := by decide +kernel
theorem d_Mo_init_31 : decode b_Mo_init 31 = .ok (.bipush 120, 2) := by decide +kernel
theorem d_Mo_init_33 : decode b_Mo_init 33 = .ok (.newarray .long, 2) := by decide +kernel
theorem d_Mo_init_35 : decode b_Mo_init 35 = .ok (.putfield 20, 3) := by decide +kernel
theorem d_Mo_init_38 : decode b_Mo_init 38 = .ok (.aload_n 0, 1) := by decide +kernel
theorem d_Mo_init_39 : decode b_Mo_init 39 = .ok (.bipush 120, 2) := by decide +kernel
theorem d_Mo_init_41 : decode b_Mo_init 41 = .ok (.newarray .int, 2) := by decide +kernel
theorem d_Mo_init_43 : decode b_Mo_init 43 = .ok (.putfield 23, 3) := by decide +kernel
theorem d_Mo_init_46 : decode b_Mo_init 46 = .ok (.aload_n 0, 1) := by decide +kernel
theorem d_Mo_init_47 : decode b_Mo_init 47 = .ok (.sipush 1920, 3) := by decide +kernel
theorem d_Mo_init_50 : decode b_Mo_init 50 = .ok (.newarray .int, 2) := by decide +kernel
theorem d_Mo_init_52 : decode b_Mo_init 52 = .ok (.putfield 26, 3) := by decide +kernel
theorem d_Mo_init_55 : decode b_Mo_init 55 = .ok (.aload_n 0, 1) := by decide +kernel
theorem d_Mo_init_56 : decode b_Mo_init 56 = .ok (.sipush 1920, 3) := by decide +kernel
theorem d_Mo_init_59 : decode b_Mo_init 59 = .ok (.newarray .long, 2) := by decide +kernel
theorem d_Mo_init_61 : decode b_Mo_init 61 = .ok (.putfield 29, 3) := by decide +kernel
theorem d_Mo_init_64 : decode b_Mo_init 64 = .ok (.aload_n 0, 1) := by decide +kernel
theorem d_Mo_init_65 : decode b_Mo_init 65 = .ok (.bipush 120, 2) := by decide +kernel
theorem d_Mo_init_67 : decode b_Mo_init 67 = .ok (.newarray .int, 2) := by decide +kernel
theorem d_Mo_init_69 : decode b_Mo_init 69 = .ok (.putfield 32, 3) := by decide +kernel
theorem d_Mo_init_72 : decode b_Mo_init 72 = .ok (.aload_n 0, 1) := by decide +kernel
theorem d_Mo_init_73 : decode b_Mo_init 73 = .ok (.ldc 35, 2) := by decide +kernel
theorem d_Mo_init_75 : decode b_Mo_init 75 = .ok (.newarray .int, 2) := by decide +kernel
theorem d_Mo_init_77 : decode b_Mo_init 77 = .ok (.putfield 36, 3) := by decide +kernel
theorem d_Mo_init_80 : decode b_Mo_init 80 = .ok (.aload_n 0, 1) := by decide +kernel
theorem d_Mo_init_81 : decode b_Mo_init 81 = .ok (.ldc 35, 2) := by decide +kernel
theorem d_Mo_init_83 : decode b_Mo_init 83 = .ok (.newarray .int, 2) := by decide +kernel
theorem d_Mo_init_85 : decode b_Mo_init 85 = .ok (.putfield 39, 3) := by decide +kernel
theorem d_Mo_init_88 : decode b_Mo_init 88 = .ok (.aload_n 0, 1) := by decide +kernel
theorem d_Mo_init_89 : decode b_Mo_init 89 = .ok (.bipush 120, 2) := by decide +kernel
theorem d_Mo_init_91 : decode b_Mo_init 91 = .ok (.newarray .int, 2) := by decide +kernel
theorem d_Mo_init_93 : decode b_Mo_init 93 = .ok (.putfield 42, 3) := by decide +kernel
theorem d_Mo_init_96 : decode b_Mo_init 96 = .ok (.aload_n 0, 1) := by decide +kernel
theorem d_Mo_init_97 : decode b_Mo_init 97 = .ok (.sipush 1000, 3) := by decide +kernel
theorem d_Mo_init_100 : decode b_Mo_init 100 = .ok (.newarray .int, 2) := by decide +kernel
theorem d_Mo_init_102 : decode b_Mo_init 102 = .ok (.putfield 45, 3) := by decide +kernel
theorem d_Mo_init_105 : decode b_Mo_init 105 = .ok (.aload_n 0, 1) := by decide +kernel
theorem d_Mo_init_106 : decode b_Mo_init 106 = .ok (.sipush 2560, 3) := by decide +kernel
theorem d_Mo_init_109 : decode b_Mo_init 109 = .ok (.newarray .long, 2) := by decide +kernel
theorem d_Mo_init_111 : decode b_Mo_init 111 = .ok (.putfield 48, 3) := by decide +kernel
theorem d_Mo_init_114 : decode b_Mo_init 114 = .ok (.aload_n 0, 1) := by decide +kernel
theorem d_Mo_init_115 : decode b_Mo_init 115 = .ok (.ldc 51, 2) := by decide +kernel
theorem d_Mo_init_117 : decode b_Mo_init 117 = .ok (.newarray .int, 2) := by decide +kernel
theorem d_Mo_init_119 : decode b_Mo_init 119 = .ok (.putfield 52, 3) := by decide +kernel
theorem d_Mo_init_122 : decode b_Mo_init 122 = .ok (.aload_n 0, 1) := by decide +kernel
theorem d_Mo_init_123 : decode b_Mo_init 123 = .ok (.bipush 20, 2) := by decide +kernel
theorem d_Mo_init_125 : decode b_Mo_init 125 = .ok (.newarray .int, 2) := by decide +kernel
theorem d_Mo_init_127 : decode b_Mo_init 127 = .ok (.putfield 55, 3) := by decide +kernel
theorem d_Mo_init_130 : decode b_Mo_init 130 = .ok (.aload_n 0, 1) := by decide +kernel
theorem d_Mo_init_131 : decode b_Mo_init 131 = .ok (.sipush 2400, 3) := by decide +kernel
theorem d_Mo_init_134 : decode b_Mo_init 134 = .ok (.newarray .int, 2) := by decide +kernel
theorem d_Mo_init_136 : decode b_Mo_init 136 = .ok (.putfield 58, 3) := by decide +kernel
theorem d_Mo_init_139 : decode b_Mo_init 139 = .ok (.aload_n 0, 1) := by decide +kernel
theorem d_Mo_init_140 : decode b_Mo_init 140 = .ok (.bipush 20, 2) := by decide +kernel
theorem d_Mo_init_142 : decode b_Mo_init 142 = .ok (.newarray .int, 2) := by decide +kernel
theorem d_Mo_init_144 : decode b_Mo_init 144 = .ok (.putfield 61, 3) := by decide +kernel
theorem d_Mo_init_147 : decode b_Mo_init 147 = .ok (.aload_n 0, 1) := by decide +kernel
theorem d_Mo_init_148 : decode b_Mo_init 148 = .ok (.sipush 20000, 3) := by decide +kernel
theorem d_Mo_init_151 : decode b_Mo_init 151 = .ok (.newarray .int, 2) := by decide +kernel
theorem d_Mo_init_153 : decode b_Mo_init 153 = .ok (.putfield 64, 3) := by decide +kernel
theorem d_Mo_init_156 : decode b_Mo_init 156 = .ok (.aload_n 0, 1) := by decide +kernel
theorem d_Mo_init_157 : decode b_Mo_init 157 = .ok (.bipush 16, 2) := by decide +kernel
theorem d_Mo_init_159 : decode b_Mo_init 159 = .ok (.newarray .long, 2) := by decide +kernel
theorem d_Mo_init_161 : decode b_Mo_init 161 = .ok (.putfield 67, 3) := by decide +kernel
theorem d_Mo_init_164 : decode b_Mo_init 164 = .ok (.aload_n 0, 1) := by decide +kernel
theorem d_Mo_init_165 : decode b_Mo_init 165 = .ok (.bipush 16, 2) := by decide +kernel
theorem d_Mo_init_167 : decode b_Mo_init 167 = .ok (.newarray .long, 2) := by decide +kernel
theorem d_Mo_init_169 : decode b_Mo_init 169 = .ok (.putfield 70, 3) := by decide +kernel
theorem d_Mo_init_172 : decode b_Mo_init 172 = .ok (.aload_n 0, 1) := by decide +kernel
theorem d_Mo_init_173 : decode b_Mo_init 173 = .ok (.ldc 73, 2) := by decide +kernel
theorem d_Mo_init_175 : decode b_Mo_init 175 = .ok (.newarray .long, 2) := by decide +kernel
theorem d_Mo_init_177 : decode b_Mo_init 177 = .ok (.putfield 74, 3) := by decide +kernel
theorem d_Mo_init_180 : decode b_Mo_init 180 = .ok (.aload_n 0, 1) := by decide +kernel
theorem d_Mo_init_181 : decode b_Mo_init 181 = .ok (.iload_n 1, 1) := by decide +kernel
theorem d_Mo_init_182 : decode b_Mo_init 182 = .ok (.iconst 1, 1) := by decide +kernel
theorem d_Mo_init_183 : decode b_Mo_init 183 = .ok (.if_icmp .ge 7, 3) := by decide +kernel
theorem d_Mo_init_186 : decode b_Mo_init 186 = .ok (.iconst 1, 1) := by decide +kernel
theorem d_Mo_init_187 : decode b_Mo_init 187 = .ok (.goto 17, 3) := by decide +kernel
theorem d_Mo_init_190 : decode b_Mo_init 190 = .ok (.iload_n 1, 1) := by decide +kernel
theorem d_Mo_init_191 : decode b_Mo_init 191 = .ok (.sipush 128, 3) := by decide +kernel
theorem d_Mo_init_194 : decode b_Mo_init 194 = .ok (.if_icmp .le 9, 3) := by decide +kernel
theorem d_Mo_init_197 : decode b_Mo_init 197 = .ok (.sipush 128, 3) := by decide +kernel
theorem d_Mo_init_200 : decode b_Mo_init 200 = .ok (.goto 4, 3) := by decide +kernel
theorem d_Mo_init_203 : decode b_Mo_init 203 = .ok (.iload_n 1, 1) := by decide +kernel
theorem d_Mo_init_204 : decode b_Mo_init 204 = .ok (.putfield 77, 3) := by decide +kernel
theorem d_Mo_init_207 : decode b_Mo_init 207 = .ok (.aload_n 0, 1) := by decide +kernel
theorem d_Mo_init_208 : decode b_Mo_init 208 = .ok (.iload_n 2, 1) := by decide +kernel
theorem d_Mo_init_209 : decode b_Mo_init 209 = .ok (.iconst 1, 1) := by decide +kernel
theorem d_Mo_init_210 : decode b_Mo_init 210 = .ok (.if_icmp .ge 7, 3) := by decide +kernel
theorem d_Mo_init_213 : decode b_Mo_init 213 = .ok (.iconst 1, 1) := by decide +kernel
theorem d_Mo_init_214 : decode b_Mo_init 214 = .ok (.goto 15, 3) := by decide +kernel
theorem d_Mo_init_217 : decode b_Mo_init 217 = .ok (.iload_n 2, 1) := by decide +kernel
theorem d_Mo_init_218 : decode b_Mo_init 218 = .ok (.bipush 60, 2) := by decide +kernel
theorem d_Mo_init_220 : decode b_Mo_init 220 = .ok (.if_icmp .le 8, 3) := by decide +kernel
theorem d_Mo_init_223 : decode b_Mo_init 223 = .ok (.bipush 60, 2) := by decide +kernel
theorem d_Mo_init_225 : decode b_Mo_init 225 = .ok (.goto 4, 3) := by decide +kernel
theorem d_Mo_init_228 : decode b_Mo_init 228 = .ok (.iload_n 2, 1) := by decide +kernel
theorem d_Mo_init_229 : decode b_Mo_init 229 = .ok (.putfield 81, 3) := by decide +kernel
theorem d_Mo_init_232 : decode b_Mo_init 232 = .ok (.iconst 0, 1) := by decide +kernel
theorem d_Mo_init_233 : decode b_Mo_init 233 = .ok (.istore_n 3, 1) := by decide +kernel
theorem d_Mo_init_234 : decode b_Mo_init 234 = .ok (.iload_n 3, 1) := by decide +kernel
theorem d_Mo_init_235 : decode b_Mo_init 235 = .ok (.aload_n 0, 1) := by decide +kernel
theorem d_Mo_init_236 : decode b_Mo_init 236 = .ok (.getfield 77, 3) := by decide +kernel
theorem d_Mo_init_239 : decode b_Mo_init 239 = .ok (.if_icmp .ge 23, 3) := by decide +kernel
theorem d_Mo_init_242 : decode b_Mo_init 242 = .ok (.aload_n 0, 1) := by decide +kernel
theorem d_Mo_init_243 : decode b_Mo_init 243 = .ok (.getfield 7, 3) := by decide +kernel
theorem d_Mo_init_246 : decode b_Mo_init 246 = .ok (.iload_n 3, 1) := by decide +kernel
theorem d_Mo_init_247 : decode b_Mo_init 247 = .ok (.lconst 1, 1) := by decide +kernel
theorem d_Mo_init_248 : decode b_Mo_init 248 = .ok (.aload_n 0, 1) := by decide +kernel
theorem d_Mo_init_249 : decode b_Mo_init 249 = .ok (.getfield 81, 3) := by decide +kernel
theorem d_Mo_init_252 : decode b_Mo_init 252 = .ok (.lshl, 1) := by decide +kernel
theorem d_Mo_init_253 : decode b_Mo_init 253 = .ok (.lconst 1, 1) := by decide +kernel
theorem d_Mo_init_254 : decode b_Mo_init 254 = .ok (.lsub, 1) := by decide +kernel
theorem d_Mo_init_255 : decode b_Mo_init 255 = .ok (.lastore, 1) := by decide +kernel
theorem d_Mo_init_256 : decode b_Mo_init 256 = .ok (.iinc 3 1, 3) := by decide +kernel
theorem d_Mo_init_259 : decode b_Mo_init 259 = .ok (.goto (-25), 3) := by decide +kernel
theorem d_Mo_init_262 : decode b_Mo_init 262 = .ok (.return_, 1) := by decide +kernel
