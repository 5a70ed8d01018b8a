theorem d_Kernel_keepRising_0 : decode b_Kernel_keepRising 0 = .ok (.iconst (-1), 1) := by decide +kernel
theorem d_Kernel_keepRising_1 : decode b_Kernel_keepRising 1 = .ok (.istore_n 2, 1) := by decide +kernel
theorem d_Kernel_keepRising_2 : decode b_Kernel_keepRising 2 = .ok (.iconst 0, 1) := by decide +kernel
theorem d_Kernel_keepRising_3 : decode b_Kernel_keepRising 3 = .ok (.istore_n 3, 1) := by decide +kernel
theorem d_Kernel_keepRising_4 : decode b_Kernel_keepRising 4 = .ok (.iload_n 3, 1) := by decide +kernel
theorem d_Kernel_keepRising_5 : decode b_Kernel_keepRising 5 = .ok (.iload_n 1, 1) := by decide +kernel
theorem d_Kernel_keepRising_6 : decode b_Kernel_keepRising 6 = .ok (.if_icmp .ge 56, 3) := by decide +kernel
theorem d_Kernel_keepRising_9 : decode b_Kernel_keepRising 9 = .ok (.aload_n 0, 1) := by decide +kernel
theorem d_Kernel_keepRising_10 : decode b_Kernel_keepRising 10 = .ok (.getfield 19, 3) := by decide +kernel
theorem d_Kernel_keepRising_13 : decode b_Kernel_keepRising 13 = .ok (.iload_n 3, 1) := by decide +kernel
theorem d_Kernel_keepRising_14 : decode b_Kernel_keepRising 14 = .ok (.dup2, 1) := by decide +kernel
theorem d_Kernel_keepRising_15 : decode b_Kernel_keepRising 15 = .ok (.laload, 1) := by decide +kernel
theorem d_Kernel_keepRising_16 : decode b_Kernel_keepRising 16 = .ok (.iload_n 2, 1) := by decide +kernel
theorem d_Kernel_keepRising_17 : decode b_Kernel_keepRising 17 = .ok (.iconst 1, 1) := by decide +kernel
theorem d_Kernel_keepRising_18 : decode b_Kernel_keepRising 18 = .ok (.iadd, 1) := by decide +kernel
theorem d_Kernel_keepRising_19 : decode b_Kernel_keepRising 19 = .ok (.invokestatic 123, 3) := by decide +kernel
theorem d_Kernel_keepRising_22 : decode b_Kernel_keepRising 22 = .ok (.ldc2_w 87, 3) := by decide +kernel
theorem d_Kernel_keepRising_25 : decode b_Kernel_keepRising 25 = .ok (.lxor, 1) := by decide +kernel
theorem d_Kernel_keepRising_26 : decode b_Kernel_keepRising 26 = .ok (.land, 1) := by decide +kernel
theorem d_Kernel_keepRising_27 : decode b_Kernel_keepRising 27 = .ok (.lastore, 1) := by decide +kernel
theorem d_Kernel_keepRising_28 : decode b_Kernel_keepRising 28 = .ok (.aload_n 0, 1) := by decide +kernel
theorem d_Kernel_keepRising_29 : decode b_Kernel_keepRising 29 = .ok (.getfield 19, 3) := by decide +kernel
theorem d_Kernel_keepRising_32 : decode b_Kernel_keepRising 32 = .ok (.iload_n 3, 1) := by decide +kernel
theorem d_Kernel_keepRising_33 : decode b_Kernel_keepRising 33 = .ok (.laload, 1) := by decide +kernel
theorem d_Kernel_keepRising_34 : decode b_Kernel_keepRising 34 = .ok (.lconst 0, 1) := by decide +kernel
theorem d_Kernel_keepRising_35 : decode b_Kernel_keepRising 35 = .ok (.lcmp, 1) := by decide +kernel
theorem d_Kernel_keepRising_36 : decode b_Kernel_keepRising 36 = .ok (.ifCond .ne 10, 3) := by decide +kernel
theorem d_Kernel_keepRising_39 : decode b_Kernel_keepRising 39 = .ok (.aload_n 0, 1) := by decide +kernel
theorem d_Kernel_keepRising_40 : decode b_Kernel_keepRising 40 = .ok (.getfield 9, 3) := by decide +kernel
theorem d_Kernel_keepRising_43 : decode b_Kernel_keepRising 43 = .ok (.goto 12, 3) := by decide +kernel
theorem d_Kernel_keepRising_46 : decode b_Kernel_keepRising 46 = .ok (.aload_n 0, 1) := by decide +kernel
theorem d_Kernel_keepRising_47 : decode b_Kernel_keepRising 47 = .ok (.getfield 19, 3) := by decide +kernel
theorem d_Kernel_keepRising_50 : decode b_Kernel_keepRising 50 = .ok (.iload_n 3, 1) := by decide +kernel
theorem d_Kernel_keepRising_51 : decode b_Kernel_keepRising 51 = .ok (.laload, 1) := by decide +kernel
theorem d_Kernel_keepRising_52 : decode b_Kernel_keepRising 52 = .ok (.invokestatic 108, 3) := by decide +kernel
theorem d_Kernel_keepRising_55 : decode b_Kernel_keepRising 55 = .ok (.istore_n 2, 1) := by decide +kernel
theorem d_Kernel_keepRising_56 : decode b_Kernel_keepRising 56 = .ok (.iinc 3 1, 3) := by decide +kernel
theorem d_Kernel_keepRising_59 : decode b_Kernel_keepRising 59 = .ok (.goto (-55), 3) := by decide +kernel
theorem d_Kernel_keepRising_62 : decode b_Kernel_keepRising 62 = .ok (.aload_n 0, 1) := by decide +kernel
theorem d_Kernel_keepRising_63 : decode b_Kernel_keepRising 63 = .ok (.getfield 9, 3) := by decide +kernel
theorem d_Kernel_keepRising_66 : decode b_Kernel_keepRising 66 = .ok (.istore_n 3, 1) := by decide +kernel
theorem d_Kernel_keepRising_67 : decode b_Kernel_keepRising 67 = .ok (.iload_n 1, 1) := by decide +kernel
theorem d_Kernel_keepRising_68 : decode b_Kernel_keepRising 68 = .ok (.iconst 1, 1) := by decide +kernel
theorem d_Kernel_keepRising_69 : decode b_Kernel_keepRising 69 = .ok (.isub, 1) := by decide +kernel
theorem d_Kernel_keepRising_70 : decode b_Kernel_keepRising 70 = .ok (.istore 4, 2) := by decide +kernel
theorem d_Kernel_keepRising_72 : decode b_Kernel_keepRising 72 = .ok (.iload 4, 2) := by decide +kernel
theorem d_Kernel_keepRising_74 : decode b_Kernel_keepRising 74 = .ok (.ifCond .lt 54, 3) := by decide +kernel
theorem d_Kernel_keepRising_77 : decode b_Kernel_keepRising 77 = .ok (.aload_n 0, 1) := by decide +kernel
theorem d_Kernel_keepRising_78 : decode b_Kernel_keepRising 78 = .ok (.getfield 15, 3) := by decide +kernel
theorem d_Kernel_keepRising_81 : decode b_Kernel_keepRising 81 = .ok (.iload 4, 2) := by decide +kernel
theorem d_Kernel_keepRising_83 : decode b_Kernel_keepRising 83 = .ok (.laload, 1) := by decide +kernel
theorem d_Kernel_keepRising_84 : decode b_Kernel_keepRising 84 = .ok (.iload_n 3, 1) := by decide +kernel
theorem d_Kernel_keepRising_85 : decode b_Kernel_keepRising 85 = .ok (.invokestatic 123, 3) := by decide +kernel
theorem d_Kernel_keepRising_88 : decode b_Kernel_keepRising 88 = .ok (.land, 1) := by decide +kernel
theorem d_Kernel_keepRising_89 : decode b_Kernel_keepRising 89 = .ok (.lstore 5, 2) := by decide +kernel
theorem d_Kernel_keepRising_91 : decode b_Kernel_keepRising 91 = .ok (.aload_n 0, 1) := by decide +kernel
theorem d_Kernel_keepRising_92 : decode b_Kernel_keepRising 92 = .ok (.getfield 19, 3) := by decide +kernel
theorem d_Kernel_keepRising_95 : decode b_Kernel_keepRising 95 = .ok (.iload 4, 2) := by decide +kernel
theorem d_Kernel_keepRising_97 : decode b_Kernel_keepRising 97 = .ok (.dup2, 1) := by decide +kernel
theorem d_Kernel_keepRising_98 : decode b_Kernel_keepRising 98 = .ok (.laload, 1) := by decide +kernel
theorem d_Kernel_keepRising_99 : decode b_Kernel_keepRising 99 = .ok (.iload_n 3, 1) := by decide +kernel
theorem d_Kernel_keepRising_100 : decode b_Kernel_keepRising 100 = .ok (.invokestatic 123, 3) := by decide +kernel
theorem d_Kernel_keepRising_103 : decode b_Kernel_keepRising 103 = .ok (.land, 1) := by decide +kernel
theorem d_Kernel_keepRising_104 : decode b_Kernel_keepRising 104 = .ok (.lastore, 1) := by decide +kernel
theorem d_Kernel_keepRising_105 : decode b_Kernel_keepRising 105 = .ok (.lload 5, 2) := by decide +kernel
theorem d_Kernel_keepRising_107 : decode b_Kernel_keepRising 107 = .ok (.lconst 0, 1) := by decide +kernel
theorem d_Kernel_keepRising_108 : decode b_Kernel_keepRising 108 = .ok (.lcmp, 1) := by decide +kernel
theorem d_Kernel_keepRising_109 : decode b_Kernel_keepRising 109 = .ok (.ifCond .ne 7, 3) := by decide +kernel
theorem d_Kernel_keepRising_112 : decode b_Kernel_keepRising 112 = .ok (.iconst 0, 1) := by decide +kernel
theorem d_Kernel_keepRising_113 : decode b_Kernel_keepRising 113 = .ok (.goto 8, 3) := by decide +kernel
theorem d_Kernel_keepRising_116 : decode b_Kernel_keepRising 116 = .ok (.lload 5, 2) := by decide +kernel
theorem d_Kernel_keepRising_118 : decode b_Kernel_keepRising 118 = .ok (.invokestatic 112, 3) := by decide +kernel
theorem d_Kernel_keepRising_121 : decode b_Kernel_keepRising 121 = .ok (.istore_n 3, 1) := by decide +kernel
theorem d_Kernel_keepRising_122 : decode b_Kernel_keepRising 122 = .ok (.iinc 4 (-1), 3) := by decide +kernel
theorem d_Kernel_keepRising_125 : decode b_Kernel_keepRising 125 = .ok (.goto (-53), 3) := by decide +kernel
theorem d_Kernel_keepRising_128 : decode b_Kernel_keepRising 128 = .ok (.return_, 1) := by decide +kernel
theorem d_Kernel_keepApart_0 : decode b_Kernel_keepApart 0 = .ok (.aload_n 1, 1) := by decide +kernel
theorem d_Kernel_keepApart_1 : decode b_Kernel_keepApart 1 = .ok (.getfield 35, 3) := by decide +kernel
theorem d_Kernel_keepApart_4 : decode b_Kernel_keepApart 4 = .ok (.iconst 2, 1) := by decide +kernel
theorem d_Kernel_keepApart_5 : decode b_Kernel_keepApart 5 = .ok (.if_icmp .eq 4, 3) := by decide +kernel
theorem d_Kernel_keepApart_8 : decode b_Kernel_keepApart 8 = .ok (.return_, 1) := by decide +kernel
theorem d_Kernel_keepApart_9 : decode b_Kernel_keepApart 9 = .ok (.aload_n 1, 1) := by decide +kernel
theorem d_Kernel_keepApart_10 : decode b_Kernel_keepApart 10 = .ok (.getfield 100, 3) := by decide +kernel
theorem d_Kernel_keepApart_13 : decode b_Kernel_keepApart 13 = .ok (.invokestatic 126, 3) := by decide +kernel
theorem d_Kernel_keepApart_16 : decode b_Kernel_keepApart 16 = .ok (.lstore_n 2, 1) := by decide +kernel
theorem d_Kernel_keepApart_17 : decode b_Kernel_keepApart 17 = .ok (.lload_n 2, 1) := by decide +kernel
theorem d_Kernel_keepApart_18 : decode b_Kernel_keepApart 18 = .ok (.aload_n 0, 1) := by decide +kernel
theorem d_Kernel_keepApart_19 : decode b_Kernel_keepApart 19 = .ok (.getfield 9, 3) := by decide +kernel
theorem d_Kernel_keepApart_22 : decode b_Kernel_keepApart 22 = .ok (.i2l, 1) := by decide +kernel
theorem d_Kernel_keepApart_23 : decode b_Kernel_keepApart 23 = .ok (.lcmp, 1) := by decide +kernel
theorem d_Kernel_keepApart_24 : decode b_Kernel_keepApart 24 = .ok (.ifCond .lt 8, 3) := by decide +kernel
theorem d_Kernel_keepApart_27 : decode b_Kernel_keepApart 27 = .ok (.aload_n 0, 1) := by decide +kernel
theorem d_Kernel_keepApart_28 : decode b_Kernel_keepApart 28 = .ok (.invokevirtual 76, 3) := by decide +kernel
theorem d_Kernel_keepApart_31 : decode b_Kernel_keepApart 31 = .ok (.return_, 1) := by decide +kernel
theorem d_Kernel_keepApart_32 : decode b_Kernel_keepApart 32 = .ok (.aload_n 0, 1) := by decide +kernel
theorem d_Kernel_keepApart_33 : decode b_Kernel_keepApart 33 = .ok (.getfield 19, 3) := by decide +kernel
theorem d_Kernel_keepApart_36 : decode b_Kernel_keepApart 36 = .ok (.iconst 0, 1) := by decide +kernel
theorem d_Kernel_keepApart_37 : decode b_Kernel_keepApart 37 = .ok (.dup2, 1) := by decide +kernel
theorem d_Kernel_keepApart_38 : decode b_Kernel_keepApart 38 = .ok (.laload, 1) := by decide +kernel
theorem d_Kernel_keepApart_39 : decode b_Kernel_keepApart 39 = .ok (.aload_n 0, 1) := by decide +kernel
theorem d_Kernel_keepApart_40 : decode b_Kernel_keepApart 40 = .ok (.getfield 15, 3) := by decide +kernel
theorem d_Kernel_keepApart_43 : decode b_Kernel_keepApart 43 = .ok (.iconst 1, 1) := by decide +kernel
theorem d_Kernel_keepApart_44 : decode b_Kernel_keepApart 44 = .ok (.laload, 1) := by decide +kernel
theorem d_Kernel_keepApart_45 : decode b_Kernel_keepApart 45 = .ok (.lload_n 2, 1) := by decide +kernel
theorem d_Kernel_keepApart_46 : decode b_Kernel_keepApart 46 = .ok (.l2i, 1) := by decide +kernel
theorem d_Kernel_keepApart_47 : decode b_Kernel_keepApart 47 = .ok (.lshl, 1) := by decide +kernel
theorem d_Kernel_keepApart_48 : decode b_Kernel_keepApart 48 = .ok (.aload_n 0, 1) := by decide +kernel
theorem d_Kernel_keepApart_49 : decode b_Kernel_keepApart 49 = .ok (.getfield 15, 3) := by decide +kernel
theorem d_Kernel_keepApart_52 : decode b_Kernel_keepApart 52 = .ok (.iconst 1, 1) := by decide +kernel
theorem d_Kernel_keepApart_53 : decode b_Kernel_keepApart 53 = .ok (.laload, 1) := by decide +kernel
theorem d_Kernel_keepApart_54 : decode b_Kernel_keepApart 54 = .ok (.lload_n 2, 1) := by decide +kernel
theorem d_Kernel_keepApart_55 : decode b_Kernel_keepApart 55 = .ok (.l2i, 1) := by decide +kernel
theorem d_Kernel_keepApart_56 : decode b_Kernel_keepApart 56 = .ok (.lushr, 1) := by decide +kernel
theorem d_Kernel_keepApart_57 : decode b_Kernel_keepApart 57 = .ok (.lor, 1) := by decide +kernel
theorem d_Kernel_keepApart_58 : decode b_Kernel_keepApart 58 = .ok (.land, 1) := by decide +kernel
theorem d_Kernel_keepApart_59 : decode b_Kernel_keepApart 59 = .ok (.lastore, 1) := by decide +kernel
theorem d_Kernel_keepApart_60 : decode b_Kernel_keepApart 60 = .ok (.aload_n 0, 1) := by decide +kernel
theorem d_Kernel_keepApart_61 : decode b_Kernel_keepApart 61 = .ok (.getfield 19, 3) := by decide +kernel
theorem d_Kernel_keepApart_64 : decode b_Kernel_keepApart 64 = .ok (.iconst 1, 1) := by decide +kernel
theorem d_Kernel_keepApart_65 : decode b_Kernel_keepApart 65 = .ok (.dup2, 1) := by decide +kernel
theorem d_Kernel_keepApart_66 : decode b_Kernel_keepApart 66 = .ok (.laload, 1) := by decide +kernel
theorem d_Kernel_keepApart_67 : decode b_Kernel_keepApart 67 = .ok (.aload_n 0, 1) := by decide +kernel
theorem d_Kernel_keepApart_68 : decode b_Kernel_keepApart 68 = .ok (.getfield 15, 3) := by decide +kernel
theorem d_Kernel_keepApart_71 : decode b_Kernel_keepApart 71 = .ok (.iconst 0, 1) := by decide +kernel
theorem d_Kernel_keepApart_72 : decode b_Kernel_keepApart 72 = .ok (.laload, 1) := by decide +kernel
theorem d_Kernel_keepApart_73 : decode b_Kernel_keepApart 73 = .ok (.lload_n 2, 1) := by decide +kernel
theorem d_Kernel_keepApart_74 : decode b_Kernel_keepApart 74 = .ok (.l2i, 1) := by decide +kernel
theorem d_Kernel_keepApart_75 : decode b_Kernel_keepApart 75 = .ok (.lshl, 1) := by decide +kernel
theorem d_Kernel_keepApart_76 : decode b_Kernel_keepApart 76 = .ok (.aload_n 0, 1) := by decide +kernel
theorem d_Kernel_keepApart_77 : decode b_Kernel_keepApart 77 = .ok (.getfield 15, 3) := by decide +kernel
theorem d_Kernel_keepApart_80 : decode b_Kernel_keepApart 80 = .ok (.iconst 0, 1) := by decide +kernel
theorem d_Kernel_keepApart_81 : decode b_Kernel_keepApart 81 = .ok (.laload, 1) := by decide +kernel
theorem d_Kernel_keepApart_82 : decode b_Kernel_keepApart 82 = .ok (.lload_n 2, 1) := by decide +kernel
theorem d_Kernel_keepApart_83 : decode b_Kernel_keepApart 83 = .ok (.l2i, 1) := by decide +kernel
theorem d_Kernel_keepApart_84 : decode b_Kernel_keepApart 84 = .ok (.lushr, 1) := by decide +kernel
theorem d_Kernel_keepApart_85 : decode b_Kernel_keepApart 85 = .ok (.lor, 1) := by decide +kernel
theorem d_Kernel_keepApart_86 : decode b_Kernel_keepApart 86 = .ok (.land, 1) := by decide +kernel
theorem d_Kernel_keepApart_87 : decode b_Kernel_keepApart 87 = .ok (.lastore, 1) := by decide +kernel
theorem d_Kernel_keepApart_88 : decode b_Kernel_keepApart 88 = .ok (.return_, 1) := by decide +kernel
theorem d_Kernel_keepTable_0 : decode b_Kernel_keepTable 0 = .ok (.aload_n 1, 1) := by decide +kernel
theorem d_Kernel_keepTable_1 : decode b_Kernel_keepTable 1 = .ok (.getfield 35, 3) := by decide +kernel
theorem d_Kernel_keepTable_4 : decode b_Kernel_keepTable 4 = .ok (.iconst 2, 1) := by decide +kernel
theorem d_Kernel_keepTable_5 : decode b_Kernel_keepTable 5 = .ok (.if_icmp .eq 4, 3) := by decide +kernel
theorem d_Kernel_keepTable_8 : decode b_Kernel_keepTable 8 = .ok (.return_, 1) := by decide +kernel
theorem d_Kernel_keepTable_9 : decode b_Kernel_keepTable 9 = .ok (.lconst 0, 1) := by decide +kernel
theorem d_Kernel_keepTable_10 : decode b_Kernel_keepTable 10 = .ok (.lstore_n 2, 1) := by decide +kernel
theorem d_Kernel_keepTable_11 : decode b_Kernel_keepTable 11 = .ok (.lconst 0, 1) := by decide +kernel
theorem d_Kernel_keepTable_12 : decode b_Kernel_keepTable 12 = .ok (.lstore 4, 2) := by decide +kernel
theorem d_Kernel_keepTable_14 : decode b_Kernel_keepTable 14 = .ok (.iconst 0, 1) := by decide +kernel
theorem d_Kernel_keepTable_15 : decode b_Kernel_keepTable 15 = .ok (.istore 6, 2) := by decide +kernel
theorem d_Kernel_keepTable_17 : decode b_Kernel_keepTable 17 = .ok (.iload 6, 2) := by decide +kernel
theorem d_Kernel_keepTable_19 : decode b_Kernel_keepTable 19 = .ok (.aload_n 1, 1) := by decide +kernel
theorem d_Kernel_keepTable_20 : decode b_Kernel_keepTable 20 = .ok (.getfield 132, 3) := by decide +kernel
theorem d_Kernel_keepTable_23 : decode b_Kernel_keepTable 23 = .ok (.arraylength, 1) := by decide +kernel
theorem d_Kernel_keepTable_24 : decode b_Kernel_keepTable 24 = .ok (.if_icmp .ge 60, 3) := by decide +kernel
theorem d_Kernel_keepTable_27 : decode b_Kernel_keepTable 27 = .ok (.aload_n 1, 1) := by decide +kernel
theorem d_Kernel_keepTable_28 : decode b_Kernel_keepTable 28 = .ok (.getfield 132, 3) := by decide +kernel
theorem d_Kernel_keepTable_31 : decode b_Kernel_keepTable 31 = .ok (.iload 6, 2) := by decide +kernel
theorem d_Kernel_keepTable_33 : decode b_Kernel_keepTable 33 = .ok (.laload, 1) := by decide +kernel
theorem d_Kernel_keepTable_34 : decode b_Kernel_keepTable 34 = .ok (.aload_n 0, 1) := by decide +kernel
theorem d_Kernel_keepTable_35 : decode b_Kernel_keepTable 35 = .ok (.getfield 15, 3) := by decide +kernel
theorem d_Kernel_keepTable_38 : decode b_Kernel_keepTable 38 = .ok (.iconst 1, 1) := by decide +kernel
theorem d_Kernel_keepTable_39 : decode b_Kernel_keepTable 39 = .ok (.laload, 1) := by decide +kernel
theorem d_Kernel_keepTable_40 : decode b_Kernel_keepTable 40 = .ok (.land, 1) := by decide +kernel
theorem d_Kernel_keepTable_41 : decode b_Kernel_keepTable 41 = .ok (.lstore 7, 2) := by decide +kernel
theorem d_Kernel_keepTable_43 : decode b_Kernel_keepTable 43 = .ok (.aload_n 0, 1) := by decide +kernel
theorem d_Kernel_keepTable_44 : decode b_Kernel_keepTable 44 = .ok (.getfield 15, 3) := by decide +kernel
theorem d_Kernel_keepTable_47 : decode b_Kernel_keepTable 47 = .ok (.iconst 0, 1) := by decide +kernel
theorem d_Kernel_keepTable_48 : decode b_Kernel_keepTable 48 = .ok (.laload, 1) := by decide +kernel
theorem d_Kernel_keepTable_49 : decode b_Kernel_keepTable 49 = .ok (.iload 6, 2) := by decide +kernel
theorem d_Kernel_keepTable_51 : decode b_Kernel_keepTable 51 = .ok (.invokestatic 115, 3) := by decide +kernel
theorem d_Kernel_keepTable_54 : decode b_Kernel_keepTable 54 = .ok (.ifCond .eq 24, 3) := by decide +kernel
theorem d_Kernel_keepTable_57 : decode b_Kernel_keepTable 57 = .ok (.lload 7, 2) := by decide +kernel
theorem d_Kernel_keepTable_59 : decode b_Kernel_keepTable 59 = .ok (.lconst 0, 1) := by decide +kernel
theorem d_Kernel_keepTable_60 : decode b_Kernel_keepTable 60 = .ok (.lcmp, 1) := by decide +kernel
theorem d_Kernel_keepTable_61 : decode b_Kernel_keepTable 61 = .ok (.ifCond .eq 17, 3) := by decide +kernel
theorem d_Kernel_keepTable_64 : decode b_Kernel_keepTable 64 = .ok (.lload_n 2, 1) := by decide +kernel
theorem d_Kernel_keepTable_65 : decode b_Kernel_keepTable 65 = .ok (.lconst 1, 1) := by decide +kernel
theorem d_Kernel_keepTable_66 : decode b_Kernel_keepTable 66 = .ok (.iload 6, 2) := by decide +kernel
theorem d_Kernel_keepTable_68 : decode b_Kernel_keepTable 68 = .ok (.lshl, 1) := by decide +kernel
theorem d_Kernel_keepTable_69 : decode b_Kernel_keepTable 69 = .ok (.lor, 1) := by decide +kernel
theorem d_Kernel_keepTable_70 : decode b_Kernel_keepTable 70 = .ok (.lstore_n 2, 1) := by decide +kernel
theorem d_Kernel_keepTable_71 : decode b_Kernel_keepTable 71 = .ok (.lload 4, 2) := by decide +kernel
theorem d_Kernel_keepTable_73 : decode b_Kernel_keepTable 73 = .ok (.lload 7, 2) := by decide +kernel
theorem d_Kernel_keepTable_75 : decode b_Kernel_keepTable 75 = .ok (.lor, 1) := by decide +kernel
theorem d_Kernel_keepTable_76 : decode b_Kernel_keepTable 76 = .ok (.lstore 4, 2) := by decide +kernel
theorem d_Kernel_keepTable_78 : decode b_Kernel_keepTable 78 = .ok (.iinc 6 1, 3) := by decide +kernel
theorem d_Kernel_keepTable_81 : decode b_Kernel_keepTable 81 = .ok (.goto (-64), 3) := by decide +kernel
theorem d_Kernel_keepTable_84 : decode b_Kernel_keepTable 84 = .ok (.aload_n 0, 1) := by decide +kernel
theorem d_Kernel_keepTable_85 : decode b_Kernel_keepTable 85 = .ok (.getfield 19, 3) := by decide +kernel
theorem d_Kernel_keepTable_88 : decode b_Kernel_keepTable 88 = .ok (.iconst 0, 1) := by decide +kernel
theorem d_Kernel_keepTable_89 : decode b_Kernel_keepTable 89 = .ok (.lload_n 2, 1) := by decide +kernel
theorem d_Kernel_keepTable_90 : decode b_Kernel_keepTable 90 = .ok (.lastore, 1) := by decide +kernel
theorem d_Kernel_keepTable_91 : decode b_Kernel_keepTable 91 = .ok (.aload_n 0, 1) := by decide +kernel
theorem d_Kernel_keepTable_92 : decode b_Kernel_keepTable 92 = .ok (.getfield 19, 3) := by decide +kernel
theorem d_Kernel_keepTable_95 : decode b_Kernel_keepTable 95 = .ok (.iconst 1, 1) := by decide +kernel
theorem d_Kernel_keepTable_96 : decode b_Kernel_keepTable 96 = .ok (.lload 4, 2) := by decide +kernel
theorem d_Kernel_keepTable_98 : decode b_Kernel_keepTable 98 = .ok (.lastore, 1) := by decide +kernel
theorem d_Kernel_keepTable_99 : decode b_Kernel_keepTable 99 = .ok (.return_, 1) := by decide +kernel
theorem d_Kernel_decide_0 : decode b_Kernel_decide 0 = .ok (.aload_n 0, 1) := by decide +kernel
theorem d_Kernel_decide_1 : decode b_Kernel_decide 1 = .ok (.getfield 15, 3) := by decide +kernel
theorem d_Kernel_decide_4 : decode b_Kernel_decide 4 = .ok (.iconst 0, 1) := by decide +kernel
theorem d_Kernel_decide_5 : decode b_Kernel_decide 5 = .ok (.aload_n 0, 1) := by decide +kernel
theorem d_Kernel_decide_6 : decode b_Kernel_decide 6 = .ok (.getfield 19, 3) := by decide +kernel
theorem d_Kernel_decide_9 : decode b_Kernel_decide 9 = .ok (.iconst 0, 1) := by decide +kernel
theorem d_Kernel_decide_10 : decode b_Kernel_decide 10 = .ok (.aload_n 0, 1) := by decide +kernel
theorem d_Kernel_decide_11 : decode b_Kernel_decide 11 = .ok (.getfield 15, 3) := by decide +kernel
theorem d_Kernel_decide_14 : decode b_Kernel_decide 14 = .ok (.arraylength, 1) := by decide +kernel
theorem d_Kernel_decide_15 : decode b_Kernel_decide 15 = .ok (.invokestatic 29, 3) := by decide +kernel
theorem d_Kernel_decide_18 : decode b_Kernel_decide 18 = .ok (.aload_n 1, 1) := by decide +kernel
theorem d_Kernel_decide_19 : decode b_Kernel_decide 19 = .ok (.getfield 35, 3) := by decide +kernel
theorem d_Kernel_decide_22 : decode b_Kernel_decide 22 = .ok (.ifCond .ne 4, 3) := by decide +kernel
theorem d_Kernel_decide_25 : decode b_Kernel_decide 25 = .ok (.return_, 1) := by decide +kernel
theorem d_Kernel_decide_26 : decode b_Kernel_decide 26 = .ok (.aload_n 1, 1) := by decide +kernel
theorem d_Kernel_decide_27 : decode b_Kernel_decide 27 = .ok (.getfield 40, 3) := by decide +kernel
theorem d_Kernel_decide_30 : decode b_Kernel_decide 30 = .ok (.tableswitch 111 0 7 #[46, 57, 68, 68, 76, 84, 95, 103], 46) := by decide +kernel
theorem d_Kernel_decide_76 : decode b_Kernel_decide 76 = .ok (.aload_n 0, 1) := by decide +kernel
theorem d_Kernel_decide_77 : decode b_Kernel_decide 77 = .ok (.aload_n 1, 1) := by decide +kernel
theorem d_Kernel_decide_78 : decode b_Kernel_decide 78 = .ok (.getfield 35, 3) := by decide +kernel
theorem d_Kernel_decide_81 : decode b_Kernel_decide 81 = .ok (.invokevirtual 43, 3) := by decide +kernel
theorem d_Kernel_decide_84 : decode b_Kernel_decide 84 = .ok (.goto 57, 3) := by decide +kernel
theorem d_Kernel_decide_87 : decode b_Kernel_decide 87 = .ok (.aload_n 0, 1) := by decide +kernel
theorem d_Kernel_decide_88 : decode b_Kernel_decide 88 = .ok (.aload_n 1, 1) := by decide +kernel
theorem d_Kernel_decide_89 : decode b_Kernel_decide 89 = .ok (.getfield 35, 3) := by decide +kernel
theorem d_Kernel_decide_92 : decode b_Kernel_decide 92 = .ok (.invokevirtual 47, 3) := by decide +kernel
theorem d_Kernel_decide_95 : decode b_Kernel_decide 95 = .ok (.goto 46, 3) := by decide +kernel
theorem d_Kernel_decide_98 : decode b_Kernel_decide 98 = .ok (.aload_n 0, 1) := by decide +kernel
theorem d_Kernel_decide_99 : decode b_Kernel_decide 99 = .ok (.aload_n 1, 1) := by decide +kernel
theorem d_Kernel_decide_100 : decode b_Kernel_decide 100 = .ok (.invokevirtual 50, 3) := by decide +kernel
theorem d_Kernel_decide_103 : decode b_Kernel_decide 103 = .ok (.goto 38, 3) := by decide +kernel
theorem d_Kernel_decide_106 : decode b_Kernel_decide 106 = .ok (.aload_n 0, 1) := by decide +kernel
theorem d_Kernel_decide_107 : decode b_Kernel_decide 107 = .ok (.aload_n 1, 1) := by decide +kernel
theorem d_Kernel_decide_108 : decode b_Kernel_decide 108 = .ok (.invokevirtual 54, 3) := by decide +kernel
theorem d_Kernel_decide_111 : decode b_Kernel_decide 111 = .ok (.goto 30, 3) := by decide +kernel
theorem d_Kernel_decide_114 : decode b_Kernel_decide 114 = .ok (.aload_n 0, 1) := by decide +kernel
theorem d_Kernel_decide_115 : decode b_Kernel_decide 115 = .ok (.aload_n 1, 1) := by decide +kernel
theorem d_Kernel_decide_116 : decode b_Kernel_decide 116 = .ok (.getfield 35, 3) := by decide +kernel
theorem d_Kernel_decide_119 : decode b_Kernel_decide 119 = .ok (.invokevirtual 57, 3) := by decide +kernel
theorem d_Kernel_decide_122 : decode b_Kernel_decide 122 = .ok (.goto 19, 3) := by decide +kernel
theorem d_Kernel_decide_125 : decode b_Kernel_decide 125 = .ok (.aload_n 0, 1) := by decide +kernel
theorem d_Kernel_decide_126 : decode b_Kernel_decide 126 = .ok (.aload_n 1, 1) := by decide +kernel
theorem d_Kernel_decide_127 : decode b_Kernel_decide 127 = .ok (.invokevirtual 60, 3) := by decide +kernel
theorem d_Kernel_decide_130 : decode b_Kernel_decide 130 = .ok (.goto 11, 3) := by decide +kernel
theorem d_Kernel_decide_133 : decode b_Kernel_decide 133 = .ok (.aload_n 0, 1) := by decide +kernel
theorem d_Kernel_decide_134 : decode b_Kernel_decide 134 = .ok (.aload_n 1, 1) := by decide +kernel
theorem d_Kernel_decide_135 : decode b_Kernel_decide 135 = .ok (.invokevirtual 63, 3) := by decide +kernel
theorem d_Kernel_decide_138 : decode b_Kernel_decide 138 = .ok (.goto 3, 3) := by decide +kernel
theorem d_Kernel_decide_141 : decode b_Kernel_decide 141 = .ok (.return_, 1) := by decide +kernel
theorem d_RK_noteRuleOfPlace_0 : decode b_RK_noteRuleOfPlace 0 = .ok (.iload_n 2, 1) := by decide +kernel
theorem d_RK_noteRuleOfPlace_1 : decode b_RK_noteRuleOfPlace 1 = .ok (.bipush 60, 2) := by decide +kernel
theorem d_RK_noteRuleOfPlace_3 : decode b_RK_noteRuleOfPlace 3 = .ok (.if_icmp .ge 18, 3) := by decide +kernel
theorem d_RK_noteRuleOfPlace_6 : decode b_RK_noteRuleOfPlace 6 = .ok (.aload_n 0, 1) := by decide +kernel
theorem d_RK_noteRuleOfPlace_7 : decode b_RK_noteRuleOfPlace 7 = .ok (.getfield 33, 3) := by decide +kernel
theorem d_RK_noteRuleOfPlace_10 : decode b_RK_noteRuleOfPlace 10 = .ok (.iload_n 1, 1) := by decide +kernel
theorem d_RK_noteRuleOfPlace_11 : decode b_RK_noteRuleOfPlace 11 = .ok (.dup2, 1) := by decide +kernel
theorem d_RK_noteRuleOfPlace_12 : decode b_RK_noteRuleOfPlace 12 = .ok (.laload, 1) := by decide +kernel
theorem d_RK_noteRuleOfPlace_13 : decode b_RK_noteRuleOfPlace 13 = .ok (.lconst 1, 1) := by decide +kernel
theorem d_RK_noteRuleOfPlace_14 : decode b_RK_noteRuleOfPlace 14 = .ok (.iload_n 2, 1) := by decide +kernel
theorem d_RK_noteRuleOfPlace_15 : decode b_RK_noteRuleOfPlace 15 = .ok (.lshl, 1) := by decide +kernel
theorem d_RK_noteRuleOfPlace_16 : decode b_RK_noteRuleOfPlace 16 = .ok (.lor, 1) := by decide +kernel
theorem d_RK_noteRuleOfPlace_17 : decode b_RK_noteRuleOfPlace 17 = .ok (.lastore, 1) := by decide +kernel
theorem d_RK_noteRuleOfPlace_18 : decode b_RK_noteRuleOfPlace 18 = .ok (.goto 18, 3) := by decide +kernel
theorem d_RK_noteRuleOfPlace_21 : decode b_RK_noteRuleOfPlace 21 = .ok (.aload_n 0, 1) := by decide +kernel
theorem d_RK_noteRuleOfPlace_22 : decode b_RK_noteRuleOfPlace 22 = .ok (.getfield 37, 3) := by decide +kernel
theorem d_RK_noteRuleOfPlace_25 : decode b_RK_noteRuleOfPlace 25 = .ok (.iload_n 1, 1) := by decide +kernel
theorem d_RK_noteRuleOfPlace_26 : decode b_RK_noteRuleOfPlace 26 = .ok (.dup2, 1) := by decide +kernel
theorem d_RK_noteRuleOfPlace_27 : decode b_RK_noteRuleOfPlace 27 = .ok (.laload, 1) := by decide +kernel
theorem d_RK_noteRuleOfPlace_28 : decode b_RK_noteRuleOfPlace 28 = .ok (.lconst 1, 1) := by decide +kernel
theorem d_RK_noteRuleOfPlace_29 : decode b_RK_noteRuleOfPlace 29 = .ok (.iload_n 2, 1) := by decide +kernel
theorem d_RK_noteRuleOfPlace_30 : decode b_RK_noteRuleOfPlace 30 = .ok (.bipush 60, 2) := by decide +kernel
theorem d_RK_noteRuleOfPlace_32 : decode b_RK_noteRuleOfPlace 32 = .ok (.isub, 1) := by decide +kernel
theorem d_RK_noteRuleOfPlace_33 : decode b_RK_noteRuleOfPlace 33 = .ok (.lshl, 1) := by decide +kernel
theorem d_RK_noteRuleOfPlace_34 : decode b_RK_noteRuleOfPlace 34 = .ok (.lor, 1) := by decide +kernel
theorem d_RK_noteRuleOfPlace_35 : decode b_RK_noteRuleOfPlace 35 = .ok (.lastore, 1) := by decide +kernel
theorem d_RK_noteRuleOfPlace_36 : decode b_RK_noteRuleOfPlace 36 = .ok (.return_, 1) := by decide +kernel
theorem d_RK_wake_0 : decode b_RK_wake 0 = .ok (.iconst 0, 1) := by decide +kernel
theorem d_RK_wake_1 : decode b_RK_wake 1 = .ok (.istore 5, 2) := by decide +kernel
theorem d_RK_wake_3 : decode b_RK_wake 3 = .ok (.iload 5, 2) := by decide +kernel
theorem d_RK_wake_5 : decode b_RK_wake 5 = .ok (.bipush 60, 2) := by decide +kernel
theorem d_RK_wake_7 : decode b_RK_wake 7 = .ok (.if_icmp .ge 47, 3) := by decide +kernel
theorem d_RK_wake_10 : decode b_RK_wake 10 = .ok (.lload_n 1, 1) := by decide +kernel
theorem d_RK_wake_11 : decode b_RK_wake 11 = .ok (.iload 5, 2) := by decide +kernel
theorem d_RK_wake_13 : decode b_RK_wake 13 = .ok (.lushr, 1) := by decide +kernel
theorem d_RK_wake_14 : decode b_RK_wake 14 = .ok (.lconst 0, 1) := by decide +kernel
theorem d_RK_wake_15 : decode b_RK_wake 15 = .ok (.lcmp, 1) := by decide +kernel
theorem d_RK_wake_16 : decode b_RK_wake 16 = .ok (.ifCond .eq 38, 3) := by decide +kernel
theorem d_RK_wake_19 : decode b_RK_wake 19 = .ok (.lload_n 1, 1) := by decide +kernel
theorem d_RK_wake_20 : decode b_RK_wake 20 = .ok (.iload 5, 2) := by decide +kernel
theorem d_RK_wake_22 : decode b_RK_wake 22 = .ok (.invokestatic 197, 3) := by decide +kernel
theorem d_RK_wake_25 : decode b_RK_wake 25 = .ok (.ifCond .eq 23, 3) := by decide +kernel
theorem d_RK_wake_28 : decode b_RK_wake 28 = .ok (.iload_n 3, 1) := by decide +kernel
theorem d_RK_wake_29 : decode b_RK_wake 29 = .ok (.iload 5, 2) := by decide +kernel
theorem d_RK_wake_31 : decode b_RK_wake 31 = .ok (.iadd, 1) := by decide +kernel
theorem d_RK_wake_32 : decode b_RK_wake 32 = .ok (.iload 4, 2) := by decide +kernel
theorem d_RK_wake_34 : decode b_RK_wake 34 = .ok (.if_icmp .eq 14, 3) := by decide +kernel
theorem d_RK_wake_37 : decode b_RK_wake 37 = .ok (.aload_n 0, 1) := by decide +kernel
theorem d_RK_wake_38 : decode b_RK_wake 38 = .ok (.getfield 52, 3) := by decide +kernel
theorem d_RK_wake_41 : decode b_RK_wake 41 = .ok (.iload_n 3, 1) := by decide +kernel
theorem d_RK_wake_42 : decode b_RK_wake 42 = .ok (.iload 5, 2) := by decide +kernel
theorem d_RK_wake_44 : decode b_RK_wake 44 = .ok (.iadd, 1) := by decide +kernel
theorem d_RK_wake_45 : decode b_RK_wake 45 = .ok (.invokevirtual 105, 3) := by decide +kernel
theorem d_RK_wake_48 : decode b_RK_wake 48 = .ok (.iinc 5 1, 3) := by decide +kernel
theorem d_RK_wake_51 : decode b_RK_wake 51 = .ok (.goto (-48), 3) := by decide +kernel
theorem d_RK_wake_54 : decode b_RK_wake 54 = .ok (.return_, 1) := by decide +kernel
theorem d_RK_removeAndWake_0 : decode b_RK_removeAndWake 0 = .ok (.aload_n 0, 1) := by decide +kernel
theorem d_RK_removeAndWake_1 : decode b_RK_removeAndWake 1 = .ok (.getfield 23, 3) := by decide +kernel
theorem d_RK_removeAndWake_4 : decode b_RK_removeAndWake 4 = .ok (.iload_n 1, 1) := by decide +kernel
theorem d_RK_removeAndWake_5 : decode b_RK_removeAndWake 5 = .ok (.lload_n 2, 1) := by decide +kernel
theorem d_RK_removeAndWake_6 : decode b_RK_removeAndWake 6 = .ok (.iload 4, 2) := by decide +kernel
theorem d_RK_removeAndWake_8 : decode b_RK_removeAndWake 8 = .ok (.invokevirtual 189, 3) := by decide +kernel
theorem d_RK_removeAndWake_11 : decode b_RK_removeAndWake 11 = .ok (.ifCond .eq 30, 3) := by decide +kernel
theorem d_RK_removeAndWake_14 : decode b_RK_removeAndWake 14 = .ok (.aload_n 0, 1) := by decide +kernel
theorem d_RK_removeAndWake_15 : decode b_RK_removeAndWake 15 = .ok (.aload_n 0, 1) := by decide +kernel
theorem d_RK_removeAndWake_16 : decode b_RK_removeAndWake 16 = .ok (.getfield 33, 3) := by decide +kernel
theorem d_RK_removeAndWake_19 : decode b_RK_removeAndWake 19 = .ok (.iload_n 1, 1) := by decide +kernel
theorem d_RK_removeAndWake_20 : decode b_RK_removeAndWake 20 = .ok (.laload, 1) := by decide +kernel
theorem d_RK_removeAndWake_21 : decode b_RK_removeAndWake 21 = .ok (.iconst 0, 1) := by decide +kernel
theorem d_RK_removeAndWake_22 : decode b_RK_removeAndWake 22 = .ok (.iload 4, 2) := by decide +kernel
theorem d_RK_removeAndWake_24 : decode b_RK_removeAndWake 24 = .ok (.invokevirtual 193, 3) := by decide +kernel
theorem d_RK_removeAndWake_27 : decode b_RK_removeAndWake 27 = .ok (.aload_n 0, 1) := by decide +kernel
theorem d_RK_removeAndWake_28 : decode b_RK_removeAndWake 28 = .ok (.aload_n 0, 1) := by decide +kernel
theorem d_RK_removeAndWake_29 : decode b_RK_removeAndWake 29 = .ok (.getfield 37, 3) := by decide +kernel
theorem d_RK_removeAndWake_32 : decode b_RK_removeAndWake 32 = .ok (.iload_n 1, 1) := by decide +kernel
theorem d_RK_removeAndWake_33 : decode b_RK_removeAndWake 33 = .ok (.laload, 1) := by decide +kernel
theorem d_RK_removeAndWake_34 : decode b_RK_removeAndWake 34 = .ok (.bipush 60, 2) := by decide +kernel
theorem d_RK_removeAndWake_36 : decode b_RK_removeAndWake 36 = .ok (.iload 4, 2) := by decide +kernel
theorem d_RK_removeAndWake_38 : decode b_RK_removeAndWake 38 = .ok (.invokevirtual 193, 3) := by decide +kernel
theorem d_RK_removeAndWake_41 : decode b_RK_removeAndWake 41 = .ok (.return_, 1) := by decide +kernel
theorem d_RK_take_0 : decode b_RK_take 0 = .ok (.aload_n 0, 1) := by decide +kernel
theorem d_RK_take_1 : decode b_RK_take 1 = .ok (.getfield 23, 3) := by decide +kernel
theorem d_RK_take_4 : decode b_RK_take 4 = .ok (.iload_n 1, 1) := by decide +kernel
theorem d_RK_take_5 : decode b_RK_take 5 = .ok (.iload_n 2, 1) := by decide +kernel
theorem d_RK_take_6 : decode b_RK_take 6 = .ok (.invokevirtual 114, 3) := by decide +kernel
theorem d_RK_take_9 : decode b_RK_take 9 = .ok (.ifCond .ne 5, 3) := by decide +kernel
theorem d_RK_take_12 : decode b_RK_take 12 = .ok (.iconst 0, 1) := by decide +kernel
theorem d_RK_take_13 : decode b_RK_take 13 = .ok (.ireturn, 1) := by decide +kernel
theorem d_RK_take_14 : decode b_RK_take 14 = .ok (.aload_n 0, 1) := by decide +kernel
theorem d_RK_take_15 : decode b_RK_take 15 = .ok (.iload_n 1, 1) := by decide +kernel
theorem d_RK_take_16 : decode b_RK_take 16 = .ok (.lconst 1, 1) := by decide +kernel
theorem d_RK_take_17 : decode b_RK_take 17 = .ok (.iload_n 2, 1) := by decide +kernel
theorem d_RK_take_18 : decode b_RK_take 18 = .ok (.lshl, 1) := by decide +kernel
theorem d_RK_take_19 : decode b_RK_take 19 = .ok (.iconst (-1), 1) := by decide +kernel
theorem d_RK_take_20 : decode b_RK_take 20 = .ok (.invokevirtual 117, 3) := by decide +kernel
theorem d_RK_take_23 : decode b_RK_take 23 = .ok (.iconst 1, 1) := by decide +kernel
theorem d_RK_take_24 : decode b_RK_take 24 = .ok (.ireturn, 1) := by decide +kernel
theorem d_RK_set_0 : decode b_RK_set 0 = .ok (.aload_n 0, 1) := by decide +kernel
theorem d_RK_set_1 : decode b_RK_set 1 = .ok (.getfield 23, 3) := by decide +kernel
theorem d_RK_set_4 : decode b_RK_set 4 = .ok (.iload_n 1, 1) := by decide +kernel
theorem d_RK_set_5 : decode b_RK_set 5 = .ok (.iload_n 2, 1) := by decide +kernel
theorem d_RK_set_6 : decode b_RK_set 6 = .ok (.invokevirtual 114, 3) := by decide +kernel
theorem d_RK_set_9 : decode b_RK_set 9 = .ok (.ifCond .ne 5, 3) := by decide +kernel
theorem d_RK_set_12 : decode b_RK_set 12 = .ok (.iconst 0, 1) := by decide +kernel
theorem d_RK_set_13 : decode b_RK_set 13 = .ok (.ireturn, 1) := by decide +kernel
theorem d_RK_set_14 : decode b_RK_set 14 = .ok (.aload_n 0, 1) := by decide +kernel
theorem d_RK_set_15 : decode b_RK_set 15 = .ok (.iload_n 1, 1) := by decide +kernel
theorem d_RK_set_16 : decode b_RK_set 16 = .ok (.lconst 1, 1) := by decide +kernel
theorem d_RK_set_17 : decode b_RK_set 17 = .ok (.iload_n 2, 1) := by decide +kernel
theorem d_RK_set_18 : decode b_RK_set 18 = .ok (.lshl, 1) := by decide +kernel
theorem d_RK_set_19 : decode b_RK_set 19 = .ok (.ldc2_w 120, 3) := by decide +kernel
theorem d_RK_set_22 : decode b_RK_set 22 = .ok (.lxor, 1) := by decide +kernel
theorem d_RK_set_23 : decode b_RK_set 23 = .ok (.iconst (-1), 1) := by decide +kernel
theorem d_RK_set_24 : decode b_RK_set 24 = .ok (.invokevirtual 117, 3) := by decide +kernel
theorem d_RK_set_27 : decode b_RK_set 27 = .ok (.iconst 1, 1) := by decide +kernel
theorem d_RK_set_28 : decode b_RK_set 28 = .ok (.ireturn, 1) := by decide +kernel
theorem d_RK_candidates_0 : decode b_RK_candidates 0 = .ok (.aload_n 0, 1) := by decide +kernel
theorem d_RK_candidates_1 : decode b_RK_candidates 1 = .ok (.getfield 23, 3) := by decide +kernel
theorem d_RK_candidates_4 : decode b_RK_candidates 4 = .ok (.iload_n 1, 1) := by decide +kernel
theorem d_RK_candidates_5 : decode b_RK_candidates 5 = .ok (.invokevirtual 90, 3) := by decide +kernel
theorem d_RK_candidates_8 : decode b_RK_candidates 8 = .ok (.ifCond .eq 15, 3) := by decide +kernel
theorem d_RK_candidates_11 : decode b_RK_candidates 11 = .ok (.aload_n 0, 1) := by decide +kernel
theorem d_RK_candidates_12 : decode b_RK_candidates 12 = .ok (.getfield 23, 3) := by decide +kernel
theorem d_RK_candidates_15 : decode b_RK_candidates 15 = .ok (.getfield 139, 3) := by decide +kernel
theorem d_RK_candidates_18 : decode b_RK_candidates 18 = .ok (.iload_n 1, 1) := by decide +kernel
theorem d_RK_candidates_19 : decode b_RK_candidates 19 = .ok (.laload, 1) := by decide +kernel
theorem d_RK_candidates_20 : decode b_RK_candidates 20 = .ok (.goto 6, 3) := by decide +kernel
theorem d_RK_candidates_23 : decode b_RK_candidates 23 = .ok (.ldc2_w 120, 3) := by decide +kernel
theorem d_RK_candidates_26 : decode b_RK_candidates 26 = .ok (.lreturn, 1) := by decide +kernel
theorem d_RK_woken_0 : decode b_RK_woken 0 = .ok (.aload_n 0, 1) := by decide +kernel
theorem d_RK_woken_1 : decode b_RK_woken 1 = .ok (.getfield 59, 3) := by decide +kernel
theorem d_RK_woken_4 : decode b_RK_woken 4 = .ok (.getfield 167, 3) := by decide +kernel
theorem d_RK_woken_7 : decode b_RK_woken 7 = .ok (.ireturn, 1) := by decide +kernel
theorem d_RK_order_0 : decode b_RK_order 0 = .ok (.aload_n 0, 1) := by decide +kernel
theorem d_RK_order_1 : decode b_RK_order 1 = .ok (.getfield 59, 3) := by decide +kernel
theorem d_RK_order_4 : decode b_RK_order 4 = .ok (.iload_n 1, 1) := by decide +kernel
theorem d_RK_order_5 : decode b_RK_order 5 = .ok (.invokevirtual 170, 3) := by decide +kernel
theorem d_RK_order_8 : decode b_RK_order 8 = .ok (.ireturn, 1) := by decide +kernel
theorem d_RK_ruleAt_0 : decode b_RK_ruleAt 0 = .ok (.iload_n 1, 1) := by decide +kernel
theorem d_RK_ruleAt_1 : decode b_RK_ruleAt 1 = .ok (.ifCond .lt 20, 3) := by decide +kernel
theorem d_RK_ruleAt_4 : decode b_RK_ruleAt 4 = .ok (.iload_n 1, 1) := by decide +kernel
theorem d_RK_ruleAt_5 : decode b_RK_ruleAt 5 = .ok (.aload_n 0, 1) := by decide +kernel
theorem d_RK_ruleAt_6 : decode b_RK_ruleAt 6 = .ok (.getfield 69, 3) := by decide +kernel
theorem d_RK_ruleAt_9 : decode b_RK_ruleAt 9 = .ok (.if_icmp .ge 12, 3) := by decide +kernel
theorem d_RK_ruleAt_12 : decode b_RK_ruleAt 12 = .ok (.aload_n 0, 1) := by decide +kernel
theorem d_RK_ruleAt_13 : decode b_RK_ruleAt 13 = .ok (.getfield 29, 3) := by decide +kernel
theorem d_RK_ruleAt_16 : decode b_RK_ruleAt 16 = .ok (.iload_n 1, 1) := by decide +kernel
theorem d_RK_ruleAt_17 : decode b_RK_ruleAt 17 = .ok (.aaload, 1) := by decide +kernel
theorem d_RK_ruleAt_18 : decode b_RK_ruleAt 18 = .ok (.goto 4, 3) := by decide +kernel
theorem d_RK_ruleAt_21 : decode b_RK_ruleAt 21 = .ok (.aconst_null, 1) := by decide +kernel
theorem d_RK_ruleAt_22 : decode b_RK_ruleAt 22 = .ok (.areturn, 1) := by decide +kernel
theorem d_RK_into_0 : decode b_RK_into 0 = .ok (.aload_n 0, 1) := by decide +kernel
theorem d_RK_into_1 : decode b_RK_into 1 = .ok (.iload_n 1, 1) := by decide +kernel
theorem d_RK_into_2 : decode b_RK_into 2 = .ok (.invokevirtual 86, 3) := by decide +kernel
theorem d_RK_into_5 : decode b_RK_into 5 = .ok (.astore 5, 2) := by decide +kernel
theorem d_RK_into_7 : decode b_RK_into 7 = .ok (.aload 5, 2) := by decide +kernel
theorem d_RK_into_9 : decode b_RK_into 9 = .ok (.ifnull 21, 3) := by decide +kernel
theorem d_RK_into_12 : decode b_RK_into 12 = .ok (.aload_n 0, 1) := by decide +kernel
theorem d_RK_into_13 : decode b_RK_into 13 = .ok (.getfield 23, 3) := by decide +kernel
theorem d_RK_into_16 : decode b_RK_into 16 = .ok (.iload_n 2, 1) := by decide +kernel
theorem d_RK_into_17 : decode b_RK_into 17 = .ok (.invokevirtual 90, 3) := by decide +kernel
theorem d_RK_into_20 : decode b_RK_into 20 = .ok (.ifCond .eq 10, 3) := by decide +kernel
theorem d_RK_into_23 : decode b_RK_into 23 = .ok (.aload_n 0, 1) := by decide +kernel
theorem d_RK_into_24 : decode b_RK_into 24 = .ok (.getfield 73, 3) := by decide +kernel
theorem d_RK_into_27 : decode b_RK_into 27 = .ok (.ifCond .le 5, 3) := by decide +kernel
theorem d_RK_into_30 : decode b_RK_into 30 = .ok (.iconst 0, 1) := by decide +kernel
theorem d_RK_into_31 : decode b_RK_into 31 = .ok (.ireturn, 1) := by decide +kernel
theorem d_RK_into_32 : decode b_RK_into 32 = .ok (.lload_n 3, 1) := by decide +kernel
theorem d_RK_into_33 : decode b_RK_into 33 = .ok (.ldc2_w 94, 3) := by decide +kernel
theorem d_RK_into_36 : decode b_RK_into 36 = .ok (.lcmp, 1) := by decide +kernel
theorem d_RK_into_37 : decode b_RK_into 37 = .ok (.ifCond .lt 22, 3) := by decide +kernel
theorem d_RK_into_40 : decode b_RK_into 40 = .ok (.lload_n 3, 1) := by decide +kernel
theorem d_RK_into_41 : decode b_RK_into 41 = .ok (.ldc2_w 96, 3) := by decide +kernel
theorem d_RK_into_44 : decode b_RK_into 44 = .ok (.lcmp, 1) := by decide +kernel
theorem d_RK_into_45 : decode b_RK_into 45 = .ok (.ifCond .gt 14, 3) := by decide +kernel
theorem d_RK_into_48 : decode b_RK_into 48 = .ok (.aload 5, 2) := by decide +kernel
theorem d_RK_into_50 : decode b_RK_into 50 = .ok (.iload_n 2, 1) := by decide +kernel
theorem d_RK_into_51 : decode b_RK_into 51 = .ok (.lload_n 3, 1) := by decide +kernel
theorem d_RK_into_52 : decode b_RK_into 52 = .ok (.l2i, 1) := by decide +kernel
theorem d_RK_into_53 : decode b_RK_into 53 = .ok (.invokevirtual 98, 3) := by decide +kernel
theorem d_RK_into_56 : decode b_RK_into 56 = .ok (.ifCond .ne 5, 3) := by decide +kernel
theorem d_RK_into_59 : decode b_RK_into 59 = .ok (.iconst 0, 1) := by decide +kernel
theorem d_RK_into_60 : decode b_RK_into 60 = .ok (.ireturn, 1) := by decide +kernel
theorem d_RK_into_61 : decode b_RK_into 61 = .ok (.aload_n 0, 1) := by decide +kernel
theorem d_RK_into_62 : decode b_RK_into 62 = .ok (.iload_n 2, 1) := by decide +kernel
theorem d_RK_into_63 : decode b_RK_into 63 = .ok (.iload_n 1, 1) := by decide +kernel
theorem d_RK_into_64 : decode b_RK_into 64 = .ok (.invokevirtual 102, 3) := by decide +kernel
theorem d_RK_into_67 : decode b_RK_into 67 = .ok (.aload_n 0, 1) := by decide +kernel
theorem d_RK_into_68 : decode b_RK_into 68 = .ok (.getfield 52, 3) := by decide +kernel
theorem d_RK_into_71 : decode b_RK_into 71 = .ok (.iload_n 1, 1) := by decide +kernel
theorem d_RK_into_72 : decode b_RK_into 72 = .ok (.invokevirtual 105, 3) := by decide +kernel
theorem d_RK_into_75 : decode b_RK_into 75 = .ok (.iconst 1, 1) := by decide +kernel
theorem d_RK_into_76 : decode b_RK_into 76 = .ok (.ireturn, 1) := by decide +kernel
theorem d_RK_table_0 : decode b_RK_table 0 = .ok (.aload_n 0, 1) := by decide +kernel
theorem d_RK_table_1 : decode b_RK_table 1 = .ok (.iload_n 1, 1) := by decide +kernel
theorem d_RK_table_2 : decode b_RK_table 2 = .ok (.invokevirtual 86, 3) := by decide +kernel
theorem d_RK_table_5 : decode b_RK_table 5 = .ok (.astore 4, 2) := by decide +kernel
theorem d_RK_table_7 : decode b_RK_table 7 = .ok (.aload 4, 2) := by decide +kernel
theorem d_RK_table_9 : decode b_RK_table 9 = .ok (.ifnull 32, 3) := by decide +kernel
theorem d_RK_table_12 : decode b_RK_table 12 = .ok (.aload_n 0, 1) := by decide +kernel
theorem d_RK_table_13 : decode b_RK_table 13 = .ok (.getfield 73, 3) := by decide +kernel
theorem d_RK_table_16 : decode b_RK_table 16 = .ok (.ifCond .gt 25, 3) := by decide +kernel
theorem d_RK_table_19 : decode b_RK_table 19 = .ok (.aload_n 0, 1) := by decide +kernel
theorem d_RK_table_20 : decode b_RK_table 20 = .ok (.getfield 23, 3) := by decide +kernel
theorem d_RK_table_23 : decode b_RK_table 23 = .ok (.iload_n 2, 1) := by decide +kernel
theorem d_RK_table_24 : decode b_RK_table 24 = .ok (.invokevirtual 108, 3) := by decide +kernel
theorem d_RK_table_27 : decode b_RK_table 27 = .ok (.ifCond .eq 14, 3) := by decide +kernel
theorem d_RK_table_30 : decode b_RK_table 30 = .ok (.aload_n 0, 1) := by decide +kernel
theorem d_RK_table_31 : decode b_RK_table 31 = .ok (.getfield 23, 3) := by decide +kernel
theorem d_RK_table_34 : decode b_RK_table 34 = .ok (.iload_n 3, 1) := by decide +kernel
theorem d_RK_table_35 : decode b_RK_table 35 = .ok (.invokevirtual 108, 3) := by decide +kernel
theorem d_RK_table_38 : decode b_RK_table 38 = .ok (.ifCond .ne 5, 3) := by decide +kernel
theorem d_RK_table_41 : decode b_RK_table 41 = .ok (.iconst 0, 1) := by decide +kernel
theorem d_RK_table_42 : decode b_RK_table 42 = .ok (.ireturn, 1) := by decide +kernel
theorem d_RK_table_43 : decode b_RK_table 43 = .ok (.aload 4, 2) := by decide +kernel
theorem d_RK_table_45 : decode b_RK_table 45 = .ok (.iload_n 2, 1) := by decide +kernel
theorem d_RK_table_46 : decode b_RK_table 46 = .ok (.iload_n 3, 1) := by decide +kernel
theorem d_RK_table_47 : decode b_RK_table 47 = .ok (.invokevirtual 111, 3) := by decide +kernel
theorem d_RK_table_50 : decode b_RK_table 50 = .ok (.ifCond .ne 5, 3) := by decide +kernel
theorem d_RK_table_53 : decode b_RK_table 53 = .ok (.iconst 0, 1) := by decide +kernel
theorem d_RK_table_54 : decode b_RK_table 54 = .ok (.ireturn, 1) := by decide +kernel
theorem d_RK_table_55 : decode b_RK_table 55 = .ok (.aload_n 0, 1) := by decide +kernel
theorem d_RK_table_56 : decode b_RK_table 56 = .ok (.getfield 52, 3) := by decide +kernel
theorem d_RK_table_59 : decode b_RK_table 59 = .ok (.iload_n 1, 1) := by decide +kernel
theorem d_RK_table_60 : decode b_RK_table 60 = .ok (.invokevirtual 105, 3) := by decide +kernel
theorem d_RK_table_63 : decode b_RK_table 63 = .ok (.iconst 1, 1) := by decide +kernel
theorem d_RK_table_64 : decode b_RK_table 64 = .ok (.ireturn, 1) := by decide +kernel
