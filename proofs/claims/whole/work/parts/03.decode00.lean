theorem d_Int_numberOfTrailingZeros_0 : decode b_Int_numberOfTrailingZeros 0 = .ok (.iload_n 0, 1) := by decide +kernel
theorem d_Int_numberOfTrailingZeros_1 : decode b_Int_numberOfTrailingZeros 1 = .ok (.iconst (-1), 1) := by decide +kernel
theorem d_Int_numberOfTrailingZeros_2 : decode b_Int_numberOfTrailingZeros 2 = .ok (.ixor, 1) := by decide +kernel
theorem d_Int_numberOfTrailingZeros_3 : decode b_Int_numberOfTrailingZeros 3 = .ok (.iload_n 0, 1) := by decide +kernel
theorem d_Int_numberOfTrailingZeros_4 : decode b_Int_numberOfTrailingZeros 4 = .ok (.iconst 1, 1) := by decide +kernel
theorem d_Int_numberOfTrailingZeros_5 : decode b_Int_numberOfTrailingZeros 5 = .ok (.isub, 1) := by decide +kernel
theorem d_Int_numberOfTrailingZeros_6 : decode b_Int_numberOfTrailingZeros 6 = .ok (.iand, 1) := by decide +kernel
theorem d_Int_numberOfTrailingZeros_7 : decode b_Int_numberOfTrailingZeros 7 = .ok (.istore_n 0, 1) := by decide +kernel
theorem d_Int_numberOfTrailingZeros_8 : decode b_Int_numberOfTrailingZeros 8 = .ok (.iload_n 0, 1) := by decide +kernel
theorem d_Int_numberOfTrailingZeros_9 : decode b_Int_numberOfTrailingZeros 9 = .ok (.ifCond .gt 8, 3) := by decide +kernel
theorem d_Int_numberOfTrailingZeros_12 : decode b_Int_numberOfTrailingZeros 12 = .ok (.iload_n 0, 1) := by decide +kernel
theorem d_Int_numberOfTrailingZeros_13 : decode b_Int_numberOfTrailingZeros 13 = .ok (.bipush 32, 2) := by decide +kernel
theorem d_Int_numberOfTrailingZeros_15 : decode b_Int_numberOfTrailingZeros 15 = .ok (.iand, 1) := by decide +kernel
theorem d_Int_numberOfTrailingZeros_16 : decode b_Int_numberOfTrailingZeros 16 = .ok (.ireturn, 1) := by decide +kernel
theorem d_Int_numberOfTrailingZeros_17 : decode b_Int_numberOfTrailingZeros 17 = .ok (.iconst 1, 1) := by decide +kernel
theorem d_Int_numberOfTrailingZeros_18 : decode b_Int_numberOfTrailingZeros 18 = .ok (.istore_n 1, 1) := by decide +kernel
theorem d_Int_numberOfTrailingZeros_19 : decode b_Int_numberOfTrailingZeros 19 = .ok (.iload_n 0, 1) := by decide +kernel
theorem d_Int_numberOfTrailingZeros_20 : decode b_Int_numberOfTrailingZeros 20 = .ok (.ldc_w 264, 3) := by decide +kernel
theorem d_Int_numberOfTrailingZeros_23 : decode b_Int_numberOfTrailingZeros 23 = .ok (.if_icmp .le 11, 3) := by decide +kernel
theorem d_Int_numberOfTrailingZeros_26 : decode b_Int_numberOfTrailingZeros 26 = .ok (.iinc 1 16, 3) := by decide +kernel
theorem d_Int_numberOfTrailingZeros_29 : decode b_Int_numberOfTrailingZeros 29 = .ok (.iload_n 0, 1) := by decide +kernel
theorem d_Int_numberOfTrailingZeros_30 : decode b_Int_numberOfTrailingZeros 30 = .ok (.bipush 16, 2) := by decide +kernel
theorem d_Int_numberOfTrailingZeros_32 : decode b_Int_numberOfTrailingZeros 32 = .ok (.iushr, 1) := by decide +kernel
theorem d_Int_numberOfTrailingZeros_33 : decode b_Int_numberOfTrailingZeros 33 = .ok (.istore_n 0, 1) := by decide +kernel
theorem d_Int_numberOfTrailingZeros_34 : decode b_Int_numberOfTrailingZeros 34 = .ok (.iload_n 0, 1) := by decide +kernel
theorem d_Int_numberOfTrailingZeros_35 : decode b_Int_numberOfTrailingZeros 35 = .ok (.sipush 256, 3) := by decide +kernel
theorem d_Int_numberOfTrailingZeros_38 : decode b_Int_numberOfTrailingZeros 38 = .ok (.if_icmp .le 11, 3) := by decide +kernel
theorem d_Int_numberOfTrailingZeros_41 : decode b_Int_numberOfTrailingZeros 41 = .ok (.iinc 1 8, 3) := by decide +kernel
theorem d_Int_numberOfTrailingZeros_44 : decode b_Int_numberOfTrailingZeros 44 = .ok (.iload_n 0, 1) := by decide +kernel
theorem d_Int_numberOfTrailingZeros_45 : decode b_Int_numberOfTrailingZeros 45 = .ok (.bipush 8, 2) := by decide +kernel
theorem d_Int_numberOfTrailingZeros_47 : decode b_Int_numberOfTrailingZeros 47 = .ok (.iushr, 1) := by decide +kernel
theorem d_Int_numberOfTrailingZeros_48 : decode b_Int_numberOfTrailingZeros 48 = .ok (.istore_n 0, 1) := by decide +kernel
theorem d_Int_numberOfTrailingZeros_49 : decode b_Int_numberOfTrailingZeros 49 = .ok (.iload_n 0, 1) := by decide +kernel
theorem d_Int_numberOfTrailingZeros_50 : decode b_Int_numberOfTrailingZeros 50 = .ok (.bipush 16, 2) := by decide +kernel
theorem d_Int_numberOfTrailingZeros_52 : decode b_Int_numberOfTrailingZeros 52 = .ok (.if_icmp .le 10, 3) := by decide +kernel
theorem d_Int_numberOfTrailingZeros_55 : decode b_Int_numberOfTrailingZeros 55 = .ok (.iinc 1 4, 3) := by decide +kernel
theorem d_Int_numberOfTrailingZeros_58 : decode b_Int_numberOfTrailingZeros 58 = .ok (.iload_n 0, 1) := by decide +kernel
theorem d_Int_numberOfTrailingZeros_59 : decode b_Int_numberOfTrailingZeros 59 = .ok (.iconst 4, 1) := by decide +kernel
theorem d_Int_numberOfTrailingZeros_60 : decode b_Int_numberOfTrailingZeros 60 = .ok (.iushr, 1) := by decide +kernel
theorem d_Int_numberOfTrailingZeros_61 : decode b_Int_numberOfTrailingZeros 61 = .ok (.istore_n 0, 1) := by decide +kernel
theorem d_Int_numberOfTrailingZeros_62 : decode b_Int_numberOfTrailingZeros 62 = .ok (.iload_n 0, 1) := by decide +kernel
theorem d_Int_numberOfTrailingZeros_63 : decode b_Int_numberOfTrailingZeros 63 = .ok (.iconst 4, 1) := by decide +kernel
theorem d_Int_numberOfTrailingZeros_64 : decode b_Int_numberOfTrailingZeros 64 = .ok (.if_icmp .le 10, 3) := by decide +kernel
theorem d_Int_numberOfTrailingZeros_67 : decode b_Int_numberOfTrailingZeros 67 = .ok (.iinc 1 2, 3) := by decide +kernel
theorem d_Int_numberOfTrailingZeros_70 : decode b_Int_numberOfTrailingZeros 70 = .ok (.iload_n 0, 1) := by decide +kernel
theorem d_Int_numberOfTrailingZeros_71 : decode b_Int_numberOfTrailingZeros 71 = .ok (.iconst 2, 1) := by decide +kernel
theorem d_Int_numberOfTrailingZeros_72 : decode b_Int_numberOfTrailingZeros 72 = .ok (.iushr, 1) := by decide +kernel
theorem d_Int_numberOfTrailingZeros_73 : decode b_Int_numberOfTrailingZeros 73 = .ok (.istore_n 0, 1) := by decide +kernel
theorem d_Int_numberOfTrailingZeros_74 : decode b_Int_numberOfTrailingZeros 74 = .ok (.iload_n 1, 1) := by decide +kernel
theorem d_Int_numberOfTrailingZeros_75 : decode b_Int_numberOfTrailingZeros 75 = .ok (.iload_n 0, 1) := by decide +kernel
theorem d_Int_numberOfTrailingZeros_76 : decode b_Int_numberOfTrailingZeros 76 = .ok (.iconst 1, 1) := by decide +kernel
theorem d_Int_numberOfTrailingZeros_77 : decode b_Int_numberOfTrailingZeros 77 = .ok (.iushr, 1) := by decide +kernel
theorem d_Int_numberOfTrailingZeros_78 : decode b_Int_numberOfTrailingZeros 78 = .ok (.iadd, 1) := by decide +kernel
theorem d_Int_numberOfTrailingZeros_79 : decode b_Int_numberOfTrailingZeros 79 = .ok (.ireturn, 1) := by decide +kernel
theorem d_Int_numberOfLeadingZeros_0 : decode b_Int_numberOfLeadingZeros 0 = .ok (.iload_n 0, 1) := by decide +kernel
theorem d_Int_numberOfLeadingZeros_1 : decode b_Int_numberOfLeadingZeros 1 = .ok (.ifCond .gt 14, 3) := by decide +kernel
theorem d_Int_numberOfLeadingZeros_4 : decode b_Int_numberOfLeadingZeros 4 = .ok (.iload_n 0, 1) := by decide +kernel
theorem d_Int_numberOfLeadingZeros_5 : decode b_Int_numberOfLeadingZeros 5 = .ok (.ifCond .ne 8, 3) := by decide +kernel
theorem d_Int_numberOfLeadingZeros_8 : decode b_Int_numberOfLeadingZeros 8 = .ok (.bipush 32, 2) := by decide +kernel
theorem d_Int_numberOfLeadingZeros_10 : decode b_Int_numberOfLeadingZeros 10 = .ok (.goto 4, 3) := by decide +kernel
theorem d_Int_numberOfLeadingZeros_13 : decode b_Int_numberOfLeadingZeros 13 = .ok (.iconst 0, 1) := by decide +kernel
theorem d_Int_numberOfLeadingZeros_14 : decode b_Int_numberOfLeadingZeros 14 = .ok (.ireturn, 1) := by decide +kernel
theorem d_Int_numberOfLeadingZeros_15 : decode b_Int_numberOfLeadingZeros 15 = .ok (.bipush 31, 2) := by decide +kernel
theorem d_Int_numberOfLeadingZeros_17 : decode b_Int_numberOfLeadingZeros 17 = .ok (.istore_n 1, 1) := by decide +kernel
theorem d_Int_numberOfLeadingZeros_18 : decode b_Int_numberOfLeadingZeros 18 = .ok (.iload_n 0, 1) := by decide +kernel
theorem d_Int_numberOfLeadingZeros_19 : decode b_Int_numberOfLeadingZeros 19 = .ok (.ldc_w 264, 3) := by decide +kernel
theorem d_Int_numberOfLeadingZeros_22 : decode b_Int_numberOfLeadingZeros 22 = .ok (.if_icmp .lt 11, 3) := by decide +kernel
theorem d_Int_numberOfLeadingZeros_25 : decode b_Int_numberOfLeadingZeros 25 = .ok (.iinc 1 (-16), 3) := by decide +kernel
theorem d_Int_numberOfLeadingZeros_28 : decode b_Int_numberOfLeadingZeros 28 = .ok (.iload_n 0, 1) := by decide +kernel
theorem d_Int_numberOfLeadingZeros_29 : decode b_Int_numberOfLeadingZeros 29 = .ok (.bipush 16, 2) := by decide +kernel
theorem d_Int_numberOfLeadingZeros_31 : decode b_Int_numberOfLeadingZeros 31 = .ok (.iushr, 1) := by decide +kernel
theorem d_Int_numberOfLeadingZeros_32 : decode b_Int_numberOfLeadingZeros 32 = .ok (.istore_n 0, 1) := by decide +kernel
theorem d_Int_numberOfLeadingZeros_33 : decode b_Int_numberOfLeadingZeros 33 = .ok (.iload_n 0, 1) := by decide +kernel
theorem d_Int_numberOfLeadingZeros_34 : decode b_Int_numberOfLeadingZeros 34 = .ok (.sipush 256, 3) := by decide +kernel
theorem d_Int_numberOfLeadingZeros_37 : decode b_Int_numberOfLeadingZeros 37 = .ok (.if_icmp .lt 11, 3) := by decide +kernel
theorem d_Int_numberOfLeadingZeros_40 : decode b_Int_numberOfLeadingZeros 40 = .ok (.iinc 1 (-8), 3) := by decide +kernel
theorem d_Int_numberOfLeadingZeros_43 : decode b_Int_numberOfLeadingZeros 43 = .ok (.iload_n 0, 1) := by decide +kernel
theorem d_Int_numberOfLeadingZeros_44 : decode b_Int_numberOfLeadingZeros 44 = .ok (.bipush 8, 2) := by decide +kernel
theorem d_Int_numberOfLeadingZeros_46 : decode b_Int_numberOfLeadingZeros 46 = .ok (.iushr, 1) := by decide +kernel
theorem d_Int_numberOfLeadingZeros_47 : decode b_Int_numberOfLeadingZeros 47 = .ok (.istore_n 0, 1) := by decide +kernel
theorem d_Int_numberOfLeadingZeros_48 : decode b_Int_numberOfLeadingZeros 48 = .ok (.iload_n 0, 1) := by decide +kernel
theorem d_Int_numberOfLeadingZeros_49 : decode b_Int_numberOfLeadingZeros 49 = .ok (.bipush 16, 2) := by decide +kernel
theorem d_Int_numberOfLeadingZeros_51 : decode b_Int_numberOfLeadingZeros 51 = .ok (.if_icmp .lt 10, 3) := by decide +kernel
theorem d_Int_numberOfLeadingZeros_54 : decode b_Int_numberOfLeadingZeros 54 = .ok (.iinc 1 (-4), 3) := by decide +kernel
theorem d_Int_numberOfLeadingZeros_57 : decode b_Int_numberOfLeadingZeros 57 = .ok (.iload_n 0, 1) := by decide +kernel
theorem d_Int_numberOfLeadingZeros_58 : decode b_Int_numberOfLeadingZeros 58 = .ok (.iconst 4, 1) := by decide +kernel
theorem d_Int_numberOfLeadingZeros_59 : decode b_Int_numberOfLeadingZeros 59 = .ok (.iushr, 1) := by decide +kernel
theorem d_Int_numberOfLeadingZeros_60 : decode b_Int_numberOfLeadingZeros 60 = .ok (.istore_n 0, 1) := by decide +kernel
theorem d_Int_numberOfLeadingZeros_61 : decode b_Int_numberOfLeadingZeros 61 = .ok (.iload_n 0, 1) := by decide +kernel
theorem d_Int_numberOfLeadingZeros_62 : decode b_Int_numberOfLeadingZeros 62 = .ok (.iconst 4, 1) := by decide +kernel
theorem d_Int_numberOfLeadingZeros_63 : decode b_Int_numberOfLeadingZeros 63 = .ok (.if_icmp .lt 10, 3) := by decide +kernel
theorem d_Int_numberOfLeadingZeros_66 : decode b_Int_numberOfLeadingZeros 66 = .ok (.iinc 1 (-2), 3) := by decide +kernel
theorem d_Int_numberOfLeadingZeros_69 : decode b_Int_numberOfLeadingZeros 69 = .ok (.iload_n 0, 1) := by decide +kernel
theorem d_Int_numberOfLeadingZeros_70 : decode b_Int_numberOfLeadingZeros 70 = .ok (.iconst 2, 1) := by decide +kernel
theorem d_Int_numberOfLeadingZeros_71 : decode b_Int_numberOfLeadingZeros 71 = .ok (.iushr, 1) := by decide +kernel
theorem d_Int_numberOfLeadingZeros_72 : decode b_Int_numberOfLeadingZeros 72 = .ok (.istore_n 0, 1) := by decide +kernel
theorem d_Int_numberOfLeadingZeros_73 : decode b_Int_numberOfLeadingZeros 73 = .ok (.iload_n 1, 1) := by decide +kernel
theorem d_Int_numberOfLeadingZeros_74 : decode b_Int_numberOfLeadingZeros 74 = .ok (.iload_n 0, 1) := by decide +kernel
theorem d_Int_numberOfLeadingZeros_75 : decode b_Int_numberOfLeadingZeros 75 = .ok (.iconst 1, 1) := by decide +kernel
theorem d_Int_numberOfLeadingZeros_76 : decode b_Int_numberOfLeadingZeros 76 = .ok (.iushr, 1) := by decide +kernel
theorem d_Int_numberOfLeadingZeros_77 : decode b_Int_numberOfLeadingZeros 77 = .ok (.isub, 1) := by decide +kernel
theorem d_Int_numberOfLeadingZeros_78 : decode b_Int_numberOfLeadingZeros 78 = .ok (.ireturn, 1) := by decide +kernel
theorem d_Lon_numberOfTrailingZeros_0 : decode b_Lon_numberOfTrailingZeros 0 = .ok (.lload_n 0, 1) := by decide +kernel
theorem d_Lon_numberOfTrailingZeros_1 : decode b_Lon_numberOfTrailingZeros 1 = .ok (.l2i, 1) := by decide +kernel
theorem d_Lon_numberOfTrailingZeros_2 : decode b_Lon_numberOfTrailingZeros 2 = .ok (.istore_n 2, 1) := by decide +kernel
theorem d_Lon_numberOfTrailingZeros_3 : decode b_Lon_numberOfTrailingZeros 3 = .ok (.iload_n 2, 1) := by decide +kernel
theorem d_Lon_numberOfTrailingZeros_4 : decode b_Lon_numberOfTrailingZeros 4 = .ok (.ifCond .ne 17, 3) := by decide +kernel
theorem d_Lon_numberOfTrailingZeros_7 : decode b_Lon_numberOfTrailingZeros 7 = .ok (.bipush 32, 2) := by decide +kernel
theorem d_Lon_numberOfTrailingZeros_9 : decode b_Lon_numberOfTrailingZeros 9 = .ok (.lload_n 0, 1) := by decide +kernel
theorem d_Lon_numberOfTrailingZeros_10 : decode b_Lon_numberOfTrailingZeros 10 = .ok (.bipush 32, 2) := by decide +kernel
theorem d_Lon_numberOfTrailingZeros_12 : decode b_Lon_numberOfTrailingZeros 12 = .ok (.lushr, 1) := by decide +kernel
theorem d_Lon_numberOfTrailingZeros_13 : decode b_Lon_numberOfTrailingZeros 13 = .ok (.l2i, 1) := by decide +kernel
theorem d_Lon_numberOfTrailingZeros_14 : decode b_Lon_numberOfTrailingZeros 14 = .ok (.invokestatic 311, 3) := by decide +kernel
theorem d_Lon_numberOfTrailingZeros_17 : decode b_Lon_numberOfTrailingZeros 17 = .ok (.iadd, 1) := by decide +kernel
theorem d_Lon_numberOfTrailingZeros_18 : decode b_Lon_numberOfTrailingZeros 18 = .ok (.goto 7, 3) := by decide +kernel
theorem d_Lon_numberOfTrailingZeros_21 : decode b_Lon_numberOfTrailingZeros 21 = .ok (.iload_n 2, 1) := by decide +kernel
theorem d_Lon_numberOfTrailingZeros_22 : decode b_Lon_numberOfTrailingZeros 22 = .ok (.invokestatic 311, 3) := by decide +kernel
theorem d_Lon_numberOfTrailingZeros_25 : decode b_Lon_numberOfTrailingZeros 25 = .ok (.ireturn, 1) := by decide +kernel
theorem d_Lon_numberOfLeadingZeros_0 : decode b_Lon_numberOfLeadingZeros 0 = .ok (.lload_n 0, 1) := by decide +kernel
theorem d_Lon_numberOfLeadingZeros_1 : decode b_Lon_numberOfLeadingZeros 1 = .ok (.bipush 32, 2) := by decide +kernel
theorem d_Lon_numberOfLeadingZeros_3 : decode b_Lon_numberOfLeadingZeros 3 = .ok (.lushr, 1) := by decide +kernel
theorem d_Lon_numberOfLeadingZeros_4 : decode b_Lon_numberOfLeadingZeros 4 = .ok (.l2i, 1) := by decide +kernel
theorem d_Lon_numberOfLeadingZeros_5 : decode b_Lon_numberOfLeadingZeros 5 = .ok (.istore_n 2, 1) := by decide +kernel
theorem d_Lon_numberOfLeadingZeros_6 : decode b_Lon_numberOfLeadingZeros 6 = .ok (.iload_n 2, 1) := by decide +kernel
theorem d_Lon_numberOfLeadingZeros_7 : decode b_Lon_numberOfLeadingZeros 7 = .ok (.ifCond .ne 14, 3) := by decide +kernel
theorem d_Lon_numberOfLeadingZeros_10 : decode b_Lon_numberOfLeadingZeros 10 = .ok (.bipush 32, 2) := by decide +kernel
theorem d_Lon_numberOfLeadingZeros_12 : decode b_Lon_numberOfLeadingZeros 12 = .ok (.lload_n 0, 1) := by decide +kernel
theorem d_Lon_numberOfLeadingZeros_13 : decode b_Lon_numberOfLeadingZeros 13 = .ok (.l2i, 1) := by decide +kernel
theorem d_Lon_numberOfLeadingZeros_14 : decode b_Lon_numberOfLeadingZeros 14 = .ok (.invokestatic 308, 3) := by decide +kernel
theorem d_Lon_numberOfLeadingZeros_17 : decode b_Lon_numberOfLeadingZeros 17 = .ok (.iadd, 1) := by decide +kernel
theorem d_Lon_numberOfLeadingZeros_18 : decode b_Lon_numberOfLeadingZeros 18 = .ok (.goto 7, 3) := by decide +kernel
theorem d_Lon_numberOfLeadingZeros_21 : decode b_Lon_numberOfLeadingZeros 21 = .ok (.iload_n 2, 1) := by decide +kernel
theorem d_Lon_numberOfLeadingZeros_22 : decode b_Lon_numberOfLeadingZeros 22 = .ok (.invokestatic 308, 3) := by decide +kernel
theorem d_Lon_numberOfLeadingZeros_25 : decode b_Lon_numberOfLeadingZeros 25 = .ok (.ireturn, 1) := by decide +kernel
theorem d_Arr_fill_0 : decode b_Arr_fill 0 = .ok (.iconst 0, 1) := by decide +kernel
theorem d_Arr_fill_1 : decode b_Arr_fill 1 = .ok (.istore_n 3, 1) := by decide +kernel
theorem d_Arr_fill_2 : decode b_Arr_fill 2 = .ok (.aload_n 0, 1) := by decide +kernel
theorem d_Arr_fill_3 : decode b_Arr_fill 3 = .ok (.arraylength, 1) := by decide +kernel
theorem d_Arr_fill_4 : decode b_Arr_fill 4 = .ok (.istore 4, 2) := by decide +kernel
theorem d_Arr_fill_6 : decode b_Arr_fill 6 = .ok (.iload_n 3, 1) := by decide +kernel
theorem d_Arr_fill_7 : decode b_Arr_fill 7 = .ok (.iload 4, 2) := by decide +kernel
theorem d_Arr_fill_9 : decode b_Arr_fill 9 = .ok (.if_icmp .ge 13, 3) := by decide +kernel
theorem d_Arr_fill_12 : decode b_Arr_fill 12 = .ok (.aload_n 0, 1) := by decide +kernel
theorem d_Arr_fill_13 : decode b_Arr_fill 13 = .ok (.iload_n 3, 1) := by decide +kernel
theorem d_Arr_fill_14 : decode b_Arr_fill 14 = .ok (.lload_n 1, 1) := by decide +kernel
theorem d_Arr_fill_15 : decode b_Arr_fill 15 = .ok (.lastore, 1) := by decide +kernel
theorem d_Arr_fill_16 : decode b_Arr_fill 16 = .ok (.iinc 3 1, 3) := by decide +kernel
theorem d_Arr_fill_19 : decode b_Arr_fill 19 = .ok (.goto (-13), 3) := by decide +kernel
theorem d_Arr_fill_22 : decode b_Arr_fill 22 = .ok (.return_, 1) := by decide +kernel
theorem d_RK_has_0 : decode b_RK_has 0 = .ok (.lload_n 0, 1) := by decide +kernel
theorem d_RK_has_1 : decode b_RK_has 1 = .ok (.iload_n 2, 1) := by decide +kernel
theorem d_RK_has_2 : decode b_RK_has 2 = .ok (.lushr, 1) := by decide +kernel
theorem d_RK_has_3 : decode b_RK_has 3 = .ok (.lconst 1, 1) := by decide +kernel
theorem d_RK_has_4 : decode b_RK_has 4 = .ok (.land, 1) := by decide +kernel
theorem d_RK_has_5 : decode b_RK_has 5 = .ok (.lconst 0, 1) := by decide +kernel
theorem d_RK_has_6 : decode b_RK_has 6 = .ok (.lcmp, 1) := by decide +kernel
theorem d_RK_has_7 : decode b_RK_has 7 = .ok (.ifCond .eq 7, 3) := by decide +kernel
theorem d_RK_has_10 : decode b_RK_has 10 = .ok (.iconst 1, 1) := by decide +kernel
theorem d_RK_has_11 : decode b_RK_has 11 = .ok (.goto 4, 3) := by decide +kernel
theorem d_RK_has_14 : decode b_RK_has 14 = .ok (.iconst 0, 1) := by decide +kernel
theorem d_RK_has_15 : decode b_RK_has 15 = .ok (.ireturn, 1) := by decide +kernel
theorem d_Row_join_0 : decode b_Row_join 0 = .ok (.iload_n 1, 1) := by decide +kernel
theorem d_Row_join_1 : decode b_Row_join 1 = .ok (.ifCond .lt 33, 3) := by decide +kernel
theorem d_Row_join_4 : decode b_Row_join 4 = .ok (.iload_n 1, 1) := by decide +kernel
theorem d_Row_join_5 : decode b_Row_join 5 = .ok (.aload_n 0, 1) := by decide +kernel
theorem d_Row_join_6 : decode b_Row_join 6 = .ok (.getfield 15, 3) := by decide +kernel
theorem d_Row_join_9 : decode b_Row_join 9 = .ok (.arraylength, 1) := by decide +kernel
theorem d_Row_join_10 : decode b_Row_join 10 = .ok (.if_icmp .ge 24, 3) := by decide +kernel
theorem d_Row_join_13 : decode b_Row_join 13 = .ok (.aload_n 0, 1) := by decide +kernel
theorem d_Row_join_14 : decode b_Row_join 14 = .ok (.getfield 15, 3) := by decide +kernel
theorem d_Row_join_17 : decode b_Row_join 17 = .ok (.iload_n 1, 1) := by decide +kernel
theorem d_Row_join_18 : decode b_Row_join 18 = .ok (.baload, 1) := by decide +kernel
theorem d_Row_join_19 : decode b_Row_join 19 = .ok (.ifCond .ne 15, 3) := by decide +kernel
theorem d_Row_join_22 : decode b_Row_join 22 = .ok (.aload_n 0, 1) := by decide +kernel
theorem d_Row_join_23 : decode b_Row_join 23 = .ok (.getfield 23, 3) := by decide +kernel
theorem d_Row_join_26 : decode b_Row_join 26 = .ok (.aload_n 0, 1) := by decide +kernel
theorem d_Row_join_27 : decode b_Row_join 27 = .ok (.getfield 9, 3) := by decide +kernel
theorem d_Row_join_30 : decode b_Row_join 30 = .ok (.arraylength, 1) := by decide +kernel
theorem d_Row_join_31 : decode b_Row_join 31 = .ok (.if_icmp .lt 4, 3) := by decide +kernel
theorem d_Row_join_34 : decode b_Row_join 34 = .ok (.return_, 1) := by decide +kernel
theorem d_Row_join_35 : decode b_Row_join 35 = .ok (.aload_n 0, 1) := by decide +kernel
theorem d_Row_join_36 : decode b_Row_join 36 = .ok (.getfield 19, 3) := by decide +kernel
theorem d_Row_join_39 : decode b_Row_join 39 = .ok (.aload_n 0, 1) := by decide +kernel
theorem d_Row_join_40 : decode b_Row_join 40 = .ok (.getfield 23, 3) := by decide +kernel
theorem d_Row_join_43 : decode b_Row_join 43 = .ok (.iadd, 1) := by decide +kernel
theorem d_Row_join_44 : decode b_Row_join 44 = .ok (.istore_n 2, 1) := by decide +kernel
theorem d_Row_join_45 : decode b_Row_join 45 = .ok (.aload_n 0, 1) := by decide +kernel
theorem d_Row_join_46 : decode b_Row_join 46 = .ok (.getfield 9, 3) := by decide +kernel
theorem d_Row_join_49 : decode b_Row_join 49 = .ok (.iload_n 2, 1) := by decide +kernel
theorem d_Row_join_50 : decode b_Row_join 50 = .ok (.aload_n 0, 1) := by decide +kernel
theorem d_Row_join_51 : decode b_Row_join 51 = .ok (.getfield 9, 3) := by decide +kernel
theorem d_Row_join_54 : decode b_Row_join 54 = .ok (.arraylength, 1) := by decide +kernel
theorem d_Row_join_55 : decode b_Row_join 55 = .ok (.if_icmp .ge 7, 3) := by decide +kernel
theorem d_Row_join_58 : decode b_Row_join 58 = .ok (.iload_n 2, 1) := by decide +kernel
theorem d_Row_join_59 : decode b_Row_join 59 = .ok (.goto 10, 3) := by decide +kernel
theorem d_Row_join_62 : decode b_Row_join 62 = .ok (.iload_n 2, 1) := by decide +kernel
theorem d_Row_join_63 : decode b_Row_join 63 = .ok (.aload_n 0, 1) := by decide +kernel
theorem d_Row_join_64 : decode b_Row_join 64 = .ok (.getfield 9, 3) := by decide +kernel
theorem d_Row_join_67 : decode b_Row_join 67 = .ok (.arraylength, 1) := by decide +kernel
theorem d_Row_join_68 : decode b_Row_join 68 = .ok (.isub, 1) := by decide +kernel
theorem d_Row_join_69 : decode b_Row_join 69 = .ok (.iload_n 1, 1) := by decide +kernel
theorem d_Row_join_70 : decode b_Row_join 70 = .ok (.iastore, 1) := by decide +kernel
theorem d_Row_join_71 : decode b_Row_join 71 = .ok (.aload_n 0, 1) := by decide +kernel
theorem d_Row_join_72 : decode b_Row_join 72 = .ok (.getfield 15, 3) := by decide +kernel
theorem d_Row_join_75 : decode b_Row_join 75 = .ok (.iload_n 1, 1) := by decide +kernel
theorem d_Row_join_76 : decode b_Row_join 76 = .ok (.iconst 1, 1) := by decide +kernel
theorem d_Row_join_77 : decode b_Row_join 77 = .ok (.bastore, 1) := by decide +kernel
theorem d_Row_join_78 : decode b_Row_join 78 = .ok (.aload_n 0, 1) := by decide +kernel
theorem d_Row_join_79 : decode b_Row_join 79 = .ok (.dup, 1) := by decide +kernel
theorem d_Row_join_80 : decode b_Row_join 80 = .ok (.getfield 23, 3) := by decide +kernel
theorem d_Row_join_83 : decode b_Row_join 83 = .ok (.iconst 1, 1) := by decide +kernel
theorem d_Row_join_84 : decode b_Row_join 84 = .ok (.iadd, 1) := by decide +kernel
theorem d_Row_join_85 : decode b_Row_join 85 = .ok (.putfield 23, 3) := by decide +kernel
theorem d_Row_join_88 : decode b_Row_join 88 = .ok (.return_, 1) := by decide +kernel
theorem d_Row_leave_0 : decode b_Row_leave 0 = .ok (.aload_n 0, 1) := by decide +kernel
theorem d_Row_leave_1 : decode b_Row_leave 1 = .ok (.getfield 23, 3) := by decide +kernel
theorem d_Row_leave_4 : decode b_Row_leave 4 = .ok (.ifCond .gt 5, 3) := by decide +kernel
theorem d_Row_leave_7 : decode b_Row_leave 7 = .ok (.iconst (-1), 1) := by decide +kernel
theorem d_Row_leave_8 : decode b_Row_leave 8 = .ok (.ireturn, 1) := by decide +kernel
theorem d_Row_leave_9 : decode b_Row_leave 9 = .ok (.aload_n 0, 1) := by decide +kernel
theorem d_Row_leave_10 : decode b_Row_leave 10 = .ok (.getfield 9, 3) := by decide +kernel
theorem d_Row_leave_13 : decode b_Row_leave 13 = .ok (.aload_n 0, 1) := by decide +kernel
theorem d_Row_leave_14 : decode b_Row_leave 14 = .ok (.getfield 19, 3) := by decide +kernel
theorem d_Row_leave_17 : decode b_Row_leave 17 = .ok (.iaload, 1) := by decide +kernel
theorem d_Row_leave_18 : decode b_Row_leave 18 = .ok (.istore_n 1, 1) := by decide +kernel
theorem d_Row_leave_19 : decode b_Row_leave 19 = .ok (.aload_n 0, 1) := by decide +kernel
theorem d_Row_leave_20 : decode b_Row_leave 20 = .ok (.getfield 15, 3) := by decide +kernel
theorem d_Row_leave_23 : decode b_Row_leave 23 = .ok (.iload_n 1, 1) := by decide +kernel
theorem d_Row_leave_24 : decode b_Row_leave 24 = .ok (.iconst 0, 1) := by decide +kernel
theorem d_Row_leave_25 : decode b_Row_leave 25 = .ok (.bastore, 1) := by decide +kernel
theorem d_Row_leave_26 : decode b_Row_leave 26 = .ok (.aload_n 0, 1) := by decide +kernel
theorem d_Row_leave_27 : decode b_Row_leave 27 = .ok (.aload_n 0, 1) := by decide +kernel
theorem d_Row_leave_28 : decode b_Row_leave 28 = .ok (.getfield 19, 3) := by decide +kernel
theorem d_Row_leave_31 : decode b_Row_leave 31 = .ok (.iconst 1, 1) := by decide +kernel
theorem d_Row_leave_32 : decode b_Row_leave 32 = .ok (.iadd, 1) := by decide +kernel
theorem d_Row_leave_33 : decode b_Row_leave 33 = .ok (.aload_n 0, 1) := by decide +kernel
theorem d_Row_leave_34 : decode b_Row_leave 34 = .ok (.getfield 9, 3) := by decide +kernel
theorem d_Row_leave_37 : decode b_Row_leave 37 = .ok (.arraylength, 1) := by decide +kernel
theorem d_Row_leave_38 : decode b_Row_leave 38 = .ok (.if_icmp .ge 12, 3) := by decide +kernel
theorem d_Row_leave_41 : decode b_Row_leave 41 = .ok (.aload_n 0, 1) := by decide +kernel
theorem d_Row_leave_42 : decode b_Row_leave 42 = .ok (.getfield 19, 3) := by decide +kernel
theorem d_Row_leave_45 : decode b_Row_leave 45 = .ok (.iconst 1, 1) := by decide +kernel
theorem d_Row_leave_46 : decode b_Row_leave 46 = .ok (.iadd, 1) := by decide +kernel
theorem d_Row_leave_47 : decode b_Row_leave 47 = .ok (.goto 4, 3) := by decide +kernel
theorem d_Row_leave_50 : decode b_Row_leave 50 = .ok (.iconst 0, 1) := by decide +kernel
theorem d_Row_leave_51 : decode b_Row_leave 51 = .ok (.putfield 19, 3) := by decide +kernel
theorem d_Row_leave_54 : decode b_Row_leave 54 = .ok (.aload_n 0, 1) := by decide +kernel
theorem d_Row_leave_55 : decode b_Row_leave 55 = .ok (.dup, 1) := by decide +kernel
theorem d_Row_leave_56 : decode b_Row_leave 56 = .ok (.getfield 23, 3) := by decide +kernel
theorem d_Row_leave_59 : decode b_Row_leave 59 = .ok (.iconst 1, 1) := by decide +kernel
theorem d_Row_leave_60 : decode b_Row_leave 60 = .ok (.isub, 1) := by decide +kernel
theorem d_Row_leave_61 : decode b_Row_leave 61 = .ok (.putfield 23, 3) := by decide +kernel
theorem d_Row_leave_64 : decode b_Row_leave 64 = .ok (.iload_n 1, 1) := by decide +kernel
theorem d_Row_leave_65 : decode b_Row_leave 65 = .ok (.ireturn, 1) := by decide +kernel
theorem d_Row_copyFrom_0 : decode b_Row_copyFrom 0 = .ok (.iconst 0, 1) := by decide +kernel
theorem d_Row_copyFrom_1 : decode b_Row_copyFrom 1 = .ok (.istore_n 2, 1) := by decide +kernel
theorem d_Row_copyFrom_2 : decode b_Row_copyFrom 2 = .ok (.iload_n 2, 1) := by decide +kernel
theorem d_Row_copyFrom_3 : decode b_Row_copyFrom 3 = .ok (.aload_n 0, 1) := by decide +kernel
theorem d_Row_copyFrom_4 : decode b_Row_copyFrom 4 = .ok (.getfield 9, 3) := by decide +kernel
theorem d_Row_copyFrom_7 : decode b_Row_copyFrom 7 = .ok (.arraylength, 1) := by decide +kernel
theorem d_Row_copyFrom_8 : decode b_Row_copyFrom 8 = .ok (.if_icmp .ge 33, 3) := by decide +kernel
theorem d_Row_copyFrom_11 : decode b_Row_copyFrom 11 = .ok (.aload_n 0, 1) := by decide +kernel
theorem d_Row_copyFrom_12 : decode b_Row_copyFrom 12 = .ok (.getfield 9, 3) := by decide +kernel
theorem d_Row_copyFrom_15 : decode b_Row_copyFrom 15 = .ok (.iload_n 2, 1) := by decide +kernel
theorem d_Row_copyFrom_16 : decode b_Row_copyFrom 16 = .ok (.aload_n 1, 1) := by decide +kernel
theorem d_Row_copyFrom_17 : decode b_Row_copyFrom 17 = .ok (.getfield 9, 3) := by decide +kernel
theorem d_Row_copyFrom_20 : decode b_Row_copyFrom 20 = .ok (.iload_n 2, 1) := by decide +kernel
theorem d_Row_copyFrom_21 : decode b_Row_copyFrom 21 = .ok (.iaload, 1) := by decide +kernel
theorem d_Row_copyFrom_22 : decode b_Row_copyFrom 22 = .ok (.iastore, 1) := by decide +kernel
theorem d_Row_copyFrom_23 : decode b_Row_copyFrom 23 = .ok (.aload_n 0, 1) := by decide +kernel
theorem d_Row_copyFrom_24 : decode b_Row_copyFrom 24 = .ok (.getfield 15, 3) := by decide +kernel
theorem d_Row_copyFrom_27 : decode b_Row_copyFrom 27 = .ok (.iload_n 2, 1) := by decide +kernel
theorem d_Row_copyFrom_28 : decode b_Row_copyFrom 28 = .ok (.aload_n 1, 1) := by decide +kernel
theorem d_Row_copyFrom_29 : decode b_Row_copyFrom 29 = .ok (.getfield 15, 3) := by decide +kernel
theorem d_Row_copyFrom_32 : decode b_Row_copyFrom 32 = .ok (.iload_n 2, 1) := by decide +kernel
theorem d_Row_copyFrom_33 : decode b_Row_copyFrom 33 = .ok (.baload, 1) := by decide +kernel
theorem d_Row_copyFrom_34 : decode b_Row_copyFrom 34 = .ok (.bastore, 1) := by decide +kernel
theorem d_Row_copyFrom_35 : decode b_Row_copyFrom 35 = .ok (.iinc 2 1, 3) := by decide +kernel
theorem d_Row_copyFrom_38 : decode b_Row_copyFrom 38 = .ok (.goto (-36), 3) := by decide +kernel
theorem d_Row_copyFrom_41 : decode b_Row_copyFrom 41 = .ok (.aload_n 0, 1) := by decide +kernel
theorem d_Row_copyFrom_42 : decode b_Row_copyFrom 42 = .ok (.aload_n 1, 1) := by decide +kernel
theorem d_Row_copyFrom_43 : decode b_Row_copyFrom 43 = .ok (.getfield 19, 3) := by decide +kernel
theorem d_Row_copyFrom_46 : decode b_Row_copyFrom 46 = .ok (.putfield 19, 3) := by decide +kernel
theorem d_Row_copyFrom_49 : decode b_Row_copyFrom 49 = .ok (.aload_n 0, 1) := by decide +kernel
theorem d_Row_copyFrom_50 : decode b_Row_copyFrom 50 = .ok (.aload_n 1, 1) := by decide +kernel
theorem d_Row_copyFrom_51 : decode b_Row_copyFrom 51 = .ok (.getfield 23, 3) := by decide +kernel
theorem d_Row_copyFrom_54 : decode b_Row_copyFrom 54 = .ok (.putfield 23, 3) := by decide +kernel
theorem d_Row_copyFrom_57 : decode b_Row_copyFrom 57 = .ok (.return_, 1) := by decide +kernel
theorem d_Told_clear_0 : decode b_Told_clear 0 = .ok (.aload_n 0, 1) := by decide +kernel
theorem d_Told_clear_1 : decode b_Told_clear 1 = .ok (.iconst 0, 1) := by decide +kernel
theorem d_Told_clear_2 : decode b_Told_clear 2 = .ok (.putfield 15, 3) := by decide +kernel
theorem d_Told_clear_5 : decode b_Told_clear 5 = .ok (.return_, 1) := by decide +kernel
theorem d_Told_add_0 : decode b_Told_add 0 = .ok (.aload_n 0, 1) := by decide +kernel
theorem d_Told_add_1 : decode b_Told_add 1 = .ok (.getfield 15, 3) := by decide +kernel
theorem d_Told_add_4 : decode b_Told_add 4 = .ok (.aload_n 0, 1) := by decide +kernel
theorem d_Told_add_5 : decode b_Told_add 5 = .ok (.getfield 9, 3) := by decide +kernel
theorem d_Told_add_8 : decode b_Told_add 8 = .ok (.arraylength, 1) := by decide +kernel
theorem d_Told_add_9 : decode b_Told_add 9 = .ok (.if_icmp .ge 13, 3) := by decide +kernel
theorem d_Told_add_12 : decode b_Told_add 12 = .ok (.aload_n 0, 1) := by decide +kernel
theorem d_Told_add_13 : decode b_Told_add 13 = .ok (.getfield 9, 3) := by decide +kernel
theorem d_Told_add_16 : decode b_Told_add 16 = .ok (.aload_n 0, 1) := by decide +kernel
theorem d_Told_add_17 : decode b_Told_add 17 = .ok (.getfield 15, 3) := by decide +kernel
theorem d_Told_add_20 : decode b_Told_add 20 = .ok (.iload_n 1, 1) := by decide +kernel
theorem d_Told_add_21 : decode b_Told_add 21 = .ok (.iastore, 1) := by decide +kernel
theorem d_Told_add_22 : decode b_Told_add 22 = .ok (.aload_n 0, 1) := by decide +kernel
theorem d_Told_add_23 : decode b_Told_add 23 = .ok (.dup, 1) := by decide +kernel
theorem d_Told_add_24 : decode b_Told_add 24 = .ok (.getfield 15, 3) := by decide +kernel
theorem d_Told_add_27 : decode b_Told_add 27 = .ok (.iconst 1, 1) := by decide +kernel
theorem d_Told_add_28 : decode b_Told_add 28 = .ok (.iadd, 1) := by decide +kernel
theorem d_Told_add_29 : decode b_Told_add 29 = .ok (.putfield 15, 3) := by decide +kernel
theorem d_Told_add_32 : decode b_Told_add 32 = .ok (.return_, 1) := by decide +kernel
theorem d_Told_ruleAt_0 : decode b_Told_ruleAt 0 = .ok (.iload_n 1, 1) := by decide +kernel
theorem d_Told_ruleAt_1 : decode b_Told_ruleAt 1 = .ok (.ifCond .lt 29, 3) := by decide +kernel
theorem d_Told_ruleAt_4 : decode b_Told_ruleAt 4 = .ok (.iload_n 1, 1) := by decide +kernel
theorem d_Told_ruleAt_5 : decode b_Told_ruleAt 5 = .ok (.aload_n 0, 1) := by decide +kernel
theorem d_Told_ruleAt_6 : decode b_Told_ruleAt 6 = .ok (.getfield 15, 3) := by decide +kernel
theorem d_Told_ruleAt_9 : decode b_Told_ruleAt 9 = .ok (.if_icmp .ge 21, 3) := by decide +kernel
theorem d_Told_ruleAt_12 : decode b_Told_ruleAt 12 = .ok (.iload_n 1, 1) := by decide +kernel
theorem d_Told_ruleAt_13 : decode b_Told_ruleAt 13 = .ok (.aload_n 0, 1) := by decide +kernel
theorem d_Told_ruleAt_14 : decode b_Told_ruleAt 14 = .ok (.getfield 9, 3) := by decide +kernel
theorem d_Told_ruleAt_17 : decode b_Told_ruleAt 17 = .ok (.arraylength, 1) := by decide +kernel
theorem d_Told_ruleAt_18 : decode b_Told_ruleAt 18 = .ok (.if_icmp .ge 12, 3) := by decide +kernel
theorem d_Told_ruleAt_21 : decode b_Told_ruleAt 21 = .ok (.aload_n 0, 1) := by decide +kernel
theorem d_Told_ruleAt_22 : decode b_Told_ruleAt 22 = .ok (.getfield 9, 3) := by decide +kernel
theorem d_Told_ruleAt_25 : decode b_Told_ruleAt 25 = .ok (.iload_n 1, 1) := by decide +kernel
theorem d_Told_ruleAt_26 : decode b_Told_ruleAt 26 = .ok (.iaload, 1) := by decide +kernel
theorem d_Told_ruleAt_27 : decode b_Told_ruleAt 27 = .ok (.goto 4, 3) := by decide +kernel
theorem d_Told_ruleAt_30 : decode b_Told_ruleAt 30 = .ok (.iconst (-1), 1) := by decide +kernel
theorem d_Told_ruleAt_31 : decode b_Told_ruleAt 31 = .ok (.ireturn, 1) := by decide +kernel
theorem d_Told_copyFrom_0 : decode b_Told_copyFrom 0 = .ok (.aload_n 0, 1) := by decide +kernel
theorem d_Told_copyFrom_1 : decode b_Told_copyFrom 1 = .ok (.aload_n 1, 1) := by decide +kernel
theorem d_Told_copyFrom_2 : decode b_Told_copyFrom 2 = .ok (.getfield 15, 3) := by decide +kernel
theorem d_Told_copyFrom_5 : decode b_Told_copyFrom 5 = .ok (.putfield 15, 3) := by decide +kernel
theorem d_Told_copyFrom_8 : decode b_Told_copyFrom 8 = .ok (.aload_n 1, 1) := by decide +kernel
theorem d_Told_copyFrom_9 : decode b_Told_copyFrom 9 = .ok (.getfield 9, 3) := by decide +kernel
theorem d_Told_copyFrom_12 : decode b_Told_copyFrom 12 = .ok (.iconst 0, 1) := by decide +kernel
theorem d_Told_copyFrom_13 : decode b_Told_copyFrom 13 = .ok (.aload_n 0, 1) := by decide +kernel
theorem d_Told_copyFrom_14 : decode b_Told_copyFrom 14 = .ok (.getfield 9, 3) := by decide +kernel
theorem d_Told_copyFrom_17 : decode b_Told_copyFrom 17 = .ok (.iconst 0, 1) := by decide +kernel
theorem d_Told_copyFrom_18 : decode b_Told_copyFrom 18 = .ok (.aload_n 0, 1) := by decide +kernel
theorem d_Told_copyFrom_19 : decode b_Told_copyFrom 19 = .ok (.getfield 15, 3) := by decide +kernel
theorem d_Told_copyFrom_22 : decode b_Told_copyFrom 22 = .ok (.aload_n 0, 1) := by decide +kernel
theorem d_Told_copyFrom_23 : decode b_Told_copyFrom 23 = .ok (.getfield 9, 3) := by decide +kernel
theorem d_Told_copyFrom_26 : decode b_Told_copyFrom 26 = .ok (.arraylength, 1) := by decide +kernel
theorem d_Told_copyFrom_27 : decode b_Told_copyFrom 27 = .ok (.invokestatic 19, 3) := by decide +kernel
theorem d_Told_copyFrom_30 : decode b_Told_copyFrom 30 = .ok (.invokestatic 25, 3) := by decide +kernel
theorem d_Told_copyFrom_33 : decode b_Told_copyFrom 33 = .ok (.return_, 1) := by decide +kernel
theorem d_Row_init_0 : decode b_Row_init 0 = .ok (.aload_n 0, 1) := by decide +kernel
theorem d_Row_init_1 : decode b_Row_init 1 = .ok (.invokespecial 3, 3) := by decide +kernel
theorem d_Row_init_4 : decode b_Row_init 4 = .ok (.aload_n 0, 1) := by decide +kernel
theorem d_Row_init_5 : decode b_Row_init 5 = .ok (.bipush 120, 2) := by decide +kernel
theorem d_Row_init_7 : decode b_Row_init 7 = .ok (.newarray .int, 2) := by decide +kernel
theorem d_Row_init_9 : decode b_Row_init 9 = .ok (.putfield 9, 3) := by decide +kernel
theorem d_Row_init_12 : decode b_Row_init 12 = .ok (.aload_n 0, 1) := by decide +kernel
theorem d_Row_init_13 : decode b_Row_init 13 = .ok (.bipush 120, 2) := by decide +kernel
theorem d_Row_init_15 : decode b_Row_init 15 = .ok (.newarray .boolean, 2) := by decide +kernel
theorem d_Row_init_17 : decode b_Row_init 17 = .ok (.putfield 15, 3) := by decide +kernel
theorem d_Row_init_20 : decode b_Row_init 20 = .ok (.aload_n 0, 1) := by decide +kernel
theorem d_Row_init_21 : decode b_Row_init 21 = .ok (.iconst 0, 1) := by decide +kernel
theorem d_Row_init_22 : decode b_Row_init 22 = .ok (.putfield 19, 3) := by decide +kernel
theorem d_Row_init_25 : decode b_Row_init 25 = .ok (.aload_n 0, 1) := by decide +kernel
theorem d_Row_init_26 : decode b_Row_init 26 = .ok (.iconst 0, 1) := by decide +kernel
theorem d_Row_init_27 : decode b_Row_init 27 = .ok (.putfield 23, 3) := by decide +kernel
theorem d_Row_init_30 : decode b_Row_init 30 = .ok (.return_, 1) := by decide +kernel
theorem d_Told_init_0 : decode b_Told_init 0 = .ok (.aload_n 0, 1) := by decide +kernel
theorem d_Told_init_1 : decode b_Told_init 1 = .ok (.invokespecial 3, 3) := by decide +kernel
theorem d_Told_init_4 : decode b_Told_init 4 = .ok (.aload_n 0, 1) := by decide +kernel
theorem d_Told_init_5 : decode b_Told_init 5 = .ok (.sipush 1000, 3) := by decide +kernel
theorem d_Told_init_8 : decode b_Told_init 8 = .ok (.newarray .int, 2) := by decide +kernel
theorem d_Told_init_10 : decode b_Told_init 10 = .ok (.putfield 9, 3) := by decide +kernel
theorem d_Told_init_13 : decode b_Told_init 13 = .ok (.aload_n 0, 1) := by decide +kernel
theorem d_Told_init_14 : decode b_Told_init 14 = .ok (.iconst 0, 1) := by decide +kernel
theorem d_Told_init_15 : decode b_Told_init 15 = .ok (.putfield 15, 3) := by decide +kernel
theorem d_Told_init_18 : decode b_Told_init 18 = .ok (.return_, 1) := by decide +kernel
theorem d_Mark_init_0 : decode b_Mark_init 0 = .ok (.aload_n 0, 1) := by decide +kernel
theorem d_Mark_init_1 : decode b_Mark_init 1 = .ok (.invokespecial 1, 3) := by decide +kernel
theorem d_Mark_init_4 : decode b_Mark_init 4 = .ok (.aload_n 0, 1) := by decide +kernel
theorem d_Mark_init_5 : decode b_Mark_init 5 = .ok (.iconst 0, 1) := by decide +kernel
theorem d_Mark_init_6 : decode b_Mark_init 6 = .ok (.putfield 7, 3) := by decide +kernel
theorem d_Mark_init_9 : decode b_Mark_init 9 = .ok (.aload_n 0, 1) := by decide +kernel
theorem d_Mark_init_10 : decode b_Mark_init 10 = .ok (.new 13, 3) := by decide +kernel
theorem d_Mark_init_13 : decode b_Mark_init 13 = .ok (.dup, 1) := by decide +kernel
theorem d_Mark_init_14 : decode b_Mark_init 14 = .ok (.invokespecial 15, 3) := by decide +kernel
theorem d_Mark_init_17 : decode b_Mark_init 17 = .ok (.putfield 16, 3) := by decide +kernel
theorem d_Mark_init_20 : decode b_Mark_init 20 = .ok (.aload_n 0, 1) := by decide +kernel
theorem d_Mark_init_21 : decode b_Mark_init 21 = .ok (.new 20, 3) := by decide +kernel
theorem d_Mark_init_24 : decode b_Mark_init 24 = .ok (.dup, 1) := by decide +kernel
theorem d_Mark_init_25 : decode b_Mark_init 25 = .ok (.invokespecial 22, 3) := by decide +kernel
theorem d_Mark_init_28 : decode b_Mark_init 28 = .ok (.putfield 23, 3) := by decide +kernel
theorem d_Mark_init_31 : decode b_Mark_init 31 = .ok (.return_, 1) := by decide +kernel
theorem d_Giving_init_0 : decode b_Giving_init 0 = .ok (.aload_n 0, 1) := by decide +kernel
theorem d_Giving_init_1 : decode b_Giving_init 1 = .ok (.invokespecial 3, 3) := by decide +kernel
theorem d_Giving_init_4 : decode b_Giving_init 4 = .ok (.aload_n 0, 1) := by decide +kernel
theorem d_Giving_init_5 : decode b_Giving_init 5 = .ok (.bipush 16, 2) := by decide +kernel
theorem d_Giving_init_7 : decode b_Giving_init 7 = .ok (.newarray .int, 2) := by decide +kernel
theorem d_Giving_init_9 : decode b_Giving_init 9 = .ok (.putfield 9, 3) := by decide +kernel
theorem d_Giving_init_12 : decode b_Giving_init 12 = .ok (.aload_n 0, 1) := by decide +kernel
theorem d_Giving_init_13 : decode b_Giving_init 13 = .ok (.bipush 16, 2) := by decide +kernel
theorem d_Giving_init_15 : decode b_Giving_init 15 = .ok (.newarray .int, 2) := by decide +kernel
theorem d_Giving_init_17 : decode b_Giving_init 17 = .ok (.putfield 15, 3) := by decide +kernel
theorem d_Giving_init_20 : decode b_Giving_init 20 = .ok (.aload_n 0, 1) := by decide +kernel
theorem d_Giving_init_21 : decode b_Giving_init 21 = .ok (.bipush 16, 2) := by decide +kernel
theorem d_Giving_init_23 : decode b_Giving_init 23 = .ok (.newarray .int, 2) := by decide +kernel
theorem d_Giving_init_25 : decode b_Giving_init 25 = .ok (.putfield 18, 3) := by decide +kernel
theorem d_Giving_init_28 : decode b_Giving_init 28 = .ok (.aload_n 0, 1) := by decide +kernel
theorem d_Giving_init_29 : decode b_Giving_init 29 = .ok (.bipush 16, 2) := by decide +kernel
theorem d_Giving_init_31 : decode b_Giving_init 31 = .ok (.newarray .int, 2) := by decide +kernel
theorem d_Giving_init_33 : decode b_Giving_init 33 = .ok (.putfield 21, 3) := by decide +kernel
theorem d_Giving_init_36 : decode b_Giving_init 36 = .ok (.aload_n 0, 1) := by decide +kernel
theorem d_Giving_init_37 : decode b_Giving_init 37 = .ok (.lconst 0, 1) := by decide +kernel
theorem d_Giving_init_38 : decode b_Giving_init 38 = .ok (.putfield 24, 3) := by decide +kernel
theorem d_Giving_init_41 : decode b_Giving_init 41 = .ok (.aload_n 0, 1) := by decide +kernel
theorem d_Giving_init_42 : decode b_Giving_init 42 = .ok (.iconst 0, 1) := by decide +kernel
theorem d_Giving_init_43 : decode b_Giving_init 43 = .ok (.putfield 28, 3) := by decide +kernel
theorem d_Giving_init_46 : decode b_Giving_init 46 = .ok (.return_, 1) := by decide +kernel
theorem d_Kernel_init_0 : decode b_Kernel_init 0 = .ok (.aload_n 0, 1) := by decide +kernel
theorem d_Kernel_init_1 : decode b_Kernel_init 1 = .ok (.invokespecial 3, 3) := by decide +kernel
theorem d_Kernel_init_4 : decode b_Kernel_init 4 = .ok (.aload_n 0, 1) := by decide +kernel
theorem d_Kernel_init_5 : decode b_Kernel_init 5 = .ok (.iload_n 1, 1) := by decide +kernel
theorem d_Kernel_init_6 : decode b_Kernel_init 6 = .ok (.putfield 9, 3) := by decide +kernel
theorem d_Kernel_init_9 : decode b_Kernel_init 9 = .ok (.aload_n 0, 1) := by decide +kernel
theorem d_Kernel_init_10 : decode b_Kernel_init 10 = .ok (.bipush 16, 2) := by decide +kernel
theorem d_Kernel_init_12 : decode b_Kernel_init 12 = .ok (.newarray .long, 2) := by decide +kernel
theorem d_Kernel_init_14 : decode b_Kernel_init 14 = .ok (.putfield 15, 3) := by decide +kernel
theorem d_Kernel_init_17 : decode b_Kernel_init 17 = .ok (.aload_n 0, 1) := by decide +kernel
theorem d_Kernel_init_18 : decode b_Kernel_init 18 = .ok (.bipush 16, 2) := by decide +kernel
theorem d_Kernel_init_20 : decode b_Kernel_init 20 = .ok (.newarray .long, 2) := by decide +kernel
theorem d_Kernel_init_22 : decode b_Kernel_init 22 = .ok (.putfield 19, 3) := by decide +kernel
theorem d_Kernel_init_25 : decode b_Kernel_init 25 = .ok (.aload_n 0, 1) := by decide +kernel
theorem d_Kernel_init_26 : decode b_Kernel_init 26 = .ok (.new 22, 3) := by decide +kernel
theorem d_Kernel_init_29 : decode b_Kernel_init 29 = .ok (.dup, 1) := by decide +kernel
theorem d_Kernel_init_30 : decode b_Kernel_init 30 = .ok (.invokespecial 24, 3) := by decide +kernel
theorem d_Kernel_init_33 : decode b_Kernel_init 33 = .ok (.putfield 25, 3) := by decide +kernel
theorem d_Kernel_init_36 : decode b_Kernel_init 36 = .ok (.return_, 1) := by decide +kernel
theorem d_Board_hasPlace_0 : decode b_Board_hasPlace 0 = .ok (.iload_n 1, 1) := by decide +kernel
theorem d_Board_hasPlace_1 : decode b_Board_hasPlace 1 = .ok (.ifCond .lt 16, 3) := by decide +kernel
theorem d_Board_hasPlace_4 : decode b_Board_hasPlace 4 = .ok (.iload_n 1, 1) := by decide +kernel
theorem d_Board_hasPlace_5 : decode b_Board_hasPlace 5 = .ok (.aload_n 0, 1) := by decide +kernel
theorem d_Board_hasPlace_6 : decode b_Board_hasPlace 6 = .ok (.getfield 15, 3) := by decide +kernel
theorem d_Board_hasPlace_9 : decode b_Board_hasPlace 9 = .ok (.arraylength, 1) := by decide +kernel
theorem d_Board_hasPlace_10 : decode b_Board_hasPlace 10 = .ok (.if_icmp .ge 7, 3) := by decide +kernel
theorem d_Board_hasPlace_13 : decode b_Board_hasPlace 13 = .ok (.iconst 1, 1) := by decide +kernel
theorem d_Board_hasPlace_14 : decode b_Board_hasPlace 14 = .ok (.goto 4, 3) := by decide +kernel
theorem d_Board_hasPlace_17 : decode b_Board_hasPlace 17 = .ok (.iconst 0, 1) := by decide +kernel
theorem d_Board_hasPlace_18 : decode b_Board_hasPlace 18 = .ok (.ireturn, 1) := by decide +kernel
theorem d_Board_hasSymbol_0 : decode b_Board_hasSymbol 0 = .ok (.iload_n 1, 1) := by decide +kernel
theorem d_Board_hasSymbol_1 : decode b_Board_hasSymbol 1 = .ok (.ifCond .lt 15, 3) := by decide +kernel
theorem d_Board_hasSymbol_4 : decode b_Board_hasSymbol 4 = .ok (.iload_n 1, 1) := by decide +kernel
theorem d_Board_hasSymbol_5 : decode b_Board_hasSymbol 5 = .ok (.aload_n 0, 1) := by decide +kernel
theorem d_Board_hasSymbol_6 : decode b_Board_hasSymbol 6 = .ok (.getfield 9, 3) := by decide +kernel
theorem d_Board_hasSymbol_9 : decode b_Board_hasSymbol 9 = .ok (.if_icmp .ge 7, 3) := by decide +kernel
theorem d_Board_hasSymbol_12 : decode b_Board_hasSymbol 12 = .ok (.iconst 1, 1) := by decide +kernel
theorem d_Board_hasSymbol_13 : decode b_Board_hasSymbol 13 = .ok (.goto 4, 3) := by decide +kernel
theorem d_Board_hasSymbol_16 : decode b_Board_hasSymbol 16 = .ok (.iconst 0, 1) := by decide +kernel
theorem d_Board_hasSymbol_17 : decode b_Board_hasSymbol 17 = .ok (.ireturn, 1) := by decide +kernel
