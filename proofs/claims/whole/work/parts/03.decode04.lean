theorem d_RK_reason_0 : decode b_RK_reason 0 = .ok (.aload_n 0, 1) := by decide +kernel
theorem d_RK_reason_1 : decode b_RK_reason 1 = .ok (.getfield 23, 3) := by decide +kernel
theorem d_RK_reason_4 : decode b_RK_reason 4 = .ok (.iload_n 1, 1) := by decide +kernel
theorem d_RK_reason_5 : decode b_RK_reason 5 = .ok (.iload_n 2, 1) := by decide +kernel
theorem d_RK_reason_6 : decode b_RK_reason 6 = .ok (.invokevirtual 142, 3) := by decide +kernel
theorem d_RK_reason_9 : decode b_RK_reason 9 = .ok (.istore 4, 2) := by decide +kernel
theorem d_RK_reason_11 : decode b_RK_reason 11 = .ok (.aload_n 0, 1) := by decide +kernel
theorem d_RK_reason_12 : decode b_RK_reason 12 = .ok (.iload 4, 2) := by decide +kernel
theorem d_RK_reason_14 : decode b_RK_reason 14 = .ok (.invokevirtual 86, 3) := by decide +kernel
theorem d_RK_reason_17 : decode b_RK_reason 17 = .ok (.astore 5, 2) := by decide +kernel
theorem d_RK_reason_19 : decode b_RK_reason 19 = .ok (.aload 5, 2) := by decide +kernel
theorem d_RK_reason_21 : decode b_RK_reason 21 = .ok (.ifnull 16, 3) := by decide +kernel
theorem d_RK_reason_24 : decode b_RK_reason 24 = .ok (.iload_n 3, 1) := by decide +kernel
theorem d_RK_reason_25 : decode b_RK_reason 25 = .ok (.ifCond .lt 12, 3) := by decide +kernel
theorem d_RK_reason_28 : decode b_RK_reason 28 = .ok (.iload_n 3, 1) := by decide +kernel
theorem d_RK_reason_29 : decode b_RK_reason 29 = .ok (.aload 5, 2) := by decide +kernel
theorem d_RK_reason_31 : decode b_RK_reason 31 = .ok (.getfield 145, 3) := by decide +kernel
theorem d_RK_reason_34 : decode b_RK_reason 34 = .ok (.if_icmp .le 5, 3) := by decide +kernel
theorem d_RK_reason_37 : decode b_RK_reason 37 = .ok (.iconst (-1), 1) := by decide +kernel
theorem d_RK_reason_38 : decode b_RK_reason 38 = .ok (.ireturn, 1) := by decide +kernel
theorem d_RK_reason_39 : decode b_RK_reason 39 = .ok (.iload_n 3, 1) := by decide +kernel
theorem d_RK_reason_40 : decode b_RK_reason 40 = .ok (.ifCond .ne 8, 3) := by decide +kernel
theorem d_RK_reason_43 : decode b_RK_reason 43 = .ok (.iload 4, 2) := by decide +kernel
theorem d_RK_reason_45 : decode b_RK_reason 45 = .ok (.goto 12, 3) := by decide +kernel
theorem d_RK_reason_48 : decode b_RK_reason 48 = .ok (.aload 5, 2) := by decide +kernel
theorem d_RK_reason_50 : decode b_RK_reason 50 = .ok (.getfield 146, 3) := by decide +kernel
theorem d_RK_reason_53 : decode b_RK_reason 53 = .ok (.iload_n 3, 1) := by decide +kernel
theorem d_RK_reason_54 : decode b_RK_reason 54 = .ok (.iconst 1, 1) := by decide +kernel
theorem d_RK_reason_55 : decode b_RK_reason 55 = .ok (.isub, 1) := by decide +kernel
theorem d_RK_reason_56 : decode b_RK_reason 56 = .ok (.iaload, 1) := by decide +kernel
theorem d_RK_reason_57 : decode b_RK_reason 57 = .ok (.ireturn, 1) := by decide +kernel
theorem d_RK_runFirst_0 : decode b_RK_runFirst 0 = .ok (.aload_n 0, 1) := by decide +kernel
theorem d_RK_runFirst_1 : decode b_RK_runFirst 1 = .ok (.getfield 52, 3) := by decide +kernel
theorem d_RK_runFirst_4 : decode b_RK_runFirst 4 = .ok (.invokevirtual 173, 3) := by decide +kernel
theorem d_RK_runFirst_7 : decode b_RK_runFirst 7 = .ok (.istore_n 1, 1) := by decide +kernel
theorem d_RK_runFirst_8 : decode b_RK_runFirst 8 = .ok (.aload_n 0, 1) := by decide +kernel
theorem d_RK_runFirst_9 : decode b_RK_runFirst 9 = .ok (.iload_n 1, 1) := by decide +kernel
theorem d_RK_runFirst_10 : decode b_RK_runFirst 10 = .ok (.invokevirtual 86, 3) := by decide +kernel
theorem d_RK_runFirst_13 : decode b_RK_runFirst 13 = .ok (.astore_n 2, 1) := by decide +kernel
theorem d_RK_runFirst_14 : decode b_RK_runFirst 14 = .ok (.aload_n 2, 1) := by decide +kernel
theorem d_RK_runFirst_15 : decode b_RK_runFirst 15 = .ok (.ifnonnull 4, 3) := by decide +kernel
theorem d_RK_runFirst_18 : decode b_RK_runFirst 18 = .ok (.return_, 1) := by decide +kernel
theorem d_RK_runFirst_19 : decode b_RK_runFirst 19 = .ok (.aload_n 0, 1) := by decide +kernel
theorem d_RK_runFirst_20 : decode b_RK_runFirst 20 = .ok (.getfield 59, 3) := by decide +kernel
theorem d_RK_runFirst_23 : decode b_RK_runFirst 23 = .ok (.iload_n 1, 1) := by decide +kernel
theorem d_RK_runFirst_24 : decode b_RK_runFirst 24 = .ok (.invokevirtual 176, 3) := by decide +kernel
theorem d_RK_runFirst_27 : decode b_RK_runFirst 27 = .ok (.iconst 0, 1) := by decide +kernel
theorem d_RK_runFirst_28 : decode b_RK_runFirst 28 = .ok (.istore_n 3, 1) := by decide +kernel
theorem d_RK_runFirst_29 : decode b_RK_runFirst 29 = .ok (.iload_n 3, 1) := by decide +kernel
theorem d_RK_runFirst_30 : decode b_RK_runFirst 30 = .ok (.aload_n 2, 1) := by decide +kernel
theorem d_RK_runFirst_31 : decode b_RK_runFirst 31 = .ok (.getfield 145, 3) := by decide +kernel
theorem d_RK_runFirst_34 : decode b_RK_runFirst 34 = .ok (.if_icmp .ge 32, 3) := by decide +kernel
theorem d_RK_runFirst_37 : decode b_RK_runFirst 37 = .ok (.aload_n 0, 1) := by decide +kernel
theorem d_RK_runFirst_38 : decode b_RK_runFirst 38 = .ok (.getfield 45, 3) := by decide +kernel
theorem d_RK_runFirst_41 : decode b_RK_runFirst 41 = .ok (.getfield 179, 3) := by decide +kernel
theorem d_RK_runFirst_44 : decode b_RK_runFirst 44 = .ok (.iload_n 3, 1) := by decide +kernel
theorem d_RK_runFirst_45 : decode b_RK_runFirst 45 = .ok (.aload_n 0, 1) := by decide +kernel
theorem d_RK_runFirst_46 : decode b_RK_runFirst 46 = .ok (.getfield 23, 3) := by decide +kernel
theorem d_RK_runFirst_49 : decode b_RK_runFirst 49 = .ok (.getfield 139, 3) := by decide +kernel
theorem d_RK_runFirst_52 : decode b_RK_runFirst 52 = .ok (.aload_n 2, 1) := by decide +kernel
theorem d_RK_runFirst_53 : decode b_RK_runFirst 53 = .ok (.getfield 146, 3) := by decide +kernel
theorem d_RK_runFirst_56 : decode b_RK_runFirst 56 = .ok (.iload_n 3, 1) := by decide +kernel
theorem d_RK_runFirst_57 : decode b_RK_runFirst 57 = .ok (.iaload, 1) := by decide +kernel
theorem d_RK_runFirst_58 : decode b_RK_runFirst 58 = .ok (.laload, 1) := by decide +kernel
theorem d_RK_runFirst_59 : decode b_RK_runFirst 59 = .ok (.lastore, 1) := by decide +kernel
theorem d_RK_runFirst_60 : decode b_RK_runFirst 60 = .ok (.iinc 3 1, 3) := by decide +kernel
theorem d_RK_runFirst_63 : decode b_RK_runFirst 63 = .ok (.goto (-34), 3) := by decide +kernel
theorem d_RK_runFirst_66 : decode b_RK_runFirst 66 = .ok (.aload_n 0, 1) := by decide +kernel
theorem d_RK_runFirst_67 : decode b_RK_runFirst 67 = .ok (.getfield 45, 3) := by decide +kernel
theorem d_RK_runFirst_70 : decode b_RK_runFirst 70 = .ok (.aload_n 2, 1) := by decide +kernel
theorem d_RK_runFirst_71 : decode b_RK_runFirst 71 = .ok (.invokevirtual 182, 3) := by decide +kernel
theorem d_RK_runFirst_74 : decode b_RK_runFirst 74 = .ok (.iconst 0, 1) := by decide +kernel
theorem d_RK_runFirst_75 : decode b_RK_runFirst 75 = .ok (.istore_n 3, 1) := by decide +kernel
theorem d_RK_runFirst_76 : decode b_RK_runFirst 76 = .ok (.iload_n 3, 1) := by decide +kernel
theorem d_RK_runFirst_77 : decode b_RK_runFirst 77 = .ok (.aload_n 2, 1) := by decide +kernel
theorem d_RK_runFirst_78 : decode b_RK_runFirst 78 = .ok (.getfield 145, 3) := by decide +kernel
theorem d_RK_runFirst_81 : decode b_RK_runFirst 81 = .ok (.if_icmp .ge 33, 3) := by decide +kernel
theorem d_RK_runFirst_84 : decode b_RK_runFirst 84 = .ok (.aload_n 0, 1) := by decide +kernel
theorem d_RK_runFirst_85 : decode b_RK_runFirst 85 = .ok (.aload_n 2, 1) := by decide +kernel
theorem d_RK_runFirst_86 : decode b_RK_runFirst 86 = .ok (.getfield 146, 3) := by decide +kernel
theorem d_RK_runFirst_89 : decode b_RK_runFirst 89 = .ok (.iload_n 3, 1) := by decide +kernel
theorem d_RK_runFirst_90 : decode b_RK_runFirst 90 = .ok (.iaload, 1) := by decide +kernel
theorem d_RK_runFirst_91 : decode b_RK_runFirst 91 = .ok (.aload_n 0, 1) := by decide +kernel
theorem d_RK_runFirst_92 : decode b_RK_runFirst 92 = .ok (.getfield 45, 3) := by decide +kernel
theorem d_RK_runFirst_95 : decode b_RK_runFirst 95 = .ok (.getfield 186, 3) := by decide +kernel
theorem d_RK_runFirst_98 : decode b_RK_runFirst 98 = .ok (.iload_n 3, 1) := by decide +kernel
theorem d_RK_runFirst_99 : decode b_RK_runFirst 99 = .ok (.laload, 1) := by decide +kernel
theorem d_RK_runFirst_100 : decode b_RK_runFirst 100 = .ok (.ldc2_w 120, 3) := by decide +kernel
theorem d_RK_runFirst_103 : decode b_RK_runFirst 103 = .ok (.lxor, 1) := by decide +kernel
theorem d_RK_runFirst_104 : decode b_RK_runFirst 104 = .ok (.iload_n 1, 1) := by decide +kernel
theorem d_RK_runFirst_105 : decode b_RK_runFirst 105 = .ok (.invokevirtual 117, 3) := by decide +kernel
theorem d_RK_runFirst_108 : decode b_RK_runFirst 108 = .ok (.iinc 3 1, 3) := by decide +kernel
theorem d_RK_runFirst_111 : decode b_RK_runFirst 111 = .ok (.goto (-35), 3) := by decide +kernel
theorem d_RK_runFirst_114 : decode b_RK_runFirst 114 = .ok (.return_, 1) := by decide +kernel
theorem d_RK_run_0 : decode b_RK_run 0 = .ok (.aload_n 0, 1) := by decide +kernel
theorem d_RK_run_1 : decode b_RK_run 1 = .ok (.getfield 59, 3) := by decide +kernel
theorem d_RK_run_4 : decode b_RK_run 4 = .ok (.invokevirtual 122, 3) := by decide +kernel
theorem d_RK_run_7 : decode b_RK_run 7 = .ok (.iconst 0, 1) := by decide +kernel
theorem d_RK_run_8 : decode b_RK_run 8 = .ok (.istore_n 1, 1) := by decide +kernel
theorem d_RK_run_9 : decode b_RK_run 9 = .ok (.iload_n 1, 1) := by decide +kernel
theorem d_RK_run_10 : decode b_RK_run 10 = .ok (.ldc 125, 2) := by decide +kernel
theorem d_RK_run_12 : decode b_RK_run 12 = .ok (.if_icmp .ge 33, 3) := by decide +kernel
theorem d_RK_run_15 : decode b_RK_run 15 = .ok (.aload_n 0, 1) := by decide +kernel
theorem d_RK_run_16 : decode b_RK_run 16 = .ok (.getfield 52, 3) := by decide +kernel
theorem d_RK_run_19 : decode b_RK_run 19 = .ok (.getfield 126, 3) := by decide +kernel
theorem d_RK_run_22 : decode b_RK_run 22 = .ok (.ifCond .le 23, 3) := by decide +kernel
theorem d_RK_run_25 : decode b_RK_run 25 = .ok (.aload_n 0, 1) := by decide +kernel
theorem d_RK_run_26 : decode b_RK_run 26 = .ok (.getfield 23, 3) := by decide +kernel
theorem d_RK_run_29 : decode b_RK_run 29 = .ok (.getfield 129, 3) := by decide +kernel
theorem d_RK_run_32 : decode b_RK_run 32 = .ok (.ifCond .ne 13, 3) := by decide +kernel
theorem d_RK_run_35 : decode b_RK_run 35 = .ok (.aload_n 0, 1) := by decide +kernel
theorem d_RK_run_36 : decode b_RK_run 36 = .ok (.invokevirtual 132, 3) := by decide +kernel
theorem d_RK_run_39 : decode b_RK_run 39 = .ok (.iinc 1 1, 3) := by decide +kernel
theorem d_RK_run_42 : decode b_RK_run 42 = .ok (.goto (-33), 3) := by decide +kernel
theorem d_RK_run_45 : decode b_RK_run 45 = .ok (.aload_n 0, 1) := by decide +kernel
theorem d_RK_run_46 : decode b_RK_run 46 = .ok (.getfield 23, 3) := by decide +kernel
theorem d_RK_run_49 : decode b_RK_run 49 = .ok (.invokevirtual 135, 3) := by decide +kernel
theorem d_RK_run_52 : decode b_RK_run 52 = .ok (.iconst 1, 1) := by decide +kernel
theorem d_RK_run_53 : decode b_RK_run 53 = .ok (.iadd, 1) := by decide +kernel
theorem d_RK_run_54 : decode b_RK_run 54 = .ok (.ireturn, 1) := by decide +kernel
theorem d_RK_rule_0 : decode b_RK_rule 0 = .ok (.iload_n 1, 1) := by decide +kernel
theorem d_RK_rule_1 : decode b_RK_rule 1 = .ok (.ifCond .lt 25, 3) := by decide +kernel
theorem d_RK_rule_4 : decode b_RK_rule 4 = .ok (.iload_n 1, 1) := by decide +kernel
theorem d_RK_rule_5 : decode b_RK_rule 5 = .ok (.bipush 7, 2) := by decide +kernel
theorem d_RK_rule_7 : decode b_RK_rule 7 = .ok (.if_icmp .gt 19, 3) := by decide +kernel
theorem d_RK_rule_10 : decode b_RK_rule 10 = .ok (.lload_n 2, 1) := by decide +kernel
theorem d_RK_rule_11 : decode b_RK_rule 11 = .ok (.ldc2_w 76, 3) := by decide +kernel
theorem d_RK_rule_14 : decode b_RK_rule 14 = .ok (.lcmp, 1) := by decide +kernel
theorem d_RK_rule_15 : decode b_RK_rule 15 = .ok (.ifCond .lt 11, 3) := by decide +kernel
theorem d_RK_rule_18 : decode b_RK_rule 18 = .ok (.lload_n 2, 1) := by decide +kernel
theorem d_RK_rule_19 : decode b_RK_rule 19 = .ok (.ldc2_w 78, 3) := by decide +kernel
theorem d_RK_rule_22 : decode b_RK_rule 22 = .ok (.lcmp, 1) := by decide +kernel
theorem d_RK_rule_23 : decode b_RK_rule 23 = .ok (.ifCond .le 5, 3) := by decide +kernel
theorem d_RK_rule_26 : decode b_RK_rule 26 = .ok (.iconst (-1), 1) := by decide +kernel
theorem d_RK_rule_27 : decode b_RK_rule 27 = .ok (.ireturn, 1) := by decide +kernel
theorem d_RK_rule_28 : decode b_RK_rule 28 = .ok (.aload_n 0, 1) := by decide +kernel
theorem d_RK_rule_29 : decode b_RK_rule 29 = .ok (.getfield 69, 3) := by decide +kernel
theorem d_RK_rule_32 : decode b_RK_rule 32 = .ok (.bipush 120, 2) := by decide +kernel
theorem d_RK_rule_34 : decode b_RK_rule 34 = .ok (.if_icmp .ge 10, 3) := by decide +kernel
theorem d_RK_rule_37 : decode b_RK_rule 37 = .ok (.aload_n 0, 1) := by decide +kernel
theorem d_RK_rule_38 : decode b_RK_rule 38 = .ok (.getfield 73, 3) := by decide +kernel
theorem d_RK_rule_41 : decode b_RK_rule 41 = .ok (.ifCond .le 5, 3) := by decide +kernel
theorem d_RK_rule_44 : decode b_RK_rule 44 = .ok (.iconst (-1), 1) := by decide +kernel
theorem d_RK_rule_45 : decode b_RK_rule 45 = .ok (.ireturn, 1) := by decide +kernel
theorem d_RK_rule_46 : decode b_RK_rule 46 = .ok (.aload_n 0, 1) := by decide +kernel
theorem d_RK_rule_47 : decode b_RK_rule 47 = .ok (.getfield 29, 3) := by decide +kernel
theorem d_RK_rule_50 : decode b_RK_rule 50 = .ok (.aload_n 0, 1) := by decide +kernel
theorem d_RK_rule_51 : decode b_RK_rule 51 = .ok (.getfield 69, 3) := by decide +kernel
theorem d_RK_rule_54 : decode b_RK_rule 54 = .ok (.new 27, 3) := by decide +kernel
theorem d_RK_rule_57 : decode b_RK_rule 57 = .ok (.dup, 1) := by decide +kernel
theorem d_RK_rule_58 : decode b_RK_rule 58 = .ok (.iload_n 1, 1) := by decide +kernel
theorem d_RK_rule_59 : decode b_RK_rule 59 = .ok (.lload_n 2, 1) := by decide +kernel
theorem d_RK_rule_60 : decode b_RK_rule 60 = .ok (.aload_n 0, 1) := by decide +kernel
theorem d_RK_rule_61 : decode b_RK_rule 61 = .ok (.getfield 23, 3) := by decide +kernel
theorem d_RK_rule_64 : decode b_RK_rule 64 = .ok (.getfield 80, 3) := by decide +kernel
theorem d_RK_rule_67 : decode b_RK_rule 67 = .ok (.invokespecial 83, 3) := by decide +kernel
theorem d_RK_rule_70 : decode b_RK_rule 70 = .ok (.aastore, 1) := by decide +kernel
theorem d_RK_rule_71 : decode b_RK_rule 71 = .ok (.aload_n 0, 1) := by decide +kernel
theorem d_RK_rule_72 : decode b_RK_rule 72 = .ok (.dup, 1) := by decide +kernel
theorem d_RK_rule_73 : decode b_RK_rule 73 = .ok (.getfield 69, 3) := by decide +kernel
theorem d_RK_rule_76 : decode b_RK_rule 76 = .ok (.iconst 1, 1) := by decide +kernel
theorem d_RK_rule_77 : decode b_RK_rule 77 = .ok (.iadd, 1) := by decide +kernel
theorem d_RK_rule_78 : decode b_RK_rule 78 = .ok (.putfield 69, 3) := by decide +kernel
theorem d_RK_rule_81 : decode b_RK_rule 81 = .ok (.aload_n 0, 1) := by decide +kernel
theorem d_RK_rule_82 : decode b_RK_rule 82 = .ok (.getfield 69, 3) := by decide +kernel
theorem d_RK_rule_85 : decode b_RK_rule 85 = .ok (.iconst 1, 1) := by decide +kernel
theorem d_RK_rule_86 : decode b_RK_rule 86 = .ok (.isub, 1) := by decide +kernel
theorem d_RK_rule_87 : decode b_RK_rule 87 = .ok (.ireturn, 1) := by decide +kernel
theorem d_RK_mark_0 : decode b_RK_mark 0 = .ok (.aload_n 0, 1) := by decide +kernel
theorem d_RK_mark_1 : decode b_RK_mark 1 = .ok (.getfield 73, 3) := by decide +kernel
theorem d_RK_mark_4 : decode b_RK_mark 4 = .ok (.bipush 20, 2) := by decide +kernel
theorem d_RK_mark_6 : decode b_RK_mark 6 = .ok (.if_icmp .lt 5, 3) := by decide +kernel
theorem d_RK_mark_9 : decode b_RK_mark 9 = .ok (.iconst (-1), 1) := by decide +kernel
theorem d_RK_mark_10 : decode b_RK_mark 10 = .ok (.ireturn, 1) := by decide +kernel
theorem d_RK_mark_11 : decode b_RK_mark 11 = .ok (.aload_n 0, 1) := by decide +kernel
theorem d_RK_mark_12 : decode b_RK_mark 12 = .ok (.getfield 65, 3) := by decide +kernel
theorem d_RK_mark_15 : decode b_RK_mark 15 = .ok (.aload_n 0, 1) := by decide +kernel
theorem d_RK_mark_16 : decode b_RK_mark 16 = .ok (.getfield 73, 3) := by decide +kernel
theorem d_RK_mark_19 : decode b_RK_mark 19 = .ok (.aaload, 1) := by decide +kernel
theorem d_RK_mark_20 : decode b_RK_mark 20 = .ok (.astore_n 1, 1) := by decide +kernel
theorem d_RK_mark_21 : decode b_RK_mark 21 = .ok (.aload_n 1, 1) := by decide +kernel
theorem d_RK_mark_22 : decode b_RK_mark 22 = .ok (.ifnonnull 21, 3) := by decide +kernel
theorem d_RK_mark_25 : decode b_RK_mark 25 = .ok (.new 63, 3) := by decide +kernel
theorem d_RK_mark_28 : decode b_RK_mark 28 = .ok (.dup, 1) := by decide +kernel
theorem d_RK_mark_29 : decode b_RK_mark 29 = .ok (.invokespecial 150, 3) := by decide +kernel
theorem d_RK_mark_32 : decode b_RK_mark 32 = .ok (.astore_n 1, 1) := by decide +kernel
theorem d_RK_mark_33 : decode b_RK_mark 33 = .ok (.aload_n 0, 1) := by decide +kernel
theorem d_RK_mark_34 : decode b_RK_mark 34 = .ok (.getfield 65, 3) := by decide +kernel
theorem d_RK_mark_37 : decode b_RK_mark 37 = .ok (.aload_n 0, 1) := by decide +kernel
theorem d_RK_mark_38 : decode b_RK_mark 38 = .ok (.getfield 73, 3) := by decide +kernel
theorem d_RK_mark_41 : decode b_RK_mark 41 = .ok (.aload_n 1, 1) := by decide +kernel
theorem d_RK_mark_42 : decode b_RK_mark 42 = .ok (.aastore, 1) := by decide +kernel
theorem d_RK_mark_43 : decode b_RK_mark 43 = .ok (.aload_n 1, 1) := by decide +kernel
theorem d_RK_mark_44 : decode b_RK_mark 44 = .ok (.aload_n 0, 1) := by decide +kernel
theorem d_RK_mark_45 : decode b_RK_mark 45 = .ok (.getfield 23, 3) := by decide +kernel
theorem d_RK_mark_48 : decode b_RK_mark 48 = .ok (.getfield 151, 3) := by decide +kernel
theorem d_RK_mark_51 : decode b_RK_mark 51 = .ok (.putfield 154, 3) := by decide +kernel
theorem d_RK_mark_54 : decode b_RK_mark 54 = .ok (.aload_n 1, 1) := by decide +kernel
theorem d_RK_mark_55 : decode b_RK_mark 55 = .ok (.getfield 155, 3) := by decide +kernel
theorem d_RK_mark_58 : decode b_RK_mark 58 = .ok (.aload_n 0, 1) := by decide +kernel
theorem d_RK_mark_59 : decode b_RK_mark 59 = .ok (.getfield 52, 3) := by decide +kernel
theorem d_RK_mark_62 : decode b_RK_mark 62 = .ok (.invokevirtual 156, 3) := by decide +kernel
theorem d_RK_mark_65 : decode b_RK_mark 65 = .ok (.aload_n 1, 1) := by decide +kernel
theorem d_RK_mark_66 : decode b_RK_mark 66 = .ok (.getfield 160, 3) := by decide +kernel
theorem d_RK_mark_69 : decode b_RK_mark 69 = .ok (.aload_n 0, 1) := by decide +kernel
theorem d_RK_mark_70 : decode b_RK_mark 70 = .ok (.getfield 59, 3) := by decide +kernel
theorem d_RK_mark_73 : decode b_RK_mark 73 = .ok (.invokevirtual 161, 3) := by decide +kernel
theorem d_RK_mark_76 : decode b_RK_mark 76 = .ok (.aload_n 0, 1) := by decide +kernel
theorem d_RK_mark_77 : decode b_RK_mark 77 = .ok (.dup, 1) := by decide +kernel
theorem d_RK_mark_78 : decode b_RK_mark 78 = .ok (.getfield 73, 3) := by decide +kernel
theorem d_RK_mark_81 : decode b_RK_mark 81 = .ok (.iconst 1, 1) := by decide +kernel
theorem d_RK_mark_82 : decode b_RK_mark 82 = .ok (.iadd, 1) := by decide +kernel
theorem d_RK_mark_83 : decode b_RK_mark 83 = .ok (.putfield 73, 3) := by decide +kernel
theorem d_RK_mark_86 : decode b_RK_mark 86 = .ok (.aload_n 0, 1) := by decide +kernel
theorem d_RK_mark_87 : decode b_RK_mark 87 = .ok (.getfield 73, 3) := by decide +kernel
theorem d_RK_mark_90 : decode b_RK_mark 90 = .ok (.iconst 1, 1) := by decide +kernel
theorem d_RK_mark_91 : decode b_RK_mark 91 = .ok (.isub, 1) := by decide +kernel
theorem d_RK_mark_92 : decode b_RK_mark 92 = .ok (.ireturn, 1) := by decide +kernel
theorem d_RK_back_0 : decode b_RK_back 0 = .ok (.iload_n 1, 1) := by decide +kernel
theorem d_RK_back_1 : decode b_RK_back 1 = .ok (.ifCond .lt 11, 3) := by decide +kernel
theorem d_RK_back_4 : decode b_RK_back 4 = .ok (.iload_n 1, 1) := by decide +kernel
theorem d_RK_back_5 : decode b_RK_back 5 = .ok (.aload_n 0, 1) := by decide +kernel
theorem d_RK_back_6 : decode b_RK_back 6 = .ok (.getfield 73, 3) := by decide +kernel
theorem d_RK_back_9 : decode b_RK_back 9 = .ok (.if_icmp .lt 5, 3) := by decide +kernel
theorem d_RK_back_12 : decode b_RK_back 12 = .ok (.iconst 0, 1) := by decide +kernel
theorem d_RK_back_13 : decode b_RK_back 13 = .ok (.ireturn, 1) := by decide +kernel
theorem d_RK_back_14 : decode b_RK_back 14 = .ok (.aload_n 0, 1) := by decide +kernel
theorem d_RK_back_15 : decode b_RK_back 15 = .ok (.getfield 65, 3) := by decide +kernel
theorem d_RK_back_18 : decode b_RK_back 18 = .ok (.iload_n 1, 1) := by decide +kernel
theorem d_RK_back_19 : decode b_RK_back 19 = .ok (.aaload, 1) := by decide +kernel
theorem d_RK_back_20 : decode b_RK_back 20 = .ok (.astore_n 2, 1) := by decide +kernel
theorem d_RK_back_21 : decode b_RK_back 21 = .ok (.aload_n 2, 1) := by decide +kernel
theorem d_RK_back_22 : decode b_RK_back 22 = .ok (.ifnonnull 5, 3) := by decide +kernel
theorem d_RK_back_25 : decode b_RK_back 25 = .ok (.iconst 0, 1) := by decide +kernel
theorem d_RK_back_26 : decode b_RK_back 26 = .ok (.ireturn, 1) := by decide +kernel
theorem d_RK_back_27 : decode b_RK_back 27 = .ok (.aload_n 0, 1) := by decide +kernel
theorem d_RK_back_28 : decode b_RK_back 28 = .ok (.getfield 23, 3) := by decide +kernel
theorem d_RK_back_31 : decode b_RK_back 31 = .ok (.aload_n 2, 1) := by decide +kernel
theorem d_RK_back_32 : decode b_RK_back 32 = .ok (.getfield 154, 3) := by decide +kernel
theorem d_RK_back_35 : decode b_RK_back 35 = .ok (.invokevirtual 164, 3) := by decide +kernel
theorem d_RK_back_38 : decode b_RK_back 38 = .ok (.aload_n 0, 1) := by decide +kernel
theorem d_RK_back_39 : decode b_RK_back 39 = .ok (.getfield 52, 3) := by decide +kernel
theorem d_RK_back_42 : decode b_RK_back 42 = .ok (.aload_n 2, 1) := by decide +kernel
theorem d_RK_back_43 : decode b_RK_back 43 = .ok (.getfield 155, 3) := by decide +kernel
theorem d_RK_back_46 : decode b_RK_back 46 = .ok (.invokevirtual 156, 3) := by decide +kernel
theorem d_RK_back_49 : decode b_RK_back 49 = .ok (.aload_n 0, 1) := by decide +kernel
theorem d_RK_back_50 : decode b_RK_back 50 = .ok (.getfield 59, 3) := by decide +kernel
theorem d_RK_back_53 : decode b_RK_back 53 = .ok (.aload_n 2, 1) := by decide +kernel
theorem d_RK_back_54 : decode b_RK_back 54 = .ok (.getfield 160, 3) := by decide +kernel
theorem d_RK_back_57 : decode b_RK_back 57 = .ok (.invokevirtual 161, 3) := by decide +kernel
theorem d_RK_back_60 : decode b_RK_back 60 = .ok (.aload_n 0, 1) := by decide +kernel
theorem d_RK_back_61 : decode b_RK_back 61 = .ok (.iload_n 1, 1) := by decide +kernel
theorem d_RK_back_62 : decode b_RK_back 62 = .ok (.putfield 73, 3) := by decide +kernel
theorem d_RK_back_65 : decode b_RK_back 65 = .ok (.iconst 1, 1) := by decide +kernel
theorem d_RK_back_66 : decode b_RK_back 66 = .ok (.ireturn, 1) := by decide +kernel
theorem d_RK_init_0 : decode b_RK_init 0 = .ok (.aload_n 0, 1) := by decide +kernel
theorem d_RK_init_1 : decode b_RK_init 1 = .ok (.invokespecial 3, 3) := by decide +kernel
theorem d_RK_init_4 : decode b_RK_init 4 = .ok (.iconst 1, 1) := by decide +kernel
theorem d_RK_init_5 : decode b_RK_init 5 = .ok (.sipush 128, 3) := by decide +kernel
theorem d_RK_init_8 : decode b_RK_init 8 = .ok (.iload_n 1, 1) := by decide +kernel
theorem d_RK_init_9 : decode b_RK_init 9 = .ok (.invokestatic 9, 3) := by decide +kernel
theorem d_RK_init_12 : decode b_RK_init 12 = .ok (.invokestatic 15, 3) := by decide +kernel
theorem d_RK_init_15 : decode b_RK_init 15 = .ok (.istore_n 3, 1) := by decide +kernel
theorem d_RK_init_16 : decode b_RK_init 16 = .ok (.iconst 1, 1) := by decide +kernel
theorem d_RK_init_17 : decode b_RK_init 17 = .ok (.bipush 60, 2) := by decide +kernel
theorem d_RK_init_19 : decode b_RK_init 19 = .ok (.iload_n 2, 1) := by decide +kernel
theorem d_RK_init_20 : decode b_RK_init 20 = .ok (.invokestatic 9, 3) := by decide +kernel
theorem d_RK_init_23 : decode b_RK_init 23 = .ok (.invokestatic 15, 3) := by decide +kernel
theorem d_RK_init_26 : decode b_RK_init 26 = .ok (.istore 4, 2) := by decide +kernel
theorem d_RK_init_28 : decode b_RK_init 28 = .ok (.aload_n 0, 1) := by decide +kernel
theorem d_RK_init_29 : decode b_RK_init 29 = .ok (.new 18, 3) := by decide +kernel
theorem d_RK_init_32 : decode b_RK_init 32 = .ok (.dup, 1) := by decide +kernel
theorem d_RK_init_33 : decode b_RK_init 33 = .ok (.iload_n 3, 1) := by decide +kernel
theorem d_RK_init_34 : decode b_RK_init 34 = .ok (.iload 4, 2) := by decide +kernel
theorem d_RK_init_36 : decode b_RK_init 36 = .ok (.invokespecial 20, 3) := by decide +kernel
theorem d_RK_init_39 : decode b_RK_init 39 = .ok (.putfield 23, 3) := by decide +kernel
theorem d_RK_init_42 : decode b_RK_init 42 = .ok (.aload_n 0, 1) := by decide +kernel
theorem d_RK_init_43 : decode b_RK_init 43 = .ok (.bipush 120, 2) := by decide +kernel
theorem d_RK_init_45 : decode b_RK_init 45 = .ok (.anewarray 27, 3) := by decide +kernel
theorem d_RK_init_48 : decode b_RK_init 48 = .ok (.putfield 29, 3) := by decide +kernel
theorem d_RK_init_51 : decode b_RK_init 51 = .ok (.aload_n 0, 1) := by decide +kernel
theorem d_RK_init_52 : decode b_RK_init 52 = .ok (.iload_n 3, 1) := by decide +kernel
theorem d_RK_init_53 : decode b_RK_init 53 = .ok (.newarray .long, 2) := by decide +kernel
theorem d_RK_init_55 : decode b_RK_init 55 = .ok (.putfield 33, 3) := by decide +kernel
theorem d_RK_init_58 : decode b_RK_init 58 = .ok (.aload_n 0, 1) := by decide +kernel
theorem d_RK_init_59 : decode b_RK_init 59 = .ok (.iload_n 3, 1) := by decide +kernel
theorem d_RK_init_60 : decode b_RK_init 60 = .ok (.newarray .long, 2) := by decide +kernel
theorem d_RK_init_62 : decode b_RK_init 62 = .ok (.putfield 37, 3) := by decide +kernel
theorem d_RK_init_65 : decode b_RK_init 65 = .ok (.aload_n 0, 1) := by decide +kernel
theorem d_RK_init_66 : decode b_RK_init 66 = .ok (.new 40, 3) := by decide +kernel
theorem d_RK_init_69 : decode b_RK_init 69 = .ok (.dup, 1) := by decide +kernel
theorem d_RK_init_70 : decode b_RK_init 70 = .ok (.iload 4, 2) := by decide +kernel
theorem d_RK_init_72 : decode b_RK_init 72 = .ok (.invokespecial 42, 3) := by decide +kernel
theorem d_RK_init_75 : decode b_RK_init 75 = .ok (.putfield 45, 3) := by decide +kernel
theorem d_RK_init_78 : decode b_RK_init 78 = .ok (.aload_n 0, 1) := by decide +kernel
theorem d_RK_init_79 : decode b_RK_init 79 = .ok (.new 49, 3) := by decide +kernel
theorem d_RK_init_82 : decode b_RK_init 82 = .ok (.dup, 1) := by decide +kernel
theorem d_RK_init_83 : decode b_RK_init 83 = .ok (.invokespecial 51, 3) := by decide +kernel
theorem d_RK_init_86 : decode b_RK_init 86 = .ok (.putfield 52, 3) := by decide +kernel
theorem d_RK_init_89 : decode b_RK_init 89 = .ok (.aload_n 0, 1) := by decide +kernel
theorem d_RK_init_90 : decode b_RK_init 90 = .ok (.new 56, 3) := by decide +kernel
theorem d_RK_init_93 : decode b_RK_init 93 = .ok (.dup, 1) := by decide +kernel
theorem d_RK_init_94 : decode b_RK_init 94 = .ok (.invokespecial 58, 3) := by decide +kernel
theorem d_RK_init_97 : decode b_RK_init 97 = .ok (.putfield 59, 3) := by decide +kernel
theorem d_RK_init_100 : decode b_RK_init 100 = .ok (.aload_n 0, 1) := by decide +kernel
theorem d_RK_init_101 : decode b_RK_init 101 = .ok (.bipush 20, 2) := by decide +kernel
theorem d_RK_init_103 : decode b_RK_init 103 = .ok (.anewarray 63, 3) := by decide +kernel
theorem d_RK_init_106 : decode b_RK_init 106 = .ok (.putfield 65, 3) := by decide +kernel
theorem d_RK_init_109 : decode b_RK_init 109 = .ok (.aload_n 0, 1) := by decide +kernel
theorem d_RK_init_110 : decode b_RK_init 110 = .ok (.iconst 0, 1) := by decide +kernel
theorem d_RK_init_111 : decode b_RK_init 111 = .ok (.putfield 69, 3) := by decide +kernel
theorem d_RK_init_114 : decode b_RK_init 114 = .ok (.aload_n 0, 1) := by decide +kernel
theorem d_RK_init_115 : decode b_RK_init 115 = .ok (.iconst 0, 1) := by decide +kernel
theorem d_RK_init_116 : decode b_RK_init 116 = .ok (.putfield 73, 3) := by decide +kernel
theorem d_RK_init_119 : decode b_RK_init 119 = .ok (.return_, 1) := by decide +kernel
theorem d_Mo_has_0 : decode b_Mo_has 0 = .ok (.lload_n 0, 1) := by decide +kernel
theorem d_Mo_has_1 : decode b_Mo_has 1 = .ok (.iload_n 2, 1) := by decide +kernel
theorem d_Mo_has_2 : decode b_Mo_has 2 = .ok (.lshr, 1) := by decide +kernel
theorem d_Mo_has_3 : decode b_Mo_has 3 = .ok (.lconst 1, 1) := by decide +kernel
theorem d_Mo_has_4 : decode b_Mo_has 4 = .ok (.land, 1) := by decide +kernel
theorem d_Mo_has_5 : decode b_Mo_has 5 = .ok (.lconst 1, 1) := by decide +kernel
theorem d_Mo_has_6 : decode b_Mo_has 6 = .ok (.lcmp, 1) := by decide +kernel
theorem d_Mo_has_7 : decode b_Mo_has 7 = .ok (.ifCond .ne 7, 3) := by decide +kernel
theorem d_Mo_has_10 : decode b_Mo_has 10 = .ok (.iconst 1, 1) := by decide +kernel
theorem d_Mo_has_11 : decode b_Mo_has 11 = .ok (.goto 4, 3) := by decide +kernel
theorem d_Mo_has_14 : decode b_Mo_has 14 = .ok (.iconst 0, 1) := by decide +kernel
theorem d_Mo_has_15 : decode b_Mo_has 15 = .ok (.ireturn, 1) := by decide +kernel
theorem d_Mo_countOf_0 : decode b_Mo_countOf 0 = .ok (.iconst 0, 1) := by decide +kernel
theorem d_Mo_countOf_1 : decode b_Mo_countOf 1 = .ok (.istore_n 2, 1) := by decide +kernel
theorem d_Mo_countOf_2 : decode b_Mo_countOf 2 = .ok (.iconst 0, 1) := by decide +kernel
theorem d_Mo_countOf_3 : decode b_Mo_countOf 3 = .ok (.istore_n 3, 1) := by decide +kernel
theorem d_Mo_countOf_4 : decode b_Mo_countOf 4 = .ok (.iload_n 3, 1) := by decide +kernel
theorem d_Mo_countOf_5 : decode b_Mo_countOf 5 = .ok (.bipush 60, 2) := by decide +kernel
theorem d_Mo_countOf_7 : decode b_Mo_countOf 7 = .ok (.if_icmp .ge 25, 3) := by decide +kernel
theorem d_Mo_countOf_10 : decode b_Mo_countOf 10 = .ok (.iload_n 2, 1) := by decide +kernel
theorem d_Mo_countOf_11 : decode b_Mo_countOf 11 = .ok (.lload_n 0, 1) := by decide +kernel
theorem d_Mo_countOf_12 : decode b_Mo_countOf 12 = .ok (.iload_n 3, 1) := by decide +kernel
theorem d_Mo_countOf_13 : decode b_Mo_countOf 13 = .ok (.invokestatic 90, 3) := by decide +kernel
theorem d_Mo_countOf_16 : decode b_Mo_countOf 16 = .ok (.ifCond .eq 7, 3) := by decide +kernel
theorem d_Mo_countOf_19 : decode b_Mo_countOf 19 = .ok (.iconst 1, 1) := by decide +kernel
theorem d_Mo_countOf_20 : decode b_Mo_countOf 20 = .ok (.goto 4, 3) := by decide +kernel
theorem d_Mo_countOf_23 : decode b_Mo_countOf 23 = .ok (.iconst 0, 1) := by decide +kernel
theorem d_Mo_countOf_24 : decode b_Mo_countOf 24 = .ok (.iadd, 1) := by decide +kernel
theorem d_Mo_countOf_25 : decode b_Mo_countOf 25 = .ok (.istore_n 2, 1) := by decide +kernel
theorem d_Mo_countOf_26 : decode b_Mo_countOf 26 = .ok (.iinc 3 1, 3) := by decide +kernel
theorem d_Mo_countOf_29 : decode b_Mo_countOf 29 = .ok (.goto (-25), 3) := by decide +kernel
theorem d_Mo_countOf_32 : decode b_Mo_countOf 32 = .ok (.iload_n 2, 1) := by decide +kernel
theorem d_Mo_countOf_33 : decode b_Mo_countOf 33 = .ok (.ireturn, 1) := by decide +kernel
theorem d_Mo_isPlace_0 : decode b_Mo_isPlace 0 = .ok (.iload_n 1, 1) := by decide +kernel
theorem d_Mo_isPlace_1 : decode b_Mo_isPlace 1 = .ok (.ifCond .lt 15, 3) := by decide +kernel
theorem d_Mo_isPlace_4 : decode b_Mo_isPlace 4 = .ok (.iload_n 1, 1) := by decide +kernel
theorem d_Mo_isPlace_5 : decode b_Mo_isPlace 5 = .ok (.aload_n 0, 1) := by decide +kernel
theorem d_Mo_isPlace_6 : decode b_Mo_isPlace 6 = .ok (.getfield 77, 3) := by decide +kernel
theorem d_Mo_isPlace_9 : decode b_Mo_isPlace 9 = .ok (.if_icmp .ge 7, 3) := by decide +kernel
theorem d_Mo_isPlace_12 : decode b_Mo_isPlace 12 = .ok (.iconst 1, 1) := by decide +kernel
theorem d_Mo_isPlace_13 : decode b_Mo_isPlace 13 = .ok (.goto 4, 3) := by decide +kernel
theorem d_Mo_isPlace_16 : decode b_Mo_isPlace 16 = .ok (.iconst 0, 1) := by decide +kernel
theorem d_Mo_isPlace_17 : decode b_Mo_isPlace 17 = .ok (.ireturn, 1) := by decide +kernel
theorem d_Mo_isSymbol_0 : decode b_Mo_isSymbol 0 = .ok (.iload_n 1, 1) := by decide +kernel
theorem d_Mo_isSymbol_1 : decode b_Mo_isSymbol 1 = .ok (.ifCond .lt 15, 3) := by decide +kernel
theorem d_Mo_isSymbol_4 : decode b_Mo_isSymbol 4 = .ok (.iload_n 1, 1) := by decide +kernel
theorem d_Mo_isSymbol_5 : decode b_Mo_isSymbol 5 = .ok (.aload_n 0, 1) := by decide +kernel
theorem d_Mo_isSymbol_6 : decode b_Mo_isSymbol 6 = .ok (.getfield 81, 3) := by decide +kernel
theorem d_Mo_isSymbol_9 : decode b_Mo_isSymbol 9 = .ok (.if_icmp .ge 7, 3) := by decide +kernel
theorem d_Mo_isSymbol_12 : decode b_Mo_isSymbol 12 = .ok (.iconst 1, 1) := by decide +kernel
theorem d_Mo_isSymbol_13 : decode b_Mo_isSymbol 13 = .ok (.goto 4, 3) := by decide +kernel
theorem d_Mo_isSymbol_16 : decode b_Mo_isSymbol 16 = .ok (.iconst 0, 1) := by decide +kernel
theorem d_Mo_isSymbol_17 : decode b_Mo_isSymbol 17 = .ok (.ireturn, 1) := by decide +kernel
theorem d_Mo_isRule_0 : decode b_Mo_isRule 0 = .ok (.iload_n 1, 1) := by decide +kernel
theorem d_Mo_isRule_1 : decode b_Mo_isRule 1 = .ok (.ifCond .lt 15, 3) := by decide +kernel
theorem d_Mo_isRule_4 : decode b_Mo_isRule 4 = .ok (.iload_n 1, 1) := by decide +kernel
theorem d_Mo_isRule_5 : decode b_Mo_isRule 5 = .ok (.aload_n 0, 1) := by decide +kernel
theorem d_Mo_isRule_6 : decode b_Mo_isRule 6 = .ok (.getfield 87, 3) := by decide +kernel
theorem d_Mo_isRule_9 : decode b_Mo_isRule 9 = .ok (.if_icmp .ge 7, 3) := by decide +kernel
theorem d_Mo_isRule_12 : decode b_Mo_isRule 12 = .ok (.iconst 1, 1) := by decide +kernel
theorem d_Mo_isRule_13 : decode b_Mo_isRule 13 = .ok (.goto 4, 3) := by decide +kernel
theorem d_Mo_isRule_16 : decode b_Mo_isRule 16 = .ok (.iconst 0, 1) := by decide +kernel
theorem d_Mo_isRule_17 : decode b_Mo_isRule 17 = .ok (.ireturn, 1) := by decide +kernel
theorem d_Mo_rule_0 : decode b_Mo_rule 0 = .ok (.aload_n 0, 1) := by decide +kernel
theorem d_Mo_rule_1 : decode b_Mo_rule 1 = .ok (.iconst 0, 1) := by decide +kernel
theorem d_Mo_rule_2 : decode b_Mo_rule 2 = .ok (.putfield 84, 3) := by decide +kernel
theorem d_Mo_rule_5 : decode b_Mo_rule 5 = .ok (.iload_n 1, 1) := by decide +kernel
theorem d_Mo_rule_6 : decode b_Mo_rule 6 = .ok (.ifCond .lt 41, 3) := by decide +kernel
theorem d_Mo_rule_9 : decode b_Mo_rule 9 = .ok (.iload_n 1, 1) := by decide +kernel
theorem d_Mo_rule_10 : decode b_Mo_rule 10 = .ok (.bipush 7, 2) := by decide +kernel
theorem d_Mo_rule_12 : decode b_Mo_rule 12 = .ok (.if_icmp .gt 35, 3) := by decide +kernel
theorem d_Mo_rule_15 : decode b_Mo_rule 15 = .ok (.lload_n 2, 1) := by decide +kernel
theorem d_Mo_rule_16 : decode b_Mo_rule 16 = .ok (.ldc2_w 94, 3) := by decide +kernel
theorem d_Mo_rule_19 : decode b_Mo_rule 19 = .ok (.lcmp, 1) := by decide +kernel
theorem d_Mo_rule_20 : decode b_Mo_rule 20 = .ok (.ifCond .lt 27, 3) := by decide +kernel
theorem d_Mo_rule_23 : decode b_Mo_rule 23 = .ok (.lload_n 2, 1) := by decide +kernel
theorem d_Mo_rule_24 : decode b_Mo_rule 24 = .ok (.ldc2_w 96, 3) := by decide +kernel
theorem d_Mo_rule_27 : decode b_Mo_rule 27 = .ok (.lcmp, 1) := by decide +kernel
theorem d_Mo_rule_28 : decode b_Mo_rule 28 = .ok (.ifCond .gt 19, 3) := by decide +kernel
theorem d_Mo_rule_31 : decode b_Mo_rule 31 = .ok (.aload_n 0, 1) := by decide +kernel
theorem d_Mo_rule_32 : decode b_Mo_rule 32 = .ok (.getfield 87, 3) := by decide +kernel
theorem d_Mo_rule_35 : decode b_Mo_rule 35 = .ok (.bipush 120, 2) := by decide +kernel
theorem d_Mo_rule_37 : decode b_Mo_rule 37 = .ok (.if_icmp .eq 10, 3) := by decide +kernel
theorem d_Mo_rule_40 : decode b_Mo_rule 40 = .ok (.aload_n 0, 1) := by decide +kernel
theorem d_Mo_rule_41 : decode b_Mo_rule 41 = .ok (.getfield 98, 3) := by decide +kernel
theorem d_Mo_rule_44 : decode b_Mo_rule 44 = .ok (.ifCond .le 5, 3) := by decide +kernel
theorem d_Mo_rule_47 : decode b_Mo_rule 47 = .ok (.iconst (-1), 1) := by decide +kernel
theorem d_Mo_rule_48 : decode b_Mo_rule 48 = .ok (.ireturn, 1) := by decide +kernel
theorem d_Mo_rule_49 : decode b_Mo_rule 49 = .ok (.aload_n 0, 1) := by decide +kernel
theorem d_Mo_rule_50 : decode b_Mo_rule 50 = .ok (.getfield 17, 3) := by decide +kernel
theorem d_Mo_rule_53 : decode b_Mo_rule 53 = .ok (.aload_n 0, 1) := by decide +kernel
theorem d_Mo_rule_54 : decode b_Mo_rule 54 = .ok (.getfield 87, 3) := by decide +kernel
theorem d_Mo_rule_57 : decode b_Mo_rule 57 = .ok (.iload_n 1, 1) := by decide +kernel
theorem d_Mo_rule_58 : decode b_Mo_rule 58 = .ok (.iastore, 1) := by decide +kernel
theorem d_Mo_rule_59 : decode b_Mo_rule 59 = .ok (.aload_n 0, 1) := by decide +kernel
theorem d_Mo_rule_60 : decode b_Mo_rule 60 = .ok (.getfield 20, 3) := by decide +kernel
theorem d_Mo_rule_63 : decode b_Mo_rule 63 = .ok (.aload_n 0, 1) := by decide +kernel
theorem d_Mo_rule_64 : decode b_Mo_rule 64 = .ok (.getfield 87, 3) := by decide +kernel
theorem d_Mo_rule_67 : decode b_Mo_rule 67 = .ok (.lload_n 2, 1) := by decide +kernel
theorem d_Mo_rule_68 : decode b_Mo_rule 68 = .ok (.lastore, 1) := by decide +kernel
theorem d_Mo_rule_69 : decode b_Mo_rule 69 = .ok (.aload_n 0, 1) := by decide +kernel
theorem d_Mo_rule_70 : decode b_Mo_rule 70 = .ok (.dup, 1) := by decide +kernel
theorem d_Mo_rule_71 : decode b_Mo_rule 71 = .ok (.getfield 87, 3) := by decide +kernel
theorem d_Mo_rule_74 : decode b_Mo_rule 74 = .ok (.iconst 1, 1) := by decide +kernel
theorem d_Mo_rule_75 : decode b_Mo_rule 75 = .ok (.iadd, 1) := by decide +kernel
theorem d_Mo_rule_76 : decode b_Mo_rule 76 = .ok (.putfield 87, 3) := by decide +kernel
theorem d_Mo_rule_79 : decode b_Mo_rule 79 = .ok (.aload_n 0, 1) := by decide +kernel
theorem d_Mo_rule_80 : decode b_Mo_rule 80 = .ok (.getfield 87, 3) := by decide +kernel
theorem d_Mo_rule_83 : decode b_Mo_rule 83 = .ok (.iconst 1, 1) := by decide +kernel
theorem d_Mo_rule_84 : decode b_Mo_rule 84 = .ok (.isub, 1) := by decide +kernel
theorem d_Mo_rule_85 : decode b_Mo_rule 85 = .ok (.ireturn, 1) := by decide +kernel
theorem d_Mo_seatOf_0 : decode b_Mo_seatOf 0 = .ok (.iconst 0, 1) := by decide +kernel
theorem d_Mo_seatOf_1 : decode b_Mo_seatOf 1 = .ok (.istore_n 3, 1) := by decide +kernel
theorem d_Mo_seatOf_2 : decode b_Mo_seatOf 2 = .ok (.iload_n 3, 1) := by decide +kernel
theorem d_Mo_seatOf_3 : decode b_Mo_seatOf 3 = .ok (.aload_n 0, 1) := by decide +kernel
theorem d_Mo_seatOf_4 : decode b_Mo_seatOf 4 = .ok (.getfield 23, 3) := by decide +kernel
theorem d_Mo_seatOf_7 : decode b_Mo_seatOf 7 = .ok (.iload_n 1, 1) := by decide +kernel
theorem d_Mo_seatOf_8 : decode b_Mo_seatOf 8 = .ok (.iaload, 1) := by decide +kernel
theorem d_Mo_seatOf_9 : decode b_Mo_seatOf 9 = .ok (.if_icmp .ge 26, 3) := by decide +kernel
theorem d_Mo_seatOf_12 : decode b_Mo_seatOf 12 = .ok (.aload_n 0, 1) := by decide +kernel
theorem d_Mo_seatOf_13 : decode b_Mo_seatOf 13 = .ok (.getfield 26, 3) := by decide +kernel
theorem d_Mo_seatOf_16 : decode b_Mo_seatOf 16 = .ok (.bipush 16, 2) := by decide +kernel
theorem d_Mo_seatOf_18 : decode b_Mo_seatOf 18 = .ok (.iload_n 1, 1) := by decide +kernel
theorem d_Mo_seatOf_19 : decode b_Mo_seatOf 19 = .ok (.imul, 1) := by decide +kernel
theorem d_Mo_seatOf_20 : decode b_Mo_seatOf 20 = .ok (.iload_n 3, 1) := by decide +kernel
theorem d_Mo_seatOf_21 : decode b_Mo_seatOf 21 = .ok (.iadd, 1) := by decide +kernel
theorem d_Mo_seatOf_22 : decode b_Mo_seatOf 22 = .ok (.iaload, 1) := by decide +kernel
theorem d_Mo_seatOf_23 : decode b_Mo_seatOf 23 = .ok (.iload_n 2, 1) := by decide +kernel
theorem d_Mo_seatOf_24 : decode b_Mo_seatOf 24 = .ok (.if_icmp .ne 5, 3) := by decide +kernel
theorem d_Mo_seatOf_27 : decode b_Mo_seatOf 27 = .ok (.iload_n 3, 1) := by decide +kernel
theorem d_Mo_seatOf_28 : decode b_Mo_seatOf 28 = .ok (.ireturn, 1) := by decide +kernel
theorem d_Mo_seatOf_29 : decode b_Mo_seatOf 29 = .ok (.iinc 3 1, 3) := by decide +kernel
theorem d_Mo_seatOf_32 : decode b_Mo_seatOf 32 = .ok (.goto (-30), 3) := by decide +kernel
theorem d_Mo_seatOf_35 : decode b_Mo_seatOf 35 = .ok (.iconst (-1), 1) := by decide +kernel
theorem d_Mo_seatOf_36 : decode b_Mo_seatOf 36 = .ok (.ireturn, 1) := by decide +kernel
theorem d_Mo_wake_0 : decode b_Mo_wake 0 = .ok (.iconst 0, 1) := by decide +kernel
theorem d_Mo_wake_1 : decode b_Mo_wake 1 = .ok (.istore_n 2, 1) := by decide +kernel
theorem d_Mo_wake_2 : decode b_Mo_wake 2 = .ok (.iload_n 2, 1) := by decide +kernel
theorem d_Mo_wake_3 : decode b_Mo_wake 3 = .ok (.aload_n 0, 1) := by decide +kernel
theorem d_Mo_wake_4 : decode b_Mo_wake 4 = .ok (.getfield 101, 3) := by decide +kernel
theorem d_Mo_wake_7 : decode b_Mo_wake 7 = .ok (.if_icmp .ge 20, 3) := by decide +kernel
theorem d_Mo_wake_10 : decode b_Mo_wake 10 = .ok (.aload_n 0, 1) := by decide +kernel
theorem d_Mo_wake_11 : decode b_Mo_wake 11 = .ok (.getfield 42, 3) := by decide +kernel
theorem d_Mo_wake_14 : decode b_Mo_wake 14 = .ok (.iload_n 2, 1) := by decide +kernel
theorem d_Mo_wake_15 : decode b_Mo_wake 15 = .ok (.iaload, 1) := by decide +kernel
theorem d_Mo_wake_16 : decode b_Mo_wake 16 = .ok (.iload_n 1, 1) := by decide +kernel
theorem d_Mo_wake_17 : decode b_Mo_wake 17 = .ok (.if_icmp .ne 4, 3) := by decide +kernel
theorem d_Mo_wake_20 : decode b_Mo_wake 20 = .ok (.return_, 1) := by decide +kernel
theorem d_Mo_wake_21 : decode b_Mo_wake 21 = .ok (.iinc 2 1, 3) := by decide +kernel
theorem d_Mo_wake_24 : decode b_Mo_wake 24 = .ok (.goto (-22), 3) := by decide +kernel
theorem d_Mo_wake_27 : decode b_Mo_wake 27 = .ok (.aload_n 0, 1) := by decide +kernel
theorem d_Mo_wake_28 : decode b_Mo_wake 28 = .ok (.getfield 42, 3) := by decide +kernel
theorem d_Mo_wake_31 : decode b_Mo_wake 31 = .ok (.aload_n 0, 1) := by decide +kernel
theorem d_Mo_wake_32 : decode b_Mo_wake 32 = .ok (.getfield 101, 3) := by decide +kernel
theorem d_Mo_wake_35 : decode b_Mo_wake 35 = .ok (.iload_n 1, 1) := by decide +kernel
theorem d_Mo_wake_36 : decode b_Mo_wake 36 = .ok (.iastore, 1) := by decide +kernel
theorem d_Mo_wake_37 : decode b_Mo_wake 37 = .ok (.aload_n 0, 1) := by decide +kernel
theorem d_Mo_wake_38 : decode b_Mo_wake 38 = .ok (.dup, 1) := by decide +kernel
theorem d_Mo_wake_39 : decode b_Mo_wake 39 = .ok (.getfield 101, 3) := by decide +kernel
theorem d_Mo_wake_42 : decode b_Mo_wake 42 = .ok (.iconst 1, 1) := by decide +kernel
theorem d_Mo_wake_43 : decode b_Mo_wake 43 = .ok (.iadd, 1) := by decide +kernel
theorem d_Mo_wake_44 : decode b_Mo_wake 44 = .ok (.putfield 101, 3) := by decide +kernel
theorem d_Mo_wake_47 : decode b_Mo_wake 47 = .ok (.return_, 1) := by decide +kernel
