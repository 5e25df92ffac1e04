/-! DECODE ROWS, by program -/
theorem d_X_init_0 : decode b_X_init 0 = .ok (.aload_n 0, 1) := by decide +kernel
theorem d_X_init_1 : decode b_X_init 1 = .ok (.invokespecial 1, 3) := by decide +kernel
theorem d_X_init_4 : decode b_X_init 4 = .ok (.aload_n 0, 1) := by decide +kernel
theorem d_X_init_5 : decode b_X_init 5 = .ok (.new 7, 3) := by decide +kernel
theorem d_X_init_8 : decode b_X_init 8 = .ok (.dup, 1) := by decide +kernel
theorem d_X_init_9 : decode b_X_init 9 = .ok (.invokespecial 9, 3) := by decide +kernel
theorem d_X_init_12 : decode b_X_init 12 = .ok (.putfield 10, 3) := by decide +kernel
theorem d_X_init_15 : decode b_X_init 15 = .ok (.aload_n 0, 1) := by decide +kernel
theorem d_X_init_16 : decode b_X_init 16 = .ok (.new 16, 3) := by decide +kernel
theorem d_X_init_19 : decode b_X_init 19 = .ok (.dup, 1) := by decide +kernel
theorem d_X_init_20 : decode b_X_init 20 = .ok (.invokespecial 18, 3) := by decide +kernel
theorem d_X_init_23 : decode b_X_init 23 = .ok (.putfield 19, 3) := by decide +kernel
theorem d_X_init_26 : decode b_X_init 26 = .ok (.aload_n 0, 1) := by decide +kernel
theorem d_X_init_27 : decode b_X_init 27 = .ok (.new 23, 3) := by decide +kernel
theorem d_X_init_30 : decode b_X_init 30 = .ok (.dup, 1) := by decide +kernel
theorem d_X_init_31 : decode b_X_init 31 = .ok (.invokespecial 25, 3) := by decide +kernel
theorem d_X_init_34 : decode b_X_init 34 = .ok (.putfield 26, 3) := by decide +kernel
theorem d_X_init_37 : decode b_X_init 37 = .ok (.aload_n 0, 1) := by decide +kernel
theorem d_X_init_38 : decode b_X_init 38 = .ok (.new 30, 3) := by decide +kernel
theorem d_X_init_41 : decode b_X_init 41 = .ok (.dup, 1) := by decide +kernel
theorem d_X_init_42 : decode b_X_init 42 = .ok (.invokespecial 32, 3) := by decide +kernel
theorem d_X_init_45 : decode b_X_init 45 = .ok (.putfield 33, 3) := by decide +kernel
theorem d_X_init_48 : decode b_X_init 48 = .ok (.aload_n 0, 1) := by decide +kernel
theorem d_X_init_49 : decode b_X_init 49 = .ok (.new 37, 3) := by decide +kernel
theorem d_X_init_52 : decode b_X_init 52 = .ok (.dup, 1) := by decide +kernel
theorem d_X_init_53 : decode b_X_init 53 = .ok (.invokespecial 39, 3) := by decide +kernel
theorem d_X_init_56 : decode b_X_init 56 = .ok (.putfield 40, 3) := by decide +kernel
theorem d_X_init_59 : decode b_X_init 59 = .ok (.aload_n 0, 1) := by decide +kernel
theorem d_X_init_60 : decode b_X_init 60 = .ok (.sipush 200, 3) := by decide +kernel
theorem d_X_init_63 : decode b_X_init 63 = .ok (.anewarray 44, 3) := by decide +kernel
theorem d_X_init_66 : decode b_X_init 66 = .ok (.putfield 46, 3) := by decide +kernel
theorem d_X_init_69 : decode b_X_init 69 = .ok (.aload_n 0, 1) := by decide +kernel
theorem d_X_init_70 : decode b_X_init 70 = .ok (.lconst 0, 1) := by decide +kernel
theorem d_X_init_71 : decode b_X_init 71 = .ok (.putfield 50, 3) := by decide +kernel
theorem d_X_init_74 : decode b_X_init 74 = .ok (.iconst 0, 1) := by decide +kernel
theorem d_X_init_75 : decode b_X_init 75 = .ok (.istore_n 1, 1) := by decide +kernel
theorem d_X_init_76 : decode b_X_init 76 = .ok (.iload_n 1, 1) := by decide +kernel
theorem d_X_init_77 : decode b_X_init 77 = .ok (.sipush 200, 3) := by decide +kernel
theorem d_X_init_80 : decode b_X_init 80 = .ok (.if_icmp .ge 22, 3) := by decide +kernel
theorem d_X_init_83 : decode b_X_init 83 = .ok (.aload_n 0, 1) := by decide +kernel
theorem d_X_init_84 : decode b_X_init 84 = .ok (.getfield 46, 3) := by decide +kernel
theorem d_X_init_87 : decode b_X_init 87 = .ok (.iload_n 1, 1) := by decide +kernel
theorem d_X_init_88 : decode b_X_init 88 = .ok (.new 44, 3) := by decide +kernel
theorem d_X_init_91 : decode b_X_init 91 = .ok (.dup, 1) := by decide +kernel
theorem d_X_init_92 : decode b_X_init 92 = .ok (.invokespecial 54, 3) := by decide +kernel
theorem d_X_init_95 : decode b_X_init 95 = .ok (.aastore, 1) := by decide +kernel
theorem d_X_init_96 : decode b_X_init 96 = .ok (.iinc 1 1, 3) := by decide +kernel
theorem d_X_init_99 : decode b_X_init 99 = .ok (.goto (-23), 3) := by decide +kernel
theorem d_X_init_102 : decode b_X_init 102 = .ok (.return_, 1) := by decide +kernel
theorem d_RowL_init_0 : decode b_RowL_init 0 = .ok (.aload_n 0, 1) := by decide +kernel
theorem d_RowL_init_1 : decode b_RowL_init 1 = .ok (.invokespecial 3, 3) := by decide +kernel
theorem d_RowL_init_4 : decode b_RowL_init 4 = .ok (.aload_n 0, 1) := by decide +kernel
theorem d_RowL_init_5 : decode b_RowL_init 5 = .ok (.new 9, 3) := by decide +kernel
theorem d_RowL_init_8 : decode b_RowL_init 8 = .ok (.dup, 1) := by decide +kernel
theorem d_RowL_init_9 : decode b_RowL_init 9 = .ok (.invokespecial 11, 3) := by decide +kernel
theorem d_RowL_init_12 : decode b_RowL_init 12 = .ok (.putfield 12, 3) := by decide +kernel
theorem d_RowL_init_15 : decode b_RowL_init 15 = .ok (.aload_n 0, 1) := by decide +kernel
theorem d_RowL_init_16 : decode b_RowL_init 16 = .ok (.new 9, 3) := by decide +kernel
theorem d_RowL_init_19 : decode b_RowL_init 19 = .ok (.dup, 1) := by decide +kernel
theorem d_RowL_init_20 : decode b_RowL_init 20 = .ok (.invokespecial 11, 3) := by decide +kernel
theorem d_RowL_init_23 : decode b_RowL_init 23 = .ok (.putfield 18, 3) := by decide +kernel
theorem d_RowL_init_26 : decode b_RowL_init 26 = .ok (.return_, 1) := by decide +kernel
theorem d_Holi_init_0 : decode b_Holi_init 0 = .ok (.aload_n 0, 1) := by decide +kernel
theorem d_Holi_init_1 : decode b_Holi_init 1 = .ok (.invokespecial 3, 3) := by decide +kernel
theorem d_Holi_init_4 : decode b_Holi_init 4 = .ok (.aload_n 0, 1) := by decide +kernel
theorem d_Holi_init_5 : decode b_Holi_init 5 = .ok (.bipush 100, 2) := by decide +kernel
theorem d_Holi_init_7 : decode b_Holi_init 7 = .ok (.newarray .long, 2) := by decide +kernel
theorem d_Holi_init_9 : decode b_Holi_init 9 = .ok (.putfield 9, 3) := by decide +kernel
theorem d_Holi_init_12 : decode b_Holi_init 12 = .ok (.aload_n 0, 1) := by decide +kernel
theorem d_Holi_init_13 : decode b_Holi_init 13 = .ok (.iconst 0, 1) := by decide +kernel
theorem d_Holi_init_14 : decode b_Holi_init 14 = .ok (.putfield 15, 3) := by decide +kernel
theorem d_Holi_init_17 : decode b_Holi_init 17 = .ok (.return_, 1) := by decide +kernel
theorem d_AlarmL_init_0 : decode b_AlarmL_init 0 = .ok (.aload_n 0, 1) := by decide +kernel
theorem d_AlarmL_init_1 : decode b_AlarmL_init 1 = .ok (.invokespecial 3, 3) := by decide +kernel
theorem d_AlarmL_init_4 : decode b_AlarmL_init 4 = .ok (.aload_n 0, 1) := by decide +kernel
theorem d_AlarmL_init_5 : decode b_AlarmL_init 5 = .ok (.new 9, 3) := by decide +kernel
theorem d_AlarmL_init_8 : decode b_AlarmL_init 8 = .ok (.dup, 1) := by decide +kernel
theorem d_AlarmL_init_9 : decode b_AlarmL_init 9 = .ok (.invokespecial 11, 3) := by decide +kernel
theorem d_AlarmL_init_12 : decode b_AlarmL_init 12 = .ok (.putfield 12, 3) := by decide +kernel
theorem d_AlarmL_init_15 : decode b_AlarmL_init 15 = .ok (.return_, 1) := by decide +kernel
theorem d_Cnts_init_0 : decode b_Cnts_init 0 = .ok (.aload_n 0, 1) := by decide +kernel
theorem d_Cnts_init_1 : decode b_Cnts_init 1 = .ok (.invokespecial 3, 3) := by decide +kernel
theorem d_Cnts_init_4 : decode b_Cnts_init 4 = .ok (.aload_n 0, 1) := by decide +kernel
theorem d_Cnts_init_5 : decode b_Cnts_init 5 = .ok (.bipush 50, 2) := by decide +kernel
theorem d_Cnts_init_7 : decode b_Cnts_init 7 = .ok (.newarray .int, 2) := by decide +kernel
theorem d_Cnts_init_9 : decode b_Cnts_init 9 = .ok (.putfield 9, 3) := by decide +kernel
theorem d_Cnts_init_12 : decode b_Cnts_init 12 = .ok (.aload_n 0, 1) := by decide +kernel
theorem d_Cnts_init_13 : decode b_Cnts_init 13 = .ok (.bipush 50, 2) := by decide +kernel
theorem d_Cnts_init_15 : decode b_Cnts_init 15 = .ok (.newarray .int, 2) := by decide +kernel
theorem d_Cnts_init_17 : decode b_Cnts_init 17 = .ok (.putfield 15, 3) := by decide +kernel
theorem d_Cnts_init_20 : decode b_Cnts_init 20 = .ok (.return_, 1) := by decide +kernel
theorem d_Deliv_init_0 : decode b_Deliv_init 0 = .ok (.aload_n 0, 1) := by decide +kernel
theorem d_Deliv_init_1 : decode b_Deliv_init 1 = .ok (.invokespecial 3, 3) := by decide +kernel
theorem d_Deliv_init_4 : decode b_Deliv_init 4 = .ok (.aload_n 0, 1) := by decide +kernel
theorem d_Deliv_init_5 : decode b_Deliv_init 5 = .ok (.sipush 512, 3) := by decide +kernel
theorem d_Deliv_init_8 : decode b_Deliv_init 8 = .ok (.newarray .int, 2) := by decide +kernel
theorem d_Deliv_init_10 : decode b_Deliv_init 10 = .ok (.putfield 9, 3) := by decide +kernel
theorem d_Deliv_init_13 : decode b_Deliv_init 13 = .ok (.aload_n 0, 1) := by decide +kernel
theorem d_Deliv_init_14 : decode b_Deliv_init 14 = .ok (.sipush 512, 3) := by decide +kernel
theorem d_Deliv_init_17 : decode b_Deliv_init 17 = .ok (.newarray .int, 2) := by decide +kernel
theorem d_Deliv_init_19 : decode b_Deliv_init 19 = .ok (.putfield 15, 3) := by decide +kernel
theorem d_Deliv_init_22 : decode b_Deliv_init 22 = .ok (.aload_n 0, 1) := by decide +kernel
theorem d_Deliv_init_23 : decode b_Deliv_init 23 = .ok (.iconst 0, 1) := by decide +kernel
theorem d_Deliv_init_24 : decode b_Deliv_init 24 = .ok (.putfield 18, 3) := by decide +kernel
theorem d_Deliv_init_27 : decode b_Deliv_init 27 = .ok (.return_, 1) := by decide +kernel
theorem d_Item_init_0 : decode b_Item_init 0 = .ok (.aload_n 0, 1) := by decide +kernel
theorem d_Item_init_1 : decode b_Item_init 1 = .ok (.invokespecial 3, 3) := by decide +kernel
theorem d_Item_init_4 : decode b_Item_init 4 = .ok (.aload_n 0, 1) := by decide +kernel
theorem d_Item_init_5 : decode b_Item_init 5 = .ok (.iconst (-1), 1) := by decide +kernel
theorem d_Item_init_6 : decode b_Item_init 6 = .ok (.putfield 9, 3) := by decide +kernel
theorem d_Item_init_9 : decode b_Item_init 9 = .ok (.aload_n 0, 1) := by decide +kernel
theorem d_Item_init_10 : decode b_Item_init 10 = .ok (.lconst 0, 1) := by decide +kernel
theorem d_Item_init_11 : decode b_Item_init 11 = .ok (.putfield 15, 3) := by decide +kernel
theorem d_Item_init_14 : decode b_Item_init 14 = .ok (.aload_n 0, 1) := by decide +kernel
theorem d_Item_init_15 : decode b_Item_init 15 = .ok (.lconst 0, 1) := by decide +kernel
theorem d_Item_init_16 : decode b_Item_init 16 = .ok (.putfield 19, 3) := by decide +kernel
theorem d_Item_init_19 : decode b_Item_init 19 = .ok (.aload_n 0, 1) := by decide +kernel
theorem d_Item_init_20 : decode b_Item_init 20 = .ok (.iconst 0, 1) := by decide +kernel
theorem d_Item_init_21 : decode b_Item_init 21 = .ok (.putfield 22, 3) := by decide +kernel
theorem d_Item_init_24 : decode b_Item_init 24 = .ok (.aload_n 0, 1) := by decide +kernel
theorem d_Item_init_25 : decode b_Item_init 25 = .ok (.iconst 0, 1) := by decide +kernel
theorem d_Item_init_26 : decode b_Item_init 26 = .ok (.putfield 25, 3) := by decide +kernel
theorem d_Item_init_29 : decode b_Item_init 29 = .ok (.aload_n 0, 1) := by decide +kernel
theorem d_Item_init_30 : decode b_Item_init 30 = .ok (.lconst 0, 1) := by decide +kernel
theorem d_Item_init_31 : decode b_Item_init 31 = .ok (.putfield 28, 3) := by decide +kernel
theorem d_Item_init_34 : decode b_Item_init 34 = .ok (.aload_n 0, 1) := by decide +kernel
theorem d_Item_init_35 : decode b_Item_init 35 = .ok (.iconst 0, 1) := by decide +kernel
theorem d_Item_init_36 : decode b_Item_init 36 = .ok (.putfield 31, 3) := by decide +kernel
theorem d_Item_init_39 : decode b_Item_init 39 = .ok (.aload_n 0, 1) := by decide +kernel
theorem d_Item_init_40 : decode b_Item_init 40 = .ok (.iconst 0, 1) := by decide +kernel
theorem d_Item_init_41 : decode b_Item_init 41 = .ok (.putfield 35, 3) := by decide +kernel
theorem d_Item_init_44 : decode b_Item_init 44 = .ok (.return_, 1) := by decide +kernel
theorem d_X_rule_0 : decode b_X_rule 0 = .ok (.iload_n 1, 1) := by decide +kernel
theorem d_X_rule_1 : decode b_X_rule 1 = .ok (.ifCond .lt 9, 3) := by decide +kernel
theorem d_X_rule_4 : decode b_X_rule 4 = .ok (.iload_n 1, 1) := by decide +kernel
theorem d_X_rule_5 : decode b_X_rule 5 = .ok (.bipush 9, 2) := by decide +kernel
theorem d_X_rule_7 : decode b_X_rule 7 = .ok (.if_icmp .lt 6, 3) := by decide +kernel
theorem d_X_rule_10 : decode b_X_rule 10 = .ok (.bipush (-102), 2) := by decide +kernel
theorem d_X_rule_12 : decode b_X_rule 12 = .ok (.ireturn, 1) := by decide +kernel
theorem d_X_rule_13 : decode b_X_rule 13 = .ok (.iload_n 2, 1) := by decide +kernel
theorem d_X_rule_14 : decode b_X_rule 14 = .ok (.iconst (-1), 1) := by decide +kernel
theorem d_X_rule_15 : decode b_X_rule 15 = .ok (.if_icmp .eq 13, 3) := by decide +kernel
theorem d_X_rule_18 : decode b_X_rule 18 = .ok (.iload_n 2, 1) := by decide +kernel
theorem d_X_rule_19 : decode b_X_rule 19 = .ok (.invokestatic 55, 3) := by decide +kernel
theorem d_X_rule_22 : decode b_X_rule 22 = .ok (.ifCond .ne 6, 3) := by decide +kernel
theorem d_X_rule_25 : decode b_X_rule 25 = .ok (.bipush (-102), 2) := by decide +kernel
theorem d_X_rule_27 : decode b_X_rule 27 = .ok (.ireturn, 1) := by decide +kernel
theorem d_X_rule_28 : decode b_X_rule 28 = .ok (.iload_n 3, 1) := by decide +kernel
theorem d_X_rule_29 : decode b_X_rule 29 = .ok (.iconst (-1), 1) := by decide +kernel
theorem d_X_rule_30 : decode b_X_rule 30 = .ok (.if_icmp .eq 13, 3) := by decide +kernel
theorem d_X_rule_33 : decode b_X_rule 33 = .ok (.iload_n 3, 1) := by decide +kernel
theorem d_X_rule_34 : decode b_X_rule 34 = .ok (.invokestatic 59, 3) := by decide +kernel
theorem d_X_rule_37 : decode b_X_rule 37 = .ok (.ifCond .ne 6, 3) := by decide +kernel
theorem d_X_rule_40 : decode b_X_rule 40 = .ok (.bipush (-102), 2) := by decide +kernel
theorem d_X_rule_42 : decode b_X_rule 42 = .ok (.ireturn, 1) := by decide +kernel
theorem d_X_rule_43 : decode b_X_rule 43 = .ok (.lload 4, 2) := by decide +kernel
theorem d_X_rule_45 : decode b_X_rule 45 = .ok (.lconst 0, 1) := by decide +kernel
theorem d_X_rule_46 : decode b_X_rule 46 = .ok (.lcmp, 1) := by decide +kernel
theorem d_X_rule_47 : decode b_X_rule 47 = .ok (.ifCond .lt 12, 3) := by decide +kernel
theorem d_X_rule_50 : decode b_X_rule 50 = .ok (.lload 4, 2) := by decide +kernel
theorem d_X_rule_52 : decode b_X_rule 52 = .ok (.ldc2_w 62, 3) := by decide +kernel
theorem d_X_rule_55 : decode b_X_rule 55 = .ok (.lcmp, 1) := by decide +kernel
theorem d_X_rule_56 : decode b_X_rule 56 = .ok (.ifCond .le 6, 3) := by decide +kernel
theorem d_X_rule_59 : decode b_X_rule 59 = .ok (.bipush (-102), 2) := by decide +kernel
theorem d_X_rule_61 : decode b_X_rule 61 = .ok (.ireturn, 1) := by decide +kernel
theorem d_X_rule_62 : decode b_X_rule 62 = .ok (.aload_n 0, 1) := by decide +kernel
theorem d_X_rule_63 : decode b_X_rule 63 = .ok (.getfield 10, 3) := by decide +kernel
theorem d_X_rule_66 : decode b_X_rule 66 = .ok (.iload_n 1, 1) := by decide +kernel
theorem d_X_rule_67 : decode b_X_rule 67 = .ok (.iload_n 2, 1) := by decide +kernel
theorem d_X_rule_68 : decode b_X_rule 68 = .ok (.iload_n 3, 1) := by decide +kernel
theorem d_X_rule_69 : decode b_X_rule 69 = .ok (.lload 4, 2) := by decide +kernel
theorem d_X_rule_71 : decode b_X_rule 71 = .ok (.iload 6, 2) := by decide +kernel
theorem d_X_rule_73 : decode b_X_rule 73 = .ok (.invokevirtual 64, 3) := by decide +kernel
theorem d_X_rule_76 : decode b_X_rule 76 = .ok (.ireturn, 1) := by decide +kernel
theorem d_X_isPlace_0 : decode b_X_isPlace 0 = .ok (.iload_n 0, 1) := by decide +kernel
theorem d_X_isPlace_1 : decode b_X_isPlace 1 = .ok (.ifCond .lt 13, 3) := by decide +kernel
theorem d_X_isPlace_4 : decode b_X_isPlace 4 = .ok (.iload_n 0, 1) := by decide +kernel
theorem d_X_isPlace_5 : decode b_X_isPlace 5 = .ok (.bipush 50, 2) := by decide +kernel
theorem d_X_isPlace_7 : decode b_X_isPlace 7 = .ok (.if_icmp .ge 7, 3) := by decide +kernel
theorem d_X_isPlace_10 : decode b_X_isPlace 10 = .ok (.iconst 1, 1) := by decide +kernel
theorem d_X_isPlace_11 : decode b_X_isPlace 11 = .ok (.goto 4, 3) := by decide +kernel
theorem d_X_isPlace_14 : decode b_X_isPlace 14 = .ok (.iconst 0, 1) := by decide +kernel
theorem d_X_isPlace_15 : decode b_X_isPlace 15 = .ok (.ireturn, 1) := by decide +kernel
theorem d_X_isService_0 : decode b_X_isService 0 = .ok (.iload_n 0, 1) := by decide +kernel
theorem d_X_isService_1 : decode b_X_isService 1 = .ok (.ifCond .lt 12, 3) := by decide +kernel
theorem d_X_isService_4 : decode b_X_isService 4 = .ok (.iload_n 0, 1) := by decide +kernel
theorem d_X_isService_5 : decode b_X_isService 5 = .ok (.iconst 5, 1) := by decide +kernel
theorem d_X_isService_6 : decode b_X_isService 6 = .ok (.if_icmp .ge 7, 3) := by decide +kernel
theorem d_X_isService_9 : decode b_X_isService 9 = .ok (.iconst 1, 1) := by decide +kernel
theorem d_X_isService_10 : decode b_X_isService 10 = .ok (.goto 4, 3) := by decide +kernel
theorem d_X_isService_13 : decode b_X_isService 13 = .ok (.iconst 0, 1) := by decide +kernel
theorem d_X_isService_14 : decode b_X_isService 14 = .ok (.ireturn, 1) := by decide +kernel
theorem d_RowL_addRow_0 : decode b_RowL_addRow 0 = .ok (.aload_n 0, 1) := by decide +kernel
theorem d_RowL_addRow_1 : decode b_RowL_addRow 1 = .ok (.getfield 12, 3) := by decide +kernel
theorem d_RowL_addRow_4 : decode b_RowL_addRow 4 = .ok (.invokevirtual 21, 3) := by decide +kernel
theorem d_RowL_addRow_7 : decode b_RowL_addRow 7 = .ok (.bipush 40, 2) := by decide +kernel
theorem d_RowL_addRow_9 : decode b_RowL_addRow 9 = .ok (.if_icmp .lt 6, 3) := by decide +kernel
theorem d_RowL_addRow_12 : decode b_RowL_addRow 12 = .ok (.bipush (-104), 2) := by decide +kernel
theorem d_RowL_addRow_14 : decode b_RowL_addRow 14 = .ok (.ireturn, 1) := by decide +kernel
theorem d_RowL_addRow_15 : decode b_RowL_addRow 15 = .ok (.aload_n 0, 1) := by decide +kernel
theorem d_RowL_addRow_16 : decode b_RowL_addRow 16 = .ok (.getfield 12, 3) := by decide +kernel
theorem d_RowL_addRow_19 : decode b_RowL_addRow 19 = .ok (.invokevirtual 21, 3) := by decide +kernel
theorem d_RowL_addRow_22 : decode b_RowL_addRow 22 = .ok (.iconst 1, 1) := by decide +kernel
theorem d_RowL_addRow_23 : decode b_RowL_addRow 23 = .ok (.iadd, 1) := by decide +kernel
theorem d_RowL_addRow_24 : decode b_RowL_addRow 24 = .ok (.istore 7, 2) := by decide +kernel
theorem d_RowL_addRow_26 : decode b_RowL_addRow 26 = .ok (.aload_n 0, 1) := by decide +kernel
theorem d_RowL_addRow_27 : decode b_RowL_addRow 27 = .ok (.getfield 12, 3) := by decide +kernel
theorem d_RowL_addRow_30 : decode b_RowL_addRow 30 = .ok (.new 25, 3) := by decide +kernel
theorem d_RowL_addRow_33 : decode b_RowL_addRow 33 = .ok (.dup, 1) := by decide +kernel
theorem d_RowL_addRow_34 : decode b_RowL_addRow 34 = .ok (.iload 7, 2) := by decide +kernel
theorem d_RowL_addRow_36 : decode b_RowL_addRow 36 = .ok (.iload_n 1, 1) := by decide +kernel
theorem d_RowL_addRow_37 : decode b_RowL_addRow 37 = .ok (.iload_n 2, 1) := by decide +kernel
theorem d_RowL_addRow_38 : decode b_RowL_addRow 38 = .ok (.iload_n 3, 1) := by decide +kernel
theorem d_RowL_addRow_39 : decode b_RowL_addRow 39 = .ok (.lload 4, 2) := by decide +kernel
theorem d_RowL_addRow_41 : decode b_RowL_addRow 41 = .ok (.iload 6, 2) := by decide +kernel
theorem d_RowL_addRow_43 : decode b_RowL_addRow 43 = .ok (.invokespecial 27, 3) := by decide +kernel
theorem d_RowL_addRow_46 : decode b_RowL_addRow 46 = .ok (.invokevirtual 30, 3) := by decide +kernel
theorem d_RowL_addRow_49 : decode b_RowL_addRow 49 = .ok (.pop, 1) := by decide +kernel
theorem d_RowL_addRow_50 : decode b_RowL_addRow 50 = .ok (.iload 7, 2) := by decide +kernel
theorem d_RowL_addRow_52 : decode b_RowL_addRow 52 = .ok (.ireturn, 1) := by decide +kernel
theorem d_Row_init_0 : decode b_Row_init 0 = .ok (.aload_n 0, 1) := by decide +kernel
theorem d_Row_init_1 : decode b_Row_init 1 = .ok (.invokespecial 3, 3) := by decide +kernel
theorem d_Row_init_4 : decode b_Row_init 4 = .ok (.aload_n 0, 1) := by decide +kernel
theorem d_Row_init_5 : decode b_Row_init 5 = .ok (.iconst 0, 1) := by decide +kernel
theorem d_Row_init_6 : decode b_Row_init 6 = .ok (.putfield 9, 3) := by decide +kernel
theorem d_Row_init_9 : decode b_Row_init 9 = .ok (.aload_n 0, 1) := by decide +kernel
theorem d_Row_init_10 : decode b_Row_init 10 = .ok (.iload_n 1, 1) := by decide +kernel
theorem d_Row_init_11 : decode b_Row_init 11 = .ok (.putfield 15, 3) := by decide +kernel
theorem d_Row_init_14 : decode b_Row_init 14 = .ok (.aload_n 0, 1) := by decide +kernel
theorem d_Row_init_15 : decode b_Row_init 15 = .ok (.iload_n 2, 1) := by decide +kernel
theorem d_Row_init_16 : decode b_Row_init 16 = .ok (.putfield 19, 3) := by decide +kernel
theorem d_Row_init_19 : decode b_Row_init 19 = .ok (.aload_n 0, 1) := by decide +kernel
theorem d_Row_init_20 : decode b_Row_init 20 = .ok (.iload_n 3, 1) := by decide +kernel
theorem d_Row_init_21 : decode b_Row_init 21 = .ok (.putfield 22, 3) := by decide +kernel
theorem d_Row_init_24 : decode b_Row_init 24 = .ok (.aload_n 0, 1) := by decide +kernel
theorem d_Row_init_25 : decode b_Row_init 25 = .ok (.iload 4, 2) := by decide +kernel
theorem d_Row_init_27 : decode b_Row_init 27 = .ok (.putfield 25, 3) := by decide +kernel
theorem d_Row_init_30 : decode b_Row_init 30 = .ok (.aload_n 0, 1) := by decide +kernel
theorem d_Row_init_31 : decode b_Row_init 31 = .ok (.lload 5, 2) := by decide +kernel
theorem d_Row_init_33 : decode b_Row_init 33 = .ok (.putfield 28, 3) := by decide +kernel
theorem d_Row_init_36 : decode b_Row_init 36 = .ok (.aload_n 0, 1) := by decide +kernel
theorem d_Row_init_37 : decode b_Row_init 37 = .ok (.iload 7, 2) := by decide +kernel
theorem d_Row_init_39 : decode b_Row_init 39 = .ok (.putfield 32, 3) := by decide +kernel
theorem d_Row_init_42 : decode b_Row_init 42 = .ok (.return_, 1) := by decide +kernel
theorem d_X_event_0 : decode b_X_event 0 = .ok (.iload_n 1, 1) := by decide +kernel
theorem d_X_event_1 : decode b_X_event 1 = .ok (.invokestatic 68, 3) := by decide +kernel
theorem d_X_event_4 : decode b_X_event 4 = .ok (.ifCond .eq 10, 3) := by decide +kernel
theorem d_X_event_7 : decode b_X_event 7 = .ok (.iload_n 3, 1) := by decide +kernel
theorem d_X_event_8 : decode b_X_event 8 = .ok (.invokestatic 55, 3) := by decide +kernel
theorem d_X_event_11 : decode b_X_event 11 = .ok (.ifCond .ne 6, 3) := by decide +kernel
theorem d_X_event_14 : decode b_X_event 14 = .ok (.bipush (-101), 2) := by decide +kernel
theorem d_X_event_16 : decode b_X_event 16 = .ok (.ireturn, 1) := by decide +kernel
theorem d_X_event_17 : decode b_X_event 17 = .ok (.aload_n 0, 1) := by decide +kernel
theorem d_X_event_18 : decode b_X_event 18 = .ok (.getfield 46, 3) := by decide +kernel
theorem d_X_event_21 : decode b_X_event 21 = .ok (.iload_n 1, 1) := by decide +kernel
theorem d_X_event_22 : decode b_X_event 22 = .ok (.aaload, 1) := by decide +kernel
theorem d_X_event_23 : decode b_X_event 23 = .ok (.astore 7, 2) := by decide +kernel
theorem d_X_event_25 : decode b_X_event 25 = .ok (.iload_n 2, 1) := by decide +kernel
theorem d_X_event_26 : decode b_X_event 26 = .ok (.ifCond .lt 27, 3) := by decide +kernel
theorem d_X_event_29 : decode b_X_event 29 = .ok (.iload_n 2, 1) := by decide +kernel
theorem d_X_event_30 : decode b_X_event 30 = .ok (.bipush 9, 2) := by decide +kernel
theorem d_X_event_32 : decode b_X_event 32 = .ok (.if_icmp .gt 21, 3) := by decide +kernel
theorem d_X_event_35 : decode b_X_event 35 = .ok (.iload 4, 2) := by decide +kernel
theorem d_X_event_37 : decode b_X_event 37 = .ok (.invokestatic 59, 3) := by decide +kernel
theorem d_X_event_40 : decode b_X_event 40 = .ok (.ifCond .eq 13, 3) := by decide +kernel
theorem d_X_event_43 : decode b_X_event 43 = .ok (.aload 7, 2) := by decide +kernel
theorem d_X_event_45 : decode b_X_event 45 = .ok (.lload 5, 2) := by decide +kernel
theorem d_X_event_47 : decode b_X_event 47 = .ok (.invokevirtual 71, 3) := by decide +kernel
theorem d_X_event_50 : decode b_X_event 50 = .ok (.ifCond .ne 6, 3) := by decide +kernel
theorem d_X_event_53 : decode b_X_event 53 = .ok (.bipush (-102), 2) := by decide +kernel
theorem d_X_event_55 : decode b_X_event 55 = .ok (.ireturn, 1) := by decide +kernel
theorem d_X_event_56 : decode b_X_event 56 = .ok (.aload 7, 2) := by decide +kernel
theorem d_X_event_58 : decode b_X_event 58 = .ok (.invokevirtual 75, 3) := by decide +kernel
theorem d_X_event_61 : decode b_X_event 61 = .ok (.iload_n 2, 1) := by decide +kernel
theorem d_X_event_62 : decode b_X_event 62 = .ok (.bipush 9, 2) := by decide +kernel
theorem d_X_event_64 : decode b_X_event 64 = .ok (.if_icmp .ne 26, 3) := by decide +kernel
theorem d_X_event_67 : decode b_X_event 67 = .ok (.aload_n 0, 1) := by decide +kernel
theorem d_X_event_68 : decode b_X_event 68 = .ok (.getfield 40, 3) := by decide +kernel
theorem d_X_event_71 : decode b_X_event 71 = .ok (.iload 4, 2) := by decide +kernel
theorem d_X_event_73 : decode b_X_event 73 = .ok (.aload 7, 2) := by decide +kernel
theorem d_X_event_75 : decode b_X_event 75 = .ok (.lload 5, 2) := by decide +kernel
theorem d_X_event_77 : decode b_X_event 77 = .ok (.invokevirtual 78, 3) := by decide +kernel
theorem d_X_event_80 : decode b_X_event 80 = .ok (.invokevirtual 82, 3) := by decide +kernel
theorem d_X_event_83 : decode b_X_event 83 = .ok (.aload 7, 2) := by decide +kernel
theorem d_X_event_85 : decode b_X_event 85 = .ok (.invokevirtual 86, 3) := by decide +kernel
theorem d_X_event_88 : decode b_X_event 88 = .ok (.iconst 0, 1) := by decide +kernel
theorem d_X_event_89 : decode b_X_event 89 = .ok (.ireturn, 1) := by decide +kernel
theorem d_X_event_90 : decode b_X_event 90 = .ok (.aload 7, 2) := by decide +kernel
theorem d_X_event_92 : decode b_X_event 92 = .ok (.iload_n 2, 1) := by decide +kernel
theorem d_X_event_93 : decode b_X_event 93 = .ok (.lload 5, 2) := by decide +kernel
theorem d_X_event_95 : decode b_X_event 95 = .ok (.invokevirtual 89, 3) := by decide +kernel
theorem d_X_event_98 : decode b_X_event 98 = .ok (.aload_n 0, 1) := by decide +kernel
theorem d_X_event_99 : decode b_X_event 99 = .ok (.aload 7, 2) := by decide +kernel
theorem d_X_event_101 : decode b_X_event 101 = .ok (.aload_n 0, 1) := by decide +kernel
theorem d_X_event_102 : decode b_X_event 102 = .ok (.getfield 10, 3) := by decide +kernel
theorem d_X_event_105 : decode b_X_event 105 = .ok (.iload_n 2, 1) := by decide +kernel
theorem d_X_event_106 : decode b_X_event 106 = .ok (.iload_n 3, 1) := by decide +kernel
theorem d_X_event_107 : decode b_X_event 107 = .ok (.iload 4, 2) := by decide +kernel
theorem d_X_event_109 : decode b_X_event 109 = .ok (.invokevirtual 93, 3) := by decide +kernel
theorem d_X_event_112 : decode b_X_event 112 = .ok (.iload_n 3, 1) := by decide +kernel
theorem d_X_event_113 : decode b_X_event 113 = .ok (.lload 5, 2) := by decide +kernel
theorem d_X_event_115 : decode b_X_event 115 = .ok (.invokevirtual 97, 3) := by decide +kernel
theorem d_X_event_118 : decode b_X_event 118 = .ok (.ireturn, 1) := by decide +kernel
theorem d_X_isItem_0 : decode b_X_isItem 0 = .ok (.iload_n 0, 1) := by decide +kernel
theorem d_X_isItem_1 : decode b_X_isItem 1 = .ok (.ifCond .lt 14, 3) := by decide +kernel
theorem d_X_isItem_4 : decode b_X_isItem 4 = .ok (.iload_n 0, 1) := by decide +kernel
theorem d_X_isItem_5 : decode b_X_isItem 5 = .ok (.sipush 200, 3) := by decide +kernel
theorem d_X_isItem_8 : decode b_X_isItem 8 = .ok (.if_icmp .ge 7, 3) := by decide +kernel
theorem d_X_isItem_11 : decode b_X_isItem 11 = .ok (.iconst 1, 1) := by decide +kernel
theorem d_X_isItem_12 : decode b_X_isItem 12 = .ok (.goto 4, 3) := by decide +kernel
theorem d_X_isItem_15 : decode b_X_isItem 15 = .ok (.iconst 0, 1) := by decide +kernel
theorem d_X_isItem_16 : decode b_X_isItem 16 = .ok (.ireturn, 1) := by decide +kernel
theorem d_Item_mayComeAt_0 : decode b_Item_mayComeAt 0 = .ok (.lload_n 1, 1) := by decide +kernel
theorem d_Item_mayComeAt_1 : decode b_Item_mayComeAt 1 = .ok (.lconst 0, 1) := by decide +kernel
theorem d_Item_mayComeAt_2 : decode b_Item_mayComeAt 2 = .ok (.lcmp, 1) := by decide +kernel
theorem d_Item_mayComeAt_3 : decode b_Item_mayComeAt 3 = .ok (.ifCond .lt 31, 3) := by decide +kernel
theorem d_Item_mayComeAt_6 : decode b_Item_mayComeAt 6 = .ok (.lload_n 1, 1) := by decide +kernel
theorem d_Item_mayComeAt_7 : decode b_Item_mayComeAt 7 = .ok (.ldc2_w 38, 3) := by decide +kernel
theorem d_Item_mayComeAt_10 : decode b_Item_mayComeAt 10 = .ok (.lcmp, 1) := by decide +kernel
theorem d_Item_mayComeAt_11 : decode b_Item_mayComeAt 11 = .ok (.ifCond .gt 23, 3) := by decide +kernel
theorem d_Item_mayComeAt_14 : decode b_Item_mayComeAt 14 = .ok (.aload_n 0, 1) := by decide +kernel
theorem d_Item_mayComeAt_15 : decode b_Item_mayComeAt 15 = .ok (.invokevirtual 40, 3) := by decide +kernel
theorem d_Item_mayComeAt_18 : decode b_Item_mayComeAt 18 = .ok (.ifCond .ne 12, 3) := by decide +kernel
theorem d_Item_mayComeAt_21 : decode b_Item_mayComeAt 21 = .ok (.lload_n 1, 1) := by decide +kernel
theorem d_Item_mayComeAt_22 : decode b_Item_mayComeAt 22 = .ok (.aload_n 0, 1) := by decide +kernel
theorem d_Item_mayComeAt_23 : decode b_Item_mayComeAt 23 = .ok (.getfield 19, 3) := by decide +kernel
theorem d_Item_mayComeAt_26 : decode b_Item_mayComeAt 26 = .ok (.lcmp, 1) := by decide +kernel
theorem d_Item_mayComeAt_27 : decode b_Item_mayComeAt 27 = .ok (.ifCond .lt 7, 3) := by decide +kernel
theorem d_Item_mayComeAt_30 : decode b_Item_mayComeAt 30 = .ok (.iconst 1, 1) := by decide +kernel
theorem d_Item_mayComeAt_31 : decode b_Item_mayComeAt 31 = .ok (.goto 4, 3) := by decide +kernel
theorem d_Item_mayComeAt_34 : decode b_Item_mayComeAt 34 = .ok (.iconst 0, 1) := by decide +kernel
theorem d_Item_mayComeAt_35 : decode b_Item_mayComeAt 35 = .ok (.ireturn, 1) := by decide +kernel
theorem d_Item_isNew_0 : decode b_Item_isNew 0 = .ok (.aload_n 0, 1) := by decide +kernel
theorem d_Item_isNew_1 : decode b_Item_isNew 1 = .ok (.getfield 9, 3) := by decide +kernel
theorem d_Item_isNew_4 : decode b_Item_isNew 4 = .ok (.iconst (-1), 1) := by decide +kernel
theorem d_Item_isNew_5 : decode b_Item_isNew 5 = .ok (.if_icmp .ne 7, 3) := by decide +kernel
theorem d_Item_isNew_8 : decode b_Item_isNew 8 = .ok (.iconst 1, 1) := by decide +kernel
theorem d_Item_isNew_9 : decode b_Item_isNew 9 = .ok (.goto 4, 3) := by decide +kernel
theorem d_Item_isNew_12 : decode b_Item_isNew 12 = .ok (.iconst 0, 1) := by decide +kernel
theorem d_Item_isNew_13 : decode b_Item_isNew 13 = .ok (.ireturn, 1) := by decide +kernel
theorem d_Item_expectNothing_0 : decode b_Item_expectNothing 0 = .ok (.aload_n 0, 1) := by decide +kernel
theorem d_Item_expectNothing_1 : decode b_Item_expectNothing 1 = .ok (.iconst 0, 1) := by decide +kernel
theorem d_Item_expectNothing_2 : decode b_Item_expectNothing 2 = .ok (.putfield 22, 3) := by decide +kernel
theorem d_Item_expectNothing_5 : decode b_Item_expectNothing 5 = .ok (.aload_n 0, 1) := by decide +kernel
theorem d_Item_expectNothing_6 : decode b_Item_expectNothing 6 = .ok (.iconst 0, 1) := by decide +kernel
theorem d_Item_expectNothing_7 : decode b_Item_expectNothing 7 = .ok (.putfield 31, 3) := by decide +kernel
theorem d_Item_expectNothing_10 : decode b_Item_expectNothing 10 = .ok (.aload_n 0, 1) := by decide +kernel
theorem d_Item_expectNothing_11 : decode b_Item_expectNothing 11 = .ok (.iconst 0, 1) := by decide +kernel
theorem d_Item_expectNothing_12 : decode b_Item_expectNothing 12 = .ok (.putfield 35, 3) := by decide +kernel
theorem d_Item_expectNothing_15 : decode b_Item_expectNothing 15 = .ok (.return_, 1) := by decide +kernel
theorem d_Item_daysUntil_0 : decode b_Item_daysUntil 0 = .ok (.aload_n 0, 1) := by decide +kernel
theorem d_Item_daysUntil_1 : decode b_Item_daysUntil 1 = .ok (.invokevirtual 40, 3) := by decide +kernel
theorem d_Item_daysUntil_4 : decode b_Item_daysUntil 4 = .ok (.ifCond .eq 7, 3) := by decide +kernel
theorem d_Item_daysUntil_7 : decode b_Item_daysUntil 7 = .ok (.iconst 0, 1) := by decide +kernel
theorem d_Item_daysUntil_8 : decode b_Item_daysUntil 8 = .ok (.goto 14, 3) := by decide +kernel
theorem d_Item_daysUntil_11 : decode b_Item_daysUntil 11 = .ok (.lload_n 1, 1) := by decide +kernel
theorem d_Item_daysUntil_12 : decode b_Item_daysUntil 12 = .ok (.aload_n 0, 1) := by decide +kernel
theorem d_Item_daysUntil_13 : decode b_Item_daysUntil 13 = .ok (.getfield 15, 3) := by decide +kernel
theorem d_Item_daysUntil_16 : decode b_Item_daysUntil 16 = .ok (.lsub, 1) := by decide +kernel
theorem d_Item_daysUntil_17 : decode b_Item_daysUntil 17 = .ok (.ldc2_w 44, 3) := by decide +kernel
theorem d_Item_daysUntil_20 : decode b_Item_daysUntil 20 = .ok (.ldiv, 1) := by decide +kernel
theorem d_Item_daysUntil_21 : decode b_Item_daysUntil 21 = .ok (.l2i, 1) := by decide +kernel
theorem d_Item_daysUntil_22 : decode b_Item_daysUntil 22 = .ok (.ireturn, 1) := by decide +kernel
theorem d_Deliv_addDelivery_0 : decode b_Deliv_addDelivery 0 = .ok (.aload_n 0, 1) := by decide +kernel
theorem d_Deliv_addDelivery_1 : decode b_Deliv_addDelivery 1 = .ok (.getfield 18, 3) := by decide +kernel
theorem d_Deliv_addDelivery_4 : decode b_Deliv_addDelivery 4 = .ok (.sipush 512, 3) := by decide +kernel
theorem d_Deliv_addDelivery_7 : decode b_Deliv_addDelivery 7 = .ok (.if_icmp .lt 4, 3) := by decide +kernel
theorem d_Deliv_addDelivery_10 : decode b_Deliv_addDelivery 10 = .ok (.return_, 1) := by decide +kernel
theorem d_Deliv_addDelivery_11 : decode b_Deliv_addDelivery 11 = .ok (.aload_n 0, 1) := by decide +kernel
theorem d_Deliv_addDelivery_12 : decode b_Deliv_addDelivery 12 = .ok (.getfield 18, 3) := by decide +kernel
theorem d_Deliv_addDelivery_15 : decode b_Deliv_addDelivery 15 = .ok (.istore_n 3, 1) := by decide +kernel
theorem d_Deliv_addDelivery_16 : decode b_Deliv_addDelivery 16 = .ok (.iload_n 3, 1) := by decide +kernel
theorem d_Deliv_addDelivery_17 : decode b_Deliv_addDelivery 17 = .ok (.ifCond .le 49, 3) := by decide +kernel
theorem d_Deliv_addDelivery_20 : decode b_Deliv_addDelivery 20 = .ok (.aload_n 0, 1) := by decide +kernel
theorem d_Deliv_addDelivery_21 : decode b_Deliv_addDelivery 21 = .ok (.getfield 9, 3) := by decide +kernel
theorem d_Deliv_addDelivery_24 : decode b_Deliv_addDelivery 24 = .ok (.iload_n 3, 1) := by decide +kernel
theorem d_Deliv_addDelivery_25 : decode b_Deliv_addDelivery 25 = .ok (.iconst 1, 1) := by decide +kernel
theorem d_Deliv_addDelivery_26 : decode b_Deliv_addDelivery 26 = .ok (.isub, 1) := by decide +kernel
theorem d_Deliv_addDelivery_27 : decode b_Deliv_addDelivery 27 = .ok (.iaload, 1) := by decide +kernel
theorem d_Deliv_addDelivery_28 : decode b_Deliv_addDelivery 28 = .ok (.iload_n 2, 1) := by decide +kernel
theorem d_Deliv_addDelivery_29 : decode b_Deliv_addDelivery 29 = .ok (.if_icmp .le 37, 3) := by decide +kernel
theorem d_Deliv_addDelivery_32 : decode b_Deliv_addDelivery 32 = .ok (.aload_n 0, 1) := by decide +kernel
theorem d_Deliv_addDelivery_33 : decode b_Deliv_addDelivery 33 = .ok (.getfield 9, 3) := by decide +kernel
theorem d_Deliv_addDelivery_36 : decode b_Deliv_addDelivery 36 = .ok (.iload_n 3, 1) := by decide +kernel
theorem d_Deliv_addDelivery_37 : decode b_Deliv_addDelivery 37 = .ok (.aload_n 0, 1) := by decide +kernel
theorem d_Deliv_addDelivery_38 : decode b_Deliv_addDelivery 38 = .ok (.getfield 9, 3) := by decide +kernel
theorem d_Deliv_addDelivery_41 : decode b_Deliv_addDelivery 41 = .ok (.iload_n 3, 1) := by decide +kernel
theorem d_Deliv_addDelivery_42 : decode b_Deliv_addDelivery 42 = .ok (.iconst 1, 1) := by decide +kernel
theorem d_Deliv_addDelivery_43 : decode b_Deliv_addDelivery 43 = .ok (.isub, 1) := by decide +kernel
theorem d_Deliv_addDelivery_44 : decode b_Deliv_addDelivery 44 = .ok (.iaload, 1) := by decide +kernel
theorem d_Deliv_addDelivery_45 : decode b_Deliv_addDelivery 45 = .ok (.iastore, 1) := by decide +kernel
theorem d_Deliv_addDelivery_46 : decode b_Deliv_addDelivery 46 = .ok (.aload_n 0, 1) := by decide +kernel
theorem d_Deliv_addDelivery_47 : decode b_Deliv_addDelivery 47 = .ok (.getfield 15, 3) := by decide +kernel
theorem d_Deliv_addDelivery_50 : decode b_Deliv_addDelivery 50 = .ok (.iload_n 3, 1) := by decide +kernel
theorem d_Deliv_addDelivery_51 : decode b_Deliv_addDelivery 51 = .ok (.aload_n 0, 1) := by decide +kernel
theorem d_Deliv_addDelivery_52 : decode b_Deliv_addDelivery 52 = .ok (.getfield 15, 3) := by decide +kernel
theorem d_Deliv_addDelivery_55 : decode b_Deliv_addDelivery 55 = .ok (.iload_n 3, 1) := by decide +kernel
theorem d_Deliv_addDelivery_56 : decode b_Deliv_addDelivery 56 = .ok (.iconst 1, 1) := by decide +kernel
theorem d_Deliv_addDelivery_57 : decode b_Deliv_addDelivery 57 = .ok (.isub, 1) := by decide +kernel
theorem d_Deliv_addDelivery_58 : decode b_Deliv_addDelivery 58 = .ok (.iaload, 1) := by decide +kernel
theorem d_Deliv_addDelivery_59 : decode b_Deliv_addDelivery 59 = .ok (.iastore, 1) := by decide +kernel
theorem d_Deliv_addDelivery_60 : decode b_Deliv_addDelivery 60 = .ok (.iinc 3 (-1), 3) := by decide +kernel
theorem d_Deliv_addDelivery_63 : decode b_Deliv_addDelivery 63 = .ok (.goto (-47), 3) := by decide +kernel
theorem d_Deliv_addDelivery_66 : decode b_Deliv_addDelivery 66 = .ok (.aload_n 0, 1) := by decide +kernel
theorem d_Deliv_addDelivery_67 : decode b_Deliv_addDelivery 67 = .ok (.getfield 9, 3) := by decide +kernel
theorem d_Deliv_addDelivery_70 : decode b_Deliv_addDelivery 70 = .ok (.iload_n 3, 1) := by decide +kernel
theorem d_Deliv_addDelivery_71 : decode b_Deliv_addDelivery 71 = .ok (.iload_n 2, 1) := by decide +kernel
theorem d_Deliv_addDelivery_72 : decode b_Deliv_addDelivery 72 = .ok (.iastore, 1) := by decide +kernel
theorem d_Deliv_addDelivery_73 : decode b_Deliv_addDelivery 73 = .ok (.aload_n 0, 1) := by decide +kernel
theorem d_Deliv_addDelivery_74 : decode b_Deliv_addDelivery 74 = .ok (.getfield 15, 3) := by decide +kernel
theorem d_Deliv_addDelivery_77 : decode b_Deliv_addDelivery 77 = .ok (.iload_n 3, 1) := by decide +kernel
theorem d_Deliv_addDelivery_78 : decode b_Deliv_addDelivery 78 = .ok (.iload_n 1, 1) := by decide +kernel
theorem d_Deliv_addDelivery_79 : decode b_Deliv_addDelivery 79 = .ok (.iastore, 1) := by decide +kernel
theorem d_Deliv_addDelivery_80 : decode b_Deliv_addDelivery 80 = .ok (.aload_n 0, 1) := by decide +kernel
theorem d_Deliv_addDelivery_81 : decode b_Deliv_addDelivery 81 = .ok (.dup, 1) := by decide +kernel
theorem d_Deliv_addDelivery_82 : decode b_Deliv_addDelivery 82 = .ok (.getfield 18, 3) := by decide +kernel
theorem d_Deliv_addDelivery_85 : decode b_Deliv_addDelivery 85 = .ok (.iconst 1, 1) := by decide +kernel
theorem d_Deliv_addDelivery_86 : decode b_Deliv_addDelivery 86 = .ok (.iadd, 1) := by decide +kernel
theorem d_Deliv_addDelivery_87 : decode b_Deliv_addDelivery 87 = .ok (.putfield 18, 3) := by decide +kernel
theorem d_Deliv_addDelivery_90 : decode b_Deliv_addDelivery 90 = .ok (.return_, 1) := by decide +kernel
theorem d_Item_beginAnew_0 : decode b_Item_beginAnew 0 = .ok (.aload_n 0, 1) := by decide +kernel
theorem d_Item_beginAnew_1 : decode b_Item_beginAnew 1 = .ok (.iconst (-1), 1) := by decide +kernel
theorem d_Item_beginAnew_2 : decode b_Item_beginAnew 2 = .ok (.putfield 9, 3) := by decide +kernel
theorem d_Item_beginAnew_5 : decode b_Item_beginAnew 5 = .ok (.return_, 1) := by decide +kernel
theorem d_Item_takeEvent_0 : decode b_Item_takeEvent 0 = .ok (.aload_n 0, 1) := by decide +kernel
theorem d_Item_takeEvent_1 : decode b_Item_takeEvent 1 = .ok (.invokevirtual 40, 3) := by decide +kernel
theorem d_Item_takeEvent_4 : decode b_Item_takeEvent 4 = .ok (.ifCond .eq 8, 3) := by decide +kernel
theorem d_Item_takeEvent_7 : decode b_Item_takeEvent 7 = .ok (.aload_n 0, 1) := by decide +kernel
theorem d_Item_takeEvent_8 : decode b_Item_takeEvent 8 = .ok (.lload_n 2, 1) := by decide +kernel
theorem d_Item_takeEvent_9 : decode b_Item_takeEvent 9 = .ok (.putfield 15, 3) := by decide +kernel
theorem d_Item_takeEvent_12 : decode b_Item_takeEvent 12 = .ok (.aload_n 0, 1) := by decide +kernel
theorem d_Item_takeEvent_13 : decode b_Item_takeEvent 13 = .ok (.iload_n 1, 1) := by decide +kernel
theorem d_Item_takeEvent_14 : decode b_Item_takeEvent 14 = .ok (.putfield 9, 3) := by decide +kernel
theorem d_Item_takeEvent_17 : decode b_Item_takeEvent 17 = .ok (.aload_n 0, 1) := by decide +kernel
theorem d_Item_takeEvent_18 : decode b_Item_takeEvent 18 = .ok (.lload_n 2, 1) := by decide +kernel
theorem d_Item_takeEvent_19 : decode b_Item_takeEvent 19 = .ok (.putfield 19, 3) := by decide +kernel
theorem d_Item_takeEvent_22 : decode b_Item_takeEvent 22 = .ok (.return_, 1) := by decide +kernel
theorem d_RowL_firstFor_0 : decode b_RowL_firstFor 0 = .ok (.iconst 0, 1) := by decide +kernel
theorem d_RowL_firstFor_1 : decode b_RowL_firstFor 1 = .ok (.istore 4, 2) := by decide +kernel
theorem d_RowL_firstFor_3 : decode b_RowL_firstFor 3 = .ok (.iload 4, 2) := by decide +kernel
theorem d_RowL_firstFor_5 : decode b_RowL_firstFor 5 = .ok (.aload_n 0, 1) := by decide +kernel
theorem d_RowL_firstFor_6 : decode b_RowL_firstFor 6 = .ok (.getfield 12, 3) := by decide +kernel
theorem d_RowL_firstFor_9 : decode b_RowL_firstFor 9 = .ok (.invokevirtual 21, 3) := by decide +kernel
theorem d_RowL_firstFor_12 : decode b_RowL_firstFor 12 = .ok (.if_icmp .ge 37, 3) := by decide +kernel
theorem d_RowL_firstFor_15 : decode b_RowL_firstFor 15 = .ok (.aload_n 0, 1) := by decide +kernel
theorem d_RowL_firstFor_16 : decode b_RowL_firstFor 16 = .ok (.getfield 12, 3) := by decide +kernel
theorem d_RowL_firstFor_19 : decode b_RowL_firstFor 19 = .ok (.iload 4, 2) := by decide +kernel
theorem d_RowL_firstFor_21 : decode b_RowL_firstFor 21 = .ok (.invokevirtual 34, 3) := by decide +kernel
theorem d_RowL_firstFor_24 : decode b_RowL_firstFor 24 = .ok (.checkcast 25, 3) := by decide +kernel
theorem d_RowL_firstFor_27 : decode b_RowL_firstFor 27 = .ok (.astore 5, 2) := by decide +kernel
theorem d_RowL_firstFor_29 : decode b_RowL_firstFor 29 = .ok (.aload 5, 2) := by decide +kernel
theorem d_RowL_firstFor_31 : decode b_RowL_firstFor 31 = .ok (.iload_n 1, 1) := by decide +kernel
theorem d_RowL_firstFor_32 : decode b_RowL_firstFor 32 = .ok (.iload_n 2, 1) := by decide +kernel
theorem d_RowL_firstFor_33 : decode b_RowL_firstFor 33 = .ok (.iload_n 3, 1) := by decide +kernel
theorem d_RowL_firstFor_34 : decode b_RowL_firstFor 34 = .ok (.invokevirtual 38, 3) := by decide +kernel
theorem d_RowL_firstFor_37 : decode b_RowL_firstFor 37 = .ok (.ifCond .eq 6, 3) := by decide +kernel
theorem d_RowL_firstFor_40 : decode b_RowL_firstFor 40 = .ok (.aload 5, 2) := by decide +kernel
theorem d_RowL_firstFor_42 : decode b_RowL_firstFor 42 = .ok (.areturn, 1) := by decide +kernel
theorem d_RowL_firstFor_43 : decode b_RowL_firstFor 43 = .ok (.iinc 4 1, 3) := by decide +kernel
theorem d_RowL_firstFor_46 : decode b_RowL_firstFor 46 = .ok (.goto (-43), 3) := by decide +kernel
theorem d_RowL_firstFor_49 : decode b_RowL_firstFor 49 = .ok (.aconst_null, 1) := by decide +kernel
theorem d_RowL_firstFor_50 : decode b_RowL_firstFor 50 = .ok (.areturn, 1) := by decide +kernel
theorem d_Row_isFor_0 : decode b_Row_isFor 0 = .ok (.aload_n 0, 1) := by decide +kernel
theorem d_Row_isFor_1 : decode b_Row_isFor 1 = .ok (.getfield 19, 3) := by decide +kernel
theorem d_Row_isFor_4 : decode b_Row_isFor 4 = .ok (.iload_n 1, 1) := by decide +kernel
theorem d_Row_isFor_5 : decode b_Row_isFor 5 = .ok (.if_icmp .ne 39, 3) := by decide +kernel
theorem d_Row_isFor_8 : decode b_Row_isFor 8 = .ok (.aload_n 0, 1) := by decide +kernel
theorem d_Row_isFor_9 : decode b_Row_isFor 9 = .ok (.getfield 22, 3) := by decide +kernel
theorem d_Row_isFor_12 : decode b_Row_isFor 12 = .ok (.iconst (-1), 1) := by decide +kernel
theorem d_Row_isFor_13 : decode b_Row_isFor 13 = .ok (.if_icmp .eq 11, 3) := by decide +kernel
theorem d_Row_isFor_16 : decode b_Row_isFor 16 = .ok (.aload_n 0, 1) := by decide +kernel
theorem d_Row_isFor_17 : decode b_Row_isFor 17 = .ok (.getfield 22, 3) := by decide +kernel
theorem d_Row_isFor_20 : decode b_Row_isFor 20 = .ok (.iload_n 2, 1) := by decide +kernel
theorem d_Row_isFor_21 : decode b_Row_isFor 21 = .ok (.if_icmp .ne 23, 3) := by decide +kernel
theorem d_Row_isFor_24 : decode b_Row_isFor 24 = .ok (.aload_n 0, 1) := by decide +kernel
theorem d_Row_isFor_25 : decode b_Row_isFor 25 = .ok (.getfield 25, 3) := by decide +kernel
theorem d_Row_isFor_28 : decode b_Row_isFor 28 = .ok (.iconst (-1), 1) := by decide +kernel
theorem d_Row_isFor_29 : decode b_Row_isFor 29 = .ok (.if_icmp .eq 11, 3) := by decide +kernel
theorem d_Row_isFor_32 : decode b_Row_isFor 32 = .ok (.aload_n 0, 1) := by decide +kernel
theorem d_Row_isFor_33 : decode b_Row_isFor 33 = .ok (.getfield 25, 3) := by decide +kernel
theorem d_Row_isFor_36 : decode b_Row_isFor 36 = .ok (.iload_n 3, 1) := by decide +kernel
theorem d_Row_isFor_37 : decode b_Row_isFor 37 = .ok (.if_icmp .ne 7, 3) := by decide +kernel
theorem d_Row_isFor_40 : decode b_Row_isFor 40 = .ok (.iconst 1, 1) := by decide +kernel
theorem d_Row_isFor_41 : decode b_Row_isFor 41 = .ok (.goto 4, 3) := by decide +kernel
theorem d_Row_isFor_44 : decode b_Row_isFor 44 = .ok (.iconst 0, 1) := by decide +kernel
theorem d_Row_isFor_45 : decode b_Row_isFor 45 = .ok (.ireturn, 1) := by decide +kernel
theorem d_X_expectNext_0 : decode b_X_expectNext 0 = .ok (.aload_n 2, 1) := by decide +kernel
theorem d_X_expectNext_1 : decode b_X_expectNext 1 = .ok (.ifnonnull 5, 3) := by decide +kernel
theorem d_X_expectNext_4 : decode b_X_expectNext 4 = .ok (.iconst 0, 1) := by decide +kernel
theorem d_X_expectNext_5 : decode b_X_expectNext 5 = .ok (.ireturn, 1) := by decide +kernel
theorem d_X_expectNext_6 : decode b_X_expectNext 6 = .ok (.aload_n 2, 1) := by decide +kernel
theorem d_X_expectNext_7 : decode b_X_expectNext 7 = .ok (.getfield 171, 3) := by decide +kernel
theorem d_X_expectNext_10 : decode b_X_expectNext 10 = .ok (.ifCond .eq 17, 3) := by decide +kernel
theorem d_X_expectNext_13 : decode b_X_expectNext 13 = .ok (.aload_n 0, 1) := by decide +kernel
theorem d_X_expectNext_14 : decode b_X_expectNext 14 = .ok (.getfield 10, 3) := by decide +kernel
theorem d_X_expectNext_17 : decode b_X_expectNext 17 = .ok (.aload_n 2, 1) := by decide +kernel
theorem d_X_expectNext_18 : decode b_X_expectNext 18 = .ok (.invokevirtual 176, 3) := by decide +kernel
theorem d_X_expectNext_21 : decode b_X_expectNext 21 = .ok (.aload_n 2, 1) := by decide +kernel
theorem d_X_expectNext_22 : decode b_X_expectNext 22 = .ok (.getfield 180, 3) := by decide +kernel
theorem d_X_expectNext_25 : decode b_X_expectNext 25 = .ok (.ineg, 1) := by decide +kernel
theorem d_X_expectNext_26 : decode b_X_expectNext 26 = .ok (.ireturn, 1) := by decide +kernel
theorem d_X_expectNext_27 : decode b_X_expectNext 27 = .ok (.aload_n 1, 1) := by decide +kernel
theorem d_X_expectNext_28 : decode b_X_expectNext 28 = .ok (.aload_n 2, 1) := by decide +kernel
theorem d_X_expectNext_29 : decode b_X_expectNext 29 = .ok (.getfield 180, 3) := by decide +kernel
theorem d_X_expectNext_32 : decode b_X_expectNext 32 = .ok (.iload_n 3, 1) := by decide +kernel
theorem d_X_expectNext_33 : decode b_X_expectNext 33 = .ok (.aload_n 0, 1) := by decide +kernel
theorem d_X_expectNext_34 : decode b_X_expectNext 34 = .ok (.getfield 19, 3) := by decide +kernel
theorem d_X_expectNext_37 : decode b_X_expectNext 37 = .ok (.lload 4, 2) := by decide +kernel
theorem d_X_expectNext_39 : decode b_X_expectNext 39 = .ok (.aload_n 2, 1) := by decide +kernel
theorem d_X_expectNext_40 : decode b_X_expectNext 40 = .ok (.getfield 184, 3) := by decide +kernel
theorem d_X_expectNext_43 : decode b_X_expectNext 43 = .ok (.invokevirtual 187, 3) := by decide +kernel
theorem d_X_expectNext_46 : decode b_X_expectNext 46 = .ok (.invokevirtual 191, 3) := by decide +kernel
theorem d_X_expectNext_49 : decode b_X_expectNext 49 = .ok (.aload_n 0, 1) := by decide +kernel
theorem d_X_expectNext_50 : decode b_X_expectNext 50 = .ok (.getfield 33, 3) := by decide +kernel
theorem d_X_expectNext_53 : decode b_X_expectNext 53 = .ok (.iload_n 3, 1) := by decide +kernel
theorem d_X_expectNext_54 : decode b_X_expectNext 54 = .ok (.invokevirtual 195, 3) := by decide +kernel
theorem d_X_expectNext_57 : decode b_X_expectNext 57 = .ok (.aload_n 2, 1) := by decide +kernel
theorem d_X_expectNext_58 : decode b_X_expectNext 58 = .ok (.getfield 180, 3) := by decide +kernel
theorem d_X_expectNext_61 : decode b_X_expectNext 61 = .ok (.ireturn, 1) := by decide +kernel
theorem d_RowL_noteFailed_0 : decode b_RowL_noteFailed 0 = .ok (.aload_n 1, 1) := by decide +kernel
theorem d_RowL_noteFailed_1 : decode b_RowL_noteFailed 1 = .ok (.getfield 42, 3) := by decide +kernel
theorem d_RowL_noteFailed_4 : decode b_RowL_noteFailed 4 = .ok (.ifCond .ne 17, 3) := by decide +kernel
theorem d_RowL_noteFailed_7 : decode b_RowL_noteFailed 7 = .ok (.aload_n 1, 1) := by decide +kernel
theorem d_RowL_noteFailed_8 : decode b_RowL_noteFailed 8 = .ok (.iconst 1, 1) := by decide +kernel
theorem d_RowL_noteFailed_9 : decode b_RowL_noteFailed 9 = .ok (.putfield 42, 3) := by decide +kernel
theorem d_RowL_noteFailed_12 : decode b_RowL_noteFailed 12 = .ok (.aload_n 0, 1) := by decide +kernel
theorem d_RowL_noteFailed_13 : decode b_RowL_noteFailed 13 = .ok (.getfield 18, 3) := by decide +kernel
theorem d_RowL_noteFailed_16 : decode b_RowL_noteFailed 16 = .ok (.aload_n 1, 1) := by decide +kernel
theorem d_RowL_noteFailed_17 : decode b_RowL_noteFailed 17 = .ok (.invokevirtual 30, 3) := by decide +kernel
theorem d_RowL_noteFailed_20 : decode b_RowL_noteFailed 20 = .ok (.pop, 1) := by decide +kernel
theorem d_RowL_noteFailed_21 : decode b_RowL_noteFailed 21 = .ok (.return_, 1) := by decide +kernel
theorem d_Holi_dueAfter_0 : decode b_Holi_dueAfter 0 = .ok (.lload_n 1, 1) := by decide +kernel
theorem d_Holi_dueAfter_1 : decode b_Holi_dueAfter 1 = .ok (.lload_n 3, 1) := by decide +kernel
theorem d_Holi_dueAfter_2 : decode b_Holi_dueAfter 2 = .ok (.ladd, 1) := by decide +kernel
theorem d_Holi_dueAfter_3 : decode b_Holi_dueAfter 3 = .ok (.lstore 5, 2) := by decide +kernel
theorem d_Holi_dueAfter_5 : decode b_Holi_dueAfter 5 = .ok (.iconst 0, 1) := by decide +kernel
theorem d_Holi_dueAfter_6 : decode b_Holi_dueAfter 6 = .ok (.istore 7, 2) := by decide +kernel
theorem d_Holi_dueAfter_8 : decode b_Holi_dueAfter 8 = .ok (.iload 7, 2) := by decide +kernel
theorem d_Holi_dueAfter_10 : decode b_Holi_dueAfter 10 = .ok (.aload_n 0, 1) := by decide +kernel
theorem d_Holi_dueAfter_11 : decode b_Holi_dueAfter 11 = .ok (.getfield 15, 3) := by decide +kernel
theorem d_Holi_dueAfter_14 : decode b_Holi_dueAfter 14 = .ok (.if_icmp .ge 69, 3) := by decide +kernel
theorem d_Holi_dueAfter_17 : decode b_Holi_dueAfter 17 = .ok (.aload_n 0, 1) := by decide +kernel
theorem d_Holi_dueAfter_18 : decode b_Holi_dueAfter 18 = .ok (.getfield 9, 3) := by decide +kernel
theorem d_Holi_dueAfter_21 : decode b_Holi_dueAfter 21 = .ok (.iload 7, 2) := by decide +kernel
theorem d_Holi_dueAfter_23 : decode b_Holi_dueAfter 23 = .ok (.laload, 1) := by decide +kernel
theorem d_Holi_dueAfter_24 : decode b_Holi_dueAfter 24 = .ok (.ldc2_w 23, 3) := by decide +kernel
theorem d_Holi_dueAfter_27 : decode b_Holi_dueAfter 27 = .ok (.lmul, 1) := by decide +kernel
theorem d_Holi_dueAfter_28 : decode b_Holi_dueAfter 28 = .ok (.lload_n 1, 1) := by decide +kernel
theorem d_Holi_dueAfter_29 : decode b_Holi_dueAfter 29 = .ok (.invokestatic 25, 3) := by decide +kernel
theorem d_Holi_dueAfter_32 : decode b_Holi_dueAfter 32 = .ok (.lstore 8, 2) := by decide +kernel
theorem d_Holi_dueAfter_34 : decode b_Holi_dueAfter 34 = .ok (.aload_n 0, 1) := by decide +kernel
theorem d_Holi_dueAfter_35 : decode b_Holi_dueAfter 35 = .ok (.getfield 9, 3) := by decide +kernel
theorem d_Holi_dueAfter_38 : decode b_Holi_dueAfter 38 = .ok (.iload 7, 2) := by decide +kernel
theorem d_Holi_dueAfter_40 : decode b_Holi_dueAfter 40 = .ok (.laload, 1) := by decide +kernel
theorem d_Holi_dueAfter_41 : decode b_Holi_dueAfter 41 = .ok (.ldc2_w 23, 3) := by decide +kernel
theorem d_Holi_dueAfter_44 : decode b_Holi_dueAfter 44 = .ok (.lmul, 1) := by decide +kernel
theorem d_Holi_dueAfter_45 : decode b_Holi_dueAfter 45 = .ok (.ldc2_w 23, 3) := by decide +kernel
theorem d_Holi_dueAfter_48 : decode b_Holi_dueAfter 48 = .ok (.ladd, 1) := by decide +kernel
theorem d_Holi_dueAfter_49 : decode b_Holi_dueAfter 49 = .ok (.lstore 10, 2) := by decide +kernel
theorem d_Holi_dueAfter_51 : decode b_Holi_dueAfter 51 = .ok (.lload 8, 2) := by decide +kernel
theorem d_Holi_dueAfter_53 : decode b_Holi_dueAfter 53 = .ok (.lload 10, 2) := by decide +kernel
theorem d_Holi_dueAfter_55 : decode b_Holi_dueAfter 55 = .ok (.lcmp, 1) := by decide +kernel
theorem d_Holi_dueAfter_56 : decode b_Holi_dueAfter 56 = .ok (.ifCond .ge 21, 3) := by decide +kernel
theorem d_Holi_dueAfter_59 : decode b_Holi_dueAfter 59 = .ok (.lload 8, 2) := by decide +kernel
theorem d_Holi_dueAfter_61 : decode b_Holi_dueAfter 61 = .ok (.lload 5, 2) := by decide +kernel
theorem d_Holi_dueAfter_63 : decode b_Holi_dueAfter 63 = .ok (.lcmp, 1) := by decide +kernel
theorem d_Holi_dueAfter_64 : decode b_Holi_dueAfter 64 = .ok (.ifCond .ge 13, 3) := by decide +kernel
theorem d_Holi_dueAfter_67 : decode b_Holi_dueAfter 67 = .ok (.lload 5, 2) := by decide +kernel
theorem d_Holi_dueAfter_69 : decode b_Holi_dueAfter 69 = .ok (.lload 10, 2) := by decide +kernel
theorem d_Holi_dueAfter_71 : decode b_Holi_dueAfter 71 = .ok (.lload 8, 2) := by decide +kernel
theorem d_Holi_dueAfter_73 : decode b_Holi_dueAfter 73 = .ok (.lsub, 1) := by decide +kernel
theorem d_Holi_dueAfter_74 : decode b_Holi_dueAfter 74 = .ok (.ladd, 1) := by decide +kernel
theorem d_Holi_dueAfter_75 : decode b_Holi_dueAfter 75 = .ok (.lstore 5, 2) := by decide +kernel
theorem d_Holi_dueAfter_77 : decode b_Holi_dueAfter 77 = .ok (.iinc 7 1, 3) := by decide +kernel
theorem d_Holi_dueAfter_80 : decode b_Holi_dueAfter 80 = .ok (.goto (-72), 3) := by decide +kernel
theorem d_Holi_dueAfter_83 : decode b_Holi_dueAfter 83 = .ok (.lload 5, 2) := by decide +kernel
theorem d_Holi_dueAfter_85 : decode b_Holi_dueAfter 85 = .ok (.lreturn, 1) := by decide +kernel
theorem d_Item_expect_0 : decode b_Item_expect 0 = .ok (.aload_n 0, 1) := by decide +kernel
theorem d_Item_expect_1 : decode b_Item_expect 1 = .ok (.iload_n 1, 1) := by decide +kernel
theorem d_Item_expect_2 : decode b_Item_expect 2 = .ok (.putfield 22, 3) := by decide +kernel
theorem d_Item_expect_5 : decode b_Item_expect 5 = .ok (.aload_n 0, 1) := by decide +kernel
theorem d_Item_expect_6 : decode b_Item_expect 6 = .ok (.iload_n 2, 1) := by decide +kernel
theorem d_Item_expect_7 : decode b_Item_expect 7 = .ok (.putfield 25, 3) := by decide +kernel
theorem d_Item_expect_10 : decode b_Item_expect 10 = .ok (.aload_n 0, 1) := by decide +kernel
theorem d_Item_expect_11 : decode b_Item_expect 11 = .ok (.lload_n 3, 1) := by decide +kernel
theorem d_Item_expect_12 : decode b_Item_expect 12 = .ok (.putfield 28, 3) := by decide +kernel
theorem d_Item_expect_15 : decode b_Item_expect 15 = .ok (.return_, 1) := by decide +kernel
theorem d_Cnts_addBegun_0 : decode b_Cnts_addBegun 0 = .ok (.iload_n 1, 1) := by decide +kernel
theorem d_Cnts_addBegun_1 : decode b_Cnts_addBegun 1 = .ok (.invokestatic 18, 3) := by decide +kernel
theorem d_Cnts_addBegun_4 : decode b_Cnts_addBegun 4 = .ok (.ifCond .eq 13, 3) := by decide +kernel
theorem d_Cnts_addBegun_7 : decode b_Cnts_addBegun 7 = .ok (.aload_n 0, 1) := by decide +kernel
theorem d_Cnts_addBegun_8 : decode b_Cnts_addBegun 8 = .ok (.getfield 9, 3) := by decide +kernel
theorem d_Cnts_addBegun_11 : decode b_Cnts_addBegun 11 = .ok (.iload_n 1, 1) := by decide +kernel
theorem d_Cnts_addBegun_12 : decode b_Cnts_addBegun 12 = .ok (.dup2, 1) := by decide +kernel
theorem d_Cnts_addBegun_13 : decode b_Cnts_addBegun 13 = .ok (.iaload, 1) := by decide +kernel
theorem d_Cnts_addBegun_14 : decode b_Cnts_addBegun 14 = .ok (.iconst 1, 1) := by decide +kernel
theorem d_Cnts_addBegun_15 : decode b_Cnts_addBegun 15 = .ok (.iadd, 1) := by decide +kernel
theorem d_Cnts_addBegun_16 : decode b_Cnts_addBegun 16 = .ok (.iastore, 1) := by decide +kernel
theorem d_Cnts_addBegun_17 : decode b_Cnts_addBegun 17 = .ok (.return_, 1) := by decide +kernel
theorem d_X_tick_0 : decode b_X_tick 0 = .ok (.lload_n 1, 1) := by decide +kernel
theorem d_X_tick_1 : decode b_X_tick 1 = .ok (.aload_n 0, 1) := by decide +kernel
theorem d_X_tick_2 : decode b_X_tick 2 = .ok (.getfield 50, 3) := by decide +kernel
theorem d_X_tick_5 : decode b_X_tick 5 = .ok (.lcmp, 1) := by decide +kernel
theorem d_X_tick_6 : decode b_X_tick 6 = .ok (.ifCond .lt 11, 3) := by decide +kernel
theorem d_X_tick_9 : decode b_X_tick 9 = .ok (.lload_n 1, 1) := by decide +kernel
theorem d_X_tick_10 : decode b_X_tick 10 = .ok (.ldc2_w 101, 3) := by decide +kernel
theorem d_X_tick_13 : decode b_X_tick 13 = .ok (.lcmp, 1) := by decide +kernel
theorem d_X_tick_14 : decode b_X_tick 14 = .ok (.ifCond .le 6, 3) := by decide +kernel
theorem d_X_tick_17 : decode b_X_tick 17 = .ok (.bipush (-102), 2) := by decide +kernel
theorem d_X_tick_19 : decode b_X_tick 19 = .ok (.ireturn, 1) := by decide +kernel
theorem d_X_tick_20 : decode b_X_tick 20 = .ok (.aload_n 0, 1) := by decide +kernel
theorem d_X_tick_21 : decode b_X_tick 21 = .ok (.lload_n 1, 1) := by decide +kernel
theorem d_X_tick_22 : decode b_X_tick 22 = .ok (.putfield 50, 3) := by decide +kernel
theorem d_X_tick_25 : decode b_X_tick 25 = .ok (.aload_n 0, 1) := by decide +kernel
theorem d_X_tick_26 : decode b_X_tick 26 = .ok (.getfield 26, 3) := by decide +kernel
theorem d_X_tick_29 : decode b_X_tick 29 = .ok (.invokevirtual 103, 3) := by decide +kernel
theorem d_X_tick_32 : decode b_X_tick 32 = .ok (.istore_n 3, 1) := by decide +kernel
theorem d_X_tick_33 : decode b_X_tick 33 = .ok (.iconst 0, 1) := by decide +kernel
theorem d_X_tick_34 : decode b_X_tick 34 = .ok (.istore 4, 2) := by decide +kernel
theorem d_X_tick_36 : decode b_X_tick 36 = .ok (.iload 4, 2) := by decide +kernel
theorem d_X_tick_38 : decode b_X_tick 38 = .ok (.sipush 200, 3) := by decide +kernel
theorem d_X_tick_41 : decode b_X_tick 41 = .ok (.if_icmp .ge 35, 3) := by decide +kernel
theorem d_X_tick_44 : decode b_X_tick 44 = .ok (.aload_n 0, 1) := by decide +kernel
theorem d_X_tick_45 : decode b_X_tick 45 = .ok (.iload 4, 2) := by decide +kernel
theorem d_X_tick_47 : decode b_X_tick 47 = .ok (.aload_n 0, 1) := by decide +kernel
theorem d_X_tick_48 : decode b_X_tick 48 = .ok (.getfield 46, 3) := by decide +kernel
theorem d_X_tick_51 : decode b_X_tick 51 = .ok (.iload 4, 2) := by decide +kernel
theorem d_X_tick_53 : decode b_X_tick 53 = .ok (.aaload, 1) := by decide +kernel
theorem d_X_tick_54 : decode b_X_tick 54 = .ok (.invokevirtual 107, 3) := by decide +kernel
theorem d_X_tick_57 : decode b_X_tick 57 = .ok (.aload_n 0, 1) := by decide +kernel
theorem d_X_tick_58 : decode b_X_tick 58 = .ok (.iload 4, 2) := by decide +kernel
theorem d_X_tick_60 : decode b_X_tick 60 = .ok (.aload_n 0, 1) := by decide +kernel
theorem d_X_tick_61 : decode b_X_tick 61 = .ok (.getfield 46, 3) := by decide +kernel
theorem d_X_tick_64 : decode b_X_tick 64 = .ok (.iload 4, 2) := by decide +kernel
theorem d_X_tick_66 : decode b_X_tick 66 = .ok (.aaload, 1) := by decide +kernel
theorem d_X_tick_67 : decode b_X_tick 67 = .ok (.invokevirtual 111, 3) := by decide +kernel
theorem d_X_tick_70 : decode b_X_tick 70 = .ok (.iinc 4 1, 3) := by decide +kernel
theorem d_X_tick_73 : decode b_X_tick 73 = .ok (.goto (-37), 3) := by decide +kernel
theorem d_X_tick_76 : decode b_X_tick 76 = .ok (.aload_n 0, 1) := by decide +kernel
theorem d_X_tick_77 : decode b_X_tick 77 = .ok (.getfield 26, 3) := by decide +kernel
theorem d_X_tick_80 : decode b_X_tick 80 = .ok (.invokevirtual 103, 3) := by decide +kernel
theorem d_X_tick_83 : decode b_X_tick 83 = .ok (.iload_n 3, 1) := by decide +kernel
theorem d_X_tick_84 : decode b_X_tick 84 = .ok (.isub, 1) := by decide +kernel
theorem d_X_tick_85 : decode b_X_tick 85 = .ok (.ireturn, 1) := by decide +kernel
theorem d_AlarmL_size_0 : decode b_AlarmL_size 0 = .ok (.aload_n 0, 1) := by decide +kernel
theorem d_AlarmL_size_1 : decode b_AlarmL_size 1 = .ok (.getfield 12, 3) := by decide +kernel
theorem d_AlarmL_size_4 : decode b_AlarmL_size 4 = .ok (.invokevirtual 18, 3) := by decide +kernel
theorem d_AlarmL_size_7 : decode b_AlarmL_size 7 = .ok (.ireturn, 1) := by decide +kernel
theorem d_X_tellLate_0 : decode b_X_tellLate 0 = .ok (.aload_n 2, 1) := by decide +kernel
theorem d_X_tellLate_1 : decode b_X_tellLate 1 = .ok (.invokevirtual 199, 3) := by decide +kernel
theorem d_X_tellLate_4 : decode b_X_tellLate 4 = .ok (.ifCond .eq 48, 3) := by decide +kernel
theorem d_X_tellLate_7 : decode b_X_tellLate 7 = .ok (.aload_n 2, 1) := by decide +kernel
theorem d_X_tellLate_8 : decode b_X_tellLate 8 = .ok (.getfield 203, 3) := by decide +kernel
theorem d_X_tellLate_11 : decode b_X_tellLate 11 = .ok (.ifCond .ne 41, 3) := by decide +kernel
theorem d_X_tellLate_14 : decode b_X_tellLate 14 = .ok (.aload_n 2, 1) := by decide +kernel
theorem d_X_tellLate_15 : decode b_X_tellLate 15 = .ok (.getfield 206, 3) := by decide +kernel
theorem d_X_tellLate_18 : decode b_X_tellLate 18 = .ok (.aload_n 0, 1) := by decide +kernel
theorem d_X_tellLate_19 : decode b_X_tellLate 19 = .ok (.getfield 50, 3) := by decide +kernel
theorem d_X_tellLate_22 : decode b_X_tellLate 22 = .ok (.lcmp, 1) := by decide +kernel
theorem d_X_tellLate_23 : decode b_X_tellLate 23 = .ok (.ifCond .ge 29, 3) := by decide +kernel
theorem d_X_tellLate_26 : decode b_X_tellLate 26 = .ok (.aload_n 2, 1) := by decide +kernel
theorem d_X_tellLate_27 : decode b_X_tellLate 27 = .ok (.iconst 1, 1) := by decide +kernel
theorem d_X_tellLate_28 : decode b_X_tellLate 28 = .ok (.putfield 203, 3) := by decide +kernel
theorem d_X_tellLate_31 : decode b_X_tellLate 31 = .ok (.aload_n 0, 1) := by decide +kernel
theorem d_X_tellLate_32 : decode b_X_tellLate 32 = .ok (.getfield 33, 3) := by decide +kernel
theorem d_X_tellLate_35 : decode b_X_tellLate 35 = .ok (.aload_n 2, 1) := by decide +kernel
theorem d_X_tellLate_36 : decode b_X_tellLate 36 = .ok (.getfield 209, 3) := by decide +kernel
theorem d_X_tellLate_39 : decode b_X_tellLate 39 = .ok (.invokevirtual 212, 3) := by decide +kernel
theorem d_X_tellLate_42 : decode b_X_tellLate 42 = .ok (.aload_n 0, 1) := by decide +kernel
theorem d_X_tellLate_43 : decode b_X_tellLate 43 = .ok (.getfield 26, 3) := by decide +kernel
theorem d_X_tellLate_46 : decode b_X_tellLate 46 = .ok (.iload_n 1, 1) := by decide +kernel
theorem d_X_tellLate_47 : decode b_X_tellLate 47 = .ok (.iconst 1, 1) := by decide +kernel
theorem d_X_tellLate_48 : decode b_X_tellLate 48 = .ok (.aload_n 2, 1) := by decide +kernel
theorem d_X_tellLate_49 : decode b_X_tellLate 49 = .ok (.invokevirtual 215, 3) := by decide +kernel
theorem d_X_tellLate_52 : decode b_X_tellLate 52 = .ok (.return_, 1) := by decide +kernel
theorem d_Item_isExpected_0 : decode b_Item_isExpected 0 = .ok (.aload_n 0, 1) := by decide +kernel
theorem d_Item_isExpected_1 : decode b_Item_isExpected 1 = .ok (.getfield 22, 3) := by decide +kernel
theorem d_Item_isExpected_4 : decode b_Item_isExpected 4 = .ok (.ifCond .eq 7, 3) := by decide +kernel
theorem d_Item_isExpected_7 : decode b_Item_isExpected 7 = .ok (.iconst 1, 1) := by decide +kernel
theorem d_Item_isExpected_8 : decode b_Item_isExpected 8 = .ok (.goto 4, 3) := by decide +kernel
theorem d_Item_isExpected_11 : decode b_Item_isExpected 11 = .ok (.iconst 0, 1) := by decide +kernel
theorem d_Item_isExpected_12 : decode b_Item_isExpected 12 = .ok (.ireturn, 1) := by decide +kernel
theorem d_Cnts_addLate_0 : decode b_Cnts_addLate 0 = .ok (.iload_n 1, 1) := by decide +kernel
theorem d_Cnts_addLate_1 : decode b_Cnts_addLate 1 = .ok (.invokestatic 18, 3) := by decide +kernel
theorem d_Cnts_addLate_4 : decode b_Cnts_addLate 4 = .ok (.ifCond .eq 13, 3) := by decide +kernel
theorem d_Cnts_addLate_7 : decode b_Cnts_addLate 7 = .ok (.aload_n 0, 1) := by decide +kernel
theorem d_Cnts_addLate_8 : decode b_Cnts_addLate 8 = .ok (.getfield 15, 3) := by decide +kernel
theorem d_Cnts_addLate_11 : decode b_Cnts_addLate 11 = .ok (.iload_n 1, 1) := by decide +kernel
theorem d_Cnts_addLate_12 : decode b_Cnts_addLate 12 = .ok (.dup2, 1) := by decide +kernel
theorem d_Cnts_addLate_13 : decode b_Cnts_addLate 13 = .ok (.iaload, 1) := by decide +kernel
theorem d_Cnts_addLate_14 : decode b_Cnts_addLate 14 = .ok (.iconst 1, 1) := by decide +kernel
theorem d_Cnts_addLate_15 : decode b_Cnts_addLate 15 = .ok (.iadd, 1) := by decide +kernel
theorem d_Cnts_addLate_16 : decode b_Cnts_addLate 16 = .ok (.iastore, 1) := by decide +kernel
theorem d_Cnts_addLate_17 : decode b_Cnts_addLate 17 = .ok (.return_, 1) := by decide +kernel
theorem d_AlarmL_addAlarm_0 : decode b_AlarmL_addAlarm 0 = .ok (.aload_n 0, 1) := by decide +kernel
theorem d_AlarmL_addAlarm_1 : decode b_AlarmL_addAlarm 1 = .ok (.getfield 12, 3) := by decide +kernel
theorem d_AlarmL_addAlarm_4 : decode b_AlarmL_addAlarm 4 = .ok (.invokevirtual 18, 3) := by decide +kernel
theorem d_AlarmL_addAlarm_7 : decode b_AlarmL_addAlarm 7 = .ok (.sipush 400, 3) := by decide +kernel
theorem d_AlarmL_addAlarm_10 : decode b_AlarmL_addAlarm 10 = .ok (.if_icmp .ge 33, 3) := by decide +kernel
theorem d_AlarmL_addAlarm_13 : decode b_AlarmL_addAlarm 13 = .ok (.aload_n 0, 1) := by decide +kernel
theorem d_AlarmL_addAlarm_14 : decode b_AlarmL_addAlarm 14 = .ok (.getfield 12, 3) := by decide +kernel
theorem d_AlarmL_addAlarm_17 : decode b_AlarmL_addAlarm 17 = .ok (.new 22, 3) := by decide +kernel
theorem d_AlarmL_addAlarm_20 : decode b_AlarmL_addAlarm 20 = .ok (.dup, 1) := by decide +kernel
theorem d_AlarmL_addAlarm_21 : decode b_AlarmL_addAlarm 21 = .ok (.iload_n 1, 1) := by decide +kernel
theorem d_AlarmL_addAlarm_22 : decode b_AlarmL_addAlarm 22 = .ok (.iload_n 2, 1) := by decide +kernel
theorem d_AlarmL_addAlarm_23 : decode b_AlarmL_addAlarm 23 = .ok (.aload_n 3, 1) := by decide +kernel
theorem d_AlarmL_addAlarm_24 : decode b_AlarmL_addAlarm 24 = .ok (.getfield 24, 3) := by decide +kernel
theorem d_AlarmL_addAlarm_27 : decode b_AlarmL_addAlarm 27 = .ok (.aload_n 3, 1) := by decide +kernel
theorem d_AlarmL_addAlarm_28 : decode b_AlarmL_addAlarm 28 = .ok (.getfield 30, 3) := by decide +kernel
theorem d_AlarmL_addAlarm_31 : decode b_AlarmL_addAlarm 31 = .ok (.aload_n 3, 1) := by decide +kernel
theorem d_AlarmL_addAlarm_32 : decode b_AlarmL_addAlarm 32 = .ok (.getfield 33, 3) := by decide +kernel
theorem d_AlarmL_addAlarm_35 : decode b_AlarmL_addAlarm 35 = .ok (.l2i, 1) := by decide +kernel
theorem d_AlarmL_addAlarm_36 : decode b_AlarmL_addAlarm 36 = .ok (.invokespecial 37, 3) := by decide +kernel
theorem d_AlarmL_addAlarm_39 : decode b_AlarmL_addAlarm 39 = .ok (.invokevirtual 40, 3) := by decide +kernel
theorem d_AlarmL_addAlarm_42 : decode b_AlarmL_addAlarm 42 = .ok (.pop, 1) := by decide +kernel
theorem d_AlarmL_addAlarm_43 : decode b_AlarmL_addAlarm 43 = .ok (.return_, 1) := by decide +kernel
theorem d_Alarm_init_0 : decode b_Alarm_init 0 = .ok (.aload_n 0, 1) := by decide +kernel
theorem d_Alarm_init_1 : decode b_Alarm_init 1 = .ok (.invokespecial 1, 3) := by decide +kernel
theorem d_Alarm_init_4 : decode b_Alarm_init 4 = .ok (.aload_n 0, 1) := by decide +kernel
theorem d_Alarm_init_5 : decode b_Alarm_init 5 = .ok (.iload_n 1, 1) := by decide +kernel
theorem d_Alarm_init_6 : decode b_Alarm_init 6 = .ok (.putfield 7, 3) := by decide +kernel
theorem d_Alarm_init_9 : decode b_Alarm_init 9 = .ok (.aload_n 0, 1) := by decide +kernel
theorem d_Alarm_init_10 : decode b_Alarm_init 10 = .ok (.iload_n 2, 1) := by decide +kernel
theorem d_Alarm_init_11 : decode b_Alarm_init 11 = .ok (.putfield 13, 3) := by decide +kernel
theorem d_Alarm_init_14 : decode b_Alarm_init 14 = .ok (.aload_n 0, 1) := by decide +kernel
theorem d_Alarm_init_15 : decode b_Alarm_init 15 = .ok (.iload_n 3, 1) := by decide +kernel
theorem d_Alarm_init_16 : decode b_Alarm_init 16 = .ok (.putfield 16, 3) := by decide +kernel
theorem d_Alarm_init_19 : decode b_Alarm_init 19 = .ok (.aload_n 0, 1) := by decide +kernel
theorem d_Alarm_init_20 : decode b_Alarm_init 20 = .ok (.iload 4, 2) := by decide +kernel
theorem d_Alarm_init_22 : decode b_Alarm_init 22 = .ok (.putfield 19, 3) := by decide +kernel
theorem d_Alarm_init_25 : decode b_Alarm_init 25 = .ok (.aload_n 0, 1) := by decide +kernel
theorem d_Alarm_init_26 : decode b_Alarm_init 26 = .ok (.iload 5, 2) := by decide +kernel
theorem d_Alarm_init_28 : decode b_Alarm_init 28 = .ok (.putfield 22, 3) := by decide +kernel
theorem d_Alarm_init_31 : decode b_Alarm_init 31 = .ok (.return_, 1) := by decide +kernel
theorem d_X_tellLost_0 : decode b_X_tellLost 0 = .ok (.aload_n 2, 1) := by decide +kernel
theorem d_X_tellLost_1 : decode b_X_tellLost 1 = .ok (.invokevirtual 199, 3) := by decide +kernel
theorem d_X_tellLost_4 : decode b_X_tellLost 4 = .ok (.ifCond .eq 41, 3) := by decide +kernel
theorem d_X_tellLost_7 : decode b_X_tellLost 7 = .ok (.aload_n 2, 1) := by decide +kernel
theorem d_X_tellLost_8 : decode b_X_tellLost 8 = .ok (.getfield 158, 3) := by decide +kernel
theorem d_X_tellLost_11 : decode b_X_tellLost 11 = .ok (.ifCond .ne 34, 3) := by decide +kernel
theorem d_X_tellLost_14 : decode b_X_tellLost 14 = .ok (.aload_n 0, 1) := by decide +kernel
theorem d_X_tellLost_15 : decode b_X_tellLost 15 = .ok (.getfield 50, 3) := by decide +kernel
theorem d_X_tellLost_18 : decode b_X_tellLost 18 = .ok (.aload_n 2, 1) := by decide +kernel
theorem d_X_tellLost_19 : decode b_X_tellLost 19 = .ok (.getfield 206, 3) := by decide +kernel
theorem d_X_tellLost_22 : decode b_X_tellLost 22 = .ok (.lsub, 1) := by decide +kernel
theorem d_X_tellLost_23 : decode b_X_tellLost 23 = .ok (.ldc2_w 219, 3) := by decide +kernel
theorem d_X_tellLost_26 : decode b_X_tellLost 26 = .ok (.lcmp, 1) := by decide +kernel
theorem d_X_tellLost_27 : decode b_X_tellLost 27 = .ok (.ifCond .le 18, 3) := by decide +kernel
theorem d_X_tellLost_30 : decode b_X_tellLost 30 = .ok (.aload_n 2, 1) := by decide +kernel
theorem d_X_tellLost_31 : decode b_X_tellLost 31 = .ok (.iconst 1, 1) := by decide +kernel
theorem d_X_tellLost_32 : decode b_X_tellLost 32 = .ok (.putfield 158, 3) := by decide +kernel
theorem d_X_tellLost_35 : decode b_X_tellLost 35 = .ok (.aload_n 0, 1) := by decide +kernel
theorem d_X_tellLost_36 : decode b_X_tellLost 36 = .ok (.getfield 26, 3) := by decide +kernel
theorem d_X_tellLost_39 : decode b_X_tellLost 39 = .ok (.iload_n 1, 1) := by decide +kernel
theorem d_X_tellLost_40 : decode b_X_tellLost 40 = .ok (.iconst 2, 1) := by decide +kernel
theorem d_X_tellLost_41 : decode b_X_tellLost 41 = .ok (.aload_n 2, 1) := by decide +kernel
theorem d_X_tellLost_42 : decode b_X_tellLost 42 = .ok (.invokevirtual 215, 3) := by decide +kernel
theorem d_X_tellLost_45 : decode b_X_tellLost 45 = .ok (.return_, 1) := by decide +kernel
theorem d_X_alarm_0 : decode b_X_alarm 0 = .ok (.aload_n 0, 1) := by decide +kernel
theorem d_X_alarm_1 : decode b_X_alarm 1 = .ok (.getfield 26, 3) := by decide +kernel
theorem d_X_alarm_4 : decode b_X_alarm 4 = .ok (.iload_n 1, 1) := by decide +kernel
theorem d_X_alarm_5 : decode b_X_alarm 5 = .ok (.iload_n 2, 1) := by decide +kernel
theorem d_X_alarm_6 : decode b_X_alarm 6 = .ok (.invokevirtual 114, 3) := by decide +kernel
theorem d_X_alarm_9 : decode b_X_alarm 9 = .ok (.ireturn, 1) := by decide +kernel
theorem d_AlarmL_partOf_0 : decode b_AlarmL_partOf 0 = .ok (.iload_n 1, 1) := by decide +kernel
theorem d_AlarmL_partOf_1 : decode b_AlarmL_partOf 1 = .ok (.ifCond .lt 14, 3) := by decide +kernel
theorem d_AlarmL_partOf_4 : decode b_AlarmL_partOf 4 = .ok (.iload_n 1, 1) := by decide +kernel
theorem d_AlarmL_partOf_5 : decode b_AlarmL_partOf 5 = .ok (.aload_n 0, 1) := by decide +kernel
theorem d_AlarmL_partOf_6 : decode b_AlarmL_partOf 6 = .ok (.getfield 12, 3) := by decide +kernel
theorem d_AlarmL_partOf_9 : decode b_AlarmL_partOf 9 = .ok (.invokevirtual 18, 3) := by decide +kernel
theorem d_AlarmL_partOf_12 : decode b_AlarmL_partOf 12 = .ok (.if_icmp .lt 5, 3) := by decide +kernel
theorem d_AlarmL_partOf_15 : decode b_AlarmL_partOf 15 = .ok (.iconst (-1), 1) := by decide +kernel
theorem d_AlarmL_partOf_16 : decode b_AlarmL_partOf 16 = .ok (.ireturn, 1) := by decide +kernel
theorem d_AlarmL_partOf_17 : decode b_AlarmL_partOf 17 = .ok (.aload_n 0, 1) := by decide +kernel
theorem d_AlarmL_partOf_18 : decode b_AlarmL_partOf 18 = .ok (.getfield 12, 3) := by decide +kernel
theorem d_AlarmL_partOf_21 : decode b_AlarmL_partOf 21 = .ok (.iload_n 1, 1) := by decide +kernel
theorem d_AlarmL_partOf_22 : decode b_AlarmL_partOf 22 = .ok (.invokevirtual 44, 3) := by decide +kernel
theorem d_AlarmL_partOf_25 : decode b_AlarmL_partOf 25 = .ok (.checkcast 22, 3) := by decide +kernel
theorem d_AlarmL_partOf_28 : decode b_AlarmL_partOf 28 = .ok (.astore_n 3, 1) := by decide +kernel
theorem d_AlarmL_partOf_29 : decode b_AlarmL_partOf 29 = .ok (.iload_n 2, 1) := by decide +kernel
theorem d_AlarmL_partOf_30 : decode b_AlarmL_partOf 30 = .ok (.tableswitch 59 0 4 #[34, 39, 44, 49, 54], 34) := by decide +kernel
theorem d_AlarmL_partOf_64 : decode b_AlarmL_partOf 64 = .ok (.aload_n 3, 1) := by decide +kernel
theorem d_AlarmL_partOf_65 : decode b_AlarmL_partOf 65 = .ok (.getfield 48, 3) := by decide +kernel
theorem d_AlarmL_partOf_68 : decode b_AlarmL_partOf 68 = .ok (.ireturn, 1) := by decide +kernel
theorem d_AlarmL_partOf_69 : decode b_AlarmL_partOf 69 = .ok (.aload_n 3, 1) := by decide +kernel
theorem d_AlarmL_partOf_70 : decode b_AlarmL_partOf 70 = .ok (.getfield 51, 3) := by decide +kernel
theorem d_AlarmL_partOf_73 : decode b_AlarmL_partOf 73 = .ok (.ireturn, 1) := by decide +kernel
theorem d_AlarmL_partOf_74 : decode b_AlarmL_partOf 74 = .ok (.aload_n 3, 1) := by decide +kernel
theorem d_AlarmL_partOf_75 : decode b_AlarmL_partOf 75 = .ok (.getfield 54, 3) := by decide +kernel
theorem d_AlarmL_partOf_78 : decode b_AlarmL_partOf 78 = .ok (.ireturn, 1) := by decide +kernel
theorem d_AlarmL_partOf_79 : decode b_AlarmL_partOf 79 = .ok (.aload_n 3, 1) := by decide +kernel
theorem d_AlarmL_partOf_80 : decode b_AlarmL_partOf 80 = .ok (.getfield 55, 3) := by decide +kernel
theorem d_AlarmL_partOf_83 : decode b_AlarmL_partOf 83 = .ok (.ireturn, 1) := by decide +kernel
theorem d_AlarmL_partOf_84 : decode b_AlarmL_partOf 84 = .ok (.aload_n 3, 1) := by decide +kernel
theorem d_AlarmL_partOf_85 : decode b_AlarmL_partOf 85 = .ok (.getfield 56, 3) := by decide +kernel
theorem d_AlarmL_partOf_88 : decode b_AlarmL_partOf 88 = .ok (.ireturn, 1) := by decide +kernel
theorem d_AlarmL_partOf_89 : decode b_AlarmL_partOf 89 = .ok (.iconst (-1), 1) := by decide +kernel
theorem d_AlarmL_partOf_90 : decode b_AlarmL_partOf 90 = .ok (.ireturn, 1) := by decide +kernel
theorem d_X_state_0 : decode b_X_state 0 = .ok (.iload_n 1, 1) := by decide +kernel
theorem d_X_state_1 : decode b_X_state 1 = .ok (.invokestatic 68, 3) := by decide +kernel
theorem d_X_state_4 : decode b_X_state 4 = .ok (.ifCond .ne 6, 3) := by decide +kernel
theorem d_X_state_7 : decode b_X_state 7 = .ok (.bipush (-101), 2) := by decide +kernel
theorem d_X_state_9 : decode b_X_state 9 = .ok (.ireturn, 1) := by decide +kernel
theorem d_X_state_10 : decode b_X_state 10 = .ok (.aload_n 0, 1) := by decide +kernel
theorem d_X_state_11 : decode b_X_state 11 = .ok (.getfield 46, 3) := by decide +kernel
theorem d_X_state_14 : decode b_X_state 14 = .ok (.iload_n 1, 1) := by decide +kernel
theorem d_X_state_15 : decode b_X_state 15 = .ok (.aaload, 1) := by decide +kernel
theorem d_X_state_16 : decode b_X_state 16 = .ok (.invokevirtual 118, 3) := by decide +kernel
theorem d_X_state_19 : decode b_X_state 19 = .ok (.ireturn, 1) := by decide +kernel
theorem d_Item_toldState_0 : decode b_Item_toldState 0 = .ok (.aload_n 0, 1) := by decide +kernel
theorem d_Item_toldState_1 : decode b_Item_toldState 1 = .ok (.getfield 35, 3) := by decide +kernel
theorem d_Item_toldState_4 : decode b_Item_toldState 4 = .ok (.ifCond .eq 12, 3) := by decide +kernel
theorem d_Item_toldState_7 : decode b_Item_toldState 7 = .ok (.aload_n 0, 1) := by decide +kernel
theorem d_Item_toldState_8 : decode b_Item_toldState 8 = .ok (.getfield 9, 3) := by decide +kernel
theorem d_Item_toldState_11 : decode b_Item_toldState 11 = .ok (.sipush 200, 3) := by decide +kernel
theorem d_Item_toldState_14 : decode b_Item_toldState 14 = .ok (.iadd, 1) := by decide +kernel
theorem d_Item_toldState_15 : decode b_Item_toldState 15 = .ok (.ireturn, 1) := by decide +kernel
theorem d_Item_toldState_16 : decode b_Item_toldState 16 = .ok (.aload_n 0, 1) := by decide +kernel
theorem d_Item_toldState_17 : decode b_Item_toldState 17 = .ok (.getfield 31, 3) := by decide +kernel
theorem d_Item_toldState_20 : decode b_Item_toldState 20 = .ok (.ifCond .eq 13, 3) := by decide +kernel
theorem d_Item_toldState_23 : decode b_Item_toldState 23 = .ok (.aload_n 0, 1) := by decide +kernel
theorem d_Item_toldState_24 : decode b_Item_toldState 24 = .ok (.getfield 9, 3) := by decide +kernel
theorem d_Item_toldState_27 : decode b_Item_toldState 27 = .ok (.bipush 100, 2) := by decide +kernel
theorem d_Item_toldState_29 : decode b_Item_toldState 29 = .ok (.iadd, 1) := by decide +kernel
theorem d_Item_toldState_30 : decode b_Item_toldState 30 = .ok (.goto 7, 3) := by decide +kernel
theorem d_Item_toldState_33 : decode b_Item_toldState 33 = .ok (.aload_n 0, 1) := by decide +kernel
theorem d_Item_toldState_34 : decode b_Item_toldState 34 = .ok (.getfield 9, 3) := by decide +kernel
theorem d_Item_toldState_37 : decode b_Item_toldState 37 = .ok (.ireturn, 1) := by decide +kernel
theorem d_X_holiday_0 : decode b_X_holiday 0 = .ok (.lload_n 1, 1) := by decide +kernel
theorem d_X_holiday_1 : decode b_X_holiday 1 = .ok (.lconst 0, 1) := by decide +kernel
theorem d_X_holiday_2 : decode b_X_holiday 2 = .ok (.lcmp, 1) := by decide +kernel
theorem d_X_holiday_3 : decode b_X_holiday 3 = .ok (.ifCond .lt 11, 3) := by decide +kernel
theorem d_X_holiday_6 : decode b_X_holiday 6 = .ok (.lload_n 1, 1) := by decide +kernel
theorem d_X_holiday_7 : decode b_X_holiday 7 = .ok (.ldc2_w 121, 3) := by decide +kernel
theorem d_X_holiday_10 : decode b_X_holiday 10 = .ok (.lcmp, 1) := by decide +kernel
theorem d_X_holiday_11 : decode b_X_holiday 11 = .ok (.ifCond .le 6, 3) := by decide +kernel
theorem d_X_holiday_14 : decode b_X_holiday 14 = .ok (.bipush (-102), 2) := by decide +kernel
theorem d_X_holiday_16 : decode b_X_holiday 16 = .ok (.ireturn, 1) := by decide +kernel
theorem d_X_holiday_17 : decode b_X_holiday 17 = .ok (.aload_n 0, 1) := by decide +kernel
theorem d_X_holiday_18 : decode b_X_holiday 18 = .ok (.getfield 19, 3) := by decide +kernel
theorem d_X_holiday_21 : decode b_X_holiday 21 = .ok (.lload_n 1, 1) := by decide +kernel
theorem d_X_holiday_22 : decode b_X_holiday 22 = .ok (.invokevirtual 123, 3) := by decide +kernel
theorem d_X_holiday_25 : decode b_X_holiday 25 = .ok (.ireturn, 1) := by decide +kernel
theorem d_Holi_addDay_0 : decode b_Holi_addDay 0 = .ok (.aload_n 0, 1) := by decide +kernel
theorem d_Holi_addDay_1 : decode b_Holi_addDay 1 = .ok (.lload_n 1, 1) := by decide +kernel
theorem d_Holi_addDay_2 : decode b_Holi_addDay 2 = .ok (.invokevirtual 19, 3) := by decide +kernel
theorem d_Holi_addDay_5 : decode b_Holi_addDay 5 = .ok (.ifCond .eq 5, 3) := by decide +kernel
theorem d_Holi_addDay_8 : decode b_Holi_addDay 8 = .ok (.iconst 0, 1) := by decide +kernel
theorem d_Holi_addDay_9 : decode b_Holi_addDay 9 = .ok (.ireturn, 1) := by decide +kernel
theorem d_Holi_addDay_10 : decode b_Holi_addDay 10 = .ok (.aload_n 0, 1) := by decide +kernel
theorem d_Holi_addDay_11 : decode b_Holi_addDay 11 = .ok (.getfield 15, 3) := by decide +kernel
theorem d_Holi_addDay_14 : decode b_Holi_addDay 14 = .ok (.bipush 100, 2) := by decide +kernel
theorem d_Holi_addDay_16 : decode b_Holi_addDay 16 = .ok (.if_icmp .lt 6, 3) := by decide +kernel
theorem d_Holi_addDay_19 : decode b_Holi_addDay 19 = .ok (.bipush (-104), 2) := by decide +kernel
theorem d_Holi_addDay_21 : decode b_Holi_addDay 21 = .ok (.ireturn, 1) := by decide +kernel
theorem d_Holi_addDay_22 : decode b_Holi_addDay 22 = .ok (.aload_n 0, 1) := by decide +kernel
theorem d_Holi_addDay_23 : decode b_Holi_addDay 23 = .ok (.getfield 15, 3) := by decide +kernel
theorem d_Holi_addDay_26 : decode b_Holi_addDay 26 = .ok (.istore_n 3, 1) := by decide +kernel
theorem d_Holi_addDay_27 : decode b_Holi_addDay 27 = .ok (.iload_n 3, 1) := by decide +kernel
theorem d_Holi_addDay_28 : decode b_Holi_addDay 28 = .ok (.ifCond .le 36, 3) := by decide +kernel
theorem d_Holi_addDay_31 : decode b_Holi_addDay 31 = .ok (.aload_n 0, 1) := by decide +kernel
theorem d_Holi_addDay_32 : decode b_Holi_addDay 32 = .ok (.getfield 9, 3) := by decide +kernel
theorem d_Holi_addDay_35 : decode b_Holi_addDay 35 = .ok (.iload_n 3, 1) := by decide +kernel
theorem d_Holi_addDay_36 : decode b_Holi_addDay 36 = .ok (.iconst 1, 1) := by decide +kernel
theorem d_Holi_addDay_37 : decode b_Holi_addDay 37 = .ok (.isub, 1) := by decide +kernel
theorem d_Holi_addDay_38 : decode b_Holi_addDay 38 = .ok (.laload, 1) := by decide +kernel
theorem d_Holi_addDay_39 : decode b_Holi_addDay 39 = .ok (.lload_n 1, 1) := by decide +kernel
theorem d_Holi_addDay_40 : decode b_Holi_addDay 40 = .ok (.lcmp, 1) := by decide +kernel
theorem d_Holi_addDay_41 : decode b_Holi_addDay 41 = .ok (.ifCond .le 23, 3) := by decide +kernel
theorem d_Holi_addDay_44 : decode b_Holi_addDay 44 = .ok (.aload_n 0, 1) := by decide +kernel
theorem d_Holi_addDay_45 : decode b_Holi_addDay 45 = .ok (.getfield 9, 3) := by decide +kernel
theorem d_Holi_addDay_48 : decode b_Holi_addDay 48 = .ok (.iload_n 3, 1) := by decide +kernel
theorem d_Holi_addDay_49 : decode b_Holi_addDay 49 = .ok (.aload_n 0, 1) := by decide +kernel
theorem d_Holi_addDay_50 : decode b_Holi_addDay 50 = .ok (.getfield 9, 3) := by decide +kernel
theorem d_Holi_addDay_53 : decode b_Holi_addDay 53 = .ok (.iload_n 3, 1) := by decide +kernel
theorem d_Holi_addDay_54 : decode b_Holi_addDay 54 = .ok (.iconst 1, 1) := by decide +kernel
theorem d_Holi_addDay_55 : decode b_Holi_addDay 55 = .ok (.isub, 1) := by decide +kernel
theorem d_Holi_addDay_56 : decode b_Holi_addDay 56 = .ok (.laload, 1) := by decide +kernel
theorem d_Holi_addDay_57 : decode b_Holi_addDay 57 = .ok (.lastore, 1) := by decide +kernel
theorem d_Holi_addDay_58 : decode b_Holi_addDay 58 = .ok (.iinc 3 (-1), 3) := by decide +kernel
theorem d_Holi_addDay_61 : decode b_Holi_addDay 61 = .ok (.goto (-34), 3) := by decide +kernel
theorem d_Holi_addDay_64 : decode b_Holi_addDay 64 = .ok (.aload_n 0, 1) := by decide +kernel
theorem d_Holi_addDay_65 : decode b_Holi_addDay 65 = .ok (.getfield 9, 3) := by decide +kernel
theorem d_Holi_addDay_68 : decode b_Holi_addDay 68 = .ok (.iload_n 3, 1) := by decide +kernel
theorem d_Holi_addDay_69 : decode b_Holi_addDay 69 = .ok (.lload_n 1, 1) := by decide +kernel
theorem d_Holi_addDay_70 : decode b_Holi_addDay 70 = .ok (.lastore, 1) := by decide +kernel
theorem d_Holi_addDay_71 : decode b_Holi_addDay 71 = .ok (.aload_n 0, 1) := by decide +kernel
theorem d_Holi_addDay_72 : decode b_Holi_addDay 72 = .ok (.dup, 1) := by decide +kernel
theorem d_Holi_addDay_73 : decode b_Holi_addDay 73 = .ok (.getfield 15, 3) := by decide +kernel
theorem d_Holi_addDay_76 : decode b_Holi_addDay 76 = .ok (.iconst 1, 1) := by decide +kernel
theorem d_Holi_addDay_77 : decode b_Holi_addDay 77 = .ok (.iadd, 1) := by decide +kernel
theorem d_Holi_addDay_78 : decode b_Holi_addDay 78 = .ok (.putfield 15, 3) := by decide +kernel
theorem d_Holi_addDay_81 : decode b_Holi_addDay 81 = .ok (.iconst 1, 1) := by decide +kernel
theorem d_Holi_addDay_82 : decode b_Holi_addDay 82 = .ok (.ireturn, 1) := by decide +kernel
theorem d_Holi_holds_0 : decode b_Holi_holds 0 = .ok (.iconst 0, 1) := by decide +kernel
theorem d_Holi_holds_1 : decode b_Holi_holds 1 = .ok (.istore_n 3, 1) := by decide +kernel
theorem d_Holi_holds_2 : decode b_Holi_holds 2 = .ok (.iload_n 3, 1) := by decide +kernel
theorem d_Holi_holds_3 : decode b_Holi_holds 3 = .ok (.aload_n 0, 1) := by decide +kernel
theorem d_Holi_holds_4 : decode b_Holi_holds 4 = .ok (.getfield 15, 3) := by decide +kernel
theorem d_Holi_holds_7 : decode b_Holi_holds 7 = .ok (.if_icmp .ge 22, 3) := by decide +kernel
theorem d_Holi_holds_10 : decode b_Holi_holds 10 = .ok (.aload_n 0, 1) := by decide +kernel
theorem d_Holi_holds_11 : decode b_Holi_holds 11 = .ok (.getfield 9, 3) := by decide +kernel
theorem d_Holi_holds_14 : decode b_Holi_holds 14 = .ok (.iload_n 3, 1) := by decide +kernel
theorem d_Holi_holds_15 : decode b_Holi_holds 15 = .ok (.laload, 1) := by decide +kernel
theorem d_Holi_holds_16 : decode b_Holi_holds 16 = .ok (.lload_n 1, 1) := by decide +kernel
theorem d_Holi_holds_17 : decode b_Holi_holds 17 = .ok (.lcmp, 1) := by decide +kernel
theorem d_Holi_holds_18 : decode b_Holi_holds 18 = .ok (.ifCond .ne 5, 3) := by decide +kernel
theorem d_Holi_holds_21 : decode b_Holi_holds 21 = .ok (.iconst 1, 1) := by decide +kernel
theorem d_Holi_holds_22 : decode b_Holi_holds 22 = .ok (.ireturn, 1) := by decide +kernel
theorem d_Holi_holds_23 : decode b_Holi_holds 23 = .ok (.iinc 3 1, 3) := by decide +kernel
theorem d_Holi_holds_26 : decode b_Holi_holds 26 = .ok (.goto (-24), 3) := by decide +kernel
theorem d_Holi_holds_29 : decode b_Holi_holds 29 = .ok (.iconst 0, 1) := by decide +kernel
theorem d_Holi_holds_30 : decode b_Holi_holds 30 = .ok (.ireturn, 1) := by decide +kernel
theorem d_X_percentile_0 : decode b_X_percentile 0 = .ok (.iload_n 1, 1) := by decide +kernel
theorem d_X_percentile_1 : decode b_X_percentile 1 = .ok (.invokestatic 59, 3) := by decide +kernel
theorem d_X_percentile_4 : decode b_X_percentile 4 = .ok (.ifCond .eq 14, 3) := by decide +kernel
theorem d_X_percentile_7 : decode b_X_percentile 7 = .ok (.iload_n 2, 1) := by decide +kernel
theorem d_X_percentile_8 : decode b_X_percentile 8 = .ok (.ifCond .lt 10, 3) := by decide +kernel
theorem d_X_percentile_11 : decode b_X_percentile 11 = .ok (.iload_n 2, 1) := by decide +kernel
theorem d_X_percentile_12 : decode b_X_percentile 12 = .ok (.sipush 1000, 3) := by decide +kernel
theorem d_X_percentile_15 : decode b_X_percentile 15 = .ok (.if_icmp .le 7, 3) := by decide +kernel
theorem d_X_percentile_18 : decode b_X_percentile 18 = .ok (.ldc2_w 128, 3) := by decide +kernel
theorem d_X_percentile_21 : decode b_X_percentile 21 = .ok (.lreturn, 1) := by decide +kernel
theorem d_X_percentile_22 : decode b_X_percentile 22 = .ok (.aload_n 0, 1) := by decide +kernel
theorem d_X_percentile_23 : decode b_X_percentile 23 = .ok (.getfield 40, 3) := by decide +kernel
theorem d_X_percentile_26 : decode b_X_percentile 26 = .ok (.iload_n 1, 1) := by decide +kernel
theorem d_X_percentile_27 : decode b_X_percentile 27 = .ok (.invokevirtual 147, 3) := by decide +kernel
theorem d_X_percentile_30 : decode b_X_percentile 30 = .ok (.istore_n 3, 1) := by decide +kernel
theorem d_X_percentile_31 : decode b_X_percentile 31 = .ok (.iload_n 3, 1) := by decide +kernel
theorem d_X_percentile_32 : decode b_X_percentile 32 = .ok (.iload_n 2, 1) := by decide +kernel
theorem d_X_percentile_33 : decode b_X_percentile 33 = .ok (.imul, 1) := by decide +kernel
theorem d_X_percentile_34 : decode b_X_percentile 34 = .ok (.sipush 1000, 3) := by decide +kernel
theorem d_X_percentile_37 : decode b_X_percentile 37 = .ok (.iadd, 1) := by decide +kernel
theorem d_X_percentile_38 : decode b_X_percentile 38 = .ok (.iconst 1, 1) := by decide +kernel
theorem d_X_percentile_39 : decode b_X_percentile 39 = .ok (.isub, 1) := by decide +kernel
theorem d_X_percentile_40 : decode b_X_percentile 40 = .ok (.sipush 1000, 3) := by decide +kernel
theorem d_X_percentile_43 : decode b_X_percentile 43 = .ok (.idiv, 1) := by decide +kernel
theorem d_X_percentile_44 : decode b_X_percentile 44 = .ok (.istore 4, 2) := by decide +kernel
theorem d_X_percentile_46 : decode b_X_percentile 46 = .ok (.aload_n 0, 1) := by decide +kernel
theorem d_X_percentile_47 : decode b_X_percentile 47 = .ok (.getfield 40, 3) := by decide +kernel
theorem d_X_percentile_50 : decode b_X_percentile 50 = .ok (.iload_n 1, 1) := by decide +kernel
theorem d_X_percentile_51 : decode b_X_percentile 51 = .ok (.iload 4, 2) := by decide +kernel
theorem d_X_percentile_53 : decode b_X_percentile 53 = .ok (.iconst 1, 1) := by decide +kernel
theorem d_X_percentile_54 : decode b_X_percentile 54 = .ok (.invokestatic 150, 3) := by decide +kernel
theorem d_X_percentile_57 : decode b_X_percentile 57 = .ok (.invokevirtual 155, 3) := by decide +kernel
theorem d_X_percentile_60 : decode b_X_percentile 60 = .ok (.i2l, 1) := by decide +kernel
theorem d_X_percentile_61 : decode b_X_percentile 61 = .ok (.lreturn, 1) := by decide +kernel
theorem d_Deliv_countOf_0 : decode b_Deliv_countOf 0 = .ok (.iconst 0, 1) := by decide +kernel
theorem d_Deliv_countOf_1 : decode b_Deliv_countOf 1 = .ok (.istore_n 2, 1) := by decide +kernel
theorem d_Deliv_countOf_2 : decode b_Deliv_countOf 2 = .ok (.iconst 0, 1) := by decide +kernel
theorem d_Deliv_countOf_3 : decode b_Deliv_countOf 3 = .ok (.istore_n 3, 1) := by decide +kernel
theorem d_Deliv_countOf_4 : decode b_Deliv_countOf 4 = .ok (.iload_n 3, 1) := by decide +kernel
theorem d_Deliv_countOf_5 : decode b_Deliv_countOf 5 = .ok (.aload_n 0, 1) := by decide +kernel
theorem d_Deliv_countOf_6 : decode b_Deliv_countOf 6 = .ok (.getfield 18, 3) := by decide +kernel
theorem d_Deliv_countOf_9 : decode b_Deliv_countOf 9 = .ok (.if_icmp .ge 22, 3) := by decide +kernel
theorem d_Deliv_countOf_12 : decode b_Deliv_countOf 12 = .ok (.aload_n 0, 1) := by decide +kernel
theorem d_Deliv_countOf_13 : decode b_Deliv_countOf 13 = .ok (.getfield 15, 3) := by decide +kernel
theorem d_Deliv_countOf_16 : decode b_Deliv_countOf 16 = .ok (.iload_n 3, 1) := by decide +kernel
theorem d_Deliv_countOf_17 : decode b_Deliv_countOf 17 = .ok (.iaload, 1) := by decide +kernel
theorem d_Deliv_countOf_18 : decode b_Deliv_countOf 18 = .ok (.iload_n 1, 1) := by decide +kernel
theorem d_Deliv_countOf_19 : decode b_Deliv_countOf 19 = .ok (.if_icmp .ne 6, 3) := by decide +kernel
theorem d_Deliv_countOf_22 : decode b_Deliv_countOf 22 = .ok (.iinc 2 1, 3) := by decide +kernel
theorem d_Deliv_countOf_25 : decode b_Deliv_countOf 25 = .ok (.iinc 3 1, 3) := by decide +kernel
theorem d_Deliv_countOf_28 : decode b_Deliv_countOf 28 = .ok (.goto (-24), 3) := by decide +kernel
theorem d_Deliv_countOf_31 : decode b_Deliv_countOf 31 = .ok (.iload_n 2, 1) := by decide +kernel
theorem d_Deliv_countOf_32 : decode b_Deliv_countOf 32 = .ok (.ireturn, 1) := by decide +kernel
theorem d_Deliv_daysAtRank_0 : decode b_Deliv_daysAtRank 0 = .ok (.iconst 0, 1) := by decide +kernel
theorem d_Deliv_daysAtRank_1 : decode b_Deliv_daysAtRank 1 = .ok (.istore_n 3, 1) := by decide +kernel
theorem d_Deliv_daysAtRank_2 : decode b_Deliv_daysAtRank 2 = .ok (.iconst 0, 1) := by decide +kernel
theorem d_Deliv_daysAtRank_3 : decode b_Deliv_daysAtRank 3 = .ok (.istore 4, 2) := by decide +kernel
theorem d_Deliv_daysAtRank_5 : decode b_Deliv_daysAtRank 5 = .ok (.iload 4, 2) := by decide +kernel
theorem d_Deliv_daysAtRank_7 : decode b_Deliv_daysAtRank 7 = .ok (.aload_n 0, 1) := by decide +kernel
theorem d_Deliv_daysAtRank_8 : decode b_Deliv_daysAtRank 8 = .ok (.getfield 18, 3) := by decide +kernel
theorem d_Deliv_daysAtRank_11 : decode b_Deliv_daysAtRank 11 = .ok (.if_icmp .ge 36, 3) := by decide +kernel
theorem d_Deliv_daysAtRank_14 : decode b_Deliv_daysAtRank 14 = .ok (.aload_n 0, 1) := by decide +kernel
theorem d_Deliv_daysAtRank_15 : decode b_Deliv_daysAtRank 15 = .ok (.getfield 15, 3) := by decide +kernel
theorem d_Deliv_daysAtRank_18 : decode b_Deliv_daysAtRank 18 = .ok (.iload 4, 2) := by decide +kernel
theorem d_Deliv_daysAtRank_20 : decode b_Deliv_daysAtRank 20 = .ok (.iaload, 1) := by decide +kernel
theorem d_Deliv_daysAtRank_21 : decode b_Deliv_daysAtRank 21 = .ok (.iload_n 1, 1) := by decide +kernel
theorem d_Deliv_daysAtRank_22 : decode b_Deliv_daysAtRank 22 = .ok (.if_icmp .ne 19, 3) := by decide +kernel
theorem d_Deliv_daysAtRank_25 : decode b_Deliv_daysAtRank 25 = .ok (.iinc 3 1, 3) := by decide +kernel
theorem d_Deliv_daysAtRank_28 : decode b_Deliv_daysAtRank 28 = .ok (.iload_n 3, 1) := by decide +kernel
theorem d_Deliv_daysAtRank_29 : decode b_Deliv_daysAtRank 29 = .ok (.iload_n 2, 1) := by decide +kernel
theorem d_Deliv_daysAtRank_30 : decode b_Deliv_daysAtRank 30 = .ok (.if_icmp .ne 11, 3) := by decide +kernel
theorem d_Deliv_daysAtRank_33 : decode b_Deliv_daysAtRank 33 = .ok (.aload_n 0, 1) := by decide +kernel
theorem d_Deliv_daysAtRank_34 : decode b_Deliv_daysAtRank 34 = .ok (.getfield 9, 3) := by decide +kernel
theorem d_Deliv_daysAtRank_37 : decode b_Deliv_daysAtRank 37 = .ok (.iload 4, 2) := by decide +kernel
theorem d_Deliv_daysAtRank_39 : decode b_Deliv_daysAtRank 39 = .ok (.iaload, 1) := by decide +kernel
theorem d_Deliv_daysAtRank_40 : decode b_Deliv_daysAtRank 40 = .ok (.ireturn, 1) := by decide +kernel
theorem d_Deliv_daysAtRank_41 : decode b_Deliv_daysAtRank 41 = .ok (.iinc 4 1, 3) := by decide +kernel
theorem d_Deliv_daysAtRank_44 : decode b_Deliv_daysAtRank 44 = .ok (.goto (-39), 3) := by decide +kernel
theorem d_Deliv_daysAtRank_47 : decode b_Deliv_daysAtRank 47 = .ok (.iconst (-1), 1) := by decide +kernel
theorem d_Deliv_daysAtRank_48 : decode b_Deliv_daysAtRank 48 = .ok (.ireturn, 1) := by decide +kernel
theorem d_X_found_0 : decode b_X_found 0 = .ok (.iload_n 1, 1) := by decide +kernel
theorem d_X_found_1 : decode b_X_found 1 = .ok (.invokestatic 68, 3) := by decide +kernel
theorem d_X_found_4 : decode b_X_found 4 = .ok (.ifCond .ne 6, 3) := by decide +kernel
theorem d_X_found_7 : decode b_X_found 7 = .ok (.bipush (-101), 2) := by decide +kernel
theorem d_X_found_9 : decode b_X_found 9 = .ok (.ireturn, 1) := by decide +kernel
theorem d_X_found_10 : decode b_X_found 10 = .ok (.aload_n 0, 1) := by decide +kernel
theorem d_X_found_11 : decode b_X_found 11 = .ok (.getfield 46, 3) := by decide +kernel
theorem d_X_found_14 : decode b_X_found 14 = .ok (.iload_n 1, 1) := by decide +kernel
theorem d_X_found_15 : decode b_X_found 15 = .ok (.aaload, 1) := by decide +kernel
theorem d_X_found_16 : decode b_X_found 16 = .ok (.astore 4, 2) := by decide +kernel
theorem d_X_found_18 : decode b_X_found 18 = .ok (.aload 4, 2) := by decide +kernel
theorem d_X_found_20 : decode b_X_found 20 = .ok (.lload_n 2, 1) := by decide +kernel
theorem d_X_found_21 : decode b_X_found 21 = .ok (.invokevirtual 71, 3) := by decide +kernel
theorem d_X_found_24 : decode b_X_found 24 = .ok (.ifCond .ne 6, 3) := by decide +kernel
theorem d_X_found_27 : decode b_X_found 27 = .ok (.bipush (-102), 2) := by decide +kernel
theorem d_X_found_29 : decode b_X_found 29 = .ok (.ireturn, 1) := by decide +kernel
theorem d_X_found_30 : decode b_X_found 30 = .ok (.aload 4, 2) := by decide +kernel
theorem d_X_found_32 : decode b_X_found 32 = .ok (.getfield 158, 3) := by decide +kernel
theorem d_X_found_35 : decode b_X_found 35 = .ok (.ifCond .ne 5, 3) := by decide +kernel
theorem d_X_found_38 : decode b_X_found 38 = .ok (.iconst 0, 1) := by decide +kernel
theorem d_X_found_39 : decode b_X_found 39 = .ok (.ireturn, 1) := by decide +kernel
theorem d_X_found_40 : decode b_X_found 40 = .ok (.aload 4, 2) := by decide +kernel
theorem d_X_found_42 : decode b_X_found 42 = .ok (.invokevirtual 75, 3) := by decide +kernel
theorem d_X_found_45 : decode b_X_found 45 = .ok (.aload 4, 2) := by decide +kernel
theorem d_X_found_47 : decode b_X_found 47 = .ok (.lload_n 2, 1) := by decide +kernel
theorem d_X_found_48 : decode b_X_found 48 = .ok (.putfield 162, 3) := by decide +kernel
theorem d_X_found_51 : decode b_X_found 51 = .ok (.iconst 1, 1) := by decide +kernel
theorem d_X_found_52 : decode b_X_found 52 = .ok (.ireturn, 1) := by decide +kernel
theorem d_X_cluster_0 : decode b_X_cluster 0 = .ok (.aload_n 0, 1) := by decide +kernel
theorem d_X_cluster_1 : decode b_X_cluster 1 = .ok (.getfield 33, 3) := by decide +kernel
theorem d_X_cluster_4 : decode b_X_cluster 4 = .ok (.iload_n 1, 1) := by decide +kernel
theorem d_X_cluster_5 : decode b_X_cluster 5 = .ok (.invokevirtual 165, 3) := by decide +kernel
theorem d_X_cluster_8 : decode b_X_cluster 8 = .ok (.istore_n 3, 1) := by decide +kernel
theorem d_X_cluster_9 : decode b_X_cluster 9 = .ok (.iload_n 3, 1) := by decide +kernel
theorem d_X_cluster_10 : decode b_X_cluster 10 = .ok (.iconst (-1), 1) := by decide +kernel
theorem d_X_cluster_11 : decode b_X_cluster 11 = .ok (.if_icmp .ne 5, 3) := by decide +kernel
theorem d_X_cluster_14 : decode b_X_cluster 14 = .ok (.iconst (-1), 1) := by decide +kernel
theorem d_X_cluster_15 : decode b_X_cluster 15 = .ok (.ireturn, 1) := by decide +kernel
theorem d_X_cluster_16 : decode b_X_cluster 16 = .ok (.iload_n 2, 1) := by decide +kernel
theorem d_X_cluster_17 : decode b_X_cluster 17 = .ok (.tableswitch 47 0 2 #[27, 29, 38], 27) := by decide +kernel
theorem d_X_cluster_44 : decode b_X_cluster 44 = .ok (.iload_n 3, 1) := by decide +kernel
theorem d_X_cluster_45 : decode b_X_cluster 45 = .ok (.ireturn, 1) := by decide +kernel
theorem d_X_cluster_46 : decode b_X_cluster 46 = .ok (.aload_n 0, 1) := by decide +kernel
theorem d_X_cluster_47 : decode b_X_cluster 47 = .ok (.getfield 33, 3) := by decide +kernel
theorem d_X_cluster_50 : decode b_X_cluster 50 = .ok (.iload_n 3, 1) := by decide +kernel
theorem d_X_cluster_51 : decode b_X_cluster 51 = .ok (.invokevirtual 130, 3) := by decide +kernel
theorem d_X_cluster_54 : decode b_X_cluster 54 = .ok (.ireturn, 1) := by decide +kernel
theorem d_X_cluster_55 : decode b_X_cluster 55 = .ok (.aload_n 0, 1) := by decide +kernel
theorem d_X_cluster_56 : decode b_X_cluster 56 = .ok (.getfield 33, 3) := by decide +kernel
theorem d_X_cluster_59 : decode b_X_cluster 59 = .ok (.iload_n 3, 1) := by decide +kernel
theorem d_X_cluster_60 : decode b_X_cluster 60 = .ok (.invokevirtual 134, 3) := by decide +kernel
theorem d_X_cluster_63 : decode b_X_cluster 63 = .ok (.ireturn, 1) := by decide +kernel
theorem d_X_cluster_64 : decode b_X_cluster 64 = .ok (.iconst (-1), 1) := by decide +kernel
theorem d_X_cluster_65 : decode b_X_cluster 65 = .ok (.ireturn, 1) := by decide +kernel
theorem d_Cnts_clusterPlace_0 : decode b_Cnts_clusterPlace 0 = .ok (.iconst 0, 1) := by decide +kernel
theorem d_Cnts_clusterPlace_1 : decode b_Cnts_clusterPlace 1 = .ok (.istore_n 2, 1) := by decide +kernel
theorem d_Cnts_clusterPlace_2 : decode b_Cnts_clusterPlace 2 = .ok (.iload_n 2, 1) := by decide +kernel
theorem d_Cnts_clusterPlace_3 : decode b_Cnts_clusterPlace 3 = .ok (.bipush 50, 2) := by decide +kernel
theorem d_Cnts_clusterPlace_5 : decode b_Cnts_clusterPlace 5 = .ok (.if_icmp .ge 28, 3) := by decide +kernel
theorem d_Cnts_clusterPlace_8 : decode b_Cnts_clusterPlace 8 = .ok (.aload_n 0, 1) := by decide +kernel
theorem d_Cnts_clusterPlace_9 : decode b_Cnts_clusterPlace 9 = .ok (.iload_n 2, 1) := by decide +kernel
theorem d_Cnts_clusterPlace_10 : decode b_Cnts_clusterPlace 10 = .ok (.invokevirtual 26, 3) := by decide +kernel
theorem d_Cnts_clusterPlace_13 : decode b_Cnts_clusterPlace 13 = .ok (.ifCond .eq 14, 3) := by decide +kernel
theorem d_Cnts_clusterPlace_16 : decode b_Cnts_clusterPlace 16 = .ok (.aload_n 0, 1) := by decide +kernel
theorem d_Cnts_clusterPlace_17 : decode b_Cnts_clusterPlace 17 = .ok (.iload_n 2, 1) := by decide +kernel
theorem d_Cnts_clusterPlace_18 : decode b_Cnts_clusterPlace 18 = .ok (.invokevirtual 29, 3) := by decide +kernel
theorem d_Cnts_clusterPlace_21 : decode b_Cnts_clusterPlace 21 = .ok (.iload_n 1, 1) := by decide +kernel
theorem d_Cnts_clusterPlace_22 : decode b_Cnts_clusterPlace 22 = .ok (.if_icmp .ne 5, 3) := by decide +kernel
theorem d_Cnts_clusterPlace_25 : decode b_Cnts_clusterPlace 25 = .ok (.iload_n 2, 1) := by decide +kernel
theorem d_Cnts_clusterPlace_26 : decode b_Cnts_clusterPlace 26 = .ok (.ireturn, 1) := by decide +kernel
theorem d_Cnts_clusterPlace_27 : decode b_Cnts_clusterPlace 27 = .ok (.iinc 2 1, 3) := by decide +kernel
theorem d_Cnts_clusterPlace_30 : decode b_Cnts_clusterPlace 30 = .ok (.goto (-28), 3) := by decide +kernel
theorem d_Cnts_clusterPlace_33 : decode b_Cnts_clusterPlace 33 = .ok (.iconst (-1), 1) := by decide +kernel
theorem d_Cnts_clusterPlace_34 : decode b_Cnts_clusterPlace 34 = .ok (.ireturn, 1) := by decide +kernel
theorem d_Cnts_isCluster_0 : decode b_Cnts_isCluster 0 = .ok (.aload_n 0, 1) := by decide +kernel
theorem d_Cnts_isCluster_1 : decode b_Cnts_isCluster 1 = .ok (.iload_n 1, 1) := by decide +kernel
theorem d_Cnts_isCluster_2 : decode b_Cnts_isCluster 2 = .ok (.invokevirtual 22, 3) := by decide +kernel
theorem d_Cnts_isCluster_5 : decode b_Cnts_isCluster 5 = .ok (.iconst 3, 1) := by decide +kernel
theorem d_Cnts_isCluster_6 : decode b_Cnts_isCluster 6 = .ok (.if_icmp .lt 7, 3) := by decide +kernel
theorem d_Cnts_isCluster_9 : decode b_Cnts_isCluster 9 = .ok (.iconst 1, 1) := by decide +kernel
theorem d_Cnts_isCluster_10 : decode b_Cnts_isCluster 10 = .ok (.goto 4, 3) := by decide +kernel
theorem d_Cnts_isCluster_13 : decode b_Cnts_isCluster 13 = .ok (.iconst 0, 1) := by decide +kernel
theorem d_Cnts_isCluster_14 : decode b_Cnts_isCluster 14 = .ok (.ireturn, 1) := by decide +kernel
theorem d_Cnts_lateAt_0 : decode b_Cnts_lateAt 0 = .ok (.iload_n 1, 1) := by decide +kernel
theorem d_Cnts_lateAt_1 : decode b_Cnts_lateAt 1 = .ok (.invokestatic 18, 3) := by decide +kernel
theorem d_Cnts_lateAt_4 : decode b_Cnts_lateAt 4 = .ok (.ifCond .eq 12, 3) := by decide +kernel
theorem d_Cnts_lateAt_7 : decode b_Cnts_lateAt 7 = .ok (.aload_n 0, 1) := by decide +kernel
theorem d_Cnts_lateAt_8 : decode b_Cnts_lateAt 8 = .ok (.getfield 15, 3) := by decide +kernel
theorem d_Cnts_lateAt_11 : decode b_Cnts_lateAt 11 = .ok (.iload_n 1, 1) := by decide +kernel
theorem d_Cnts_lateAt_12 : decode b_Cnts_lateAt 12 = .ok (.iaload, 1) := by decide +kernel
theorem d_Cnts_lateAt_13 : decode b_Cnts_lateAt 13 = .ok (.goto 4, 3) := by decide +kernel
theorem d_Cnts_lateAt_16 : decode b_Cnts_lateAt 16 = .ok (.iconst 0, 1) := by decide +kernel
theorem d_Cnts_lateAt_17 : decode b_Cnts_lateAt 17 = .ok (.ireturn, 1) := by decide +kernel
theorem d_Cnts_clustersBefore_0 : decode b_Cnts_clustersBefore 0 = .ok (.iconst 0, 1) := by decide +kernel
theorem d_Cnts_clustersBefore_1 : decode b_Cnts_clustersBefore 1 = .ok (.istore_n 2, 1) := by decide +kernel
theorem d_Cnts_clustersBefore_2 : decode b_Cnts_clustersBefore 2 = .ok (.iconst 0, 1) := by decide +kernel
theorem d_Cnts_clustersBefore_3 : decode b_Cnts_clustersBefore 3 = .ok (.istore_n 3, 1) := by decide +kernel
theorem d_Cnts_clustersBefore_4 : decode b_Cnts_clustersBefore 4 = .ok (.iload_n 3, 1) := by decide +kernel
theorem d_Cnts_clustersBefore_5 : decode b_Cnts_clustersBefore 5 = .ok (.bipush 50, 2) := by decide +kernel
theorem d_Cnts_clustersBefore_7 : decode b_Cnts_clustersBefore 7 = .ok (.if_icmp .ge 29, 3) := by decide +kernel
theorem d_Cnts_clustersBefore_10 : decode b_Cnts_clustersBefore 10 = .ok (.aload_n 0, 1) := by decide +kernel
theorem d_Cnts_clustersBefore_11 : decode b_Cnts_clustersBefore 11 = .ok (.iload_n 3, 1) := by decide +kernel
theorem d_Cnts_clustersBefore_12 : decode b_Cnts_clustersBefore 12 = .ok (.invokevirtual 26, 3) := by decide +kernel
theorem d_Cnts_clustersBefore_15 : decode b_Cnts_clustersBefore 15 = .ok (.ifCond .eq 15, 3) := by decide +kernel
theorem d_Cnts_clustersBefore_18 : decode b_Cnts_clustersBefore 18 = .ok (.aload_n 0, 1) := by decide +kernel
theorem d_Cnts_clustersBefore_19 : decode b_Cnts_clustersBefore 19 = .ok (.iload_n 3, 1) := by decide +kernel
theorem d_Cnts_clustersBefore_20 : decode b_Cnts_clustersBefore 20 = .ok (.iload_n 1, 1) := by decide +kernel
theorem d_Cnts_clustersBefore_21 : decode b_Cnts_clustersBefore 21 = .ok (.invokevirtual 32, 3) := by decide +kernel
theorem d_Cnts_clustersBefore_24 : decode b_Cnts_clustersBefore 24 = .ok (.ifCond .eq 6, 3) := by decide +kernel
theorem d_Cnts_clustersBefore_27 : decode b_Cnts_clustersBefore 27 = .ok (.iinc 2 1, 3) := by decide +kernel
theorem d_Cnts_clustersBefore_30 : decode b_Cnts_clustersBefore 30 = .ok (.iinc 3 1, 3) := by decide +kernel
theorem d_Cnts_clustersBefore_33 : decode b_Cnts_clustersBefore 33 = .ok (.goto (-29), 3) := by decide +kernel
theorem d_Cnts_clustersBefore_36 : decode b_Cnts_clustersBefore 36 = .ok (.iload_n 2, 1) := by decide +kernel
theorem d_Cnts_clustersBefore_37 : decode b_Cnts_clustersBefore 37 = .ok (.ireturn, 1) := by decide +kernel
theorem d_Cnts_comesBefore_0 : decode b_Cnts_comesBefore 0 = .ok (.aload_n 0, 1) := by decide +kernel
theorem d_Cnts_comesBefore_1 : decode b_Cnts_comesBefore 1 = .ok (.iload_n 1, 1) := by decide +kernel
theorem d_Cnts_comesBefore_2 : decode b_Cnts_comesBefore 2 = .ok (.invokevirtual 22, 3) := by decide +kernel
theorem d_Cnts_comesBefore_5 : decode b_Cnts_comesBefore 5 = .ok (.i2l, 1) := by decide +kernel
theorem d_Cnts_comesBefore_6 : decode b_Cnts_comesBefore 6 = .ok (.aload_n 0, 1) := by decide +kernel
theorem d_Cnts_comesBefore_7 : decode b_Cnts_comesBefore 7 = .ok (.iload_n 2, 1) := by decide +kernel
theorem d_Cnts_comesBefore_8 : decode b_Cnts_comesBefore 8 = .ok (.invokevirtual 36, 3) := by decide +kernel
theorem d_Cnts_comesBefore_11 : decode b_Cnts_comesBefore 11 = .ok (.i2l, 1) := by decide +kernel
theorem d_Cnts_comesBefore_12 : decode b_Cnts_comesBefore 12 = .ok (.lmul, 1) := by decide +kernel
theorem d_Cnts_comesBefore_13 : decode b_Cnts_comesBefore 13 = .ok (.lstore_n 3, 1) := by decide +kernel
theorem d_Cnts_comesBefore_14 : decode b_Cnts_comesBefore 14 = .ok (.aload_n 0, 1) := by decide +kernel
theorem d_Cnts_comesBefore_15 : decode b_Cnts_comesBefore 15 = .ok (.iload_n 2, 1) := by decide +kernel
theorem d_Cnts_comesBefore_16 : decode b_Cnts_comesBefore 16 = .ok (.invokevirtual 22, 3) := by decide +kernel
theorem d_Cnts_comesBefore_19 : decode b_Cnts_comesBefore 19 = .ok (.i2l, 1) := by decide +kernel
theorem d_Cnts_comesBefore_20 : decode b_Cnts_comesBefore 20 = .ok (.aload_n 0, 1) := by decide +kernel
theorem d_Cnts_comesBefore_21 : decode b_Cnts_comesBefore 21 = .ok (.iload_n 1, 1) := by decide +kernel
theorem d_Cnts_comesBefore_22 : decode b_Cnts_comesBefore 22 = .ok (.invokevirtual 36, 3) := by decide +kernel
theorem d_Cnts_comesBefore_25 : decode b_Cnts_comesBefore 25 = .ok (.i2l, 1) := by decide +kernel
theorem d_Cnts_comesBefore_26 : decode b_Cnts_comesBefore 26 = .ok (.lmul, 1) := by decide +kernel
theorem d_Cnts_comesBefore_27 : decode b_Cnts_comesBefore 27 = .ok (.lstore 5, 2) := by decide +kernel
theorem d_Cnts_comesBefore_29 : decode b_Cnts_comesBefore 29 = .ok (.lload_n 3, 1) := by decide +kernel
theorem d_Cnts_comesBefore_30 : decode b_Cnts_comesBefore 30 = .ok (.lload 5, 2) := by decide +kernel
theorem d_Cnts_comesBefore_32 : decode b_Cnts_comesBefore 32 = .ok (.lcmp, 1) := by decide +kernel
theorem d_Cnts_comesBefore_33 : decode b_Cnts_comesBefore 33 = .ok (.ifCond .gt 15, 3) := by decide +kernel
theorem d_Cnts_comesBefore_36 : decode b_Cnts_comesBefore 36 = .ok (.lload_n 3, 1) := by decide +kernel
theorem d_Cnts_comesBefore_37 : decode b_Cnts_comesBefore 37 = .ok (.lload 5, 2) := by decide +kernel
theorem d_Cnts_comesBefore_39 : decode b_Cnts_comesBefore 39 = .ok (.lcmp, 1) := by decide +kernel
theorem d_Cnts_comesBefore_40 : decode b_Cnts_comesBefore 40 = .ok (.ifCond .ne 12, 3) := by decide +kernel
theorem d_Cnts_comesBefore_43 : decode b_Cnts_comesBefore 43 = .ok (.iload_n 1, 1) := by decide +kernel
theorem d_Cnts_comesBefore_44 : decode b_Cnts_comesBefore 44 = .ok (.iload_n 2, 1) := by decide +kernel
theorem d_Cnts_comesBefore_45 : decode b_Cnts_comesBefore 45 = .ok (.if_icmp .ge 7, 3) := by decide +kernel
theorem d_Cnts_comesBefore_48 : decode b_Cnts_comesBefore 48 = .ok (.iconst 1, 1) := by decide +kernel
theorem d_Cnts_comesBefore_49 : decode b_Cnts_comesBefore 49 = .ok (.goto 4, 3) := by decide +kernel
theorem d_Cnts_comesBefore_52 : decode b_Cnts_comesBefore 52 = .ok (.iconst 0, 1) := by decide +kernel
theorem d_Cnts_comesBefore_53 : decode b_Cnts_comesBefore 53 = .ok (.ireturn, 1) := by decide +kernel
theorem d_Cnts_begunAt_0 : decode b_Cnts_begunAt 0 = .ok (.iload_n 1, 1) := by decide +kernel
theorem d_Cnts_begunAt_1 : decode b_Cnts_begunAt 1 = .ok (.invokestatic 18, 3) := by decide +kernel
theorem d_Cnts_begunAt_4 : decode b_Cnts_begunAt 4 = .ok (.ifCond .eq 12, 3) := by decide +kernel
theorem d_Cnts_begunAt_7 : decode b_Cnts_begunAt 7 = .ok (.aload_n 0, 1) := by decide +kernel
theorem d_Cnts_begunAt_8 : decode b_Cnts_begunAt 8 = .ok (.getfield 9, 3) := by decide +kernel
theorem d_Cnts_begunAt_11 : decode b_Cnts_begunAt 11 = .ok (.iload_n 1, 1) := by decide +kernel
theorem d_Cnts_begunAt_12 : decode b_Cnts_begunAt 12 = .ok (.iaload, 1) := by decide +kernel
theorem d_Cnts_begunAt_13 : decode b_Cnts_begunAt 13 = .ok (.goto 4, 3) := by decide +kernel
theorem d_Cnts_begunAt_16 : decode b_Cnts_begunAt 16 = .ok (.iconst 0, 1) := by decide +kernel
theorem d_Cnts_begunAt_17 : decode b_Cnts_begunAt 17 = .ok (.ireturn, 1) := by decide +kernel
theorem d_X_failing_0 : decode b_X_failing 0 = .ok (.aload_n 0, 1) := by decide +kernel
theorem d_X_failing_1 : decode b_X_failing 1 = .ok (.getfield 10, 3) := by decide +kernel
theorem d_X_failing_4 : decode b_X_failing 4 = .ok (.iload_n 1, 1) := by decide +kernel
theorem d_X_failing_5 : decode b_X_failing 5 = .ok (.invokevirtual 168, 3) := by decide +kernel
theorem d_X_failing_8 : decode b_X_failing 8 = .ok (.ireturn, 1) := by decide +kernel
theorem d_RowL_failedRow_0 : decode b_RowL_failedRow 0 = .ok (.iload_n 1, 1) := by decide +kernel
theorem d_RowL_failedRow_1 : decode b_RowL_failedRow 1 = .ok (.ifCond .lt 14, 3) := by decide +kernel
theorem d_RowL_failedRow_4 : decode b_RowL_failedRow 4 = .ok (.iload_n 1, 1) := by decide +kernel
theorem d_RowL_failedRow_5 : decode b_RowL_failedRow 5 = .ok (.aload_n 0, 1) := by decide +kernel
theorem d_RowL_failedRow_6 : decode b_RowL_failedRow 6 = .ok (.getfield 18, 3) := by decide +kernel
theorem d_RowL_failedRow_9 : decode b_RowL_failedRow 9 = .ok (.invokevirtual 21, 3) := by decide +kernel
theorem d_RowL_failedRow_12 : decode b_RowL_failedRow 12 = .ok (.if_icmp .lt 5, 3) := by decide +kernel
theorem d_RowL_failedRow_15 : decode b_RowL_failedRow 15 = .ok (.iconst 0, 1) := by decide +kernel
theorem d_RowL_failedRow_16 : decode b_RowL_failedRow 16 = .ok (.ireturn, 1) := by decide +kernel
theorem d_RowL_failedRow_17 : decode b_RowL_failedRow 17 = .ok (.aload_n 0, 1) := by decide +kernel
theorem d_RowL_failedRow_18 : decode b_RowL_failedRow 18 = .ok (.getfield 18, 3) := by decide +kernel
theorem d_RowL_failedRow_21 : decode b_RowL_failedRow 21 = .ok (.iload_n 1, 1) := by decide +kernel
theorem d_RowL_failedRow_22 : decode b_RowL_failedRow 22 = .ok (.invokevirtual 34, 3) := by decide +kernel
theorem d_RowL_failedRow_25 : decode b_RowL_failedRow 25 = .ok (.checkcast 25, 3) := by decide +kernel
theorem d_RowL_failedRow_28 : decode b_RowL_failedRow 28 = .ok (.getfield 46, 3) := by decide +kernel
theorem d_RowL_failedRow_31 : decode b_RowL_failedRow 31 = .ok (.ireturn, 1) := by decide +kernel
theorem d_X_share_0 : decode b_X_share 0 = .ok (.iload_n 1, 1) := by decide +kernel
theorem d_X_share_1 : decode b_X_share 1 = .ok (.invokestatic 55, 3) := by decide +kernel
theorem d_X_share_4 : decode b_X_share 4 = .ok (.ifCond .ne 7, 3) := by decide +kernel
theorem d_X_share_7 : decode b_X_share 7 = .ok (.ldc2_w 126, 3) := by decide +kernel
theorem d_X_share_10 : decode b_X_share 10 = .ok (.lreturn, 1) := by decide +kernel
theorem d_X_share_11 : decode b_X_share 11 = .ok (.iload_n 2, 1) := by decide +kernel
theorem d_X_share_12 : decode b_X_share 12 = .ok (.ifCond .eq 12, 3) := by decide +kernel
theorem d_X_share_15 : decode b_X_share 15 = .ok (.iload_n 2, 1) := by decide +kernel
theorem d_X_share_16 : decode b_X_share 16 = .ok (.iconst 1, 1) := by decide +kernel
theorem d_X_share_17 : decode b_X_share 17 = .ok (.if_icmp .eq 7, 3) := by decide +kernel
theorem d_X_share_20 : decode b_X_share 20 = .ok (.ldc2_w 128, 3) := by decide +kernel
theorem d_X_share_23 : decode b_X_share 23 = .ok (.lreturn, 1) := by decide +kernel
theorem d_X_share_24 : decode b_X_share 24 = .ok (.aload_n 0, 1) := by decide +kernel
theorem d_X_share_25 : decode b_X_share 25 = .ok (.getfield 33, 3) := by decide +kernel
theorem d_X_share_28 : decode b_X_share 28 = .ok (.iload_n 1, 1) := by decide +kernel
theorem d_X_share_29 : decode b_X_share 29 = .ok (.invokevirtual 130, 3) := by decide +kernel
theorem d_X_share_32 : decode b_X_share 32 = .ok (.istore_n 3, 1) := by decide +kernel
theorem d_X_share_33 : decode b_X_share 33 = .ok (.aload_n 0, 1) := by decide +kernel
theorem d_X_share_34 : decode b_X_share 34 = .ok (.getfield 33, 3) := by decide +kernel
theorem d_X_share_37 : decode b_X_share 37 = .ok (.iload_n 1, 1) := by decide +kernel
theorem d_X_share_38 : decode b_X_share 38 = .ok (.invokevirtual 134, 3) := by decide +kernel
theorem d_X_share_41 : decode b_X_share 41 = .ok (.istore 4, 2) := by decide +kernel
theorem d_X_share_43 : decode b_X_share 43 = .ok (.iload 4, 2) := by decide +kernel
theorem d_X_share_45 : decode b_X_share 45 = .ok (.ifCond .gt 13, 3) := by decide +kernel
theorem d_X_share_48 : decode b_X_share 48 = .ok (.new 137, 3) := by decide +kernel
theorem d_X_share_51 : decode b_X_share 51 = .ok (.dup, 1) := by decide +kernel
theorem d_X_share_52 : decode b_X_share 52 = .ok (.ldc 139, 2) := by decide +kernel
theorem d_X_share_54 : decode b_X_share 54 = .ok (.invokespecial 141, 3) := by decide +kernel
theorem d_X_share_57 : decode b_X_share 57 = .ok (.athrow, 1) := by decide +kernel
theorem d_X_share_58 : decode b_X_share 58 = .ok (.iload_n 3, 1) := by decide +kernel
theorem d_X_share_59 : decode b_X_share 59 = .ok (.iload 4, 2) := by decide +kernel
theorem d_X_share_61 : decode b_X_share 61 = .ok (.invokestatic 144, 3) := by decide +kernel
theorem d_X_share_64 : decode b_X_share 64 = .ok (.istore 5, 2) := by decide +kernel
theorem d_X_share_66 : decode b_X_share 66 = .ok (.iload_n 2, 1) := by decide +kernel
theorem d_X_share_67 : decode b_X_share 67 = .ok (.ifCond .ne 11, 3) := by decide +kernel
theorem d_X_share_70 : decode b_X_share 70 = .ok (.iload_n 3, 1) := by decide +kernel
theorem d_X_share_71 : decode b_X_share 71 = .ok (.iload 5, 2) := by decide +kernel
theorem d_X_share_73 : decode b_X_share 73 = .ok (.idiv, 1) := by decide +kernel
theorem d_X_share_74 : decode b_X_share 74 = .ok (.i2l, 1) := by decide +kernel
theorem d_X_share_75 : decode b_X_share 75 = .ok (.goto 9, 3) := by decide +kernel
theorem d_X_share_78 : decode b_X_share 78 = .ok (.iload 4, 2) := by decide +kernel
theorem d_X_share_80 : decode b_X_share 80 = .ok (.iload 5, 2) := by decide +kernel
theorem d_X_share_82 : decode b_X_share 82 = .ok (.idiv, 1) := by decide +kernel
theorem d_X_share_83 : decode b_X_share 83 = .ok (.i2l, 1) := by decide +kernel
theorem d_X_share_84 : decode b_X_share 84 = .ok (.lreturn, 1) := by decide +kernel
theorem d_X_commonDivisor_0 : decode b_X_commonDivisor 0 = .ok (.iload_n 0, 1) := by decide +kernel
theorem d_X_commonDivisor_1 : decode b_X_commonDivisor 1 = .ok (.istore_n 2, 1) := by decide +kernel
theorem d_X_commonDivisor_2 : decode b_X_commonDivisor 2 = .ok (.iload_n 1, 1) := by decide +kernel
theorem d_X_commonDivisor_3 : decode b_X_commonDivisor 3 = .ok (.istore_n 3, 1) := by decide +kernel
theorem d_X_commonDivisor_4 : decode b_X_commonDivisor 4 = .ok (.iconst 0, 1) := by decide +kernel
theorem d_X_commonDivisor_5 : decode b_X_commonDivisor 5 = .ok (.istore 4, 2) := by decide +kernel
theorem d_X_commonDivisor_7 : decode b_X_commonDivisor 7 = .ok (.iload 4, 2) := by decide +kernel
theorem d_X_commonDivisor_9 : decode b_X_commonDivisor 9 = .ok (.bipush 64, 2) := by decide +kernel
theorem d_X_commonDivisor_11 : decode b_X_commonDivisor 11 = .ok (.if_icmp .ge 23, 3) := by decide +kernel
theorem d_X_commonDivisor_14 : decode b_X_commonDivisor 14 = .ok (.iload_n 3, 1) := by decide +kernel
theorem d_X_commonDivisor_15 : decode b_X_commonDivisor 15 = .ok (.ifCond .eq 19, 3) := by decide +kernel
theorem d_X_commonDivisor_18 : decode b_X_commonDivisor 18 = .ok (.iload_n 2, 1) := by decide +kernel
theorem d_X_commonDivisor_19 : decode b_X_commonDivisor 19 = .ok (.iload_n 3, 1) := by decide +kernel
theorem d_X_commonDivisor_20 : decode b_X_commonDivisor 20 = .ok (.irem, 1) := by decide +kernel
theorem d_X_commonDivisor_21 : decode b_X_commonDivisor 21 = .ok (.istore 5, 2) := by decide +kernel
theorem d_X_commonDivisor_23 : decode b_X_commonDivisor 23 = .ok (.iload_n 3, 1) := by decide +kernel
theorem d_X_commonDivisor_24 : decode b_X_commonDivisor 24 = .ok (.istore_n 2, 1) := by decide +kernel
theorem d_X_commonDivisor_25 : decode b_X_commonDivisor 25 = .ok (.iload 5, 2) := by decide +kernel
theorem d_X_commonDivisor_27 : decode b_X_commonDivisor 27 = .ok (.istore_n 3, 1) := by decide +kernel
theorem d_X_commonDivisor_28 : decode b_X_commonDivisor 28 = .ok (.iinc 4 1, 3) := by decide +kernel
theorem d_X_commonDivisor_31 : decode b_X_commonDivisor 31 = .ok (.goto (-24), 3) := by decide +kernel
theorem d_X_commonDivisor_34 : decode b_X_commonDivisor 34 = .ok (.iload_n 2, 1) := by decide +kernel
theorem d_X_commonDivisor_35 : decode b_X_commonDivisor 35 = .ok (.iconst 1, 1) := by decide +kernel
theorem d_X_commonDivisor_36 : decode b_X_commonDivisor 36 = .ok (.invokestatic 150, 3) := by decide +kernel
theorem d_X_commonDivisor_39 : decode b_X_commonDivisor 39 = .ok (.ireturn, 1) := by decide +kernel
