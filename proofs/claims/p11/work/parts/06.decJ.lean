/-! DECODE ROWS, by program -/
theorem d_Obj_init_0 : decode b_Obj_init 0 = .ok (.return_, 1) := by decide +kernel
theorem d_AL_init_0 : decode b_AL_init 0 = .ok (.aload_n 0, 1) := by decide +kernel
theorem d_AL_init_1 : decode b_AL_init 1 = .ok (.invokespecial 1, 3) := by decide +kernel
theorem d_AL_init_4 : decode b_AL_init 4 = .ok (.aload_n 0, 1) := by decide +kernel
theorem d_AL_init_5 : decode b_AL_init 5 = .ok (.getstatic 39, 3) := by decide +kernel
theorem d_AL_init_8 : decode b_AL_init 8 = .ok (.putfield 9, 3) := by decide +kernel
theorem d_AL_init_11 : decode b_AL_init 11 = .ok (.return_, 1) := by decide +kernel
theorem d_AbL_init_0 : decode b_AbL_init 0 = .ok (.aload_n 0, 1) := by decide +kernel
theorem d_AbL_init_1 : decode b_AbL_init 1 = .ok (.invokespecial 1, 3) := by decide +kernel
theorem d_AbL_init_4 : decode b_AbL_init 4 = .ok (.aload_n 0, 1) := by decide +kernel
theorem d_AbL_init_5 : decode b_AbL_init 5 = .ok (.iconst 0, 1) := by decide +kernel
theorem d_AbL_init_6 : decode b_AbL_init 6 = .ok (.putfield 7, 3) := by decide +kernel
theorem d_AbL_init_9 : decode b_AbL_init 9 = .ok (.return_, 1) := by decide +kernel
theorem d_AbC_init_0 : decode b_AbC_init 0 = .ok (.aload_n 0, 1) := by decide +kernel
theorem d_AbC_init_1 : decode b_AbC_init 1 = .ok (.invokespecial 1, 3) := by decide +kernel
theorem d_AbC_init_4 : decode b_AbC_init 4 = .ok (.return_, 1) := by decide +kernel
theorem d_AL_size_0 : decode b_AL_size 0 = .ok (.aload_n 0, 1) := by decide +kernel
theorem d_AL_size_1 : decode b_AL_size 1 = .ok (.getfield 48, 3) := by decide +kernel
theorem d_AL_size_4 : decode b_AL_size 4 = .ok (.ireturn, 1) := by decide +kernel
theorem d_AL_add1_0 : decode b_AL_add1 0 = .ok (.aload_n 0, 1) := by decide +kernel
theorem d_AL_add1_1 : decode b_AL_add1 1 = .ok (.dup, 1) := by decide +kernel
theorem d_AL_add1_2 : decode b_AL_add1 2 = .ok (.getfield 63, 3) := by decide +kernel
theorem d_AL_add1_5 : decode b_AL_add1 5 = .ok (.iconst 1, 1) := by decide +kernel
theorem d_AL_add1_6 : decode b_AL_add1 6 = .ok (.iadd, 1) := by decide +kernel
theorem d_AL_add1_7 : decode b_AL_add1 7 = .ok (.putfield 63, 3) := by decide +kernel
theorem d_AL_add1_10 : decode b_AL_add1 10 = .ok (.aload_n 0, 1) := by decide +kernel
theorem d_AL_add1_11 : decode b_AL_add1 11 = .ok (.aload_n 1, 1) := by decide +kernel
theorem d_AL_add1_12 : decode b_AL_add1 12 = .ok (.aload_n 0, 1) := by decide +kernel
theorem d_AL_add1_13 : decode b_AL_add1 13 = .ok (.getfield 9, 3) := by decide +kernel
theorem d_AL_add1_16 : decode b_AL_add1 16 = .ok (.aload_n 0, 1) := by decide +kernel
theorem d_AL_add1_17 : decode b_AL_add1 17 = .ok (.getfield 48, 3) := by decide +kernel
theorem d_AL_add1_20 : decode b_AL_add1 20 = .ok (.invokevirtual 131, 3) := by decide +kernel
theorem d_AL_add1_23 : decode b_AL_add1 23 = .ok (.iconst 1, 1) := by decide +kernel
theorem d_AL_add1_24 : decode b_AL_add1 24 = .ok (.ireturn, 1) := by decide +kernel
theorem d_AL_add3_0 : decode b_AL_add3 0 = .ok (.iload_n 3, 1) := by decide +kernel
theorem d_AL_add3_1 : decode b_AL_add3 1 = .ok (.aload_n 2, 1) := by decide +kernel
theorem d_AL_add3_2 : decode b_AL_add3 2 = .ok (.arraylength, 1) := by decide +kernel
theorem d_AL_add3_3 : decode b_AL_add3 3 = .ok (.if_icmp .ne 8, 3) := by decide +kernel
theorem d_AL_add3_6 : decode b_AL_add3 6 = .ok (.aload_n 0, 1) := by decide +kernel
theorem d_AL_add3_7 : decode b_AL_add3 7 = .ok (.invokevirtual 129, 3) := by decide +kernel
theorem d_AL_add3_10 : decode b_AL_add3 10 = .ok (.astore_n 2, 1) := by decide +kernel
theorem d_AL_add3_11 : decode b_AL_add3 11 = .ok (.aload_n 2, 1) := by decide +kernel
theorem d_AL_add3_12 : decode b_AL_add3 12 = .ok (.iload_n 3, 1) := by decide +kernel
theorem d_AL_add3_13 : decode b_AL_add3 13 = .ok (.aload_n 1, 1) := by decide +kernel
theorem d_AL_add3_14 : decode b_AL_add3 14 = .ok (.aastore, 1) := by decide +kernel
theorem d_AL_add3_15 : decode b_AL_add3 15 = .ok (.aload_n 0, 1) := by decide +kernel
theorem d_AL_add3_16 : decode b_AL_add3 16 = .ok (.iload_n 3, 1) := by decide +kernel
theorem d_AL_add3_17 : decode b_AL_add3 17 = .ok (.iconst 1, 1) := by decide +kernel
theorem d_AL_add3_18 : decode b_AL_add3 18 = .ok (.iadd, 1) := by decide +kernel
theorem d_AL_add3_19 : decode b_AL_add3 19 = .ok (.putfield 48, 3) := by decide +kernel
theorem d_AL_add3_22 : decode b_AL_add3 22 = .ok (.return_, 1) := by decide +kernel
theorem d_AL_grow0_0 : decode b_AL_grow0 0 = .ok (.aload_n 0, 1) := by decide +kernel
theorem d_AL_grow0_1 : decode b_AL_grow0 1 = .ok (.aload_n 0, 1) := by decide +kernel
theorem d_AL_grow0_2 : decode b_AL_grow0 2 = .ok (.getfield 48, 3) := by decide +kernel
theorem d_AL_grow0_5 : decode b_AL_grow0 5 = .ok (.iconst 1, 1) := by decide +kernel
theorem d_AL_grow0_6 : decode b_AL_grow0 6 = .ok (.iadd, 1) := by decide +kernel
theorem d_AL_grow0_7 : decode b_AL_grow0 7 = .ok (.invokevirtual 69, 3) := by decide +kernel
theorem d_AL_grow0_10 : decode b_AL_grow0 10 = .ok (.areturn, 1) := by decide +kernel
theorem d_AL_grow1_0 : decode b_AL_grow1 0 = .ok (.aload_n 0, 1) := by decide +kernel
theorem d_AL_grow1_1 : decode b_AL_grow1 1 = .ok (.getfield 9, 3) := by decide +kernel
theorem d_AL_grow1_4 : decode b_AL_grow1 4 = .ok (.arraylength, 1) := by decide +kernel
theorem d_AL_grow1_5 : decode b_AL_grow1 5 = .ok (.istore_n 2, 1) := by decide +kernel
theorem d_AL_grow1_6 : decode b_AL_grow1 6 = .ok (.iload_n 2, 1) := by decide +kernel
theorem d_AL_grow1_7 : decode b_AL_grow1 7 = .ok (.ifCond .gt 13, 3) := by decide +kernel
theorem d_AL_grow1_10 : decode b_AL_grow1 10 = .ok (.aload_n 0, 1) := by decide +kernel
theorem d_AL_grow1_11 : decode b_AL_grow1 11 = .ok (.getfield 9, 3) := by decide +kernel
theorem d_AL_grow1_14 : decode b_AL_grow1 14 = .ok (.getstatic 39, 3) := by decide +kernel
theorem d_AL_grow1_17 : decode b_AL_grow1 17 = .ok (.if_acmp .eq 28, 3) := by decide +kernel
theorem d_AL_grow1_20 : decode b_AL_grow1 20 = .ok (.iload_n 2, 1) := by decide +kernel
theorem d_AL_grow1_21 : decode b_AL_grow1 21 = .ok (.iload_n 1, 1) := by decide +kernel
theorem d_AL_grow1_22 : decode b_AL_grow1 22 = .ok (.iload_n 2, 1) := by decide +kernel
theorem d_AL_grow1_23 : decode b_AL_grow1 23 = .ok (.isub, 1) := by decide +kernel
theorem d_AL_grow1_24 : decode b_AL_grow1 24 = .ok (.iload_n 2, 1) := by decide +kernel
theorem d_AL_grow1_25 : decode b_AL_grow1 25 = .ok (.iconst 1, 1) := by decide +kernel
theorem d_AL_grow1_26 : decode b_AL_grow1 26 = .ok (.ishr, 1) := by decide +kernel
theorem d_AL_grow1_27 : decode b_AL_grow1 27 = .ok (.invokestatic 73, 3) := by decide +kernel
theorem d_AL_grow1_30 : decode b_AL_grow1 30 = .ok (.istore_n 3, 1) := by decide +kernel
theorem d_AL_grow1_31 : decode b_AL_grow1 31 = .ok (.aload_n 0, 1) := by decide +kernel
theorem d_AL_grow1_32 : decode b_AL_grow1 32 = .ok (.aload_n 0, 1) := by decide +kernel
theorem d_AL_grow1_33 : decode b_AL_grow1 33 = .ok (.getfield 9, 3) := by decide +kernel
theorem d_AL_grow1_36 : decode b_AL_grow1 36 = .ok (.iload_n 3, 1) := by decide +kernel
theorem d_AL_grow1_37 : decode b_AL_grow1 37 = .ok (.invokestatic 66, 3) := by decide +kernel
theorem d_AL_grow1_40 : decode b_AL_grow1 40 = .ok (.dup_x1, 1) := by decide +kernel
theorem d_AL_grow1_41 : decode b_AL_grow1 41 = .ok (.putfield 9, 3) := by decide +kernel
theorem d_AL_grow1_44 : decode b_AL_grow1 44 = .ok (.areturn, 1) := by decide +kernel
theorem d_AL_grow1_45 : decode b_AL_grow1 45 = .ok (.aload_n 0, 1) := by decide +kernel
theorem d_AL_grow1_46 : decode b_AL_grow1 46 = .ok (.bipush 10, 2) := by decide +kernel
theorem d_AL_grow1_48 : decode b_AL_grow1 48 = .ok (.iload_n 1, 1) := by decide +kernel
theorem d_AL_grow1_49 : decode b_AL_grow1 49 = .ok (.invokestatic 79, 3) := by decide +kernel
theorem d_AL_grow1_52 : decode b_AL_grow1 52 = .ok (.anewarray 7, 3) := by decide +kernel
theorem d_AL_grow1_55 : decode b_AL_grow1 55 = .ok (.dup_x1, 1) := by decide +kernel
theorem d_AL_grow1_56 : decode b_AL_grow1 56 = .ok (.putfield 9, 3) := by decide +kernel
theorem d_AL_grow1_59 : decode b_AL_grow1 59 = .ok (.areturn, 1) := by decide +kernel
theorem d_ASup_newLength_0 : decode b_ASup_newLength 0 = .ok (.iload_n 0, 1) := by decide +kernel
theorem d_ASup_newLength_1 : decode b_ASup_newLength 1 = .ok (.iload_n 1, 1) := by decide +kernel
theorem d_ASup_newLength_2 : decode b_ASup_newLength 2 = .ok (.iload_n 2, 1) := by decide +kernel
theorem d_ASup_newLength_3 : decode b_ASup_newLength 3 = .ok (.invokestatic 194, 3) := by decide +kernel
theorem d_ASup_newLength_6 : decode b_ASup_newLength 6 = .ok (.iadd, 1) := by decide +kernel
theorem d_ASup_newLength_7 : decode b_ASup_newLength 7 = .ok (.istore_n 3, 1) := by decide +kernel
theorem d_ASup_newLength_8 : decode b_ASup_newLength 8 = .ok (.iconst 0, 1) := by decide +kernel
theorem d_ASup_newLength_9 : decode b_ASup_newLength 9 = .ok (.iload_n 3, 1) := by decide +kernel
theorem d_ASup_newLength_10 : decode b_ASup_newLength 10 = .ok (.if_icmp .ge 11, 3) := by decide +kernel
theorem d_ASup_newLength_13 : decode b_ASup_newLength 13 = .ok (.iload_n 3, 1) := by decide +kernel
theorem d_ASup_newLength_14 : decode b_ASup_newLength 14 = .ok (.ldc 200, 2) := by decide +kernel
theorem d_ASup_newLength_16 : decode b_ASup_newLength 16 = .ok (.if_icmp .gt 5, 3) := by decide +kernel
theorem d_ASup_newLength_19 : decode b_ASup_newLength 19 = .ok (.iload_n 3, 1) := by decide +kernel
theorem d_ASup_newLength_20 : decode b_ASup_newLength 20 = .ok (.ireturn, 1) := by decide +kernel
theorem d_ASup_newLength_21 : decode b_ASup_newLength 21 = .ok (.iload_n 0, 1) := by decide +kernel
theorem d_ASup_newLength_22 : decode b_ASup_newLength 22 = .ok (.iload_n 1, 1) := by decide +kernel
theorem d_ASup_newLength_23 : decode b_ASup_newLength 23 = .ok (.invokestatic 201, 3) := by decide +kernel
theorem d_ASup_newLength_26 : decode b_ASup_newLength 26 = .ok (.ireturn, 1) := by decide +kernel
theorem d_Math_max_0 : decode b_Math_max 0 = .ok (.iload_n 0, 1) := by decide +kernel
theorem d_Math_max_1 : decode b_Math_max 1 = .ok (.iload_n 1, 1) := by decide +kernel
theorem d_Math_max_2 : decode b_Math_max 2 = .ok (.if_icmp .lt 7, 3) := by decide +kernel
theorem d_Math_max_5 : decode b_Math_max 5 = .ok (.iload_n 0, 1) := by decide +kernel
theorem d_Math_max_6 : decode b_Math_max 6 = .ok (.goto 4, 3) := by decide +kernel
theorem d_Math_max_9 : decode b_Math_max 9 = .ok (.iload_n 1, 1) := by decide +kernel
theorem d_Math_max_10 : decode b_Math_max 10 = .ok (.ireturn, 1) := by decide +kernel
theorem d_ASup_hugeLength_0 : decode b_ASup_hugeLength 0 = .ok (.iload_n 0, 1) := by decide +kernel
theorem d_ASup_hugeLength_1 : decode b_ASup_hugeLength 1 = .ok (.iload_n 1, 1) := by decide +kernel
theorem d_ASup_hugeLength_2 : decode b_ASup_hugeLength 2 = .ok (.iadd, 1) := by decide +kernel
theorem d_ASup_hugeLength_3 : decode b_ASup_hugeLength 3 = .ok (.istore_n 2, 1) := by decide +kernel
theorem d_ASup_hugeLength_4 : decode b_ASup_hugeLength 4 = .ok (.iload_n 2, 1) := by decide +kernel
theorem d_ASup_hugeLength_5 : decode b_ASup_hugeLength 5 = .ok (.ifCond .ge 44, 3) := by decide +kernel
theorem d_ASup_hugeLength_8 : decode b_ASup_hugeLength 8 = .ok (.new 204, 3) := by decide +kernel
theorem d_ASup_hugeLength_11 : decode b_ASup_hugeLength 11 = .ok (.dup, 1) := by decide +kernel
theorem d_ASup_hugeLength_12 : decode b_ASup_hugeLength 12 = .ok (.new 89, 3) := by decide +kernel
theorem d_ASup_hugeLength_15 : decode b_ASup_hugeLength 15 = .ok (.dup, 1) := by decide +kernel
theorem d_ASup_hugeLength_16 : decode b_ASup_hugeLength 16 = .ok (.invokespecial 91, 3) := by decide +kernel
theorem d_ASup_hugeLength_19 : decode b_ASup_hugeLength 19 = .ok (.ldc 206, 2) := by decide +kernel
theorem d_ASup_hugeLength_21 : decode b_ASup_hugeLength 21 = .ok (.invokevirtual 94, 3) := by decide +kernel
theorem d_ASup_hugeLength_24 : decode b_ASup_hugeLength 24 = .ok (.iload_n 0, 1) := by decide +kernel
theorem d_ASup_hugeLength_25 : decode b_ASup_hugeLength 25 = .ok (.invokevirtual 98, 3) := by decide +kernel
theorem d_ASup_hugeLength_28 : decode b_ASup_hugeLength 28 = .ok (.ldc 208, 2) := by decide +kernel
theorem d_ASup_hugeLength_30 : decode b_ASup_hugeLength 30 = .ok (.invokevirtual 94, 3) := by decide +kernel
theorem d_ASup_hugeLength_33 : decode b_ASup_hugeLength 33 = .ok (.iload_n 1, 1) := by decide +kernel
theorem d_ASup_hugeLength_34 : decode b_ASup_hugeLength 34 = .ok (.invokevirtual 98, 3) := by decide +kernel
theorem d_ASup_hugeLength_37 : decode b_ASup_hugeLength 37 = .ok (.ldc 210, 2) := by decide +kernel
theorem d_ASup_hugeLength_39 : decode b_ASup_hugeLength 39 = .ok (.invokevirtual 94, 3) := by decide +kernel
theorem d_ASup_hugeLength_42 : decode b_ASup_hugeLength 42 = .ok (.invokevirtual 101, 3) := by decide +kernel
theorem d_ASup_hugeLength_45 : decode b_ASup_hugeLength 45 = .ok (.invokespecial 212, 3) := by decide +kernel
theorem d_ASup_hugeLength_48 : decode b_ASup_hugeLength 48 = .ok (.athrow, 1) := by decide +kernel
theorem d_ASup_hugeLength_49 : decode b_ASup_hugeLength 49 = .ok (.iload_n 2, 1) := by decide +kernel
theorem d_ASup_hugeLength_50 : decode b_ASup_hugeLength 50 = .ok (.ldc 200, 2) := by decide +kernel
theorem d_ASup_hugeLength_52 : decode b_ASup_hugeLength 52 = .ok (.if_icmp .gt 6, 3) := by decide +kernel
theorem d_ASup_hugeLength_55 : decode b_ASup_hugeLength 55 = .ok (.ldc 200, 2) := by decide +kernel
theorem d_ASup_hugeLength_57 : decode b_ASup_hugeLength 57 = .ok (.ireturn, 1) := by decide +kernel
theorem d_ASup_hugeLength_58 : decode b_ASup_hugeLength 58 = .ok (.iload_n 2, 1) := by decide +kernel
theorem d_ASup_hugeLength_59 : decode b_ASup_hugeLength 59 = .ok (.ireturn, 1) := by decide +kernel
theorem d_Arrs_copyOf2_0 : decode b_Arrs_copyOf2 0 = .ok (.aload_n 0, 1) := by decide +kernel
theorem d_Arrs_copyOf2_1 : decode b_Arrs_copyOf2 1 = .ok (.iload_n 1, 1) := by decide +kernel
theorem d_Arrs_copyOf2_2 : decode b_Arrs_copyOf2 2 = .ok (.aload_n 0, 1) := by decide +kernel
theorem d_Arrs_copyOf2_3 : decode b_Arrs_copyOf2 3 = .ok (.invokevirtual 86, 3) := by decide +kernel
theorem d_Arrs_copyOf2_6 : decode b_Arrs_copyOf2 6 = .ok (.invokestatic 300, 3) := by decide +kernel
theorem d_Arrs_copyOf2_9 : decode b_Arrs_copyOf2 9 = .ok (.areturn, 1) := by decide +kernel
theorem d_Arrs_copyOf3_0 : decode b_Arrs_copyOf3 0 = .ok (.aload_n 2, 1) := by decide +kernel
theorem d_Arrs_copyOf3_1 : decode b_Arrs_copyOf3 1 = .ok (.ldc 110, 2) := by decide +kernel
theorem d_Arrs_copyOf3_3 : decode b_Arrs_copyOf3 3 = .ok (.if_acmp .ne 10, 3) := by decide +kernel
theorem d_Arrs_copyOf3_6 : decode b_Arrs_copyOf3 6 = .ok (.iload_n 1, 1) := by decide +kernel
theorem d_Arrs_copyOf3_7 : decode b_Arrs_copyOf3 7 = .ok (.anewarray 2, 3) := by decide +kernel
theorem d_Arrs_copyOf3_10 : decode b_Arrs_copyOf3 10 = .ok (.goto 14, 3) := by decide +kernel
theorem d_Arrs_copyOf3_13 : decode b_Arrs_copyOf3 13 = .ok (.aload_n 2, 1) := by decide +kernel
theorem d_Arrs_copyOf3_14 : decode b_Arrs_copyOf3 14 = .ok (.invokevirtual 90, 3) := by decide +kernel
theorem d_Arrs_copyOf3_17 : decode b_Arrs_copyOf3 17 = .ok (.iload_n 1, 1) := by decide +kernel
theorem d_Arrs_copyOf3_18 : decode b_Arrs_copyOf3 18 = .ok (.invokestatic 95, 3) := by decide +kernel
theorem d_Arrs_copyOf3_21 : decode b_Arrs_copyOf3 21 = .ok (.checkcast 110, 3) := by decide +kernel
theorem d_Arrs_copyOf3_24 : decode b_Arrs_copyOf3 24 = .ok (.astore_n 3, 1) := by decide +kernel
theorem d_Arrs_copyOf3_25 : decode b_Arrs_copyOf3 25 = .ok (.aload_n 0, 1) := by decide +kernel
theorem d_Arrs_copyOf3_26 : decode b_Arrs_copyOf3 26 = .ok (.iconst 0, 1) := by decide +kernel
theorem d_Arrs_copyOf3_27 : decode b_Arrs_copyOf3 27 = .ok (.aload_n 3, 1) := by decide +kernel
theorem d_Arrs_copyOf3_28 : decode b_Arrs_copyOf3 28 = .ok (.iconst 0, 1) := by decide +kernel
theorem d_Arrs_copyOf3_29 : decode b_Arrs_copyOf3 29 = .ok (.aload_n 0, 1) := by decide +kernel
theorem d_Arrs_copyOf3_30 : decode b_Arrs_copyOf3 30 = .ok (.arraylength, 1) := by decide +kernel
theorem d_Arrs_copyOf3_31 : decode b_Arrs_copyOf3 31 = .ok (.iload_n 1, 1) := by decide +kernel
theorem d_Arrs_copyOf3_32 : decode b_Arrs_copyOf3 32 = .ok (.invokestatic 304, 3) := by decide +kernel
theorem d_Arrs_copyOf3_35 : decode b_Arrs_copyOf3 35 = .ok (.invokestatic 150, 3) := by decide +kernel
theorem d_Arrs_copyOf3_38 : decode b_Arrs_copyOf3 38 = .ok (.aload_n 3, 1) := by decide +kernel
theorem d_Arrs_copyOf3_39 : decode b_Arrs_copyOf3 39 = .ok (.areturn, 1) := by decide +kernel
theorem d_Math_min_0 : decode b_Math_min 0 = .ok (.iload_n 0, 1) := by decide +kernel
theorem d_Math_min_1 : decode b_Math_min 1 = .ok (.iload_n 1, 1) := by decide +kernel
theorem d_Math_min_2 : decode b_Math_min 2 = .ok (.if_icmp .gt 7, 3) := by decide +kernel
theorem d_Math_min_5 : decode b_Math_min 5 = .ok (.iload_n 0, 1) := by decide +kernel
theorem d_Math_min_6 : decode b_Math_min 6 = .ok (.goto 4, 3) := by decide +kernel
theorem d_Math_min_9 : decode b_Math_min 9 = .ok (.iload_n 1, 1) := by decide +kernel
theorem d_Math_min_10 : decode b_Math_min 10 = .ok (.ireturn, 1) := by decide +kernel
theorem d_AL_get_0 : decode b_AL_get 0 = .ok (.iload_n 1, 1) := by decide +kernel
theorem d_AL_get_1 : decode b_AL_get 1 = .ok (.aload_n 0, 1) := by decide +kernel
theorem d_AL_get_2 : decode b_AL_get 2 = .ok (.getfield 48, 3) := by decide +kernel
theorem d_AL_get_5 : decode b_AL_get 5 = .ok (.invokestatic 118, 3) := by decide +kernel
theorem d_AL_get_8 : decode b_AL_get 8 = .ok (.pop, 1) := by decide +kernel
theorem d_AL_get_9 : decode b_AL_get 9 = .ok (.aload_n 0, 1) := by decide +kernel
theorem d_AL_get_10 : decode b_AL_get 10 = .ok (.iload_n 1, 1) := by decide +kernel
theorem d_AL_get_11 : decode b_AL_get 11 = .ok (.invokevirtual 123, 3) := by decide +kernel
theorem d_AL_get_14 : decode b_AL_get 14 = .ok (.areturn, 1) := by decide +kernel
theorem d_Objs_checkIndex_0 : decode b_Objs_checkIndex 0 = .ok (.iload_n 0, 1) := by decide +kernel
theorem d_Objs_checkIndex_1 : decode b_Objs_checkIndex 1 = .ok (.iload_n 1, 1) := by decide +kernel
theorem d_Objs_checkIndex_2 : decode b_Objs_checkIndex 2 = .ok (.aconst_null, 1) := by decide +kernel
theorem d_Objs_checkIndex_3 : decode b_Objs_checkIndex 3 = .ok (.invokestatic 105, 3) := by decide +kernel
theorem d_Objs_checkIndex_6 : decode b_Objs_checkIndex 6 = .ok (.ireturn, 1) := by decide +kernel
theorem d_Prec_checkIndex_0 : decode b_Prec_checkIndex 0 = .ok (.iload_n 0, 1) := by decide +kernel
theorem d_Prec_checkIndex_1 : decode b_Prec_checkIndex 1 = .ok (.ifCond .lt 8, 3) := by decide +kernel
theorem d_Prec_checkIndex_4 : decode b_Prec_checkIndex 4 = .ok (.iload_n 0, 1) := by decide +kernel
theorem d_Prec_checkIndex_5 : decode b_Prec_checkIndex 5 = .ok (.iload_n 1, 1) := by decide +kernel
theorem d_Prec_checkIndex_6 : decode b_Prec_checkIndex 6 = .ok (.if_icmp .lt 10, 3) := by decide +kernel
theorem d_Prec_checkIndex_9 : decode b_Prec_checkIndex 9 = .ok (.aload_n 2, 1) := by decide +kernel
theorem d_Prec_checkIndex_10 : decode b_Prec_checkIndex 10 = .ok (.iload_n 0, 1) := by decide +kernel
theorem d_Prec_checkIndex_11 : decode b_Prec_checkIndex 11 = .ok (.iload_n 1, 1) := by decide +kernel
theorem d_Prec_checkIndex_12 : decode b_Prec_checkIndex 12 = .ok (.invokestatic 95, 3) := by decide +kernel
theorem d_Prec_checkIndex_15 : decode b_Prec_checkIndex 15 = .ok (.athrow, 1) := by decide +kernel
theorem d_Prec_checkIndex_16 : decode b_Prec_checkIndex 16 = .ok (.iload_n 0, 1) := by decide +kernel
theorem d_Prec_checkIndex_17 : decode b_Prec_checkIndex 17 = .ok (.ireturn, 1) := by decide +kernel
theorem d_AL_elementData_0 : decode b_AL_elementData 0 = .ok (.aload_n 0, 1) := by decide +kernel
theorem d_AL_elementData_1 : decode b_AL_elementData 1 = .ok (.getfield 9, 3) := by decide +kernel
theorem d_AL_elementData_4 : decode b_AL_elementData 4 = .ok (.iload_n 1, 1) := by decide +kernel
theorem d_AL_elementData_5 : decode b_AL_elementData 5 = .ok (.aaload, 1) := by decide +kernel
theorem d_AL_elementData_6 : decode b_AL_elementData 6 = .ok (.areturn, 1) := by decide +kernel
theorem d_Math_maxl_0 : decode b_Math_maxl 0 = .ok (.lload_n 0, 1) := by decide +kernel
theorem d_Math_maxl_1 : decode b_Math_maxl 1 = .ok (.lload_n 2, 1) := by decide +kernel
theorem d_Math_maxl_2 : decode b_Math_maxl 2 = .ok (.lcmp, 1) := by decide +kernel
theorem d_Math_maxl_3 : decode b_Math_maxl 3 = .ok (.ifCond .lt 7, 3) := by decide +kernel
theorem d_Math_maxl_6 : decode b_Math_maxl 6 = .ok (.lload_n 0, 1) := by decide +kernel
theorem d_Math_maxl_7 : decode b_Math_maxl 7 = .ok (.goto 4, 3) := by decide +kernel
theorem d_Math_maxl_10 : decode b_Math_maxl 10 = .ok (.lload_n 2, 1) := by decide +kernel
theorem d_Math_maxl_11 : decode b_Math_maxl 11 = .ok (.lreturn, 1) := by decide +kernel
theorem d_Law_share_0 : decode b_Law_share 0 = .ok (.aload_n 3, 1) := by decide +kernel
theorem d_Law_share_1 : decode b_Law_share 1 = .ok (.iconst 0, 1) := by decide +kernel
theorem d_Law_share_2 : decode b_Law_share 2 = .ok (.aload_n 0, 1) := by decide +kernel
theorem d_Law_share_3 : decode b_Law_share 3 = .ok (.iload_n 1, 1) := by decide +kernel
theorem d_Law_share_4 : decode b_Law_share 4 = .ok (.iload_n 2, 1) := by decide +kernel
theorem d_Law_share_5 : decode b_Law_share 5 = .ok (.invokevirtual 7, 3) := by decide +kernel
theorem d_Law_share_8 : decode b_Law_share 8 = .ok (.lastore, 1) := by decide +kernel
theorem d_Law_share_9 : decode b_Law_share 9 = .ok (.goto 7, 3) := by decide +kernel
theorem d_Law_share_12 : decode b_Law_share 12 = .ok (.astore 4, 2) := by decide +kernel
theorem d_Law_share_14 : decode b_Law_share 14 = .ok (.iconst 1, 1) := by decide +kernel
theorem d_Law_share_15 : decode b_Law_share 15 = .ok (.ireturn, 1) := by decide +kernel
theorem d_Law_share_16 : decode b_Law_share 16 = .ok (.iconst 0, 1) := by decide +kernel
theorem d_Law_share_17 : decode b_Law_share 17 = .ok (.ireturn, 1) := by decide +kernel
theorem d_Thr_init0_0 : decode b_Thr_init0 0 = .ok (.aload_n 0, 1) := by decide +kernel
theorem d_Thr_init0_1 : decode b_Thr_init0 1 = .ok (.invokespecial 1, 3) := by decide +kernel
theorem d_Thr_init0_4 : decode b_Thr_init0 4 = .ok (.aload_n 0, 1) := by decide +kernel
theorem d_Thr_init0_5 : decode b_Thr_init0 5 = .ok (.aload_n 0, 1) := by decide +kernel
theorem d_Thr_init0_6 : decode b_Thr_init0 6 = .ok (.putfield 7, 3) := by decide +kernel
theorem d_Thr_init0_9 : decode b_Thr_init0 9 = .ok (.aload_n 0, 1) := by decide +kernel
theorem d_Thr_init0_10 : decode b_Thr_init0 10 = .ok (.getstatic 13, 3) := by decide +kernel
theorem d_Thr_init0_13 : decode b_Thr_init0 13 = .ok (.putfield 17, 3) := by decide +kernel
theorem d_Thr_init0_16 : decode b_Thr_init0 16 = .ok (.aload_n 0, 1) := by decide +kernel
theorem d_Thr_init0_17 : decode b_Thr_init0 17 = .ok (.getstatic 20, 3) := by decide +kernel
theorem d_Thr_init0_20 : decode b_Thr_init0 20 = .ok (.putfield 24, 3) := by decide +kernel
theorem d_Thr_init0_23 : decode b_Thr_init0 23 = .ok (.aload_n 0, 1) := by decide +kernel
theorem d_Thr_init0_24 : decode b_Thr_init0 24 = .ok (.invokevirtual 27, 3) := by decide +kernel
theorem d_Thr_init0_27 : decode b_Thr_init0 27 = .ok (.pop, 1) := by decide +kernel
theorem d_Thr_init0_28 : decode b_Thr_init0 28 = .ok (.return_, 1) := by decide +kernel
theorem d_Thr_fillInStackTrace_0 : decode b_Thr_fillInStackTrace 0 = .ok (.aload_n 0, 1) := by decide +kernel
theorem d_Thr_fillInStackTrace_1 : decode b_Thr_fillInStackTrace 1 = .ok (.getfield 17, 3) := by decide +kernel
theorem d_Thr_fillInStackTrace_4 : decode b_Thr_fillInStackTrace 4 = .ok (.ifnonnull 10, 3) := by decide +kernel
theorem d_Thr_fillInStackTrace_7 : decode b_Thr_fillInStackTrace 7 = .ok (.aload_n 0, 1) := by decide +kernel
theorem d_Thr_fillInStackTrace_8 : decode b_Thr_fillInStackTrace 8 = .ok (.getfield 198, 3) := by decide +kernel
theorem d_Thr_fillInStackTrace_11 : decode b_Thr_fillInStackTrace 11 = .ok (.ifnull 16, 3) := by decide +kernel
theorem d_Thr_fillInStackTrace_14 : decode b_Thr_fillInStackTrace 14 = .ok (.aload_n 0, 1) := by decide +kernel
theorem d_Thr_fillInStackTrace_15 : decode b_Thr_fillInStackTrace 15 = .ok (.iconst 0, 1) := by decide +kernel
theorem d_Thr_fillInStackTrace_16 : decode b_Thr_fillInStackTrace 16 = .ok (.invokevirtual 202, 3) := by decide +kernel
theorem d_Thr_fillInStackTrace_19 : decode b_Thr_fillInStackTrace 19 = .ok (.pop, 1) := by decide +kernel
theorem d_Thr_fillInStackTrace_20 : decode b_Thr_fillInStackTrace 20 = .ok (.aload_n 0, 1) := by decide +kernel
theorem d_Thr_fillInStackTrace_21 : decode b_Thr_fillInStackTrace 21 = .ok (.getstatic 13, 3) := by decide +kernel
theorem d_Thr_fillInStackTrace_24 : decode b_Thr_fillInStackTrace 24 = .ok (.putfield 17, 3) := by decide +kernel
theorem d_Thr_fillInStackTrace_27 : decode b_Thr_fillInStackTrace 27 = .ok (.aload_n 0, 1) := by decide +kernel
theorem d_Thr_fillInStackTrace_28 : decode b_Thr_fillInStackTrace 28 = .ok (.areturn, 1) := by decide +kernel
theorem d_ArE_init_0 : decode b_ArE_init 0 = .ok (.aload_n 0, 1) := by decide +kernel
theorem d_ArE_init_1 : decode b_ArE_init 1 = .ok (.aload_n 1, 1) := by decide +kernel
theorem d_ArE_init_2 : decode b_ArE_init 2 = .ok (.invokespecial 7, 3) := by decide +kernel
theorem d_ArE_init_5 : decode b_ArE_init 5 = .ok (.return_, 1) := by decide +kernel
theorem d_RtE_init_0 : decode b_RtE_init 0 = .ok (.aload_n 0, 1) := by decide +kernel
theorem d_RtE_init_1 : decode b_RtE_init 1 = .ok (.aload_n 1, 1) := by decide +kernel
theorem d_RtE_init_2 : decode b_RtE_init 2 = .ok (.invokespecial 7, 3) := by decide +kernel
theorem d_RtE_init_5 : decode b_RtE_init 5 = .ok (.return_, 1) := by decide +kernel
theorem d_Exc_init_0 : decode b_Exc_init 0 = .ok (.aload_n 0, 1) := by decide +kernel
theorem d_Exc_init_1 : decode b_Exc_init 1 = .ok (.aload_n 1, 1) := by decide +kernel
theorem d_Exc_init_2 : decode b_Exc_init 2 = .ok (.invokespecial 7, 3) := by decide +kernel
theorem d_Exc_init_5 : decode b_Exc_init 5 = .ok (.return_, 1) := by decide +kernel
theorem d_Thr_initS_0 : decode b_Thr_initS 0 = .ok (.aload_n 0, 1) := by decide +kernel
theorem d_Thr_initS_1 : decode b_Thr_initS 1 = .ok (.invokespecial 1, 3) := by decide +kernel
theorem d_Thr_initS_4 : decode b_Thr_initS 4 = .ok (.aload_n 0, 1) := by decide +kernel
theorem d_Thr_initS_5 : decode b_Thr_initS 5 = .ok (.aload_n 0, 1) := by decide +kernel
theorem d_Thr_initS_6 : decode b_Thr_initS 6 = .ok (.putfield 7, 3) := by decide +kernel
theorem d_Thr_initS_9 : decode b_Thr_initS 9 = .ok (.aload_n 0, 1) := by decide +kernel
theorem d_Thr_initS_10 : decode b_Thr_initS 10 = .ok (.getstatic 13, 3) := by decide +kernel
theorem d_Thr_initS_13 : decode b_Thr_initS 13 = .ok (.putfield 17, 3) := by decide +kernel
theorem d_Thr_initS_16 : decode b_Thr_initS 16 = .ok (.aload_n 0, 1) := by decide +kernel
theorem d_Thr_initS_17 : decode b_Thr_initS 17 = .ok (.getstatic 20, 3) := by decide +kernel
theorem d_Thr_initS_20 : decode b_Thr_initS 20 = .ok (.putfield 24, 3) := by decide +kernel
theorem d_Thr_initS_23 : decode b_Thr_initS 23 = .ok (.aload_n 0, 1) := by decide +kernel
theorem d_Thr_initS_24 : decode b_Thr_initS 24 = .ok (.invokevirtual 27, 3) := by decide +kernel
theorem d_Thr_initS_27 : decode b_Thr_initS 27 = .ok (.pop, 1) := by decide +kernel
theorem d_Thr_initS_28 : decode b_Thr_initS 28 = .ok (.aload_n 0, 1) := by decide +kernel
theorem d_Thr_initS_29 : decode b_Thr_initS 29 = .ok (.aload_n 1, 1) := by decide +kernel
theorem d_Thr_initS_30 : decode b_Thr_initS 30 = .ok (.putfield 31, 3) := by decide +kernel
theorem d_Thr_initS_33 : decode b_Thr_initS 33 = .ok (.return_, 1) := by decide +kernel
