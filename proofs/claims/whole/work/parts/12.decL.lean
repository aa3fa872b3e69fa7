theorem d_AC_init_0 : decode b_AC_init 0 = .ok (.aload_n 0, 1) := by decide +kernel
theorem d_AC_init_1 : decode b_AC_init 1 = .ok (.invokespecial 1, 3) := by decide +kernel
theorem d_AC_init_4 : decode b_AC_init 4 = .ok (.return_, 1) := by decide +kernel
theorem d_AL_init_0 : decode b_AL_init 0 = .ok (.aload_n 0, 1) := by decide +kernel
theorem d_AL_init_1 : decode b_AL_init 1 = .ok (.invokespecial 1, 3) := by decide +kernel
theorem d_AL_init_4 : decode b_AL_init 4 = .ok (.aload_n 0, 1) := by decide +kernel
theorem d_AL_init_5 : decode b_AL_init 5 = .ok (.iconst 0, 1) := by decide +kernel
theorem d_AL_init_6 : decode b_AL_init 6 = .ok (.putfield 7, 3) := by decide +kernel
theorem d_AL_init_9 : decode b_AL_init 9 = .ok (.return_, 1) := by decide +kernel
theorem d_L_init_0 : decode b_L_init 0 = .ok (.aload_n 0, 1) := by decide +kernel
theorem d_L_init_1 : decode b_L_init 1 = .ok (.invokespecial 1, 3) := by decide +kernel
theorem d_L_init_4 : decode b_L_init 4 = .ok (.aload_n 0, 1) := by decide +kernel
theorem d_L_init_5 : decode b_L_init 5 = .ok (.getstatic 39, 3) := by decide +kernel
theorem d_L_init_8 : decode b_L_init 8 = .ok (.putfield 9, 3) := by decide +kernel
theorem d_L_init_11 : decode b_L_init 11 = .ok (.return_, 1) := by decide +kernel
theorem d_L_add_0 : decode b_L_add 0 = .ok (.aload_n 0, 1) := by decide +kernel
theorem d_L_add_1 : decode b_L_add 1 = .ok (.dup, 1) := by decide +kernel
theorem d_L_add_2 : decode b_L_add 2 = .ok (.getfield 63, 3) := by decide +kernel
theorem d_L_add_5 : decode b_L_add 5 = .ok (.iconst 1, 1) := by decide +kernel
theorem d_L_add_6 : decode b_L_add 6 = .ok (.iadd, 1) := by decide +kernel
theorem d_L_add_7 : decode b_L_add 7 = .ok (.putfield 63, 3) := by decide +kernel
theorem d_L_add_10 : decode b_L_add 10 = .ok (.aload_n 0, 1) := by decide +kernel
theorem d_L_add_11 : decode b_L_add 11 = .ok (.aload_n 1, 1) := by decide +kernel
theorem d_L_add_12 : decode b_L_add 12 = .ok (.aload_n 0, 1) := by decide +kernel
theorem d_L_add_13 : decode b_L_add 13 = .ok (.getfield 9, 3) := by decide +kernel
theorem d_L_add_16 : decode b_L_add 16 = .ok (.aload_n 0, 1) := by decide +kernel
theorem d_L_add_17 : decode b_L_add 17 = .ok (.getfield 48, 3) := by decide +kernel
theorem d_L_add_20 : decode b_L_add 20 = .ok (.invokevirtual 131, 3) := by decide +kernel
theorem d_L_add_23 : decode b_L_add 23 = .ok (.iconst 1, 1) := by decide +kernel
theorem d_L_add_24 : decode b_L_add 24 = .ok (.ireturn, 1) := by decide +kernel
theorem d_L_add3_0 : decode b_L_add3 0 = .ok (.iload_n 3, 1) := by decide +kernel
theorem d_L_add3_1 : decode b_L_add3 1 = .ok (.aload_n 2, 1) := by decide +kernel
theorem d_L_add3_2 : decode b_L_add3 2 = .ok (.arraylength, 1) := by decide +kernel
theorem d_L_add3_3 : decode b_L_add3 3 = .ok (.if_icmp .ne 8, 3) := by decide +kernel
theorem d_L_add3_6 : decode b_L_add3 6 = .ok (.aload_n 0, 1) := by decide +kernel
theorem d_L_add3_7 : decode b_L_add3 7 = .ok (.invokevirtual 129, 3) := by decide +kernel
theorem d_L_add3_10 : decode b_L_add3 10 = .ok (.astore_n 2, 1) := by decide +kernel
theorem d_L_add3_11 : decode b_L_add3 11 = .ok (.aload_n 2, 1) := by decide +kernel
theorem d_L_add3_12 : decode b_L_add3 12 = .ok (.iload_n 3, 1) := by decide +kernel
theorem d_L_add3_13 : decode b_L_add3 13 = .ok (.aload_n 1, 1) := by decide +kernel
theorem d_L_add3_14 : decode b_L_add3 14 = .ok (.aastore, 1) := by decide +kernel
theorem d_L_add3_15 : decode b_L_add3 15 = .ok (.aload_n 0, 1) := by decide +kernel
theorem d_L_add3_16 : decode b_L_add3 16 = .ok (.iload_n 3, 1) := by decide +kernel
theorem d_L_add3_17 : decode b_L_add3 17 = .ok (.iconst 1, 1) := by decide +kernel
theorem d_L_add3_18 : decode b_L_add3 18 = .ok (.iadd, 1) := by decide +kernel
theorem d_L_add3_19 : decode b_L_add3 19 = .ok (.putfield 48, 3) := by decide +kernel
theorem d_L_add3_22 : decode b_L_add3 22 = .ok (.return_, 1) := by decide +kernel
theorem d_L_elementData_0 : decode b_L_elementData 0 = .ok (.aload_n 0, 1) := by decide +kernel
theorem d_L_elementData_1 : decode b_L_elementData 1 = .ok (.getfield 9, 3) := by decide +kernel
theorem d_L_elementData_4 : decode b_L_elementData 4 = .ok (.iload_n 1, 1) := by decide +kernel
theorem d_L_elementData_5 : decode b_L_elementData 5 = .ok (.aaload, 1) := by decide +kernel
theorem d_L_elementData_6 : decode b_L_elementData 6 = .ok (.areturn, 1) := by decide +kernel
theorem d_L_get_0 : decode b_L_get 0 = .ok (.iload_n 1, 1) := by decide +kernel
theorem d_L_get_1 : decode b_L_get 1 = .ok (.aload_n 0, 1) := by decide +kernel
theorem d_L_get_2 : decode b_L_get 2 = .ok (.getfield 48, 3) := by decide +kernel
theorem d_L_get_5 : decode b_L_get 5 = .ok (.invokestatic 118, 3) := by decide +kernel
theorem d_L_get_8 : decode b_L_get 8 = .ok (.pop, 1) := by decide +kernel
theorem d_L_get_9 : decode b_L_get 9 = .ok (.aload_n 0, 1) := by decide +kernel
theorem d_L_get_10 : decode b_L_get 10 = .ok (.iload_n 1, 1) := by decide +kernel
theorem d_L_get_11 : decode b_L_get 11 = .ok (.invokevirtual 123, 3) := by decide +kernel
theorem d_L_get_14 : decode b_L_get 14 = .ok (.areturn, 1) := by decide +kernel
theorem d_L_grow_0 : decode b_L_grow 0 = .ok (.aload_n 0, 1) := by decide +kernel
theorem d_L_grow_1 : decode b_L_grow 1 = .ok (.aload_n 0, 1) := by decide +kernel
theorem d_L_grow_2 : decode b_L_grow 2 = .ok (.getfield 48, 3) := by decide +kernel
theorem d_L_grow_5 : decode b_L_grow 5 = .ok (.iconst 1, 1) := by decide +kernel
theorem d_L_grow_6 : decode b_L_grow 6 = .ok (.iadd, 1) := by decide +kernel
theorem d_L_grow_7 : decode b_L_grow 7 = .ok (.invokevirtual 69, 3) := by decide +kernel
theorem d_L_grow_10 : decode b_L_grow 10 = .ok (.areturn, 1) := by decide +kernel
theorem d_L_growI_0 : decode b_L_growI 0 = .ok (.aload_n 0, 1) := by decide +kernel
theorem d_L_growI_1 : decode b_L_growI 1 = .ok (.getfield 9, 3) := by decide +kernel
theorem d_L_growI_4 : decode b_L_growI 4 = .ok (.arraylength, 1) := by decide +kernel
theorem d_L_growI_5 : decode b_L_growI 5 = .ok (.istore_n 2, 1) := by decide +kernel
theorem d_L_growI_6 : decode b_L_growI 6 = .ok (.iload_n 2, 1) := by decide +kernel
theorem d_L_growI_7 : decode b_L_growI 7 = .ok (.ifCond .gt 13, 3) := by decide +kernel
theorem d_L_growI_10 : decode b_L_growI 10 = .ok (.aload_n 0, 1) := by decide +kernel
theorem d_L_growI_11 : decode b_L_growI 11 = .ok (.getfield 9, 3) := by decide +kernel
theorem d_L_growI_14 : decode b_L_growI 14 = .ok (.getstatic 39, 3) := by decide +kernel
theorem d_L_growI_17 : decode b_L_growI 17 = .ok (.if_acmp .eq 28, 3) := by decide +kernel
theorem d_L_growI_20 : decode b_L_growI 20 = .ok (.iload_n 2, 1) := by decide +kernel
theorem d_L_growI_21 : decode b_L_growI 21 = .ok (.iload_n 1, 1) := by decide +kernel
theorem d_L_growI_22 : decode b_L_growI 22 = .ok (.iload_n 2, 1) := by decide +kernel
theorem d_L_growI_23 : decode b_L_growI 23 = .ok (.isub, 1) := by decide +kernel
theorem d_L_growI_24 : decode b_L_growI 24 = .ok (.iload_n 2, 1) := by decide +kernel
theorem d_L_growI_25 : decode b_L_growI 25 = .ok (.iconst 1, 1) := by decide +kernel
theorem d_L_growI_26 : decode b_L_growI 26 = .ok (.ishr, 1) := by decide +kernel
theorem d_L_growI_27 : decode b_L_growI 27 = .ok (.invokestatic 73, 3) := by decide +kernel
theorem d_L_growI_30 : decode b_L_growI 30 = .ok (.istore_n 3, 1) := by decide +kernel
theorem d_L_growI_31 : decode b_L_growI 31 = .ok (.aload_n 0, 1) := by decide +kernel
theorem d_L_growI_32 : decode b_L_growI 32 = .ok (.aload_n 0, 1) := by decide +kernel
theorem d_L_growI_33 : decode b_L_growI 33 = .ok (.getfield 9, 3) := by decide +kernel
theorem d_L_growI_36 : decode b_L_growI 36 = .ok (.iload_n 3, 1) := by decide +kernel
theorem d_L_growI_37 : decode b_L_growI 37 = .ok (.invokestatic 66, 3) := by decide +kernel
theorem d_L_growI_40 : decode b_L_growI 40 = .ok (.dup_x1, 1) := by decide +kernel
theorem d_L_growI_41 : decode b_L_growI 41 = .ok (.putfield 9, 3) := by decide +kernel
theorem d_L_growI_44 : decode b_L_growI 44 = .ok (.areturn, 1) := by decide +kernel
theorem d_L_growI_45 : decode b_L_growI 45 = .ok (.aload_n 0, 1) := by decide +kernel
theorem d_L_growI_46 : decode b_L_growI 46 = .ok (.bipush 10, 2) := by decide +kernel
theorem d_L_growI_48 : decode b_L_growI 48 = .ok (.iload_n 1, 1) := by decide +kernel
theorem d_L_growI_49 : decode b_L_growI 49 = .ok (.invokestatic 79, 3) := by decide +kernel
theorem d_L_growI_52 : decode b_L_growI 52 = .ok (.anewarray 7, 3) := by decide +kernel
theorem d_L_growI_55 : decode b_L_growI 55 = .ok (.dup_x1, 1) := by decide +kernel
theorem d_L_growI_56 : decode b_L_growI 56 = .ok (.putfield 9, 3) := by decide +kernel
theorem d_L_growI_59 : decode b_L_growI 59 = .ok (.areturn, 1) := by decide +kernel
theorem d_L_size_0 : decode b_L_size 0 = .ok (.aload_n 0, 1) := by decide +kernel
theorem d_L_size_1 : decode b_L_size 1 = .ok (.getfield 48, 3) := by decide +kernel
theorem d_L_size_4 : decode b_L_size 4 = .ok (.ireturn, 1) := by decide +kernel
theorem d_AR_copyOf_0 : decode b_AR_copyOf 0 = .ok (.aload_n 0, 1) := by decide +kernel
theorem d_AR_copyOf_1 : decode b_AR_copyOf 1 = .ok (.iload_n 1, 1) := by decide +kernel
theorem d_AR_copyOf_2 : decode b_AR_copyOf 2 = .ok (.aload_n 0, 1) := by decide +kernel
theorem d_AR_copyOf_3 : decode b_AR_copyOf 3 = .ok (.invokevirtual 86, 3) := by decide +kernel
theorem d_AR_copyOf_6 : decode b_AR_copyOf 6 = .ok (.invokestatic 300, 3) := by decide +kernel
theorem d_AR_copyOf_9 : decode b_AR_copyOf 9 = .ok (.areturn, 1) := by decide +kernel
theorem d_AR_copyOf3_0 : decode b_AR_copyOf3 0 = .ok (.aload_n 2, 1) := by decide +kernel
theorem d_AR_copyOf3_1 : decode b_AR_copyOf3 1 = .ok (.ldc 110, 2) := by decide +kernel
theorem d_AR_copyOf3_3 : decode b_AR_copyOf3 3 = .ok (.if_acmp .ne 10, 3) := by decide +kernel
theorem d_AR_copyOf3_6 : decode b_AR_copyOf3 6 = .ok (.iload_n 1, 1) := by decide +kernel
theorem d_AR_copyOf3_7 : decode b_AR_copyOf3 7 = .ok (.anewarray 2, 3) := by decide +kernel
theorem d_AR_copyOf3_10 : decode b_AR_copyOf3 10 = .ok (.goto 14, 3) := by decide +kernel
theorem d_AR_copyOf3_13 : decode b_AR_copyOf3 13 = .ok (.aload_n 2, 1) := by decide +kernel
theorem d_AR_copyOf3_14 : decode b_AR_copyOf3 14 = .ok (.invokevirtual 90, 3) := by decide +kernel
theorem d_AR_copyOf3_17 : decode b_AR_copyOf3 17 = .ok (.iload_n 1, 1) := by decide +kernel
theorem d_AR_copyOf3_18 : decode b_AR_copyOf3 18 = .ok (.invokestatic 95, 3) := by decide +kernel
theorem d_AR_copyOf3_21 : decode b_AR_copyOf3 21 = .ok (.checkcast 110, 3) := by decide +kernel
theorem d_AR_copyOf3_24 : decode b_AR_copyOf3 24 = .ok (.astore_n 3, 1) := by decide +kernel
theorem d_AR_copyOf3_25 : decode b_AR_copyOf3 25 = .ok (.aload_n 0, 1) := by decide +kernel
theorem d_AR_copyOf3_26 : decode b_AR_copyOf3 26 = .ok (.iconst 0, 1) := by decide +kernel
theorem d_AR_copyOf3_27 : decode b_AR_copyOf3 27 = .ok (.aload_n 3, 1) := by decide +kernel
theorem d_AR_copyOf3_28 : decode b_AR_copyOf3 28 = .ok (.iconst 0, 1) := by decide +kernel
theorem d_AR_copyOf3_29 : decode b_AR_copyOf3 29 = .ok (.aload_n 0, 1) := by decide +kernel
theorem d_AR_copyOf3_30 : decode b_AR_copyOf3 30 = .ok (.arraylength, 1) := by decide +kernel
theorem d_AR_copyOf3_31 : decode b_AR_copyOf3 31 = .ok (.iload_n 1, 1) := by decide +kernel
theorem d_AR_copyOf3_32 : decode b_AR_copyOf3 32 = .ok (.invokestatic 304, 3) := by decide +kernel
theorem d_AR_copyOf3_35 : decode b_AR_copyOf3 35 = .ok (.invokestatic 150, 3) := by decide +kernel
theorem d_AR_copyOf3_38 : decode b_AR_copyOf3 38 = .ok (.aload_n 3, 1) := by decide +kernel
theorem d_AR_copyOf3_39 : decode b_AR_copyOf3 39 = .ok (.areturn, 1) := by decide +kernel
theorem d_O_checkIndex_0 : decode b_O_checkIndex 0 = .ok (.iload_n 0, 1) := by decide +kernel
theorem d_O_checkIndex_1 : decode b_O_checkIndex 1 = .ok (.iload_n 1, 1) := by decide +kernel
theorem d_O_checkIndex_2 : decode b_O_checkIndex 2 = .ok (.aconst_null, 1) := by decide +kernel
theorem d_O_checkIndex_3 : decode b_O_checkIndex 3 = .ok (.invokestatic 105, 3) := by decide +kernel
theorem d_O_checkIndex_6 : decode b_O_checkIndex 6 = .ok (.ireturn, 1) := by decide +kernel
theorem d_AS_newLength_0 : decode b_AS_newLength 0 = .ok (.iload_n 0, 1) := by decide +kernel
theorem d_AS_newLength_1 : decode b_AS_newLength 1 = .ok (.iload_n 1, 1) := by decide +kernel
theorem d_AS_newLength_2 : decode b_AS_newLength 2 = .ok (.iload_n 2, 1) := by decide +kernel
theorem d_AS_newLength_3 : decode b_AS_newLength 3 = .ok (.invokestatic 194, 3) := by decide +kernel
theorem d_AS_newLength_6 : decode b_AS_newLength 6 = .ok (.iadd, 1) := by decide +kernel
theorem d_AS_newLength_7 : decode b_AS_newLength 7 = .ok (.istore_n 3, 1) := by decide +kernel
theorem d_AS_newLength_8 : decode b_AS_newLength 8 = .ok (.iconst 0, 1) := by decide +kernel
theorem d_AS_newLength_9 : decode b_AS_newLength 9 = .ok (.iload_n 3, 1) := by decide +kernel
theorem d_AS_newLength_10 : decode b_AS_newLength 10 = .ok (.if_icmp .ge 11, 3) := by decide +kernel
theorem d_AS_newLength_13 : decode b_AS_newLength 13 = .ok (.iload_n 3, 1) := by decide +kernel
theorem d_AS_newLength_14 : decode b_AS_newLength 14 = .ok (.ldc 200, 2) := by decide +kernel
theorem d_AS_newLength_16 : decode b_AS_newLength 16 = .ok (.if_icmp .gt 5, 3) := by decide +kernel
theorem d_AS_newLength_19 : decode b_AS_newLength 19 = .ok (.iload_n 3, 1) := by decide +kernel
theorem d_AS_newLength_20 : decode b_AS_newLength 20 = .ok (.ireturn, 1) := by decide +kernel
theorem d_AS_newLength_21 : decode b_AS_newLength 21 = .ok (.iload_n 0, 1) := by decide +kernel
theorem d_AS_newLength_22 : decode b_AS_newLength 22 = .ok (.iload_n 1, 1) := by decide +kernel
theorem d_AS_newLength_23 : decode b_AS_newLength 23 = .ok (.invokestatic 201, 3) := by decide +kernel
theorem d_AS_newLength_26 : decode b_AS_newLength 26 = .ok (.ireturn, 1) := by decide +kernel
theorem d_P_checkIndex_0 : decode b_P_checkIndex 0 = .ok (.iload_n 0, 1) := by decide +kernel
theorem d_P_checkIndex_1 : decode b_P_checkIndex 1 = .ok (.ifCond .lt 8, 3) := by decide +kernel
theorem d_P_checkIndex_4 : decode b_P_checkIndex 4 = .ok (.iload_n 0, 1) := by decide +kernel
theorem d_P_checkIndex_5 : decode b_P_checkIndex 5 = .ok (.iload_n 1, 1) := by decide +kernel
theorem d_P_checkIndex_6 : decode b_P_checkIndex 6 = .ok (.if_icmp .lt 10, 3) := by decide +kernel
theorem d_P_checkIndex_9 : decode b_P_checkIndex 9 = .ok (.aload_n 2, 1) := by decide +kernel
theorem d_P_checkIndex_10 : decode b_P_checkIndex 10 = .ok (.iload_n 0, 1) := by decide +kernel
theorem d_P_checkIndex_11 : decode b_P_checkIndex 11 = .ok (.iload_n 1, 1) := by decide +kernel
theorem d_P_checkIndex_12 : decode b_P_checkIndex 12 = .ok (.invokestatic 95, 3) := by decide +kernel
theorem d_P_checkIndex_15 : decode b_P_checkIndex 15 = .ok (.athrow, 1) := by decide +kernel
theorem d_P_checkIndex_16 : decode b_P_checkIndex 16 = .ok (.iload_n 0, 1) := by decide +kernel
theorem d_P_checkIndex_17 : decode b_P_checkIndex 17 = .ok (.ireturn, 1) := by decide +kernel
