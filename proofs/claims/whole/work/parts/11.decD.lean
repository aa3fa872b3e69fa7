theorem d_D_init_0 : decode b_D_init 0 = .ok (.aload_n 0, 1) := by decide +kernel
theorem d_D_init_1 : decode b_D_init 1 = .ok (.invokespecial 1, 3) := by decide +kernel
theorem d_D_init_4 : decode b_D_init 4 = .ok (.aload_n 0, 1) := by decide +kernel
theorem d_D_init_5 : decode b_D_init 5 = .ok (.bipush 6, 2) := by decide +kernel
theorem d_D_init_7 : decode b_D_init 7 = .ok (.anewarray 9, 3) := by decide +kernel
theorem d_D_init_10 : decode b_D_init 10 = .ok (.putfield 11, 3) := by decide +kernel
theorem d_D_init_13 : decode b_D_init 13 = .ok (.aload_n 0, 1) := by decide +kernel
theorem d_D_init_14 : decode b_D_init 14 = .ok (.new 15, 3) := by decide +kernel
theorem d_D_init_17 : decode b_D_init 17 = .ok (.dup, 1) := by decide +kernel
theorem d_D_init_18 : decode b_D_init 18 = .ok (.invokespecial 17, 3) := by decide +kernel
theorem d_D_init_21 : decode b_D_init 21 = .ok (.putfield 18, 3) := by decide +kernel
theorem d_D_init_24 : decode b_D_init 24 = .ok (.aload_n 0, 1) := by decide +kernel
theorem d_D_init_25 : decode b_D_init 25 = .ok (.iconst 0, 1) := by decide +kernel
theorem d_D_init_26 : decode b_D_init 26 = .ok (.putfield 22, 3) := by decide +kernel
theorem d_D_init_29 : decode b_D_init 29 = .ok (.return_, 1) := by decide +kernel
theorem d_D_begin_0 : decode b_D_begin 0 = .ok (.iload_n 1, 1) := by decide +kernel
theorem d_D_begin_1 : decode b_D_begin 1 = .ok (.invokestatic 26, 3) := by decide +kernel
theorem d_D_begin_4 : decode b_D_begin 4 = .ok (.ifCond .eq 21, 3) := by decide +kernel
theorem d_D_begin_7 : decode b_D_begin 7 = .ok (.iload_n 2, 1) := by decide +kernel
theorem d_D_begin_8 : decode b_D_begin 8 = .ok (.ifCond .lt 17, 3) := by decide +kernel
theorem d_D_begin_11 : decode b_D_begin 11 = .ok (.iload_n 2, 1) := by decide +kernel
theorem d_D_begin_12 : decode b_D_begin 12 = .ok (.iconst 2, 1) := by decide +kernel
theorem d_D_begin_13 : decode b_D_begin 13 = .ok (.if_icmp .ge 12, 3) := by decide +kernel
theorem d_D_begin_16 : decode b_D_begin 16 = .ok (.aload_n 0, 1) := by decide +kernel
theorem d_D_begin_17 : decode b_D_begin 17 = .ok (.getfield 11, 3) := by decide +kernel
theorem d_D_begin_20 : decode b_D_begin 20 = .ok (.iload_n 1, 1) := by decide +kernel
theorem d_D_begin_21 : decode b_D_begin 21 = .ok (.aaload, 1) := by decide +kernel
theorem d_D_begin_22 : decode b_D_begin 22 = .ok (.ifnull 5, 3) := by decide +kernel
theorem d_D_begin_25 : decode b_D_begin 25 = .ok (.iconst 0, 1) := by decide +kernel
theorem d_D_begin_26 : decode b_D_begin 26 = .ok (.ireturn, 1) := by decide +kernel
theorem d_D_begin_27 : decode b_D_begin 27 = .ok (.aload_n 0, 1) := by decide +kernel
theorem d_D_begin_28 : decode b_D_begin 28 = .ok (.getfield 11, 3) := by decide +kernel
theorem d_D_begin_31 : decode b_D_begin 31 = .ok (.iload_n 1, 1) := by decide +kernel
theorem d_D_begin_32 : decode b_D_begin 32 = .ok (.new 9, 3) := by decide +kernel
theorem d_D_begin_35 : decode b_D_begin 35 = .ok (.dup, 1) := by decide +kernel
theorem d_D_begin_36 : decode b_D_begin 36 = .ok (.iload_n 2, 1) := by decide +kernel
theorem d_D_begin_37 : decode b_D_begin 37 = .ok (.invokespecial 30, 3) := by decide +kernel
theorem d_D_begin_40 : decode b_D_begin 40 = .ok (.aastore, 1) := by decide +kernel
theorem d_D_begin_41 : decode b_D_begin 41 = .ok (.iconst 1, 1) := by decide +kernel
theorem d_D_begin_42 : decode b_D_begin 42 = .ok (.ireturn, 1) := by decide +kernel
theorem d_D_statement_0 : decode b_D_statement 0 = .ok (.aload_n 0, 1) := by decide +kernel
theorem d_D_statement_1 : decode b_D_statement 1 = .ok (.iload_n 1, 1) := by decide +kernel
theorem d_D_statement_2 : decode b_D_statement 2 = .ok (.invokevirtual 33, 3) := by decide +kernel
theorem d_D_statement_5 : decode b_D_statement 5 = .ok (.astore_n 2, 1) := by decide +kernel
theorem d_D_statement_6 : decode b_D_statement 6 = .ok (.aload_n 2, 1) := by decide +kernel
theorem d_D_statement_7 : decode b_D_statement 7 = .ok (.ifnonnull 5, 3) := by decide +kernel
theorem d_D_statement_10 : decode b_D_statement 10 = .ok (.iconst (-1), 1) := by decide +kernel
theorem d_D_statement_11 : decode b_D_statement 11 = .ok (.ireturn, 1) := by decide +kernel
theorem d_D_statement_12 : decode b_D_statement 12 = .ok (.aload_n 2, 1) := by decide +kernel
theorem d_D_statement_13 : decode b_D_statement 13 = .ok (.dup, 1) := by decide +kernel
theorem d_D_statement_14 : decode b_D_statement 14 = .ok (.getfield 37, 3) := by decide +kernel
theorem d_D_statement_17 : decode b_D_statement 17 = .ok (.iconst 1, 1) := by decide +kernel
theorem d_D_statement_18 : decode b_D_statement 18 = .ok (.iadd, 1) := by decide +kernel
theorem d_D_statement_19 : decode b_D_statement 19 = .ok (.putfield 37, 3) := by decide +kernel
theorem d_D_statement_22 : decode b_D_statement 22 = .ok (.aload_n 2, 1) := by decide +kernel
theorem d_D_statement_23 : decode b_D_statement 23 = .ok (.getfield 40, 3) := by decide +kernel
theorem d_D_statement_26 : decode b_D_statement 26 = .ok (.ifCond .eq 10, 3) := by decide +kernel
theorem d_D_statement_29 : decode b_D_statement 29 = .ok (.aload_n 2, 1) := by decide +kernel
theorem d_D_statement_30 : decode b_D_statement 30 = .ok (.invokevirtual 43, 3) := by decide +kernel
theorem d_D_statement_33 : decode b_D_statement 33 = .ok (.ifCond .ne 11, 3) := by decide +kernel
theorem d_D_statement_36 : decode b_D_statement 36 = .ok (.aload_n 2, 1) := by decide +kernel
theorem d_D_statement_37 : decode b_D_statement 37 = .ok (.aload_n 0, 1) := by decide +kernel
theorem d_D_statement_38 : decode b_D_statement 38 = .ok (.getfield 22, 3) := by decide +kernel
theorem d_D_statement_41 : decode b_D_statement 41 = .ok (.putfield 47, 3) := by decide +kernel
theorem d_D_statement_44 : decode b_D_statement 44 = .ok (.aload_n 2, 1) := by decide +kernel
theorem d_D_statement_45 : decode b_D_statement 45 = .ok (.getfield 37, 3) := by decide +kernel
theorem d_D_statement_48 : decode b_D_statement 48 = .ok (.ireturn, 1) := by decide +kernel
theorem d_D_number_0 : decode b_D_number 0 = .ok (.aload_n 0, 1) := by decide +kernel
theorem d_D_number_1 : decode b_D_number 1 = .ok (.iload_n 1, 1) := by decide +kernel
theorem d_D_number_2 : decode b_D_number 2 = .ok (.invokevirtual 33, 3) := by decide +kernel
theorem d_D_number_5 : decode b_D_number 5 = .ok (.astore_n 2, 1) := by decide +kernel
theorem d_D_number_6 : decode b_D_number 6 = .ok (.aload_n 2, 1) := by decide +kernel
theorem d_D_number_7 : decode b_D_number 7 = .ok (.ifnull 21, 3) := by decide +kernel
theorem d_D_number_10 : decode b_D_number 10 = .ok (.aload_n 2, 1) := by decide +kernel
theorem d_D_number_11 : decode b_D_number 11 = .ok (.invokestatic 50, 3) := by decide +kernel
theorem d_D_number_14 : decode b_D_number 14 = .ok (.sipush 4000, 3) := by decide +kernel
theorem d_D_number_17 : decode b_D_number 17 = .ok (.aload_n 0, 1) := by decide +kernel
theorem d_D_number_18 : decode b_D_number 18 = .ok (.getfield 18, 3) := by decide +kernel
theorem d_D_number_21 : decode b_D_number 21 = .ok (.invokevirtual 54, 3) := by decide +kernel
theorem d_D_number_24 : decode b_D_number 24 = .ok (.isub, 1) := by decide +kernel
theorem d_D_number_25 : decode b_D_number 25 = .ok (.if_icmp .le 5, 3) := by decide +kernel
theorem d_D_number_28 : decode b_D_number 28 = .ok (.iconst (-1), 1) := by decide +kernel
theorem d_D_number_29 : decode b_D_number 29 = .ok (.ireturn, 1) := by decide +kernel
theorem d_D_number_30 : decode b_D_number 30 = .ok (.aload_n 0, 1) := by decide +kernel
theorem d_D_number_31 : decode b_D_number 31 = .ok (.aload_n 2, 1) := by decide +kernel
theorem d_D_number_32 : decode b_D_number 32 = .ok (.invokevirtual 58, 3) := by decide +kernel
theorem d_D_number_35 : decode b_D_number 35 = .ok (.aload_n 2, 1) := by decide +kernel
theorem d_D_number_36 : decode b_D_number 36 = .ok (.getfield 62, 3) := by decide +kernel
theorem d_D_number_39 : decode b_D_number 39 = .ok (.aload_n 2, 1) := by decide +kernel
theorem d_D_number_40 : decode b_D_number 40 = .ok (.getfield 66, 3) := by decide +kernel
theorem d_D_number_43 : decode b_D_number 43 = .ok (.iaload, 1) := by decide +kernel
theorem d_D_number_44 : decode b_D_number 44 = .ok (.ireturn, 1) := by decide +kernel
theorem d_D_save_0 : decode b_D_save 0 = .ok (.aload_n 0, 1) := by decide +kernel
theorem d_D_save_1 : decode b_D_save 1 = .ok (.iload_n 1, 1) := by decide +kernel
theorem d_D_save_2 : decode b_D_save 2 = .ok (.invokevirtual 33, 3) := by decide +kernel
theorem d_D_save_5 : decode b_D_save 5 = .ok (.astore_n 2, 1) := by decide +kernel
theorem d_D_save_6 : decode b_D_save 6 = .ok (.aload_n 2, 1) := by decide +kernel
theorem d_D_save_7 : decode b_D_save 7 = .ok (.ifnull 12, 3) := by decide +kernel
theorem d_D_save_10 : decode b_D_save 10 = .ok (.aload_n 2, 1) := by decide +kernel
theorem d_D_save_11 : decode b_D_save 11 = .ok (.getfield 66, 3) := by decide +kernel
theorem d_D_save_14 : decode b_D_save 14 = .ok (.bipush 7, 2) := by decide +kernel
theorem d_D_save_16 : decode b_D_save 16 = .ok (.if_icmp .lt 5, 3) := by decide +kernel
theorem d_D_save_19 : decode b_D_save 19 = .ok (.iconst (-1), 1) := by decide +kernel
theorem d_D_save_20 : decode b_D_save 20 = .ok (.ireturn, 1) := by decide +kernel
theorem d_D_save_21 : decode b_D_save 21 = .ok (.aload_n 2, 1) := by decide +kernel
theorem d_D_save_22 : decode b_D_save 22 = .ok (.dup, 1) := by decide +kernel
theorem d_D_save_23 : decode b_D_save 23 = .ok (.getfield 66, 3) := by decide +kernel
theorem d_D_save_26 : decode b_D_save 26 = .ok (.iconst 1, 1) := by decide +kernel
theorem d_D_save_27 : decode b_D_save 27 = .ok (.iadd, 1) := by decide +kernel
theorem d_D_save_28 : decode b_D_save 28 = .ok (.putfield 66, 3) := by decide +kernel
theorem d_D_save_31 : decode b_D_save 31 = .ok (.aload_n 2, 1) := by decide +kernel
theorem d_D_save_32 : decode b_D_save 32 = .ok (.getfield 66, 3) := by decide +kernel
theorem d_D_save_35 : decode b_D_save 35 = .ok (.ireturn, 1) := by decide +kernel
theorem d_D_release_0 : decode b_D_release 0 = .ok (.aload_n 0, 1) := by decide +kernel
theorem d_D_release_1 : decode b_D_release 1 = .ok (.iload_n 1, 1) := by decide +kernel
theorem d_D_release_2 : decode b_D_release 2 = .ok (.invokevirtual 33, 3) := by decide +kernel
theorem d_D_release_5 : decode b_D_release 5 = .ok (.astore_n 3, 1) := by decide +kernel
theorem d_D_release_6 : decode b_D_release 6 = .ok (.aload_n 3, 1) := by decide +kernel
theorem d_D_release_7 : decode b_D_release 7 = .ok (.ifnull 11, 3) := by decide +kernel
theorem d_D_release_10 : decode b_D_release 10 = .ok (.aload_n 3, 1) := by decide +kernel
theorem d_D_release_11 : decode b_D_release 11 = .ok (.iload_n 2, 1) := by decide +kernel
theorem d_D_release_12 : decode b_D_release 12 = .ok (.invokevirtual 69, 3) := by decide +kernel
theorem d_D_release_15 : decode b_D_release 15 = .ok (.ifCond .ne 5, 3) := by decide +kernel
theorem d_D_release_18 : decode b_D_release 18 = .ok (.iconst 0, 1) := by decide +kernel
theorem d_D_release_19 : decode b_D_release 19 = .ok (.ireturn, 1) := by decide +kernel
theorem d_D_release_20 : decode b_D_release 20 = .ok (.iconst 0, 1) := by decide +kernel
theorem d_D_release_21 : decode b_D_release 21 = .ok (.istore 4, 2) := by decide +kernel
theorem d_D_release_23 : decode b_D_release 23 = .ok (.iload 4, 2) := by decide +kernel
theorem d_D_release_25 : decode b_D_release 25 = .ok (.aload_n 0, 1) := by decide +kernel
theorem d_D_release_26 : decode b_D_release 26 = .ok (.getfield 18, 3) := by decide +kernel
theorem d_D_release_29 : decode b_D_release 29 = .ok (.invokevirtual 54, 3) := by decide +kernel
theorem d_D_release_32 : decode b_D_release 32 = .ok (.if_icmp .ge 49, 3) := by decide +kernel
theorem d_D_release_35 : decode b_D_release 35 = .ok (.aload_n 0, 1) := by decide +kernel
theorem d_D_release_36 : decode b_D_release 36 = .ok (.getfield 18, 3) := by decide +kernel
theorem d_D_release_39 : decode b_D_release 39 = .ok (.iload 4, 2) := by decide +kernel
theorem d_D_release_41 : decode b_D_release 41 = .ok (.invokevirtual 72, 3) := by decide +kernel
theorem d_D_release_44 : decode b_D_release 44 = .ok (.checkcast 76, 3) := by decide +kernel
theorem d_D_release_47 : decode b_D_release 47 = .ok (.astore 5, 2) := by decide +kernel
theorem d_D_release_49 : decode b_D_release 49 = .ok (.aload_n 3, 1) := by decide +kernel
theorem d_D_release_50 : decode b_D_release 50 = .ok (.aload 5, 2) := by decide +kernel
theorem d_D_release_52 : decode b_D_release 52 = .ok (.invokevirtual 78, 3) := by decide +kernel
theorem d_D_release_55 : decode b_D_release 55 = .ok (.ifCond .eq 20, 3) := by decide +kernel
theorem d_D_release_58 : decode b_D_release 58 = .ok (.aload 5, 2) := by decide +kernel
theorem d_D_release_60 : decode b_D_release 60 = .ok (.getfield 82, 3) := by decide +kernel
theorem d_D_release_63 : decode b_D_release 63 = .ok (.iload_n 2, 1) := by decide +kernel
theorem d_D_release_64 : decode b_D_release 64 = .ok (.if_icmp .lt 11, 3) := by decide +kernel
theorem d_D_release_67 : decode b_D_release 67 = .ok (.aload 5, 2) := by decide +kernel
theorem d_D_release_69 : decode b_D_release 69 = .ok (.iload_n 2, 1) := by decide +kernel
theorem d_D_release_70 : decode b_D_release 70 = .ok (.iconst 1, 1) := by decide +kernel
theorem d_D_release_71 : decode b_D_release 71 = .ok (.isub, 1) := by decide +kernel
theorem d_D_release_72 : decode b_D_release 72 = .ok (.putfield 82, 3) := by decide +kernel
theorem d_D_release_75 : decode b_D_release 75 = .ok (.iinc 4 1, 3) := by decide +kernel
theorem d_D_release_78 : decode b_D_release 78 = .ok (.goto (-55), 3) := by decide +kernel
theorem d_D_release_81 : decode b_D_release 81 = .ok (.aload_n 3, 1) := by decide +kernel
theorem d_D_release_82 : decode b_D_release 82 = .ok (.iload_n 2, 1) := by decide +kernel
theorem d_D_release_83 : decode b_D_release 83 = .ok (.invokevirtual 85, 3) := by decide +kernel
theorem d_D_release_86 : decode b_D_release 86 = .ok (.aload_n 3, 1) := by decide +kernel
theorem d_D_release_87 : decode b_D_release 87 = .ok (.iload_n 2, 1) := by decide +kernel
theorem d_D_release_88 : decode b_D_release 88 = .ok (.iconst 1, 1) := by decide +kernel
theorem d_D_release_89 : decode b_D_release 89 = .ok (.isub, 1) := by decide +kernel
theorem d_D_release_90 : decode b_D_release 90 = .ok (.putfield 66, 3) := by decide +kernel
theorem d_D_release_93 : decode b_D_release 93 = .ok (.iconst 1, 1) := by decide +kernel
theorem d_D_release_94 : decode b_D_release 94 = .ok (.ireturn, 1) := by decide +kernel
theorem d_D_back_0 : decode b_D_back 0 = .ok (.aload_n 0, 1) := by decide +kernel
theorem d_D_back_1 : decode b_D_back 1 = .ok (.iload_n 1, 1) := by decide +kernel
theorem d_D_back_2 : decode b_D_back 2 = .ok (.invokevirtual 33, 3) := by decide +kernel
theorem d_D_back_5 : decode b_D_back 5 = .ok (.astore_n 3, 1) := by decide +kernel
theorem d_D_back_6 : decode b_D_back 6 = .ok (.aload_n 3, 1) := by decide +kernel
theorem d_D_back_7 : decode b_D_back 7 = .ok (.ifnull 11, 3) := by decide +kernel
theorem d_D_back_10 : decode b_D_back 10 = .ok (.aload_n 3, 1) := by decide +kernel
theorem d_D_back_11 : decode b_D_back 11 = .ok (.iload_n 2, 1) := by decide +kernel
theorem d_D_back_12 : decode b_D_back 12 = .ok (.invokevirtual 69, 3) := by decide +kernel
theorem d_D_back_15 : decode b_D_back 15 = .ok (.ifCond .ne 5, 3) := by decide +kernel
theorem d_D_back_18 : decode b_D_back 18 = .ok (.iconst 0, 1) := by decide +kernel
theorem d_D_back_19 : decode b_D_back 19 = .ok (.ireturn, 1) := by decide +kernel
theorem d_D_back_20 : decode b_D_back 20 = .ok (.aload_n 0, 1) := by decide +kernel
theorem d_D_back_21 : decode b_D_back 21 = .ok (.aload_n 3, 1) := by decide +kernel
theorem d_D_back_22 : decode b_D_back 22 = .ok (.iload_n 2, 1) := by decide +kernel
theorem d_D_back_23 : decode b_D_back 23 = .ok (.invokevirtual 88, 3) := by decide +kernel
theorem d_D_back_26 : decode b_D_back 26 = .ok (.aload_n 3, 1) := by decide +kernel
theorem d_D_back_27 : decode b_D_back 27 = .ok (.iload_n 2, 1) := by decide +kernel
theorem d_D_back_28 : decode b_D_back 28 = .ok (.invokevirtual 85, 3) := by decide +kernel
theorem d_D_back_31 : decode b_D_back 31 = .ok (.aload_n 3, 1) := by decide +kernel
theorem d_D_back_32 : decode b_D_back 32 = .ok (.iload_n 2, 1) := by decide +kernel
theorem d_D_back_33 : decode b_D_back 33 = .ok (.putfield 66, 3) := by decide +kernel
theorem d_D_back_36 : decode b_D_back 36 = .ok (.iconst 1, 1) := by decide +kernel
theorem d_D_back_37 : decode b_D_back 37 = .ok (.ireturn, 1) := by decide +kernel
theorem d_D_commit_0 : decode b_D_commit 0 = .ok (.aload_n 0, 1) := by decide +kernel
theorem d_D_commit_1 : decode b_D_commit 1 = .ok (.iload_n 1, 1) := by decide +kernel
theorem d_D_commit_2 : decode b_D_commit 2 = .ok (.invokevirtual 33, 3) := by decide +kernel
theorem d_D_commit_5 : decode b_D_commit 5 = .ok (.astore_n 2, 1) := by decide +kernel
theorem d_D_commit_6 : decode b_D_commit 6 = .ok (.aload_n 2, 1) := by decide +kernel
theorem d_D_commit_7 : decode b_D_commit 7 = .ok (.ifnonnull 5, 3) := by decide +kernel
theorem d_D_commit_10 : decode b_D_commit 10 = .ok (.iconst (-1), 1) := by decide +kernel
theorem d_D_commit_11 : decode b_D_commit 11 = .ok (.ireturn, 1) := by decide +kernel
theorem d_D_commit_12 : decode b_D_commit 12 = .ok (.aload_n 0, 1) := by decide +kernel
theorem d_D_commit_13 : decode b_D_commit 13 = .ok (.getfield 11, 3) := by decide +kernel
theorem d_D_commit_16 : decode b_D_commit 16 = .ok (.iload_n 1, 1) := by decide +kernel
theorem d_D_commit_17 : decode b_D_commit 17 = .ok (.aconst_null, 1) := by decide +kernel
theorem d_D_commit_18 : decode b_D_commit 18 = .ok (.aastore, 1) := by decide +kernel
theorem d_D_commit_19 : decode b_D_commit 19 = .ok (.aload_n 2, 1) := by decide +kernel
theorem d_D_commit_20 : decode b_D_commit 20 = .ok (.getfield 62, 3) := by decide +kernel
theorem d_D_commit_23 : decode b_D_commit 23 = .ok (.iconst 0, 1) := by decide +kernel
theorem d_D_commit_24 : decode b_D_commit 24 = .ok (.iaload, 1) := by decide +kernel
theorem d_D_commit_25 : decode b_D_commit 25 = .ok (.ifCond .ne 5, 3) := by decide +kernel
theorem d_D_commit_28 : decode b_D_commit 28 = .ok (.iconst 0, 1) := by decide +kernel
theorem d_D_commit_29 : decode b_D_commit 29 = .ok (.ireturn, 1) := by decide +kernel
theorem d_D_commit_30 : decode b_D_commit 30 = .ok (.aload_n 0, 1) := by decide +kernel
theorem d_D_commit_31 : decode b_D_commit 31 = .ok (.dup, 1) := by decide +kernel
theorem d_D_commit_32 : decode b_D_commit 32 = .ok (.getfield 22, 3) := by decide +kernel
theorem d_D_commit_35 : decode b_D_commit 35 = .ok (.iconst 1, 1) := by decide +kernel
theorem d_D_commit_36 : decode b_D_commit 36 = .ok (.iadd, 1) := by decide +kernel
theorem d_D_commit_37 : decode b_D_commit 37 = .ok (.putfield 22, 3) := by decide +kernel
theorem d_D_commit_40 : decode b_D_commit 40 = .ok (.aload_n 0, 1) := by decide +kernel
theorem d_D_commit_41 : decode b_D_commit 41 = .ok (.aload_n 2, 1) := by decide +kernel
theorem d_D_commit_42 : decode b_D_commit 42 = .ok (.invokevirtual 92, 3) := by decide +kernel
theorem d_D_commit_45 : decode b_D_commit 45 = .ok (.aload_n 0, 1) := by decide +kernel
theorem d_D_commit_46 : decode b_D_commit 46 = .ok (.getfield 22, 3) := by decide +kernel
theorem d_D_commit_49 : decode b_D_commit 49 = .ok (.ireturn, 1) := by decide +kernel
theorem d_D_abort_0 : decode b_D_abort 0 = .ok (.aload_n 0, 1) := by decide +kernel
theorem d_D_abort_1 : decode b_D_abort 1 = .ok (.iload_n 1, 1) := by decide +kernel
theorem d_D_abort_2 : decode b_D_abort 2 = .ok (.invokevirtual 33, 3) := by decide +kernel
theorem d_D_abort_5 : decode b_D_abort 5 = .ok (.astore_n 2, 1) := by decide +kernel
theorem d_D_abort_6 : decode b_D_abort 6 = .ok (.aload_n 2, 1) := by decide +kernel
theorem d_D_abort_7 : decode b_D_abort 7 = .ok (.ifnonnull 5, 3) := by decide +kernel
theorem d_D_abort_10 : decode b_D_abort 10 = .ok (.iconst 0, 1) := by decide +kernel
theorem d_D_abort_11 : decode b_D_abort 11 = .ok (.ireturn, 1) := by decide +kernel
theorem d_D_abort_12 : decode b_D_abort 12 = .ok (.aload_n 0, 1) := by decide +kernel
theorem d_D_abort_13 : decode b_D_abort 13 = .ok (.aload_n 2, 1) := by decide +kernel
theorem d_D_abort_14 : decode b_D_abort 14 = .ok (.iconst 0, 1) := by decide +kernel
theorem d_D_abort_15 : decode b_D_abort 15 = .ok (.invokevirtual 88, 3) := by decide +kernel
theorem d_D_abort_18 : decode b_D_abort 18 = .ok (.aload_n 0, 1) := by decide +kernel
theorem d_D_abort_19 : decode b_D_abort 19 = .ok (.getfield 11, 3) := by decide +kernel
theorem d_D_abort_22 : decode b_D_abort 22 = .ok (.iload_n 1, 1) := by decide +kernel
theorem d_D_abort_23 : decode b_D_abort 23 = .ok (.aconst_null, 1) := by decide +kernel
theorem d_D_abort_24 : decode b_D_abort 24 = .ok (.aastore, 1) := by decide +kernel
theorem d_D_abort_25 : decode b_D_abort 25 = .ok (.iconst 1, 1) := by decide +kernel
theorem d_D_abort_26 : decode b_D_abort 26 = .ok (.ireturn, 1) := by decide +kernel
theorem d_D_crash_0 : decode b_D_crash 0 = .ok (.iconst 0, 1) := by decide +kernel
theorem d_D_crash_1 : decode b_D_crash 1 = .ok (.istore_n 1, 1) := by decide +kernel
theorem d_D_crash_2 : decode b_D_crash 2 = .ok (.iload_n 1, 1) := by decide +kernel
theorem d_D_crash_3 : decode b_D_crash 3 = .ok (.bipush 6, 2) := by decide +kernel
theorem d_D_crash_5 : decode b_D_crash 5 = .ok (.if_icmp .ge 15, 3) := by decide +kernel
theorem d_D_crash_8 : decode b_D_crash 8 = .ok (.aload_n 0, 1) := by decide +kernel
theorem d_D_crash_9 : decode b_D_crash 9 = .ok (.iload_n 1, 1) := by decide +kernel
theorem d_D_crash_10 : decode b_D_crash 10 = .ok (.invokevirtual 95, 3) := by decide +kernel
theorem d_D_crash_13 : decode b_D_crash 13 = .ok (.pop, 1) := by decide +kernel
theorem d_D_crash_14 : decode b_D_crash 14 = .ok (.iinc 1 1, 3) := by decide +kernel
theorem d_D_crash_17 : decode b_D_crash 17 = .ok (.goto (-15), 3) := by decide +kernel
theorem d_D_crash_20 : decode b_D_crash 20 = .ok (.return_, 1) := by decide +kernel
theorem d_D_state_0 : decode b_D_state 0 = .ok (.aload_n 0, 1) := by decide +kernel
theorem d_D_state_1 : decode b_D_state 1 = .ok (.iload_n 1, 1) := by decide +kernel
theorem d_D_state_2 : decode b_D_state 2 = .ok (.invokevirtual 98, 3) := by decide +kernel
theorem d_D_state_5 : decode b_D_state 5 = .ok (.astore_n 2, 1) := by decide +kernel
theorem d_D_state_6 : decode b_D_state 6 = .ok (.aload_n 2, 1) := by decide +kernel
theorem d_D_state_7 : decode b_D_state 7 = .ok (.ifnonnull 7, 3) := by decide +kernel
theorem d_D_state_10 : decode b_D_state 10 = .ok (.iconst 0, 1) := by decide +kernel
theorem d_D_state_11 : decode b_D_state 11 = .ok (.goto 7, 3) := by decide +kernel
theorem d_D_state_14 : decode b_D_state 14 = .ok (.aload_n 2, 1) := by decide +kernel
theorem d_D_state_15 : decode b_D_state 15 = .ok (.getfield 102, 3) := by decide +kernel
theorem d_D_state_18 : decode b_D_state 18 = .ok (.ireturn, 1) := by decide +kernel
theorem d_D_root_0 : decode b_D_root 0 = .ok (.aload_n 0, 1) := by decide +kernel
theorem d_D_root_1 : decode b_D_root 1 = .ok (.iload_n 1, 1) := by decide +kernel
theorem d_D_root_2 : decode b_D_root 2 = .ok (.invokevirtual 98, 3) := by decide +kernel
theorem d_D_root_5 : decode b_D_root 5 = .ok (.astore_n 2, 1) := by decide +kernel
theorem d_D_root_6 : decode b_D_root 6 = .ok (.aload_n 2, 1) := by decide +kernel
theorem d_D_root_7 : decode b_D_root 7 = .ok (.ifnonnull 7, 3) := by decide +kernel
theorem d_D_root_10 : decode b_D_root 10 = .ok (.iconst 0, 1) := by decide +kernel
theorem d_D_root_11 : decode b_D_root 11 = .ok (.goto 7, 3) := by decide +kernel
theorem d_D_root_14 : decode b_D_root 14 = .ok (.aload_n 2, 1) := by decide +kernel
theorem d_D_root_15 : decode b_D_root 15 = .ok (.getfield 105, 3) := by decide +kernel
theorem d_D_root_18 : decode b_D_root 18 = .ok (.ireturn, 1) := by decide +kernel
theorem d_D_place_0 : decode b_D_place 0 = .ok (.aload_n 0, 1) := by decide +kernel
theorem d_D_place_1 : decode b_D_place 1 = .ok (.iload_n 1, 1) := by decide +kernel
theorem d_D_place_2 : decode b_D_place 2 = .ok (.invokevirtual 98, 3) := by decide +kernel
theorem d_D_place_5 : decode b_D_place 5 = .ok (.astore_n 2, 1) := by decide +kernel
theorem d_D_place_6 : decode b_D_place 6 = .ok (.aload_n 2, 1) := by decide +kernel
theorem d_D_place_7 : decode b_D_place 7 = .ok (.ifnonnull 7, 3) := by decide +kernel
theorem d_D_place_10 : decode b_D_place 10 = .ok (.iconst 0, 1) := by decide +kernel
theorem d_D_place_11 : decode b_D_place 11 = .ok (.goto 7, 3) := by decide +kernel
theorem d_D_place_14 : decode b_D_place 14 = .ok (.aload_n 2, 1) := by decide +kernel
theorem d_D_place_15 : decode b_D_place 15 = .ok (.getfield 108, 3) := by decide +kernel
theorem d_D_place_18 : decode b_D_place 18 = .ok (.ireturn, 1) := by decide +kernel
theorem d_D_sees_0 : decode b_D_sees 0 = .ok (.aload_n 0, 1) := by decide +kernel
theorem d_D_sees_1 : decode b_D_sees 1 = .ok (.iload_n 1, 1) := by decide +kernel
theorem d_D_sees_2 : decode b_D_sees 2 = .ok (.invokevirtual 33, 3) := by decide +kernel
theorem d_D_sees_5 : decode b_D_sees 5 = .ok (.astore 6, 2) := by decide +kernel
theorem d_D_sees_7 : decode b_D_sees 7 = .ok (.aload 6, 2) := by decide +kernel
theorem d_D_sees_9 : decode b_D_sees 9 = .ok (.ifnull 11, 3) := by decide +kernel
theorem d_D_sees_12 : decode b_D_sees 12 = .ok (.aload 6, 2) := by decide +kernel
theorem d_D_sees_14 : decode b_D_sees 14 = .ok (.invokevirtual 43, 3) := by decide +kernel
theorem d_D_sees_17 : decode b_D_sees 17 = .ok (.ifCond .ne 5, 3) := by decide +kernel
theorem d_D_sees_20 : decode b_D_sees 20 = .ok (.iconst 0, 1) := by decide +kernel
theorem d_D_sees_21 : decode b_D_sees 21 = .ok (.ireturn, 1) := by decide +kernel
theorem d_D_sees_22 : decode b_D_sees 22 = .ok (.aload 6, 2) := by decide +kernel
theorem d_D_sees_24 : decode b_D_sees 24 = .ok (.aload_n 0, 1) := by decide +kernel
theorem d_D_sees_25 : decode b_D_sees 25 = .ok (.iload_n 2, 1) := by decide +kernel
theorem d_D_sees_26 : decode b_D_sees 26 = .ok (.invokevirtual 98, 3) := by decide +kernel
theorem d_D_sees_29 : decode b_D_sees 29 = .ok (.iload_n 3, 1) := by decide +kernel
theorem d_D_sees_30 : decode b_D_sees 30 = .ok (.invokestatic 111, 3) := by decide +kernel
theorem d_D_sees_33 : decode b_D_sees 33 = .ok (.ifCond .eq 23, 3) := by decide +kernel
theorem d_D_sees_36 : decode b_D_sees 36 = .ok (.aload 6, 2) := by decide +kernel
theorem d_D_sees_38 : decode b_D_sees 38 = .ok (.aload_n 0, 1) := by decide +kernel
theorem d_D_sees_39 : decode b_D_sees 39 = .ok (.iload 4, 2) := by decide +kernel
theorem d_D_sees_41 : decode b_D_sees 41 = .ok (.invokevirtual 98, 3) := by decide +kernel
theorem d_D_sees_44 : decode b_D_sees 44 = .ok (.iload 5, 2) := by decide +kernel
theorem d_D_sees_46 : decode b_D_sees 46 = .ok (.invokestatic 111, 3) := by decide +kernel
theorem d_D_sees_49 : decode b_D_sees 49 = .ok (.ifCond .ne 7, 3) := by decide +kernel
theorem d_D_sees_52 : decode b_D_sees 52 = .ok (.iconst 1, 1) := by decide +kernel
theorem d_D_sees_53 : decode b_D_sees 53 = .ok (.goto 4, 3) := by decide +kernel
theorem d_D_sees_56 : decode b_D_sees 56 = .ok (.iconst 0, 1) := by decide +kernel
theorem d_D_sees_57 : decode b_D_sees 57 = .ok (.ireturn, 1) := by decide +kernel
theorem d_D_ending_0 : decode b_D_ending 0 = .ok (.aload_n 0, 1) := by decide +kernel
theorem d_D_ending_1 : decode b_D_ending 1 = .ok (.iload_n 1, 1) := by decide +kernel
theorem d_D_ending_2 : decode b_D_ending 2 = .ok (.invokevirtual 33, 3) := by decide +kernel
theorem d_D_ending_5 : decode b_D_ending 5 = .ok (.astore 4, 2) := by decide +kernel
theorem d_D_ending_7 : decode b_D_ending 7 = .ok (.aload 4, 2) := by decide +kernel
theorem d_D_ending_9 : decode b_D_ending 9 = .ok (.ifnull 11, 3) := by decide +kernel
theorem d_D_ending_12 : decode b_D_ending 12 = .ok (.aload 4, 2) := by decide +kernel
theorem d_D_ending_14 : decode b_D_ending 14 = .ok (.invokevirtual 43, 3) := by decide +kernel
theorem d_D_ending_17 : decode b_D_ending 17 = .ok (.ifCond .ne 5, 3) := by decide +kernel
theorem d_D_ending_20 : decode b_D_ending 20 = .ok (.iconst (-1), 1) := by decide +kernel
theorem d_D_ending_21 : decode b_D_ending 21 = .ok (.ireturn, 1) := by decide +kernel
theorem d_D_ending_22 : decode b_D_ending 22 = .ok (.aload_n 0, 1) := by decide +kernel
theorem d_D_ending_23 : decode b_D_ending 23 = .ok (.iload_n 2, 1) := by decide +kernel
theorem d_D_ending_24 : decode b_D_ending 24 = .ok (.invokevirtual 98, 3) := by decide +kernel
theorem d_D_ending_27 : decode b_D_ending 27 = .ok (.astore 5, 2) := by decide +kernel
theorem d_D_ending_29 : decode b_D_ending 29 = .ok (.aload 5, 2) := by decide +kernel
theorem d_D_ending_31 : decode b_D_ending 31 = .ok (.ifnull 12, 3) := by decide +kernel
theorem d_D_ending_34 : decode b_D_ending 34 = .ok (.aload 5, 2) := by decide +kernel
theorem d_D_ending_36 : decode b_D_ending 36 = .ok (.getfield 102, 3) := by decide +kernel
theorem d_D_ending_39 : decode b_D_ending 39 = .ok (.iconst 3, 1) := by decide +kernel
theorem d_D_ending_40 : decode b_D_ending 40 = .ok (.if_icmp .ne 5, 3) := by decide +kernel
theorem d_D_ending_43 : decode b_D_ending 43 = .ok (.iconst 0, 1) := by decide +kernel
theorem d_D_ending_44 : decode b_D_ending 44 = .ok (.ireturn, 1) := by decide +kernel
theorem d_D_ending_45 : decode b_D_ending 45 = .ok (.aload 4, 2) := by decide +kernel
theorem d_D_ending_47 : decode b_D_ending 47 = .ok (.aload 5, 2) := by decide +kernel
theorem d_D_ending_49 : decode b_D_ending 49 = .ok (.iload_n 3, 1) := by decide +kernel
theorem d_D_ending_50 : decode b_D_ending 50 = .ok (.invokestatic 111, 3) := by decide +kernel
theorem d_D_ending_53 : decode b_D_ending 53 = .ok (.istore 6, 2) := by decide +kernel
theorem d_D_ending_55 : decode b_D_ending 55 = .ok (.aload 4, 2) := by decide +kernel
theorem d_D_ending_57 : decode b_D_ending 57 = .ok (.aload 5, 2) := by decide +kernel
theorem d_D_ending_59 : decode b_D_ending 59 = .ok (.invokevirtual 78, 3) := by decide +kernel
theorem d_D_ending_62 : decode b_D_ending 62 = .ok (.ifCond .eq 14, 3) := by decide +kernel
theorem d_D_ending_65 : decode b_D_ending 65 = .ok (.iload 6, 2) := by decide +kernel
theorem d_D_ending_67 : decode b_D_ending 67 = .ok (.ifCond .eq 7, 3) := by decide +kernel
theorem d_D_ending_70 : decode b_D_ending 70 = .ok (.iconst 1, 1) := by decide +kernel
theorem d_D_ending_71 : decode b_D_ending 71 = .ok (.goto 4, 3) := by decide +kernel
theorem d_D_ending_74 : decode b_D_ending 74 = .ok (.iconst 2, 1) := by decide +kernel
theorem d_D_ending_75 : decode b_D_ending 75 = .ok (.ireturn, 1) := by decide +kernel
theorem d_D_ending_76 : decode b_D_ending 76 = .ok (.aload 5, 2) := by decide +kernel
theorem d_D_ending_78 : decode b_D_ending 78 = .ok (.getfield 102, 3) := by decide +kernel
theorem d_D_ending_81 : decode b_D_ending 81 = .ok (.iconst 1, 1) := by decide +kernel
theorem d_D_ending_82 : decode b_D_ending 82 = .ok (.if_icmp .ne 5, 3) := by decide +kernel
theorem d_D_ending_85 : decode b_D_ending 85 = .ok (.iconst 3, 1) := by decide +kernel
theorem d_D_ending_86 : decode b_D_ending 86 = .ok (.ireturn, 1) := by decide +kernel
theorem d_D_ending_87 : decode b_D_ending 87 = .ok (.iload 6, 2) := by decide +kernel
theorem d_D_ending_89 : decode b_D_ending 89 = .ok (.ifCond .eq 7, 3) := by decide +kernel
theorem d_D_ending_92 : decode b_D_ending 92 = .ok (.iconst 4, 1) := by decide +kernel
theorem d_D_ending_93 : decode b_D_ending 93 = .ok (.goto 4, 3) := by decide +kernel
theorem d_D_ending_96 : decode b_D_ending 96 = .ok (.iconst 5, 1) := by decide +kernel
theorem d_D_ending_97 : decode b_D_ending 97 = .ok (.ireturn, 1) := by decide +kernel
theorem d_D_dead_0 : decode b_D_dead 0 = .ok (.aload_n 0, 1) := by decide +kernel
theorem d_D_dead_1 : decode b_D_dead 1 = .ok (.iload_n 1, 1) := by decide +kernel
theorem d_D_dead_2 : decode b_D_dead 2 = .ok (.invokevirtual 98, 3) := by decide +kernel
theorem d_D_dead_5 : decode b_D_dead 5 = .ok (.astore_n 3, 1) := by decide +kernel
theorem d_D_dead_6 : decode b_D_dead 6 = .ok (.aload_n 3, 1) := by decide +kernel
theorem d_D_dead_7 : decode b_D_dead 7 = .ok (.ifnonnull 5, 3) := by decide +kernel
theorem d_D_dead_10 : decode b_D_dead 10 = .ok (.iconst 0, 1) := by decide +kernel
theorem d_D_dead_11 : decode b_D_dead 11 = .ok (.ireturn, 1) := by decide +kernel
theorem d_D_dead_12 : decode b_D_dead 12 = .ok (.aload_n 3, 1) := by decide +kernel
theorem d_D_dead_13 : decode b_D_dead 13 = .ok (.getfield 102, 3) := by decide +kernel
theorem d_D_dead_16 : decode b_D_dead 16 = .ok (.iconst 3, 1) := by decide +kernel
theorem d_D_dead_17 : decode b_D_dead 17 = .ok (.if_icmp .eq 15, 3) := by decide +kernel
theorem d_D_dead_20 : decode b_D_dead 20 = .ok (.aload_n 0, 1) := by decide +kernel
theorem d_D_dead_21 : decode b_D_dead 21 = .ok (.aload_n 0, 1) := by decide +kernel
theorem d_D_dead_22 : decode b_D_dead 22 = .ok (.iload_n 2, 1) := by decide +kernel
theorem d_D_dead_23 : decode b_D_dead 23 = .ok (.invokevirtual 98, 3) := by decide +kernel
theorem d_D_dead_26 : decode b_D_dead 26 = .ok (.invokevirtual 115, 3) := by decide +kernel
theorem d_D_dead_29 : decode b_D_dead 29 = .ok (.ifCond .eq 7, 3) := by decide +kernel
theorem d_D_dead_32 : decode b_D_dead 32 = .ok (.iconst 1, 1) := by decide +kernel
theorem d_D_dead_33 : decode b_D_dead 33 = .ok (.goto 4, 3) := by decide +kernel
theorem d_D_dead_36 : decode b_D_dead 36 = .ok (.iconst 0, 1) := by decide +kernel
theorem d_D_dead_37 : decode b_D_dead 37 = .ok (.ireturn, 1) := by decide +kernel
theorem d_D_look_0 : decode b_D_look 0 = .ok (.iload_n 2, 1) := by decide +kernel
theorem d_D_look_1 : decode b_D_look 1 = .ok (.iconst 5, 1) := by decide +kernel
theorem d_D_look_2 : decode b_D_look 2 = .ok (.if_icmp .ne 11, 3) := by decide +kernel
theorem d_D_look_5 : decode b_D_look 5 = .ok (.aload_n 0, 1) := by decide +kernel
theorem d_D_look_6 : decode b_D_look 6 = .ok (.getfield 18, 3) := by decide +kernel
theorem d_D_look_9 : decode b_D_look 9 = .ok (.invokevirtual 54, 3) := by decide +kernel
theorem d_D_look_12 : decode b_D_look 12 = .ok (.ireturn, 1) := by decide +kernel
theorem d_D_look_13 : decode b_D_look 13 = .ok (.iload_n 2, 1) := by decide +kernel
theorem d_D_look_14 : decode b_D_look 14 = .ok (.bipush 6, 2) := by decide +kernel
theorem d_D_look_16 : decode b_D_look 16 = .ok (.if_icmp .ne 8, 3) := by decide +kernel
theorem d_D_look_19 : decode b_D_look 19 = .ok (.aload_n 0, 1) := by decide +kernel
theorem d_D_look_20 : decode b_D_look 20 = .ok (.getfield 22, 3) := by decide +kernel
theorem d_D_look_23 : decode b_D_look 23 = .ok (.ireturn, 1) := by decide +kernel
theorem d_D_look_24 : decode b_D_look 24 = .ok (.aload_n 0, 1) := by decide +kernel
theorem d_D_look_25 : decode b_D_look 25 = .ok (.iload_n 1, 1) := by decide +kernel
theorem d_D_look_26 : decode b_D_look 26 = .ok (.invokevirtual 33, 3) := by decide +kernel
theorem d_D_look_29 : decode b_D_look 29 = .ok (.astore_n 3, 1) := by decide +kernel
theorem d_D_look_30 : decode b_D_look 30 = .ok (.aload_n 3, 1) := by decide +kernel
theorem d_D_look_31 : decode b_D_look 31 = .ok (.ifnonnull 7, 3) := by decide +kernel
theorem d_D_look_34 : decode b_D_look 34 = .ok (.iconst (-1), 1) := by decide +kernel
theorem d_D_look_35 : decode b_D_look 35 = .ok (.goto 8, 3) := by decide +kernel
theorem d_D_look_38 : decode b_D_look 38 = .ok (.aload_n 3, 1) := by decide +kernel
theorem d_D_look_39 : decode b_D_look 39 = .ok (.iload_n 2, 1) := by decide +kernel
theorem d_D_look_40 : decode b_D_look 40 = .ok (.invokestatic 118, 3) := by decide +kernel
theorem d_D_look_43 : decode b_D_look 43 = .ok (.ireturn, 1) := by decide +kernel
theorem d_D_lookAt_0 : decode b_D_lookAt 0 = .ok (.iload_n 1, 1) := by decide +kernel
theorem d_D_lookAt_1 : decode b_D_lookAt 1 = .ok (.tableswitch 65 0 4 #[35, 40, 45, 50, 60], 35) := by decide +kernel
theorem d_D_lookAt_36 : decode b_D_lookAt 36 = .ok (.aload_n 0, 1) := by decide +kernel
theorem d_D_lookAt_37 : decode b_D_lookAt 37 = .ok (.getfield 40, 3) := by decide +kernel
theorem d_D_lookAt_40 : decode b_D_lookAt 40 = .ok (.ireturn, 1) := by decide +kernel
theorem d_D_lookAt_41 : decode b_D_lookAt 41 = .ok (.aload_n 0, 1) := by decide +kernel
theorem d_D_lookAt_42 : decode b_D_lookAt 42 = .ok (.getfield 37, 3) := by decide +kernel
theorem d_D_lookAt_45 : decode b_D_lookAt 45 = .ok (.ireturn, 1) := by decide +kernel
theorem d_D_lookAt_46 : decode b_D_lookAt 46 = .ok (.aload_n 0, 1) := by decide +kernel
theorem d_D_lookAt_47 : decode b_D_lookAt 47 = .ok (.getfield 66, 3) := by decide +kernel
theorem d_D_lookAt_50 : decode b_D_lookAt 50 = .ok (.ireturn, 1) := by decide +kernel
theorem d_D_lookAt_51 : decode b_D_lookAt 51 = .ok (.aload_n 0, 1) := by decide +kernel
theorem d_D_lookAt_52 : decode b_D_lookAt 52 = .ok (.getfield 62, 3) := by decide +kernel
theorem d_D_lookAt_55 : decode b_D_lookAt 55 = .ok (.aload_n 0, 1) := by decide +kernel
theorem d_D_lookAt_56 : decode b_D_lookAt 56 = .ok (.getfield 66, 3) := by decide +kernel
theorem d_D_lookAt_59 : decode b_D_lookAt 59 = .ok (.iaload, 1) := by decide +kernel
theorem d_D_lookAt_60 : decode b_D_lookAt 60 = .ok (.ireturn, 1) := by decide +kernel
theorem d_D_lookAt_61 : decode b_D_lookAt 61 = .ok (.aload_n 0, 1) := by decide +kernel
theorem d_D_lookAt_62 : decode b_D_lookAt 62 = .ok (.getfield 47, 3) := by decide +kernel
theorem d_D_lookAt_65 : decode b_D_lookAt 65 = .ok (.ireturn, 1) := by decide +kernel
theorem d_D_lookAt_66 : decode b_D_lookAt 66 = .ok (.iconst (-1), 1) := by decide +kernel
theorem d_D_lookAt_67 : decode b_D_lookAt 67 = .ok (.ireturn, 1) := by decide +kernel
theorem d_D_isSession_0 : decode b_D_isSession 0 = .ok (.iload_n 0, 1) := by decide +kernel
theorem d_D_isSession_1 : decode b_D_isSession 1 = .ok (.ifCond .lt 13, 3) := by decide +kernel
theorem d_D_isSession_4 : decode b_D_isSession 4 = .ok (.iload_n 0, 1) := by decide +kernel
theorem d_D_isSession_5 : decode b_D_isSession 5 = .ok (.bipush 6, 2) := by decide +kernel
theorem d_D_isSession_7 : decode b_D_isSession 7 = .ok (.if_icmp .ge 7, 3) := by decide +kernel
theorem d_D_isSession_10 : decode b_D_isSession 10 = .ok (.iconst 1, 1) := by decide +kernel
theorem d_D_isSession_11 : decode b_D_isSession 11 = .ok (.goto 4, 3) := by decide +kernel
theorem d_D_isSession_14 : decode b_D_isSession 14 = .ok (.iconst 0, 1) := by decide +kernel
theorem d_D_isSession_15 : decode b_D_isSession 15 = .ok (.ireturn, 1) := by decide +kernel
theorem d_D_transactionOf_0 : decode b_D_transactionOf 0 = .ok (.iload_n 1, 1) := by decide +kernel
theorem d_D_transactionOf_1 : decode b_D_transactionOf 1 = .ok (.invokestatic 26, 3) := by decide +kernel
theorem d_D_transactionOf_4 : decode b_D_transactionOf 4 = .ok (.ifCond .eq 12, 3) := by decide +kernel
theorem d_D_transactionOf_7 : decode b_D_transactionOf 7 = .ok (.aload_n 0, 1) := by decide +kernel
theorem d_D_transactionOf_8 : decode b_D_transactionOf 8 = .ok (.getfield 11, 3) := by decide +kernel
theorem d_D_transactionOf_11 : decode b_D_transactionOf 11 = .ok (.iload_n 1, 1) := by decide +kernel
theorem d_D_transactionOf_12 : decode b_D_transactionOf 12 = .ok (.aaload, 1) := by decide +kernel
theorem d_D_transactionOf_13 : decode b_D_transactionOf 13 = .ok (.goto 4, 3) := by decide +kernel
theorem d_D_transactionOf_16 : decode b_D_transactionOf 16 = .ok (.aconst_null, 1) := by decide +kernel
theorem d_D_transactionOf_17 : decode b_D_transactionOf 17 = .ok (.areturn, 1) := by decide +kernel
theorem d_D_find_0 : decode b_D_find 0 = .ok (.iload_n 1, 1) := by decide +kernel
theorem d_D_find_1 : decode b_D_find 1 = .ok (.iconst 1, 1) := by decide +kernel
theorem d_D_find_2 : decode b_D_find 2 = .ok (.if_icmp .lt 30, 3) := by decide +kernel
theorem d_D_find_5 : decode b_D_find 5 = .ok (.iload_n 1, 1) := by decide +kernel
theorem d_D_find_6 : decode b_D_find 6 = .ok (.aload_n 0, 1) := by decide +kernel
theorem d_D_find_7 : decode b_D_find 7 = .ok (.getfield 18, 3) := by decide +kernel
theorem d_D_find_10 : decode b_D_find 10 = .ok (.invokevirtual 54, 3) := by decide +kernel
theorem d_D_find_13 : decode b_D_find 13 = .ok (.if_icmp .gt 19, 3) := by decide +kernel
theorem d_D_find_16 : decode b_D_find 16 = .ok (.aload_n 0, 1) := by decide +kernel
theorem d_D_find_17 : decode b_D_find 17 = .ok (.getfield 18, 3) := by decide +kernel
theorem d_D_find_20 : decode b_D_find 20 = .ok (.iload_n 1, 1) := by decide +kernel
theorem d_D_find_21 : decode b_D_find 21 = .ok (.iconst 1, 1) := by decide +kernel
theorem d_D_find_22 : decode b_D_find 22 = .ok (.isub, 1) := by decide +kernel
theorem d_D_find_23 : decode b_D_find 23 = .ok (.invokevirtual 72, 3) := by decide +kernel
theorem d_D_find_26 : decode b_D_find 26 = .ok (.checkcast 76, 3) := by decide +kernel
theorem d_D_find_29 : decode b_D_find 29 = .ok (.goto 4, 3) := by decide +kernel
theorem d_D_find_32 : decode b_D_find 32 = .ok (.aconst_null, 1) := by decide +kernel
theorem d_D_find_33 : decode b_D_find 33 = .ok (.areturn, 1) := by decide +kernel
theorem d_D_countLevelsWithoutNumber_0 : decode b_D_countLevelsWithoutNumber 0 = .ok (.iconst 0, 1) := by decide +kernel
theorem d_D_countLevelsWithoutNumber_1 : decode b_D_countLevelsWithoutNumber 1 = .ok (.istore_n 1, 1) := by decide +kernel
theorem d_D_countLevelsWithoutNumber_2 : decode b_D_countLevelsWithoutNumber 2 = .ok (.iconst 0, 1) := by decide +kernel
theorem d_D_countLevelsWithoutNumber_3 : decode b_D_countLevelsWithoutNumber 3 = .ok (.istore_n 2, 1) := by decide +kernel
theorem d_D_countLevelsWithoutNumber_4 : decode b_D_countLevelsWithoutNumber 4 = .ok (.iload_n 2, 1) := by decide +kernel
theorem d_D_countLevelsWithoutNumber_5 : decode b_D_countLevelsWithoutNumber 5 = .ok (.aload_n 0, 1) := by decide +kernel
theorem d_D_countLevelsWithoutNumber_6 : decode b_D_countLevelsWithoutNumber 6 = .ok (.getfield 66, 3) := by decide +kernel
theorem d_D_countLevelsWithoutNumber_9 : decode b_D_countLevelsWithoutNumber 9 = .ok (.if_icmp .gt 21, 3) := by decide +kernel
theorem d_D_countLevelsWithoutNumber_12 : decode b_D_countLevelsWithoutNumber 12 = .ok (.aload_n 0, 1) := by decide +kernel
theorem d_D_countLevelsWithoutNumber_13 : decode b_D_countLevelsWithoutNumber 13 = .ok (.getfield 62, 3) := by decide +kernel
theorem d_D_countLevelsWithoutNumber_16 : decode b_D_countLevelsWithoutNumber 16 = .ok (.iload_n 2, 1) := by decide +kernel
theorem d_D_countLevelsWithoutNumber_17 : decode b_D_countLevelsWithoutNumber 17 = .ok (.iaload, 1) := by decide +kernel
theorem d_D_countLevelsWithoutNumber_18 : decode b_D_countLevelsWithoutNumber 18 = .ok (.ifCond .ne 6, 3) := by decide +kernel
theorem d_D_countLevelsWithoutNumber_21 : decode b_D_countLevelsWithoutNumber 21 = .ok (.iinc 1 1, 3) := by decide +kernel
theorem d_D_countLevelsWithoutNumber_24 : decode b_D_countLevelsWithoutNumber 24 = .ok (.iinc 2 1, 3) := by decide +kernel
theorem d_D_countLevelsWithoutNumber_27 : decode b_D_countLevelsWithoutNumber 27 = .ok (.goto (-23), 3) := by decide +kernel
theorem d_D_countLevelsWithoutNumber_30 : decode b_D_countLevelsWithoutNumber 30 = .ok (.iload_n 1, 1) := by decide +kernel
theorem d_D_countLevelsWithoutNumber_31 : decode b_D_countLevelsWithoutNumber 31 = .ok (.ireturn, 1) := by decide +kernel
theorem d_D_giveMissingNumbers_0 : decode b_D_giveMissingNumbers 0 = .ok (.iconst 0, 1) := by decide +kernel
theorem d_D_giveMissingNumbers_1 : decode b_D_giveMissingNumbers 1 = .ok (.istore_n 2, 1) := by decide +kernel
theorem d_D_giveMissingNumbers_2 : decode b_D_giveMissingNumbers 2 = .ok (.iload_n 2, 1) := by decide +kernel
theorem d_D_giveMissingNumbers_3 : decode b_D_giveMissingNumbers 3 = .ok (.aload_n 1, 1) := by decide +kernel
theorem d_D_giveMissingNumbers_4 : decode b_D_giveMissingNumbers 4 = .ok (.getfield 66, 3) := by decide +kernel
theorem d_D_giveMissingNumbers_7 : decode b_D_giveMissingNumbers 7 = .ok (.if_icmp .gt 55, 3) := by decide +kernel
theorem d_D_giveMissingNumbers_10 : decode b_D_giveMissingNumbers 10 = .ok (.aload_n 1, 1) := by decide +kernel
theorem d_D_giveMissingNumbers_11 : decode b_D_giveMissingNumbers 11 = .ok (.getfield 62, 3) := by decide +kernel
theorem d_D_giveMissingNumbers_14 : decode b_D_giveMissingNumbers 14 = .ok (.iload_n 2, 1) := by decide +kernel
theorem d_D_giveMissingNumbers_15 : decode b_D_giveMissingNumbers 15 = .ok (.iaload, 1) := by decide +kernel
theorem d_D_giveMissingNumbers_16 : decode b_D_giveMissingNumbers 16 = .ok (.ifCond .ne 40, 3) := by decide +kernel
theorem d_D_giveMissingNumbers_19 : decode b_D_giveMissingNumbers 19 = .ok (.aload_n 1, 1) := by decide +kernel
theorem d_D_giveMissingNumbers_20 : decode b_D_giveMissingNumbers 20 = .ok (.getfield 62, 3) := by decide +kernel
theorem d_D_giveMissingNumbers_23 : decode b_D_giveMissingNumbers 23 = .ok (.iload_n 2, 1) := by decide +kernel
theorem d_D_giveMissingNumbers_24 : decode b_D_giveMissingNumbers 24 = .ok (.aload_n 0, 1) := by decide +kernel
theorem d_D_giveMissingNumbers_25 : decode b_D_giveMissingNumbers 25 = .ok (.getfield 18, 3) := by decide +kernel
theorem d_D_giveMissingNumbers_28 : decode b_D_giveMissingNumbers 28 = .ok (.invokevirtual 54, 3) := by decide +kernel
theorem d_D_giveMissingNumbers_31 : decode b_D_giveMissingNumbers 31 = .ok (.iconst 1, 1) := by decide +kernel
theorem d_D_giveMissingNumbers_32 : decode b_D_giveMissingNumbers 32 = .ok (.iadd, 1) := by decide +kernel
theorem d_D_giveMissingNumbers_33 : decode b_D_giveMissingNumbers 33 = .ok (.iastore, 1) := by decide +kernel
theorem d_D_giveMissingNumbers_34 : decode b_D_giveMissingNumbers 34 = .ok (.aload_n 0, 1) := by decide +kernel
theorem d_D_giveMissingNumbers_35 : decode b_D_giveMissingNumbers 35 = .ok (.getfield 18, 3) := by decide +kernel
theorem d_D_giveMissingNumbers_38 : decode b_D_giveMissingNumbers 38 = .ok (.new 76, 3) := by decide +kernel
theorem d_D_giveMissingNumbers_41 : decode b_D_giveMissingNumbers 41 = .ok (.dup, 1) := by decide +kernel
theorem d_D_giveMissingNumbers_42 : decode b_D_giveMissingNumbers 42 = .ok (.aload_n 1, 1) := by decide +kernel
theorem d_D_giveMissingNumbers_43 : decode b_D_giveMissingNumbers 43 = .ok (.getfield 62, 3) := by decide +kernel
theorem d_D_giveMissingNumbers_46 : decode b_D_giveMissingNumbers 46 = .ok (.iconst 0, 1) := by decide +kernel
theorem d_D_giveMissingNumbers_47 : decode b_D_giveMissingNumbers 47 = .ok (.iaload, 1) := by decide +kernel
theorem d_D_giveMissingNumbers_48 : decode b_D_giveMissingNumbers 48 = .ok (.iload_n 2, 1) := by decide +kernel
theorem d_D_giveMissingNumbers_49 : decode b_D_giveMissingNumbers 49 = .ok (.invokespecial 122, 3) := by decide +kernel
theorem d_D_giveMissingNumbers_52 : decode b_D_giveMissingNumbers 52 = .ok (.invokevirtual 125, 3) := by decide +kernel
theorem d_D_giveMissingNumbers_55 : decode b_D_giveMissingNumbers 55 = .ok (.pop, 1) := by decide +kernel
theorem d_D_giveMissingNumbers_56 : decode b_D_giveMissingNumbers 56 = .ok (.iinc 2 1, 3) := by decide +kernel
theorem d_D_giveMissingNumbers_59 : decode b_D_giveMissingNumbers 59 = .ok (.goto (-57), 3) := by decide +kernel
theorem d_D_giveMissingNumbers_62 : decode b_D_giveMissingNumbers 62 = .ok (.return_, 1) := by decide +kernel
theorem d_D_abortNumbersFrom_0 : decode b_D_abortNumbersFrom 0 = .ok (.iconst 0, 1) := by decide +kernel
theorem d_D_abortNumbersFrom_1 : decode b_D_abortNumbersFrom 1 = .ok (.istore_n 3, 1) := by decide +kernel
theorem d_D_abortNumbersFrom_2 : decode b_D_abortNumbersFrom 2 = .ok (.iload_n 3, 1) := by decide +kernel
theorem d_D_abortNumbersFrom_3 : decode b_D_abortNumbersFrom 3 = .ok (.aload_n 0, 1) := by decide +kernel
theorem d_D_abortNumbersFrom_4 : decode b_D_abortNumbersFrom 4 = .ok (.getfield 18, 3) := by decide +kernel
theorem d_D_abortNumbersFrom_7 : decode b_D_abortNumbersFrom 7 = .ok (.invokevirtual 54, 3) := by decide +kernel
theorem d_D_abortNumbersFrom_10 : decode b_D_abortNumbersFrom 10 = .ok (.if_icmp .ge 46, 3) := by decide +kernel
theorem d_D_abortNumbersFrom_13 : decode b_D_abortNumbersFrom 13 = .ok (.aload_n 0, 1) := by decide +kernel
theorem d_D_abortNumbersFrom_14 : decode b_D_abortNumbersFrom 14 = .ok (.getfield 18, 3) := by decide +kernel
theorem d_D_abortNumbersFrom_17 : decode b_D_abortNumbersFrom 17 = .ok (.iload_n 3, 1) := by decide +kernel
theorem d_D_abortNumbersFrom_18 : decode b_D_abortNumbersFrom 18 = .ok (.invokevirtual 72, 3) := by decide +kernel
theorem d_D_abortNumbersFrom_21 : decode b_D_abortNumbersFrom 21 = .ok (.checkcast 76, 3) := by decide +kernel
theorem d_D_abortNumbersFrom_24 : decode b_D_abortNumbersFrom 24 = .ok (.astore 4, 2) := by decide +kernel
theorem d_D_abortNumbersFrom_26 : decode b_D_abortNumbersFrom 26 = .ok (.aload_n 1, 1) := by decide +kernel
theorem d_D_abortNumbersFrom_27 : decode b_D_abortNumbersFrom 27 = .ok (.aload 4, 2) := by decide +kernel
theorem d_D_abortNumbersFrom_29 : decode b_D_abortNumbersFrom 29 = .ok (.invokevirtual 78, 3) := by decide +kernel
theorem d_D_abortNumbersFrom_32 : decode b_D_abortNumbersFrom 32 = .ok (.ifCond .eq 18, 3) := by decide +kernel
theorem d_D_abortNumbersFrom_35 : decode b_D_abortNumbersFrom 35 = .ok (.aload 4, 2) := by decide +kernel
theorem d_D_abortNumbersFrom_37 : decode b_D_abortNumbersFrom 37 = .ok (.getfield 82, 3) := by decide +kernel
theorem d_D_abortNumbersFrom_40 : decode b_D_abortNumbersFrom 40 = .ok (.iload_n 2, 1) := by decide +kernel
theorem d_D_abortNumbersFrom_41 : decode b_D_abortNumbersFrom 41 = .ok (.if_icmp .lt 9, 3) := by decide +kernel
theorem d_D_abortNumbersFrom_44 : decode b_D_abortNumbersFrom 44 = .ok (.aload 4, 2) := by decide +kernel
theorem d_D_abortNumbersFrom_46 : decode b_D_abortNumbersFrom 46 = .ok (.iconst 3, 1) := by decide +kernel
theorem d_D_abortNumbersFrom_47 : decode b_D_abortNumbersFrom 47 = .ok (.putfield 102, 3) := by decide +kernel
theorem d_D_abortNumbersFrom_50 : decode b_D_abortNumbersFrom 50 = .ok (.iinc 3 1, 3) := by decide +kernel
theorem d_D_abortNumbersFrom_53 : decode b_D_abortNumbersFrom 53 = .ok (.goto (-51), 3) := by decide +kernel
theorem d_D_abortNumbersFrom_56 : decode b_D_abortNumbersFrom 56 = .ok (.return_, 1) := by decide +kernel
theorem d_D_commitRunningNumbers_0 : decode b_D_commitRunningNumbers 0 = .ok (.iconst 0, 1) := by decide +kernel
theorem d_D_commitRunningNumbers_1 : decode b_D_commitRunningNumbers 1 = .ok (.istore_n 2, 1) := by decide +kernel
theorem d_D_commitRunningNumbers_2 : decode b_D_commitRunningNumbers 2 = .ok (.iload_n 2, 1) := by decide +kernel
theorem d_D_commitRunningNumbers_3 : decode b_D_commitRunningNumbers 3 = .ok (.aload_n 0, 1) := by decide +kernel
theorem d_D_commitRunningNumbers_4 : decode b_D_commitRunningNumbers 4 = .ok (.getfield 18, 3) := by decide +kernel
theorem d_D_commitRunningNumbers_7 : decode b_D_commitRunningNumbers 7 = .ok (.invokevirtual 54, 3) := by decide +kernel
theorem d_D_commitRunningNumbers_10 : decode b_D_commitRunningNumbers 10 = .ok (.if_icmp .ge 50, 3) := by decide +kernel
theorem d_D_commitRunningNumbers_13 : decode b_D_commitRunningNumbers 13 = .ok (.aload_n 0, 1) := by decide +kernel
theorem d_D_commitRunningNumbers_14 : decode b_D_commitRunningNumbers 14 = .ok (.getfield 18, 3) := by decide +kernel
theorem d_D_commitRunningNumbers_17 : decode b_D_commitRunningNumbers 17 = .ok (.iload_n 2, 1) := by decide +kernel
theorem d_D_commitRunningNumbers_18 : decode b_D_commitRunningNumbers 18 = .ok (.invokevirtual 72, 3) := by decide +kernel
theorem d_D_commitRunningNumbers_21 : decode b_D_commitRunningNumbers 21 = .ok (.checkcast 76, 3) := by decide +kernel
theorem d_D_commitRunningNumbers_24 : decode b_D_commitRunningNumbers 24 = .ok (.astore_n 3, 1) := by decide +kernel
theorem d_D_commitRunningNumbers_25 : decode b_D_commitRunningNumbers 25 = .ok (.aload_n 1, 1) := by decide +kernel
theorem d_D_commitRunningNumbers_26 : decode b_D_commitRunningNumbers 26 = .ok (.aload_n 3, 1) := by decide +kernel
theorem d_D_commitRunningNumbers_27 : decode b_D_commitRunningNumbers 27 = .ok (.invokevirtual 78, 3) := by decide +kernel
theorem d_D_commitRunningNumbers_30 : decode b_D_commitRunningNumbers 30 = .ok (.ifCond .eq 24, 3) := by decide +kernel
theorem d_D_commitRunningNumbers_33 : decode b_D_commitRunningNumbers 33 = .ok (.aload_n 3, 1) := by decide +kernel
theorem d_D_commitRunningNumbers_34 : decode b_D_commitRunningNumbers 34 = .ok (.getfield 102, 3) := by decide +kernel
theorem d_D_commitRunningNumbers_37 : decode b_D_commitRunningNumbers 37 = .ok (.iconst 1, 1) := by decide +kernel
theorem d_D_commitRunningNumbers_38 : decode b_D_commitRunningNumbers 38 = .ok (.if_icmp .ne 16, 3) := by decide +kernel
theorem d_D_commitRunningNumbers_41 : decode b_D_commitRunningNumbers 41 = .ok (.aload_n 3, 1) := by decide +kernel
theorem d_D_commitRunningNumbers_42 : decode b_D_commitRunningNumbers 42 = .ok (.iconst 2, 1) := by decide +kernel
theorem d_D_commitRunningNumbers_43 : decode b_D_commitRunningNumbers 43 = .ok (.putfield 102, 3) := by decide +kernel
theorem d_D_commitRunningNumbers_46 : decode b_D_commitRunningNumbers 46 = .ok (.aload_n 3, 1) := by decide +kernel
theorem d_D_commitRunningNumbers_47 : decode b_D_commitRunningNumbers 47 = .ok (.aload_n 0, 1) := by decide +kernel
theorem d_D_commitRunningNumbers_48 : decode b_D_commitRunningNumbers 48 = .ok (.getfield 22, 3) := by decide +kernel
theorem d_D_commitRunningNumbers_51 : decode b_D_commitRunningNumbers 51 = .ok (.putfield 108, 3) := by decide +kernel
theorem d_D_commitRunningNumbers_54 : decode b_D_commitRunningNumbers 54 = .ok (.iinc 2 1, 3) := by decide +kernel
theorem d_D_commitRunningNumbers_57 : decode b_D_commitRunningNumbers 57 = .ok (.goto (-55), 3) := by decide +kernel
theorem d_D_commitRunningNumbers_60 : decode b_D_commitRunningNumbers 60 = .ok (.return_, 1) := by decide +kernel
theorem d_D_seesDeed_0 : decode b_D_seesDeed 0 = .ok (.aload_n 1, 1) := by decide +kernel
theorem d_D_seesDeed_1 : decode b_D_seesDeed 1 = .ok (.ifnull 11, 3) := by decide +kernel
theorem d_D_seesDeed_4 : decode b_D_seesDeed 4 = .ok (.aload_n 1, 1) := by decide +kernel
theorem d_D_seesDeed_5 : decode b_D_seesDeed 5 = .ok (.getfield 102, 3) := by decide +kernel
theorem d_D_seesDeed_8 : decode b_D_seesDeed 8 = .ok (.iconst 3, 1) := by decide +kernel
theorem d_D_seesDeed_9 : decode b_D_seesDeed 9 = .ok (.if_icmp .ne 5, 3) := by decide +kernel
theorem d_D_seesDeed_12 : decode b_D_seesDeed 12 = .ok (.iconst 0, 1) := by decide +kernel
theorem d_D_seesDeed_13 : decode b_D_seesDeed 13 = .ok (.ireturn, 1) := by decide +kernel
theorem d_D_seesDeed_14 : decode b_D_seesDeed 14 = .ok (.aload_n 0, 1) := by decide +kernel
theorem d_D_seesDeed_15 : decode b_D_seesDeed 15 = .ok (.aload_n 1, 1) := by decide +kernel
theorem d_D_seesDeed_16 : decode b_D_seesDeed 16 = .ok (.invokevirtual 78, 3) := by decide +kernel
theorem d_D_seesDeed_19 : decode b_D_seesDeed 19 = .ok (.ifCond .eq 17, 3) := by decide +kernel
theorem d_D_seesDeed_22 : decode b_D_seesDeed 22 = .ok (.iload_n 2, 1) := by decide +kernel
theorem d_D_seesDeed_23 : decode b_D_seesDeed 23 = .ok (.aload_n 0, 1) := by decide +kernel
theorem d_D_seesDeed_24 : decode b_D_seesDeed 24 = .ok (.getfield 37, 3) := by decide +kernel
theorem d_D_seesDeed_27 : decode b_D_seesDeed 27 = .ok (.if_icmp .ge 7, 3) := by decide +kernel
theorem d_D_seesDeed_30 : decode b_D_seesDeed 30 = .ok (.iconst 1, 1) := by decide +kernel
theorem d_D_seesDeed_31 : decode b_D_seesDeed 31 = .ok (.goto 4, 3) := by decide +kernel
theorem d_D_seesDeed_34 : decode b_D_seesDeed 34 = .ok (.iconst 0, 1) := by decide +kernel
theorem d_D_seesDeed_35 : decode b_D_seesDeed 35 = .ok (.ireturn, 1) := by decide +kernel
theorem d_D_seesDeed_36 : decode b_D_seesDeed 36 = .ok (.aload_n 1, 1) := by decide +kernel
theorem d_D_seesDeed_37 : decode b_D_seesDeed 37 = .ok (.getfield 102, 3) := by decide +kernel
theorem d_D_seesDeed_40 : decode b_D_seesDeed 40 = .ok (.iconst 2, 1) := by decide +kernel
theorem d_D_seesDeed_41 : decode b_D_seesDeed 41 = .ok (.if_icmp .ne 18, 3) := by decide +kernel
theorem d_D_seesDeed_44 : decode b_D_seesDeed 44 = .ok (.aload_n 1, 1) := by decide +kernel
theorem d_D_seesDeed_45 : decode b_D_seesDeed 45 = .ok (.getfield 108, 3) := by decide +kernel
theorem d_D_seesDeed_48 : decode b_D_seesDeed 48 = .ok (.aload_n 0, 1) := by decide +kernel
theorem d_D_seesDeed_49 : decode b_D_seesDeed 49 = .ok (.getfield 47, 3) := by decide +kernel
theorem d_D_seesDeed_52 : decode b_D_seesDeed 52 = .ok (.if_icmp .gt 7, 3) := by decide +kernel
theorem d_D_seesDeed_55 : decode b_D_seesDeed 55 = .ok (.iconst 1, 1) := by decide +kernel
theorem d_D_seesDeed_56 : decode b_D_seesDeed 56 = .ok (.goto 4, 3) := by decide +kernel
theorem d_D_seesDeed_59 : decode b_D_seesDeed 59 = .ok (.iconst 0, 1) := by decide +kernel
theorem d_D_seesDeed_60 : decode b_D_seesDeed 60 = .ok (.ireturn, 1) := by decide +kernel
theorem d_D_isInEveryLiveSnapshot_0 : decode b_D_isInEveryLiveSnapshot 0 = .ok (.aload_n 1, 1) := by decide +kernel
theorem d_D_isInEveryLiveSnapshot_1 : decode b_D_isInEveryLiveSnapshot 1 = .ok (.ifnull 11, 3) := by decide +kernel
theorem d_D_isInEveryLiveSnapshot_4 : decode b_D_isInEveryLiveSnapshot 4 = .ok (.aload_n 1, 1) := by decide +kernel
theorem d_D_isInEveryLiveSnapshot_5 : decode b_D_isInEveryLiveSnapshot 5 = .ok (.getfield 102, 3) := by decide +kernel
theorem d_D_isInEveryLiveSnapshot_8 : decode b_D_isInEveryLiveSnapshot 8 = .ok (.iconst 2, 1) := by decide +kernel
theorem d_D_isInEveryLiveSnapshot_9 : decode b_D_isInEveryLiveSnapshot 9 = .ok (.if_icmp .eq 5, 3) := by decide +kernel
theorem d_D_isInEveryLiveSnapshot_12 : decode b_D_isInEveryLiveSnapshot 12 = .ok (.iconst 0, 1) := by decide +kernel
theorem d_D_isInEveryLiveSnapshot_13 : decode b_D_isInEveryLiveSnapshot 13 = .ok (.ireturn, 1) := by decide +kernel
theorem d_D_isInEveryLiveSnapshot_14 : decode b_D_isInEveryLiveSnapshot 14 = .ok (.iconst 0, 1) := by decide +kernel
theorem d_D_isInEveryLiveSnapshot_15 : decode b_D_isInEveryLiveSnapshot 15 = .ok (.istore_n 2, 1) := by decide +kernel
theorem d_D_isInEveryLiveSnapshot_16 : decode b_D_isInEveryLiveSnapshot 16 = .ok (.iload_n 2, 1) := by decide +kernel
theorem d_D_isInEveryLiveSnapshot_17 : decode b_D_isInEveryLiveSnapshot 17 = .ok (.bipush 6, 2) := by decide +kernel
theorem d_D_isInEveryLiveSnapshot_19 : decode b_D_isInEveryLiveSnapshot 19 = .ok (.if_icmp .ge 40, 3) := by decide +kernel
theorem d_D_isInEveryLiveSnapshot_22 : decode b_D_isInEveryLiveSnapshot 22 = .ok (.aload_n 0, 1) := by decide +kernel
theorem d_D_isInEveryLiveSnapshot_23 : decode b_D_isInEveryLiveSnapshot 23 = .ok (.getfield 11, 3) := by decide +kernel
theorem d_D_isInEveryLiveSnapshot_26 : decode b_D_isInEveryLiveSnapshot 26 = .ok (.iload_n 2, 1) := by decide +kernel
theorem d_D_isInEveryLiveSnapshot_27 : decode b_D_isInEveryLiveSnapshot 27 = .ok (.aaload, 1) := by decide +kernel
theorem d_D_isInEveryLiveSnapshot_28 : decode b_D_isInEveryLiveSnapshot 28 = .ok (.astore_n 3, 1) := by decide +kernel
theorem d_D_isInEveryLiveSnapshot_29 : decode b_D_isInEveryLiveSnapshot 29 = .ok (.aload_n 3, 1) := by decide +kernel
theorem d_D_isInEveryLiveSnapshot_30 : decode b_D_isInEveryLiveSnapshot 30 = .ok (.ifnull 23, 3) := by decide +kernel
theorem d_D_isInEveryLiveSnapshot_33 : decode b_D_isInEveryLiveSnapshot 33 = .ok (.aload_n 3, 1) := by decide +kernel
theorem d_D_isInEveryLiveSnapshot_34 : decode b_D_isInEveryLiveSnapshot 34 = .ok (.invokevirtual 43, 3) := by decide +kernel
theorem d_D_isInEveryLiveSnapshot_37 : decode b_D_isInEveryLiveSnapshot 37 = .ok (.ifCond .eq 16, 3) := by decide +kernel
theorem d_D_isInEveryLiveSnapshot_40 : decode b_D_isInEveryLiveSnapshot 40 = .ok (.aload_n 1, 1) := by decide +kernel
theorem d_D_isInEveryLiveSnapshot_41 : decode b_D_isInEveryLiveSnapshot 41 = .ok (.getfield 108, 3) := by decide +kernel
theorem d_D_isInEveryLiveSnapshot_44 : decode b_D_isInEveryLiveSnapshot 44 = .ok (.aload_n 3, 1) := by decide +kernel
theorem d_D_isInEveryLiveSnapshot_45 : decode b_D_isInEveryLiveSnapshot 45 = .ok (.getfield 47, 3) := by decide +kernel
theorem d_D_isInEveryLiveSnapshot_48 : decode b_D_isInEveryLiveSnapshot 48 = .ok (.if_icmp .le 5, 3) := by decide +kernel
theorem d_D_isInEveryLiveSnapshot_51 : decode b_D_isInEveryLiveSnapshot 51 = .ok (.iconst 0, 1) := by decide +kernel
theorem d_D_isInEveryLiveSnapshot_52 : decode b_D_isInEveryLiveSnapshot 52 = .ok (.ireturn, 1) := by decide +kernel
theorem d_D_isInEveryLiveSnapshot_53 : decode b_D_isInEveryLiveSnapshot 53 = .ok (.iinc 2 1, 3) := by decide +kernel
theorem d_D_isInEveryLiveSnapshot_56 : decode b_D_isInEveryLiveSnapshot 56 = .ok (.goto (-40), 3) := by decide +kernel
theorem d_D_isInEveryLiveSnapshot_59 : decode b_D_isInEveryLiveSnapshot 59 = .ok (.iconst 1, 1) := by decide +kernel
theorem d_D_isInEveryLiveSnapshot_60 : decode b_D_isInEveryLiveSnapshot 60 = .ok (.ireturn, 1) := by decide +kernel
theorem d_G_init_0 : decode b_G_init 0 = .ok (.aload_n 0, 1) := by decide +kernel
theorem d_G_init_1 : decode b_G_init 1 = .ok (.invokespecial 3, 3) := by decide +kernel
theorem d_G_init_4 : decode b_G_init 4 = .ok (.aload_n 0, 1) := by decide +kernel
theorem d_G_init_5 : decode b_G_init 5 = .ok (.iconst 1, 1) := by decide +kernel
theorem d_G_init_6 : decode b_G_init 6 = .ok (.putfield 9, 3) := by decide +kernel
theorem d_G_init_9 : decode b_G_init 9 = .ok (.aload_n 0, 1) := by decide +kernel
theorem d_G_init_10 : decode b_G_init 10 = .ok (.iconst 0, 1) := by decide +kernel
theorem d_G_init_11 : decode b_G_init 11 = .ok (.putfield 15, 3) := by decide +kernel
theorem d_G_init_14 : decode b_G_init 14 = .ok (.aload_n 0, 1) := by decide +kernel
theorem d_G_init_15 : decode b_G_init 15 = .ok (.iload_n 1, 1) := by decide +kernel
theorem d_G_init_16 : decode b_G_init 16 = .ok (.putfield 18, 3) := by decide +kernel
theorem d_G_init_19 : decode b_G_init 19 = .ok (.aload_n 0, 1) := by decide +kernel
theorem d_G_init_20 : decode b_G_init 20 = .ok (.iload_n 2, 1) := by decide +kernel
theorem d_G_init_21 : decode b_G_init 21 = .ok (.putfield 21, 3) := by decide +kernel
theorem d_G_init_24 : decode b_G_init 24 = .ok (.return_, 1) := by decide +kernel
theorem d_T_init_0 : decode b_T_init 0 = .ok (.aload_n 0, 1) := by decide +kernel
theorem d_T_init_1 : decode b_T_init 1 = .ok (.invokespecial 3, 3) := by decide +kernel
theorem d_T_init_4 : decode b_T_init 4 = .ok (.aload_n 0, 1) := by decide +kernel
theorem d_T_init_5 : decode b_T_init 5 = .ok (.bipush 8, 2) := by decide +kernel
theorem d_T_init_7 : decode b_T_init 7 = .ok (.newarray .int, 2) := by decide +kernel
theorem d_T_init_9 : decode b_T_init 9 = .ok (.putfield 9, 3) := by decide +kernel
theorem d_T_init_12 : decode b_T_init 12 = .ok (.aload_n 0, 1) := by decide +kernel
theorem d_T_init_13 : decode b_T_init 13 = .ok (.iconst 0, 1) := by decide +kernel
theorem d_T_init_14 : decode b_T_init 14 = .ok (.putfield 15, 3) := by decide +kernel
theorem d_T_init_17 : decode b_T_init 17 = .ok (.aload_n 0, 1) := by decide +kernel
theorem d_T_init_18 : decode b_T_init 18 = .ok (.iconst 0, 1) := by decide +kernel
theorem d_T_init_19 : decode b_T_init 19 = .ok (.putfield 19, 3) := by decide +kernel
theorem d_T_init_22 : decode b_T_init 22 = .ok (.aload_n 0, 1) := by decide +kernel
theorem d_T_init_23 : decode b_T_init 23 = .ok (.iconst (-1), 1) := by decide +kernel
theorem d_T_init_24 : decode b_T_init 24 = .ok (.putfield 22, 3) := by decide +kernel
theorem d_T_init_27 : decode b_T_init 27 = .ok (.aload_n 0, 1) := by decide +kernel
theorem d_T_init_28 : decode b_T_init 28 = .ok (.iload_n 1, 1) := by decide +kernel
theorem d_T_init_29 : decode b_T_init 29 = .ok (.putfield 25, 3) := by decide +kernel
theorem d_T_init_32 : decode b_T_init 32 = .ok (.return_, 1) := by decide +kernel
theorem d_T_hasSnapshot_0 : decode b_T_hasSnapshot 0 = .ok (.aload_n 0, 1) := by decide +kernel
theorem d_T_hasSnapshot_1 : decode b_T_hasSnapshot 1 = .ok (.getfield 22, 3) := by decide +kernel
theorem d_T_hasSnapshot_4 : decode b_T_hasSnapshot 4 = .ok (.iconst (-1), 1) := by decide +kernel
theorem d_T_hasSnapshot_5 : decode b_T_hasSnapshot 5 = .ok (.if_icmp .eq 7, 3) := by decide +kernel
theorem d_T_hasSnapshot_8 : decode b_T_hasSnapshot 8 = .ok (.iconst 1, 1) := by decide +kernel
theorem d_T_hasSnapshot_9 : decode b_T_hasSnapshot 9 = .ok (.goto 4, 3) := by decide +kernel
theorem d_T_hasSnapshot_12 : decode b_T_hasSnapshot 12 = .ok (.iconst 0, 1) := by decide +kernel
theorem d_T_hasSnapshot_13 : decode b_T_hasSnapshot 13 = .ok (.ireturn, 1) := by decide +kernel
theorem d_T_owns_0 : decode b_T_owns 0 = .ok (.aload_n 1, 1) := by decide +kernel
theorem d_T_owns_1 : decode b_T_owns 1 = .ok (.getfield 28, 3) := by decide +kernel
theorem d_T_owns_4 : decode b_T_owns 4 = .ok (.aload_n 0, 1) := by decide +kernel
theorem d_T_owns_5 : decode b_T_owns 5 = .ok (.getfield 9, 3) := by decide +kernel
theorem d_T_owns_8 : decode b_T_owns 8 = .ok (.iconst 0, 1) := by decide +kernel
theorem d_T_owns_9 : decode b_T_owns 9 = .ok (.iaload, 1) := by decide +kernel
theorem d_T_owns_10 : decode b_T_owns 10 = .ok (.if_icmp .ne 7, 3) := by decide +kernel
theorem d_T_owns_13 : decode b_T_owns 13 = .ok (.iconst 1, 1) := by decide +kernel
theorem d_T_owns_14 : decode b_T_owns 14 = .ok (.goto 4, 3) := by decide +kernel
theorem d_T_owns_17 : decode b_T_owns 17 = .ok (.iconst 0, 1) := by decide +kernel
theorem d_T_owns_18 : decode b_T_owns 18 = .ok (.ireturn, 1) := by decide +kernel
theorem d_T_canLeave_0 : decode b_T_canLeave 0 = .ok (.iload_n 1, 1) := by decide +kernel
theorem d_T_canLeave_1 : decode b_T_canLeave 1 = .ok (.iconst 1, 1) := by decide +kernel
theorem d_T_canLeave_2 : decode b_T_canLeave 2 = .ok (.if_icmp .lt 15, 3) := by decide +kernel
theorem d_T_canLeave_5 : decode b_T_canLeave 5 = .ok (.iload_n 1, 1) := by decide +kernel
theorem d_T_canLeave_6 : decode b_T_canLeave 6 = .ok (.aload_n 0, 1) := by decide +kernel
theorem d_T_canLeave_7 : decode b_T_canLeave 7 = .ok (.getfield 15, 3) := by decide +kernel
theorem d_T_canLeave_10 : decode b_T_canLeave 10 = .ok (.if_icmp .gt 7, 3) := by decide +kernel
theorem d_T_canLeave_13 : decode b_T_canLeave 13 = .ok (.iconst 1, 1) := by decide +kernel
theorem d_T_canLeave_14 : decode b_T_canLeave 14 = .ok (.goto 4, 3) := by decide +kernel
theorem d_T_canLeave_17 : decode b_T_canLeave 17 = .ok (.iconst 0, 1) := by decide +kernel
theorem d_T_canLeave_18 : decode b_T_canLeave 18 = .ok (.ireturn, 1) := by decide +kernel
theorem d_T_clearLevelsFrom_0 : decode b_T_clearLevelsFrom 0 = .ok (.iload_n 1, 1) := by decide +kernel
theorem d_T_clearLevelsFrom_1 : decode b_T_clearLevelsFrom 1 = .ok (.istore_n 2, 1) := by decide +kernel
theorem d_T_clearLevelsFrom_2 : decode b_T_clearLevelsFrom 2 = .ok (.iload_n 2, 1) := by decide +kernel
theorem d_T_clearLevelsFrom_3 : decode b_T_clearLevelsFrom 3 = .ok (.bipush 8, 2) := by decide +kernel
theorem d_T_clearLevelsFrom_5 : decode b_T_clearLevelsFrom 5 = .ok (.if_icmp .ge 16, 3) := by decide +kernel
theorem d_T_clearLevelsFrom_8 : decode b_T_clearLevelsFrom 8 = .ok (.aload_n 0, 1) := by decide +kernel
theorem d_T_clearLevelsFrom_9 : decode b_T_clearLevelsFrom 9 = .ok (.getfield 9, 3) := by decide +kernel
theorem d_T_clearLevelsFrom_12 : decode b_T_clearLevelsFrom 12 = .ok (.iload_n 2, 1) := by decide +kernel
theorem d_T_clearLevelsFrom_13 : decode b_T_clearLevelsFrom 13 = .ok (.iconst 0, 1) := by decide +kernel
theorem d_T_clearLevelsFrom_14 : decode b_T_clearLevelsFrom 14 = .ok (.iastore, 1) := by decide +kernel
theorem d_T_clearLevelsFrom_15 : decode b_T_clearLevelsFrom 15 = .ok (.iinc 2 1, 3) := by decide +kernel
theorem d_T_clearLevelsFrom_18 : decode b_T_clearLevelsFrom 18 = .ok (.goto (-16), 3) := by decide +kernel
theorem d_T_clearLevelsFrom_21 : decode b_T_clearLevelsFrom 21 = .ok (.return_, 1) := by decide +kernel
