theorem d_M_init_0 : decode b_M_init 0 = .ok (.aload_n 0, 1) := by decide +kernel
theorem d_M_init_1 : decode b_M_init 1 = .ok (.invokespecial 1, 3) := by decide +kernel
theorem d_M_init_4 : decode b_M_init 4 = .ok (.aload_n 0, 1) := by decide +kernel
theorem d_M_init_5 : decode b_M_init 5 = .ok (.sipush 4001, 3) := by decide +kernel
theorem d_M_init_8 : decode b_M_init 8 = .ok (.newarray .int, 2) := by decide +kernel
theorem d_M_init_10 : decode b_M_init 10 = .ok (.putfield 7, 3) := by decide +kernel
theorem d_M_init_13 : decode b_M_init 13 = .ok (.aload_n 0, 1) := by decide +kernel
theorem d_M_init_14 : decode b_M_init 14 = .ok (.sipush 4001, 3) := by decide +kernel
theorem d_M_init_17 : decode b_M_init 17 = .ok (.newarray .int, 2) := by decide +kernel
theorem d_M_init_19 : decode b_M_init 19 = .ok (.putfield 13, 3) := by decide +kernel
theorem d_M_init_22 : decode b_M_init 22 = .ok (.aload_n 0, 1) := by decide +kernel
theorem d_M_init_23 : decode b_M_init 23 = .ok (.sipush 4001, 3) := by decide +kernel
theorem d_M_init_26 : decode b_M_init 26 = .ok (.newarray .int, 2) := by decide +kernel
theorem d_M_init_28 : decode b_M_init 28 = .ok (.putfield 16, 3) := by decide +kernel
theorem d_M_init_31 : decode b_M_init 31 = .ok (.aload_n 0, 1) := by decide +kernel
theorem d_M_init_32 : decode b_M_init 32 = .ok (.sipush 4001, 3) := by decide +kernel
theorem d_M_init_35 : decode b_M_init 35 = .ok (.newarray .int, 2) := by decide +kernel
theorem d_M_init_37 : decode b_M_init 37 = .ok (.putfield 19, 3) := by decide +kernel
theorem d_M_init_40 : decode b_M_init 40 = .ok (.aload_n 0, 1) := by decide +kernel
theorem d_M_init_41 : decode b_M_init 41 = .ok (.bipush 6, 2) := by decide +kernel
theorem d_M_init_43 : decode b_M_init 43 = .ok (.newarray .boolean, 2) := by decide +kernel
theorem d_M_init_45 : decode b_M_init 45 = .ok (.putfield 22, 3) := by decide +kernel
theorem d_M_init_48 : decode b_M_init 48 = .ok (.aload_n 0, 1) := by decide +kernel
theorem d_M_init_49 : decode b_M_init 49 = .ok (.bipush 6, 2) := by decide +kernel
theorem d_M_init_51 : decode b_M_init 51 = .ok (.newarray .int, 2) := by decide +kernel
theorem d_M_init_53 : decode b_M_init 53 = .ok (.putfield 26, 3) := by decide +kernel
theorem d_M_init_56 : decode b_M_init 56 = .ok (.aload_n 0, 1) := by decide +kernel
theorem d_M_init_57 : decode b_M_init 57 = .ok (.bipush 6, 2) := by decide +kernel
theorem d_M_init_59 : decode b_M_init 59 = .ok (.newarray .int, 2) := by decide +kernel
theorem d_M_init_61 : decode b_M_init 61 = .ok (.putfield 29, 3) := by decide +kernel
theorem d_M_init_64 : decode b_M_init 64 = .ok (.aload_n 0, 1) := by decide +kernel
theorem d_M_init_65 : decode b_M_init 65 = .ok (.bipush 6, 2) := by decide +kernel
theorem d_M_init_67 : decode b_M_init 67 = .ok (.newarray .int, 2) := by decide +kernel
theorem d_M_init_69 : decode b_M_init 69 = .ok (.putfield 32, 3) := by decide +kernel
theorem d_M_init_72 : decode b_M_init 72 = .ok (.aload_n 0, 1) := by decide +kernel
theorem d_M_init_73 : decode b_M_init 73 = .ok (.bipush 6, 2) := by decide +kernel
theorem d_M_init_75 : decode b_M_init 75 = .ok (.newarray .int, 2) := by decide +kernel
theorem d_M_init_77 : decode b_M_init 77 = .ok (.putfield 35, 3) := by decide +kernel
theorem d_M_init_80 : decode b_M_init 80 = .ok (.aload_n 0, 1) := by decide +kernel
theorem d_M_init_81 : decode b_M_init 81 = .ok (.bipush 48, 2) := by decide +kernel
theorem d_M_init_83 : decode b_M_init 83 = .ok (.newarray .int, 2) := by decide +kernel
theorem d_M_init_85 : decode b_M_init 85 = .ok (.putfield 38, 3) := by decide +kernel
theorem d_M_init_88 : decode b_M_init 88 = .ok (.return_, 1) := by decide +kernel
theorem d_M_runs_0 : decode b_M_runs 0 = .ok (.iload_n 1, 1) := by decide +kernel
theorem d_M_runs_1 : decode b_M_runs 1 = .ok (.ifCond .lt 22, 3) := by decide +kernel
theorem d_M_runs_4 : decode b_M_runs 4 = .ok (.iload_n 1, 1) := by decide +kernel
theorem d_M_runs_5 : decode b_M_runs 5 = .ok (.bipush 6, 2) := by decide +kernel
theorem d_M_runs_7 : decode b_M_runs 7 = .ok (.if_icmp .ge 16, 3) := by decide +kernel
theorem d_M_runs_10 : decode b_M_runs 10 = .ok (.aload_n 0, 1) := by decide +kernel
theorem d_M_runs_11 : decode b_M_runs 11 = .ok (.getfield 22, 3) := by decide +kernel
theorem d_M_runs_14 : decode b_M_runs 14 = .ok (.iload_n 1, 1) := by decide +kernel
theorem d_M_runs_15 : decode b_M_runs 15 = .ok (.baload, 1) := by decide +kernel
theorem d_M_runs_16 : decode b_M_runs 16 = .ok (.ifCond .eq 7, 3) := by decide +kernel
theorem d_M_runs_19 : decode b_M_runs 19 = .ok (.iconst 1, 1) := by decide +kernel
theorem d_M_runs_20 : decode b_M_runs 20 = .ok (.goto 4, 3) := by decide +kernel
theorem d_M_runs_23 : decode b_M_runs 23 = .ok (.iconst 0, 1) := by decide +kernel
theorem d_M_runs_24 : decode b_M_runs 24 = .ok (.ireturn, 1) := by decide +kernel
theorem d_M_isGiven_0 : decode b_M_isGiven 0 = .ok (.iload_n 1, 1) := by decide +kernel
theorem d_M_isGiven_1 : decode b_M_isGiven 1 = .ok (.iconst 1, 1) := by decide +kernel
theorem d_M_isGiven_2 : decode b_M_isGiven 2 = .ok (.if_icmp .lt 15, 3) := by decide +kernel
theorem d_M_isGiven_5 : decode b_M_isGiven 5 = .ok (.iload_n 1, 1) := by decide +kernel
theorem d_M_isGiven_6 : decode b_M_isGiven 6 = .ok (.aload_n 0, 1) := by decide +kernel
theorem d_M_isGiven_7 : decode b_M_isGiven 7 = .ok (.getfield 41, 3) := by decide +kernel
theorem d_M_isGiven_10 : decode b_M_isGiven 10 = .ok (.if_icmp .gt 7, 3) := by decide +kernel
theorem d_M_isGiven_13 : decode b_M_isGiven 13 = .ok (.iconst 1, 1) := by decide +kernel
theorem d_M_isGiven_14 : decode b_M_isGiven 14 = .ok (.goto 4, 3) := by decide +kernel
theorem d_M_isGiven_17 : decode b_M_isGiven 17 = .ok (.iconst 0, 1) := by decide +kernel
theorem d_M_isGiven_18 : decode b_M_isGiven 18 = .ok (.ireturn, 1) := by decide +kernel
theorem d_M_begin_0 : decode b_M_begin 0 = .ok (.iload_n 1, 1) := by decide +kernel
theorem d_M_begin_1 : decode b_M_begin 1 = .ok (.ifCond .lt 27, 3) := by decide +kernel
theorem d_M_begin_4 : decode b_M_begin 4 = .ok (.iload_n 1, 1) := by decide +kernel
theorem d_M_begin_5 : decode b_M_begin 5 = .ok (.bipush 6, 2) := by decide +kernel
theorem d_M_begin_7 : decode b_M_begin 7 = .ok (.if_icmp .ge 21, 3) := by decide +kernel
theorem d_M_begin_10 : decode b_M_begin 10 = .ok (.iload_n 2, 1) := by decide +kernel
theorem d_M_begin_11 : decode b_M_begin 11 = .ok (.ifCond .lt 17, 3) := by decide +kernel
theorem d_M_begin_14 : decode b_M_begin 14 = .ok (.iload_n 2, 1) := by decide +kernel
theorem d_M_begin_15 : decode b_M_begin 15 = .ok (.iconst 1, 1) := by decide +kernel
theorem d_M_begin_16 : decode b_M_begin 16 = .ok (.if_icmp .gt 12, 3) := by decide +kernel
theorem d_M_begin_19 : decode b_M_begin 19 = .ok (.aload_n 0, 1) := by decide +kernel
theorem d_M_begin_20 : decode b_M_begin 20 = .ok (.getfield 22, 3) := by decide +kernel
theorem d_M_begin_23 : decode b_M_begin 23 = .ok (.iload_n 1, 1) := by decide +kernel
theorem d_M_begin_24 : decode b_M_begin 24 = .ok (.baload, 1) := by decide +kernel
theorem d_M_begin_25 : decode b_M_begin 25 = .ok (.ifCond .eq 5, 3) := by decide +kernel
theorem d_M_begin_28 : decode b_M_begin 28 = .ok (.iconst 0, 1) := by decide +kernel
theorem d_M_begin_29 : decode b_M_begin 29 = .ok (.ireturn, 1) := by decide +kernel
theorem d_M_begin_30 : decode b_M_begin 30 = .ok (.aload_n 0, 1) := by decide +kernel
theorem d_M_begin_31 : decode b_M_begin 31 = .ok (.getfield 22, 3) := by decide +kernel
theorem d_M_begin_34 : decode b_M_begin 34 = .ok (.iload_n 1, 1) := by decide +kernel
theorem d_M_begin_35 : decode b_M_begin 35 = .ok (.iconst 1, 1) := by decide +kernel
theorem d_M_begin_36 : decode b_M_begin 36 = .ok (.bastore, 1) := by decide +kernel
theorem d_M_begin_37 : decode b_M_begin 37 = .ok (.aload_n 0, 1) := by decide +kernel
theorem d_M_begin_38 : decode b_M_begin 38 = .ok (.getfield 26, 3) := by decide +kernel
theorem d_M_begin_41 : decode b_M_begin 41 = .ok (.iload_n 1, 1) := by decide +kernel
theorem d_M_begin_42 : decode b_M_begin 42 = .ok (.iload_n 2, 1) := by decide +kernel
theorem d_M_begin_43 : decode b_M_begin 43 = .ok (.iastore, 1) := by decide +kernel
theorem d_M_begin_44 : decode b_M_begin 44 = .ok (.aload_n 0, 1) := by decide +kernel
theorem d_M_begin_45 : decode b_M_begin 45 = .ok (.getfield 29, 3) := by decide +kernel
theorem d_M_begin_48 : decode b_M_begin 48 = .ok (.iload_n 1, 1) := by decide +kernel
theorem d_M_begin_49 : decode b_M_begin 49 = .ok (.iconst 0, 1) := by decide +kernel
theorem d_M_begin_50 : decode b_M_begin 50 = .ok (.iastore, 1) := by decide +kernel
theorem d_M_begin_51 : decode b_M_begin 51 = .ok (.aload_n 0, 1) := by decide +kernel
theorem d_M_begin_52 : decode b_M_begin 52 = .ok (.getfield 32, 3) := by decide +kernel
theorem d_M_begin_55 : decode b_M_begin 55 = .ok (.iload_n 1, 1) := by decide +kernel
theorem d_M_begin_56 : decode b_M_begin 56 = .ok (.iconst 0, 1) := by decide +kernel
theorem d_M_begin_57 : decode b_M_begin 57 = .ok (.iastore, 1) := by decide +kernel
theorem d_M_begin_58 : decode b_M_begin 58 = .ok (.aload_n 0, 1) := by decide +kernel
theorem d_M_begin_59 : decode b_M_begin 59 = .ok (.getfield 35, 3) := by decide +kernel
theorem d_M_begin_62 : decode b_M_begin 62 = .ok (.iload_n 1, 1) := by decide +kernel
theorem d_M_begin_63 : decode b_M_begin 63 = .ok (.iconst (-1), 1) := by decide +kernel
theorem d_M_begin_64 : decode b_M_begin 64 = .ok (.iastore, 1) := by decide +kernel
theorem d_M_begin_65 : decode b_M_begin 65 = .ok (.aload_n 0, 1) := by decide +kernel
theorem d_M_begin_66 : decode b_M_begin 66 = .ok (.getfield 38, 3) := by decide +kernel
theorem d_M_begin_69 : decode b_M_begin 69 = .ok (.bipush 8, 2) := by decide +kernel
theorem d_M_begin_71 : decode b_M_begin 71 = .ok (.iload_n 1, 1) := by decide +kernel
theorem d_M_begin_72 : decode b_M_begin 72 = .ok (.imul, 1) := by decide +kernel
theorem d_M_begin_73 : decode b_M_begin 73 = .ok (.iconst 0, 1) := by decide +kernel
theorem d_M_begin_74 : decode b_M_begin 74 = .ok (.iastore, 1) := by decide +kernel
theorem d_M_begin_75 : decode b_M_begin 75 = .ok (.iconst 1, 1) := by decide +kernel
theorem d_M_begin_76 : decode b_M_begin 76 = .ok (.ireturn, 1) := by decide +kernel
theorem d_M_statement_0 : decode b_M_statement 0 = .ok (.aload_n 0, 1) := by decide +kernel
theorem d_M_statement_1 : decode b_M_statement 1 = .ok (.iload_n 1, 1) := by decide +kernel
theorem d_M_statement_2 : decode b_M_statement 2 = .ok (.invokevirtual 45, 3) := by decide +kernel
theorem d_M_statement_5 : decode b_M_statement 5 = .ok (.ifCond .ne 5, 3) := by decide +kernel
theorem d_M_statement_8 : decode b_M_statement 8 = .ok (.iconst (-1), 1) := by decide +kernel
theorem d_M_statement_9 : decode b_M_statement 9 = .ok (.ireturn, 1) := by decide +kernel
theorem d_M_statement_10 : decode b_M_statement 10 = .ok (.aload_n 0, 1) := by decide +kernel
theorem d_M_statement_11 : decode b_M_statement 11 = .ok (.getfield 29, 3) := by decide +kernel
theorem d_M_statement_14 : decode b_M_statement 14 = .ok (.iload_n 1, 1) := by decide +kernel
theorem d_M_statement_15 : decode b_M_statement 15 = .ok (.dup2, 1) := by decide +kernel
theorem d_M_statement_16 : decode b_M_statement 16 = .ok (.iaload, 1) := by decide +kernel
theorem d_M_statement_17 : decode b_M_statement 17 = .ok (.iconst 1, 1) := by decide +kernel
theorem d_M_statement_18 : decode b_M_statement 18 = .ok (.iadd, 1) := by decide +kernel
theorem d_M_statement_19 : decode b_M_statement 19 = .ok (.iastore, 1) := by decide +kernel
theorem d_M_statement_20 : decode b_M_statement 20 = .ok (.aload_n 0, 1) := by decide +kernel
theorem d_M_statement_21 : decode b_M_statement 21 = .ok (.getfield 35, 3) := by decide +kernel
theorem d_M_statement_24 : decode b_M_statement 24 = .ok (.iload_n 1, 1) := by decide +kernel
theorem d_M_statement_25 : decode b_M_statement 25 = .ok (.aload_n 0, 1) := by decide +kernel
theorem d_M_statement_26 : decode b_M_statement 26 = .ok (.getfield 26, 3) := by decide +kernel
theorem d_M_statement_29 : decode b_M_statement 29 = .ok (.iload_n 1, 1) := by decide +kernel
theorem d_M_statement_30 : decode b_M_statement 30 = .ok (.iaload, 1) := by decide +kernel
theorem d_M_statement_31 : decode b_M_statement 31 = .ok (.ifCond .eq 12, 3) := by decide +kernel
theorem d_M_statement_34 : decode b_M_statement 34 = .ok (.aload_n 0, 1) := by decide +kernel
theorem d_M_statement_35 : decode b_M_statement 35 = .ok (.getfield 35, 3) := by decide +kernel
theorem d_M_statement_38 : decode b_M_statement 38 = .ok (.iload_n 1, 1) := by decide +kernel
theorem d_M_statement_39 : decode b_M_statement 39 = .ok (.iaload, 1) := by decide +kernel
theorem d_M_statement_40 : decode b_M_statement 40 = .ok (.ifCond .ge 10, 3) := by decide +kernel
theorem d_M_statement_43 : decode b_M_statement 43 = .ok (.aload_n 0, 1) := by decide +kernel
theorem d_M_statement_44 : decode b_M_statement 44 = .ok (.getfield 49, 3) := by decide +kernel
theorem d_M_statement_47 : decode b_M_statement 47 = .ok (.goto 9, 3) := by decide +kernel
theorem d_M_statement_50 : decode b_M_statement 50 = .ok (.aload_n 0, 1) := by decide +kernel
theorem d_M_statement_51 : decode b_M_statement 51 = .ok (.getfield 35, 3) := by decide +kernel
theorem d_M_statement_54 : decode b_M_statement 54 = .ok (.iload_n 1, 1) := by decide +kernel
theorem d_M_statement_55 : decode b_M_statement 55 = .ok (.iaload, 1) := by decide +kernel
theorem d_M_statement_56 : decode b_M_statement 56 = .ok (.iastore, 1) := by decide +kernel
theorem d_M_statement_57 : decode b_M_statement 57 = .ok (.aload_n 0, 1) := by decide +kernel
theorem d_M_statement_58 : decode b_M_statement 58 = .ok (.getfield 29, 3) := by decide +kernel
theorem d_M_statement_61 : decode b_M_statement 61 = .ok (.iload_n 1, 1) := by decide +kernel
theorem d_M_statement_62 : decode b_M_statement 62 = .ok (.iaload, 1) := by decide +kernel
theorem d_M_statement_63 : decode b_M_statement 63 = .ok (.ireturn, 1) := by decide +kernel
theorem d_M_number_0 : decode b_M_number 0 = .ok (.iconst 0, 1) := by decide +kernel
theorem d_M_number_1 : decode b_M_number 1 = .ok (.istore_n 2, 1) := by decide +kernel
theorem d_M_number_2 : decode b_M_number 2 = .ok (.iconst 0, 1) := by decide +kernel
theorem d_M_number_3 : decode b_M_number 3 = .ok (.istore_n 3, 1) := by decide +kernel
theorem d_M_number_4 : decode b_M_number 4 = .ok (.aload_n 0, 1) := by decide +kernel
theorem d_M_number_5 : decode b_M_number 5 = .ok (.iload_n 1, 1) := by decide +kernel
theorem d_M_number_6 : decode b_M_number 6 = .ok (.invokevirtual 45, 3) := by decide +kernel
theorem d_M_number_9 : decode b_M_number 9 = .ok (.ifCond .eq 41, 3) := by decide +kernel
theorem d_M_number_12 : decode b_M_number 12 = .ok (.iload_n 3, 1) := by decide +kernel
theorem d_M_number_13 : decode b_M_number 13 = .ok (.aload_n 0, 1) := by decide +kernel
theorem d_M_number_14 : decode b_M_number 14 = .ok (.getfield 32, 3) := by decide +kernel
theorem d_M_number_17 : decode b_M_number 17 = .ok (.iload_n 1, 1) := by decide +kernel
theorem d_M_number_18 : decode b_M_number 18 = .ok (.iaload, 1) := by decide +kernel
theorem d_M_number_19 : decode b_M_number 19 = .ok (.if_icmp .gt 31, 3) := by decide +kernel
theorem d_M_number_22 : decode b_M_number 22 = .ok (.aload_n 0, 1) := by decide +kernel
theorem d_M_number_23 : decode b_M_number 23 = .ok (.getfield 38, 3) := by decide +kernel
theorem d_M_number_26 : decode b_M_number 26 = .ok (.bipush 8, 2) := by decide +kernel
theorem d_M_number_28 : decode b_M_number 28 = .ok (.iload_n 1, 1) := by decide +kernel
theorem d_M_number_29 : decode b_M_number 29 = .ok (.imul, 1) := by decide +kernel
theorem d_M_number_30 : decode b_M_number 30 = .ok (.iload_n 3, 1) := by decide +kernel
theorem d_M_number_31 : decode b_M_number 31 = .ok (.iadd, 1) := by decide +kernel
theorem d_M_number_32 : decode b_M_number 32 = .ok (.iaload, 1) := by decide +kernel
theorem d_M_number_33 : decode b_M_number 33 = .ok (.ifCond .ne 9, 3) := by decide +kernel
theorem d_M_number_36 : decode b_M_number 36 = .ok (.iload_n 2, 1) := by decide +kernel
theorem d_M_number_37 : decode b_M_number 37 = .ok (.iconst 1, 1) := by decide +kernel
theorem d_M_number_38 : decode b_M_number 38 = .ok (.iadd, 1) := by decide +kernel
theorem d_M_number_39 : decode b_M_number 39 = .ok (.goto 4, 3) := by decide +kernel
theorem d_M_number_42 : decode b_M_number 42 = .ok (.iload_n 2, 1) := by decide +kernel
theorem d_M_number_43 : decode b_M_number 43 = .ok (.istore_n 2, 1) := by decide +kernel
theorem d_M_number_44 : decode b_M_number 44 = .ok (.iinc 3 1, 3) := by decide +kernel
theorem d_M_number_47 : decode b_M_number 47 = .ok (.goto (-43), 3) := by decide +kernel
theorem d_M_number_50 : decode b_M_number 50 = .ok (.aload_n 0, 1) := by decide +kernel
theorem d_M_number_51 : decode b_M_number 51 = .ok (.iload_n 1, 1) := by decide +kernel
theorem d_M_number_52 : decode b_M_number 52 = .ok (.invokevirtual 45, 3) := by decide +kernel
theorem d_M_number_55 : decode b_M_number 55 = .ok (.ifCond .eq 15, 3) := by decide +kernel
theorem d_M_number_58 : decode b_M_number 58 = .ok (.aload_n 0, 1) := by decide +kernel
theorem d_M_number_59 : decode b_M_number 59 = .ok (.getfield 41, 3) := by decide +kernel
theorem d_M_number_62 : decode b_M_number 62 = .ok (.iload_n 2, 1) := by decide +kernel
theorem d_M_number_63 : decode b_M_number 63 = .ok (.iadd, 1) := by decide +kernel
theorem d_M_number_64 : decode b_M_number 64 = .ok (.sipush 4000, 3) := by decide +kernel
theorem d_M_number_67 : decode b_M_number 67 = .ok (.if_icmp .le 5, 3) := by decide +kernel
theorem d_M_number_70 : decode b_M_number 70 = .ok (.iconst (-1), 1) := by decide +kernel
theorem d_M_number_71 : decode b_M_number 71 = .ok (.ireturn, 1) := by decide +kernel
theorem d_M_number_72 : decode b_M_number 72 = .ok (.iconst 0, 1) := by decide +kernel
theorem d_M_number_73 : decode b_M_number 73 = .ok (.istore_n 3, 1) := by decide +kernel
theorem d_M_number_74 : decode b_M_number 74 = .ok (.iload_n 3, 1) := by decide +kernel
theorem d_M_number_75 : decode b_M_number 75 = .ok (.aload_n 0, 1) := by decide +kernel
theorem d_M_number_76 : decode b_M_number 76 = .ok (.getfield 32, 3) := by decide +kernel
theorem d_M_number_79 : decode b_M_number 79 = .ok (.iload_n 1, 1) := by decide +kernel
theorem d_M_number_80 : decode b_M_number 80 = .ok (.iaload, 1) := by decide +kernel
theorem d_M_number_81 : decode b_M_number 81 = .ok (.if_icmp .gt 91, 3) := by decide +kernel
theorem d_M_number_84 : decode b_M_number 84 = .ok (.aload_n 0, 1) := by decide +kernel
theorem d_M_number_85 : decode b_M_number 85 = .ok (.getfield 38, 3) := by decide +kernel
theorem d_M_number_88 : decode b_M_number 88 = .ok (.bipush 8, 2) := by decide +kernel
theorem d_M_number_90 : decode b_M_number 90 = .ok (.iload_n 1, 1) := by decide +kernel
theorem d_M_number_91 : decode b_M_number 91 = .ok (.imul, 1) := by decide +kernel
theorem d_M_number_92 : decode b_M_number 92 = .ok (.iload_n 3, 1) := by decide +kernel
theorem d_M_number_93 : decode b_M_number 93 = .ok (.iadd, 1) := by decide +kernel
theorem d_M_number_94 : decode b_M_number 94 = .ok (.iaload, 1) := by decide +kernel
theorem d_M_number_95 : decode b_M_number 95 = .ok (.ifCond .ne 71, 3) := by decide +kernel
theorem d_M_number_98 : decode b_M_number 98 = .ok (.aload_n 0, 1) := by decide +kernel
theorem d_M_number_99 : decode b_M_number 99 = .ok (.dup, 1) := by decide +kernel
theorem d_M_number_100 : decode b_M_number 100 = .ok (.getfield 41, 3) := by decide +kernel
theorem d_M_number_103 : decode b_M_number 103 = .ok (.iconst 1, 1) := by decide +kernel
theorem d_M_number_104 : decode b_M_number 104 = .ok (.iadd, 1) := by decide +kernel
theorem d_M_number_105 : decode b_M_number 105 = .ok (.putfield 41, 3) := by decide +kernel
theorem d_M_number_108 : decode b_M_number 108 = .ok (.aload_n 0, 1) := by decide +kernel
theorem d_M_number_109 : decode b_M_number 109 = .ok (.getfield 38, 3) := by decide +kernel
theorem d_M_number_112 : decode b_M_number 112 = .ok (.bipush 8, 2) := by decide +kernel
theorem d_M_number_114 : decode b_M_number 114 = .ok (.iload_n 1, 1) := by decide +kernel
theorem d_M_number_115 : decode b_M_number 115 = .ok (.imul, 1) := by decide +kernel
theorem d_M_number_116 : decode b_M_number 116 = .ok (.iload_n 3, 1) := by decide +kernel
theorem d_M_number_117 : decode b_M_number 117 = .ok (.iadd, 1) := by decide +kernel
theorem d_M_number_118 : decode b_M_number 118 = .ok (.aload_n 0, 1) := by decide +kernel
theorem d_M_number_119 : decode b_M_number 119 = .ok (.getfield 41, 3) := by decide +kernel
theorem d_M_number_122 : decode b_M_number 122 = .ok (.iastore, 1) := by decide +kernel
theorem d_M_number_123 : decode b_M_number 123 = .ok (.aload_n 0, 1) := by decide +kernel
theorem d_M_number_124 : decode b_M_number 124 = .ok (.getfield 7, 3) := by decide +kernel
theorem d_M_number_127 : decode b_M_number 127 = .ok (.aload_n 0, 1) := by decide +kernel
theorem d_M_number_128 : decode b_M_number 128 = .ok (.getfield 41, 3) := by decide +kernel
theorem d_M_number_131 : decode b_M_number 131 = .ok (.iconst 1, 1) := by decide +kernel
theorem d_M_number_132 : decode b_M_number 132 = .ok (.iastore, 1) := by decide +kernel
theorem d_M_number_133 : decode b_M_number 133 = .ok (.aload_n 0, 1) := by decide +kernel
theorem d_M_number_134 : decode b_M_number 134 = .ok (.getfield 13, 3) := by decide +kernel
theorem d_M_number_137 : decode b_M_number 137 = .ok (.aload_n 0, 1) := by decide +kernel
theorem d_M_number_138 : decode b_M_number 138 = .ok (.getfield 41, 3) := by decide +kernel
theorem d_M_number_141 : decode b_M_number 141 = .ok (.bipush 8, 2) := by decide +kernel
theorem d_M_number_143 : decode b_M_number 143 = .ok (.iload_n 1, 1) := by decide +kernel
theorem d_M_number_144 : decode b_M_number 144 = .ok (.imul, 1) := by decide +kernel
theorem d_M_number_145 : decode b_M_number 145 = .ok (.iload_n 3, 1) := by decide +kernel
theorem d_M_number_146 : decode b_M_number 146 = .ok (.iadd, 1) := by decide +kernel
theorem d_M_number_147 : decode b_M_number 147 = .ok (.iastore, 1) := by decide +kernel
theorem d_M_number_148 : decode b_M_number 148 = .ok (.aload_n 0, 1) := by decide +kernel
theorem d_M_number_149 : decode b_M_number 149 = .ok (.getfield 16, 3) := by decide +kernel
theorem d_M_number_152 : decode b_M_number 152 = .ok (.aload_n 0, 1) := by decide +kernel
theorem d_M_number_153 : decode b_M_number 153 = .ok (.getfield 41, 3) := by decide +kernel
theorem d_M_number_156 : decode b_M_number 156 = .ok (.aload_n 0, 1) := by decide +kernel
theorem d_M_number_157 : decode b_M_number 157 = .ok (.getfield 38, 3) := by decide +kernel
theorem d_M_number_160 : decode b_M_number 160 = .ok (.bipush 8, 2) := by decide +kernel
theorem d_M_number_162 : decode b_M_number 162 = .ok (.iload_n 1, 1) := by decide +kernel
theorem d_M_number_163 : decode b_M_number 163 = .ok (.imul, 1) := by decide +kernel
theorem d_M_number_164 : decode b_M_number 164 = .ok (.iaload, 1) := by decide +kernel
theorem d_M_number_165 : decode b_M_number 165 = .ok (.iastore, 1) := by decide +kernel
theorem d_M_number_166 : decode b_M_number 166 = .ok (.iinc 3 1, 3) := by decide +kernel
theorem d_M_number_169 : decode b_M_number 169 = .ok (.goto (-95), 3) := by decide +kernel
theorem d_M_number_172 : decode b_M_number 172 = .ok (.aload_n 0, 1) := by decide +kernel
theorem d_M_number_173 : decode b_M_number 173 = .ok (.getfield 38, 3) := by decide +kernel
theorem d_M_number_176 : decode b_M_number 176 = .ok (.bipush 8, 2) := by decide +kernel
theorem d_M_number_178 : decode b_M_number 178 = .ok (.iload_n 1, 1) := by decide +kernel
theorem d_M_number_179 : decode b_M_number 179 = .ok (.imul, 1) := by decide +kernel
theorem d_M_number_180 : decode b_M_number 180 = .ok (.aload_n 0, 1) := by decide +kernel
theorem d_M_number_181 : decode b_M_number 181 = .ok (.getfield 32, 3) := by decide +kernel
theorem d_M_number_184 : decode b_M_number 184 = .ok (.iload_n 1, 1) := by decide +kernel
theorem d_M_number_185 : decode b_M_number 185 = .ok (.iaload, 1) := by decide +kernel
theorem d_M_number_186 : decode b_M_number 186 = .ok (.iadd, 1) := by decide +kernel
theorem d_M_number_187 : decode b_M_number 187 = .ok (.iaload, 1) := by decide +kernel
theorem d_M_number_188 : decode b_M_number 188 = .ok (.ireturn, 1) := by decide +kernel
theorem d_M_save_0 : decode b_M_save 0 = .ok (.aload_n 0, 1) := by decide +kernel
theorem d_M_save_1 : decode b_M_save 1 = .ok (.iload_n 1, 1) := by decide +kernel
theorem d_M_save_2 : decode b_M_save 2 = .ok (.invokevirtual 45, 3) := by decide +kernel
theorem d_M_save_5 : decode b_M_save 5 = .ok (.ifCond .eq 14, 3) := by decide +kernel
theorem d_M_save_8 : decode b_M_save 8 = .ok (.aload_n 0, 1) := by decide +kernel
theorem d_M_save_9 : decode b_M_save 9 = .ok (.getfield 32, 3) := by decide +kernel
theorem d_M_save_12 : decode b_M_save 12 = .ok (.iload_n 1, 1) := by decide +kernel
theorem d_M_save_13 : decode b_M_save 13 = .ok (.iaload, 1) := by decide +kernel
theorem d_M_save_14 : decode b_M_save 14 = .ok (.bipush 7, 2) := by decide +kernel
theorem d_M_save_16 : decode b_M_save 16 = .ok (.if_icmp .ne 5, 3) := by decide +kernel
theorem d_M_save_19 : decode b_M_save 19 = .ok (.iconst (-1), 1) := by decide +kernel
theorem d_M_save_20 : decode b_M_save 20 = .ok (.ireturn, 1) := by decide +kernel
theorem d_M_save_21 : decode b_M_save 21 = .ok (.aload_n 0, 1) := by decide +kernel
theorem d_M_save_22 : decode b_M_save 22 = .ok (.getfield 32, 3) := by decide +kernel
theorem d_M_save_25 : decode b_M_save 25 = .ok (.iload_n 1, 1) := by decide +kernel
theorem d_M_save_26 : decode b_M_save 26 = .ok (.dup2, 1) := by decide +kernel
theorem d_M_save_27 : decode b_M_save 27 = .ok (.iaload, 1) := by decide +kernel
theorem d_M_save_28 : decode b_M_save 28 = .ok (.iconst 1, 1) := by decide +kernel
theorem d_M_save_29 : decode b_M_save 29 = .ok (.iadd, 1) := by decide +kernel
theorem d_M_save_30 : decode b_M_save 30 = .ok (.iastore, 1) := by decide +kernel
theorem d_M_save_31 : decode b_M_save 31 = .ok (.aload_n 0, 1) := by decide +kernel
theorem d_M_save_32 : decode b_M_save 32 = .ok (.getfield 38, 3) := by decide +kernel
theorem d_M_save_35 : decode b_M_save 35 = .ok (.bipush 8, 2) := by decide +kernel
theorem d_M_save_37 : decode b_M_save 37 = .ok (.iload_n 1, 1) := by decide +kernel
theorem d_M_save_38 : decode b_M_save 38 = .ok (.imul, 1) := by decide +kernel
theorem d_M_save_39 : decode b_M_save 39 = .ok (.aload_n 0, 1) := by decide +kernel
theorem d_M_save_40 : decode b_M_save 40 = .ok (.getfield 32, 3) := by decide +kernel
theorem d_M_save_43 : decode b_M_save 43 = .ok (.iload_n 1, 1) := by decide +kernel
theorem d_M_save_44 : decode b_M_save 44 = .ok (.iaload, 1) := by decide +kernel
theorem d_M_save_45 : decode b_M_save 45 = .ok (.iadd, 1) := by decide +kernel
theorem d_M_save_46 : decode b_M_save 46 = .ok (.iconst 0, 1) := by decide +kernel
theorem d_M_save_47 : decode b_M_save 47 = .ok (.iastore, 1) := by decide +kernel
theorem d_M_save_48 : decode b_M_save 48 = .ok (.aload_n 0, 1) := by decide +kernel
theorem d_M_save_49 : decode b_M_save 49 = .ok (.getfield 32, 3) := by decide +kernel
theorem d_M_save_52 : decode b_M_save 52 = .ok (.iload_n 1, 1) := by decide +kernel
theorem d_M_save_53 : decode b_M_save 53 = .ok (.iaload, 1) := by decide +kernel
theorem d_M_save_54 : decode b_M_save 54 = .ok (.ireturn, 1) := by decide +kernel
theorem d_M_isFrom_0 : decode b_M_isFrom 0 = .ok (.aload_n 0, 1) := by decide +kernel
theorem d_M_isFrom_1 : decode b_M_isFrom 1 = .ok (.getfield 7, 3) := by decide +kernel
theorem d_M_isFrom_4 : decode b_M_isFrom 4 = .ok (.iload_n 1, 1) := by decide +kernel
theorem d_M_isFrom_5 : decode b_M_isFrom 5 = .ok (.iaload, 1) := by decide +kernel
theorem d_M_isFrom_6 : decode b_M_isFrom 6 = .ok (.iconst 1, 1) := by decide +kernel
theorem d_M_isFrom_7 : decode b_M_isFrom 7 = .ok (.if_icmp .ne 33, 3) := by decide +kernel
theorem d_M_isFrom_10 : decode b_M_isFrom 10 = .ok (.aload_n 0, 1) := by decide +kernel
theorem d_M_isFrom_11 : decode b_M_isFrom 11 = .ok (.getfield 13, 3) := by decide +kernel
theorem d_M_isFrom_14 : decode b_M_isFrom 14 = .ok (.iload_n 1, 1) := by decide +kernel
theorem d_M_isFrom_15 : decode b_M_isFrom 15 = .ok (.iaload, 1) := by decide +kernel
theorem d_M_isFrom_16 : decode b_M_isFrom 16 = .ok (.bipush 8, 2) := by decide +kernel
theorem d_M_isFrom_18 : decode b_M_isFrom 18 = .ok (.idiv, 1) := by decide +kernel
theorem d_M_isFrom_19 : decode b_M_isFrom 19 = .ok (.iload_n 2, 1) := by decide +kernel
theorem d_M_isFrom_20 : decode b_M_isFrom 20 = .ok (.if_icmp .ne 20, 3) := by decide +kernel
theorem d_M_isFrom_23 : decode b_M_isFrom 23 = .ok (.aload_n 0, 1) := by decide +kernel
theorem d_M_isFrom_24 : decode b_M_isFrom 24 = .ok (.getfield 13, 3) := by decide +kernel
theorem d_M_isFrom_27 : decode b_M_isFrom 27 = .ok (.iload_n 1, 1) := by decide +kernel
theorem d_M_isFrom_28 : decode b_M_isFrom 28 = .ok (.iaload, 1) := by decide +kernel
theorem d_M_isFrom_29 : decode b_M_isFrom 29 = .ok (.bipush 8, 2) := by decide +kernel
theorem d_M_isFrom_31 : decode b_M_isFrom 31 = .ok (.irem, 1) := by decide +kernel
theorem d_M_isFrom_32 : decode b_M_isFrom 32 = .ok (.iload_n 3, 1) := by decide +kernel
theorem d_M_isFrom_33 : decode b_M_isFrom 33 = .ok (.if_icmp .lt 7, 3) := by decide +kernel
theorem d_M_isFrom_36 : decode b_M_isFrom 36 = .ok (.iconst 1, 1) := by decide +kernel
theorem d_M_isFrom_37 : decode b_M_isFrom 37 = .ok (.goto 4, 3) := by decide +kernel
theorem d_M_isFrom_40 : decode b_M_isFrom 40 = .ok (.iconst 0, 1) := by decide +kernel
theorem d_M_isFrom_41 : decode b_M_isFrom 41 = .ok (.ireturn, 1) := by decide +kernel
theorem d_M_release_0 : decode b_M_release 0 = .ok (.aload_n 0, 1) := by decide +kernel
theorem d_M_release_1 : decode b_M_release 1 = .ok (.iload_n 1, 1) := by decide +kernel
theorem d_M_release_2 : decode b_M_release 2 = .ok (.invokevirtual 45, 3) := by decide +kernel
theorem d_M_release_5 : decode b_M_release 5 = .ok (.ifCond .eq 18, 3) := by decide +kernel
theorem d_M_release_8 : decode b_M_release 8 = .ok (.iload_n 2, 1) := by decide +kernel
theorem d_M_release_9 : decode b_M_release 9 = .ok (.iconst 1, 1) := by decide +kernel
theorem d_M_release_10 : decode b_M_release 10 = .ok (.if_icmp .lt 13, 3) := by decide +kernel
theorem d_M_release_13 : decode b_M_release 13 = .ok (.iload_n 2, 1) := by decide +kernel
theorem d_M_release_14 : decode b_M_release 14 = .ok (.aload_n 0, 1) := by decide +kernel
theorem d_M_release_15 : decode b_M_release 15 = .ok (.getfield 32, 3) := by decide +kernel
theorem d_M_release_18 : decode b_M_release 18 = .ok (.iload_n 1, 1) := by decide +kernel
theorem d_M_release_19 : decode b_M_release 19 = .ok (.iaload, 1) := by decide +kernel
theorem d_M_release_20 : decode b_M_release 20 = .ok (.if_icmp .le 5, 3) := by decide +kernel
theorem d_M_release_23 : decode b_M_release 23 = .ok (.iconst 0, 1) := by decide +kernel
theorem d_M_release_24 : decode b_M_release 24 = .ok (.ireturn, 1) := by decide +kernel
theorem d_M_release_25 : decode b_M_release 25 = .ok (.iconst 1, 1) := by decide +kernel
theorem d_M_release_26 : decode b_M_release 26 = .ok (.istore_n 3, 1) := by decide +kernel
theorem d_M_release_27 : decode b_M_release 27 = .ok (.iload_n 3, 1) := by decide +kernel
theorem d_M_release_28 : decode b_M_release 28 = .ok (.aload_n 0, 1) := by decide +kernel
theorem d_M_release_29 : decode b_M_release 29 = .ok (.getfield 41, 3) := by decide +kernel
theorem d_M_release_32 : decode b_M_release 32 = .ok (.if_icmp .gt 42, 3) := by decide +kernel
theorem d_M_release_35 : decode b_M_release 35 = .ok (.aload_n 0, 1) := by decide +kernel
theorem d_M_release_36 : decode b_M_release 36 = .ok (.getfield 13, 3) := by decide +kernel
theorem d_M_release_39 : decode b_M_release 39 = .ok (.iload_n 3, 1) := by decide +kernel
theorem d_M_release_40 : decode b_M_release 40 = .ok (.aload_n 0, 1) := by decide +kernel
theorem d_M_release_41 : decode b_M_release 41 = .ok (.iload_n 3, 1) := by decide +kernel
theorem d_M_release_42 : decode b_M_release 42 = .ok (.iload_n 1, 1) := by decide +kernel
theorem d_M_release_43 : decode b_M_release 43 = .ok (.iload_n 2, 1) := by decide +kernel
theorem d_M_release_44 : decode b_M_release 44 = .ok (.invokevirtual 52, 3) := by decide +kernel
theorem d_M_release_47 : decode b_M_release 47 = .ok (.ifCond .eq 14, 3) := by decide +kernel
theorem d_M_release_50 : decode b_M_release 50 = .ok (.bipush 8, 2) := by decide +kernel
theorem d_M_release_52 : decode b_M_release 52 = .ok (.iload_n 1, 1) := by decide +kernel
theorem d_M_release_53 : decode b_M_release 53 = .ok (.imul, 1) := by decide +kernel
theorem d_M_release_54 : decode b_M_release 54 = .ok (.iload_n 2, 1) := by decide +kernel
theorem d_M_release_55 : decode b_M_release 55 = .ok (.iadd, 1) := by decide +kernel
theorem d_M_release_56 : decode b_M_release 56 = .ok (.iconst 1, 1) := by decide +kernel
theorem d_M_release_57 : decode b_M_release 57 = .ok (.isub, 1) := by decide +kernel
theorem d_M_release_58 : decode b_M_release 58 = .ok (.goto 9, 3) := by decide +kernel
theorem d_M_release_61 : decode b_M_release 61 = .ok (.aload_n 0, 1) := by decide +kernel
theorem d_M_release_62 : decode b_M_release 62 = .ok (.getfield 13, 3) := by decide +kernel
theorem d_M_release_65 : decode b_M_release 65 = .ok (.iload_n 3, 1) := by decide +kernel
theorem d_M_release_66 : decode b_M_release 66 = .ok (.iaload, 1) := by decide +kernel
theorem d_M_release_67 : decode b_M_release 67 = .ok (.iastore, 1) := by decide +kernel
theorem d_M_release_68 : decode b_M_release 68 = .ok (.iinc 3 1, 3) := by decide +kernel
theorem d_M_release_71 : decode b_M_release 71 = .ok (.goto (-44), 3) := by decide +kernel
theorem d_M_release_74 : decode b_M_release 74 = .ok (.aload_n 0, 1) := by decide +kernel
theorem d_M_release_75 : decode b_M_release 75 = .ok (.getfield 32, 3) := by decide +kernel
theorem d_M_release_78 : decode b_M_release 78 = .ok (.iload_n 1, 1) := by decide +kernel
theorem d_M_release_79 : decode b_M_release 79 = .ok (.iload_n 2, 1) := by decide +kernel
theorem d_M_release_80 : decode b_M_release 80 = .ok (.iconst 1, 1) := by decide +kernel
theorem d_M_release_81 : decode b_M_release 81 = .ok (.isub, 1) := by decide +kernel
theorem d_M_release_82 : decode b_M_release 82 = .ok (.iastore, 1) := by decide +kernel
theorem d_M_release_83 : decode b_M_release 83 = .ok (.iconst 1, 1) := by decide +kernel
theorem d_M_release_84 : decode b_M_release 84 = .ok (.ireturn, 1) := by decide +kernel
theorem d_M_back_0 : decode b_M_back 0 = .ok (.aload_n 0, 1) := by decide +kernel
theorem d_M_back_1 : decode b_M_back 1 = .ok (.iload_n 1, 1) := by decide +kernel
theorem d_M_back_2 : decode b_M_back 2 = .ok (.invokevirtual 45, 3) := by decide +kernel
theorem d_M_back_5 : decode b_M_back 5 = .ok (.ifCond .eq 18, 3) := by decide +kernel
theorem d_M_back_8 : decode b_M_back 8 = .ok (.iload_n 2, 1) := by decide +kernel
theorem d_M_back_9 : decode b_M_back 9 = .ok (.iconst 1, 1) := by decide +kernel
theorem d_M_back_10 : decode b_M_back 10 = .ok (.if_icmp .lt 13, 3) := by decide +kernel
theorem d_M_back_13 : decode b_M_back 13 = .ok (.iload_n 2, 1) := by decide +kernel
theorem d_M_back_14 : decode b_M_back 14 = .ok (.aload_n 0, 1) := by decide +kernel
theorem d_M_back_15 : decode b_M_back 15 = .ok (.getfield 32, 3) := by decide +kernel
theorem d_M_back_18 : decode b_M_back 18 = .ok (.iload_n 1, 1) := by decide +kernel
theorem d_M_back_19 : decode b_M_back 19 = .ok (.iaload, 1) := by decide +kernel
theorem d_M_back_20 : decode b_M_back 20 = .ok (.if_icmp .le 5, 3) := by decide +kernel
theorem d_M_back_23 : decode b_M_back 23 = .ok (.iconst 0, 1) := by decide +kernel
theorem d_M_back_24 : decode b_M_back 24 = .ok (.ireturn, 1) := by decide +kernel
theorem d_M_back_25 : decode b_M_back 25 = .ok (.iconst 1, 1) := by decide +kernel
theorem d_M_back_26 : decode b_M_back 26 = .ok (.istore_n 3, 1) := by decide +kernel
theorem d_M_back_27 : decode b_M_back 27 = .ok (.iload_n 3, 1) := by decide +kernel
theorem d_M_back_28 : decode b_M_back 28 = .ok (.aload_n 0, 1) := by decide +kernel
theorem d_M_back_29 : decode b_M_back 29 = .ok (.getfield 41, 3) := by decide +kernel
theorem d_M_back_32 : decode b_M_back 32 = .ok (.if_icmp .gt 35, 3) := by decide +kernel
theorem d_M_back_35 : decode b_M_back 35 = .ok (.aload_n 0, 1) := by decide +kernel
theorem d_M_back_36 : decode b_M_back 36 = .ok (.getfield 7, 3) := by decide +kernel
theorem d_M_back_39 : decode b_M_back 39 = .ok (.iload_n 3, 1) := by decide +kernel
theorem d_M_back_40 : decode b_M_back 40 = .ok (.aload_n 0, 1) := by decide +kernel
theorem d_M_back_41 : decode b_M_back 41 = .ok (.iload_n 3, 1) := by decide +kernel
theorem d_M_back_42 : decode b_M_back 42 = .ok (.iload_n 1, 1) := by decide +kernel
theorem d_M_back_43 : decode b_M_back 43 = .ok (.iload_n 2, 1) := by decide +kernel
theorem d_M_back_44 : decode b_M_back 44 = .ok (.invokevirtual 52, 3) := by decide +kernel
theorem d_M_back_47 : decode b_M_back 47 = .ok (.ifCond .eq 7, 3) := by decide +kernel
theorem d_M_back_50 : decode b_M_back 50 = .ok (.iconst 3, 1) := by decide +kernel
theorem d_M_back_51 : decode b_M_back 51 = .ok (.goto 9, 3) := by decide +kernel
theorem d_M_back_54 : decode b_M_back 54 = .ok (.aload_n 0, 1) := by decide +kernel
theorem d_M_back_55 : decode b_M_back 55 = .ok (.getfield 7, 3) := by decide +kernel
theorem d_M_back_58 : decode b_M_back 58 = .ok (.iload_n 3, 1) := by decide +kernel
theorem d_M_back_59 : decode b_M_back 59 = .ok (.iaload, 1) := by decide +kernel
theorem d_M_back_60 : decode b_M_back 60 = .ok (.iastore, 1) := by decide +kernel
theorem d_M_back_61 : decode b_M_back 61 = .ok (.iinc 3 1, 3) := by decide +kernel
theorem d_M_back_64 : decode b_M_back 64 = .ok (.goto (-37), 3) := by decide +kernel
theorem d_M_back_67 : decode b_M_back 67 = .ok (.aload_n 0, 1) := by decide +kernel
theorem d_M_back_68 : decode b_M_back 68 = .ok (.getfield 32, 3) := by decide +kernel
theorem d_M_back_71 : decode b_M_back 71 = .ok (.iload_n 1, 1) := by decide +kernel
theorem d_M_back_72 : decode b_M_back 72 = .ok (.iload_n 2, 1) := by decide +kernel
theorem d_M_back_73 : decode b_M_back 73 = .ok (.iastore, 1) := by decide +kernel
theorem d_M_back_74 : decode b_M_back 74 = .ok (.aload_n 0, 1) := by decide +kernel
theorem d_M_back_75 : decode b_M_back 75 = .ok (.getfield 38, 3) := by decide +kernel
theorem d_M_back_78 : decode b_M_back 78 = .ok (.bipush 8, 2) := by decide +kernel
theorem d_M_back_80 : decode b_M_back 80 = .ok (.iload_n 1, 1) := by decide +kernel
theorem d_M_back_81 : decode b_M_back 81 = .ok (.imul, 1) := by decide +kernel
theorem d_M_back_82 : decode b_M_back 82 = .ok (.iload_n 2, 1) := by decide +kernel
theorem d_M_back_83 : decode b_M_back 83 = .ok (.iadd, 1) := by decide +kernel
theorem d_M_back_84 : decode b_M_back 84 = .ok (.iconst 0, 1) := by decide +kernel
theorem d_M_back_85 : decode b_M_back 85 = .ok (.iastore, 1) := by decide +kernel
theorem d_M_back_86 : decode b_M_back 86 = .ok (.iconst 1, 1) := by decide +kernel
theorem d_M_back_87 : decode b_M_back 87 = .ok (.ireturn, 1) := by decide +kernel
theorem d_M_ends_0 : decode b_M_ends 0 = .ok (.iconst 0, 1) := by decide +kernel
theorem d_M_ends_1 : decode b_M_ends 1 = .ok (.istore_n 3, 1) := by decide +kernel
theorem d_M_ends_2 : decode b_M_ends 2 = .ok (.iconst 1, 1) := by decide +kernel
theorem d_M_ends_3 : decode b_M_ends 3 = .ok (.istore 4, 2) := by decide +kernel
theorem d_M_ends_5 : decode b_M_ends 5 = .ok (.iload 4, 2) := by decide +kernel
theorem d_M_ends_7 : decode b_M_ends 7 = .ok (.aload_n 0, 1) := by decide +kernel
theorem d_M_ends_8 : decode b_M_ends 8 = .ok (.getfield 41, 3) := by decide +kernel
theorem d_M_ends_11 : decode b_M_ends 11 = .ok (.if_icmp .gt 53, 3) := by decide +kernel
theorem d_M_ends_14 : decode b_M_ends 14 = .ok (.aload_n 0, 1) := by decide +kernel
theorem d_M_ends_15 : decode b_M_ends 15 = .ok (.iload 4, 2) := by decide +kernel
theorem d_M_ends_17 : decode b_M_ends 17 = .ok (.iload_n 1, 1) := by decide +kernel
theorem d_M_ends_18 : decode b_M_ends 18 = .ok (.iconst 0, 1) := by decide +kernel
theorem d_M_ends_19 : decode b_M_ends 19 = .ok (.invokevirtual 52, 3) := by decide +kernel
theorem d_M_ends_22 : decode b_M_ends 22 = .ok (.ifCond .eq 36, 3) := by decide +kernel
theorem d_M_ends_25 : decode b_M_ends 25 = .ok (.aload_n 0, 1) := by decide +kernel
theorem d_M_ends_26 : decode b_M_ends 26 = .ok (.getfield 7, 3) := by decide +kernel
theorem d_M_ends_29 : decode b_M_ends 29 = .ok (.iload 4, 2) := by decide +kernel
theorem d_M_ends_31 : decode b_M_ends 31 = .ok (.iload_n 2, 1) := by decide +kernel
theorem d_M_ends_32 : decode b_M_ends 32 = .ok (.iastore, 1) := by decide +kernel
theorem d_M_ends_33 : decode b_M_ends 33 = .ok (.aload_n 0, 1) := by decide +kernel
theorem d_M_ends_34 : decode b_M_ends 34 = .ok (.getfield 19, 3) := by decide +kernel
theorem d_M_ends_37 : decode b_M_ends 37 = .ok (.iload 4, 2) := by decide +kernel
theorem d_M_ends_39 : decode b_M_ends 39 = .ok (.iload_n 2, 1) := by decide +kernel
theorem d_M_ends_40 : decode b_M_ends 40 = .ok (.iconst 2, 1) := by decide +kernel
theorem d_M_ends_41 : decode b_M_ends 41 = .ok (.if_icmp .ne 12, 3) := by decide +kernel
theorem d_M_ends_44 : decode b_M_ends 44 = .ok (.aload_n 0, 1) := by decide +kernel
theorem d_M_ends_45 : decode b_M_ends 45 = .ok (.getfield 49, 3) := by decide +kernel
theorem d_M_ends_48 : decode b_M_ends 48 = .ok (.iconst 1, 1) := by decide +kernel
theorem d_M_ends_49 : decode b_M_ends 49 = .ok (.iadd, 1) := by decide +kernel
theorem d_M_ends_50 : decode b_M_ends 50 = .ok (.goto 4, 3) := by decide +kernel
theorem d_M_ends_53 : decode b_M_ends 53 = .ok (.iconst 0, 1) := by decide +kernel
theorem d_M_ends_54 : decode b_M_ends 54 = .ok (.iastore, 1) := by decide +kernel
theorem d_M_ends_55 : decode b_M_ends 55 = .ok (.iinc 3 1, 3) := by decide +kernel
theorem d_M_ends_58 : decode b_M_ends 58 = .ok (.iinc 4 1, 3) := by decide +kernel
theorem d_M_ends_61 : decode b_M_ends 61 = .ok (.goto (-56), 3) := by decide +kernel
theorem d_M_ends_64 : decode b_M_ends 64 = .ok (.aload_n 0, 1) := by decide +kernel
theorem d_M_ends_65 : decode b_M_ends 65 = .ok (.getfield 22, 3) := by decide +kernel
theorem d_M_ends_68 : decode b_M_ends 68 = .ok (.iload_n 1, 1) := by decide +kernel
theorem d_M_ends_69 : decode b_M_ends 69 = .ok (.iconst 0, 1) := by decide +kernel
theorem d_M_ends_70 : decode b_M_ends 70 = .ok (.bastore, 1) := by decide +kernel
theorem d_M_ends_71 : decode b_M_ends 71 = .ok (.iload_n 3, 1) := by decide +kernel
theorem d_M_ends_72 : decode b_M_ends 72 = .ok (.ireturn, 1) := by decide +kernel
theorem d_M_commit_0 : decode b_M_commit 0 = .ok (.aload_n 0, 1) := by decide +kernel
theorem d_M_commit_1 : decode b_M_commit 1 = .ok (.iload_n 1, 1) := by decide +kernel
theorem d_M_commit_2 : decode b_M_commit 2 = .ok (.invokevirtual 45, 3) := by decide +kernel
theorem d_M_commit_5 : decode b_M_commit 5 = .ok (.ifCond .ne 5, 3) := by decide +kernel
theorem d_M_commit_8 : decode b_M_commit 8 = .ok (.iconst (-1), 1) := by decide +kernel
theorem d_M_commit_9 : decode b_M_commit 9 = .ok (.ireturn, 1) := by decide +kernel
theorem d_M_commit_10 : decode b_M_commit 10 = .ok (.aload_n 0, 1) := by decide +kernel
theorem d_M_commit_11 : decode b_M_commit 11 = .ok (.iload_n 1, 1) := by decide +kernel
theorem d_M_commit_12 : decode b_M_commit 12 = .ok (.iconst 2, 1) := by decide +kernel
theorem d_M_commit_13 : decode b_M_commit 13 = .ok (.invokevirtual 56, 3) := by decide +kernel
theorem d_M_commit_16 : decode b_M_commit 16 = .ok (.istore_n 2, 1) := by decide +kernel
theorem d_M_commit_17 : decode b_M_commit 17 = .ok (.aload_n 0, 1) := by decide +kernel
theorem d_M_commit_18 : decode b_M_commit 18 = .ok (.iload_n 2, 1) := by decide +kernel
theorem d_M_commit_19 : decode b_M_commit 19 = .ok (.ifCond .le 12, 3) := by decide +kernel
theorem d_M_commit_22 : decode b_M_commit 22 = .ok (.aload_n 0, 1) := by decide +kernel
theorem d_M_commit_23 : decode b_M_commit 23 = .ok (.getfield 49, 3) := by decide +kernel
theorem d_M_commit_26 : decode b_M_commit 26 = .ok (.iconst 1, 1) := by decide +kernel
theorem d_M_commit_27 : decode b_M_commit 27 = .ok (.iadd, 1) := by decide +kernel
theorem d_M_commit_28 : decode b_M_commit 28 = .ok (.goto 7, 3) := by decide +kernel
theorem d_M_commit_31 : decode b_M_commit 31 = .ok (.aload_n 0, 1) := by decide +kernel
theorem d_M_commit_32 : decode b_M_commit 32 = .ok (.getfield 49, 3) := by decide +kernel
theorem d_M_commit_35 : decode b_M_commit 35 = .ok (.putfield 49, 3) := by decide +kernel
theorem d_M_commit_38 : decode b_M_commit 38 = .ok (.iload_n 2, 1) := by decide +kernel
theorem d_M_commit_39 : decode b_M_commit 39 = .ok (.ifCond .le 10, 3) := by decide +kernel
theorem d_M_commit_42 : decode b_M_commit 42 = .ok (.aload_n 0, 1) := by decide +kernel
theorem d_M_commit_43 : decode b_M_commit 43 = .ok (.getfield 49, 3) := by decide +kernel
theorem d_M_commit_46 : decode b_M_commit 46 = .ok (.goto 4, 3) := by decide +kernel
theorem d_M_commit_49 : decode b_M_commit 49 = .ok (.iconst 0, 1) := by decide +kernel
theorem d_M_commit_50 : decode b_M_commit 50 = .ok (.ireturn, 1) := by decide +kernel
theorem d_M_abort_0 : decode b_M_abort 0 = .ok (.aload_n 0, 1) := by decide +kernel
theorem d_M_abort_1 : decode b_M_abort 1 = .ok (.iload_n 1, 1) := by decide +kernel
theorem d_M_abort_2 : decode b_M_abort 2 = .ok (.invokevirtual 45, 3) := by decide +kernel
theorem d_M_abort_5 : decode b_M_abort 5 = .ok (.ifCond .ne 5, 3) := by decide +kernel
theorem d_M_abort_8 : decode b_M_abort 8 = .ok (.iconst 0, 1) := by decide +kernel
theorem d_M_abort_9 : decode b_M_abort 9 = .ok (.ireturn, 1) := by decide +kernel
theorem d_M_abort_10 : decode b_M_abort 10 = .ok (.aload_n 0, 1) := by decide +kernel
theorem d_M_abort_11 : decode b_M_abort 11 = .ok (.iload_n 1, 1) := by decide +kernel
theorem d_M_abort_12 : decode b_M_abort 12 = .ok (.iconst 3, 1) := by decide +kernel
theorem d_M_abort_13 : decode b_M_abort 13 = .ok (.invokevirtual 56, 3) := by decide +kernel
theorem d_M_abort_16 : decode b_M_abort 16 = .ok (.istore_n 2, 1) := by decide +kernel
theorem d_M_abort_17 : decode b_M_abort 17 = .ok (.iconst 1, 1) := by decide +kernel
theorem d_M_abort_18 : decode b_M_abort 18 = .ok (.ireturn, 1) := by decide +kernel
theorem d_M_crash_0 : decode b_M_crash 0 = .ok (.iconst 0, 1) := by decide +kernel
theorem d_M_crash_1 : decode b_M_crash 1 = .ok (.istore_n 1, 1) := by decide +kernel
theorem d_M_crash_2 : decode b_M_crash 2 = .ok (.iload_n 1, 1) := by decide +kernel
theorem d_M_crash_3 : decode b_M_crash 3 = .ok (.bipush 6, 2) := by decide +kernel
theorem d_M_crash_5 : decode b_M_crash 5 = .ok (.if_icmp .ge 15, 3) := by decide +kernel
theorem d_M_crash_8 : decode b_M_crash 8 = .ok (.aload_n 0, 1) := by decide +kernel
theorem d_M_crash_9 : decode b_M_crash 9 = .ok (.iload_n 1, 1) := by decide +kernel
theorem d_M_crash_10 : decode b_M_crash 10 = .ok (.invokevirtual 60, 3) := by decide +kernel
theorem d_M_crash_13 : decode b_M_crash 13 = .ok (.istore_n 2, 1) := by decide +kernel
theorem d_M_crash_14 : decode b_M_crash 14 = .ok (.iinc 1 1, 3) := by decide +kernel
theorem d_M_crash_17 : decode b_M_crash 17 = .ok (.goto (-15), 3) := by decide +kernel
theorem d_M_crash_20 : decode b_M_crash 20 = .ok (.return_, 1) := by decide +kernel
theorem d_M_state_0 : decode b_M_state 0 = .ok (.aload_n 0, 1) := by decide +kernel
theorem d_M_state_1 : decode b_M_state 1 = .ok (.iload_n 1, 1) := by decide +kernel
theorem d_M_state_2 : decode b_M_state 2 = .ok (.invokevirtual 63, 3) := by decide +kernel
theorem d_M_state_5 : decode b_M_state 5 = .ok (.ifCond .eq 12, 3) := by decide +kernel
theorem d_M_state_8 : decode b_M_state 8 = .ok (.aload_n 0, 1) := by decide +kernel
theorem d_M_state_9 : decode b_M_state 9 = .ok (.getfield 7, 3) := by decide +kernel
theorem d_M_state_12 : decode b_M_state 12 = .ok (.iload_n 1, 1) := by decide +kernel
theorem d_M_state_13 : decode b_M_state 13 = .ok (.iaload, 1) := by decide +kernel
theorem d_M_state_14 : decode b_M_state 14 = .ok (.goto 4, 3) := by decide +kernel
theorem d_M_state_17 : decode b_M_state 17 = .ok (.iconst 0, 1) := by decide +kernel
theorem d_M_state_18 : decode b_M_state 18 = .ok (.ireturn, 1) := by decide +kernel
theorem d_M_root_0 : decode b_M_root 0 = .ok (.aload_n 0, 1) := by decide +kernel
theorem d_M_root_1 : decode b_M_root 1 = .ok (.iload_n 1, 1) := by decide +kernel
theorem d_M_root_2 : decode b_M_root 2 = .ok (.invokevirtual 63, 3) := by decide +kernel
theorem d_M_root_5 : decode b_M_root 5 = .ok (.ifCond .eq 12, 3) := by decide +kernel
theorem d_M_root_8 : decode b_M_root 8 = .ok (.aload_n 0, 1) := by decide +kernel
theorem d_M_root_9 : decode b_M_root 9 = .ok (.getfield 16, 3) := by decide +kernel
theorem d_M_root_12 : decode b_M_root 12 = .ok (.iload_n 1, 1) := by decide +kernel
theorem d_M_root_13 : decode b_M_root 13 = .ok (.iaload, 1) := by decide +kernel
theorem d_M_root_14 : decode b_M_root 14 = .ok (.goto 4, 3) := by decide +kernel
theorem d_M_root_17 : decode b_M_root 17 = .ok (.iconst 0, 1) := by decide +kernel
theorem d_M_root_18 : decode b_M_root 18 = .ok (.ireturn, 1) := by decide +kernel
theorem d_M_place_0 : decode b_M_place 0 = .ok (.aload_n 0, 1) := by decide +kernel
theorem d_M_place_1 : decode b_M_place 1 = .ok (.iload_n 1, 1) := by decide +kernel
theorem d_M_place_2 : decode b_M_place 2 = .ok (.invokevirtual 63, 3) := by decide +kernel
theorem d_M_place_5 : decode b_M_place 5 = .ok (.ifCond .eq 12, 3) := by decide +kernel
theorem d_M_place_8 : decode b_M_place 8 = .ok (.aload_n 0, 1) := by decide +kernel
theorem d_M_place_9 : decode b_M_place 9 = .ok (.getfield 19, 3) := by decide +kernel
theorem d_M_place_12 : decode b_M_place 12 = .ok (.iload_n 1, 1) := by decide +kernel
theorem d_M_place_13 : decode b_M_place 13 = .ok (.iaload, 1) := by decide +kernel
theorem d_M_place_14 : decode b_M_place 14 = .ok (.goto 4, 3) := by decide +kernel
theorem d_M_place_17 : decode b_M_place 17 = .ok (.iconst 0, 1) := by decide +kernel
theorem d_M_place_18 : decode b_M_place 18 = .ok (.ireturn, 1) := by decide +kernel
theorem d_M_isSeen_0 : decode b_M_isSeen 0 = .ok (.aload_n 0, 1) := by decide +kernel
theorem d_M_isSeen_1 : decode b_M_isSeen 1 = .ok (.iload_n 2, 1) := by decide +kernel
theorem d_M_isSeen_2 : decode b_M_isSeen 2 = .ok (.invokevirtual 63, 3) := by decide +kernel
theorem d_M_isSeen_5 : decode b_M_isSeen 5 = .ok (.ifCond .eq 13, 3) := by decide +kernel
theorem d_M_isSeen_8 : decode b_M_isSeen 8 = .ok (.aload_n 0, 1) := by decide +kernel
theorem d_M_isSeen_9 : decode b_M_isSeen 9 = .ok (.getfield 7, 3) := by decide +kernel
theorem d_M_isSeen_12 : decode b_M_isSeen 12 = .ok (.iload_n 2, 1) := by decide +kernel
theorem d_M_isSeen_13 : decode b_M_isSeen 13 = .ok (.iaload, 1) := by decide +kernel
theorem d_M_isSeen_14 : decode b_M_isSeen 14 = .ok (.iconst 3, 1) := by decide +kernel
theorem d_M_isSeen_15 : decode b_M_isSeen 15 = .ok (.if_icmp .ne 5, 3) := by decide +kernel
theorem d_M_isSeen_18 : decode b_M_isSeen 18 = .ok (.iconst 0, 1) := by decide +kernel
theorem d_M_isSeen_19 : decode b_M_isSeen 19 = .ok (.ireturn, 1) := by decide +kernel
theorem d_M_isSeen_20 : decode b_M_isSeen 20 = .ok (.aload_n 0, 1) := by decide +kernel
theorem d_M_isSeen_21 : decode b_M_isSeen 21 = .ok (.getfield 7, 3) := by decide +kernel
theorem d_M_isSeen_24 : decode b_M_isSeen 24 = .ok (.iload_n 2, 1) := by decide +kernel
theorem d_M_isSeen_25 : decode b_M_isSeen 25 = .ok (.iaload, 1) := by decide +kernel
theorem d_M_isSeen_26 : decode b_M_isSeen 26 = .ok (.iconst 1, 1) := by decide +kernel
theorem d_M_isSeen_27 : decode b_M_isSeen 27 = .ok (.if_icmp .ne 34, 3) := by decide +kernel
theorem d_M_isSeen_30 : decode b_M_isSeen 30 = .ok (.aload_n 0, 1) := by decide +kernel
theorem d_M_isSeen_31 : decode b_M_isSeen 31 = .ok (.getfield 13, 3) := by decide +kernel
theorem d_M_isSeen_34 : decode b_M_isSeen 34 = .ok (.iload_n 2, 1) := by decide +kernel
theorem d_M_isSeen_35 : decode b_M_isSeen 35 = .ok (.iaload, 1) := by decide +kernel
theorem d_M_isSeen_36 : decode b_M_isSeen 36 = .ok (.bipush 8, 2) := by decide +kernel
theorem d_M_isSeen_38 : decode b_M_isSeen 38 = .ok (.idiv, 1) := by decide +kernel
theorem d_M_isSeen_39 : decode b_M_isSeen 39 = .ok (.iload_n 1, 1) := by decide +kernel
theorem d_M_isSeen_40 : decode b_M_isSeen 40 = .ok (.if_icmp .ne 17, 3) := by decide +kernel
theorem d_M_isSeen_43 : decode b_M_isSeen 43 = .ok (.iload_n 3, 1) := by decide +kernel
theorem d_M_isSeen_44 : decode b_M_isSeen 44 = .ok (.aload_n 0, 1) := by decide +kernel
theorem d_M_isSeen_45 : decode b_M_isSeen 45 = .ok (.getfield 29, 3) := by decide +kernel
theorem d_M_isSeen_48 : decode b_M_isSeen 48 = .ok (.iload_n 1, 1) := by decide +kernel
theorem d_M_isSeen_49 : decode b_M_isSeen 49 = .ok (.iaload, 1) := by decide +kernel
theorem d_M_isSeen_50 : decode b_M_isSeen 50 = .ok (.if_icmp .ge 7, 3) := by decide +kernel
theorem d_M_isSeen_53 : decode b_M_isSeen 53 = .ok (.iconst 1, 1) := by decide +kernel
theorem d_M_isSeen_54 : decode b_M_isSeen 54 = .ok (.goto 27, 3) := by decide +kernel
theorem d_M_isSeen_57 : decode b_M_isSeen 57 = .ok (.iconst 0, 1) := by decide +kernel
theorem d_M_isSeen_58 : decode b_M_isSeen 58 = .ok (.goto 23, 3) := by decide +kernel
theorem d_M_isSeen_61 : decode b_M_isSeen 61 = .ok (.aload_n 0, 1) := by decide +kernel
theorem d_M_isSeen_62 : decode b_M_isSeen 62 = .ok (.getfield 19, 3) := by decide +kernel
theorem d_M_isSeen_65 : decode b_M_isSeen 65 = .ok (.iload_n 2, 1) := by decide +kernel
theorem d_M_isSeen_66 : decode b_M_isSeen 66 = .ok (.iaload, 1) := by decide +kernel
theorem d_M_isSeen_67 : decode b_M_isSeen 67 = .ok (.aload_n 0, 1) := by decide +kernel
theorem d_M_isSeen_68 : decode b_M_isSeen 68 = .ok (.getfield 35, 3) := by decide +kernel
theorem d_M_isSeen_71 : decode b_M_isSeen 71 = .ok (.iload_n 1, 1) := by decide +kernel
theorem d_M_isSeen_72 : decode b_M_isSeen 72 = .ok (.iaload, 1) := by decide +kernel
theorem d_M_isSeen_73 : decode b_M_isSeen 73 = .ok (.if_icmp .gt 7, 3) := by decide +kernel
theorem d_M_isSeen_76 : decode b_M_isSeen 76 = .ok (.iconst 1, 1) := by decide +kernel
theorem d_M_isSeen_77 : decode b_M_isSeen 77 = .ok (.goto 4, 3) := by decide +kernel
theorem d_M_isSeen_80 : decode b_M_isSeen 80 = .ok (.iconst 0, 1) := by decide +kernel
theorem d_M_isSeen_81 : decode b_M_isSeen 81 = .ok (.ireturn, 1) := by decide +kernel
theorem d_M_sees_0 : decode b_M_sees 0 = .ok (.aload_n 0, 1) := by decide +kernel
theorem d_M_sees_1 : decode b_M_sees 1 = .ok (.iload_n 1, 1) := by decide +kernel
theorem d_M_sees_2 : decode b_M_sees 2 = .ok (.invokevirtual 45, 3) := by decide +kernel
theorem d_M_sees_5 : decode b_M_sees 5 = .ok (.ifCond .eq 38, 3) := by decide +kernel
theorem d_M_sees_8 : decode b_M_sees 8 = .ok (.aload_n 0, 1) := by decide +kernel
theorem d_M_sees_9 : decode b_M_sees 9 = .ok (.getfield 35, 3) := by decide +kernel
theorem d_M_sees_12 : decode b_M_sees 12 = .ok (.iload_n 1, 1) := by decide +kernel
theorem d_M_sees_13 : decode b_M_sees 13 = .ok (.iaload, 1) := by decide +kernel
theorem d_M_sees_14 : decode b_M_sees 14 = .ok (.ifCond .lt 29, 3) := by decide +kernel
theorem d_M_sees_17 : decode b_M_sees 17 = .ok (.aload_n 0, 1) := by decide +kernel
theorem d_M_sees_18 : decode b_M_sees 18 = .ok (.iload_n 1, 1) := by decide +kernel
theorem d_M_sees_19 : decode b_M_sees 19 = .ok (.iload_n 2, 1) := by decide +kernel
theorem d_M_sees_20 : decode b_M_sees 20 = .ok (.iload_n 3, 1) := by decide +kernel
theorem d_M_sees_21 : decode b_M_sees 21 = .ok (.invokevirtual 66, 3) := by decide +kernel
theorem d_M_sees_24 : decode b_M_sees 24 = .ok (.ifCond .eq 19, 3) := by decide +kernel
theorem d_M_sees_27 : decode b_M_sees 27 = .ok (.aload_n 0, 1) := by decide +kernel
theorem d_M_sees_28 : decode b_M_sees 28 = .ok (.iload_n 1, 1) := by decide +kernel
theorem d_M_sees_29 : decode b_M_sees 29 = .ok (.iload 4, 2) := by decide +kernel
theorem d_M_sees_31 : decode b_M_sees 31 = .ok (.iload 5, 2) := by decide +kernel
theorem d_M_sees_33 : decode b_M_sees 33 = .ok (.invokevirtual 66, 3) := by decide +kernel
theorem d_M_sees_36 : decode b_M_sees 36 = .ok (.ifCond .ne 7, 3) := by decide +kernel
theorem d_M_sees_39 : decode b_M_sees 39 = .ok (.iconst 1, 1) := by decide +kernel
theorem d_M_sees_40 : decode b_M_sees 40 = .ok (.goto 4, 3) := by decide +kernel
theorem d_M_sees_43 : decode b_M_sees 43 = .ok (.iconst 0, 1) := by decide +kernel
theorem d_M_sees_44 : decode b_M_sees 44 = .ok (.ireturn, 1) := by decide +kernel
theorem d_M_ending_0 : decode b_M_ending 0 = .ok (.aload_n 0, 1) := by decide +kernel
theorem d_M_ending_1 : decode b_M_ending 1 = .ok (.iload_n 1, 1) := by decide +kernel
theorem d_M_ending_2 : decode b_M_ending 2 = .ok (.invokevirtual 45, 3) := by decide +kernel
theorem d_M_ending_5 : decode b_M_ending 5 = .ok (.ifCond .eq 12, 3) := by decide +kernel
theorem d_M_ending_8 : decode b_M_ending 8 = .ok (.aload_n 0, 1) := by decide +kernel
theorem d_M_ending_9 : decode b_M_ending 9 = .ok (.getfield 35, 3) := by decide +kernel
theorem d_M_ending_12 : decode b_M_ending 12 = .ok (.iload_n 1, 1) := by decide +kernel
theorem d_M_ending_13 : decode b_M_ending 13 = .ok (.iaload, 1) := by decide +kernel
theorem d_M_ending_14 : decode b_M_ending 14 = .ok (.ifCond .ge 5, 3) := by decide +kernel
theorem d_M_ending_17 : decode b_M_ending 17 = .ok (.iconst (-1), 1) := by decide +kernel
theorem d_M_ending_18 : decode b_M_ending 18 = .ok (.ireturn, 1) := by decide +kernel
theorem d_M_ending_19 : decode b_M_ending 19 = .ok (.aload_n 0, 1) := by decide +kernel
theorem d_M_ending_20 : decode b_M_ending 20 = .ok (.iload_n 2, 1) := by decide +kernel
theorem d_M_ending_21 : decode b_M_ending 21 = .ok (.invokevirtual 63, 3) := by decide +kernel
theorem d_M_ending_24 : decode b_M_ending 24 = .ok (.ifCond .eq 13, 3) := by decide +kernel
theorem d_M_ending_27 : decode b_M_ending 27 = .ok (.aload_n 0, 1) := by decide +kernel
theorem d_M_ending_28 : decode b_M_ending 28 = .ok (.getfield 7, 3) := by decide +kernel
theorem d_M_ending_31 : decode b_M_ending 31 = .ok (.iload_n 2, 1) := by decide +kernel
theorem d_M_ending_32 : decode b_M_ending 32 = .ok (.iaload, 1) := by decide +kernel
theorem d_M_ending_33 : decode b_M_ending 33 = .ok (.iconst 3, 1) := by decide +kernel
theorem d_M_ending_34 : decode b_M_ending 34 = .ok (.if_icmp .ne 5, 3) := by decide +kernel
theorem d_M_ending_37 : decode b_M_ending 37 = .ok (.iconst 0, 1) := by decide +kernel
theorem d_M_ending_38 : decode b_M_ending 38 = .ok (.ireturn, 1) := by decide +kernel
theorem d_M_ending_39 : decode b_M_ending 39 = .ok (.aload_n 0, 1) := by decide +kernel
theorem d_M_ending_40 : decode b_M_ending 40 = .ok (.iload_n 1, 1) := by decide +kernel
theorem d_M_ending_41 : decode b_M_ending 41 = .ok (.iload_n 2, 1) := by decide +kernel
theorem d_M_ending_42 : decode b_M_ending 42 = .ok (.iload_n 3, 1) := by decide +kernel
theorem d_M_ending_43 : decode b_M_ending 43 = .ok (.invokevirtual 66, 3) := by decide +kernel
theorem d_M_ending_46 : decode b_M_ending 46 = .ok (.istore 4, 2) := by decide +kernel
theorem d_M_ending_48 : decode b_M_ending 48 = .ok (.aload_n 0, 1) := by decide +kernel
theorem d_M_ending_49 : decode b_M_ending 49 = .ok (.getfield 7, 3) := by decide +kernel
theorem d_M_ending_52 : decode b_M_ending 52 = .ok (.iload_n 2, 1) := by decide +kernel
theorem d_M_ending_53 : decode b_M_ending 53 = .ok (.iaload, 1) := by decide +kernel
theorem d_M_ending_54 : decode b_M_ending 54 = .ok (.iconst 1, 1) := by decide +kernel
theorem d_M_ending_55 : decode b_M_ending 55 = .ok (.if_icmp .ne 31, 3) := by decide +kernel
theorem d_M_ending_58 : decode b_M_ending 58 = .ok (.aload_n 0, 1) := by decide +kernel
theorem d_M_ending_59 : decode b_M_ending 59 = .ok (.getfield 13, 3) := by decide +kernel
theorem d_M_ending_62 : decode b_M_ending 62 = .ok (.iload_n 2, 1) := by decide +kernel
theorem d_M_ending_63 : decode b_M_ending 63 = .ok (.iaload, 1) := by decide +kernel
theorem d_M_ending_64 : decode b_M_ending 64 = .ok (.bipush 8, 2) := by decide +kernel
theorem d_M_ending_66 : decode b_M_ending 66 = .ok (.idiv, 1) := by decide +kernel
theorem d_M_ending_67 : decode b_M_ending 67 = .ok (.iload_n 1, 1) := by decide +kernel
theorem d_M_ending_68 : decode b_M_ending 68 = .ok (.if_icmp .eq 7, 3) := by decide +kernel
theorem d_M_ending_71 : decode b_M_ending 71 = .ok (.iconst 3, 1) := by decide +kernel
theorem d_M_ending_72 : decode b_M_ending 72 = .ok (.goto 13, 3) := by decide +kernel
theorem d_M_ending_75 : decode b_M_ending 75 = .ok (.iload 4, 2) := by decide +kernel
theorem d_M_ending_77 : decode b_M_ending 77 = .ok (.ifCond .eq 7, 3) := by decide +kernel
theorem d_M_ending_80 : decode b_M_ending 80 = .ok (.iconst 1, 1) := by decide +kernel
theorem d_M_ending_81 : decode b_M_ending 81 = .ok (.goto 4, 3) := by decide +kernel
theorem d_M_ending_84 : decode b_M_ending 84 = .ok (.iconst 2, 1) := by decide +kernel
theorem d_M_ending_85 : decode b_M_ending 85 = .ok (.ireturn, 1) := by decide +kernel
theorem d_M_ending_86 : decode b_M_ending 86 = .ok (.iload 4, 2) := by decide +kernel
theorem d_M_ending_88 : decode b_M_ending 88 = .ok (.ifCond .eq 7, 3) := by decide +kernel
theorem d_M_ending_91 : decode b_M_ending 91 = .ok (.iconst 4, 1) := by decide +kernel
theorem d_M_ending_92 : decode b_M_ending 92 = .ok (.goto 4, 3) := by decide +kernel
theorem d_M_ending_95 : decode b_M_ending 95 = .ok (.iconst 5, 1) := by decide +kernel
theorem d_M_ending_96 : decode b_M_ending 96 = .ok (.ireturn, 1) := by decide +kernel
theorem d_M_dead_0 : decode b_M_dead 0 = .ok (.aload_n 0, 1) := by decide +kernel
theorem d_M_dead_1 : decode b_M_dead 1 = .ok (.iload_n 1, 1) := by decide +kernel
theorem d_M_dead_2 : decode b_M_dead 2 = .ok (.invokevirtual 63, 3) := by decide +kernel
theorem d_M_dead_5 : decode b_M_dead 5 = .ok (.ifCond .ne 5, 3) := by decide +kernel
theorem d_M_dead_8 : decode b_M_dead 8 = .ok (.iconst 0, 1) := by decide +kernel
theorem d_M_dead_9 : decode b_M_dead 9 = .ok (.ireturn, 1) := by decide +kernel
theorem d_M_dead_10 : decode b_M_dead 10 = .ok (.aload_n 0, 1) := by decide +kernel
theorem d_M_dead_11 : decode b_M_dead 11 = .ok (.iload_n 2, 1) := by decide +kernel
theorem d_M_dead_12 : decode b_M_dead 12 = .ok (.invokevirtual 63, 3) := by decide +kernel
theorem d_M_dead_15 : decode b_M_dead 15 = .ok (.ifCond .eq 17, 3) := by decide +kernel
theorem d_M_dead_18 : decode b_M_dead 18 = .ok (.aload_n 0, 1) := by decide +kernel
theorem d_M_dead_19 : decode b_M_dead 19 = .ok (.getfield 7, 3) := by decide +kernel
theorem d_M_dead_22 : decode b_M_dead 22 = .ok (.iload_n 2, 1) := by decide +kernel
theorem d_M_dead_23 : decode b_M_dead 23 = .ok (.iaload, 1) := by decide +kernel
theorem d_M_dead_24 : decode b_M_dead 24 = .ok (.iconst 2, 1) := by decide +kernel
theorem d_M_dead_25 : decode b_M_dead 25 = .ok (.if_icmp .ne 7, 3) := by decide +kernel
theorem d_M_dead_28 : decode b_M_dead 28 = .ok (.iconst 1, 1) := by decide +kernel
theorem d_M_dead_29 : decode b_M_dead 29 = .ok (.goto 4, 3) := by decide +kernel
theorem d_M_dead_32 : decode b_M_dead 32 = .ok (.iconst 0, 1) := by decide +kernel
theorem d_M_dead_33 : decode b_M_dead 33 = .ok (.istore_n 3, 1) := by decide +kernel
theorem d_M_dead_34 : decode b_M_dead 34 = .ok (.iconst 0, 1) := by decide +kernel
theorem d_M_dead_35 : decode b_M_dead 35 = .ok (.istore 4, 2) := by decide +kernel
theorem d_M_dead_37 : decode b_M_dead 37 = .ok (.iload 4, 2) := by decide +kernel
theorem d_M_dead_39 : decode b_M_dead 39 = .ok (.bipush 6, 2) := by decide +kernel
theorem d_M_dead_41 : decode b_M_dead 41 = .ok (.if_icmp .ge 55, 3) := by decide +kernel
theorem d_M_dead_44 : decode b_M_dead 44 = .ok (.iload_n 3, 1) := by decide +kernel
theorem d_M_dead_45 : decode b_M_dead 45 = .ok (.ifCond .eq 43, 3) := by decide +kernel
theorem d_M_dead_48 : decode b_M_dead 48 = .ok (.aload_n 0, 1) := by decide +kernel
theorem d_M_dead_49 : decode b_M_dead 49 = .ok (.getfield 22, 3) := by decide +kernel
theorem d_M_dead_52 : decode b_M_dead 52 = .ok (.iload 4, 2) := by decide +kernel
theorem d_M_dead_54 : decode b_M_dead 54 = .ok (.baload, 1) := by decide +kernel
theorem d_M_dead_55 : decode b_M_dead 55 = .ok (.ifCond .eq 29, 3) := by decide +kernel
theorem d_M_dead_58 : decode b_M_dead 58 = .ok (.aload_n 0, 1) := by decide +kernel
theorem d_M_dead_59 : decode b_M_dead 59 = .ok (.getfield 35, 3) := by decide +kernel
theorem d_M_dead_62 : decode b_M_dead 62 = .ok (.iload 4, 2) := by decide +kernel
theorem d_M_dead_64 : decode b_M_dead 64 = .ok (.iaload, 1) := by decide +kernel
theorem d_M_dead_65 : decode b_M_dead 65 = .ok (.ifCond .lt 19, 3) := by decide +kernel
theorem d_M_dead_68 : decode b_M_dead 68 = .ok (.aload_n 0, 1) := by decide +kernel
theorem d_M_dead_69 : decode b_M_dead 69 = .ok (.getfield 19, 3) := by decide +kernel
theorem d_M_dead_72 : decode b_M_dead 72 = .ok (.iload_n 2, 1) := by decide +kernel
theorem d_M_dead_73 : decode b_M_dead 73 = .ok (.iaload, 1) := by decide +kernel
theorem d_M_dead_74 : decode b_M_dead 74 = .ok (.aload_n 0, 1) := by decide +kernel
theorem d_M_dead_75 : decode b_M_dead 75 = .ok (.getfield 35, 3) := by decide +kernel
theorem d_M_dead_78 : decode b_M_dead 78 = .ok (.iload 4, 2) := by decide +kernel
theorem d_M_dead_80 : decode b_M_dead 80 = .ok (.iaload, 1) := by decide +kernel
theorem d_M_dead_81 : decode b_M_dead 81 = .ok (.if_icmp .gt 7, 3) := by decide +kernel
theorem d_M_dead_84 : decode b_M_dead 84 = .ok (.iconst 1, 1) := by decide +kernel
theorem d_M_dead_85 : decode b_M_dead 85 = .ok (.goto 4, 3) := by decide +kernel
theorem d_M_dead_88 : decode b_M_dead 88 = .ok (.iconst 0, 1) := by decide +kernel
theorem d_M_dead_89 : decode b_M_dead 89 = .ok (.istore_n 3, 1) := by decide +kernel
theorem d_M_dead_90 : decode b_M_dead 90 = .ok (.iinc 4 1, 3) := by decide +kernel
theorem d_M_dead_93 : decode b_M_dead 93 = .ok (.goto (-56), 3) := by decide +kernel
theorem d_M_dead_96 : decode b_M_dead 96 = .ok (.aload_n 0, 1) := by decide +kernel
theorem d_M_dead_97 : decode b_M_dead 97 = .ok (.getfield 7, 3) := by decide +kernel
theorem d_M_dead_100 : decode b_M_dead 100 = .ok (.iload_n 1, 1) := by decide +kernel
theorem d_M_dead_101 : decode b_M_dead 101 = .ok (.iaload, 1) := by decide +kernel
theorem d_M_dead_102 : decode b_M_dead 102 = .ok (.iconst 3, 1) := by decide +kernel
theorem d_M_dead_103 : decode b_M_dead 103 = .ok (.if_icmp .eq 7, 3) := by decide +kernel
theorem d_M_dead_106 : decode b_M_dead 106 = .ok (.iload_n 3, 1) := by decide +kernel
theorem d_M_dead_107 : decode b_M_dead 107 = .ok (.ifCond .eq 7, 3) := by decide +kernel
theorem d_M_dead_110 : decode b_M_dead 110 = .ok (.iconst 1, 1) := by decide +kernel
theorem d_M_dead_111 : decode b_M_dead 111 = .ok (.goto 4, 3) := by decide +kernel
theorem d_M_dead_114 : decode b_M_dead 114 = .ok (.iconst 0, 1) := by decide +kernel
theorem d_M_dead_115 : decode b_M_dead 115 = .ok (.ireturn, 1) := by decide +kernel
theorem d_M_look_0 : decode b_M_look 0 = .ok (.iload_n 2, 1) := by decide +kernel
theorem d_M_look_1 : decode b_M_look 1 = .ok (.iconst 5, 1) := by decide +kernel
theorem d_M_look_2 : decode b_M_look 2 = .ok (.if_icmp .eq 9, 3) := by decide +kernel
theorem d_M_look_5 : decode b_M_look 5 = .ok (.iload_n 2, 1) := by decide +kernel
theorem d_M_look_6 : decode b_M_look 6 = .ok (.bipush 6, 2) := by decide +kernel
theorem d_M_look_8 : decode b_M_look 8 = .ok (.if_icmp .ne 20, 3) := by decide +kernel
theorem d_M_look_11 : decode b_M_look 11 = .ok (.iload_n 2, 1) := by decide +kernel
theorem d_M_look_12 : decode b_M_look 12 = .ok (.iconst 5, 1) := by decide +kernel
theorem d_M_look_13 : decode b_M_look 13 = .ok (.if_icmp .ne 10, 3) := by decide +kernel
theorem d_M_look_16 : decode b_M_look 16 = .ok (.aload_n 0, 1) := by decide +kernel
theorem d_M_look_17 : decode b_M_look 17 = .ok (.getfield 41, 3) := by decide +kernel
theorem d_M_look_20 : decode b_M_look 20 = .ok (.goto 7, 3) := by decide +kernel
theorem d_M_look_23 : decode b_M_look 23 = .ok (.aload_n 0, 1) := by decide +kernel
theorem d_M_look_24 : decode b_M_look 24 = .ok (.getfield 49, 3) := by decide +kernel
theorem d_M_look_27 : decode b_M_look 27 = .ok (.ireturn, 1) := by decide +kernel
theorem d_M_look_28 : decode b_M_look 28 = .ok (.aload_n 0, 1) := by decide +kernel
theorem d_M_look_29 : decode b_M_look 29 = .ok (.iload_n 1, 1) := by decide +kernel
theorem d_M_look_30 : decode b_M_look 30 = .ok (.invokevirtual 45, 3) := by decide +kernel
theorem d_M_look_33 : decode b_M_look 33 = .ok (.ifCond .eq 12, 3) := by decide +kernel
theorem d_M_look_36 : decode b_M_look 36 = .ok (.iload_n 2, 1) := by decide +kernel
theorem d_M_look_37 : decode b_M_look 37 = .ok (.ifCond .lt 8, 3) := by decide +kernel
theorem d_M_look_40 : decode b_M_look 40 = .ok (.iload_n 2, 1) := by decide +kernel
theorem d_M_look_41 : decode b_M_look 41 = .ok (.iconst 4, 1) := by decide +kernel
theorem d_M_look_42 : decode b_M_look 42 = .ok (.if_icmp .le 5, 3) := by decide +kernel
theorem d_M_look_45 : decode b_M_look 45 = .ok (.iconst (-1), 1) := by decide +kernel
theorem d_M_look_46 : decode b_M_look 46 = .ok (.ireturn, 1) := by decide +kernel
theorem d_M_look_47 : decode b_M_look 47 = .ok (.iload_n 2, 1) := by decide +kernel
theorem d_M_look_48 : decode b_M_look 48 = .ok (.ifCond .ne 12, 3) := by decide +kernel
theorem d_M_look_51 : decode b_M_look 51 = .ok (.aload_n 0, 1) := by decide +kernel
theorem d_M_look_52 : decode b_M_look 52 = .ok (.getfield 26, 3) := by decide +kernel
theorem d_M_look_55 : decode b_M_look 55 = .ok (.iload_n 1, 1) := by decide +kernel
theorem d_M_look_56 : decode b_M_look 56 = .ok (.iaload, 1) := by decide +kernel
theorem d_M_look_57 : decode b_M_look 57 = .ok (.goto 61, 3) := by decide +kernel
theorem d_M_look_60 : decode b_M_look 60 = .ok (.iload_n 2, 1) := by decide +kernel
theorem d_M_look_61 : decode b_M_look 61 = .ok (.iconst 1, 1) := by decide +kernel
theorem d_M_look_62 : decode b_M_look 62 = .ok (.if_icmp .ne 12, 3) := by decide +kernel
theorem d_M_look_65 : decode b_M_look 65 = .ok (.aload_n 0, 1) := by decide +kernel
theorem d_M_look_66 : decode b_M_look 66 = .ok (.getfield 29, 3) := by decide +kernel
theorem d_M_look_69 : decode b_M_look 69 = .ok (.iload_n 1, 1) := by decide +kernel
theorem d_M_look_70 : decode b_M_look 70 = .ok (.iaload, 1) := by decide +kernel
theorem d_M_look_71 : decode b_M_look 71 = .ok (.goto 47, 3) := by decide +kernel
theorem d_M_look_74 : decode b_M_look 74 = .ok (.iload_n 2, 1) := by decide +kernel
theorem d_M_look_75 : decode b_M_look 75 = .ok (.iconst 2, 1) := by decide +kernel
theorem d_M_look_76 : decode b_M_look 76 = .ok (.if_icmp .ne 12, 3) := by decide +kernel
theorem d_M_look_79 : decode b_M_look 79 = .ok (.aload_n 0, 1) := by decide +kernel
theorem d_M_look_80 : decode b_M_look 80 = .ok (.getfield 32, 3) := by decide +kernel
theorem d_M_look_83 : decode b_M_look 83 = .ok (.iload_n 1, 1) := by decide +kernel
theorem d_M_look_84 : decode b_M_look 84 = .ok (.iaload, 1) := by decide +kernel
theorem d_M_look_85 : decode b_M_look 85 = .ok (.goto 33, 3) := by decide +kernel
theorem d_M_look_88 : decode b_M_look 88 = .ok (.iload_n 2, 1) := by decide +kernel
theorem d_M_look_89 : decode b_M_look 89 = .ok (.iconst 3, 1) := by decide +kernel
theorem d_M_look_90 : decode b_M_look 90 = .ok (.if_icmp .ne 22, 3) := by decide +kernel
theorem d_M_look_93 : decode b_M_look 93 = .ok (.aload_n 0, 1) := by decide +kernel
theorem d_M_look_94 : decode b_M_look 94 = .ok (.getfield 38, 3) := by decide +kernel
theorem d_M_look_97 : decode b_M_look 97 = .ok (.bipush 8, 2) := by decide +kernel
theorem d_M_look_99 : decode b_M_look 99 = .ok (.iload_n 1, 1) := by decide +kernel
theorem d_M_look_100 : decode b_M_look 100 = .ok (.imul, 1) := by decide +kernel
theorem d_M_look_101 : decode b_M_look 101 = .ok (.aload_n 0, 1) := by decide +kernel
theorem d_M_look_102 : decode b_M_look 102 = .ok (.getfield 32, 3) := by decide +kernel
theorem d_M_look_105 : decode b_M_look 105 = .ok (.iload_n 1, 1) := by decide +kernel
theorem d_M_look_106 : decode b_M_look 106 = .ok (.iaload, 1) := by decide +kernel
theorem d_M_look_107 : decode b_M_look 107 = .ok (.iadd, 1) := by decide +kernel
theorem d_M_look_108 : decode b_M_look 108 = .ok (.iaload, 1) := by decide +kernel
theorem d_M_look_109 : decode b_M_look 109 = .ok (.goto 9, 3) := by decide +kernel
theorem d_M_look_112 : decode b_M_look 112 = .ok (.aload_n 0, 1) := by decide +kernel
theorem d_M_look_113 : decode b_M_look 113 = .ok (.getfield 35, 3) := by decide +kernel
theorem d_M_look_116 : decode b_M_look 116 = .ok (.iload_n 1, 1) := by decide +kernel
theorem d_M_look_117 : decode b_M_look 117 = .ok (.iaload, 1) := by decide +kernel
theorem d_M_look_118 : decode b_M_look 118 = .ok (.ireturn, 1) := by decide +kernel
