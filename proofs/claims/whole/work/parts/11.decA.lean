theorem d_N_init_0 : decode b_N_init 0 = .ok (.aload_n 0, 1) := by decide +kernel
theorem d_N_init_1 : decode b_N_init 1 = .ok (.invokespecial 3, 3) := by decide +kernel
theorem d_N_init_4 : decode b_N_init 4 = .ok (.aload_n 0, 1) := by decide +kernel
theorem d_N_init_5 : decode b_N_init 5 = .ok (.new 9, 3) := by decide +kernel
theorem d_N_init_8 : decode b_N_init 8 = .ok (.dup, 1) := by decide +kernel
theorem d_N_init_9 : decode b_N_init 9 = .ok (.invokespecial 11, 3) := by decide +kernel
theorem d_N_init_12 : decode b_N_init 12 = .ok (.putfield 12, 3) := by decide +kernel
theorem d_N_init_15 : decode b_N_init 15 = .ok (.aload_n 0, 1) := by decide +kernel
theorem d_N_init_16 : decode b_N_init 16 = .ok (.new 16, 3) := by decide +kernel
theorem d_N_init_19 : decode b_N_init 19 = .ok (.dup, 1) := by decide +kernel
theorem d_N_init_20 : decode b_N_init 20 = .ok (.invokespecial 18, 3) := by decide +kernel
theorem d_N_init_23 : decode b_N_init 23 = .ok (.putfield 19, 3) := by decide +kernel
theorem d_N_init_26 : decode b_N_init 26 = .ok (.aload_n 0, 1) := by decide +kernel
theorem d_N_init_27 : decode b_N_init 27 = .ok (.new 23, 3) := by decide +kernel
theorem d_N_init_30 : decode b_N_init 30 = .ok (.dup, 1) := by decide +kernel
theorem d_N_init_31 : decode b_N_init 31 = .ok (.aload_n 0, 1) := by decide +kernel
theorem d_N_init_32 : decode b_N_init 32 = .ok (.getfield 12, 3) := by decide +kernel
theorem d_N_init_35 : decode b_N_init 35 = .ok (.aload_n 0, 1) := by decide +kernel
theorem d_N_init_36 : decode b_N_init 36 = .ok (.getfield 19, 3) := by decide +kernel
theorem d_N_init_39 : decode b_N_init 39 = .ok (.invokespecial 25, 3) := by decide +kernel
theorem d_N_init_42 : decode b_N_init 42 = .ok (.putfield 28, 3) := by decide +kernel
theorem d_N_init_45 : decode b_N_init 45 = .ok (.aload_n 0, 1) := by decide +kernel
theorem d_N_init_46 : decode b_N_init 46 = .ok (.new 32, 3) := by decide +kernel
theorem d_N_init_49 : decode b_N_init 49 = .ok (.dup, 1) := by decide +kernel
theorem d_N_init_50 : decode b_N_init 50 = .ok (.aload_n 0, 1) := by decide +kernel
theorem d_N_init_51 : decode b_N_init 51 = .ok (.getfield 12, 3) := by decide +kernel
theorem d_N_init_54 : decode b_N_init 54 = .ok (.invokespecial 34, 3) := by decide +kernel
theorem d_N_init_57 : decode b_N_init 57 = .ok (.putfield 37, 3) := by decide +kernel
theorem d_N_init_60 : decode b_N_init 60 = .ok (.aload_n 0, 1) := by decide +kernel
theorem d_N_init_61 : decode b_N_init 61 = .ok (.new 41, 3) := by decide +kernel
theorem d_N_init_64 : decode b_N_init 64 = .ok (.dup, 1) := by decide +kernel
theorem d_N_init_65 : decode b_N_init 65 = .ok (.invokespecial 43, 3) := by decide +kernel
theorem d_N_init_68 : decode b_N_init 68 = .ok (.putfield 44, 3) := by decide +kernel
theorem d_N_init_71 : decode b_N_init 71 = .ok (.aload_n 0, 1) := by decide +kernel
theorem d_N_init_72 : decode b_N_init 72 = .ok (.new 48, 3) := by decide +kernel
theorem d_N_init_75 : decode b_N_init 75 = .ok (.dup, 1) := by decide +kernel
theorem d_N_init_76 : decode b_N_init 76 = .ok (.invokespecial 50, 3) := by decide +kernel
theorem d_N_init_79 : decode b_N_init 79 = .ok (.putfield 51, 3) := by decide +kernel
theorem d_N_init_82 : decode b_N_init 82 = .ok (.return_, 1) := by decide +kernel
theorem d_N_clear_0 : decode b_N_clear 0 = .ok (.aload_n 0, 1) := by decide +kernel
theorem d_N_clear_1 : decode b_N_clear 1 = .ok (.getfield 12, 3) := by decide +kernel
theorem d_N_clear_4 : decode b_N_clear 4 = .ok (.getfield 55, 3) := by decide +kernel
theorem d_N_clear_7 : decode b_N_clear 7 = .ok (.istore_n 1, 1) := by decide +kernel
theorem d_N_clear_8 : decode b_N_clear 8 = .ok (.aload_n 0, 1) := by decide +kernel
theorem d_N_clear_9 : decode b_N_clear 9 = .ok (.getfield 12, 3) := by decide +kernel
theorem d_N_clear_12 : decode b_N_clear 12 = .ok (.invokevirtual 59, 3) := by decide +kernel
theorem d_N_clear_15 : decode b_N_clear 15 = .ok (.aload_n 0, 1) := by decide +kernel
theorem d_N_clear_16 : decode b_N_clear 16 = .ok (.getfield 44, 3) := by decide +kernel
theorem d_N_clear_19 : decode b_N_clear 19 = .ok (.invokevirtual 62, 3) := by decide +kernel
theorem d_N_clear_22 : decode b_N_clear 22 = .ok (.aload_n 0, 1) := by decide +kernel
theorem d_N_clear_23 : decode b_N_clear 23 = .ok (.getfield 51, 3) := by decide +kernel
theorem d_N_clear_26 : decode b_N_clear 26 = .ok (.invokevirtual 63, 3) := by decide +kernel
theorem d_N_clear_29 : decode b_N_clear 29 = .ok (.iload_n 1, 1) := by decide +kernel
theorem d_N_clear_30 : decode b_N_clear 30 = .ok (.ireturn, 1) := by decide +kernel
theorem d_N_node_0 : decode b_N_node 0 = .ok (.aload_n 0, 1) := by decide +kernel
theorem d_N_node_1 : decode b_N_node 1 = .ok (.getfield 12, 3) := by decide +kernel
theorem d_N_node_4 : decode b_N_node 4 = .ok (.invokevirtual 64, 3) := by decide +kernel
theorem d_N_node_7 : decode b_N_node 7 = .ok (.ireturn, 1) := by decide +kernel
theorem d_N_arc_0 : decode b_N_arc 0 = .ok (.aload_n 0, 1) := by decide +kernel
theorem d_N_arc_1 : decode b_N_arc 1 = .ok (.getfield 12, 3) := by decide +kernel
theorem d_N_arc_4 : decode b_N_arc 4 = .ok (.iload_n 1, 1) := by decide +kernel
theorem d_N_arc_5 : decode b_N_arc 5 = .ok (.iload_n 2, 1) := by decide +kernel
theorem d_N_arc_6 : decode b_N_arc 6 = .ok (.invokevirtual 68, 3) := by decide +kernel
theorem d_N_arc_9 : decode b_N_arc 9 = .ok (.ifCond .eq 18, 3) := by decide +kernel
theorem d_N_arc_12 : decode b_N_arc 12 = .ok (.iload_n 3, 1) := by decide +kernel
theorem d_N_arc_13 : decode b_N_arc 13 = .ok (.invokestatic 72, 3) := by decide +kernel
theorem d_N_arc_16 : decode b_N_arc 16 = .ok (.ifCond .eq 11, 3) := by decide +kernel
theorem d_N_arc_19 : decode b_N_arc 19 = .ok (.iload 4, 2) := by decide +kernel
theorem d_N_arc_21 : decode b_N_arc 21 = .ok (.invokestatic 72, 3) := by decide +kernel
theorem d_N_arc_24 : decode b_N_arc 24 = .ok (.ifCond .ne 6, 3) := by decide +kernel
theorem d_N_arc_27 : decode b_N_arc 27 = .ok (.bipush (-2), 2) := by decide +kernel
theorem d_N_arc_29 : decode b_N_arc 29 = .ok (.ireturn, 1) := by decide +kernel
theorem d_N_arc_30 : decode b_N_arc 30 = .ok (.aload_n 0, 1) := by decide +kernel
theorem d_N_arc_31 : decode b_N_arc 31 = .ok (.getfield 12, 3) := by decide +kernel
theorem d_N_arc_34 : decode b_N_arc 34 = .ok (.iload_n 1, 1) := by decide +kernel
theorem d_N_arc_35 : decode b_N_arc 35 = .ok (.iload_n 2, 1) := by decide +kernel
theorem d_N_arc_36 : decode b_N_arc 36 = .ok (.iload_n 3, 1) := by decide +kernel
theorem d_N_arc_37 : decode b_N_arc 37 = .ok (.iload 4, 2) := by decide +kernel
theorem d_N_arc_39 : decode b_N_arc 39 = .ok (.invokevirtual 76, 3) := by decide +kernel
theorem d_N_arc_42 : decode b_N_arc 42 = .ok (.ireturn, 1) := by decide +kernel
theorem d_N_change_0 : decode b_N_change 0 = .ok (.aload_n 0, 1) := by decide +kernel
theorem d_N_change_1 : decode b_N_change 1 = .ok (.getfield 12, 3) := by decide +kernel
theorem d_N_change_4 : decode b_N_change 4 = .ok (.iload_n 1, 1) := by decide +kernel
theorem d_N_change_5 : decode b_N_change 5 = .ok (.invokevirtual 80, 3) := by decide +kernel
theorem d_N_change_8 : decode b_N_change 8 = .ok (.ifCond .eq 17, 3) := by decide +kernel
theorem d_N_change_11 : decode b_N_change 11 = .ok (.iload_n 2, 1) := by decide +kernel
theorem d_N_change_12 : decode b_N_change 12 = .ok (.invokestatic 72, 3) := by decide +kernel
theorem d_N_change_15 : decode b_N_change 15 = .ok (.ifCond .eq 10, 3) := by decide +kernel
theorem d_N_change_18 : decode b_N_change 18 = .ok (.iload_n 3, 1) := by decide +kernel
theorem d_N_change_19 : decode b_N_change 19 = .ok (.invokestatic 72, 3) := by decide +kernel
theorem d_N_change_22 : decode b_N_change 22 = .ok (.ifCond .ne 6, 3) := by decide +kernel
theorem d_N_change_25 : decode b_N_change 25 = .ok (.bipush (-2), 2) := by decide +kernel
theorem d_N_change_27 : decode b_N_change 27 = .ok (.ireturn, 1) := by decide +kernel
theorem d_N_change_28 : decode b_N_change 28 = .ok (.aload_n 0, 1) := by decide +kernel
theorem d_N_change_29 : decode b_N_change 29 = .ok (.getfield 12, 3) := by decide +kernel
theorem d_N_change_32 : decode b_N_change 32 = .ok (.getfield 83, 3) := by decide +kernel
theorem d_N_change_35 : decode b_N_change 35 = .ok (.iload_n 1, 1) := by decide +kernel
theorem d_N_change_36 : decode b_N_change 36 = .ok (.iaload, 1) := by decide +kernel
theorem d_N_change_37 : decode b_N_change 37 = .ok (.istore 4, 2) := by decide +kernel
theorem d_N_change_39 : decode b_N_change 39 = .ok (.aload_n 0, 1) := by decide +kernel
theorem d_N_change_40 : decode b_N_change 40 = .ok (.getfield 12, 3) := by decide +kernel
theorem d_N_change_43 : decode b_N_change 43 = .ok (.getfield 83, 3) := by decide +kernel
theorem d_N_change_46 : decode b_N_change 46 = .ok (.iload_n 1, 1) := by decide +kernel
theorem d_N_change_47 : decode b_N_change 47 = .ok (.iload_n 2, 1) := by decide +kernel
theorem d_N_change_48 : decode b_N_change 48 = .ok (.iastore, 1) := by decide +kernel
theorem d_N_change_49 : decode b_N_change 49 = .ok (.aload_n 0, 1) := by decide +kernel
theorem d_N_change_50 : decode b_N_change 50 = .ok (.getfield 12, 3) := by decide +kernel
theorem d_N_change_53 : decode b_N_change 53 = .ok (.getfield 87, 3) := by decide +kernel
theorem d_N_change_56 : decode b_N_change 56 = .ok (.iload_n 1, 1) := by decide +kernel
theorem d_N_change_57 : decode b_N_change 57 = .ok (.iload_n 3, 1) := by decide +kernel
theorem d_N_change_58 : decode b_N_change 58 = .ok (.iastore, 1) := by decide +kernel
theorem d_N_change_59 : decode b_N_change 59 = .ok (.iload 4, 2) := by decide +kernel
theorem d_N_change_61 : decode b_N_change 61 = .ok (.ireturn, 1) := by decide +kernel
theorem d_N_shut_0 : decode b_N_shut 0 = .ok (.aload_n 0, 1) := by decide +kernel
theorem d_N_shut_1 : decode b_N_shut 1 = .ok (.getfield 12, 3) := by decide +kernel
theorem d_N_shut_4 : decode b_N_shut 4 = .ok (.iload_n 1, 1) := by decide +kernel
theorem d_N_shut_5 : decode b_N_shut 5 = .ok (.invokevirtual 80, 3) := by decide +kernel
theorem d_N_shut_8 : decode b_N_shut 8 = .ok (.ifCond .ne 6, 3) := by decide +kernel
theorem d_N_shut_11 : decode b_N_shut 11 = .ok (.bipush (-2), 2) := by decide +kernel
theorem d_N_shut_13 : decode b_N_shut 13 = .ok (.ireturn, 1) := by decide +kernel
theorem d_N_shut_14 : decode b_N_shut 14 = .ok (.aload_n 0, 1) := by decide +kernel
theorem d_N_shut_15 : decode b_N_shut 15 = .ok (.getfield 12, 3) := by decide +kernel
theorem d_N_shut_18 : decode b_N_shut 18 = .ok (.getfield 90, 3) := by decide +kernel
theorem d_N_shut_21 : decode b_N_shut 21 = .ok (.iload_n 1, 1) := by decide +kernel
theorem d_N_shut_22 : decode b_N_shut 22 = .ok (.baload, 1) := by decide +kernel
theorem d_N_shut_23 : decode b_N_shut 23 = .ok (.istore_n 3, 1) := by decide +kernel
theorem d_N_shut_24 : decode b_N_shut 24 = .ok (.aload_n 0, 1) := by decide +kernel
theorem d_N_shut_25 : decode b_N_shut 25 = .ok (.getfield 12, 3) := by decide +kernel
theorem d_N_shut_28 : decode b_N_shut 28 = .ok (.getfield 90, 3) := by decide +kernel
theorem d_N_shut_31 : decode b_N_shut 31 = .ok (.iload_n 1, 1) := by decide +kernel
theorem d_N_shut_32 : decode b_N_shut 32 = .ok (.iload_n 2, 1) := by decide +kernel
theorem d_N_shut_33 : decode b_N_shut 33 = .ok (.bastore, 1) := by decide +kernel
theorem d_N_shut_34 : decode b_N_shut 34 = .ok (.iload_n 3, 1) := by decide +kernel
theorem d_N_shut_35 : decode b_N_shut 35 = .ok (.ifCond .eq 7, 3) := by decide +kernel
theorem d_N_shut_38 : decode b_N_shut 38 = .ok (.iconst 1, 1) := by decide +kernel
theorem d_N_shut_39 : decode b_N_shut 39 = .ok (.goto 4, 3) := by decide +kernel
theorem d_N_shut_42 : decode b_N_shut 42 = .ok (.iconst 0, 1) := by decide +kernel
theorem d_N_shut_43 : decode b_N_shut 43 = .ok (.ireturn, 1) := by decide +kernel
theorem d_N_next_0 : decode b_N_next 0 = .ok (.aload_n 0, 1) := by decide +kernel
theorem d_N_next_1 : decode b_N_next 1 = .ok (.getfield 12, 3) := by decide +kernel
theorem d_N_next_4 : decode b_N_next 4 = .ok (.iload_n 1, 1) := by decide +kernel
theorem d_N_next_5 : decode b_N_next 5 = .ok (.iload_n 2, 1) := by decide +kernel
theorem d_N_next_6 : decode b_N_next 6 = .ok (.invokevirtual 68, 3) := by decide +kernel
theorem d_N_next_9 : decode b_N_next 9 = .ok (.ifCond .eq 14, 3) := by decide +kernel
theorem d_N_next_12 : decode b_N_next 12 = .ok (.iload_n 3, 1) := by decide +kernel
theorem d_N_next_13 : decode b_N_next 13 = .ok (.iconst 0, 1) := by decide +kernel
theorem d_N_next_14 : decode b_N_next 14 = .ok (.sipush 299, 3) := by decide +kernel
theorem d_N_next_17 : decode b_N_next 17 = .ok (.invokestatic 94, 3) := by decide +kernel
theorem d_N_next_20 : decode b_N_next 20 = .ok (.ifCond .ne 6, 3) := by decide +kernel
theorem d_N_next_23 : decode b_N_next 23 = .ok (.bipush (-2), 2) := by decide +kernel
theorem d_N_next_25 : decode b_N_next 25 = .ok (.ireturn, 1) := by decide +kernel
theorem d_N_next_26 : decode b_N_next 26 = .ok (.aload_n 0, 1) := by decide +kernel
theorem d_N_next_27 : decode b_N_next 27 = .ok (.getfield 28, 3) := by decide +kernel
theorem d_N_next_30 : decode b_N_next 30 = .ok (.iload_n 1, 1) := by decide +kernel
theorem d_N_next_31 : decode b_N_next 31 = .ok (.iload_n 2, 1) := by decide +kernel
theorem d_N_next_32 : decode b_N_next 32 = .ok (.invokevirtual 98, 3) := by decide +kernel
theorem d_N_next_35 : decode b_N_next 35 = .ok (.iload_n 3, 1) := by decide +kernel
theorem d_N_next_36 : decode b_N_next 36 = .ok (.aload_n 0, 1) := by decide +kernel
theorem d_N_next_37 : decode b_N_next 37 = .ok (.getfield 19, 3) := by decide +kernel
theorem d_N_next_40 : decode b_N_next 40 = .ok (.getfield 102, 3) := by decide +kernel
theorem d_N_next_43 : decode b_N_next 43 = .ok (.if_icmp .lt 5, 3) := by decide +kernel
theorem d_N_next_46 : decode b_N_next 46 = .ok (.iconst (-1), 1) := by decide +kernel
theorem d_N_next_47 : decode b_N_next 47 = .ok (.ireturn, 1) := by decide +kernel
theorem d_N_next_48 : decode b_N_next 48 = .ok (.iconst 0, 1) := by decide +kernel
theorem d_N_next_49 : decode b_N_next 49 = .ok (.istore 4, 2) := by decide +kernel
theorem d_N_next_51 : decode b_N_next 51 = .ok (.iload 4, 2) := by decide +kernel
theorem d_N_next_53 : decode b_N_next 53 = .ok (.iload_n 3, 1) := by decide +kernel
theorem d_N_next_54 : decode b_N_next 54 = .ok (.if_icmp .ge 17, 3) := by decide +kernel
theorem d_N_next_57 : decode b_N_next 57 = .ok (.aload_n 0, 1) := by decide +kernel
theorem d_N_next_58 : decode b_N_next 58 = .ok (.getfield 19, 3) := by decide +kernel
theorem d_N_next_61 : decode b_N_next 61 = .ok (.invokevirtual 105, 3) := by decide +kernel
theorem d_N_next_64 : decode b_N_next 64 = .ok (.pop2, 1) := by decide +kernel
theorem d_N_next_65 : decode b_N_next 65 = .ok (.iinc 4 1, 3) := by decide +kernel
theorem d_N_next_68 : decode b_N_next 68 = .ok (.goto (-17), 3) := by decide +kernel
theorem d_N_next_71 : decode b_N_next 71 = .ok (.aload_n 0, 1) := by decide +kernel
theorem d_N_next_72 : decode b_N_next 72 = .ok (.getfield 44, 3) := by decide +kernel
theorem d_N_next_75 : decode b_N_next 75 = .ok (.aload_n 0, 1) := by decide +kernel
theorem d_N_next_76 : decode b_N_next 76 = .ok (.getfield 12, 3) := by decide +kernel
theorem d_N_next_79 : decode b_N_next 79 = .ok (.aload_n 0, 1) := by decide +kernel
theorem d_N_next_80 : decode b_N_next 80 = .ok (.getfield 19, 3) := by decide +kernel
theorem d_N_next_83 : decode b_N_next 83 = .ok (.invokevirtual 105, 3) := by decide +kernel
theorem d_N_next_86 : decode b_N_next 86 = .ok (.invokevirtual 109, 3) := by decide +kernel
theorem d_N_next_89 : decode b_N_next 89 = .ok (.ireturn, 1) := by decide +kernel
theorem d_N_count_0 : decode b_N_count 0 = .ok (.aload_n 0, 1) := by decide +kernel
theorem d_N_count_1 : decode b_N_count 1 = .ok (.getfield 12, 3) := by decide +kernel
theorem d_N_count_4 : decode b_N_count 4 = .ok (.iload_n 1, 1) := by decide +kernel
theorem d_N_count_5 : decode b_N_count 5 = .ok (.iload_n 2, 1) := by decide +kernel
theorem d_N_count_6 : decode b_N_count 6 = .ok (.invokevirtual 68, 3) := by decide +kernel
theorem d_N_count_9 : decode b_N_count 9 = .ok (.ifCond .ne 6, 3) := by decide +kernel
theorem d_N_count_12 : decode b_N_count 12 = .ok (.bipush (-2), 2) := by decide +kernel
theorem d_N_count_14 : decode b_N_count 14 = .ok (.ireturn, 1) := by decide +kernel
theorem d_N_count_15 : decode b_N_count 15 = .ok (.aload_n 0, 1) := by decide +kernel
theorem d_N_count_16 : decode b_N_count 16 = .ok (.getfield 28, 3) := by decide +kernel
theorem d_N_count_19 : decode b_N_count 19 = .ok (.iload_n 1, 1) := by decide +kernel
theorem d_N_count_20 : decode b_N_count 20 = .ok (.iload_n 2, 1) := by decide +kernel
theorem d_N_count_21 : decode b_N_count 21 = .ok (.invokevirtual 98, 3) := by decide +kernel
theorem d_N_count_24 : decode b_N_count 24 = .ok (.aload_n 0, 1) := by decide +kernel
theorem d_N_count_25 : decode b_N_count 25 = .ok (.getfield 19, 3) := by decide +kernel
theorem d_N_count_28 : decode b_N_count 28 = .ok (.getfield 102, 3) := by decide +kernel
theorem d_N_count_31 : decode b_N_count 31 = .ok (.ireturn, 1) := by decide +kernel
theorem d_N_apart_0 : decode b_N_apart 0 = .ok (.aload_n 0, 1) := by decide +kernel
theorem d_N_apart_1 : decode b_N_apart 1 = .ok (.getfield 12, 3) := by decide +kernel
theorem d_N_apart_4 : decode b_N_apart 4 = .ok (.iload_n 1, 1) := by decide +kernel
theorem d_N_apart_5 : decode b_N_apart 5 = .ok (.iload_n 2, 1) := by decide +kernel
theorem d_N_apart_6 : decode b_N_apart 6 = .ok (.invokevirtual 68, 3) := by decide +kernel
theorem d_N_apart_9 : decode b_N_apart 9 = .ok (.ifCond .eq 22, 3) := by decide +kernel
theorem d_N_apart_12 : decode b_N_apart 12 = .ok (.iload_n 3, 1) := by decide +kernel
theorem d_N_apart_13 : decode b_N_apart 13 = .ok (.iconst 1, 1) := by decide +kernel
theorem d_N_apart_14 : decode b_N_apart 14 = .ok (.iconst 5, 1) := by decide +kernel
theorem d_N_apart_15 : decode b_N_apart 15 = .ok (.invokestatic 94, 3) := by decide +kernel
theorem d_N_apart_18 : decode b_N_apart 18 = .ok (.ifCond .eq 13, 3) := by decide +kernel
theorem d_N_apart_21 : decode b_N_apart 21 = .ok (.iload 4, 2) := by decide +kernel
theorem d_N_apart_23 : decode b_N_apart 23 = .ok (.iconst 0, 1) := by decide +kernel
theorem d_N_apart_24 : decode b_N_apart 24 = .ok (.iconst 1, 1) := by decide +kernel
theorem d_N_apart_25 : decode b_N_apart 25 = .ok (.invokestatic 94, 3) := by decide +kernel
theorem d_N_apart_28 : decode b_N_apart 28 = .ok (.ifCond .ne 6, 3) := by decide +kernel
theorem d_N_apart_31 : decode b_N_apart 31 = .ok (.bipush (-2), 2) := by decide +kernel
theorem d_N_apart_33 : decode b_N_apart 33 = .ok (.ireturn, 1) := by decide +kernel
theorem d_N_apart_34 : decode b_N_apart 34 = .ok (.aload_n 0, 1) := by decide +kernel
theorem d_N_apart_35 : decode b_N_apart 35 = .ok (.getfield 37, 3) := by decide +kernel
theorem d_N_apart_38 : decode b_N_apart 38 = .ok (.iload_n 1, 1) := by decide +kernel
theorem d_N_apart_39 : decode b_N_apart 39 = .ok (.iload_n 2, 1) := by decide +kernel
theorem d_N_apart_40 : decode b_N_apart 40 = .ok (.iload 4, 2) := by decide +kernel
theorem d_N_apart_42 : decode b_N_apart 42 = .ok (.iconst 1, 1) := by decide +kernel
theorem d_N_apart_43 : decode b_N_apart 43 = .ok (.if_icmp .ne 7, 3) := by decide +kernel
theorem d_N_apart_46 : decode b_N_apart 46 = .ok (.iconst 1, 1) := by decide +kernel
theorem d_N_apart_47 : decode b_N_apart 47 = .ok (.goto 4, 3) := by decide +kernel
theorem d_N_apart_50 : decode b_N_apart 50 = .ok (.iconst 0, 1) := by decide +kernel
theorem d_N_apart_51 : decode b_N_apart 51 = .ok (.invokevirtual 113, 3) := by decide +kernel
theorem d_N_apart_54 : decode b_N_apart 54 = .ok (.iconst 0, 1) := by decide +kernel
theorem d_N_apart_55 : decode b_N_apart 55 = .ok (.istore 5, 2) := by decide +kernel
theorem d_N_apart_57 : decode b_N_apart 57 = .ok (.iconst 0, 1) := by decide +kernel
theorem d_N_apart_58 : decode b_N_apart 58 = .ok (.istore 6, 2) := by decide +kernel
theorem d_N_apart_60 : decode b_N_apart 60 = .ok (.iload 6, 2) := by decide +kernel
theorem d_N_apart_62 : decode b_N_apart 62 = .ok (.iload_n 3, 1) := by decide +kernel
theorem d_N_apart_63 : decode b_N_apart 63 = .ok (.if_icmp .ge 33, 3) := by decide +kernel
theorem d_N_apart_66 : decode b_N_apart 66 = .ok (.aload_n 0, 1) := by decide +kernel
theorem d_N_apart_67 : decode b_N_apart 67 = .ok (.getfield 37, 3) := by decide +kernel
theorem d_N_apart_70 : decode b_N_apart 70 = .ok (.invokevirtual 117, 3) := by decide +kernel
theorem d_N_apart_73 : decode b_N_apart 73 = .ok (.istore 7, 2) := by decide +kernel
theorem d_N_apart_75 : decode b_N_apart 75 = .ok (.iload 7, 2) := by decide +kernel
theorem d_N_apart_77 : decode b_N_apart 77 = .ok (.iconst (-1), 1) := by decide +kernel
theorem d_N_apart_78 : decode b_N_apart 78 = .ok (.if_icmp .ne 5, 3) := by decide +kernel
theorem d_N_apart_81 : decode b_N_apart 81 = .ok (.iconst (-1), 1) := by decide +kernel
theorem d_N_apart_82 : decode b_N_apart 82 = .ok (.ireturn, 1) := by decide +kernel
theorem d_N_apart_83 : decode b_N_apart 83 = .ok (.iload 5, 2) := by decide +kernel
theorem d_N_apart_85 : decode b_N_apart 85 = .ok (.iload 7, 2) := by decide +kernel
theorem d_N_apart_87 : decode b_N_apart 87 = .ok (.iadd, 1) := by decide +kernel
theorem d_N_apart_88 : decode b_N_apart 88 = .ok (.istore 5, 2) := by decide +kernel
theorem d_N_apart_90 : decode b_N_apart 90 = .ok (.iinc 6 1, 3) := by decide +kernel
theorem d_N_apart_93 : decode b_N_apart 93 = .ok (.goto (-33), 3) := by decide +kernel
theorem d_N_apart_96 : decode b_N_apart 96 = .ok (.iload 5, 2) := by decide +kernel
theorem d_N_apart_98 : decode b_N_apart 98 = .ok (.ireturn, 1) := by decide +kernel
theorem d_N_most_0 : decode b_N_most 0 = .ok (.aload_n 0, 1) := by decide +kernel
theorem d_N_most_1 : decode b_N_most 1 = .ok (.getfield 12, 3) := by decide +kernel
theorem d_N_most_4 : decode b_N_most 4 = .ok (.iload_n 1, 1) := by decide +kernel
theorem d_N_most_5 : decode b_N_most 5 = .ok (.iload_n 2, 1) := by decide +kernel
theorem d_N_most_6 : decode b_N_most 6 = .ok (.invokevirtual 68, 3) := by decide +kernel
theorem d_N_most_9 : decode b_N_most 9 = .ok (.ifCond .eq 12, 3) := by decide +kernel
theorem d_N_most_12 : decode b_N_most 12 = .ok (.iload_n 3, 1) := by decide +kernel
theorem d_N_most_13 : decode b_N_most 13 = .ok (.iconst 0, 1) := by decide +kernel
theorem d_N_most_14 : decode b_N_most 14 = .ok (.iconst 1, 1) := by decide +kernel
theorem d_N_most_15 : decode b_N_most 15 = .ok (.invokestatic 94, 3) := by decide +kernel
theorem d_N_most_18 : decode b_N_most 18 = .ok (.ifCond .ne 6, 3) := by decide +kernel
theorem d_N_most_21 : decode b_N_most 21 = .ok (.bipush (-2), 2) := by decide +kernel
theorem d_N_most_23 : decode b_N_most 23 = .ok (.ireturn, 1) := by decide +kernel
theorem d_N_most_24 : decode b_N_most 24 = .ok (.aload_n 0, 1) := by decide +kernel
theorem d_N_most_25 : decode b_N_most 25 = .ok (.getfield 37, 3) := by decide +kernel
theorem d_N_most_28 : decode b_N_most 28 = .ok (.iload_n 1, 1) := by decide +kernel
theorem d_N_most_29 : decode b_N_most 29 = .ok (.iload_n 2, 1) := by decide +kernel
theorem d_N_most_30 : decode b_N_most 30 = .ok (.iload_n 3, 1) := by decide +kernel
theorem d_N_most_31 : decode b_N_most 31 = .ok (.iconst 1, 1) := by decide +kernel
theorem d_N_most_32 : decode b_N_most 32 = .ok (.if_icmp .ne 7, 3) := by decide +kernel
theorem d_N_most_35 : decode b_N_most 35 = .ok (.iconst 1, 1) := by decide +kernel
theorem d_N_most_36 : decode b_N_most 36 = .ok (.goto 4, 3) := by decide +kernel
theorem d_N_most_39 : decode b_N_most 39 = .ok (.iconst 0, 1) := by decide +kernel
theorem d_N_most_40 : decode b_N_most 40 = .ok (.invokevirtual 113, 3) := by decide +kernel
theorem d_N_most_43 : decode b_N_most 43 = .ok (.iconst 0, 1) := by decide +kernel
theorem d_N_most_44 : decode b_N_most 44 = .ok (.istore 4, 2) := by decide +kernel
theorem d_N_most_46 : decode b_N_most 46 = .ok (.iload 4, 2) := by decide +kernel
theorem d_N_most_48 : decode b_N_most 48 = .ok (.bipush 20, 2) := by decide +kernel
theorem d_N_most_50 : decode b_N_most 50 = .ok (.if_icmp .ge 20, 3) := by decide +kernel
theorem d_N_most_53 : decode b_N_most 53 = .ok (.aload_n 0, 1) := by decide +kernel
theorem d_N_most_54 : decode b_N_most 54 = .ok (.getfield 37, 3) := by decide +kernel
theorem d_N_most_57 : decode b_N_most 57 = .ok (.invokevirtual 117, 3) := by decide +kernel
theorem d_N_most_60 : decode b_N_most 60 = .ok (.iconst (-1), 1) := by decide +kernel
theorem d_N_most_61 : decode b_N_most 61 = .ok (.if_icmp .eq 9, 3) := by decide +kernel
theorem d_N_most_64 : decode b_N_most 64 = .ok (.iinc 4 1, 3) := by decide +kernel
theorem d_N_most_67 : decode b_N_most 67 = .ok (.goto (-21), 3) := by decide +kernel
theorem d_N_most_70 : decode b_N_most 70 = .ok (.iload 4, 2) := by decide +kernel
theorem d_N_most_72 : decode b_N_most 72 = .ok (.ireturn, 1) := by decide +kernel
theorem d_N_within_0 : decode b_N_within 0 = .ok (.aload_n 0, 1) := by decide +kernel
theorem d_N_within_1 : decode b_N_within 1 = .ok (.getfield 12, 3) := by decide +kernel
theorem d_N_within_4 : decode b_N_within 4 = .ok (.iload_n 1, 1) := by decide +kernel
theorem d_N_within_5 : decode b_N_within 5 = .ok (.iload_n 2, 1) := by decide +kernel
theorem d_N_within_6 : decode b_N_within 6 = .ok (.invokevirtual 68, 3) := by decide +kernel
theorem d_N_within_9 : decode b_N_within 9 = .ok (.ifCond .eq 14, 3) := by decide +kernel
theorem d_N_within_12 : decode b_N_within 12 = .ok (.iload_n 3, 1) := by decide +kernel
theorem d_N_within_13 : decode b_N_within 13 = .ok (.iconst 0, 1) := by decide +kernel
theorem d_N_within_14 : decode b_N_within 14 = .ok (.sipush 7000, 3) := by decide +kernel
theorem d_N_within_17 : decode b_N_within 17 = .ok (.invokestatic 94, 3) := by decide +kernel
theorem d_N_within_20 : decode b_N_within 20 = .ok (.ifCond .ne 6, 3) := by decide +kernel
theorem d_N_within_23 : decode b_N_within 23 = .ok (.bipush (-2), 2) := by decide +kernel
theorem d_N_within_25 : decode b_N_within 25 = .ok (.ireturn, 1) := by decide +kernel
theorem d_N_within_26 : decode b_N_within 26 = .ok (.aload_n 0, 1) := by decide +kernel
theorem d_N_within_27 : decode b_N_within 27 = .ok (.getfield 28, 3) := by decide +kernel
theorem d_N_within_30 : decode b_N_within 30 = .ok (.iload_n 1, 1) := by decide +kernel
theorem d_N_within_31 : decode b_N_within 31 = .ok (.iload_n 2, 1) := by decide +kernel
theorem d_N_within_32 : decode b_N_within 32 = .ok (.invokevirtual 98, 3) := by decide +kernel
theorem d_N_within_35 : decode b_N_within 35 = .ok (.aload_n 0, 1) := by decide +kernel
theorem d_N_within_36 : decode b_N_within 36 = .ok (.getfield 19, 3) := by decide +kernel
theorem d_N_within_39 : decode b_N_within 39 = .ok (.getfield 102, 3) := by decide +kernel
theorem d_N_within_42 : decode b_N_within 42 = .ok (.istore 4, 2) := by decide +kernel
theorem d_N_within_44 : decode b_N_within 44 = .ok (.iload 4, 2) := by decide +kernel
theorem d_N_within_46 : decode b_N_within 46 = .ok (.ifCond .le 45, 3) := by decide +kernel
theorem d_N_within_49 : decode b_N_within 49 = .ok (.aload_n 0, 1) := by decide +kernel
theorem d_N_within_50 : decode b_N_within 50 = .ok (.getfield 19, 3) := by decide +kernel
theorem d_N_within_53 : decode b_N_within 53 = .ok (.invokevirtual 105, 3) := by decide +kernel
theorem d_N_within_56 : decode b_N_within 56 = .ok (.lstore 5, 2) := by decide +kernel
theorem d_N_within_58 : decode b_N_within 58 = .ok (.aload_n 0, 1) := by decide +kernel
theorem d_N_within_59 : decode b_N_within 59 = .ok (.getfield 12, 3) := by decide +kernel
theorem d_N_within_62 : decode b_N_within 62 = .ok (.lload 5, 2) := by decide +kernel
theorem d_N_within_64 : decode b_N_within 64 = .ok (.invokevirtual 120, 3) := by decide +kernel
theorem d_N_within_67 : decode b_N_within 67 = .ok (.iload_n 3, 1) := by decide +kernel
theorem d_N_within_68 : decode b_N_within 68 = .ok (.if_icmp .gt 17, 3) := by decide +kernel
theorem d_N_within_71 : decode b_N_within 71 = .ok (.aload_n 0, 1) := by decide +kernel
theorem d_N_within_72 : decode b_N_within 72 = .ok (.getfield 44, 3) := by decide +kernel
theorem d_N_within_75 : decode b_N_within 75 = .ok (.aload_n 0, 1) := by decide +kernel
theorem d_N_within_76 : decode b_N_within 76 = .ok (.getfield 12, 3) := by decide +kernel
theorem d_N_within_79 : decode b_N_within 79 = .ok (.lload 5, 2) := by decide +kernel
theorem d_N_within_81 : decode b_N_within 81 = .ok (.invokevirtual 109, 3) := by decide +kernel
theorem d_N_within_84 : decode b_N_within 84 = .ok (.ireturn, 1) := by decide +kernel
theorem d_N_within_85 : decode b_N_within 85 = .ok (.iinc 4 (-1), 3) := by decide +kernel
theorem d_N_within_88 : decode b_N_within 88 = .ok (.goto (-44), 3) := by decide +kernel
theorem d_N_within_91 : decode b_N_within 91 = .ok (.iconst (-1), 1) := by decide +kernel
theorem d_N_within_92 : decode b_N_within 92 = .ok (.ireturn, 1) := by decide +kernel
theorem d_N_pairs_0 : decode b_N_pairs 0 = .ok (.aload_n 0, 1) := by decide +kernel
theorem d_N_pairs_1 : decode b_N_pairs 1 = .ok (.getfield 12, 3) := by decide +kernel
theorem d_N_pairs_4 : decode b_N_pairs 4 = .ok (.iload_n 1, 1) := by decide +kernel
theorem d_N_pairs_5 : decode b_N_pairs 5 = .ok (.iload_n 2, 1) := by decide +kernel
theorem d_N_pairs_6 : decode b_N_pairs 6 = .ok (.invokevirtual 68, 3) := by decide +kernel
theorem d_N_pairs_9 : decode b_N_pairs 9 = .ok (.ifCond .ne 6, 3) := by decide +kernel
theorem d_N_pairs_12 : decode b_N_pairs 12 = .ok (.bipush (-2), 2) := by decide +kernel
theorem d_N_pairs_14 : decode b_N_pairs 14 = .ok (.ireturn, 1) := by decide +kernel
theorem d_N_pairs_15 : decode b_N_pairs 15 = .ok (.aload_n 0, 1) := by decide +kernel
theorem d_N_pairs_16 : decode b_N_pairs 16 = .ok (.getfield 28, 3) := by decide +kernel
theorem d_N_pairs_19 : decode b_N_pairs 19 = .ok (.iload_n 1, 1) := by decide +kernel
theorem d_N_pairs_20 : decode b_N_pairs 20 = .ok (.iload_n 2, 1) := by decide +kernel
theorem d_N_pairs_21 : decode b_N_pairs 21 = .ok (.invokevirtual 98, 3) := by decide +kernel
theorem d_N_pairs_24 : decode b_N_pairs 24 = .ok (.aload_n 0, 1) := by decide +kernel
theorem d_N_pairs_25 : decode b_N_pairs 25 = .ok (.getfield 51, 3) := by decide +kernel
theorem d_N_pairs_28 : decode b_N_pairs 28 = .ok (.invokevirtual 63, 3) := by decide +kernel
theorem d_N_pairs_31 : decode b_N_pairs 31 = .ok (.aload_n 0, 1) := by decide +kernel
theorem d_N_pairs_32 : decode b_N_pairs 32 = .ok (.getfield 19, 3) := by decide +kernel
theorem d_N_pairs_35 : decode b_N_pairs 35 = .ok (.getfield 102, 3) := by decide +kernel
theorem d_N_pairs_38 : decode b_N_pairs 38 = .ok (.istore_n 3, 1) := by decide +kernel
theorem d_N_pairs_39 : decode b_N_pairs 39 = .ok (.iload_n 3, 1) := by decide +kernel
theorem d_N_pairs_40 : decode b_N_pairs 40 = .ok (.ifCond .le 39, 3) := by decide +kernel
theorem d_N_pairs_43 : decode b_N_pairs 43 = .ok (.aload_n 0, 1) := by decide +kernel
theorem d_N_pairs_44 : decode b_N_pairs 44 = .ok (.getfield 19, 3) := by decide +kernel
theorem d_N_pairs_47 : decode b_N_pairs 47 = .ok (.invokevirtual 105, 3) := by decide +kernel
theorem d_N_pairs_50 : decode b_N_pairs 50 = .ok (.lstore 4, 2) := by decide +kernel
theorem d_N_pairs_52 : decode b_N_pairs 52 = .ok (.aload_n 0, 1) := by decide +kernel
theorem d_N_pairs_53 : decode b_N_pairs 53 = .ok (.getfield 51, 3) := by decide +kernel
theorem d_N_pairs_56 : decode b_N_pairs 56 = .ok (.lload 4, 2) := by decide +kernel
theorem d_N_pairs_58 : decode b_N_pairs 58 = .ok (.invokestatic 124, 3) := by decide +kernel
theorem d_N_pairs_61 : decode b_N_pairs 61 = .ok (.aload_n 0, 1) := by decide +kernel
theorem d_N_pairs_62 : decode b_N_pairs 62 = .ok (.getfield 12, 3) := by decide +kernel
theorem d_N_pairs_65 : decode b_N_pairs 65 = .ok (.lload 4, 2) := by decide +kernel
theorem d_N_pairs_67 : decode b_N_pairs 67 = .ok (.invokevirtual 120, 3) := by decide +kernel
theorem d_N_pairs_70 : decode b_N_pairs 70 = .ok (.invokevirtual 129, 3) := by decide +kernel
theorem d_N_pairs_73 : decode b_N_pairs 73 = .ok (.iinc 3 (-1), 3) := by decide +kernel
theorem d_N_pairs_76 : decode b_N_pairs 76 = .ok (.goto (-37), 3) := by decide +kernel
theorem d_N_pairs_79 : decode b_N_pairs 79 = .ok (.aload_n 0, 1) := by decide +kernel
theorem d_N_pairs_80 : decode b_N_pairs 80 = .ok (.getfield 51, 3) := by decide +kernel
theorem d_N_pairs_83 : decode b_N_pairs 83 = .ok (.getfield 132, 3) := by decide +kernel
theorem d_N_pairs_86 : decode b_N_pairs 86 = .ok (.ireturn, 1) := by decide +kernel
theorem d_N_pair_0 : decode b_N_pair 0 = .ok (.iload_n 1, 1) := by decide +kernel
theorem d_N_pair_1 : decode b_N_pair 1 = .ok (.iconst 0, 1) := by decide +kernel
theorem d_N_pair_2 : decode b_N_pair 2 = .ok (.aload_n 0, 1) := by decide +kernel
theorem d_N_pair_3 : decode b_N_pair 3 = .ok (.getfield 51, 3) := by decide +kernel
theorem d_N_pair_6 : decode b_N_pair 6 = .ok (.getfield 132, 3) := by decide +kernel
theorem d_N_pair_9 : decode b_N_pair 9 = .ok (.iconst 1, 1) := by decide +kernel
theorem d_N_pair_10 : decode b_N_pair 10 = .ok (.isub, 1) := by decide +kernel
theorem d_N_pair_11 : decode b_N_pair 11 = .ok (.invokestatic 94, 3) := by decide +kernel
theorem d_N_pair_14 : decode b_N_pair 14 = .ok (.ifCond .ne 6, 3) := by decide +kernel
theorem d_N_pair_17 : decode b_N_pair 17 = .ok (.bipush (-2), 2) := by decide +kernel
theorem d_N_pair_19 : decode b_N_pair 19 = .ok (.ireturn, 1) := by decide +kernel
theorem d_N_pair_20 : decode b_N_pair 20 = .ok (.iload_n 2, 1) := by decide +kernel
theorem d_N_pair_21 : decode b_N_pair 21 = .ok (.lookupswitch 47 #[(0, 27), (1, 37)], 27) := by decide +kernel
theorem d_N_pair_48 : decode b_N_pair 48 = .ok (.aload_n 0, 1) := by decide +kernel
theorem d_N_pair_49 : decode b_N_pair 49 = .ok (.getfield 51, 3) := by decide +kernel
theorem d_N_pair_52 : decode b_N_pair 52 = .ok (.getfield 133, 3) := by decide +kernel
theorem d_N_pair_55 : decode b_N_pair 55 = .ok (.iload_n 1, 1) := by decide +kernel
theorem d_N_pair_56 : decode b_N_pair 56 = .ok (.iaload, 1) := by decide +kernel
theorem d_N_pair_57 : decode b_N_pair 57 = .ok (.ireturn, 1) := by decide +kernel
theorem d_N_pair_58 : decode b_N_pair 58 = .ok (.aload_n 0, 1) := by decide +kernel
theorem d_N_pair_59 : decode b_N_pair 59 = .ok (.getfield 51, 3) := by decide +kernel
theorem d_N_pair_62 : decode b_N_pair 62 = .ok (.getfield 136, 3) := by decide +kernel
theorem d_N_pair_65 : decode b_N_pair 65 = .ok (.iload_n 1, 1) := by decide +kernel
theorem d_N_pair_66 : decode b_N_pair 66 = .ok (.iaload, 1) := by decide +kernel
theorem d_N_pair_67 : decode b_N_pair 67 = .ok (.ireturn, 1) := by decide +kernel
theorem d_N_pair_68 : decode b_N_pair 68 = .ok (.bipush (-2), 2) := by decide +kernel
theorem d_N_pair_70 : decode b_N_pair 70 = .ok (.ireturn, 1) := by decide +kernel
theorem d_N_step_0 : decode b_N_step 0 = .ok (.iload_n 1, 1) := by decide +kernel
theorem d_N_step_1 : decode b_N_step 1 = .ok (.iconst 0, 1) := by decide +kernel
theorem d_N_step_2 : decode b_N_step 2 = .ok (.aload_n 0, 1) := by decide +kernel
theorem d_N_step_3 : decode b_N_step 3 = .ok (.getfield 44, 3) := by decide +kernel
theorem d_N_step_6 : decode b_N_step 6 = .ok (.getfield 139, 3) := by decide +kernel
theorem d_N_step_9 : decode b_N_step 9 = .ok (.iconst 1, 1) := by decide +kernel
theorem d_N_step_10 : decode b_N_step 10 = .ok (.isub, 1) := by decide +kernel
theorem d_N_step_11 : decode b_N_step 11 = .ok (.invokestatic 94, 3) := by decide +kernel
theorem d_N_step_14 : decode b_N_step 14 = .ok (.ifCond .eq 15, 3) := by decide +kernel
theorem d_N_step_17 : decode b_N_step 17 = .ok (.aload_n 0, 1) := by decide +kernel
theorem d_N_step_18 : decode b_N_step 18 = .ok (.getfield 44, 3) := by decide +kernel
theorem d_N_step_21 : decode b_N_step 21 = .ok (.getfield 142, 3) := by decide +kernel
theorem d_N_step_24 : decode b_N_step 24 = .ok (.iload_n 1, 1) := by decide +kernel
theorem d_N_step_25 : decode b_N_step 25 = .ok (.iaload, 1) := by decide +kernel
theorem d_N_step_26 : decode b_N_step 26 = .ok (.goto 5, 3) := by decide +kernel
theorem d_N_step_29 : decode b_N_step 29 = .ok (.bipush (-2), 2) := by decide +kernel
theorem d_N_step_31 : decode b_N_step 31 = .ok (.ireturn, 1) := by decide +kernel
theorem d_N_sum_0 : decode b_N_sum 0 = .ok (.iload_n 1, 1) := by decide +kernel
theorem d_N_sum_1 : decode b_N_sum 1 = .ok (.iconst 0, 1) := by decide +kernel
theorem d_N_sum_2 : decode b_N_sum 2 = .ok (.iconst 2, 1) := by decide +kernel
theorem d_N_sum_3 : decode b_N_sum 3 = .ok (.invokestatic 94, 3) := by decide +kernel
theorem d_N_sum_6 : decode b_N_sum 6 = .ok (.ifCond .ne 6, 3) := by decide +kernel
theorem d_N_sum_9 : decode b_N_sum 9 = .ok (.bipush (-2), 2) := by decide +kernel
theorem d_N_sum_11 : decode b_N_sum 11 = .ok (.ireturn, 1) := by decide +kernel
theorem d_N_sum_12 : decode b_N_sum 12 = .ok (.aload_n 0, 1) := by decide +kernel
theorem d_N_sum_13 : decode b_N_sum 13 = .ok (.getfield 44, 3) := by decide +kernel
theorem d_N_sum_16 : decode b_N_sum 16 = .ok (.getfield 139, 3) := by decide +kernel
theorem d_N_sum_19 : decode b_N_sum 19 = .ok (.ifCond .ne 5, 3) := by decide +kernel
theorem d_N_sum_22 : decode b_N_sum 22 = .ok (.iconst (-1), 1) := by decide +kernel
theorem d_N_sum_23 : decode b_N_sum 23 = .ok (.ireturn, 1) := by decide +kernel
theorem d_N_sum_24 : decode b_N_sum 24 = .ok (.iload_n 1, 1) := by decide +kernel
theorem d_N_sum_25 : decode b_N_sum 25 = .ok (.lookupswitch 43 #[(0, 27), (1, 35)], 27) := by decide +kernel
theorem d_N_sum_52 : decode b_N_sum 52 = .ok (.aload_n 0, 1) := by decide +kernel
theorem d_N_sum_53 : decode b_N_sum 53 = .ok (.getfield 44, 3) := by decide +kernel
theorem d_N_sum_56 : decode b_N_sum 56 = .ok (.getfield 145, 3) := by decide +kernel
theorem d_N_sum_59 : decode b_N_sum 59 = .ok (.ireturn, 1) := by decide +kernel
theorem d_N_sum_60 : decode b_N_sum 60 = .ok (.aload_n 0, 1) := by decide +kernel
theorem d_N_sum_61 : decode b_N_sum 61 = .ok (.getfield 44, 3) := by decide +kernel
theorem d_N_sum_64 : decode b_N_sum 64 = .ok (.getfield 147, 3) := by decide +kernel
theorem d_N_sum_67 : decode b_N_sum 67 = .ok (.ireturn, 1) := by decide +kernel
theorem d_N_sum_68 : decode b_N_sum 68 = .ok (.aload_n 0, 1) := by decide +kernel
theorem d_N_sum_69 : decode b_N_sum 69 = .ok (.getfield 44, 3) := by decide +kernel
theorem d_N_sum_72 : decode b_N_sum 72 = .ok (.getfield 139, 3) := by decide +kernel
theorem d_N_sum_75 : decode b_N_sum 75 = .ok (.ireturn, 1) := by decide +kernel
theorem d_N_told_0 : decode b_N_told 0 = .ok (.aload_n 0, 1) := by decide +kernel
theorem d_N_told_1 : decode b_N_told 1 = .ok (.getfield 12, 3) := by decide +kernel
theorem d_N_told_4 : decode b_N_told 4 = .ok (.iload_n 1, 1) := by decide +kernel
theorem d_N_told_5 : decode b_N_told 5 = .ok (.invokevirtual 80, 3) := by decide +kernel
theorem d_N_told_8 : decode b_N_told 8 = .ok (.ifCond .ne 6, 3) := by decide +kernel
theorem d_N_told_11 : decode b_N_told 11 = .ok (.bipush (-2), 2) := by decide +kernel
theorem d_N_told_13 : decode b_N_told 13 = .ok (.ireturn, 1) := by decide +kernel
theorem d_N_told_14 : decode b_N_told 14 = .ok (.iload_n 2, 1) := by decide +kernel
theorem d_N_told_15 : decode b_N_told 15 = .ok (.tableswitch 91 0 4 #[33, 43, 53, 63, 73], 33) := by decide +kernel
theorem d_N_told_48 : decode b_N_told 48 = .ok (.aload_n 0, 1) := by decide +kernel
theorem d_N_told_49 : decode b_N_told 49 = .ok (.getfield 12, 3) := by decide +kernel
theorem d_N_told_52 : decode b_N_told 52 = .ok (.getfield 149, 3) := by decide +kernel
theorem d_N_told_55 : decode b_N_told 55 = .ok (.iload_n 1, 1) := by decide +kernel
theorem d_N_told_56 : decode b_N_told 56 = .ok (.iaload, 1) := by decide +kernel
theorem d_N_told_57 : decode b_N_told 57 = .ok (.ireturn, 1) := by decide +kernel
theorem d_N_told_58 : decode b_N_told 58 = .ok (.aload_n 0, 1) := by decide +kernel
theorem d_N_told_59 : decode b_N_told 59 = .ok (.getfield 12, 3) := by decide +kernel
theorem d_N_told_62 : decode b_N_told 62 = .ok (.getfield 152, 3) := by decide +kernel
theorem d_N_told_65 : decode b_N_told 65 = .ok (.iload_n 1, 1) := by decide +kernel
theorem d_N_told_66 : decode b_N_told 66 = .ok (.iaload, 1) := by decide +kernel
theorem d_N_told_67 : decode b_N_told 67 = .ok (.ireturn, 1) := by decide +kernel
theorem d_N_told_68 : decode b_N_told 68 = .ok (.aload_n 0, 1) := by decide +kernel
theorem d_N_told_69 : decode b_N_told 69 = .ok (.getfield 12, 3) := by decide +kernel
theorem d_N_told_72 : decode b_N_told 72 = .ok (.getfield 83, 3) := by decide +kernel
theorem d_N_told_75 : decode b_N_told 75 = .ok (.iload_n 1, 1) := by decide +kernel
theorem d_N_told_76 : decode b_N_told 76 = .ok (.iaload, 1) := by decide +kernel
theorem d_N_told_77 : decode b_N_told 77 = .ok (.ireturn, 1) := by decide +kernel
theorem d_N_told_78 : decode b_N_told 78 = .ok (.aload_n 0, 1) := by decide +kernel
theorem d_N_told_79 : decode b_N_told 79 = .ok (.getfield 12, 3) := by decide +kernel
theorem d_N_told_82 : decode b_N_told 82 = .ok (.getfield 87, 3) := by decide +kernel
theorem d_N_told_85 : decode b_N_told 85 = .ok (.iload_n 1, 1) := by decide +kernel
theorem d_N_told_86 : decode b_N_told 86 = .ok (.iaload, 1) := by decide +kernel
theorem d_N_told_87 : decode b_N_told 87 = .ok (.ireturn, 1) := by decide +kernel
theorem d_N_told_88 : decode b_N_told 88 = .ok (.aload_n 0, 1) := by decide +kernel
theorem d_N_told_89 : decode b_N_told 89 = .ok (.getfield 12, 3) := by decide +kernel
theorem d_N_told_92 : decode b_N_told 92 = .ok (.getfield 90, 3) := by decide +kernel
theorem d_N_told_95 : decode b_N_told 95 = .ok (.iload_n 1, 1) := by decide +kernel
theorem d_N_told_96 : decode b_N_told 96 = .ok (.baload, 1) := by decide +kernel
theorem d_N_told_97 : decode b_N_told 97 = .ok (.ifCond .eq 7, 3) := by decide +kernel
theorem d_N_told_100 : decode b_N_told 100 = .ok (.iconst 1, 1) := by decide +kernel
theorem d_N_told_101 : decode b_N_told 101 = .ok (.goto 4, 3) := by decide +kernel
theorem d_N_told_104 : decode b_N_told 104 = .ok (.iconst 0, 1) := by decide +kernel
theorem d_N_told_105 : decode b_N_told 105 = .ok (.ireturn, 1) := by decide +kernel
theorem d_N_told_106 : decode b_N_told 106 = .ok (.bipush (-2), 2) := by decide +kernel
theorem d_N_told_108 : decode b_N_told 108 = .ok (.ireturn, 1) := by decide +kernel
theorem d_N_of_0 : decode b_N_of 0 = .ok (.iload_n 1, 1) := by decide +kernel
theorem d_N_of_1 : decode b_N_of 1 = .ok (.tableswitch 51 0 2 #[27, 35, 43], 27) := by decide +kernel
theorem d_N_of_28 : decode b_N_of 28 = .ok (.aload_n 0, 1) := by decide +kernel
theorem d_N_of_29 : decode b_N_of 29 = .ok (.getfield 12, 3) := by decide +kernel
theorem d_N_of_32 : decode b_N_of 32 = .ok (.getfield 155, 3) := by decide +kernel
theorem d_N_of_35 : decode b_N_of 35 = .ok (.ireturn, 1) := by decide +kernel
theorem d_N_of_36 : decode b_N_of 36 = .ok (.aload_n 0, 1) := by decide +kernel
theorem d_N_of_37 : decode b_N_of 37 = .ok (.getfield 12, 3) := by decide +kernel
theorem d_N_of_40 : decode b_N_of 40 = .ok (.getfield 55, 3) := by decide +kernel
theorem d_N_of_43 : decode b_N_of 43 = .ok (.ireturn, 1) := by decide +kernel
theorem d_N_of_44 : decode b_N_of 44 = .ok (.aload_n 0, 1) := by decide +kernel
theorem d_N_of_45 : decode b_N_of 45 = .ok (.getfield 12, 3) := by decide +kernel
theorem d_N_of_48 : decode b_N_of 48 = .ok (.invokevirtual 158, 3) := by decide +kernel
theorem d_N_of_51 : decode b_N_of 51 = .ok (.ireturn, 1) := by decide +kernel
theorem d_N_of_52 : decode b_N_of 52 = .ok (.bipush (-2), 2) := by decide +kernel
theorem d_N_of_54 : decode b_N_of 54 = .ok (.ireturn, 1) := by decide +kernel
theorem d_N_liesIn_0 : decode b_N_liesIn 0 = .ok (.iload_n 1, 1) := by decide +kernel
theorem d_N_liesIn_1 : decode b_N_liesIn 1 = .ok (.iload_n 0, 1) := by decide +kernel
theorem d_N_liesIn_2 : decode b_N_liesIn 2 = .ok (.if_icmp .gt 12, 3) := by decide +kernel
theorem d_N_liesIn_5 : decode b_N_liesIn 5 = .ok (.iload_n 0, 1) := by decide +kernel
theorem d_N_liesIn_6 : decode b_N_liesIn 6 = .ok (.iload_n 2, 1) := by decide +kernel
theorem d_N_liesIn_7 : decode b_N_liesIn 7 = .ok (.if_icmp .gt 7, 3) := by decide +kernel
theorem d_N_liesIn_10 : decode b_N_liesIn 10 = .ok (.iconst 1, 1) := by decide +kernel
theorem d_N_liesIn_11 : decode b_N_liesIn 11 = .ok (.goto 4, 3) := by decide +kernel
theorem d_N_liesIn_14 : decode b_N_liesIn 14 = .ok (.iconst 0, 1) := by decide +kernel
theorem d_N_liesIn_15 : decode b_N_liesIn 15 = .ok (.ireturn, 1) := by decide +kernel
theorem d_N_isWeight_0 : decode b_N_isWeight 0 = .ok (.iload_n 0, 1) := by decide +kernel
theorem d_N_isWeight_1 : decode b_N_isWeight 1 = .ok (.iconst 0, 1) := by decide +kernel
theorem d_N_isWeight_2 : decode b_N_isWeight 2 = .ok (.sipush 1000, 3) := by decide +kernel
theorem d_N_isWeight_5 : decode b_N_isWeight 5 = .ok (.invokestatic 94, 3) := by decide +kernel
theorem d_N_isWeight_8 : decode b_N_isWeight 8 = .ok (.ireturn, 1) := by decide +kernel
theorem d_B_init_0 : decode b_B_init 0 = .ok (.aload_n 0, 1) := by decide +kernel
theorem d_B_init_1 : decode b_B_init 1 = .ok (.invokespecial 3, 3) := by decide +kernel
theorem d_B_init_4 : decode b_B_init 4 = .ok (.aload_n 0, 1) := by decide +kernel
theorem d_B_init_5 : decode b_B_init 5 = .ok (.sipush 1458, 3) := by decide +kernel
theorem d_B_init_8 : decode b_B_init 8 = .ok (.newarray .int, 2) := by decide +kernel
theorem d_B_init_10 : decode b_B_init 10 = .ok (.putfield 9, 3) := by decide +kernel
theorem d_B_init_13 : decode b_B_init 13 = .ok (.aload_n 0, 1) := by decide +kernel
theorem d_B_init_14 : decode b_B_init 14 = .ok (.sipush 1458, 3) := by decide +kernel
theorem d_B_init_17 : decode b_B_init 17 = .ok (.newarray .int, 2) := by decide +kernel
theorem d_B_init_19 : decode b_B_init 19 = .ok (.putfield 15, 3) := by decide +kernel
theorem d_B_init_22 : decode b_B_init 22 = .ok (.return_, 1) := by decide +kernel
theorem d_B_empty_0 : decode b_B_empty 0 = .ok (.aload_n 0, 1) := by decide +kernel
theorem d_B_empty_1 : decode b_B_empty 1 = .ok (.iconst 0, 1) := by decide +kernel
theorem d_B_empty_2 : decode b_B_empty 2 = .ok (.putfield 18, 3) := by decide +kernel
theorem d_B_empty_5 : decode b_B_empty 5 = .ok (.return_, 1) := by decide +kernel
theorem d_B_offer_0 : decode b_B_offer 0 = .ok (.aload_n 0, 1) := by decide +kernel
theorem d_B_offer_1 : decode b_B_offer 1 = .ok (.getfield 18, 3) := by decide +kernel
theorem d_B_offer_4 : decode b_B_offer 4 = .ok (.ifCond .le 19, 3) := by decide +kernel
theorem d_B_offer_7 : decode b_B_offer 7 = .ok (.aload_n 0, 1) := by decide +kernel
theorem d_B_offer_8 : decode b_B_offer 8 = .ok (.getfield 15, 3) := by decide +kernel
theorem d_B_offer_11 : decode b_B_offer 11 = .ok (.aload_n 0, 1) := by decide +kernel
theorem d_B_offer_12 : decode b_B_offer 12 = .ok (.getfield 18, 3) := by decide +kernel
theorem d_B_offer_15 : decode b_B_offer 15 = .ok (.iconst 1, 1) := by decide +kernel
theorem d_B_offer_16 : decode b_B_offer 16 = .ok (.isub, 1) := by decide +kernel
theorem d_B_offer_17 : decode b_B_offer 17 = .ok (.iaload, 1) := by decide +kernel
theorem d_B_offer_18 : decode b_B_offer 18 = .ok (.iload_n 2, 1) := by decide +kernel
theorem d_B_offer_19 : decode b_B_offer 19 = .ok (.if_icmp .gt 4, 3) := by decide +kernel
theorem d_B_offer_22 : decode b_B_offer 22 = .ok (.return_, 1) := by decide +kernel
theorem d_B_offer_23 : decode b_B_offer 23 = .ok (.aload_n 0, 1) := by decide +kernel
theorem d_B_offer_24 : decode b_B_offer 24 = .ok (.getfield 18, 3) := by decide +kernel
theorem d_B_offer_27 : decode b_B_offer 27 = .ok (.ifCond .le 28, 3) := by decide +kernel
theorem d_B_offer_30 : decode b_B_offer 30 = .ok (.aload_n 0, 1) := by decide +kernel
theorem d_B_offer_31 : decode b_B_offer 31 = .ok (.getfield 9, 3) := by decide +kernel
theorem d_B_offer_34 : decode b_B_offer 34 = .ok (.aload_n 0, 1) := by decide +kernel
theorem d_B_offer_35 : decode b_B_offer 35 = .ok (.getfield 18, 3) := by decide +kernel
theorem d_B_offer_38 : decode b_B_offer 38 = .ok (.iconst 1, 1) := by decide +kernel
theorem d_B_offer_39 : decode b_B_offer 39 = .ok (.isub, 1) := by decide +kernel
theorem d_B_offer_40 : decode b_B_offer 40 = .ok (.iaload, 1) := by decide +kernel
theorem d_B_offer_41 : decode b_B_offer 41 = .ok (.iload_n 1, 1) := by decide +kernel
theorem d_B_offer_42 : decode b_B_offer 42 = .ok (.if_icmp .ne 13, 3) := by decide +kernel
theorem d_B_offer_45 : decode b_B_offer 45 = .ok (.aload_n 0, 1) := by decide +kernel
theorem d_B_offer_46 : decode b_B_offer 46 = .ok (.dup, 1) := by decide +kernel
theorem d_B_offer_47 : decode b_B_offer 47 = .ok (.getfield 18, 3) := by decide +kernel
theorem d_B_offer_50 : decode b_B_offer 50 = .ok (.iconst 1, 1) := by decide +kernel
theorem d_B_offer_51 : decode b_B_offer 51 = .ok (.isub, 1) := by decide +kernel
theorem d_B_offer_52 : decode b_B_offer 52 = .ok (.putfield 18, 3) := by decide +kernel
theorem d_B_offer_55 : decode b_B_offer 55 = .ok (.aload_n 0, 1) := by decide +kernel
theorem d_B_offer_56 : decode b_B_offer 56 = .ok (.getfield 18, 3) := by decide +kernel
theorem d_B_offer_59 : decode b_B_offer 59 = .ok (.sipush 1458, 3) := by decide +kernel
theorem d_B_offer_62 : decode b_B_offer 62 = .ok (.if_icmp .ge 33, 3) := by decide +kernel
theorem d_B_offer_65 : decode b_B_offer 65 = .ok (.aload_n 0, 1) := by decide +kernel
theorem d_B_offer_66 : decode b_B_offer 66 = .ok (.getfield 9, 3) := by decide +kernel
theorem d_B_offer_69 : decode b_B_offer 69 = .ok (.aload_n 0, 1) := by decide +kernel
theorem d_B_offer_70 : decode b_B_offer 70 = .ok (.getfield 18, 3) := by decide +kernel
theorem d_B_offer_73 : decode b_B_offer 73 = .ok (.iload_n 1, 1) := by decide +kernel
theorem d_B_offer_74 : decode b_B_offer 74 = .ok (.iastore, 1) := by decide +kernel
theorem d_B_offer_75 : decode b_B_offer 75 = .ok (.aload_n 0, 1) := by decide +kernel
theorem d_B_offer_76 : decode b_B_offer 76 = .ok (.getfield 15, 3) := by decide +kernel
theorem d_B_offer_79 : decode b_B_offer 79 = .ok (.aload_n 0, 1) := by decide +kernel
theorem d_B_offer_80 : decode b_B_offer 80 = .ok (.getfield 18, 3) := by decide +kernel
theorem d_B_offer_83 : decode b_B_offer 83 = .ok (.iload_n 2, 1) := by decide +kernel
theorem d_B_offer_84 : decode b_B_offer 84 = .ok (.iastore, 1) := by decide +kernel
theorem d_B_offer_85 : decode b_B_offer 85 = .ok (.aload_n 0, 1) := by decide +kernel
theorem d_B_offer_86 : decode b_B_offer 86 = .ok (.dup, 1) := by decide +kernel
theorem d_B_offer_87 : decode b_B_offer 87 = .ok (.getfield 18, 3) := by decide +kernel
theorem d_B_offer_90 : decode b_B_offer 90 = .ok (.iconst 1, 1) := by decide +kernel
theorem d_B_offer_91 : decode b_B_offer 91 = .ok (.iadd, 1) := by decide +kernel
theorem d_B_offer_92 : decode b_B_offer 92 = .ok (.putfield 18, 3) := by decide +kernel
theorem d_B_offer_95 : decode b_B_offer 95 = .ok (.return_, 1) := by decide +kernel
theorem d_F_init_0 : decode b_F_init 0 = .ok (.aload_n 0, 1) := by decide +kernel
theorem d_F_init_1 : decode b_F_init 1 = .ok (.invokespecial 3, 3) := by decide +kernel
theorem d_F_init_4 : decode b_F_init 4 = .ok (.aload_n 0, 1) := by decide +kernel
theorem d_F_init_5 : decode b_F_init 5 = .ok (.bipush 56, 2) := by decide +kernel
theorem d_F_init_7 : decode b_F_init 7 = .ok (.newarray .int, 2) := by decide +kernel
theorem d_F_init_9 : decode b_F_init 9 = .ok (.putfield 11, 3) := by decide +kernel
theorem d_F_init_12 : decode b_F_init 12 = .ok (.aload_n 0, 1) := by decide +kernel
theorem d_F_init_13 : decode b_F_init 13 = .ok (.bipush 56, 2) := by decide +kernel
theorem d_F_init_15 : decode b_F_init 15 = .ok (.newarray .int, 2) := by decide +kernel
theorem d_F_init_17 : decode b_F_init 17 = .ok (.putfield 15, 3) := by decide +kernel
theorem d_F_init_20 : decode b_F_init 20 = .ok (.aload_n 0, 1) := by decide +kernel
theorem d_F_init_21 : decode b_F_init 21 = .ok (.bipush 56, 2) := by decide +kernel
theorem d_F_init_23 : decode b_F_init 23 = .ok (.newarray .int, 2) := by decide +kernel
theorem d_F_init_25 : decode b_F_init 25 = .ok (.putfield 18, 3) := by decide +kernel
theorem d_F_init_28 : decode b_F_init 28 = .ok (.aload_n 0, 1) := by decide +kernel
theorem d_F_init_29 : decode b_F_init 29 = .ok (.bipush 56, 2) := by decide +kernel
theorem d_F_init_31 : decode b_F_init 31 = .ok (.newarray .int, 2) := by decide +kernel
theorem d_F_init_33 : decode b_F_init 33 = .ok (.putfield 21, 3) := by decide +kernel
theorem d_F_init_36 : decode b_F_init 36 = .ok (.aload_n 0, 1) := by decide +kernel
theorem d_F_init_37 : decode b_F_init 37 = .ok (.bipush 16, 2) := by decide +kernel
theorem d_F_init_39 : decode b_F_init 39 = .ok (.newarray .int, 2) := by decide +kernel
theorem d_F_init_41 : decode b_F_init 41 = .ok (.putfield 24, 3) := by decide +kernel
theorem d_F_init_44 : decode b_F_init 44 = .ok (.aload_n 0, 1) := by decide +kernel
theorem d_F_init_45 : decode b_F_init 45 = .ok (.bipush 16, 2) := by decide +kernel
theorem d_F_init_47 : decode b_F_init 47 = .ok (.newarray .int, 2) := by decide +kernel
theorem d_F_init_49 : decode b_F_init 49 = .ok (.putfield 27, 3) := by decide +kernel
theorem d_F_init_52 : decode b_F_init 52 = .ok (.aload_n 0, 1) := by decide +kernel
theorem d_F_init_53 : decode b_F_init 53 = .ok (.aload_n 1, 1) := by decide +kernel
theorem d_F_init_54 : decode b_F_init 54 = .ok (.putfield 30, 3) := by decide +kernel
theorem d_F_init_57 : decode b_F_init 57 = .ok (.return_, 1) := by decide +kernel
theorem d_F_entry_0 : decode b_F_entry 0 = .ok (.iconst 2, 1) := by decide +kernel
theorem d_F_entry_1 : decode b_F_entry 1 = .ok (.iload_n 0, 1) := by decide +kernel
theorem d_F_entry_2 : decode b_F_entry 2 = .ok (.imul, 1) := by decide +kernel
theorem d_F_entry_3 : decode b_F_entry 3 = .ok (.ireturn, 1) := by decide +kernel
theorem d_F_exit_0 : decode b_F_exit 0 = .ok (.iconst 2, 1) := by decide +kernel
theorem d_F_exit_1 : decode b_F_exit 1 = .ok (.iload_n 0, 1) := by decide +kernel
theorem d_F_exit_2 : decode b_F_exit 2 = .ok (.imul, 1) := by decide +kernel
theorem d_F_exit_3 : decode b_F_exit 3 = .ok (.iconst 1, 1) := by decide +kernel
theorem d_F_exit_4 : decode b_F_exit 4 = .ok (.iadd, 1) := by decide +kernel
theorem d_F_exit_5 : decode b_F_exit 5 = .ok (.ireturn, 1) := by decide +kernel
theorem d_F_prepare_0 : decode b_F_prepare 0 = .ok (.aload_n 0, 1) := by decide +kernel
theorem d_F_prepare_1 : decode b_F_prepare 1 = .ok (.iconst 0, 1) := by decide +kernel
theorem d_F_prepare_2 : decode b_F_prepare 2 = .ok (.putfield 34, 3) := by decide +kernel
theorem d_F_prepare_5 : decode b_F_prepare 5 = .ok (.aload_n 0, 1) := by decide +kernel
theorem d_F_prepare_6 : decode b_F_prepare 6 = .ok (.iload_n 1, 1) := by decide +kernel
theorem d_F_prepare_7 : decode b_F_prepare 7 = .ok (.invokestatic 38, 3) := by decide +kernel
theorem d_F_prepare_10 : decode b_F_prepare 10 = .ok (.putfield 42, 3) := by decide +kernel
theorem d_F_prepare_13 : decode b_F_prepare 13 = .ok (.aload_n 0, 1) := by decide +kernel
theorem d_F_prepare_14 : decode b_F_prepare 14 = .ok (.iload_n 2, 1) := by decide +kernel
theorem d_F_prepare_15 : decode b_F_prepare 15 = .ok (.invokestatic 45, 3) := by decide +kernel
theorem d_F_prepare_18 : decode b_F_prepare 18 = .ok (.putfield 48, 3) := by decide +kernel
theorem d_F_prepare_21 : decode b_F_prepare 21 = .ok (.iconst 0, 1) := by decide +kernel
theorem d_F_prepare_22 : decode b_F_prepare 22 = .ok (.istore 4, 2) := by decide +kernel
theorem d_F_prepare_24 : decode b_F_prepare 24 = .ok (.iload 4, 2) := by decide +kernel
theorem d_F_prepare_26 : decode b_F_prepare 26 = .ok (.aload_n 0, 1) := by decide +kernel
theorem d_F_prepare_27 : decode b_F_prepare 27 = .ok (.getfield 30, 3) := by decide +kernel
theorem d_F_prepare_30 : decode b_F_prepare 30 = .ok (.getfield 51, 3) := by decide +kernel
theorem d_F_prepare_33 : decode b_F_prepare 33 = .ok (.if_icmp .ge 63, 3) := by decide +kernel
theorem d_F_prepare_36 : decode b_F_prepare 36 = .ok (.aload_n 0, 1) := by decide +kernel
theorem d_F_prepare_37 : decode b_F_prepare 37 = .ok (.getfield 30, 3) := by decide +kernel
theorem d_F_prepare_40 : decode b_F_prepare 40 = .ok (.getfield 56, 3) := by decide +kernel
theorem d_F_prepare_43 : decode b_F_prepare 43 = .ok (.iload 4, 2) := by decide +kernel
theorem d_F_prepare_45 : decode b_F_prepare 45 = .ok (.baload, 1) := by decide +kernel
theorem d_F_prepare_46 : decode b_F_prepare 46 = .ok (.ifCond .ne 44, 3) := by decide +kernel
theorem d_F_prepare_49 : decode b_F_prepare 49 = .ok (.aload_n 0, 1) := by decide +kernel
theorem d_F_prepare_50 : decode b_F_prepare 50 = .ok (.aload_n 0, 1) := by decide +kernel
theorem d_F_prepare_51 : decode b_F_prepare 51 = .ok (.getfield 30, 3) := by decide +kernel
theorem d_F_prepare_54 : decode b_F_prepare 54 = .ok (.getfield 60, 3) := by decide +kernel
theorem d_F_prepare_57 : decode b_F_prepare 57 = .ok (.iload 4, 2) := by decide +kernel
theorem d_F_prepare_59 : decode b_F_prepare 59 = .ok (.iaload, 1) := by decide +kernel
theorem d_F_prepare_60 : decode b_F_prepare 60 = .ok (.invokestatic 38, 3) := by decide +kernel
theorem d_F_prepare_63 : decode b_F_prepare 63 = .ok (.aload_n 0, 1) := by decide +kernel
theorem d_F_prepare_64 : decode b_F_prepare 64 = .ok (.getfield 30, 3) := by decide +kernel
theorem d_F_prepare_67 : decode b_F_prepare 67 = .ok (.getfield 63, 3) := by decide +kernel
theorem d_F_prepare_70 : decode b_F_prepare 70 = .ok (.iload 4, 2) := by decide +kernel
theorem d_F_prepare_72 : decode b_F_prepare 72 = .ok (.iaload, 1) := by decide +kernel
theorem d_F_prepare_73 : decode b_F_prepare 73 = .ok (.invokestatic 45, 3) := by decide +kernel
theorem d_F_prepare_76 : decode b_F_prepare 76 = .ok (.aload_n 0, 1) := by decide +kernel
theorem d_F_prepare_77 : decode b_F_prepare 77 = .ok (.getfield 30, 3) := by decide +kernel
theorem d_F_prepare_80 : decode b_F_prepare 80 = .ok (.getfield 66, 3) := by decide +kernel
theorem d_F_prepare_83 : decode b_F_prepare 83 = .ok (.iload 4, 2) := by decide +kernel
theorem d_F_prepare_85 : decode b_F_prepare 85 = .ok (.iaload, 1) := by decide +kernel
theorem d_F_prepare_86 : decode b_F_prepare 86 = .ok (.iconst 1, 1) := by decide +kernel
theorem d_F_prepare_87 : decode b_F_prepare 87 = .ok (.invokevirtual 69, 3) := by decide +kernel
theorem d_F_prepare_90 : decode b_F_prepare 90 = .ok (.iinc 4 1, 3) := by decide +kernel
theorem d_F_prepare_93 : decode b_F_prepare 93 = .ok (.goto (-69), 3) := by decide +kernel
theorem d_F_prepare_96 : decode b_F_prepare 96 = .ok (.iconst 0, 1) := by decide +kernel
theorem d_F_prepare_97 : decode b_F_prepare 97 = .ok (.istore 4, 2) := by decide +kernel
theorem d_F_prepare_99 : decode b_F_prepare 99 = .ok (.iload 4, 2) := by decide +kernel
theorem d_F_prepare_101 : decode b_F_prepare 101 = .ok (.aload_n 0, 1) := by decide +kernel
theorem d_F_prepare_102 : decode b_F_prepare 102 = .ok (.getfield 30, 3) := by decide +kernel
theorem d_F_prepare_105 : decode b_F_prepare 105 = .ok (.getfield 73, 3) := by decide +kernel
theorem d_F_prepare_108 : decode b_F_prepare 108 = .ok (.if_icmp .ge 46, 3) := by decide +kernel
theorem d_F_prepare_111 : decode b_F_prepare 111 = .ok (.iload 4, 2) := by decide +kernel
theorem d_F_prepare_113 : decode b_F_prepare 113 = .ok (.iload_n 1, 1) := by decide +kernel
theorem d_F_prepare_114 : decode b_F_prepare 114 = .ok (.if_icmp .eq 34, 3) := by decide +kernel
theorem d_F_prepare_117 : decode b_F_prepare 117 = .ok (.iload 4, 2) := by decide +kernel
theorem d_F_prepare_119 : decode b_F_prepare 119 = .ok (.iload_n 2, 1) := by decide +kernel
theorem d_F_prepare_120 : decode b_F_prepare 120 = .ok (.if_icmp .eq 28, 3) := by decide +kernel
theorem d_F_prepare_123 : decode b_F_prepare 123 = .ok (.aload_n 0, 1) := by decide +kernel
theorem d_F_prepare_124 : decode b_F_prepare 124 = .ok (.iload 4, 2) := by decide +kernel
theorem d_F_prepare_126 : decode b_F_prepare 126 = .ok (.invokestatic 45, 3) := by decide +kernel
theorem d_F_prepare_129 : decode b_F_prepare 129 = .ok (.iload 4, 2) := by decide +kernel
theorem d_F_prepare_131 : decode b_F_prepare 131 = .ok (.invokestatic 38, 3) := by decide +kernel
theorem d_F_prepare_134 : decode b_F_prepare 134 = .ok (.iconst 0, 1) := by decide +kernel
theorem d_F_prepare_135 : decode b_F_prepare 135 = .ok (.iload_n 3, 1) := by decide +kernel
theorem d_F_prepare_136 : decode b_F_prepare 136 = .ok (.ifCond .eq 7, 3) := by decide +kernel
theorem d_F_prepare_139 : decode b_F_prepare 139 = .ok (.iconst 1, 1) := by decide +kernel
theorem d_F_prepare_140 : decode b_F_prepare 140 = .ok (.goto 5, 3) := by decide +kernel
theorem d_F_prepare_143 : decode b_F_prepare 143 = .ok (.bipush 20, 2) := by decide +kernel
theorem d_F_prepare_145 : decode b_F_prepare 145 = .ok (.invokevirtual 69, 3) := by decide +kernel
theorem d_F_prepare_148 : decode b_F_prepare 148 = .ok (.iinc 4 1, 3) := by decide +kernel
theorem d_F_prepare_151 : decode b_F_prepare 151 = .ok (.goto (-52), 3) := by decide +kernel
theorem d_F_prepare_154 : decode b_F_prepare 154 = .ok (.return_, 1) := by decide +kernel
theorem d_F_addEdge_0 : decode b_F_addEdge 0 = .ok (.aload_n 0, 1) := by decide +kernel
theorem d_F_addEdge_1 : decode b_F_addEdge 1 = .ok (.getfield 34, 3) := by decide +kernel
theorem d_F_addEdge_4 : decode b_F_addEdge 4 = .ok (.iconst 2, 1) := by decide +kernel
theorem d_F_addEdge_5 : decode b_F_addEdge 5 = .ok (.iadd, 1) := by decide +kernel
theorem d_F_addEdge_6 : decode b_F_addEdge 6 = .ok (.bipush 56, 2) := by decide +kernel
theorem d_F_addEdge_8 : decode b_F_addEdge 8 = .ok (.if_icmp .le 4, 3) := by decide +kernel
theorem d_F_addEdge_11 : decode b_F_addEdge 11 = .ok (.return_, 1) := by decide +kernel
theorem d_F_addEdge_12 : decode b_F_addEdge 12 = .ok (.aload_n 0, 1) := by decide +kernel
theorem d_F_addEdge_13 : decode b_F_addEdge 13 = .ok (.aload_n 0, 1) := by decide +kernel
theorem d_F_addEdge_14 : decode b_F_addEdge 14 = .ok (.getfield 34, 3) := by decide +kernel
theorem d_F_addEdge_17 : decode b_F_addEdge 17 = .ok (.iload_n 1, 1) := by decide +kernel
theorem d_F_addEdge_18 : decode b_F_addEdge 18 = .ok (.iload_n 2, 1) := by decide +kernel
theorem d_F_addEdge_19 : decode b_F_addEdge 19 = .ok (.iload_n 3, 1) := by decide +kernel
theorem d_F_addEdge_20 : decode b_F_addEdge 20 = .ok (.iload 4, 2) := by decide +kernel
theorem d_F_addEdge_22 : decode b_F_addEdge 22 = .ok (.invokevirtual 76, 3) := by decide +kernel
theorem d_F_addEdge_25 : decode b_F_addEdge 25 = .ok (.aload_n 0, 1) := by decide +kernel
theorem d_F_addEdge_26 : decode b_F_addEdge 26 = .ok (.aload_n 0, 1) := by decide +kernel
theorem d_F_addEdge_27 : decode b_F_addEdge 27 = .ok (.getfield 34, 3) := by decide +kernel
theorem d_F_addEdge_30 : decode b_F_addEdge 30 = .ok (.iconst 1, 1) := by decide +kernel
theorem d_F_addEdge_31 : decode b_F_addEdge 31 = .ok (.iadd, 1) := by decide +kernel
theorem d_F_addEdge_32 : decode b_F_addEdge 32 = .ok (.iload_n 2, 1) := by decide +kernel
theorem d_F_addEdge_33 : decode b_F_addEdge 33 = .ok (.iload_n 1, 1) := by decide +kernel
theorem d_F_addEdge_34 : decode b_F_addEdge 34 = .ok (.iload_n 3, 1) := by decide +kernel
theorem d_F_addEdge_35 : decode b_F_addEdge 35 = .ok (.ineg, 1) := by decide +kernel
theorem d_F_addEdge_36 : decode b_F_addEdge 36 = .ok (.iconst 0, 1) := by decide +kernel
theorem d_F_addEdge_37 : decode b_F_addEdge 37 = .ok (.invokevirtual 76, 3) := by decide +kernel
theorem d_F_addEdge_40 : decode b_F_addEdge 40 = .ok (.aload_n 0, 1) := by decide +kernel
theorem d_F_addEdge_41 : decode b_F_addEdge 41 = .ok (.dup, 1) := by decide +kernel
theorem d_F_addEdge_42 : decode b_F_addEdge 42 = .ok (.getfield 34, 3) := by decide +kernel
theorem d_F_addEdge_45 : decode b_F_addEdge 45 = .ok (.iconst 2, 1) := by decide +kernel
theorem d_F_addEdge_46 : decode b_F_addEdge 46 = .ok (.iadd, 1) := by decide +kernel
theorem d_F_addEdge_47 : decode b_F_addEdge 47 = .ok (.putfield 34, 3) := by decide +kernel
theorem d_F_addEdge_50 : decode b_F_addEdge 50 = .ok (.return_, 1) := by decide +kernel
theorem d_F_setEdge_0 : decode b_F_setEdge 0 = .ok (.aload_n 0, 1) := by decide +kernel
theorem d_F_setEdge_1 : decode b_F_setEdge 1 = .ok (.getfield 11, 3) := by decide +kernel
theorem d_F_setEdge_4 : decode b_F_setEdge 4 = .ok (.iload_n 1, 1) := by decide +kernel
theorem d_F_setEdge_5 : decode b_F_setEdge 5 = .ok (.iload_n 2, 1) := by decide +kernel
theorem d_F_setEdge_6 : decode b_F_setEdge 6 = .ok (.iastore, 1) := by decide +kernel
theorem d_F_setEdge_7 : decode b_F_setEdge 7 = .ok (.aload_n 0, 1) := by decide +kernel
theorem d_F_setEdge_8 : decode b_F_setEdge 8 = .ok (.getfield 15, 3) := by decide +kernel
theorem d_F_setEdge_11 : decode b_F_setEdge 11 = .ok (.iload_n 1, 1) := by decide +kernel
theorem d_F_setEdge_12 : decode b_F_setEdge 12 = .ok (.iload_n 3, 1) := by decide +kernel
theorem d_F_setEdge_13 : decode b_F_setEdge 13 = .ok (.iastore, 1) := by decide +kernel
theorem d_F_setEdge_14 : decode b_F_setEdge 14 = .ok (.aload_n 0, 1) := by decide +kernel
theorem d_F_setEdge_15 : decode b_F_setEdge 15 = .ok (.getfield 18, 3) := by decide +kernel
theorem d_F_setEdge_18 : decode b_F_setEdge 18 = .ok (.iload_n 1, 1) := by decide +kernel
theorem d_F_setEdge_19 : decode b_F_setEdge 19 = .ok (.iload 4, 2) := by decide +kernel
theorem d_F_setEdge_21 : decode b_F_setEdge 21 = .ok (.iastore, 1) := by decide +kernel
theorem d_F_setEdge_22 : decode b_F_setEdge 22 = .ok (.aload_n 0, 1) := by decide +kernel
theorem d_F_setEdge_23 : decode b_F_setEdge 23 = .ok (.getfield 21, 3) := by decide +kernel
theorem d_F_setEdge_26 : decode b_F_setEdge 26 = .ok (.iload_n 1, 1) := by decide +kernel
theorem d_F_setEdge_27 : decode b_F_setEdge 27 = .ok (.iload 5, 2) := by decide +kernel
theorem d_F_setEdge_29 : decode b_F_setEdge 29 = .ok (.iastore, 1) := by decide +kernel
theorem d_F_setEdge_30 : decode b_F_setEdge 30 = .ok (.return_, 1) := by decide +kernel
theorem d_F_addPath_0 : decode b_F_addPath 0 = .ok (.aload_n 0, 1) := by decide +kernel
theorem d_F_addPath_1 : decode b_F_addPath 1 = .ok (.invokevirtual 80, 3) := by decide +kernel
theorem d_F_addPath_4 : decode b_F_addPath 4 = .ok (.aload_n 0, 1) := by decide +kernel
theorem d_F_addPath_5 : decode b_F_addPath 5 = .ok (.getfield 24, 3) := by decide +kernel
theorem d_F_addPath_8 : decode b_F_addPath 8 = .ok (.aload_n 0, 1) := by decide +kernel
theorem d_F_addPath_9 : decode b_F_addPath 9 = .ok (.getfield 48, 3) := by decide +kernel
theorem d_F_addPath_12 : decode b_F_addPath 12 = .ok (.iaload, 1) := by decide +kernel
theorem d_F_addPath_13 : decode b_F_addPath 13 = .ok (.ldc 83, 2) := by decide +kernel
theorem d_F_addPath_15 : decode b_F_addPath 15 = .ok (.if_icmp .lt 5, 3) := by decide +kernel
theorem d_F_addPath_18 : decode b_F_addPath 18 = .ok (.iconst (-1), 1) := by decide +kernel
theorem d_F_addPath_19 : decode b_F_addPath 19 = .ok (.ireturn, 1) := by decide +kernel
theorem d_F_addPath_20 : decode b_F_addPath 20 = .ok (.aload_n 0, 1) := by decide +kernel
theorem d_F_addPath_21 : decode b_F_addPath 21 = .ok (.getfield 48, 3) := by decide +kernel
theorem d_F_addPath_24 : decode b_F_addPath 24 = .ok (.istore_n 1, 1) := by decide +kernel
theorem d_F_addPath_25 : decode b_F_addPath 25 = .ok (.iconst 0, 1) := by decide +kernel
theorem d_F_addPath_26 : decode b_F_addPath 26 = .ok (.istore_n 2, 1) := by decide +kernel
theorem d_F_addPath_27 : decode b_F_addPath 27 = .ok (.iload_n 2, 1) := by decide +kernel
theorem d_F_addPath_28 : decode b_F_addPath 28 = .ok (.bipush 16, 2) := by decide +kernel
theorem d_F_addPath_30 : decode b_F_addPath 30 = .ok (.if_icmp .ge 53, 3) := by decide +kernel
theorem d_F_addPath_33 : decode b_F_addPath 33 = .ok (.iload_n 1, 1) := by decide +kernel
theorem d_F_addPath_34 : decode b_F_addPath 34 = .ok (.aload_n 0, 1) := by decide +kernel
theorem d_F_addPath_35 : decode b_F_addPath 35 = .ok (.getfield 42, 3) := by decide +kernel
theorem d_F_addPath_38 : decode b_F_addPath 38 = .ok (.if_icmp .eq 45, 3) := by decide +kernel
theorem d_F_addPath_41 : decode b_F_addPath 41 = .ok (.aload_n 0, 1) := by decide +kernel
theorem d_F_addPath_42 : decode b_F_addPath 42 = .ok (.getfield 27, 3) := by decide +kernel
theorem d_F_addPath_45 : decode b_F_addPath 45 = .ok (.iload_n 1, 1) := by decide +kernel
theorem d_F_addPath_46 : decode b_F_addPath 46 = .ok (.iaload, 1) := by decide +kernel
theorem d_F_addPath_47 : decode b_F_addPath 47 = .ok (.istore_n 3, 1) := by decide +kernel
theorem d_F_addPath_48 : decode b_F_addPath 48 = .ok (.aload_n 0, 1) := by decide +kernel
theorem d_F_addPath_49 : decode b_F_addPath 49 = .ok (.getfield 21, 3) := by decide +kernel
theorem d_F_addPath_52 : decode b_F_addPath 52 = .ok (.iload_n 3, 1) := by decide +kernel
theorem d_F_addPath_53 : decode b_F_addPath 53 = .ok (.dup2, 1) := by decide +kernel
theorem d_F_addPath_54 : decode b_F_addPath 54 = .ok (.iaload, 1) := by decide +kernel
theorem d_F_addPath_55 : decode b_F_addPath 55 = .ok (.iconst 1, 1) := by decide +kernel
theorem d_F_addPath_56 : decode b_F_addPath 56 = .ok (.isub, 1) := by decide +kernel
theorem d_F_addPath_57 : decode b_F_addPath 57 = .ok (.iastore, 1) := by decide +kernel
theorem d_F_addPath_58 : decode b_F_addPath 58 = .ok (.aload_n 0, 1) := by decide +kernel
theorem d_F_addPath_59 : decode b_F_addPath 59 = .ok (.getfield 21, 3) := by decide +kernel
theorem d_F_addPath_62 : decode b_F_addPath 62 = .ok (.iload_n 3, 1) := by decide +kernel
theorem d_F_addPath_63 : decode b_F_addPath 63 = .ok (.iconst 1, 1) := by decide +kernel
theorem d_F_addPath_64 : decode b_F_addPath 64 = .ok (.ixor, 1) := by decide +kernel
theorem d_F_addPath_65 : decode b_F_addPath 65 = .ok (.dup2, 1) := by decide +kernel
theorem d_F_addPath_66 : decode b_F_addPath 66 = .ok (.iaload, 1) := by decide +kernel
theorem d_F_addPath_67 : decode b_F_addPath 67 = .ok (.iconst 1, 1) := by decide +kernel
theorem d_F_addPath_68 : decode b_F_addPath 68 = .ok (.iadd, 1) := by decide +kernel
theorem d_F_addPath_69 : decode b_F_addPath 69 = .ok (.iastore, 1) := by decide +kernel
theorem d_F_addPath_70 : decode b_F_addPath 70 = .ok (.aload_n 0, 1) := by decide +kernel
theorem d_F_addPath_71 : decode b_F_addPath 71 = .ok (.getfield 11, 3) := by decide +kernel
theorem d_F_addPath_74 : decode b_F_addPath 74 = .ok (.iload_n 3, 1) := by decide +kernel
theorem d_F_addPath_75 : decode b_F_addPath 75 = .ok (.iaload, 1) := by decide +kernel
theorem d_F_addPath_76 : decode b_F_addPath 76 = .ok (.istore_n 1, 1) := by decide +kernel
theorem d_F_addPath_77 : decode b_F_addPath 77 = .ok (.iinc 2 1, 3) := by decide +kernel
theorem d_F_addPath_80 : decode b_F_addPath 80 = .ok (.goto (-53), 3) := by decide +kernel
theorem d_F_addPath_83 : decode b_F_addPath 83 = .ok (.aload_n 0, 1) := by decide +kernel
theorem d_F_addPath_84 : decode b_F_addPath 84 = .ok (.getfield 24, 3) := by decide +kernel
theorem d_F_addPath_87 : decode b_F_addPath 87 = .ok (.aload_n 0, 1) := by decide +kernel
theorem d_F_addPath_88 : decode b_F_addPath 88 = .ok (.getfield 48, 3) := by decide +kernel
theorem d_F_addPath_91 : decode b_F_addPath 91 = .ok (.iaload, 1) := by decide +kernel
theorem d_F_addPath_92 : decode b_F_addPath 92 = .ok (.ireturn, 1) := by decide +kernel
theorem d_F_measure_0 : decode b_F_measure 0 = .ok (.aload_n 0, 1) := by decide +kernel
theorem d_F_measure_1 : decode b_F_measure 1 = .ok (.getfield 24, 3) := by decide +kernel
theorem d_F_measure_4 : decode b_F_measure 4 = .ok (.ldc 83, 2) := by decide +kernel
theorem d_F_measure_6 : decode b_F_measure 6 = .ok (.invokestatic 84, 3) := by decide +kernel
theorem d_F_measure_9 : decode b_F_measure 9 = .ok (.aload_n 0, 1) := by decide +kernel
theorem d_F_measure_10 : decode b_F_measure 10 = .ok (.getfield 24, 3) := by decide +kernel
theorem d_F_measure_13 : decode b_F_measure 13 = .ok (.aload_n 0, 1) := by decide +kernel
theorem d_F_measure_14 : decode b_F_measure 14 = .ok (.getfield 42, 3) := by decide +kernel
theorem d_F_measure_17 : decode b_F_measure 17 = .ok (.iconst 0, 1) := by decide +kernel
theorem d_F_measure_18 : decode b_F_measure 18 = .ok (.iastore, 1) := by decide +kernel
theorem d_F_measure_19 : decode b_F_measure 19 = .ok (.iconst 1, 1) := by decide +kernel
theorem d_F_measure_20 : decode b_F_measure 20 = .ok (.istore_n 1, 1) := by decide +kernel
theorem d_F_measure_21 : decode b_F_measure 21 = .ok (.iconst 0, 1) := by decide +kernel
theorem d_F_measure_22 : decode b_F_measure 22 = .ok (.istore_n 2, 1) := by decide +kernel
theorem d_F_measure_23 : decode b_F_measure 23 = .ok (.iload_n 2, 1) := by decide +kernel
theorem d_F_measure_24 : decode b_F_measure 24 = .ok (.bipush 16, 2) := by decide +kernel
theorem d_F_measure_26 : decode b_F_measure 26 = .ok (.if_icmp .ge 39, 3) := by decide +kernel
theorem d_F_measure_29 : decode b_F_measure 29 = .ok (.iload_n 1, 1) := by decide +kernel
theorem d_F_measure_30 : decode b_F_measure 30 = .ok (.ifCond .eq 35, 3) := by decide +kernel
theorem d_F_measure_33 : decode b_F_measure 33 = .ok (.iconst 0, 1) := by decide +kernel
theorem d_F_measure_34 : decode b_F_measure 34 = .ok (.istore_n 1, 1) := by decide +kernel
theorem d_F_measure_35 : decode b_F_measure 35 = .ok (.iconst 0, 1) := by decide +kernel
theorem d_F_measure_36 : decode b_F_measure 36 = .ok (.istore_n 3, 1) := by decide +kernel
theorem d_F_measure_37 : decode b_F_measure 37 = .ok (.iload_n 3, 1) := by decide +kernel
theorem d_F_measure_38 : decode b_F_measure 38 = .ok (.aload_n 0, 1) := by decide +kernel
theorem d_F_measure_39 : decode b_F_measure 39 = .ok (.getfield 34, 3) := by decide +kernel
theorem d_F_measure_42 : decode b_F_measure 42 = .ok (.if_icmp .ge 17, 3) := by decide +kernel
theorem d_F_measure_45 : decode b_F_measure 45 = .ok (.iload_n 1, 1) := by decide +kernel
theorem d_F_measure_46 : decode b_F_measure 46 = .ok (.aload_n 0, 1) := by decide +kernel
theorem d_F_measure_47 : decode b_F_measure 47 = .ok (.iload_n 3, 1) := by decide +kernel
theorem d_F_measure_48 : decode b_F_measure 48 = .ok (.invokevirtual 90, 3) := by decide +kernel
theorem d_F_measure_51 : decode b_F_measure 51 = .ok (.ior, 1) := by decide +kernel
theorem d_F_measure_52 : decode b_F_measure 52 = .ok (.istore_n 1, 1) := by decide +kernel
theorem d_F_measure_53 : decode b_F_measure 53 = .ok (.iinc 3 1, 3) := by decide +kernel
theorem d_F_measure_56 : decode b_F_measure 56 = .ok (.goto (-19), 3) := by decide +kernel
theorem d_F_measure_59 : decode b_F_measure 59 = .ok (.iinc 2 1, 3) := by decide +kernel
theorem d_F_measure_62 : decode b_F_measure 62 = .ok (.goto (-39), 3) := by decide +kernel
theorem d_F_measure_65 : decode b_F_measure 65 = .ok (.return_, 1) := by decide +kernel
theorem d_F_tryEdge_0 : decode b_F_tryEdge 0 = .ok (.aload_n 0, 1) := by decide +kernel
theorem d_F_tryEdge_1 : decode b_F_tryEdge 1 = .ok (.getfield 11, 3) := by decide +kernel
theorem d_F_tryEdge_4 : decode b_F_tryEdge 4 = .ok (.iload_n 1, 1) := by decide +kernel
theorem d_F_tryEdge_5 : decode b_F_tryEdge 5 = .ok (.iaload, 1) := by decide +kernel
theorem d_F_tryEdge_6 : decode b_F_tryEdge 6 = .ok (.istore_n 2, 1) := by decide +kernel
theorem d_F_tryEdge_7 : decode b_F_tryEdge 7 = .ok (.aload_n 0, 1) := by decide +kernel
theorem d_F_tryEdge_8 : decode b_F_tryEdge 8 = .ok (.getfield 15, 3) := by decide +kernel
theorem d_F_tryEdge_11 : decode b_F_tryEdge 11 = .ok (.iload_n 1, 1) := by decide +kernel
theorem d_F_tryEdge_12 : decode b_F_tryEdge 12 = .ok (.iaload, 1) := by decide +kernel
theorem d_F_tryEdge_13 : decode b_F_tryEdge 13 = .ok (.istore_n 3, 1) := by decide +kernel
theorem d_F_tryEdge_14 : decode b_F_tryEdge 14 = .ok (.aload_n 0, 1) := by decide +kernel
theorem d_F_tryEdge_15 : decode b_F_tryEdge 15 = .ok (.getfield 21, 3) := by decide +kernel
theorem d_F_tryEdge_18 : decode b_F_tryEdge 18 = .ok (.iload_n 1, 1) := by decide +kernel
theorem d_F_tryEdge_19 : decode b_F_tryEdge 19 = .ok (.iaload, 1) := by decide +kernel
theorem d_F_tryEdge_20 : decode b_F_tryEdge 20 = .ok (.ifCond .le 36, 3) := by decide +kernel
theorem d_F_tryEdge_23 : decode b_F_tryEdge 23 = .ok (.aload_n 0, 1) := by decide +kernel
theorem d_F_tryEdge_24 : decode b_F_tryEdge 24 = .ok (.getfield 24, 3) := by decide +kernel
theorem d_F_tryEdge_27 : decode b_F_tryEdge 27 = .ok (.iload_n 2, 1) := by decide +kernel
theorem d_F_tryEdge_28 : decode b_F_tryEdge 28 = .ok (.iaload, 1) := by decide +kernel
theorem d_F_tryEdge_29 : decode b_F_tryEdge 29 = .ok (.ldc 83, 2) := by decide +kernel
theorem d_F_tryEdge_31 : decode b_F_tryEdge 31 = .ok (.if_icmp .ge 25, 3) := by decide +kernel
theorem d_F_tryEdge_34 : decode b_F_tryEdge 34 = .ok (.aload_n 0, 1) := by decide +kernel
theorem d_F_tryEdge_35 : decode b_F_tryEdge 35 = .ok (.getfield 24, 3) := by decide +kernel
theorem d_F_tryEdge_38 : decode b_F_tryEdge 38 = .ok (.iload_n 2, 1) := by decide +kernel
theorem d_F_tryEdge_39 : decode b_F_tryEdge 39 = .ok (.iaload, 1) := by decide +kernel
theorem d_F_tryEdge_40 : decode b_F_tryEdge 40 = .ok (.aload_n 0, 1) := by decide +kernel
theorem d_F_tryEdge_41 : decode b_F_tryEdge 41 = .ok (.getfield 18, 3) := by decide +kernel
theorem d_F_tryEdge_44 : decode b_F_tryEdge 44 = .ok (.iload_n 1, 1) := by decide +kernel
theorem d_F_tryEdge_45 : decode b_F_tryEdge 45 = .ok (.iaload, 1) := by decide +kernel
theorem d_F_tryEdge_46 : decode b_F_tryEdge 46 = .ok (.iadd, 1) := by decide +kernel
theorem d_F_tryEdge_47 : decode b_F_tryEdge 47 = .ok (.aload_n 0, 1) := by decide +kernel
theorem d_F_tryEdge_48 : decode b_F_tryEdge 48 = .ok (.getfield 24, 3) := by decide +kernel
theorem d_F_tryEdge_51 : decode b_F_tryEdge 51 = .ok (.iload_n 3, 1) := by decide +kernel
theorem d_F_tryEdge_52 : decode b_F_tryEdge 52 = .ok (.iaload, 1) := by decide +kernel
theorem d_F_tryEdge_53 : decode b_F_tryEdge 53 = .ok (.if_icmp .lt 5, 3) := by decide +kernel
theorem d_F_tryEdge_56 : decode b_F_tryEdge 56 = .ok (.iconst 0, 1) := by decide +kernel
theorem d_F_tryEdge_57 : decode b_F_tryEdge 57 = .ok (.ireturn, 1) := by decide +kernel
theorem d_F_tryEdge_58 : decode b_F_tryEdge 58 = .ok (.aload_n 0, 1) := by decide +kernel
theorem d_F_tryEdge_59 : decode b_F_tryEdge 59 = .ok (.getfield 24, 3) := by decide +kernel
theorem d_F_tryEdge_62 : decode b_F_tryEdge 62 = .ok (.iload_n 3, 1) := by decide +kernel
theorem d_F_tryEdge_63 : decode b_F_tryEdge 63 = .ok (.aload_n 0, 1) := by decide +kernel
theorem d_F_tryEdge_64 : decode b_F_tryEdge 64 = .ok (.getfield 24, 3) := by decide +kernel
theorem d_F_tryEdge_67 : decode b_F_tryEdge 67 = .ok (.iload_n 2, 1) := by decide +kernel
theorem d_F_tryEdge_68 : decode b_F_tryEdge 68 = .ok (.iaload, 1) := by decide +kernel
theorem d_F_tryEdge_69 : decode b_F_tryEdge 69 = .ok (.aload_n 0, 1) := by decide +kernel
theorem d_F_tryEdge_70 : decode b_F_tryEdge 70 = .ok (.getfield 18, 3) := by decide +kernel
theorem d_F_tryEdge_73 : decode b_F_tryEdge 73 = .ok (.iload_n 1, 1) := by decide +kernel
theorem d_F_tryEdge_74 : decode b_F_tryEdge 74 = .ok (.iaload, 1) := by decide +kernel
theorem d_F_tryEdge_75 : decode b_F_tryEdge 75 = .ok (.iadd, 1) := by decide +kernel
theorem d_F_tryEdge_76 : decode b_F_tryEdge 76 = .ok (.iastore, 1) := by decide +kernel
theorem d_F_tryEdge_77 : decode b_F_tryEdge 77 = .ok (.aload_n 0, 1) := by decide +kernel
theorem d_F_tryEdge_78 : decode b_F_tryEdge 78 = .ok (.getfield 27, 3) := by decide +kernel
theorem d_F_tryEdge_81 : decode b_F_tryEdge 81 = .ok (.iload_n 3, 1) := by decide +kernel
theorem d_F_tryEdge_82 : decode b_F_tryEdge 82 = .ok (.iload_n 1, 1) := by decide +kernel
theorem d_F_tryEdge_83 : decode b_F_tryEdge 83 = .ok (.iastore, 1) := by decide +kernel
theorem d_F_tryEdge_84 : decode b_F_tryEdge 84 = .ok (.iconst 1, 1) := by decide +kernel
theorem d_F_tryEdge_85 : decode b_F_tryEdge 85 = .ok (.ireturn, 1) := by decide +kernel
theorem d_G_init_0 : decode b_G_init 0 = .ok (.aload_n 0, 1) := by decide +kernel
theorem d_G_init_1 : decode b_G_init 1 = .ok (.invokespecial 3, 3) := by decide +kernel
theorem d_G_init_4 : decode b_G_init 4 = .ok (.aload_n 0, 1) := by decide +kernel
theorem d_G_init_5 : decode b_G_init 5 = .ok (.bipush 20, 2) := by decide +kernel
theorem d_G_init_7 : decode b_G_init 7 = .ok (.newarray .int, 2) := by decide +kernel
theorem d_G_init_9 : decode b_G_init 9 = .ok (.putfield 9, 3) := by decide +kernel
theorem d_G_init_12 : decode b_G_init 12 = .ok (.aload_n 0, 1) := by decide +kernel
theorem d_G_init_13 : decode b_G_init 13 = .ok (.bipush 20, 2) := by decide +kernel
theorem d_G_init_15 : decode b_G_init 15 = .ok (.newarray .int, 2) := by decide +kernel
theorem d_G_init_17 : decode b_G_init 17 = .ok (.putfield 15, 3) := by decide +kernel
theorem d_G_init_20 : decode b_G_init 20 = .ok (.aload_n 0, 1) := by decide +kernel
theorem d_G_init_21 : decode b_G_init 21 = .ok (.bipush 20, 2) := by decide +kernel
theorem d_G_init_23 : decode b_G_init 23 = .ok (.newarray .int, 2) := by decide +kernel
theorem d_G_init_25 : decode b_G_init 25 = .ok (.putfield 18, 3) := by decide +kernel
theorem d_G_init_28 : decode b_G_init 28 = .ok (.aload_n 0, 1) := by decide +kernel
theorem d_G_init_29 : decode b_G_init 29 = .ok (.bipush 20, 2) := by decide +kernel
theorem d_G_init_31 : decode b_G_init 31 = .ok (.newarray .int, 2) := by decide +kernel
theorem d_G_init_33 : decode b_G_init 33 = .ok (.putfield 21, 3) := by decide +kernel
theorem d_G_init_36 : decode b_G_init 36 = .ok (.aload_n 0, 1) := by decide +kernel
theorem d_G_init_37 : decode b_G_init 37 = .ok (.bipush 20, 2) := by decide +kernel
theorem d_G_init_39 : decode b_G_init 39 = .ok (.newarray .boolean, 2) := by decide +kernel
theorem d_G_init_41 : decode b_G_init 41 = .ok (.putfield 24, 3) := by decide +kernel
theorem d_G_init_44 : decode b_G_init 44 = .ok (.aload_n 0, 1) := by decide +kernel
theorem d_G_init_45 : decode b_G_init 45 = .ok (.bipush 8, 2) := by decide +kernel
theorem d_G_init_47 : decode b_G_init 47 = .ok (.bipush 20, 2) := by decide +kernel
theorem d_G_init_49 : decode b_G_init 49 = .ok (.multianewarray 28 2, 4) := by decide +kernel
theorem d_G_init_53 : decode b_G_init 53 = .ok (.putfield 30, 3) := by decide +kernel
theorem d_G_init_56 : decode b_G_init 56 = .ok (.aload_n 0, 1) := by decide +kernel
theorem d_G_init_57 : decode b_G_init 57 = .ok (.bipush 8, 2) := by decide +kernel
theorem d_G_init_59 : decode b_G_init 59 = .ok (.newarray .int, 2) := by decide +kernel
theorem d_G_init_61 : decode b_G_init 61 = .ok (.putfield 33, 3) := by decide +kernel
theorem d_G_init_64 : decode b_G_init 64 = .ok (.return_, 1) := by decide +kernel
theorem d_G_empty_0 : decode b_G_empty 0 = .ok (.aload_n 0, 1) := by decide +kernel
theorem d_G_empty_1 : decode b_G_empty 1 = .ok (.iconst 0, 1) := by decide +kernel
theorem d_G_empty_2 : decode b_G_empty 2 = .ok (.putfield 36, 3) := by decide +kernel
theorem d_G_empty_5 : decode b_G_empty 5 = .ok (.aload_n 0, 1) := by decide +kernel
theorem d_G_empty_6 : decode b_G_empty 6 = .ok (.iconst 0, 1) := by decide +kernel
theorem d_G_empty_7 : decode b_G_empty 7 = .ok (.putfield 40, 3) := by decide +kernel
theorem d_G_empty_10 : decode b_G_empty 10 = .ok (.aload_n 0, 1) := by decide +kernel
theorem d_G_empty_11 : decode b_G_empty 11 = .ok (.getfield 33, 3) := by decide +kernel
theorem d_G_empty_14 : decode b_G_empty 14 = .ok (.iconst 0, 1) := by decide +kernel
theorem d_G_empty_15 : decode b_G_empty 15 = .ok (.invokestatic 43, 3) := by decide +kernel
theorem d_G_empty_18 : decode b_G_empty 18 = .ok (.return_, 1) := by decide +kernel
theorem d_G_isNode_0 : decode b_G_isNode 0 = .ok (.iload_n 1, 1) := by decide +kernel
theorem d_G_isNode_1 : decode b_G_isNode 1 = .ok (.iconst 0, 1) := by decide +kernel
theorem d_G_isNode_2 : decode b_G_isNode 2 = .ok (.aload_n 0, 1) := by decide +kernel
theorem d_G_isNode_3 : decode b_G_isNode 3 = .ok (.getfield 36, 3) := by decide +kernel
theorem d_G_isNode_6 : decode b_G_isNode 6 = .ok (.iconst 1, 1) := by decide +kernel
theorem d_G_isNode_7 : decode b_G_isNode 7 = .ok (.isub, 1) := by decide +kernel
theorem d_G_isNode_8 : decode b_G_isNode 8 = .ok (.invokestatic 49, 3) := by decide +kernel
theorem d_G_isNode_11 : decode b_G_isNode 11 = .ok (.ireturn, 1) := by decide +kernel
theorem d_G_areTwoNodes_0 : decode b_G_areTwoNodes 0 = .ok (.aload_n 0, 1) := by decide +kernel
theorem d_G_areTwoNodes_1 : decode b_G_areTwoNodes 1 = .ok (.iload_n 1, 1) := by decide +kernel
theorem d_G_areTwoNodes_2 : decode b_G_areTwoNodes 2 = .ok (.invokevirtual 53, 3) := by decide +kernel
theorem d_G_areTwoNodes_5 : decode b_G_areTwoNodes 5 = .ok (.ifCond .eq 20, 3) := by decide +kernel
theorem d_G_areTwoNodes_8 : decode b_G_areTwoNodes 8 = .ok (.aload_n 0, 1) := by decide +kernel
theorem d_G_areTwoNodes_9 : decode b_G_areTwoNodes 9 = .ok (.iload_n 2, 1) := by decide +kernel
theorem d_G_areTwoNodes_10 : decode b_G_areTwoNodes 10 = .ok (.invokevirtual 53, 3) := by decide +kernel
theorem d_G_areTwoNodes_13 : decode b_G_areTwoNodes 13 = .ok (.ifCond .eq 12, 3) := by decide +kernel
theorem d_G_areTwoNodes_16 : decode b_G_areTwoNodes 16 = .ok (.iload_n 1, 1) := by decide +kernel
theorem d_G_areTwoNodes_17 : decode b_G_areTwoNodes 17 = .ok (.iload_n 2, 1) := by decide +kernel
theorem d_G_areTwoNodes_18 : decode b_G_areTwoNodes 18 = .ok (.if_icmp .eq 7, 3) := by decide +kernel
theorem d_G_areTwoNodes_21 : decode b_G_areTwoNodes 21 = .ok (.iconst 1, 1) := by decide +kernel
theorem d_G_areTwoNodes_22 : decode b_G_areTwoNodes 22 = .ok (.goto 4, 3) := by decide +kernel
theorem d_G_areTwoNodes_25 : decode b_G_areTwoNodes 25 = .ok (.iconst 0, 1) := by decide +kernel
theorem d_G_areTwoNodes_26 : decode b_G_areTwoNodes 26 = .ok (.ireturn, 1) := by decide +kernel
theorem d_G_isArc_0 : decode b_G_isArc 0 = .ok (.iload_n 1, 1) := by decide +kernel
theorem d_G_isArc_1 : decode b_G_isArc 1 = .ok (.iconst 0, 1) := by decide +kernel
theorem d_G_isArc_2 : decode b_G_isArc 2 = .ok (.aload_n 0, 1) := by decide +kernel
theorem d_G_isArc_3 : decode b_G_isArc 3 = .ok (.getfield 40, 3) := by decide +kernel
theorem d_G_isArc_6 : decode b_G_isArc 6 = .ok (.iconst 1, 1) := by decide +kernel
theorem d_G_isArc_7 : decode b_G_isArc 7 = .ok (.isub, 1) := by decide +kernel
theorem d_G_isArc_8 : decode b_G_isArc 8 = .ok (.invokestatic 49, 3) := by decide +kernel
theorem d_G_isArc_11 : decode b_G_isArc 11 = .ok (.ireturn, 1) := by decide +kernel
theorem d_G_addNode_0 : decode b_G_addNode 0 = .ok (.aload_n 0, 1) := by decide +kernel
theorem d_G_addNode_1 : decode b_G_addNode 1 = .ok (.getfield 36, 3) := by decide +kernel
theorem d_G_addNode_4 : decode b_G_addNode 4 = .ok (.bipush 8, 2) := by decide +kernel
theorem d_G_addNode_6 : decode b_G_addNode 6 = .ok (.if_icmp .lt 6, 3) := by decide +kernel
theorem d_G_addNode_9 : decode b_G_addNode 9 = .ok (.bipush (-3), 2) := by decide +kernel
theorem d_G_addNode_11 : decode b_G_addNode 11 = .ok (.ireturn, 1) := by decide +kernel
theorem d_G_addNode_12 : decode b_G_addNode 12 = .ok (.aload_n 0, 1) := by decide +kernel
theorem d_G_addNode_13 : decode b_G_addNode 13 = .ok (.dup, 1) := by decide +kernel
theorem d_G_addNode_14 : decode b_G_addNode 14 = .ok (.getfield 36, 3) := by decide +kernel
theorem d_G_addNode_17 : decode b_G_addNode 17 = .ok (.iconst 1, 1) := by decide +kernel
theorem d_G_addNode_18 : decode b_G_addNode 18 = .ok (.iadd, 1) := by decide +kernel
theorem d_G_addNode_19 : decode b_G_addNode 19 = .ok (.putfield 36, 3) := by decide +kernel
theorem d_G_addNode_22 : decode b_G_addNode 22 = .ok (.aload_n 0, 1) := by decide +kernel
theorem d_G_addNode_23 : decode b_G_addNode 23 = .ok (.getfield 36, 3) := by decide +kernel
theorem d_G_addNode_26 : decode b_G_addNode 26 = .ok (.iconst 1, 1) := by decide +kernel
theorem d_G_addNode_27 : decode b_G_addNode 27 = .ok (.isub, 1) := by decide +kernel
theorem d_G_addNode_28 : decode b_G_addNode 28 = .ok (.ireturn, 1) := by decide +kernel
theorem d_G_addArc_0 : decode b_G_addArc 0 = .ok (.aload_n 0, 1) := by decide +kernel
theorem d_G_addArc_1 : decode b_G_addArc 1 = .ok (.getfield 40, 3) := by decide +kernel
theorem d_G_addArc_4 : decode b_G_addArc 4 = .ok (.bipush 20, 2) := by decide +kernel
theorem d_G_addArc_6 : decode b_G_addArc 6 = .ok (.if_icmp .lt 6, 3) := by decide +kernel
theorem d_G_addArc_9 : decode b_G_addArc 9 = .ok (.bipush (-3), 2) := by decide +kernel
theorem d_G_addArc_11 : decode b_G_addArc 11 = .ok (.ireturn, 1) := by decide +kernel
theorem d_G_addArc_12 : decode b_G_addArc 12 = .ok (.aload_n 0, 1) := by decide +kernel
theorem d_G_addArc_13 : decode b_G_addArc 13 = .ok (.getfield 40, 3) := by decide +kernel
theorem d_G_addArc_16 : decode b_G_addArc 16 = .ok (.istore 5, 2) := by decide +kernel
theorem d_G_addArc_18 : decode b_G_addArc 18 = .ok (.aload_n 0, 1) := by decide +kernel
theorem d_G_addArc_19 : decode b_G_addArc 19 = .ok (.getfield 9, 3) := by decide +kernel
theorem d_G_addArc_22 : decode b_G_addArc 22 = .ok (.iload 5, 2) := by decide +kernel
theorem d_G_addArc_24 : decode b_G_addArc 24 = .ok (.iload_n 1, 1) := by decide +kernel
theorem d_G_addArc_25 : decode b_G_addArc 25 = .ok (.iastore, 1) := by decide +kernel
theorem d_G_addArc_26 : decode b_G_addArc 26 = .ok (.aload_n 0, 1) := by decide +kernel
theorem d_G_addArc_27 : decode b_G_addArc 27 = .ok (.getfield 15, 3) := by decide +kernel
theorem d_G_addArc_30 : decode b_G_addArc 30 = .ok (.iload 5, 2) := by decide +kernel
theorem d_G_addArc_32 : decode b_G_addArc 32 = .ok (.iload_n 2, 1) := by decide +kernel
theorem d_G_addArc_33 : decode b_G_addArc 33 = .ok (.iastore, 1) := by decide +kernel
theorem d_G_addArc_34 : decode b_G_addArc 34 = .ok (.aload_n 0, 1) := by decide +kernel
theorem d_G_addArc_35 : decode b_G_addArc 35 = .ok (.getfield 18, 3) := by decide +kernel
theorem d_G_addArc_38 : decode b_G_addArc 38 = .ok (.iload 5, 2) := by decide +kernel
theorem d_G_addArc_40 : decode b_G_addArc 40 = .ok (.iload_n 3, 1) := by decide +kernel
theorem d_G_addArc_41 : decode b_G_addArc 41 = .ok (.iastore, 1) := by decide +kernel
theorem d_G_addArc_42 : decode b_G_addArc 42 = .ok (.aload_n 0, 1) := by decide +kernel
theorem d_G_addArc_43 : decode b_G_addArc 43 = .ok (.getfield 21, 3) := by decide +kernel
theorem d_G_addArc_46 : decode b_G_addArc 46 = .ok (.iload 5, 2) := by decide +kernel
theorem d_G_addArc_48 : decode b_G_addArc 48 = .ok (.iload 4, 2) := by decide +kernel
theorem d_G_addArc_50 : decode b_G_addArc 50 = .ok (.iastore, 1) := by decide +kernel
theorem d_G_addArc_51 : decode b_G_addArc 51 = .ok (.aload_n 0, 1) := by decide +kernel
theorem d_G_addArc_52 : decode b_G_addArc 52 = .ok (.getfield 24, 3) := by decide +kernel
theorem d_G_addArc_55 : decode b_G_addArc 55 = .ok (.iload 5, 2) := by decide +kernel
theorem d_G_addArc_57 : decode b_G_addArc 57 = .ok (.iconst 0, 1) := by decide +kernel
theorem d_G_addArc_58 : decode b_G_addArc 58 = .ok (.bastore, 1) := by decide +kernel
theorem d_G_addArc_59 : decode b_G_addArc 59 = .ok (.aload_n 0, 1) := by decide +kernel
theorem d_G_addArc_60 : decode b_G_addArc 60 = .ok (.getfield 30, 3) := by decide +kernel
theorem d_G_addArc_63 : decode b_G_addArc 63 = .ok (.iload_n 1, 1) := by decide +kernel
theorem d_G_addArc_64 : decode b_G_addArc 64 = .ok (.aaload, 1) := by decide +kernel
theorem d_G_addArc_65 : decode b_G_addArc 65 = .ok (.aload_n 0, 1) := by decide +kernel
theorem d_G_addArc_66 : decode b_G_addArc 66 = .ok (.getfield 33, 3) := by decide +kernel
theorem d_G_addArc_69 : decode b_G_addArc 69 = .ok (.iload_n 1, 1) := by decide +kernel
theorem d_G_addArc_70 : decode b_G_addArc 70 = .ok (.iaload, 1) := by decide +kernel
theorem d_G_addArc_71 : decode b_G_addArc 71 = .ok (.iload 5, 2) := by decide +kernel
theorem d_G_addArc_73 : decode b_G_addArc 73 = .ok (.iastore, 1) := by decide +kernel
theorem d_G_addArc_74 : decode b_G_addArc 74 = .ok (.aload_n 0, 1) := by decide +kernel
theorem d_G_addArc_75 : decode b_G_addArc 75 = .ok (.getfield 33, 3) := by decide +kernel
theorem d_G_addArc_78 : decode b_G_addArc 78 = .ok (.iload_n 1, 1) := by decide +kernel
theorem d_G_addArc_79 : decode b_G_addArc 79 = .ok (.dup2, 1) := by decide +kernel
theorem d_G_addArc_80 : decode b_G_addArc 80 = .ok (.iaload, 1) := by decide +kernel
theorem d_G_addArc_81 : decode b_G_addArc 81 = .ok (.iconst 1, 1) := by decide +kernel
theorem d_G_addArc_82 : decode b_G_addArc 82 = .ok (.iadd, 1) := by decide +kernel
theorem d_G_addArc_83 : decode b_G_addArc 83 = .ok (.iastore, 1) := by decide +kernel
theorem d_G_addArc_84 : decode b_G_addArc 84 = .ok (.aload_n 0, 1) := by decide +kernel
theorem d_G_addArc_85 : decode b_G_addArc 85 = .ok (.dup, 1) := by decide +kernel
theorem d_G_addArc_86 : decode b_G_addArc 86 = .ok (.getfield 40, 3) := by decide +kernel
theorem d_G_addArc_89 : decode b_G_addArc 89 = .ok (.iconst 1, 1) := by decide +kernel
theorem d_G_addArc_90 : decode b_G_addArc 90 = .ok (.iadd, 1) := by decide +kernel
theorem d_G_addArc_91 : decode b_G_addArc 91 = .ok (.putfield 40, 3) := by decide +kernel
theorem d_G_addArc_94 : decode b_G_addArc 94 = .ok (.iload 5, 2) := by decide +kernel
theorem d_G_addArc_96 : decode b_G_addArc 96 = .ok (.ireturn, 1) := by decide +kernel
theorem d_G_shutArcs_0 : decode b_G_shutArcs 0 = .ok (.iconst 0, 1) := by decide +kernel
theorem d_G_shutArcs_1 : decode b_G_shutArcs 1 = .ok (.istore_n 1, 1) := by decide +kernel
theorem d_G_shutArcs_2 : decode b_G_shutArcs 2 = .ok (.iconst 0, 1) := by decide +kernel
theorem d_G_shutArcs_3 : decode b_G_shutArcs 3 = .ok (.istore_n 2, 1) := by decide +kernel
theorem d_G_shutArcs_4 : decode b_G_shutArcs 4 = .ok (.iload_n 2, 1) := by decide +kernel
theorem d_G_shutArcs_5 : decode b_G_shutArcs 5 = .ok (.aload_n 0, 1) := by decide +kernel
theorem d_G_shutArcs_6 : decode b_G_shutArcs 6 = .ok (.getfield 40, 3) := by decide +kernel
theorem d_G_shutArcs_9 : decode b_G_shutArcs 9 = .ok (.if_icmp .ge 21, 3) := by decide +kernel
theorem d_G_shutArcs_12 : decode b_G_shutArcs 12 = .ok (.aload_n 0, 1) := by decide +kernel
theorem d_G_shutArcs_13 : decode b_G_shutArcs 13 = .ok (.getfield 24, 3) := by decide +kernel
theorem d_G_shutArcs_16 : decode b_G_shutArcs 16 = .ok (.iload_n 2, 1) := by decide +kernel
theorem d_G_shutArcs_17 : decode b_G_shutArcs 17 = .ok (.baload, 1) := by decide +kernel
theorem d_G_shutArcs_18 : decode b_G_shutArcs 18 = .ok (.ifCond .eq 6, 3) := by decide +kernel
theorem d_G_shutArcs_21 : decode b_G_shutArcs 21 = .ok (.iinc 1 1, 3) := by decide +kernel
theorem d_G_shutArcs_24 : decode b_G_shutArcs 24 = .ok (.iinc 2 1, 3) := by decide +kernel
theorem d_G_shutArcs_27 : decode b_G_shutArcs 27 = .ok (.goto (-23), 3) := by decide +kernel
theorem d_G_shutArcs_30 : decode b_G_shutArcs 30 = .ok (.iload_n 1, 1) := by decide +kernel
theorem d_G_shutArcs_31 : decode b_G_shutArcs 31 = .ok (.ireturn, 1) := by decide +kernel
theorem d_G_secondOf_0 : decode b_G_secondOf 0 = .ok (.iconst 0, 1) := by decide +kernel
theorem d_G_secondOf_1 : decode b_G_secondOf 1 = .ok (.istore_n 3, 1) := by decide +kernel
theorem d_G_secondOf_2 : decode b_G_secondOf 2 = .ok (.iconst 0, 1) := by decide +kernel
theorem d_G_secondOf_3 : decode b_G_secondOf 3 = .ok (.istore 4, 2) := by decide +kernel
theorem d_G_secondOf_5 : decode b_G_secondOf 5 = .ok (.iload 4, 2) := by decide +kernel
theorem d_G_secondOf_7 : decode b_G_secondOf 7 = .ok (.lload_n 1, 1) := by decide +kernel
theorem d_G_secondOf_8 : decode b_G_secondOf 8 = .ok (.invokestatic 57, 3) := by decide +kernel
theorem d_G_secondOf_11 : decode b_G_secondOf 11 = .ok (.if_icmp .ge 36, 3) := by decide +kernel
theorem d_G_secondOf_14 : decode b_G_secondOf 14 = .ok (.lload_n 1, 1) := by decide +kernel
theorem d_G_secondOf_15 : decode b_G_secondOf 15 = .ok (.iload 4, 2) := by decide +kernel
theorem d_G_secondOf_17 : decode b_G_secondOf 17 = .ok (.invokestatic 63, 3) := by decide +kernel
theorem d_G_secondOf_20 : decode b_G_secondOf 20 = .ok (.istore 5, 2) := by decide +kernel
theorem d_G_secondOf_22 : decode b_G_secondOf 22 = .ok (.aload_n 0, 1) := by decide +kernel
theorem d_G_secondOf_23 : decode b_G_secondOf 23 = .ok (.iload 5, 2) := by decide +kernel
theorem d_G_secondOf_25 : decode b_G_secondOf 25 = .ok (.invokevirtual 67, 3) := by decide +kernel
theorem d_G_secondOf_28 : decode b_G_secondOf 28 = .ok (.ifCond .eq 13, 3) := by decide +kernel
theorem d_G_secondOf_31 : decode b_G_secondOf 31 = .ok (.iload_n 3, 1) := by decide +kernel
theorem d_G_secondOf_32 : decode b_G_secondOf 32 = .ok (.aload_n 0, 1) := by decide +kernel
theorem d_G_secondOf_33 : decode b_G_secondOf 33 = .ok (.getfield 21, 3) := by decide +kernel
theorem d_G_secondOf_36 : decode b_G_secondOf 36 = .ok (.iload 5, 2) := by decide +kernel
theorem d_G_secondOf_38 : decode b_G_secondOf 38 = .ok (.iaload, 1) := by decide +kernel
theorem d_G_secondOf_39 : decode b_G_secondOf 39 = .ok (.iadd, 1) := by decide +kernel
theorem d_G_secondOf_40 : decode b_G_secondOf 40 = .ok (.istore_n 3, 1) := by decide +kernel
theorem d_G_secondOf_41 : decode b_G_secondOf 41 = .ok (.iinc 4 1, 3) := by decide +kernel
theorem d_G_secondOf_44 : decode b_G_secondOf 44 = .ok (.goto (-39), 3) := by decide +kernel
theorem d_G_secondOf_47 : decode b_G_secondOf 47 = .ok (.iload_n 3, 1) := by decide +kernel
theorem d_G_secondOf_48 : decode b_G_secondOf 48 = .ok (.ireturn, 1) := by decide +kernel
theorem d_C_head_0 : decode b_C_head 0 = .ok (.iload_n 0, 1) := by decide +kernel
theorem d_C_head_1 : decode b_C_head 1 = .ok (.i2l, 1) := by decide +kernel
theorem d_C_head_2 : decode b_C_head 2 = .ok (.bipush 38, 2) := by decide +kernel
theorem d_C_head_4 : decode b_C_head 4 = .ok (.lshl, 1) := by decide +kernel
theorem d_C_head_5 : decode b_C_head 5 = .ok (.iload_n 1, 1) := by decide +kernel
theorem d_C_head_6 : decode b_C_head 6 = .ok (.i2l, 1) := by decide +kernel
theorem d_C_head_7 : decode b_C_head 7 = .ok (.bipush 35, 2) := by decide +kernel
theorem d_C_head_9 : decode b_C_head 9 = .ok (.lshl, 1) := by decide +kernel
theorem d_C_head_10 : decode b_C_head 10 = .ok (.lor, 1) := by decide +kernel
theorem d_C_head_11 : decode b_C_head 11 = .ok (.lreturn, 1) := by decide +kernel
theorem d_C_arcAt_0 : decode b_C_arcAt 0 = .ok (.iload_n 0, 1) := by decide +kernel
theorem d_C_arcAt_1 : decode b_C_arcAt 1 = .ok (.i2l, 1) := by decide +kernel
theorem d_C_arcAt_2 : decode b_C_arcAt 2 = .ok (.iload_n 1, 1) := by decide +kernel
theorem d_C_arcAt_3 : decode b_C_arcAt 3 = .ok (.invokestatic 11, 3) := by decide +kernel
theorem d_C_arcAt_6 : decode b_C_arcAt 6 = .ok (.lshl, 1) := by decide +kernel
theorem d_C_arcAt_7 : decode b_C_arcAt 7 = .ok (.lreturn, 1) := by decide +kernel
theorem d_C_weightIn_0 : decode b_C_weightIn 0 = .ok (.lload_n 0, 1) := by decide +kernel
theorem d_C_weightIn_1 : decode b_C_weightIn 1 = .ok (.bipush 38, 2) := by decide +kernel
theorem d_C_weightIn_3 : decode b_C_weightIn 3 = .ok (.lshr, 1) := by decide +kernel
theorem d_C_weightIn_4 : decode b_C_weightIn 4 = .ok (.l2i, 1) := by decide +kernel
theorem d_C_weightIn_5 : decode b_C_weightIn 5 = .ok (.ireturn, 1) := by decide +kernel
theorem d_C_lengthIn_0 : decode b_C_lengthIn 0 = .ok (.lload_n 0, 1) := by decide +kernel
theorem d_C_lengthIn_1 : decode b_C_lengthIn 1 = .ok (.bipush 35, 2) := by decide +kernel
theorem d_C_lengthIn_3 : decode b_C_lengthIn 3 = .ok (.lshr, 1) := by decide +kernel
theorem d_C_lengthIn_4 : decode b_C_lengthIn 4 = .ok (.l2i, 1) := by decide +kernel
theorem d_C_lengthIn_5 : decode b_C_lengthIn 5 = .ok (.bipush 7, 2) := by decide +kernel
theorem d_C_lengthIn_7 : decode b_C_lengthIn 7 = .ok (.iand, 1) := by decide +kernel
theorem d_C_lengthIn_8 : decode b_C_lengthIn 8 = .ok (.ireturn, 1) := by decide +kernel
theorem d_C_arcIn_0 : decode b_C_arcIn 0 = .ok (.lload_n 0, 1) := by decide +kernel
theorem d_C_arcIn_1 : decode b_C_arcIn 1 = .ok (.iload_n 2, 1) := by decide +kernel
theorem d_C_arcIn_2 : decode b_C_arcIn 2 = .ok (.invokestatic 11, 3) := by decide +kernel
theorem d_C_arcIn_5 : decode b_C_arcIn 5 = .ok (.lshr, 1) := by decide +kernel
theorem d_C_arcIn_6 : decode b_C_arcIn 6 = .ok (.l2i, 1) := by decide +kernel
theorem d_C_arcIn_7 : decode b_C_arcIn 7 = .ok (.bipush 31, 2) := by decide +kernel
theorem d_C_arcIn_9 : decode b_C_arcIn 9 = .ok (.iand, 1) := by decide +kernel
theorem d_C_arcIn_10 : decode b_C_arcIn 10 = .ok (.ireturn, 1) := by decide +kernel
theorem d_C_shiftOf_0 : decode b_C_shiftOf 0 = .ok (.iconst 5, 1) := by decide +kernel
theorem d_C_shiftOf_1 : decode b_C_shiftOf 1 = .ok (.bipush 6, 2) := by decide +kernel
theorem d_C_shiftOf_3 : decode b_C_shiftOf 3 = .ok (.iload_n 0, 1) := by decide +kernel
theorem d_C_shiftOf_4 : decode b_C_shiftOf 4 = .ok (.isub, 1) := by decide +kernel
theorem d_C_shiftOf_5 : decode b_C_shiftOf 5 = .ok (.imul, 1) := by decide +kernel
theorem d_C_shiftOf_6 : decode b_C_shiftOf 6 = .ok (.ireturn, 1) := by decide +kernel
theorem d_P_init_0 : decode b_P_init 0 = .ok (.aload_n 0, 1) := by decide +kernel
theorem d_P_init_1 : decode b_P_init 1 = .ok (.invokespecial 3, 3) := by decide +kernel
theorem d_P_init_4 : decode b_P_init 4 = .ok (.aload_n 0, 1) := by decide +kernel
theorem d_P_init_5 : decode b_P_init 5 = .ok (.bipush 8, 2) := by decide +kernel
theorem d_P_init_7 : decode b_P_init 7 = .ok (.newarray .boolean, 2) := by decide +kernel
theorem d_P_init_9 : decode b_P_init 9 = .ok (.putfield 9, 3) := by decide +kernel
theorem d_P_init_12 : decode b_P_init 12 = .ok (.aload_n 0, 1) := by decide +kernel
theorem d_P_init_13 : decode b_P_init 13 = .ok (.bipush 7, 2) := by decide +kernel
theorem d_P_init_15 : decode b_P_init 15 = .ok (.newarray .int, 2) := by decide +kernel
theorem d_P_init_17 : decode b_P_init 17 = .ok (.putfield 15, 3) := by decide +kernel
theorem d_P_init_20 : decode b_P_init 20 = .ok (.aload_n 0, 1) := by decide +kernel
theorem d_P_init_21 : decode b_P_init 21 = .ok (.aload_n 1, 1) := by decide +kernel
theorem d_P_init_22 : decode b_P_init 22 = .ok (.putfield 19, 3) := by decide +kernel
theorem d_P_init_25 : decode b_P_init 25 = .ok (.aload_n 0, 1) := by decide +kernel
theorem d_P_init_26 : decode b_P_init 26 = .ok (.aload_n 2, 1) := by decide +kernel
theorem d_P_init_27 : decode b_P_init 27 = .ok (.putfield 23, 3) := by decide +kernel
theorem d_P_init_30 : decode b_P_init 30 = .ok (.return_, 1) := by decide +kernel
theorem d_P_findAll_0 : decode b_P_findAll 0 = .ok (.aload_n 0, 1) := by decide +kernel
theorem d_P_findAll_1 : decode b_P_findAll 1 = .ok (.getfield 23, 3) := by decide +kernel
theorem d_P_findAll_4 : decode b_P_findAll 4 = .ok (.invokevirtual 27, 3) := by decide +kernel
theorem d_P_findAll_7 : decode b_P_findAll 7 = .ok (.aload_n 0, 1) := by decide +kernel
theorem d_P_findAll_8 : decode b_P_findAll 8 = .ok (.iload_n 2, 1) := by decide +kernel
theorem d_P_findAll_9 : decode b_P_findAll 9 = .ok (.putfield 32, 3) := by decide +kernel
theorem d_P_findAll_12 : decode b_P_findAll 12 = .ok (.aload_n 0, 1) := by decide +kernel
theorem d_P_findAll_13 : decode b_P_findAll 13 = .ok (.iload_n 1, 1) := by decide +kernel
theorem d_P_findAll_14 : decode b_P_findAll 14 = .ok (.iconst 0, 1) := by decide +kernel
theorem d_P_findAll_15 : decode b_P_findAll 15 = .ok (.invokestatic 36, 3) := by decide +kernel
theorem d_P_findAll_18 : decode b_P_findAll 18 = .ok (.return_, 1) := by decide +kernel
theorem d_P_walkOn_0 : decode b_P_walkOn 0 = .ok (.iload_n 1, 1) := by decide +kernel
theorem d_P_walkOn_1 : decode b_P_walkOn 1 = .ok (.aload_n 0, 1) := by decide +kernel
theorem d_P_walkOn_2 : decode b_P_walkOn 2 = .ok (.getfield 32, 3) := by decide +kernel
theorem d_P_walkOn_5 : decode b_P_walkOn 5 = .ok (.if_icmp .ne 16, 3) := by decide +kernel
theorem d_P_walkOn_8 : decode b_P_walkOn 8 = .ok (.aload_n 0, 1) := by decide +kernel
theorem d_P_walkOn_9 : decode b_P_walkOn 9 = .ok (.getfield 23, 3) := by decide +kernel
theorem d_P_walkOn_12 : decode b_P_walkOn 12 = .ok (.aload_n 0, 1) := by decide +kernel
theorem d_P_walkOn_13 : decode b_P_walkOn 13 = .ok (.iload_n 2, 1) := by decide +kernel
theorem d_P_walkOn_14 : decode b_P_walkOn 14 = .ok (.invokevirtual 40, 3) := by decide +kernel
theorem d_P_walkOn_17 : decode b_P_walkOn 17 = .ok (.invokevirtual 44, 3) := by decide +kernel
theorem d_P_walkOn_20 : decode b_P_walkOn 20 = .ok (.return_, 1) := by decide +kernel
theorem d_P_walkOn_21 : decode b_P_walkOn 21 = .ok (.iload_n 2, 1) := by decide +kernel
theorem d_P_walkOn_22 : decode b_P_walkOn 22 = .ok (.bipush 7, 2) := by decide +kernel
theorem d_P_walkOn_24 : decode b_P_walkOn 24 = .ok (.if_icmp .lt 4, 3) := by decide +kernel
theorem d_P_walkOn_27 : decode b_P_walkOn 27 = .ok (.return_, 1) := by decide +kernel
theorem d_P_walkOn_28 : decode b_P_walkOn 28 = .ok (.aload_n 0, 1) := by decide +kernel
theorem d_P_walkOn_29 : decode b_P_walkOn 29 = .ok (.getfield 9, 3) := by decide +kernel
theorem d_P_walkOn_32 : decode b_P_walkOn 32 = .ok (.iload_n 1, 1) := by decide +kernel
theorem d_P_walkOn_33 : decode b_P_walkOn 33 = .ok (.iconst 1, 1) := by decide +kernel
theorem d_P_walkOn_34 : decode b_P_walkOn 34 = .ok (.bastore, 1) := by decide +kernel
theorem d_P_walkOn_35 : decode b_P_walkOn 35 = .ok (.iconst 0, 1) := by decide +kernel
theorem d_P_walkOn_36 : decode b_P_walkOn 36 = .ok (.istore_n 3, 1) := by decide +kernel
theorem d_P_walkOn_37 : decode b_P_walkOn 37 = .ok (.iload_n 3, 1) := by decide +kernel
theorem d_P_walkOn_38 : decode b_P_walkOn 38 = .ok (.aload_n 0, 1) := by decide +kernel
theorem d_P_walkOn_39 : decode b_P_walkOn 39 = .ok (.getfield 19, 3) := by decide +kernel
theorem d_P_walkOn_42 : decode b_P_walkOn 42 = .ok (.getfield 48, 3) := by decide +kernel
theorem d_P_walkOn_45 : decode b_P_walkOn 45 = .ok (.iload_n 1, 1) := by decide +kernel
theorem d_P_walkOn_46 : decode b_P_walkOn 46 = .ok (.iaload, 1) := by decide +kernel
theorem d_P_walkOn_47 : decode b_P_walkOn 47 = .ok (.if_icmp .ge 74, 3) := by decide +kernel
theorem d_P_walkOn_50 : decode b_P_walkOn 50 = .ok (.aload_n 0, 1) := by decide +kernel
theorem d_P_walkOn_51 : decode b_P_walkOn 51 = .ok (.getfield 19, 3) := by decide +kernel
theorem d_P_walkOn_54 : decode b_P_walkOn 54 = .ok (.getfield 53, 3) := by decide +kernel
theorem d_P_walkOn_57 : decode b_P_walkOn 57 = .ok (.iload_n 1, 1) := by decide +kernel
theorem d_P_walkOn_58 : decode b_P_walkOn 58 = .ok (.aaload, 1) := by decide +kernel
theorem d_P_walkOn_59 : decode b_P_walkOn 59 = .ok (.iload_n 3, 1) := by decide +kernel
theorem d_P_walkOn_60 : decode b_P_walkOn 60 = .ok (.iaload, 1) := by decide +kernel
theorem d_P_walkOn_61 : decode b_P_walkOn 61 = .ok (.istore 4, 2) := by decide +kernel
theorem d_P_walkOn_63 : decode b_P_walkOn 63 = .ok (.aload_n 0, 1) := by decide +kernel
theorem d_P_walkOn_64 : decode b_P_walkOn 64 = .ok (.getfield 19, 3) := by decide +kernel
theorem d_P_walkOn_67 : decode b_P_walkOn 67 = .ok (.getfield 57, 3) := by decide +kernel
theorem d_P_walkOn_70 : decode b_P_walkOn 70 = .ok (.iload 4, 2) := by decide +kernel
theorem d_P_walkOn_72 : decode b_P_walkOn 72 = .ok (.iaload, 1) := by decide +kernel
theorem d_P_walkOn_73 : decode b_P_walkOn 73 = .ok (.istore 5, 2) := by decide +kernel
theorem d_P_walkOn_75 : decode b_P_walkOn 75 = .ok (.aload_n 0, 1) := by decide +kernel
theorem d_P_walkOn_76 : decode b_P_walkOn 76 = .ok (.getfield 19, 3) := by decide +kernel
theorem d_P_walkOn_79 : decode b_P_walkOn 79 = .ok (.getfield 60, 3) := by decide +kernel
theorem d_P_walkOn_82 : decode b_P_walkOn 82 = .ok (.iload 4, 2) := by decide +kernel
theorem d_P_walkOn_84 : decode b_P_walkOn 84 = .ok (.baload, 1) := by decide +kernel
theorem d_P_walkOn_85 : decode b_P_walkOn 85 = .ok (.ifCond .ne 30, 3) := by decide +kernel
theorem d_P_walkOn_88 : decode b_P_walkOn 88 = .ok (.aload_n 0, 1) := by decide +kernel
theorem d_P_walkOn_89 : decode b_P_walkOn 89 = .ok (.getfield 9, 3) := by decide +kernel
theorem d_P_walkOn_92 : decode b_P_walkOn 92 = .ok (.iload 5, 2) := by decide +kernel
theorem d_P_walkOn_94 : decode b_P_walkOn 94 = .ok (.baload, 1) := by decide +kernel
theorem d_P_walkOn_95 : decode b_P_walkOn 95 = .ok (.ifCond .ne 20, 3) := by decide +kernel
theorem d_P_walkOn_98 : decode b_P_walkOn 98 = .ok (.aload_n 0, 1) := by decide +kernel
theorem d_P_walkOn_99 : decode b_P_walkOn 99 = .ok (.getfield 15, 3) := by decide +kernel
theorem d_P_walkOn_102 : decode b_P_walkOn 102 = .ok (.iload_n 2, 1) := by decide +kernel
theorem d_P_walkOn_103 : decode b_P_walkOn 103 = .ok (.iload 4, 2) := by decide +kernel
theorem d_P_walkOn_105 : decode b_P_walkOn 105 = .ok (.iastore, 1) := by decide +kernel
theorem d_P_walkOn_106 : decode b_P_walkOn 106 = .ok (.aload_n 0, 1) := by decide +kernel
theorem d_P_walkOn_107 : decode b_P_walkOn 107 = .ok (.iload 5, 2) := by decide +kernel
theorem d_P_walkOn_109 : decode b_P_walkOn 109 = .ok (.iload_n 2, 1) := by decide +kernel
theorem d_P_walkOn_110 : decode b_P_walkOn 110 = .ok (.iconst 1, 1) := by decide +kernel
theorem d_P_walkOn_111 : decode b_P_walkOn 111 = .ok (.iadd, 1) := by decide +kernel
theorem d_P_walkOn_112 : decode b_P_walkOn 112 = .ok (.invokestatic 36, 3) := by decide +kernel
theorem d_P_walkOn_115 : decode b_P_walkOn 115 = .ok (.iinc 3 1, 3) := by decide +kernel
theorem d_P_walkOn_118 : decode b_P_walkOn 118 = .ok (.goto (-81), 3) := by decide +kernel
theorem d_P_walkOn_121 : decode b_P_walkOn 121 = .ok (.aload_n 0, 1) := by decide +kernel
theorem d_P_walkOn_122 : decode b_P_walkOn 122 = .ok (.getfield 9, 3) := by decide +kernel
theorem d_P_walkOn_125 : decode b_P_walkOn 125 = .ok (.iload_n 1, 1) := by decide +kernel
theorem d_P_walkOn_126 : decode b_P_walkOn 126 = .ok (.iconst 0, 1) := by decide +kernel
theorem d_P_walkOn_127 : decode b_P_walkOn 127 = .ok (.bastore, 1) := by decide +kernel
theorem d_P_walkOn_128 : decode b_P_walkOn 128 = .ok (.return_, 1) := by decide +kernel
theorem d_P_code_0 : decode b_P_code 0 = .ok (.iconst 0, 1) := by decide +kernel
theorem d_P_code_1 : decode b_P_code 1 = .ok (.istore_n 2, 1) := by decide +kernel
theorem d_P_code_2 : decode b_P_code 2 = .ok (.lconst 0, 1) := by decide +kernel
theorem d_P_code_3 : decode b_P_code 3 = .ok (.lstore_n 3, 1) := by decide +kernel
theorem d_P_code_4 : decode b_P_code 4 = .ok (.iconst 0, 1) := by decide +kernel
theorem d_P_code_5 : decode b_P_code 5 = .ok (.istore 5, 2) := by decide +kernel
theorem d_P_code_7 : decode b_P_code 7 = .ok (.iload 5, 2) := by decide +kernel
theorem d_P_code_9 : decode b_P_code 9 = .ok (.iload_n 1, 1) := by decide +kernel
theorem d_P_code_10 : decode b_P_code 10 = .ok (.if_icmp .ge 42, 3) := by decide +kernel
theorem d_P_code_13 : decode b_P_code 13 = .ok (.iload_n 2, 1) := by decide +kernel
theorem d_P_code_14 : decode b_P_code 14 = .ok (.aload_n 0, 1) := by decide +kernel
theorem d_P_code_15 : decode b_P_code 15 = .ok (.getfield 19, 3) := by decide +kernel
theorem d_P_code_18 : decode b_P_code 18 = .ok (.getfield 63, 3) := by decide +kernel
theorem d_P_code_21 : decode b_P_code 21 = .ok (.aload_n 0, 1) := by decide +kernel
theorem d_P_code_22 : decode b_P_code 22 = .ok (.getfield 15, 3) := by decide +kernel
theorem d_P_code_25 : decode b_P_code 25 = .ok (.iload 5, 2) := by decide +kernel
theorem d_P_code_27 : decode b_P_code 27 = .ok (.iaload, 1) := by decide +kernel
theorem d_P_code_28 : decode b_P_code 28 = .ok (.iaload, 1) := by decide +kernel
theorem d_P_code_29 : decode b_P_code 29 = .ok (.iadd, 1) := by decide +kernel
theorem d_P_code_30 : decode b_P_code 30 = .ok (.istore_n 2, 1) := by decide +kernel
theorem d_P_code_31 : decode b_P_code 31 = .ok (.lload_n 3, 1) := by decide +kernel
theorem d_P_code_32 : decode b_P_code 32 = .ok (.aload_n 0, 1) := by decide +kernel
theorem d_P_code_33 : decode b_P_code 33 = .ok (.getfield 15, 3) := by decide +kernel
theorem d_P_code_36 : decode b_P_code 36 = .ok (.iload 5, 2) := by decide +kernel
theorem d_P_code_38 : decode b_P_code 38 = .ok (.iaload, 1) := by decide +kernel
theorem d_P_code_39 : decode b_P_code 39 = .ok (.iload 5, 2) := by decide +kernel
theorem d_P_code_41 : decode b_P_code 41 = .ok (.invokestatic 66, 3) := by decide +kernel
theorem d_P_code_44 : decode b_P_code 44 = .ok (.lor, 1) := by decide +kernel
theorem d_P_code_45 : decode b_P_code 45 = .ok (.lstore_n 3, 1) := by decide +kernel
theorem d_P_code_46 : decode b_P_code 46 = .ok (.iinc 5 1, 3) := by decide +kernel
theorem d_P_code_49 : decode b_P_code 49 = .ok (.goto (-42), 3) := by decide +kernel
theorem d_P_code_52 : decode b_P_code 52 = .ok (.iload_n 2, 1) := by decide +kernel
theorem d_P_code_53 : decode b_P_code 53 = .ok (.iload_n 1, 1) := by decide +kernel
theorem d_P_code_54 : decode b_P_code 54 = .ok (.invokestatic 72, 3) := by decide +kernel
theorem d_P_code_57 : decode b_P_code 57 = .ok (.lload_n 3, 1) := by decide +kernel
theorem d_P_code_58 : decode b_P_code 58 = .ok (.lor, 1) := by decide +kernel
theorem d_P_code_59 : decode b_P_code 59 = .ok (.lreturn, 1) := by decide +kernel
theorem d_H_init_0 : decode b_H_init 0 = .ok (.aload_n 0, 1) := by decide +kernel
theorem d_H_init_1 : decode b_H_init 1 = .ok (.invokespecial 3, 3) := by decide +kernel
theorem d_H_init_4 : decode b_H_init 4 = .ok (.aload_n 0, 1) := by decide +kernel
theorem d_H_init_5 : decode b_H_init 5 = .ok (.sipush 1458, 3) := by decide +kernel
theorem d_H_init_8 : decode b_H_init 8 = .ok (.newarray .long, 2) := by decide +kernel
theorem d_H_init_10 : decode b_H_init 10 = .ok (.putfield 9, 3) := by decide +kernel
theorem d_H_init_13 : decode b_H_init 13 = .ok (.return_, 1) := by decide +kernel
theorem d_H_empty_0 : decode b_H_empty 0 = .ok (.aload_n 0, 1) := by decide +kernel
theorem d_H_empty_1 : decode b_H_empty 1 = .ok (.iconst 0, 1) := by decide +kernel
theorem d_H_empty_2 : decode b_H_empty 2 = .ok (.putfield 15, 3) := by decide +kernel
theorem d_H_empty_5 : decode b_H_empty 5 = .ok (.return_, 1) := by decide +kernel
theorem d_H_add_0 : decode b_H_add 0 = .ok (.aload_n 0, 1) := by decide +kernel
theorem d_H_add_1 : decode b_H_add 1 = .ok (.getfield 15, 3) := by decide +kernel
theorem d_H_add_4 : decode b_H_add 4 = .ok (.sipush 1458, 3) := by decide +kernel
theorem d_H_add_7 : decode b_H_add 7 = .ok (.if_icmp .lt 4, 3) := by decide +kernel
theorem d_H_add_10 : decode b_H_add 10 = .ok (.return_, 1) := by decide +kernel
theorem d_H_add_11 : decode b_H_add 11 = .ok (.aload_n 0, 1) := by decide +kernel
theorem d_H_add_12 : decode b_H_add 12 = .ok (.getfield 15, 3) := by decide +kernel
theorem d_H_add_15 : decode b_H_add 15 = .ok (.istore_n 3, 1) := by decide +kernel
theorem d_H_add_16 : decode b_H_add 16 = .ok (.aload_n 0, 1) := by decide +kernel
theorem d_H_add_17 : decode b_H_add 17 = .ok (.dup, 1) := by decide +kernel
theorem d_H_add_18 : decode b_H_add 18 = .ok (.getfield 15, 3) := by decide +kernel
theorem d_H_add_21 : decode b_H_add 21 = .ok (.iconst 1, 1) := by decide +kernel
theorem d_H_add_22 : decode b_H_add 22 = .ok (.iadd, 1) := by decide +kernel
theorem d_H_add_23 : decode b_H_add 23 = .ok (.putfield 15, 3) := by decide +kernel
theorem d_H_add_26 : decode b_H_add 26 = .ok (.iload_n 3, 1) := by decide +kernel
theorem d_H_add_27 : decode b_H_add 27 = .ok (.ifCond .le 43, 3) := by decide +kernel
theorem d_H_add_30 : decode b_H_add 30 = .ok (.aload_n 0, 1) := by decide +kernel
theorem d_H_add_31 : decode b_H_add 31 = .ok (.getfield 9, 3) := by decide +kernel
theorem d_H_add_34 : decode b_H_add 34 = .ok (.iload_n 3, 1) := by decide +kernel
theorem d_H_add_35 : decode b_H_add 35 = .ok (.iconst 1, 1) := by decide +kernel
theorem d_H_add_36 : decode b_H_add 36 = .ok (.isub, 1) := by decide +kernel
theorem d_H_add_37 : decode b_H_add 37 = .ok (.iconst 2, 1) := by decide +kernel
theorem d_H_add_38 : decode b_H_add 38 = .ok (.idiv, 1) := by decide +kernel
theorem d_H_add_39 : decode b_H_add 39 = .ok (.laload, 1) := by decide +kernel
theorem d_H_add_40 : decode b_H_add 40 = .ok (.lload_n 1, 1) := by decide +kernel
theorem d_H_add_41 : decode b_H_add 41 = .ok (.lcmp, 1) := by decide +kernel
theorem d_H_add_42 : decode b_H_add 42 = .ok (.ifCond .le 28, 3) := by decide +kernel
theorem d_H_add_45 : decode b_H_add 45 = .ok (.aload_n 0, 1) := by decide +kernel
theorem d_H_add_46 : decode b_H_add 46 = .ok (.getfield 9, 3) := by decide +kernel
theorem d_H_add_49 : decode b_H_add 49 = .ok (.iload_n 3, 1) := by decide +kernel
theorem d_H_add_50 : decode b_H_add 50 = .ok (.aload_n 0, 1) := by decide +kernel
theorem d_H_add_51 : decode b_H_add 51 = .ok (.getfield 9, 3) := by decide +kernel
theorem d_H_add_54 : decode b_H_add 54 = .ok (.iload_n 3, 1) := by decide +kernel
theorem d_H_add_55 : decode b_H_add 55 = .ok (.iconst 1, 1) := by decide +kernel
theorem d_H_add_56 : decode b_H_add 56 = .ok (.isub, 1) := by decide +kernel
theorem d_H_add_57 : decode b_H_add 57 = .ok (.iconst 2, 1) := by decide +kernel
theorem d_H_add_58 : decode b_H_add 58 = .ok (.idiv, 1) := by decide +kernel
theorem d_H_add_59 : decode b_H_add 59 = .ok (.laload, 1) := by decide +kernel
theorem d_H_add_60 : decode b_H_add 60 = .ok (.lastore, 1) := by decide +kernel
theorem d_H_add_61 : decode b_H_add 61 = .ok (.iload_n 3, 1) := by decide +kernel
theorem d_H_add_62 : decode b_H_add 62 = .ok (.iconst 1, 1) := by decide +kernel
theorem d_H_add_63 : decode b_H_add 63 = .ok (.isub, 1) := by decide +kernel
theorem d_H_add_64 : decode b_H_add 64 = .ok (.iconst 2, 1) := by decide +kernel
theorem d_H_add_65 : decode b_H_add 65 = .ok (.idiv, 1) := by decide +kernel
theorem d_H_add_66 : decode b_H_add 66 = .ok (.istore_n 3, 1) := by decide +kernel
theorem d_H_add_67 : decode b_H_add 67 = .ok (.goto (-41), 3) := by decide +kernel
theorem d_H_add_70 : decode b_H_add 70 = .ok (.aload_n 0, 1) := by decide +kernel
theorem d_H_add_71 : decode b_H_add 71 = .ok (.getfield 9, 3) := by decide +kernel
theorem d_H_add_74 : decode b_H_add 74 = .ok (.iload_n 3, 1) := by decide +kernel
theorem d_H_add_75 : decode b_H_add 75 = .ok (.lload_n 1, 1) := by decide +kernel
theorem d_H_add_76 : decode b_H_add 76 = .ok (.lastore, 1) := by decide +kernel
theorem d_H_add_77 : decode b_H_add 77 = .ok (.return_, 1) := by decide +kernel
theorem d_H_takeFirst_0 : decode b_H_takeFirst 0 = .ok (.aload_n 0, 1) := by decide +kernel
theorem d_H_takeFirst_1 : decode b_H_takeFirst 1 = .ok (.getfield 15, 3) := by decide +kernel
theorem d_H_takeFirst_4 : decode b_H_takeFirst 4 = .ok (.ifCond .gt 7, 3) := by decide +kernel
theorem d_H_takeFirst_7 : decode b_H_takeFirst 7 = .ok (.ldc2_w 19, 3) := by decide +kernel
theorem d_H_takeFirst_10 : decode b_H_takeFirst 10 = .ok (.lreturn, 1) := by decide +kernel
theorem d_H_takeFirst_11 : decode b_H_takeFirst 11 = .ok (.aload_n 0, 1) := by decide +kernel
theorem d_H_takeFirst_12 : decode b_H_takeFirst 12 = .ok (.getfield 9, 3) := by decide +kernel
theorem d_H_takeFirst_15 : decode b_H_takeFirst 15 = .ok (.iconst 0, 1) := by decide +kernel
theorem d_H_takeFirst_16 : decode b_H_takeFirst 16 = .ok (.laload, 1) := by decide +kernel
theorem d_H_takeFirst_17 : decode b_H_takeFirst 17 = .ok (.lstore_n 1, 1) := by decide +kernel
theorem d_H_takeFirst_18 : decode b_H_takeFirst 18 = .ok (.aload_n 0, 1) := by decide +kernel
theorem d_H_takeFirst_19 : decode b_H_takeFirst 19 = .ok (.dup, 1) := by decide +kernel
theorem d_H_takeFirst_20 : decode b_H_takeFirst 20 = .ok (.getfield 15, 3) := by decide +kernel
theorem d_H_takeFirst_23 : decode b_H_takeFirst 23 = .ok (.iconst 1, 1) := by decide +kernel
theorem d_H_takeFirst_24 : decode b_H_takeFirst 24 = .ok (.isub, 1) := by decide +kernel
theorem d_H_takeFirst_25 : decode b_H_takeFirst 25 = .ok (.putfield 15, 3) := by decide +kernel
theorem d_H_takeFirst_28 : decode b_H_takeFirst 28 = .ok (.aload_n 0, 1) := by decide +kernel
theorem d_H_takeFirst_29 : decode b_H_takeFirst 29 = .ok (.aload_n 0, 1) := by decide +kernel
theorem d_H_takeFirst_30 : decode b_H_takeFirst 30 = .ok (.getfield 9, 3) := by decide +kernel
theorem d_H_takeFirst_33 : decode b_H_takeFirst 33 = .ok (.aload_n 0, 1) := by decide +kernel
theorem d_H_takeFirst_34 : decode b_H_takeFirst 34 = .ok (.getfield 15, 3) := by decide +kernel
theorem d_H_takeFirst_37 : decode b_H_takeFirst 37 = .ok (.laload, 1) := by decide +kernel
theorem d_H_takeFirst_38 : decode b_H_takeFirst 38 = .ok (.invokevirtual 21, 3) := by decide +kernel
theorem d_H_takeFirst_41 : decode b_H_takeFirst 41 = .ok (.lload_n 1, 1) := by decide +kernel
theorem d_H_takeFirst_42 : decode b_H_takeFirst 42 = .ok (.lreturn, 1) := by decide +kernel
theorem d_H_sinkFromTop_0 : decode b_H_sinkFromTop 0 = .ok (.iconst 0, 1) := by decide +kernel
theorem d_H_sinkFromTop_1 : decode b_H_sinkFromTop 1 = .ok (.istore_n 3, 1) := by decide +kernel
theorem d_H_sinkFromTop_2 : decode b_H_sinkFromTop 2 = .ok (.iconst 1, 1) := by decide +kernel
theorem d_H_sinkFromTop_3 : decode b_H_sinkFromTop 3 = .ok (.istore 4, 2) := by decide +kernel
theorem d_H_sinkFromTop_5 : decode b_H_sinkFromTop 5 = .ok (.iload 4, 2) := by decide +kernel
theorem d_H_sinkFromTop_7 : decode b_H_sinkFromTop 7 = .ok (.aload_n 0, 1) := by decide +kernel
theorem d_H_sinkFromTop_8 : decode b_H_sinkFromTop 8 = .ok (.getfield 15, 3) := by decide +kernel
theorem d_H_sinkFromTop_11 : decode b_H_sinkFromTop 11 = .ok (.if_icmp .ge 86, 3) := by decide +kernel
theorem d_H_sinkFromTop_14 : decode b_H_sinkFromTop 14 = .ok (.iload 4, 2) := by decide +kernel
theorem d_H_sinkFromTop_16 : decode b_H_sinkFromTop 16 = .ok (.iconst 1, 1) := by decide +kernel
theorem d_H_sinkFromTop_17 : decode b_H_sinkFromTop 17 = .ok (.iadd, 1) := by decide +kernel
theorem d_H_sinkFromTop_18 : decode b_H_sinkFromTop 18 = .ok (.aload_n 0, 1) := by decide +kernel
theorem d_H_sinkFromTop_19 : decode b_H_sinkFromTop 19 = .ok (.getfield 15, 3) := by decide +kernel
theorem d_H_sinkFromTop_22 : decode b_H_sinkFromTop 22 = .ok (.if_icmp .ge 30, 3) := by decide +kernel
theorem d_H_sinkFromTop_25 : decode b_H_sinkFromTop 25 = .ok (.aload_n 0, 1) := by decide +kernel
theorem d_H_sinkFromTop_26 : decode b_H_sinkFromTop 26 = .ok (.getfield 9, 3) := by decide +kernel
theorem d_H_sinkFromTop_29 : decode b_H_sinkFromTop 29 = .ok (.iload 4, 2) := by decide +kernel
theorem d_H_sinkFromTop_31 : decode b_H_sinkFromTop 31 = .ok (.iconst 1, 1) := by decide +kernel
theorem d_H_sinkFromTop_32 : decode b_H_sinkFromTop 32 = .ok (.iadd, 1) := by decide +kernel
theorem d_H_sinkFromTop_33 : decode b_H_sinkFromTop 33 = .ok (.laload, 1) := by decide +kernel
theorem d_H_sinkFromTop_34 : decode b_H_sinkFromTop 34 = .ok (.aload_n 0, 1) := by decide +kernel
theorem d_H_sinkFromTop_35 : decode b_H_sinkFromTop 35 = .ok (.getfield 9, 3) := by decide +kernel
theorem d_H_sinkFromTop_38 : decode b_H_sinkFromTop 38 = .ok (.iload 4, 2) := by decide +kernel
theorem d_H_sinkFromTop_40 : decode b_H_sinkFromTop 40 = .ok (.laload, 1) := by decide +kernel
theorem d_H_sinkFromTop_41 : decode b_H_sinkFromTop 41 = .ok (.lcmp, 1) := by decide +kernel
theorem d_H_sinkFromTop_42 : decode b_H_sinkFromTop 42 = .ok (.ifCond .ge 10, 3) := by decide +kernel
theorem d_H_sinkFromTop_45 : decode b_H_sinkFromTop 45 = .ok (.iload 4, 2) := by decide +kernel
theorem d_H_sinkFromTop_47 : decode b_H_sinkFromTop 47 = .ok (.iconst 1, 1) := by decide +kernel
theorem d_H_sinkFromTop_48 : decode b_H_sinkFromTop 48 = .ok (.iadd, 1) := by decide +kernel
theorem d_H_sinkFromTop_49 : decode b_H_sinkFromTop 49 = .ok (.goto 5, 3) := by decide +kernel
theorem d_H_sinkFromTop_52 : decode b_H_sinkFromTop 52 = .ok (.iload 4, 2) := by decide +kernel
theorem d_H_sinkFromTop_54 : decode b_H_sinkFromTop 54 = .ok (.istore 5, 2) := by decide +kernel
theorem d_H_sinkFromTop_56 : decode b_H_sinkFromTop 56 = .ok (.aload_n 0, 1) := by decide +kernel
theorem d_H_sinkFromTop_57 : decode b_H_sinkFromTop 57 = .ok (.getfield 9, 3) := by decide +kernel
theorem d_H_sinkFromTop_60 : decode b_H_sinkFromTop 60 = .ok (.iload 5, 2) := by decide +kernel
theorem d_H_sinkFromTop_62 : decode b_H_sinkFromTop 62 = .ok (.laload, 1) := by decide +kernel
theorem d_H_sinkFromTop_63 : decode b_H_sinkFromTop 63 = .ok (.lload_n 1, 1) := by decide +kernel
theorem d_H_sinkFromTop_64 : decode b_H_sinkFromTop 64 = .ok (.lcmp, 1) := by decide +kernel
theorem d_H_sinkFromTop_65 : decode b_H_sinkFromTop 65 = .ok (.ifCond .lt 6, 3) := by decide +kernel
theorem d_H_sinkFromTop_68 : decode b_H_sinkFromTop 68 = .ok (.goto 29, 3) := by decide +kernel
theorem d_H_sinkFromTop_71 : decode b_H_sinkFromTop 71 = .ok (.aload_n 0, 1) := by decide +kernel
theorem d_H_sinkFromTop_72 : decode b_H_sinkFromTop 72 = .ok (.getfield 9, 3) := by decide +kernel
theorem d_H_sinkFromTop_75 : decode b_H_sinkFromTop 75 = .ok (.iload_n 3, 1) := by decide +kernel
theorem d_H_sinkFromTop_76 : decode b_H_sinkFromTop 76 = .ok (.aload_n 0, 1) := by decide +kernel
theorem d_H_sinkFromTop_77 : decode b_H_sinkFromTop 77 = .ok (.getfield 9, 3) := by decide +kernel
theorem d_H_sinkFromTop_80 : decode b_H_sinkFromTop 80 = .ok (.iload 5, 2) := by decide +kernel
theorem d_H_sinkFromTop_82 : decode b_H_sinkFromTop 82 = .ok (.laload, 1) := by decide +kernel
theorem d_H_sinkFromTop_83 : decode b_H_sinkFromTop 83 = .ok (.lastore, 1) := by decide +kernel
theorem d_H_sinkFromTop_84 : decode b_H_sinkFromTop 84 = .ok (.iload 5, 2) := by decide +kernel
theorem d_H_sinkFromTop_86 : decode b_H_sinkFromTop 86 = .ok (.istore_n 3, 1) := by decide +kernel
theorem d_H_sinkFromTop_87 : decode b_H_sinkFromTop 87 = .ok (.iconst 2, 1) := by decide +kernel
theorem d_H_sinkFromTop_88 : decode b_H_sinkFromTop 88 = .ok (.iload_n 3, 1) := by decide +kernel
theorem d_H_sinkFromTop_89 : decode b_H_sinkFromTop 89 = .ok (.imul, 1) := by decide +kernel
theorem d_H_sinkFromTop_90 : decode b_H_sinkFromTop 90 = .ok (.iconst 1, 1) := by decide +kernel
theorem d_H_sinkFromTop_91 : decode b_H_sinkFromTop 91 = .ok (.iadd, 1) := by decide +kernel
theorem d_H_sinkFromTop_92 : decode b_H_sinkFromTop 92 = .ok (.istore 4, 2) := by decide +kernel
theorem d_H_sinkFromTop_94 : decode b_H_sinkFromTop 94 = .ok (.goto (-89), 3) := by decide +kernel
theorem d_H_sinkFromTop_97 : decode b_H_sinkFromTop 97 = .ok (.aload_n 0, 1) := by decide +kernel
theorem d_H_sinkFromTop_98 : decode b_H_sinkFromTop 98 = .ok (.getfield 9, 3) := by decide +kernel
theorem d_H_sinkFromTop_101 : decode b_H_sinkFromTop 101 = .ok (.iload_n 3, 1) := by decide +kernel
theorem d_H_sinkFromTop_102 : decode b_H_sinkFromTop 102 = .ok (.lload_n 1, 1) := by decide +kernel
theorem d_H_sinkFromTop_103 : decode b_H_sinkFromTop 103 = .ok (.lastore, 1) := by decide +kernel
theorem d_H_sinkFromTop_104 : decode b_H_sinkFromTop 104 = .ok (.return_, 1) := by decide +kernel
theorem d_T_init_0 : decode b_T_init 0 = .ok (.aload_n 0, 1) := by decide +kernel
theorem d_T_init_1 : decode b_T_init 1 = .ok (.invokespecial 3, 3) := by decide +kernel
theorem d_T_init_4 : decode b_T_init 4 = .ok (.aload_n 0, 1) := by decide +kernel
theorem d_T_init_5 : decode b_T_init 5 = .ok (.bipush 7, 2) := by decide +kernel
theorem d_T_init_7 : decode b_T_init 7 = .ok (.newarray .int, 2) := by decide +kernel
theorem d_T_init_9 : decode b_T_init 9 = .ok (.putfield 9, 3) := by decide +kernel
theorem d_T_init_12 : decode b_T_init 12 = .ok (.return_, 1) := by decide +kernel
theorem d_T_empty_0 : decode b_T_empty 0 = .ok (.aload_n 0, 1) := by decide +kernel
theorem d_T_empty_1 : decode b_T_empty 1 = .ok (.iconst 0, 1) := by decide +kernel
theorem d_T_empty_2 : decode b_T_empty 2 = .ok (.putfield 15, 3) := by decide +kernel
theorem d_T_empty_5 : decode b_T_empty 5 = .ok (.return_, 1) := by decide +kernel
theorem d_T_tell_0 : decode b_T_tell 0 = .ok (.aload_n 0, 1) := by decide +kernel
theorem d_T_tell_1 : decode b_T_tell 1 = .ok (.lload_n 2, 1) := by decide +kernel
theorem d_T_tell_2 : decode b_T_tell 2 = .ok (.invokestatic 19, 3) := by decide +kernel
theorem d_T_tell_5 : decode b_T_tell 5 = .ok (.putfield 15, 3) := by decide +kernel
theorem d_T_tell_8 : decode b_T_tell 8 = .ok (.aload_n 0, 1) := by decide +kernel
theorem d_T_tell_9 : decode b_T_tell 9 = .ok (.lload_n 2, 1) := by decide +kernel
theorem d_T_tell_10 : decode b_T_tell 10 = .ok (.invokestatic 25, 3) := by decide +kernel
theorem d_T_tell_13 : decode b_T_tell 13 = .ok (.putfield 28, 3) := by decide +kernel
theorem d_T_tell_16 : decode b_T_tell 16 = .ok (.aload_n 0, 1) := by decide +kernel
theorem d_T_tell_17 : decode b_T_tell 17 = .ok (.aload_n 1, 1) := by decide +kernel
theorem d_T_tell_18 : decode b_T_tell 18 = .ok (.lload_n 2, 1) := by decide +kernel
theorem d_T_tell_19 : decode b_T_tell 19 = .ok (.invokevirtual 31, 3) := by decide +kernel
theorem d_T_tell_22 : decode b_T_tell 22 = .ok (.putfield 36, 3) := by decide +kernel
theorem d_T_tell_25 : decode b_T_tell 25 = .ok (.iconst 0, 1) := by decide +kernel
theorem d_T_tell_26 : decode b_T_tell 26 = .ok (.istore 4, 2) := by decide +kernel
theorem d_T_tell_28 : decode b_T_tell 28 = .ok (.iload 4, 2) := by decide +kernel
theorem d_T_tell_30 : decode b_T_tell 30 = .ok (.aload_n 0, 1) := by decide +kernel
theorem d_T_tell_31 : decode b_T_tell 31 = .ok (.getfield 15, 3) := by decide +kernel
theorem d_T_tell_34 : decode b_T_tell 34 = .ok (.if_icmp .ge 22, 3) := by decide +kernel
theorem d_T_tell_37 : decode b_T_tell 37 = .ok (.aload_n 0, 1) := by decide +kernel
theorem d_T_tell_38 : decode b_T_tell 38 = .ok (.getfield 9, 3) := by decide +kernel
theorem d_T_tell_41 : decode b_T_tell 41 = .ok (.iload 4, 2) := by decide +kernel
theorem d_T_tell_43 : decode b_T_tell 43 = .ok (.lload_n 2, 1) := by decide +kernel
theorem d_T_tell_44 : decode b_T_tell 44 = .ok (.iload 4, 2) := by decide +kernel
theorem d_T_tell_46 : decode b_T_tell 46 = .ok (.invokestatic 39, 3) := by decide +kernel
theorem d_T_tell_49 : decode b_T_tell 49 = .ok (.iastore, 1) := by decide +kernel
theorem d_T_tell_50 : decode b_T_tell 50 = .ok (.iinc 4 1, 3) := by decide +kernel
theorem d_T_tell_53 : decode b_T_tell 53 = .ok (.goto (-25), 3) := by decide +kernel
theorem d_T_tell_56 : decode b_T_tell 56 = .ok (.aload_n 0, 1) := by decide +kernel
theorem d_T_tell_57 : decode b_T_tell 57 = .ok (.getfield 15, 3) := by decide +kernel
theorem d_T_tell_60 : decode b_T_tell 60 = .ok (.ireturn, 1) := by decide +kernel
theorem d_J_fill_0 : decode b_J_fill 0 = .ok (.iconst 0, 1) := by decide +kernel
theorem d_J_fill_1 : decode b_J_fill 1 = .ok (.istore_n 2, 1) := by decide +kernel
theorem d_J_fill_2 : decode b_J_fill 2 = .ok (.aload_n 0, 1) := by decide +kernel
theorem d_J_fill_3 : decode b_J_fill 3 = .ok (.arraylength, 1) := by decide +kernel
theorem d_J_fill_4 : decode b_J_fill 4 = .ok (.istore_n 3, 1) := by decide +kernel
theorem d_J_fill_5 : decode b_J_fill 5 = .ok (.iload_n 2, 1) := by decide +kernel
theorem d_J_fill_6 : decode b_J_fill 6 = .ok (.iload_n 3, 1) := by decide +kernel
theorem d_J_fill_7 : decode b_J_fill 7 = .ok (.if_icmp .ge 13, 3) := by decide +kernel
theorem d_J_fill_10 : decode b_J_fill 10 = .ok (.aload_n 0, 1) := by decide +kernel
theorem d_J_fill_11 : decode b_J_fill 11 = .ok (.iload_n 2, 1) := by decide +kernel
theorem d_J_fill_12 : decode b_J_fill 12 = .ok (.iload_n 1, 1) := by decide +kernel
theorem d_J_fill_13 : decode b_J_fill 13 = .ok (.iastore, 1) := by decide +kernel
theorem d_J_fill_14 : decode b_J_fill 14 = .ok (.iinc 2 1, 3) := by decide +kernel
theorem d_J_fill_17 : decode b_J_fill 17 = .ok (.goto (-12), 3) := by decide +kernel
theorem d_J_fill_20 : decode b_J_fill 20 = .ok (.return_, 1) := by decide +kernel
