theorem dX0_init_0 : decode cX0_init 0 = .ok (.aload_n 0, 1) := by decide +kernel
theorem dX0_init_1 : decode cX0_init 1 = .ok (.invokespecial 3, 3) := by decide +kernel
theorem dX0_init_4 : decode cX0_init 4 = .ok (.aload_n 0, 1) := by decide +kernel
theorem dX0_init_5 : decode cX0_init 5 = .ok (.iload_n 1, 1) := by decide +kernel
theorem dX0_init_6 : decode cX0_init 6 = .ok (.putfield 9, 3) := by decide +kernel
theorem dX0_init_9 : decode cX0_init 9 = .ok (.return_, 1) := by decide +kernel
theorem dX0_havers_0 : decode cX0_havers 0 = .ok (.aload_n 1, 1) := by decide +kernel
theorem dX0_havers_1 : decode cX0_havers 1 = .ok (.iload_n 3, 1) := by decide +kernel
theorem dX0_havers_2 : decode cX0_havers 2 = .ok (.invokevirtual 15, 3) := by decide +kernel
theorem dX0_havers_5 : decode cX0_havers 5 = .ok (.ifCond .eq 9, 3) := by decide +kernel
theorem dX0_havers_8 : decode cX0_havers 8 = .ok (.iconst 1, 1) := by decide +kernel
theorem dX0_havers_9 : decode cX0_havers 9 = .ok (.iload_n 3, 1) := by decide +kernel
theorem dX0_havers_10 : decode cX0_havers 10 = .ok (.ishl, 1) := by decide +kernel
theorem dX0_havers_11 : decode cX0_havers 11 = .ok (.goto 4, 3) := by decide +kernel
theorem dX0_havers_14 : decode cX0_havers 14 = .ok (.iconst 0, 1) := by decide +kernel
theorem dX0_havers_15 : decode cX0_havers 15 = .ok (.ireturn, 1) := by decide +kernel
theorem dX0_rank_0 : decode cX0_rank 0 = .ok (.aload_n 0, 1) := by decide +kernel
theorem dX0_rank_1 : decode cX0_rank 1 = .ok (.aload_n 1, 1) := by decide +kernel
theorem dX0_rank_2 : decode cX0_rank 2 = .ok (.iload_n 2, 1) := by decide +kernel
theorem dX0_rank_3 : decode cX0_rank 3 = .ok (.iload_n 3, 1) := by decide +kernel
theorem dX0_rank_4 : decode cX0_rank 4 = .ok (.invokevirtual 21, 3) := by decide +kernel
theorem dX0_rank_7 : decode cX0_rank 7 = .ok (.istore 4, 2) := by decide +kernel
theorem dX0_rank_9 : decode cX0_rank 9 = .ok (.iload 4, 2) := by decide +kernel
theorem dX0_rank_11 : decode cX0_rank 11 = .ok (.ifCond .gt 5, 3) := by decide +kernel
theorem dX0_rank_14 : decode cX0_rank 14 = .ok (.iconst 2, 1) := by decide +kernel
theorem dX0_rank_15 : decode cX0_rank 15 = .ok (.ireturn, 1) := by decide +kernel
theorem dX0_rank_16 : decode cX0_rank 16 = .ok (.iconst 0, 1) := by decide +kernel
theorem dX0_rank_17 : decode cX0_rank 17 = .ok (.istore 5, 2) := by decide +kernel
theorem dX0_rank_19 : decode cX0_rank 19 = .ok (.iconst 1, 1) := by decide +kernel
theorem dX0_rank_20 : decode cX0_rank 20 = .ok (.istore 6, 2) := by decide +kernel
theorem dX0_rank_22 : decode cX0_rank 22 = .ok (.iconst 0, 1) := by decide +kernel
theorem dX0_rank_23 : decode cX0_rank 23 = .ok (.istore 7, 2) := by decide +kernel
theorem dX0_rank_25 : decode cX0_rank 25 = .ok (.iload 7, 2) := by decide +kernel
theorem dX0_rank_27 : decode cX0_rank 27 = .ok (.aload_n 1, 1) := by decide +kernel
theorem dX0_rank_28 : decode cX0_rank 28 = .ok (.getfield 25, 3) := by decide +kernel
theorem dX0_rank_31 : decode cX0_rank 31 = .ok (.if_icmp .ge 75, 3) := by decide +kernel
theorem dX0_rank_34 : decode cX0_rank 34 = .ok (.iload 5, 2) := by decide +kernel
theorem dX0_rank_36 : decode cX0_rank 36 = .ok (.iconst 2, 1) := by decide +kernel
theorem dX0_rank_37 : decode cX0_rank 37 = .ok (.if_icmp .ge 69, 3) := by decide +kernel
theorem dX0_rank_40 : decode cX0_rank 40 = .ok (.iload 7, 2) := by decide +kernel
theorem dX0_rank_42 : decode cX0_rank 42 = .ok (.iload_n 2, 1) := by decide +kernel
theorem dX0_rank_43 : decode cX0_rank 43 = .ok (.if_icmp .ne 7, 3) := by decide +kernel
theorem dX0_rank_46 : decode cX0_rank 46 = .ok (.iconst 0, 1) := by decide +kernel
theorem dX0_rank_47 : decode cX0_rank 47 = .ok (.goto 11, 3) := by decide +kernel
theorem dX0_rank_50 : decode cX0_rank 50 = .ok (.aload_n 0, 1) := by decide +kernel
theorem dX0_rank_51 : decode cX0_rank 51 = .ok (.aload_n 1, 1) := by decide +kernel
theorem dX0_rank_52 : decode cX0_rank 52 = .ok (.iload 7, 2) := by decide +kernel
theorem dX0_rank_54 : decode cX0_rank 54 = .ok (.iload_n 3, 1) := by decide +kernel
theorem dX0_rank_55 : decode cX0_rank 55 = .ok (.invokevirtual 21, 3) := by decide +kernel
theorem dX0_rank_58 : decode cX0_rank 58 = .ok (.istore 8, 2) := by decide +kernel
theorem dX0_rank_60 : decode cX0_rank 60 = .ok (.iload 6, 2) := by decide +kernel
theorem dX0_rank_62 : decode cX0_rank 62 = .ok (.ifCond .eq 12, 3) := by decide +kernel
theorem dX0_rank_65 : decode cX0_rank 65 = .ok (.iload 8, 2) := by decide +kernel
theorem dX0_rank_67 : decode cX0_rank 67 = .ok (.ifCond .gt 7, 3) := by decide +kernel
theorem dX0_rank_70 : decode cX0_rank 70 = .ok (.iconst 1, 1) := by decide +kernel
theorem dX0_rank_71 : decode cX0_rank 71 = .ok (.goto 4, 3) := by decide +kernel
theorem dX0_rank_74 : decode cX0_rank 74 = .ok (.iconst 0, 1) := by decide +kernel
theorem dX0_rank_75 : decode cX0_rank 75 = .ok (.istore 6, 2) := by decide +kernel
theorem dX0_rank_77 : decode cX0_rank 77 = .ok (.iload 8, 2) := by decide +kernel
theorem dX0_rank_79 : decode cX0_rank 79 = .ok (.iload 4, 2) := by decide +kernel
theorem dX0_rank_81 : decode cX0_rank 81 = .ok (.if_icmp .gt 16, 3) := by decide +kernel
theorem dX0_rank_84 : decode cX0_rank 84 = .ok (.iload 8, 2) := by decide +kernel
theorem dX0_rank_86 : decode cX0_rank 86 = .ok (.iload 4, 2) := by decide +kernel
theorem dX0_rank_88 : decode cX0_rank 88 = .ok (.if_icmp .ne 12, 3) := by decide +kernel
theorem dX0_rank_91 : decode cX0_rank 91 = .ok (.iload 7, 2) := by decide +kernel
theorem dX0_rank_93 : decode cX0_rank 93 = .ok (.iload_n 2, 1) := by decide +kernel
theorem dX0_rank_94 : decode cX0_rank 94 = .ok (.if_icmp .ge 6, 3) := by decide +kernel
theorem dX0_rank_97 : decode cX0_rank 97 = .ok (.iinc 5 1, 3) := by decide +kernel
theorem dX0_rank_100 : decode cX0_rank 100 = .ok (.iinc 7 1, 3) := by decide +kernel
theorem dX0_rank_103 : decode cX0_rank 103 = .ok (.goto (-78), 3) := by decide +kernel
theorem dX0_rank_106 : decode cX0_rank 106 = .ok (.iload 6, 2) := by decide +kernel
theorem dX0_rank_108 : decode cX0_rank 108 = .ok (.ifCond .eq 7, 3) := by decide +kernel
theorem dX0_rank_111 : decode cX0_rank 111 = .ok (.iconst (-1), 1) := by decide +kernel
theorem dX0_rank_112 : decode cX0_rank 112 = .ok (.goto 5, 3) := by decide +kernel
theorem dX0_rank_115 : decode cX0_rank 115 = .ok (.iload 5, 2) := by decide +kernel
theorem dX0_rank_117 : decode cX0_rank 117 = .ok (.ireturn, 1) := by decide +kernel
theorem dX0_reaches_0 : decode cX0_reaches 0 = .ok (.aload_n 0, 1) := by decide +kernel
theorem dX0_reaches_1 : decode cX0_reaches 1 = .ok (.aload_n 1, 1) := by decide +kernel
theorem dX0_reaches_2 : decode cX0_reaches 2 = .ok (.iload_n 2, 1) := by decide +kernel
theorem dX0_reaches_3 : decode cX0_reaches 3 = .ok (.iload_n 3, 1) := by decide +kernel
theorem dX0_reaches_4 : decode cX0_reaches 4 = .ok (.invokevirtual 28, 3) := by decide +kernel
theorem dX0_reaches_7 : decode cX0_reaches 7 = .ok (.istore 4, 2) := by decide +kernel
theorem dX0_reaches_9 : decode cX0_reaches 9 = .ok (.iload 4, 2) := by decide +kernel
theorem dX0_reaches_11 : decode cX0_reaches 11 = .ok (.aload_n 0, 1) := by decide +kernel
theorem dX0_reaches_12 : decode cX0_reaches 12 = .ok (.getfield 9, 3) := by decide +kernel
theorem dX0_reaches_15 : decode cX0_reaches 15 = .ok (.if_icmp .eq 9, 3) := by decide +kernel
theorem dX0_reaches_18 : decode cX0_reaches 18 = .ok (.iload 4, 2) := by decide +kernel
theorem dX0_reaches_20 : decode cX0_reaches 20 = .ok (.iconst (-1), 1) := by decide +kernel
theorem dX0_reaches_21 : decode cX0_reaches 21 = .ok (.if_icmp .ne 7, 3) := by decide +kernel
theorem dX0_reaches_24 : decode cX0_reaches 24 = .ok (.iconst 1, 1) := by decide +kernel
theorem dX0_reaches_25 : decode cX0_reaches 25 = .ok (.goto 4, 3) := by decide +kernel
theorem dX0_reaches_28 : decode cX0_reaches 28 = .ok (.iconst 0, 1) := by decide +kernel
theorem dX0_reaches_29 : decode cX0_reaches 29 = .ok (.ireturn, 1) := by decide +kernel
theorem dX0_receiver_0 : decode cX0_receiver 0 = .ok (.iconst 0, 1) := by decide +kernel
theorem dX0_receiver_1 : decode cX0_receiver 1 = .ok (.istore_n 3, 1) := by decide +kernel
theorem dX0_receiver_2 : decode cX0_receiver 2 = .ok (.iload_n 3, 1) := by decide +kernel
theorem dX0_receiver_3 : decode cX0_receiver 3 = .ok (.aload_n 1, 1) := by decide +kernel
theorem dX0_receiver_4 : decode cX0_receiver 4 = .ok (.getfield 25, 3) := by decide +kernel
theorem dX0_receiver_7 : decode cX0_receiver 7 = .ok (.if_icmp .ge 35, 3) := by decide +kernel
theorem dX0_receiver_10 : decode cX0_receiver 10 = .ok (.aload_n 0, 1) := by decide +kernel
theorem dX0_receiver_11 : decode cX0_receiver 11 = .ok (.aload_n 1, 1) := by decide +kernel
theorem dX0_receiver_12 : decode cX0_receiver 12 = .ok (.iload_n 3, 1) := by decide +kernel
theorem dX0_receiver_13 : decode cX0_receiver 13 = .ok (.iload_n 2, 1) := by decide +kernel
theorem dX0_receiver_14 : decode cX0_receiver 14 = .ok (.invokevirtual 28, 3) := by decide +kernel
theorem dX0_receiver_17 : decode cX0_receiver 17 = .ok (.istore 4, 2) := by decide +kernel
theorem dX0_receiver_19 : decode cX0_receiver 19 = .ok (.iload 4, 2) := by decide +kernel
theorem dX0_receiver_21 : decode cX0_receiver 21 = .ok (.aload_n 0, 1) := by decide +kernel
theorem dX0_receiver_22 : decode cX0_receiver 22 = .ok (.getfield 9, 3) := by decide +kernel
theorem dX0_receiver_25 : decode cX0_receiver 25 = .ok (.if_icmp .eq 9, 3) := by decide +kernel
theorem dX0_receiver_28 : decode cX0_receiver 28 = .ok (.iload 4, 2) := by decide +kernel
theorem dX0_receiver_30 : decode cX0_receiver 30 = .ok (.iconst (-1), 1) := by decide +kernel
theorem dX0_receiver_31 : decode cX0_receiver 31 = .ok (.if_icmp .ne 5, 3) := by decide +kernel
theorem dX0_receiver_34 : decode cX0_receiver 34 = .ok (.iload_n 3, 1) := by decide +kernel
theorem dX0_receiver_35 : decode cX0_receiver 35 = .ok (.ireturn, 1) := by decide +kernel
theorem dX0_receiver_36 : decode cX0_receiver 36 = .ok (.iinc 3 1, 3) := by decide +kernel
theorem dX0_receiver_39 : decode cX0_receiver 39 = .ok (.goto (-37), 3) := by decide +kernel
theorem dX0_receiver_42 : decode cX0_receiver 42 = .ok (.bipush (-9), 2) := by decide +kernel
theorem dX0_receiver_44 : decode cX0_receiver 44 = .ok (.ireturn, 1) := by decide +kernel
theorem dX0_deliver_0 : decode cX0_deliver 0 = .ok (.aload_n 0, 1) := by decide +kernel
theorem dX0_deliver_1 : decode cX0_deliver 1 = .ok (.aload_n 1, 1) := by decide +kernel
theorem dX0_deliver_2 : decode cX0_deliver 2 = .ok (.iload_n 2, 1) := by decide +kernel
theorem dX0_deliver_3 : decode cX0_deliver 3 = .ok (.invokevirtual 31, 3) := by decide +kernel
theorem dX0_deliver_6 : decode cX0_deliver 6 = .ok (.istore_n 3, 1) := by decide +kernel
theorem dX0_deliver_7 : decode cX0_deliver 7 = .ok (.aload_n 1, 1) := by decide +kernel
theorem dX0_deliver_8 : decode cX0_deliver 8 = .ok (.aload_n 0, 1) := by decide +kernel
theorem dX0_deliver_9 : decode cX0_deliver 9 = .ok (.aload_n 1, 1) := by decide +kernel
theorem dX0_deliver_10 : decode cX0_deliver 10 = .ok (.iload_n 2, 1) := by decide +kernel
theorem dX0_deliver_11 : decode cX0_deliver 11 = .ok (.iload_n 3, 1) := by decide +kernel
theorem dX0_deliver_12 : decode cX0_deliver 12 = .ok (.invokevirtual 35, 3) := by decide +kernel
theorem dX0_deliver_15 : decode cX0_deliver 15 = .ok (.iload_n 2, 1) := by decide +kernel
theorem dX0_deliver_16 : decode cX0_deliver 16 = .ok (.invokevirtual 38, 3) := by decide +kernel
theorem dX0_deliver_19 : decode cX0_deliver 19 = .ok (.iload_n 3, 1) := by decide +kernel
theorem dX0_deliver_20 : decode cX0_deliver 20 = .ok (.ireturn, 1) := by decide +kernel
theorem dX0_chance_0 : decode cX0_chance 0 = .ok (.aload_n 0, 1) := by decide +kernel
theorem dX0_chance_1 : decode cX0_chance 1 = .ok (.aload_n 1, 1) := by decide +kernel
theorem dX0_chance_2 : decode cX0_chance 2 = .ok (.iload_n 2, 1) := by decide +kernel
theorem dX0_chance_3 : decode cX0_chance 3 = .ok (.iload_n 3, 1) := by decide +kernel
theorem dX0_chance_4 : decode cX0_chance 4 = .ok (.invokevirtual 28, 3) := by decide +kernel
theorem dX0_chance_7 : decode cX0_chance 7 = .ok (.istore 5, 2) := by decide +kernel
theorem dX0_chance_9 : decode cX0_chance 9 = .ok (.iload 5, 2) := by decide +kernel
theorem dX0_chance_11 : decode cX0_chance 11 = .ok (.iconst (-1), 1) := by decide +kernel
theorem dX0_chance_12 : decode cX0_chance 12 = .ok (.if_icmp .ne 6, 3) := by decide +kernel
theorem dX0_chance_15 : decode cX0_chance 15 = .ok (.bipush 100, 2) := by decide +kernel
theorem dX0_chance_17 : decode cX0_chance 17 = .ok (.ireturn, 1) := by decide +kernel
theorem dX0_chance_18 : decode cX0_chance 18 = .ok (.iload 5, 2) := by decide +kernel
theorem dX0_chance_20 : decode cX0_chance 20 = .ok (.aload_n 0, 1) := by decide +kernel
theorem dX0_chance_21 : decode cX0_chance 21 = .ok (.getfield 9, 3) := by decide +kernel
theorem dX0_chance_24 : decode cX0_chance 24 = .ok (.if_icmp .ne 9, 3) := by decide +kernel
theorem dX0_chance_27 : decode cX0_chance 27 = .ok (.bipush 100, 2) := by decide +kernel
theorem dX0_chance_29 : decode cX0_chance 29 = .ok (.iload 4, 2) := by decide +kernel
theorem dX0_chance_31 : decode cX0_chance 31 = .ok (.isub, 1) := by decide +kernel
theorem dX0_chance_32 : decode cX0_chance 32 = .ok (.ireturn, 1) := by decide +kernel
theorem dX0_chance_33 : decode cX0_chance 33 = .ok (.iload 5, 2) := by decide +kernel
theorem dX0_chance_35 : decode cX0_chance 35 = .ok (.iconst 1, 1) := by decide +kernel
theorem dX0_chance_36 : decode cX0_chance 36 = .ok (.aload_n 0, 1) := by decide +kernel
theorem dX0_chance_37 : decode cX0_chance 37 = .ok (.getfield 9, 3) := by decide +kernel
theorem dX0_chance_40 : decode cX0_chance 40 = .ok (.isub, 1) := by decide +kernel
theorem dX0_chance_41 : decode cX0_chance 41 = .ok (.if_icmp .ne 8, 3) := by decide +kernel
theorem dX0_chance_44 : decode cX0_chance 44 = .ok (.iload 4, 2) := by decide +kernel
theorem dX0_chance_46 : decode cX0_chance 46 = .ok (.goto 4, 3) := by decide +kernel
theorem dX0_chance_49 : decode cX0_chance 49 = .ok (.iconst 0, 1) := by decide +kernel
theorem dX0_chance_50 : decode cX0_chance 50 = .ok (.ireturn, 1) := by decide +kernel
theorem dX1_init_0 : decode cX1_init 0 = .ok (.aload_n 0, 1) := by decide +kernel
theorem dX1_init_1 : decode cX1_init 1 = .ok (.iconst 0, 1) := by decide +kernel
theorem dX1_init_2 : decode cX1_init 2 = .ok (.invokespecial 3, 3) := by decide +kernel
theorem dX1_init_5 : decode cX1_init 5 = .ok (.return_, 1) := by decide +kernel
theorem dX1_scoreOf_0 : decode cX1_scoreOf 0 = .ok (.iconst 0, 1) := by decide +kernel
theorem dX1_scoreOf_1 : decode cX1_scoreOf 1 = .ok (.istore 4, 2) := by decide +kernel
theorem dX1_scoreOf_3 : decode cX1_scoreOf 3 = .ok (.iload_n 2, 1) := by decide +kernel
theorem dX1_scoreOf_4 : decode cX1_scoreOf 4 = .ok (.iconst 4, 1) := by decide +kernel
theorem dX1_scoreOf_5 : decode cX1_scoreOf 5 = .ok (.imul, 1) := by decide +kernel
theorem dX1_scoreOf_6 : decode cX1_scoreOf 6 = .ok (.istore 5, 2) := by decide +kernel
theorem dX1_scoreOf_8 : decode cX1_scoreOf 8 = .ok (.iload_n 3, 1) := by decide +kernel
theorem dX1_scoreOf_9 : decode cX1_scoreOf 9 = .ok (.istore 6, 2) := by decide +kernel
theorem dX1_scoreOf_11 : decode cX1_scoreOf 11 = .ok (.iload 6, 2) := by decide +kernel
theorem dX1_scoreOf_13 : decode cX1_scoreOf 13 = .ok (.ifCond .le 67, 3) := by decide +kernel
theorem dX1_scoreOf_16 : decode cX1_scoreOf 16 = .ok (.iload 5, 2) := by decide +kernel
theorem dX1_scoreOf_18 : decode cX1_scoreOf 18 = .ok (.ifCond .lt 62, 3) := by decide +kernel
theorem dX1_scoreOf_21 : decode cX1_scoreOf 21 = .ok (.iload 5, 2) := by decide +kernel
theorem dX1_scoreOf_23 : decode cX1_scoreOf 23 = .ok (.aload_n 1, 1) := by decide +kernel
theorem dX1_scoreOf_24 : decode cX1_scoreOf 24 = .ok (.getfield 9, 3) := by decide +kernel
theorem dX1_scoreOf_27 : decode cX1_scoreOf 27 = .ok (.arraylength, 1) := by decide +kernel
theorem dX1_scoreOf_28 : decode cX1_scoreOf 28 = .ok (.if_icmp .ge 52, 3) := by decide +kernel
theorem dX1_scoreOf_31 : decode cX1_scoreOf 31 = .ok (.iload 6, 2) := by decide +kernel
theorem dX1_scoreOf_33 : decode cX1_scoreOf 33 = .ok (.bipush 10, 2) := by decide +kernel
theorem dX1_scoreOf_35 : decode cX1_scoreOf 35 = .ok (.irem, 1) := by decide +kernel
theorem dX1_scoreOf_36 : decode cX1_scoreOf 36 = .ok (.istore 7, 2) := by decide +kernel
theorem dX1_scoreOf_38 : decode cX1_scoreOf 38 = .ok (.iload 4, 2) := by decide +kernel
theorem dX1_scoreOf_40 : decode cX1_scoreOf 40 = .ok (.iload 7, 2) := by decide +kernel
theorem dX1_scoreOf_42 : decode cX1_scoreOf 42 = .ok (.aload_n 1, 1) := by decide +kernel
theorem dX1_scoreOf_43 : decode cX1_scoreOf 43 = .ok (.getfield 9, 3) := by decide +kernel
theorem dX1_scoreOf_46 : decode cX1_scoreOf 46 = .ok (.iload 5, 2) := by decide +kernel
theorem dX1_scoreOf_48 : decode cX1_scoreOf 48 = .ok (.iaload, 1) := by decide +kernel
theorem dX1_scoreOf_49 : decode cX1_scoreOf 49 = .ok (.if_icmp .ge 8, 3) := by decide +kernel
theorem dX1_scoreOf_52 : decode cX1_scoreOf 52 = .ok (.iload 7, 2) := by decide +kernel
theorem dX1_scoreOf_54 : decode cX1_scoreOf 54 = .ok (.goto 10, 3) := by decide +kernel
theorem dX1_scoreOf_57 : decode cX1_scoreOf 57 = .ok (.aload_n 1, 1) := by decide +kernel
theorem dX1_scoreOf_58 : decode cX1_scoreOf 58 = .ok (.getfield 9, 3) := by decide +kernel
theorem dX1_scoreOf_61 : decode cX1_scoreOf 61 = .ok (.iload 5, 2) := by decide +kernel
theorem dX1_scoreOf_63 : decode cX1_scoreOf 63 = .ok (.iaload, 1) := by decide +kernel
theorem dX1_scoreOf_64 : decode cX1_scoreOf 64 = .ok (.iadd, 1) := by decide +kernel
theorem dX1_scoreOf_65 : decode cX1_scoreOf 65 = .ok (.istore 4, 2) := by decide +kernel
theorem dX1_scoreOf_67 : decode cX1_scoreOf 67 = .ok (.iinc 5 1, 3) := by decide +kernel
theorem dX1_scoreOf_70 : decode cX1_scoreOf 70 = .ok (.iload 6, 2) := by decide +kernel
theorem dX1_scoreOf_72 : decode cX1_scoreOf 72 = .ok (.bipush 10, 2) := by decide +kernel
theorem dX1_scoreOf_74 : decode cX1_scoreOf 74 = .ok (.idiv, 1) := by decide +kernel
theorem dX1_scoreOf_75 : decode cX1_scoreOf 75 = .ok (.istore 6, 2) := by decide +kernel
theorem dX1_scoreOf_77 : decode cX1_scoreOf 77 = .ok (.goto (-66), 3) := by decide +kernel
theorem dX1_scoreOf_80 : decode cX1_scoreOf 80 = .ok (.iload 4, 2) := by decide +kernel
theorem dX1_scoreOf_82 : decode cX1_scoreOf 82 = .ok (.ireturn, 1) := by decide +kernel
theorem dX2_init_0 : decode cX2_init 0 = .ok (.aload_n 0, 1) := by decide +kernel
theorem dX2_init_1 : decode cX2_init 1 = .ok (.invokespecial 3, 3) := by decide +kernel
theorem dX2_init_4 : decode cX2_init 4 = .ok (.aload_n 0, 1) := by decide +kernel
theorem dX2_init_5 : decode cX2_init 5 = .ok (.new 9, 3) := by decide +kernel
theorem dX2_init_8 : decode cX2_init 8 = .ok (.dup, 1) := by decide +kernel
theorem dX2_init_9 : decode cX2_init 9 = .ok (.invokespecial 11, 3) := by decide +kernel
theorem dX2_init_12 : decode cX2_init 12 = .ok (.putfield 12, 3) := by decide +kernel
theorem dX2_init_15 : decode cX2_init 15 = .ok (.aload_n 0, 1) := by decide +kernel
theorem dX2_init_16 : decode cX2_init 16 = .ok (.new 9, 3) := by decide +kernel
theorem dX2_init_19 : decode cX2_init 19 = .ok (.dup, 1) := by decide +kernel
theorem dX2_init_20 : decode cX2_init 20 = .ok (.invokespecial 11, 3) := by decide +kernel
theorem dX2_init_23 : decode cX2_init 23 = .ok (.putfield 18, 3) := by decide +kernel
theorem dX2_init_26 : decode cX2_init 26 = .ok (.aload_n 0, 1) := by decide +kernel
theorem dX2_init_27 : decode cX2_init 27 = .ok (.new 21, 3) := by decide +kernel
theorem dX2_init_30 : decode cX2_init 30 = .ok (.dup, 1) := by decide +kernel
theorem dX2_init_31 : decode cX2_init 31 = .ok (.iconst 5, 1) := by decide +kernel
theorem dX2_init_32 : decode cX2_init 32 = .ok (.invokespecial 23, 3) := by decide +kernel
theorem dX2_init_35 : decode cX2_init 35 = .ok (.putfield 26, 3) := by decide +kernel
theorem dX2_init_38 : decode cX2_init 38 = .ok (.aload_n 0, 1) := by decide +kernel
theorem dX2_init_39 : decode cX2_init 39 = .ok (.new 21, 3) := by decide +kernel
theorem dX2_init_42 : decode cX2_init 42 = .ok (.dup, 1) := by decide +kernel
theorem dX2_init_43 : decode cX2_init 43 = .ok (.iconst 5, 1) := by decide +kernel
theorem dX2_init_44 : decode cX2_init 44 = .ok (.invokespecial 23, 3) := by decide +kernel
theorem dX2_init_47 : decode cX2_init 47 = .ok (.putfield 30, 3) := by decide +kernel
theorem dX2_init_50 : decode cX2_init 50 = .ok (.return_, 1) := by decide +kernel
theorem dX2_cheapestTo_0 : decode cX2_cheapestTo 0 = .ok (.iload 4, 2) := by decide +kernel
theorem dX2_cheapestTo_2 : decode cX2_cheapestTo 2 = .ok (.istore 5, 2) := by decide +kernel
theorem dX2_cheapestTo_4 : decode cX2_cheapestTo 4 = .ok (.bipush 100, 2) := by decide +kernel
theorem dX2_cheapestTo_6 : decode cX2_cheapestTo 6 = .ok (.istore 6, 2) := by decide +kernel
theorem dX2_cheapestTo_8 : decode cX2_cheapestTo 8 = .ok (.iconst 0, 1) := by decide +kernel
theorem dX2_cheapestTo_9 : decode cX2_cheapestTo 9 = .ok (.istore 7, 2) := by decide +kernel
theorem dX2_cheapestTo_11 : decode cX2_cheapestTo 11 = .ok (.iload 7, 2) := by decide +kernel
theorem dX2_cheapestTo_13 : decode cX2_cheapestTo 13 = .ok (.getstatic 33, 3) := by decide +kernel
theorem dX2_cheapestTo_16 : decode cX2_cheapestTo 16 = .ok (.arraylength, 1) := by decide +kernel
theorem dX2_cheapestTo_17 : decode cX2_cheapestTo 17 = .ok (.if_icmp .ge 54, 3) := by decide +kernel
theorem dX2_cheapestTo_20 : decode cX2_cheapestTo 20 = .ok (.getstatic 33, 3) := by decide +kernel
theorem dX2_cheapestTo_23 : decode cX2_cheapestTo 23 = .ok (.iload 7, 2) := by decide +kernel
theorem dX2_cheapestTo_25 : decode cX2_cheapestTo 25 = .ok (.iaload, 1) := by decide +kernel
theorem dX2_cheapestTo_26 : decode cX2_cheapestTo 26 = .ok (.invokestatic 37, 3) := by decide +kernel
theorem dX2_cheapestTo_29 : decode cX2_cheapestTo 29 = .ok (.istore 8, 2) := by decide +kernel
theorem dX2_cheapestTo_31 : decode cX2_cheapestTo 31 = .ok (.iload 8, 2) := by decide +kernel
theorem dX2_cheapestTo_33 : decode cX2_cheapestTo 33 = .ok (.iload 6, 2) := by decide +kernel
theorem dX2_cheapestTo_35 : decode cX2_cheapestTo 35 = .ok (.if_icmp .ge 30, 3) := by decide +kernel
theorem dX2_cheapestTo_38 : decode cX2_cheapestTo 38 = .ok (.aload_n 2, 1) := by decide +kernel
theorem dX2_cheapestTo_39 : decode cX2_cheapestTo 39 = .ok (.aload_n 1, 1) := by decide +kernel
theorem dX2_cheapestTo_40 : decode cX2_cheapestTo 40 = .ok (.iload_n 3, 1) := by decide +kernel
theorem dX2_cheapestTo_41 : decode cX2_cheapestTo 41 = .ok (.getstatic 33, 3) := by decide +kernel
theorem dX2_cheapestTo_44 : decode cX2_cheapestTo 44 = .ok (.iload 7, 2) := by decide +kernel
theorem dX2_cheapestTo_46 : decode cX2_cheapestTo 46 = .ok (.iaload, 1) := by decide +kernel
theorem dX2_cheapestTo_47 : decode cX2_cheapestTo 47 = .ok (.invokevirtual 41, 3) := by decide +kernel
theorem dX2_cheapestTo_50 : decode cX2_cheapestTo 50 = .ok (.ifCond .eq 15, 3) := by decide +kernel
theorem dX2_cheapestTo_53 : decode cX2_cheapestTo 53 = .ok (.iload 8, 2) := by decide +kernel
theorem dX2_cheapestTo_55 : decode cX2_cheapestTo 55 = .ok (.istore 6, 2) := by decide +kernel
theorem dX2_cheapestTo_57 : decode cX2_cheapestTo 57 = .ok (.getstatic 33, 3) := by decide +kernel
theorem dX2_cheapestTo_60 : decode cX2_cheapestTo 60 = .ok (.iload 7, 2) := by decide +kernel
theorem dX2_cheapestTo_62 : decode cX2_cheapestTo 62 = .ok (.iaload, 1) := by decide +kernel
theorem dX2_cheapestTo_63 : decode cX2_cheapestTo 63 = .ok (.istore 5, 2) := by decide +kernel
theorem dX2_cheapestTo_65 : decode cX2_cheapestTo 65 = .ok (.iinc 7 1, 3) := by decide +kernel
theorem dX2_cheapestTo_68 : decode cX2_cheapestTo 68 = .ok (.goto (-57), 3) := by decide +kernel
theorem dX2_cheapestTo_71 : decode cX2_cheapestTo 71 = .ok (.iload 5, 2) := by decide +kernel
theorem dX2_cheapestTo_73 : decode cX2_cheapestTo 73 = .ok (.ireturn, 1) := by decide +kernel
theorem dX2_isReached_0 : decode cX2_isReached 0 = .ok (.iconst 0, 1) := by decide +kernel
theorem dX2_isReached_1 : decode cX2_isReached 1 = .ok (.istore 4, 2) := by decide +kernel
theorem dX2_isReached_3 : decode cX2_isReached 3 = .ok (.iload 4, 2) := by decide +kernel
theorem dX2_isReached_5 : decode cX2_isReached 5 = .ok (.getstatic 33, 3) := by decide +kernel
theorem dX2_isReached_8 : decode cX2_isReached 8 = .ok (.arraylength, 1) := by decide +kernel
theorem dX2_isReached_9 : decode cX2_isReached 9 = .ok (.if_icmp .ge 26, 3) := by decide +kernel
theorem dX2_isReached_12 : decode cX2_isReached 12 = .ok (.aload_n 2, 1) := by decide +kernel
theorem dX2_isReached_13 : decode cX2_isReached 13 = .ok (.aload_n 1, 1) := by decide +kernel
theorem dX2_isReached_14 : decode cX2_isReached 14 = .ok (.iload_n 3, 1) := by decide +kernel
theorem dX2_isReached_15 : decode cX2_isReached 15 = .ok (.getstatic 33, 3) := by decide +kernel
theorem dX2_isReached_18 : decode cX2_isReached 18 = .ok (.iload 4, 2) := by decide +kernel
theorem dX2_isReached_20 : decode cX2_isReached 20 = .ok (.iaload, 1) := by decide +kernel
theorem dX2_isReached_21 : decode cX2_isReached 21 = .ok (.invokevirtual 41, 3) := by decide +kernel
theorem dX2_isReached_24 : decode cX2_isReached 24 = .ok (.ifCond .eq 5, 3) := by decide +kernel
theorem dX2_isReached_27 : decode cX2_isReached 27 = .ok (.iconst 1, 1) := by decide +kernel
theorem dX2_isReached_28 : decode cX2_isReached 28 = .ok (.ireturn, 1) := by decide +kernel
theorem dX2_isReached_29 : decode cX2_isReached 29 = .ok (.iinc 4 1, 3) := by decide +kernel
theorem dX2_isReached_32 : decode cX2_isReached 32 = .ok (.goto (-29), 3) := by decide +kernel
theorem dX2_isReached_35 : decode cX2_isReached 35 = .ok (.iconst 0, 1) := by decide +kernel
theorem dX2_isReached_36 : decode cX2_isReached 36 = .ok (.ireturn, 1) := by decide +kernel
theorem dX2_reached_0 : decode cX2_reached 0 = .ok (.iconst 0, 1) := by decide +kernel
theorem dX2_reached_1 : decode cX2_reached 1 = .ok (.istore_n 3, 1) := by decide +kernel
theorem dX2_reached_2 : decode cX2_reached 2 = .ok (.iconst 0, 1) := by decide +kernel
theorem dX2_reached_3 : decode cX2_reached 3 = .ok (.istore 4, 2) := by decide +kernel
theorem dX2_reached_5 : decode cX2_reached 5 = .ok (.iload 4, 2) := by decide +kernel
theorem dX2_reached_7 : decode cX2_reached 7 = .ok (.aload_n 1, 1) := by decide +kernel
theorem dX2_reached_8 : decode cX2_reached 8 = .ok (.getfield 47, 3) := by decide +kernel
theorem dX2_reached_11 : decode cX2_reached 11 = .ok (.if_icmp .ge 27, 3) := by decide +kernel
theorem dX2_reached_14 : decode cX2_reached 14 = .ok (.aload_n 0, 1) := by decide +kernel
theorem dX2_reached_15 : decode cX2_reached 15 = .ok (.aload_n 1, 1) := by decide +kernel
theorem dX2_reached_16 : decode cX2_reached 16 = .ok (.aload_n 2, 1) := by decide +kernel
theorem dX2_reached_17 : decode cX2_reached 17 = .ok (.iload 4, 2) := by decide +kernel
theorem dX2_reached_19 : decode cX2_reached 19 = .ok (.invokevirtual 51, 3) := by decide +kernel
theorem dX2_reached_22 : decode cX2_reached 22 = .ok (.ifCond .eq 10, 3) := by decide +kernel
theorem dX2_reached_25 : decode cX2_reached 25 = .ok (.iload_n 3, 1) := by decide +kernel
theorem dX2_reached_26 : decode cX2_reached 26 = .ok (.iconst 1, 1) := by decide +kernel
theorem dX2_reached_27 : decode cX2_reached 27 = .ok (.iload 4, 2) := by decide +kernel
theorem dX2_reached_29 : decode cX2_reached 29 = .ok (.ishl, 1) := by decide +kernel
theorem dX2_reached_30 : decode cX2_reached 30 = .ok (.ior, 1) := by decide +kernel
theorem dX2_reached_31 : decode cX2_reached 31 = .ok (.istore_n 3, 1) := by decide +kernel
theorem dX2_reached_32 : decode cX2_reached 32 = .ok (.iinc 4 1, 3) := by decide +kernel
theorem dX2_reached_35 : decode cX2_reached 35 = .ok (.goto (-30), 3) := by decide +kernel
theorem dX2_reached_38 : decode cX2_reached 38 = .ok (.iload_n 3, 1) := by decide +kernel
theorem dX2_reached_39 : decode cX2_reached 39 = .ok (.ireturn, 1) := by decide +kernel
theorem dX2_costOfOneBefore_0 : decode cX2_costOfOneBefore 0 = .ok (.aload_n 0, 1) := by decide +kernel
theorem dX2_costOfOneBefore_1 : decode cX2_costOfOneBefore 1 = .ok (.getfield 12, 3) := by decide +kernel
theorem dX2_costOfOneBefore_4 : decode cX2_costOfOneBefore 4 = .ok (.aload_n 1, 1) := by decide +kernel
theorem dX2_costOfOneBefore_5 : decode cX2_costOfOneBefore 5 = .ok (.invokevirtual 55, 3) := by decide +kernel
theorem dX2_costOfOneBefore_8 : decode cX2_costOfOneBefore 8 = .ok (.aload_n 0, 1) := by decide +kernel
theorem dX2_costOfOneBefore_9 : decode cX2_costOfOneBefore 9 = .ok (.aload_n 2, 1) := by decide +kernel
theorem dX2_costOfOneBefore_10 : decode cX2_costOfOneBefore 10 = .ok (.iload_n 3, 1) := by decide +kernel
theorem dX2_costOfOneBefore_11 : decode cX2_costOfOneBefore 11 = .ok (.bipush 100, 2) := by decide +kernel
theorem dX2_costOfOneBefore_13 : decode cX2_costOfOneBefore 13 = .ok (.invokevirtual 59, 3) := by decide +kernel
theorem dX2_costOfOneBefore_16 : decode cX2_costOfOneBefore 16 = .ok (.ireturn, 1) := by decide +kernel
theorem dX2_costOfTwoBefore_0 : decode cX2_costOfTwoBefore 0 = .ok (.bipush 100, 2) := by decide +kernel
theorem dX2_costOfTwoBefore_2 : decode cX2_costOfTwoBefore 2 = .ok (.istore 4, 2) := by decide +kernel
theorem dX2_costOfTwoBefore_4 : decode cX2_costOfTwoBefore 4 = .ok (.iconst 0, 1) := by decide +kernel
theorem dX2_costOfTwoBefore_5 : decode cX2_costOfTwoBefore 5 = .ok (.istore 5, 2) := by decide +kernel
theorem dX2_costOfTwoBefore_7 : decode cX2_costOfTwoBefore 7 = .ok (.iload 5, 2) := by decide +kernel
theorem dX2_costOfTwoBefore_9 : decode cX2_costOfTwoBefore 9 = .ok (.getstatic 33, 3) := by decide +kernel
theorem dX2_costOfTwoBefore_12 : decode cX2_costOfTwoBefore 12 = .ok (.arraylength, 1) := by decide +kernel
theorem dX2_costOfTwoBefore_13 : decode cX2_costOfTwoBefore 13 = .ok (.if_icmp .ge 75, 3) := by decide +kernel
theorem dX2_costOfTwoBefore_16 : decode cX2_costOfTwoBefore 16 = .ok (.getstatic 33, 3) := by decide +kernel
theorem dX2_costOfTwoBefore_19 : decode cX2_costOfTwoBefore 19 = .ok (.iload 5, 2) := by decide +kernel
theorem dX2_costOfTwoBefore_21 : decode cX2_costOfTwoBefore 21 = .ok (.iaload, 1) := by decide +kernel
theorem dX2_costOfTwoBefore_22 : decode cX2_costOfTwoBefore 22 = .ok (.invokestatic 37, 3) := by decide +kernel
theorem dX2_costOfTwoBefore_25 : decode cX2_costOfTwoBefore 25 = .ok (.istore 6, 2) := by decide +kernel
theorem dX2_costOfTwoBefore_27 : decode cX2_costOfTwoBefore 27 = .ok (.aload_n 0, 1) := by decide +kernel
theorem dX2_costOfTwoBefore_28 : decode cX2_costOfTwoBefore 28 = .ok (.getfield 12, 3) := by decide +kernel
theorem dX2_costOfTwoBefore_31 : decode cX2_costOfTwoBefore 31 = .ok (.aload_n 1, 1) := by decide +kernel
theorem dX2_costOfTwoBefore_32 : decode cX2_costOfTwoBefore 32 = .ok (.invokevirtual 55, 3) := by decide +kernel
theorem dX2_costOfTwoBefore_35 : decode cX2_costOfTwoBefore 35 = .ok (.iload 6, 2) := by decide +kernel
theorem dX2_costOfTwoBefore_37 : decode cX2_costOfTwoBefore 37 = .ok (.iload 4, 2) := by decide +kernel
theorem dX2_costOfTwoBefore_39 : decode cX2_costOfTwoBefore 39 = .ok (.if_icmp .ge 43, 3) := by decide +kernel
theorem dX2_costOfTwoBefore_42 : decode cX2_costOfTwoBefore 42 = .ok (.aload_n 2, 1) := by decide +kernel
theorem dX2_costOfTwoBefore_43 : decode cX2_costOfTwoBefore 43 = .ok (.aload_n 0, 1) := by decide +kernel
theorem dX2_costOfTwoBefore_44 : decode cX2_costOfTwoBefore 44 = .ok (.getfield 12, 3) := by decide +kernel
theorem dX2_costOfTwoBefore_47 : decode cX2_costOfTwoBefore 47 = .ok (.getstatic 33, 3) := by decide +kernel
theorem dX2_costOfTwoBefore_50 : decode cX2_costOfTwoBefore 50 = .ok (.iload 5, 2) := by decide +kernel
theorem dX2_costOfTwoBefore_52 : decode cX2_costOfTwoBefore 52 = .ok (.iaload, 1) := by decide +kernel
theorem dX2_costOfTwoBefore_53 : decode cX2_costOfTwoBefore 53 = .ok (.invokevirtual 63, 3) := by decide +kernel
theorem dX2_costOfTwoBefore_56 : decode cX2_costOfTwoBefore 56 = .ok (.bipush (-9), 2) := by decide +kernel
theorem dX2_costOfTwoBefore_58 : decode cX2_costOfTwoBefore 58 = .ok (.if_icmp .eq 24, 3) := by decide +kernel
theorem dX2_costOfTwoBefore_61 : decode cX2_costOfTwoBefore 61 = .ok (.iload 4, 2) := by decide +kernel
theorem dX2_costOfTwoBefore_63 : decode cX2_costOfTwoBefore 63 = .ok (.iload 6, 2) := by decide +kernel
theorem dX2_costOfTwoBefore_65 : decode cX2_costOfTwoBefore 65 = .ok (.aload_n 0, 1) := by decide +kernel
theorem dX2_costOfTwoBefore_66 : decode cX2_costOfTwoBefore 66 = .ok (.aload_n 2, 1) := by decide +kernel
theorem dX2_costOfTwoBefore_67 : decode cX2_costOfTwoBefore 67 = .ok (.iload_n 3, 1) := by decide +kernel
theorem dX2_costOfTwoBefore_68 : decode cX2_costOfTwoBefore 68 = .ok (.iload 4, 2) := by decide +kernel
theorem dX2_costOfTwoBefore_70 : decode cX2_costOfTwoBefore 70 = .ok (.iload 6, 2) := by decide +kernel
theorem dX2_costOfTwoBefore_72 : decode cX2_costOfTwoBefore 72 = .ok (.isub, 1) := by decide +kernel
theorem dX2_costOfTwoBefore_73 : decode cX2_costOfTwoBefore 73 = .ok (.invokevirtual 59, 3) := by decide +kernel
theorem dX2_costOfTwoBefore_76 : decode cX2_costOfTwoBefore 76 = .ok (.iadd, 1) := by decide +kernel
theorem dX2_costOfTwoBefore_77 : decode cX2_costOfTwoBefore 77 = .ok (.invokestatic 67, 3) := by decide +kernel
theorem dX2_costOfTwoBefore_80 : decode cX2_costOfTwoBefore 80 = .ok (.istore 4, 2) := by decide +kernel
theorem dX2_costOfTwoBefore_82 : decode cX2_costOfTwoBefore 82 = .ok (.iinc 5 1, 3) := by decide +kernel
theorem dX2_costOfTwoBefore_85 : decode cX2_costOfTwoBefore 85 = .ok (.goto (-78), 3) := by decide +kernel
theorem dX2_costOfTwoBefore_88 : decode cX2_costOfTwoBefore 88 = .ok (.iload 4, 2) := by decide +kernel
theorem dX2_costOfTwoBefore_90 : decode cX2_costOfTwoBefore 90 = .ok (.ireturn, 1) := by decide +kernel
theorem dX2_costOfNext_0 : decode cX2_costOfNext 0 = .ok (.iload_n 3, 1) := by decide +kernel
theorem dX2_costOfNext_1 : decode cX2_costOfNext 1 = .ok (.istore 4, 2) := by decide +kernel
theorem dX2_costOfNext_3 : decode cX2_costOfNext 3 = .ok (.iconst 0, 1) := by decide +kernel
theorem dX2_costOfNext_4 : decode cX2_costOfNext 4 = .ok (.istore 5, 2) := by decide +kernel
theorem dX2_costOfNext_6 : decode cX2_costOfNext 6 = .ok (.iload 5, 2) := by decide +kernel
theorem dX2_costOfNext_8 : decode cX2_costOfNext 8 = .ok (.getstatic 33, 3) := by decide +kernel
theorem dX2_costOfNext_11 : decode cX2_costOfNext 11 = .ok (.arraylength, 1) := by decide +kernel
theorem dX2_costOfNext_12 : decode cX2_costOfNext 12 = .ok (.if_icmp .ge 78, 3) := by decide +kernel
theorem dX2_costOfNext_15 : decode cX2_costOfNext 15 = .ok (.getstatic 33, 3) := by decide +kernel
theorem dX2_costOfNext_18 : decode cX2_costOfNext 18 = .ok (.iload 5, 2) := by decide +kernel
theorem dX2_costOfNext_20 : decode cX2_costOfNext 20 = .ok (.iaload, 1) := by decide +kernel
theorem dX2_costOfNext_21 : decode cX2_costOfNext 21 = .ok (.invokestatic 37, 3) := by decide +kernel
theorem dX2_costOfNext_24 : decode cX2_costOfNext 24 = .ok (.istore 6, 2) := by decide +kernel
theorem dX2_costOfNext_26 : decode cX2_costOfNext 26 = .ok (.iload 6, 2) := by decide +kernel
theorem dX2_costOfNext_28 : decode cX2_costOfNext 28 = .ok (.iload 4, 2) := by decide +kernel
theorem dX2_costOfNext_30 : decode cX2_costOfNext 30 = .ok (.if_icmp .ge 54, 3) := by decide +kernel
theorem dX2_costOfNext_33 : decode cX2_costOfNext 33 = .ok (.aload_n 0, 1) := by decide +kernel
theorem dX2_costOfNext_34 : decode cX2_costOfNext 34 = .ok (.getfield 18, 3) := by decide +kernel
theorem dX2_costOfNext_37 : decode cX2_costOfNext 37 = .ok (.aload_n 0, 1) := by decide +kernel
theorem dX2_costOfNext_38 : decode cX2_costOfNext 38 = .ok (.getfield 12, 3) := by decide +kernel
theorem dX2_costOfNext_41 : decode cX2_costOfNext 41 = .ok (.invokevirtual 55, 3) := by decide +kernel
theorem dX2_costOfNext_44 : decode cX2_costOfNext 44 = .ok (.aload_n 1, 1) := by decide +kernel
theorem dX2_costOfNext_45 : decode cX2_costOfNext 45 = .ok (.aload_n 0, 1) := by decide +kernel
theorem dX2_costOfNext_46 : decode cX2_costOfNext 46 = .ok (.getfield 18, 3) := by decide +kernel
theorem dX2_costOfNext_49 : decode cX2_costOfNext 49 = .ok (.getstatic 33, 3) := by decide +kernel
theorem dX2_costOfNext_52 : decode cX2_costOfNext 52 = .ok (.iload 5, 2) := by decide +kernel
theorem dX2_costOfNext_54 : decode cX2_costOfNext 54 = .ok (.iaload, 1) := by decide +kernel
theorem dX2_costOfNext_55 : decode cX2_costOfNext 55 = .ok (.invokevirtual 63, 3) := by decide +kernel
theorem dX2_costOfNext_58 : decode cX2_costOfNext 58 = .ok (.istore 7, 2) := by decide +kernel
theorem dX2_costOfNext_60 : decode cX2_costOfNext 60 = .ok (.iload 7, 2) := by decide +kernel
theorem dX2_costOfNext_62 : decode cX2_costOfNext 62 = .ok (.bipush (-9), 2) := by decide +kernel
theorem dX2_costOfNext_64 : decode cX2_costOfNext 64 = .ok (.if_icmp .eq 20, 3) := by decide +kernel
theorem dX2_costOfNext_67 : decode cX2_costOfNext 67 = .ok (.aload_n 0, 1) := by decide +kernel
theorem dX2_costOfNext_68 : decode cX2_costOfNext 68 = .ok (.aload_n 0, 1) := by decide +kernel
theorem dX2_costOfNext_69 : decode cX2_costOfNext 69 = .ok (.getfield 18, 3) := by decide +kernel
theorem dX2_costOfNext_72 : decode cX2_costOfNext 72 = .ok (.aload_n 1, 1) := by decide +kernel
theorem dX2_costOfNext_73 : decode cX2_costOfNext 73 = .ok (.iload_n 2, 1) := by decide +kernel
theorem dX2_costOfNext_74 : decode cX2_costOfNext 74 = .ok (.invokevirtual 51, 3) := by decide +kernel
theorem dX2_costOfNext_77 : decode cX2_costOfNext 77 = .ok (.ifCond .eq 7, 3) := by decide +kernel
theorem dX2_costOfNext_80 : decode cX2_costOfNext 80 = .ok (.iload 6, 2) := by decide +kernel
theorem dX2_costOfNext_82 : decode cX2_costOfNext 82 = .ok (.istore 4, 2) := by decide +kernel
theorem dX2_costOfNext_84 : decode cX2_costOfNext 84 = .ok (.iinc 5 1, 3) := by decide +kernel
theorem dX2_costOfNext_87 : decode cX2_costOfNext 87 = .ok (.goto (-81), 3) := by decide +kernel
theorem dX2_costOfNext_90 : decode cX2_costOfNext 90 = .ok (.iload 4, 2) := by decide +kernel
theorem dX2_costOfNext_92 : decode cX2_costOfNext 92 = .ok (.ireturn, 1) := by decide +kernel
theorem dX2_takeLine_0 : decode cX2_takeLine 0 = .ok (.aload_n 0, 1) := by decide +kernel
theorem dX2_takeLine_1 : decode cX2_takeLine 1 = .ok (.getfield 26, 3) := by decide +kernel
theorem dX2_takeLine_4 : decode cX2_takeLine 4 = .ok (.invokevirtual 73, 3) := by decide +kernel
theorem dX2_takeLine_7 : decode cX2_takeLine 7 = .ok (.iload_n 2, 1) := by decide +kernel
theorem dX2_takeLine_8 : decode cX2_takeLine 8 = .ok (.istore 4, 2) := by decide +kernel
theorem dX2_takeLine_10 : decode cX2_takeLine 10 = .ok (.iconst 0, 1) := by decide +kernel
theorem dX2_takeLine_11 : decode cX2_takeLine 11 = .ok (.istore 5, 2) := by decide +kernel
theorem dX2_takeLine_13 : decode cX2_takeLine 13 = .ok (.iconst 0, 1) := by decide +kernel
theorem dX2_takeLine_14 : decode cX2_takeLine 14 = .ok (.istore 6, 2) := by decide +kernel
theorem dX2_takeLine_16 : decode cX2_takeLine 16 = .ok (.iload 6, 2) := by decide +kernel
theorem dX2_takeLine_18 : decode cX2_takeLine 18 = .ok (.iload_n 1, 1) := by decide +kernel
theorem dX2_takeLine_19 : decode cX2_takeLine 19 = .ok (.if_icmp .ge 65, 3) := by decide +kernel
theorem dX2_takeLine_22 : decode cX2_takeLine 22 = .ok (.iload 4, 2) := by decide +kernel
theorem dX2_takeLine_24 : decode cX2_takeLine 24 = .ok (.bipush 10, 2) := by decide +kernel
theorem dX2_takeLine_26 : decode cX2_takeLine 26 = .ok (.irem, 1) := by decide +kernel
theorem dX2_takeLine_27 : decode cX2_takeLine 27 = .ok (.istore 7, 2) := by decide +kernel
theorem dX2_takeLine_29 : decode cX2_takeLine 29 = .ok (.iload 7, 2) := by decide +kernel
theorem dX2_takeLine_31 : decode cX2_takeLine 31 = .ok (.ifCond .lt 20, 3) := by decide +kernel
theorem dX2_takeLine_34 : decode cX2_takeLine 34 = .ok (.iload 7, 2) := by decide +kernel
theorem dX2_takeLine_36 : decode cX2_takeLine 36 = .ok (.iload_n 3, 1) := by decide +kernel
theorem dX2_takeLine_37 : decode cX2_takeLine 37 = .ok (.if_icmp .ge 14, 3) := by decide +kernel
theorem dX2_takeLine_40 : decode cX2_takeLine 40 = .ok (.iload 5, 2) := by decide +kernel
theorem dX2_takeLine_42 : decode cX2_takeLine 42 = .ok (.iload 7, 2) := by decide +kernel
theorem dX2_takeLine_44 : decode cX2_takeLine 44 = .ok (.ishr, 1) := by decide +kernel
theorem dX2_takeLine_45 : decode cX2_takeLine 45 = .ok (.iconst 1, 1) := by decide +kernel
theorem dX2_takeLine_46 : decode cX2_takeLine 46 = .ok (.iand, 1) := by decide +kernel
theorem dX2_takeLine_47 : decode cX2_takeLine 47 = .ok (.iconst 1, 1) := by decide +kernel
theorem dX2_takeLine_48 : decode cX2_takeLine 48 = .ok (.if_icmp .ne 5, 3) := by decide +kernel
theorem dX2_takeLine_51 : decode cX2_takeLine 51 = .ok (.iconst 0, 1) := by decide +kernel
theorem dX2_takeLine_52 : decode cX2_takeLine 52 = .ok (.ireturn, 1) := by decide +kernel
theorem dX2_takeLine_53 : decode cX2_takeLine 53 = .ok (.iload 5, 2) := by decide +kernel
theorem dX2_takeLine_55 : decode cX2_takeLine 55 = .ok (.iconst 1, 1) := by decide +kernel
theorem dX2_takeLine_56 : decode cX2_takeLine 56 = .ok (.iload 7, 2) := by decide +kernel
theorem dX2_takeLine_58 : decode cX2_takeLine 58 = .ok (.ishl, 1) := by decide +kernel
theorem dX2_takeLine_59 : decode cX2_takeLine 59 = .ok (.ior, 1) := by decide +kernel
theorem dX2_takeLine_60 : decode cX2_takeLine 60 = .ok (.istore 5, 2) := by decide +kernel
theorem dX2_takeLine_62 : decode cX2_takeLine 62 = .ok (.aload_n 0, 1) := by decide +kernel
theorem dX2_takeLine_63 : decode cX2_takeLine 63 = .ok (.getfield 26, 3) := by decide +kernel
theorem dX2_takeLine_66 : decode cX2_takeLine 66 = .ok (.iload 7, 2) := by decide +kernel
theorem dX2_takeLine_68 : decode cX2_takeLine 68 = .ok (.invokevirtual 76, 3) := by decide +kernel
theorem dX2_takeLine_71 : decode cX2_takeLine 71 = .ok (.iload 4, 2) := by decide +kernel
theorem dX2_takeLine_73 : decode cX2_takeLine 73 = .ok (.bipush 10, 2) := by decide +kernel
theorem dX2_takeLine_75 : decode cX2_takeLine 75 = .ok (.idiv, 1) := by decide +kernel
theorem dX2_takeLine_76 : decode cX2_takeLine 76 = .ok (.istore 4, 2) := by decide +kernel
theorem dX2_takeLine_78 : decode cX2_takeLine 78 = .ok (.iinc 6 1, 3) := by decide +kernel
theorem dX2_takeLine_81 : decode cX2_takeLine 81 = .ok (.goto (-65), 3) := by decide +kernel
theorem dX2_takeLine_84 : decode cX2_takeLine 84 = .ok (.iconst 1, 1) := by decide +kernel
theorem dX2_takeLine_85 : decode cX2_takeLine 85 = .ok (.ireturn, 1) := by decide +kernel
theorem dX2_lessByLine_0 : decode cX2_lessByLine 0 = .ok (.aload_n 0, 1) := by decide +kernel
theorem dX2_lessByLine_1 : decode cX2_lessByLine 1 = .ok (.getfield 12, 3) := by decide +kernel
theorem dX2_lessByLine_4 : decode cX2_lessByLine 4 = .ok (.aload_n 1, 1) := by decide +kernel
theorem dX2_lessByLine_5 : decode cX2_lessByLine 5 = .ok (.invokevirtual 55, 3) := by decide +kernel
theorem dX2_lessByLine_8 : decode cX2_lessByLine 8 = .ok (.iconst 0, 1) := by decide +kernel
theorem dX2_lessByLine_9 : decode cX2_lessByLine 9 = .ok (.istore 4, 2) := by decide +kernel
theorem dX2_lessByLine_11 : decode cX2_lessByLine 11 = .ok (.iload 4, 2) := by decide +kernel
theorem dX2_lessByLine_13 : decode cX2_lessByLine 13 = .ok (.aload_n 0, 1) := by decide +kernel
theorem dX2_lessByLine_14 : decode cX2_lessByLine 14 = .ok (.getfield 26, 3) := by decide +kernel
theorem dX2_lessByLine_17 : decode cX2_lessByLine 17 = .ok (.getfield 79, 3) := by decide +kernel
theorem dX2_lessByLine_20 : decode cX2_lessByLine 20 = .ok (.if_icmp .ge 31, 3) := by decide +kernel
theorem dX2_lessByLine_23 : decode cX2_lessByLine 23 = .ok (.aload_n 2, 1) := by decide +kernel
theorem dX2_lessByLine_24 : decode cX2_lessByLine 24 = .ok (.aload_n 0, 1) := by decide +kernel
theorem dX2_lessByLine_25 : decode cX2_lessByLine 25 = .ok (.getfield 12, 3) := by decide +kernel
theorem dX2_lessByLine_28 : decode cX2_lessByLine 28 = .ok (.aload_n 3, 1) := by decide +kernel
theorem dX2_lessByLine_29 : decode cX2_lessByLine 29 = .ok (.aload_n 0, 1) := by decide +kernel
theorem dX2_lessByLine_30 : decode cX2_lessByLine 30 = .ok (.getfield 26, 3) := by decide +kernel
theorem dX2_lessByLine_33 : decode cX2_lessByLine 33 = .ok (.iload 4, 2) := by decide +kernel
theorem dX2_lessByLine_35 : decode cX2_lessByLine 35 = .ok (.invokevirtual 80, 3) := by decide +kernel
theorem dX2_lessByLine_38 : decode cX2_lessByLine 38 = .ok (.invokevirtual 80, 3) := by decide +kernel
theorem dX2_lessByLine_41 : decode cX2_lessByLine 41 = .ok (.invokevirtual 63, 3) := by decide +kernel
theorem dX2_lessByLine_44 : decode cX2_lessByLine 44 = .ok (.pop, 1) := by decide +kernel
theorem dX2_lessByLine_45 : decode cX2_lessByLine 45 = .ok (.iinc 4 1, 3) := by decide +kernel
theorem dX2_lessByLine_48 : decode cX2_lessByLine 48 = .ok (.goto (-37), 3) := by decide +kernel
theorem dX2_lessByLine_51 : decode cX2_lessByLine 51 = .ok (.aload_n 1, 1) := by decide +kernel
theorem dX2_lessByLine_52 : decode cX2_lessByLine 52 = .ok (.invokevirtual 83, 3) := by decide +kernel
theorem dX2_lessByLine_55 : decode cX2_lessByLine 55 = .ok (.aload_n 0, 1) := by decide +kernel
theorem dX2_lessByLine_56 : decode cX2_lessByLine 56 = .ok (.getfield 12, 3) := by decide +kernel
theorem dX2_lessByLine_59 : decode cX2_lessByLine 59 = .ok (.invokevirtual 83, 3) := by decide +kernel
theorem dX2_lessByLine_62 : decode cX2_lessByLine 62 = .ok (.isub, 1) := by decide +kernel
theorem dX2_lessByLine_63 : decode cX2_lessByLine 63 = .ok (.ireturn, 1) := by decide +kernel
theorem dX2_findBestLine_0 : decode cX2_findBestLine 0 = .ok (.aload_n 0, 1) := by decide +kernel
theorem dX2_findBestLine_1 : decode cX2_findBestLine 1 = .ok (.getfield 26, 3) := by decide +kernel
theorem dX2_findBestLine_4 : decode cX2_findBestLine 4 = .ok (.invokevirtual 73, 3) := by decide +kernel
theorem dX2_findBestLine_7 : decode cX2_findBestLine 7 = .ok (.iconst 0, 1) := by decide +kernel
theorem dX2_findBestLine_8 : decode cX2_findBestLine 8 = .ok (.istore 4, 2) := by decide +kernel
theorem dX2_findBestLine_10 : decode cX2_findBestLine 10 = .ok (.iload 4, 2) := by decide +kernel
theorem dX2_findBestLine_12 : decode cX2_findBestLine 12 = .ok (.aload_n 3, 1) := by decide +kernel
theorem dX2_findBestLine_13 : decode cX2_findBestLine 13 = .ok (.getfield 79, 3) := by decide +kernel
theorem dX2_findBestLine_16 : decode cX2_findBestLine 16 = .ok (.if_icmp .ge 18, 3) := by decide +kernel
theorem dX2_findBestLine_19 : decode cX2_findBestLine 19 = .ok (.aload_n 0, 1) := by decide +kernel
theorem dX2_findBestLine_20 : decode cX2_findBestLine 20 = .ok (.getfield 26, 3) := by decide +kernel
theorem dX2_findBestLine_23 : decode cX2_findBestLine 23 = .ok (.iload 4, 2) := by decide +kernel
theorem dX2_findBestLine_25 : decode cX2_findBestLine 25 = .ok (.invokevirtual 76, 3) := by decide +kernel
theorem dX2_findBestLine_28 : decode cX2_findBestLine 28 = .ok (.iinc 4 1, 3) := by decide +kernel
theorem dX2_findBestLine_31 : decode cX2_findBestLine 31 = .ok (.goto (-21), 3) := by decide +kernel
theorem dX2_findBestLine_34 : decode cX2_findBestLine 34 = .ok (.iconst (-1), 1) := by decide +kernel
theorem dX2_findBestLine_35 : decode cX2_findBestLine 35 = .ok (.istore 4, 2) := by decide +kernel
theorem dX2_findBestLine_37 : decode cX2_findBestLine 37 = .ok (.iconst 0, 1) := by decide +kernel
theorem dX2_findBestLine_38 : decode cX2_findBestLine 38 = .ok (.istore 5, 2) := by decide +kernel
theorem dX2_findBestLine_40 : decode cX2_findBestLine 40 = .ok (.iload 5, 2) := by decide +kernel
theorem dX2_findBestLine_42 : decode cX2_findBestLine 42 = .ok (.bipush 120, 2) := by decide +kernel
theorem dX2_findBestLine_44 : decode cX2_findBestLine 44 = .ok (.if_icmp .ge 52, 3) := by decide +kernel
theorem dX2_findBestLine_47 : decode cX2_findBestLine 47 = .ok (.iload 5, 2) := by decide +kernel
theorem dX2_findBestLine_49 : decode cX2_findBestLine 49 = .ok (.ifCond .eq 10, 3) := by decide +kernel
theorem dX2_findBestLine_52 : decode cX2_findBestLine 52 = .ok (.aload_n 0, 1) := by decide +kernel
theorem dX2_findBestLine_53 : decode cX2_findBestLine 53 = .ok (.invokevirtual 87, 3) := by decide +kernel
theorem dX2_findBestLine_56 : decode cX2_findBestLine 56 = .ok (.ifCond .eq 40, 3) := by decide +kernel
theorem dX2_findBestLine_59 : decode cX2_findBestLine 59 = .ok (.aload_n 0, 1) := by decide +kernel
theorem dX2_findBestLine_60 : decode cX2_findBestLine 60 = .ok (.aload_n 1, 1) := by decide +kernel
theorem dX2_findBestLine_61 : decode cX2_findBestLine 61 = .ok (.aload_n 2, 1) := by decide +kernel
theorem dX2_findBestLine_62 : decode cX2_findBestLine 62 = .ok (.aload_n 3, 1) := by decide +kernel
theorem dX2_findBestLine_63 : decode cX2_findBestLine 63 = .ok (.invokevirtual 91, 3) := by decide +kernel
theorem dX2_findBestLine_66 : decode cX2_findBestLine 66 = .ok (.istore 6, 2) := by decide +kernel
theorem dX2_findBestLine_68 : decode cX2_findBestLine 68 = .ok (.iload 6, 2) := by decide +kernel
theorem dX2_findBestLine_70 : decode cX2_findBestLine 70 = .ok (.iload 4, 2) := by decide +kernel
theorem dX2_findBestLine_72 : decode cX2_findBestLine 72 = .ok (.if_icmp .le 18, 3) := by decide +kernel
theorem dX2_findBestLine_75 : decode cX2_findBestLine 75 = .ok (.iload 6, 2) := by decide +kernel
theorem dX2_findBestLine_77 : decode cX2_findBestLine 77 = .ok (.istore 4, 2) := by decide +kernel
theorem dX2_findBestLine_79 : decode cX2_findBestLine 79 = .ok (.aload_n 0, 1) := by decide +kernel
theorem dX2_findBestLine_80 : decode cX2_findBestLine 80 = .ok (.getfield 30, 3) := by decide +kernel
theorem dX2_findBestLine_83 : decode cX2_findBestLine 83 = .ok (.aload_n 0, 1) := by decide +kernel
theorem dX2_findBestLine_84 : decode cX2_findBestLine 84 = .ok (.getfield 26, 3) := by decide +kernel
theorem dX2_findBestLine_87 : decode cX2_findBestLine 87 = .ok (.invokevirtual 95, 3) := by decide +kernel
theorem dX2_findBestLine_90 : decode cX2_findBestLine 90 = .ok (.iinc 5 1, 3) := by decide +kernel
theorem dX2_findBestLine_93 : decode cX2_findBestLine 93 = .ok (.goto (-53), 3) := by decide +kernel
theorem dX2_findBestLine_96 : decode cX2_findBestLine 96 = .ok (.iload 4, 2) := by decide +kernel
theorem dX2_findBestLine_98 : decode cX2_findBestLine 98 = .ok (.ireturn, 1) := by decide +kernel
theorem dX2_stepLine_0 : decode cX2_stepLine 0 = .ok (.aload_n 0, 1) := by decide +kernel
theorem dX2_stepLine_1 : decode cX2_stepLine 1 = .ok (.getfield 26, 3) := by decide +kernel
theorem dX2_stepLine_4 : decode cX2_stepLine 4 = .ok (.getfield 79, 3) := by decide +kernel
theorem dX2_stepLine_7 : decode cX2_stepLine 7 = .ok (.iconst 2, 1) := by decide +kernel
theorem dX2_stepLine_8 : decode cX2_stepLine 8 = .ok (.isub, 1) := by decide +kernel
theorem dX2_stepLine_9 : decode cX2_stepLine 9 = .ok (.istore_n 1, 1) := by decide +kernel
theorem dX2_stepLine_10 : decode cX2_stepLine 10 = .ok (.iload_n 1, 1) := by decide +kernel
theorem dX2_stepLine_11 : decode cX2_stepLine 11 = .ok (.ifCond .lt 30, 3) := by decide +kernel
theorem dX2_stepLine_14 : decode cX2_stepLine 14 = .ok (.aload_n 0, 1) := by decide +kernel
theorem dX2_stepLine_15 : decode cX2_stepLine 15 = .ok (.getfield 26, 3) := by decide +kernel
theorem dX2_stepLine_18 : decode cX2_stepLine 18 = .ok (.iload_n 1, 1) := by decide +kernel
theorem dX2_stepLine_19 : decode cX2_stepLine 19 = .ok (.invokevirtual 80, 3) := by decide +kernel
theorem dX2_stepLine_22 : decode cX2_stepLine 22 = .ok (.aload_n 0, 1) := by decide +kernel
theorem dX2_stepLine_23 : decode cX2_stepLine 23 = .ok (.getfield 26, 3) := by decide +kernel
theorem dX2_stepLine_26 : decode cX2_stepLine 26 = .ok (.iload_n 1, 1) := by decide +kernel
theorem dX2_stepLine_27 : decode cX2_stepLine 27 = .ok (.iconst 1, 1) := by decide +kernel
theorem dX2_stepLine_28 : decode cX2_stepLine 28 = .ok (.iadd, 1) := by decide +kernel
theorem dX2_stepLine_29 : decode cX2_stepLine 29 = .ok (.invokevirtual 80, 3) := by decide +kernel
theorem dX2_stepLine_32 : decode cX2_stepLine 32 = .ok (.if_icmp .le 9, 3) := by decide +kernel
theorem dX2_stepLine_35 : decode cX2_stepLine 35 = .ok (.iinc 1 (-1), 3) := by decide +kernel
theorem dX2_stepLine_38 : decode cX2_stepLine 38 = .ok (.goto (-28), 3) := by decide +kernel
theorem dX2_stepLine_41 : decode cX2_stepLine 41 = .ok (.iload_n 1, 1) := by decide +kernel
theorem dX2_stepLine_42 : decode cX2_stepLine 42 = .ok (.ifCond .ge 5, 3) := by decide +kernel
theorem dX2_stepLine_45 : decode cX2_stepLine 45 = .ok (.iconst 0, 1) := by decide +kernel
theorem dX2_stepLine_46 : decode cX2_stepLine 46 = .ok (.ireturn, 1) := by decide +kernel
theorem dX2_stepLine_47 : decode cX2_stepLine 47 = .ok (.aload_n 0, 1) := by decide +kernel
theorem dX2_stepLine_48 : decode cX2_stepLine 48 = .ok (.getfield 26, 3) := by decide +kernel
theorem dX2_stepLine_51 : decode cX2_stepLine 51 = .ok (.getfield 79, 3) := by decide +kernel
theorem dX2_stepLine_54 : decode cX2_stepLine 54 = .ok (.iconst 1, 1) := by decide +kernel
theorem dX2_stepLine_55 : decode cX2_stepLine 55 = .ok (.isub, 1) := by decide +kernel
theorem dX2_stepLine_56 : decode cX2_stepLine 56 = .ok (.istore_n 2, 1) := by decide +kernel
theorem dX2_stepLine_57 : decode cX2_stepLine 57 = .ok (.iload_n 2, 1) := by decide +kernel
theorem dX2_stepLine_58 : decode cX2_stepLine 58 = .ok (.iload_n 1, 1) := by decide +kernel
theorem dX2_stepLine_59 : decode cX2_stepLine 59 = .ok (.if_icmp .le 28, 3) := by decide +kernel
theorem dX2_stepLine_62 : decode cX2_stepLine 62 = .ok (.aload_n 0, 1) := by decide +kernel
theorem dX2_stepLine_63 : decode cX2_stepLine 63 = .ok (.getfield 26, 3) := by decide +kernel
theorem dX2_stepLine_66 : decode cX2_stepLine 66 = .ok (.iload_n 2, 1) := by decide +kernel
theorem dX2_stepLine_67 : decode cX2_stepLine 67 = .ok (.invokevirtual 80, 3) := by decide +kernel
theorem dX2_stepLine_70 : decode cX2_stepLine 70 = .ok (.aload_n 0, 1) := by decide +kernel
theorem dX2_stepLine_71 : decode cX2_stepLine 71 = .ok (.getfield 26, 3) := by decide +kernel
theorem dX2_stepLine_74 : decode cX2_stepLine 74 = .ok (.iload_n 1, 1) := by decide +kernel
theorem dX2_stepLine_75 : decode cX2_stepLine 75 = .ok (.invokevirtual 80, 3) := by decide +kernel
theorem dX2_stepLine_78 : decode cX2_stepLine 78 = .ok (.if_icmp .ge 9, 3) := by decide +kernel
theorem dX2_stepLine_81 : decode cX2_stepLine 81 = .ok (.iinc 2 (-1), 3) := by decide +kernel
theorem dX2_stepLine_84 : decode cX2_stepLine 84 = .ok (.goto (-27), 3) := by decide +kernel
theorem dX2_stepLine_87 : decode cX2_stepLine 87 = .ok (.aload_n 0, 1) := by decide +kernel
theorem dX2_stepLine_88 : decode cX2_stepLine 88 = .ok (.iload_n 1, 1) := by decide +kernel
theorem dX2_stepLine_89 : decode cX2_stepLine 89 = .ok (.iload_n 2, 1) := by decide +kernel
theorem dX2_stepLine_90 : decode cX2_stepLine 90 = .ok (.invokevirtual 98, 3) := by decide +kernel
theorem dX2_stepLine_93 : decode cX2_stepLine 93 = .ok (.aload_n 0, 1) := by decide +kernel
theorem dX2_stepLine_94 : decode cX2_stepLine 94 = .ok (.getfield 26, 3) := by decide +kernel
theorem dX2_stepLine_97 : decode cX2_stepLine 97 = .ok (.getfield 79, 3) := by decide +kernel
theorem dX2_stepLine_100 : decode cX2_stepLine 100 = .ok (.iconst 1, 1) := by decide +kernel
theorem dX2_stepLine_101 : decode cX2_stepLine 101 = .ok (.isub, 1) := by decide +kernel
theorem dX2_stepLine_102 : decode cX2_stepLine 102 = .ok (.istore_n 3, 1) := by decide +kernel
theorem dX2_stepLine_103 : decode cX2_stepLine 103 = .ok (.iload_n 1, 1) := by decide +kernel
theorem dX2_stepLine_104 : decode cX2_stepLine 104 = .ok (.iconst 1, 1) := by decide +kernel
theorem dX2_stepLine_105 : decode cX2_stepLine 105 = .ok (.iadd, 1) := by decide +kernel
theorem dX2_stepLine_106 : decode cX2_stepLine 106 = .ok (.istore 4, 2) := by decide +kernel
theorem dX2_stepLine_108 : decode cX2_stepLine 108 = .ok (.iload 4, 2) := by decide +kernel
theorem dX2_stepLine_110 : decode cX2_stepLine 110 = .ok (.iload_n 3, 1) := by decide +kernel
theorem dX2_stepLine_111 : decode cX2_stepLine 111 = .ok (.if_icmp .ge 19, 3) := by decide +kernel
theorem dX2_stepLine_114 : decode cX2_stepLine 114 = .ok (.aload_n 0, 1) := by decide +kernel
theorem dX2_stepLine_115 : decode cX2_stepLine 115 = .ok (.iload 4, 2) := by decide +kernel
theorem dX2_stepLine_117 : decode cX2_stepLine 117 = .ok (.iload_n 3, 1) := by decide +kernel
theorem dX2_stepLine_118 : decode cX2_stepLine 118 = .ok (.invokevirtual 98, 3) := by decide +kernel
theorem dX2_stepLine_121 : decode cX2_stepLine 121 = .ok (.iinc 3 (-1), 3) := by decide +kernel
theorem dX2_stepLine_124 : decode cX2_stepLine 124 = .ok (.iinc 4 1, 3) := by decide +kernel
theorem dX2_stepLine_127 : decode cX2_stepLine 127 = .ok (.goto (-19), 3) := by decide +kernel
theorem dX2_stepLine_130 : decode cX2_stepLine 130 = .ok (.iconst 1, 1) := by decide +kernel
theorem dX2_stepLine_131 : decode cX2_stepLine 131 = .ok (.ireturn, 1) := by decide +kernel
theorem dX2_swapInLine_0 : decode cX2_swapInLine 0 = .ok (.aload_n 0, 1) := by decide +kernel
theorem dX2_swapInLine_1 : decode cX2_swapInLine 1 = .ok (.getfield 26, 3) := by decide +kernel
theorem dX2_swapInLine_4 : decode cX2_swapInLine 4 = .ok (.iload_n 1, 1) := by decide +kernel
theorem dX2_swapInLine_5 : decode cX2_swapInLine 5 = .ok (.invokevirtual 80, 3) := by decide +kernel
theorem dX2_swapInLine_8 : decode cX2_swapInLine 8 = .ok (.istore_n 3, 1) := by decide +kernel
theorem dX2_swapInLine_9 : decode cX2_swapInLine 9 = .ok (.aload_n 0, 1) := by decide +kernel
theorem dX2_swapInLine_10 : decode cX2_swapInLine 10 = .ok (.getfield 26, 3) := by decide +kernel
theorem dX2_swapInLine_13 : decode cX2_swapInLine 13 = .ok (.iload_n 1, 1) := by decide +kernel
theorem dX2_swapInLine_14 : decode cX2_swapInLine 14 = .ok (.aload_n 0, 1) := by decide +kernel
theorem dX2_swapInLine_15 : decode cX2_swapInLine 15 = .ok (.getfield 26, 3) := by decide +kernel
theorem dX2_swapInLine_18 : decode cX2_swapInLine 18 = .ok (.iload_n 2, 1) := by decide +kernel
theorem dX2_swapInLine_19 : decode cX2_swapInLine 19 = .ok (.invokevirtual 80, 3) := by decide +kernel
theorem dX2_swapInLine_22 : decode cX2_swapInLine 22 = .ok (.invokevirtual 102, 3) := by decide +kernel
theorem dX2_swapInLine_25 : decode cX2_swapInLine 25 = .ok (.aload_n 0, 1) := by decide +kernel
theorem dX2_swapInLine_26 : decode cX2_swapInLine 26 = .ok (.getfield 26, 3) := by decide +kernel
theorem dX2_swapInLine_29 : decode cX2_swapInLine 29 = .ok (.iload_n 2, 1) := by decide +kernel
theorem dX2_swapInLine_30 : decode cX2_swapInLine 30 = .ok (.iload_n 3, 1) := by decide +kernel
theorem dX2_swapInLine_31 : decode cX2_swapInLine 31 = .ok (.invokevirtual 102, 3) := by decide +kernel
theorem dX2_swapInLine_34 : decode cX2_swapInLine 34 = .ok (.return_, 1) := by decide +kernel
theorem dX2_lessByGreed_0 : decode cX2_lessByGreed 0 = .ok (.aload_n 0, 1) := by decide +kernel
theorem dX2_lessByGreed_1 : decode cX2_lessByGreed 1 = .ok (.getfield 12, 3) := by decide +kernel
theorem dX2_lessByGreed_4 : decode cX2_lessByGreed 4 = .ok (.aload_n 1, 1) := by decide +kernel
theorem dX2_lessByGreed_5 : decode cX2_lessByGreed 5 = .ok (.invokevirtual 55, 3) := by decide +kernel
theorem dX2_lessByGreed_8 : decode cX2_lessByGreed 8 = .ok (.iconst 0, 1) := by decide +kernel
theorem dX2_lessByGreed_9 : decode cX2_lessByGreed 9 = .ok (.istore 4, 2) := by decide +kernel
theorem dX2_lessByGreed_11 : decode cX2_lessByGreed 11 = .ok (.iconst 0, 1) := by decide +kernel
theorem dX2_lessByGreed_12 : decode cX2_lessByGreed 12 = .ok (.istore 5, 2) := by decide +kernel
theorem dX2_lessByGreed_14 : decode cX2_lessByGreed 14 = .ok (.iload 5, 2) := by decide +kernel
theorem dX2_lessByGreed_16 : decode cX2_lessByGreed 16 = .ok (.aload_n 3, 1) := by decide +kernel
theorem dX2_lessByGreed_17 : decode cX2_lessByGreed 17 = .ok (.getfield 79, 3) := by decide +kernel
theorem dX2_lessByGreed_20 : decode cX2_lessByGreed 20 = .ok (.if_icmp .ge 43, 3) := by decide +kernel
theorem dX2_lessByGreed_23 : decode cX2_lessByGreed 23 = .ok (.aload_n 0, 1) := by decide +kernel
theorem dX2_lessByGreed_24 : decode cX2_lessByGreed 24 = .ok (.aload_n 2, 1) := by decide +kernel
theorem dX2_lessByGreed_25 : decode cX2_lessByGreed 25 = .ok (.aload_n 3, 1) := by decide +kernel
theorem dX2_lessByGreed_26 : decode cX2_lessByGreed 26 = .ok (.iload 4, 2) := by decide +kernel
theorem dX2_lessByGreed_28 : decode cX2_lessByGreed 28 = .ok (.invokevirtual 105, 3) := by decide +kernel
theorem dX2_lessByGreed_31 : decode cX2_lessByGreed 31 = .ok (.istore 6, 2) := by decide +kernel
theorem dX2_lessByGreed_33 : decode cX2_lessByGreed 33 = .ok (.iload 4, 2) := by decide +kernel
theorem dX2_lessByGreed_35 : decode cX2_lessByGreed 35 = .ok (.iconst 1, 1) := by decide +kernel
theorem dX2_lessByGreed_36 : decode cX2_lessByGreed 36 = .ok (.iload 6, 2) := by decide +kernel
theorem dX2_lessByGreed_38 : decode cX2_lessByGreed 38 = .ok (.ishl, 1) := by decide +kernel
theorem dX2_lessByGreed_39 : decode cX2_lessByGreed 39 = .ok (.ior, 1) := by decide +kernel
theorem dX2_lessByGreed_40 : decode cX2_lessByGreed 40 = .ok (.istore 4, 2) := by decide +kernel
theorem dX2_lessByGreed_42 : decode cX2_lessByGreed 42 = .ok (.aload_n 2, 1) := by decide +kernel
theorem dX2_lessByGreed_43 : decode cX2_lessByGreed 43 = .ok (.aload_n 0, 1) := by decide +kernel
theorem dX2_lessByGreed_44 : decode cX2_lessByGreed 44 = .ok (.getfield 12, 3) := by decide +kernel
theorem dX2_lessByGreed_47 : decode cX2_lessByGreed 47 = .ok (.aload_n 3, 1) := by decide +kernel
theorem dX2_lessByGreed_48 : decode cX2_lessByGreed 48 = .ok (.iload 6, 2) := by decide +kernel
theorem dX2_lessByGreed_50 : decode cX2_lessByGreed 50 = .ok (.invokevirtual 80, 3) := by decide +kernel
theorem dX2_lessByGreed_53 : decode cX2_lessByGreed 53 = .ok (.invokevirtual 63, 3) := by decide +kernel
theorem dX2_lessByGreed_56 : decode cX2_lessByGreed 56 = .ok (.pop, 1) := by decide +kernel
theorem dX2_lessByGreed_57 : decode cX2_lessByGreed 57 = .ok (.iinc 5 1, 3) := by decide +kernel
theorem dX2_lessByGreed_60 : decode cX2_lessByGreed 60 = .ok (.goto (-46), 3) := by decide +kernel
theorem dX2_lessByGreed_63 : decode cX2_lessByGreed 63 = .ok (.aload_n 1, 1) := by decide +kernel
theorem dX2_lessByGreed_64 : decode cX2_lessByGreed 64 = .ok (.invokevirtual 83, 3) := by decide +kernel
theorem dX2_lessByGreed_67 : decode cX2_lessByGreed 67 = .ok (.aload_n 0, 1) := by decide +kernel
theorem dX2_lessByGreed_68 : decode cX2_lessByGreed 68 = .ok (.getfield 12, 3) := by decide +kernel
theorem dX2_lessByGreed_71 : decode cX2_lessByGreed 71 = .ok (.invokevirtual 83, 3) := by decide +kernel
theorem dX2_lessByGreed_74 : decode cX2_lessByGreed 74 = .ok (.isub, 1) := by decide +kernel
theorem dX2_lessByGreed_75 : decode cX2_lessByGreed 75 = .ok (.ireturn, 1) := by decide +kernel
theorem dX2_greediest_0 : decode cX2_greediest 0 = .ok (.iconst 0, 1) := by decide +kernel
theorem dX2_greediest_1 : decode cX2_greediest 1 = .ok (.istore 4, 2) := by decide +kernel
theorem dX2_greediest_3 : decode cX2_greediest 3 = .ok (.iconst (-1), 1) := by decide +kernel
theorem dX2_greediest_4 : decode cX2_greediest 4 = .ok (.istore 5, 2) := by decide +kernel
theorem dX2_greediest_6 : decode cX2_greediest 6 = .ok (.iconst 0, 1) := by decide +kernel
theorem dX2_greediest_7 : decode cX2_greediest 7 = .ok (.istore 6, 2) := by decide +kernel
theorem dX2_greediest_9 : decode cX2_greediest 9 = .ok (.iload 6, 2) := by decide +kernel
theorem dX2_greediest_11 : decode cX2_greediest 11 = .ok (.aload_n 2, 1) := by decide +kernel
theorem dX2_greediest_12 : decode cX2_greediest 12 = .ok (.getfield 79, 3) := by decide +kernel
theorem dX2_greediest_15 : decode cX2_greediest 15 = .ok (.if_icmp .ge 76, 3) := by decide +kernel
theorem dX2_greediest_18 : decode cX2_greediest 18 = .ok (.iload_n 3, 1) := by decide +kernel
theorem dX2_greediest_19 : decode cX2_greediest 19 = .ok (.iload 6, 2) := by decide +kernel
theorem dX2_greediest_21 : decode cX2_greediest 21 = .ok (.ishr, 1) := by decide +kernel
theorem dX2_greediest_22 : decode cX2_greediest 22 = .ok (.iconst 1, 1) := by decide +kernel
theorem dX2_greediest_23 : decode cX2_greediest 23 = .ok (.iand, 1) := by decide +kernel
theorem dX2_greediest_24 : decode cX2_greediest 24 = .ok (.ifCond .ne 61, 3) := by decide +kernel
theorem dX2_greediest_27 : decode cX2_greediest 27 = .ok (.aload_n 0, 1) := by decide +kernel
theorem dX2_greediest_28 : decode cX2_greediest 28 = .ok (.getfield 18, 3) := by decide +kernel
theorem dX2_greediest_31 : decode cX2_greediest 31 = .ok (.aload_n 0, 1) := by decide +kernel
theorem dX2_greediest_32 : decode cX2_greediest 32 = .ok (.getfield 12, 3) := by decide +kernel
theorem dX2_greediest_35 : decode cX2_greediest 35 = .ok (.invokevirtual 55, 3) := by decide +kernel
theorem dX2_greediest_38 : decode cX2_greediest 38 = .ok (.aload_n 1, 1) := by decide +kernel
theorem dX2_greediest_39 : decode cX2_greediest 39 = .ok (.aload_n 0, 1) := by decide +kernel
theorem dX2_greediest_40 : decode cX2_greediest 40 = .ok (.getfield 18, 3) := by decide +kernel
theorem dX2_greediest_43 : decode cX2_greediest 43 = .ok (.aload_n 2, 1) := by decide +kernel
theorem dX2_greediest_44 : decode cX2_greediest 44 = .ok (.iload 6, 2) := by decide +kernel
theorem dX2_greediest_46 : decode cX2_greediest 46 = .ok (.invokevirtual 80, 3) := by decide +kernel
theorem dX2_greediest_49 : decode cX2_greediest 49 = .ok (.invokevirtual 63, 3) := by decide +kernel
theorem dX2_greediest_52 : decode cX2_greediest 52 = .ok (.pop, 1) := by decide +kernel
theorem dX2_greediest_53 : decode cX2_greediest 53 = .ok (.aload_n 0, 1) := by decide +kernel
theorem dX2_greediest_54 : decode cX2_greediest 54 = .ok (.getfield 12, 3) := by decide +kernel
theorem dX2_greediest_57 : decode cX2_greediest 57 = .ok (.invokevirtual 83, 3) := by decide +kernel
theorem dX2_greediest_60 : decode cX2_greediest 60 = .ok (.aload_n 0, 1) := by decide +kernel
theorem dX2_greediest_61 : decode cX2_greediest 61 = .ok (.getfield 18, 3) := by decide +kernel
theorem dX2_greediest_64 : decode cX2_greediest 64 = .ok (.invokevirtual 83, 3) := by decide +kernel
theorem dX2_greediest_67 : decode cX2_greediest 67 = .ok (.isub, 1) := by decide +kernel
theorem dX2_greediest_68 : decode cX2_greediest 68 = .ok (.istore 7, 2) := by decide +kernel
theorem dX2_greediest_70 : decode cX2_greediest 70 = .ok (.iload 7, 2) := by decide +kernel
theorem dX2_greediest_72 : decode cX2_greediest 72 = .ok (.iload 5, 2) := by decide +kernel
theorem dX2_greediest_74 : decode cX2_greediest 74 = .ok (.if_icmp .le 11, 3) := by decide +kernel
theorem dX2_greediest_77 : decode cX2_greediest 77 = .ok (.iload 7, 2) := by decide +kernel
theorem dX2_greediest_79 : decode cX2_greediest 79 = .ok (.istore 5, 2) := by decide +kernel
theorem dX2_greediest_81 : decode cX2_greediest 81 = .ok (.iload 6, 2) := by decide +kernel
theorem dX2_greediest_83 : decode cX2_greediest 83 = .ok (.istore 4, 2) := by decide +kernel
theorem dX2_greediest_85 : decode cX2_greediest 85 = .ok (.iinc 6 1, 3) := by decide +kernel
theorem dX2_greediest_88 : decode cX2_greediest 88 = .ok (.goto (-79), 3) := by decide +kernel
theorem dX2_greediest_91 : decode cX2_greediest 91 = .ok (.iload 4, 2) := by decide +kernel
theorem dX2_greediest_93 : decode cX2_greediest 93 = .ok (.ireturn, 1) := by decide +kernel
theorem dX2_timesTillHad_0 : decode cX2_timesTillHad 0 = .ok (.aload_n 0, 1) := by decide +kernel
theorem dX2_timesTillHad_1 : decode cX2_timesTillHad 1 = .ok (.getfield 12, 3) := by decide +kernel
theorem dX2_timesTillHad_4 : decode cX2_timesTillHad 4 = .ok (.aload_n 1, 1) := by decide +kernel
theorem dX2_timesTillHad_5 : decode cX2_timesTillHad 5 = .ok (.invokevirtual 55, 3) := by decide +kernel
theorem dX2_timesTillHad_8 : decode cX2_timesTillHad 8 = .ok (.iconst 0, 1) := by decide +kernel
theorem dX2_timesTillHad_9 : decode cX2_timesTillHad 9 = .ok (.istore 5, 2) := by decide +kernel
theorem dX2_timesTillHad_11 : decode cX2_timesTillHad 11 = .ok (.iconst 0, 1) := by decide +kernel
theorem dX2_timesTillHad_12 : decode cX2_timesTillHad 12 = .ok (.istore 6, 2) := by decide +kernel
theorem dX2_timesTillHad_14 : decode cX2_timesTillHad 14 = .ok (.iload 6, 2) := by decide +kernel
theorem dX2_timesTillHad_16 : decode cX2_timesTillHad 16 = .ok (.bipush 40, 2) := by decide +kernel
theorem dX2_timesTillHad_18 : decode cX2_timesTillHad 18 = .ok (.if_icmp .gt 59, 3) := by decide +kernel
theorem dX2_timesTillHad_21 : decode cX2_timesTillHad 21 = .ok (.iload 5, 2) := by decide +kernel
theorem dX2_timesTillHad_23 : decode cX2_timesTillHad 23 = .ok (.invokestatic 109, 3) := by decide +kernel
theorem dX2_timesTillHad_26 : decode cX2_timesTillHad 26 = .ok (.iload 4, 2) := by decide +kernel
theorem dX2_timesTillHad_28 : decode cX2_timesTillHad 28 = .ok (.if_icmp .lt 6, 3) := by decide +kernel
theorem dX2_timesTillHad_31 : decode cX2_timesTillHad 31 = .ok (.iload 6, 2) := by decide +kernel
theorem dX2_timesTillHad_33 : decode cX2_timesTillHad 33 = .ok (.ireturn, 1) := by decide +kernel
theorem dX2_timesTillHad_34 : decode cX2_timesTillHad 34 = .ok (.aload_n 2, 1) := by decide +kernel
theorem dX2_timesTillHad_35 : decode cX2_timesTillHad 35 = .ok (.aload_n 0, 1) := by decide +kernel
theorem dX2_timesTillHad_36 : decode cX2_timesTillHad 36 = .ok (.getfield 12, 3) := by decide +kernel
theorem dX2_timesTillHad_39 : decode cX2_timesTillHad 39 = .ok (.iload_n 3, 1) := by decide +kernel
theorem dX2_timesTillHad_40 : decode cX2_timesTillHad 40 = .ok (.invokevirtual 114, 3) := by decide +kernel
theorem dX2_timesTillHad_43 : decode cX2_timesTillHad 43 = .ok (.istore 7, 2) := by decide +kernel
theorem dX2_timesTillHad_45 : decode cX2_timesTillHad 45 = .ok (.iload 5, 2) := by decide +kernel
theorem dX2_timesTillHad_47 : decode cX2_timesTillHad 47 = .ok (.aload_n 2, 1) := by decide +kernel
theorem dX2_timesTillHad_48 : decode cX2_timesTillHad 48 = .ok (.aload_n 0, 1) := by decide +kernel
theorem dX2_timesTillHad_49 : decode cX2_timesTillHad 49 = .ok (.getfield 12, 3) := by decide +kernel
theorem dX2_timesTillHad_52 : decode cX2_timesTillHad 52 = .ok (.iload_n 3, 1) := by decide +kernel
theorem dX2_timesTillHad_53 : decode cX2_timesTillHad 53 = .ok (.iload 7, 2) := by decide +kernel
theorem dX2_timesTillHad_55 : decode cX2_timesTillHad 55 = .ok (.invokevirtual 117, 3) := by decide +kernel
theorem dX2_timesTillHad_58 : decode cX2_timesTillHad 58 = .ok (.ior, 1) := by decide +kernel
theorem dX2_timesTillHad_59 : decode cX2_timesTillHad 59 = .ok (.istore 5, 2) := by decide +kernel
theorem dX2_timesTillHad_61 : decode cX2_timesTillHad 61 = .ok (.aload_n 2, 1) := by decide +kernel
theorem dX2_timesTillHad_62 : decode cX2_timesTillHad 62 = .ok (.aload_n 0, 1) := by decide +kernel
theorem dX2_timesTillHad_63 : decode cX2_timesTillHad 63 = .ok (.getfield 12, 3) := by decide +kernel
theorem dX2_timesTillHad_66 : decode cX2_timesTillHad 66 = .ok (.iload_n 3, 1) := by decide +kernel
theorem dX2_timesTillHad_67 : decode cX2_timesTillHad 67 = .ok (.invokevirtual 63, 3) := by decide +kernel
theorem dX2_timesTillHad_70 : decode cX2_timesTillHad 70 = .ok (.pop, 1) := by decide +kernel
theorem dX2_timesTillHad_71 : decode cX2_timesTillHad 71 = .ok (.iinc 6 1, 3) := by decide +kernel
theorem dX2_timesTillHad_74 : decode cX2_timesTillHad 74 = .ok (.goto (-60), 3) := by decide +kernel
theorem dX2_timesTillHad_77 : decode cX2_timesTillHad 77 = .ok (.bipush (-9), 2) := by decide +kernel
theorem dX2_timesTillHad_79 : decode cX2_timesTillHad 79 = .ok (.ireturn, 1) := by decide +kernel
theorem dX2_fittingValues_0 : decode cX2_fittingValues 0 = .ok (.aload_n 0, 1) := by decide +kernel
theorem dX2_fittingValues_1 : decode cX2_fittingValues 1 = .ok (.getfield 12, 3) := by decide +kernel
theorem dX2_fittingValues_4 : decode cX2_fittingValues 4 = .ok (.aload_n 1, 1) := by decide +kernel
theorem dX2_fittingValues_5 : decode cX2_fittingValues 5 = .ok (.getfield 121, 3) := by decide +kernel
theorem dX2_fittingValues_8 : decode cX2_fittingValues 8 = .ok (.invokevirtual 55, 3) := by decide +kernel
theorem dX2_fittingValues_11 : decode cX2_fittingValues 11 = .ok (.iconst 0, 1) := by decide +kernel
theorem dX2_fittingValues_12 : decode cX2_fittingValues 12 = .ok (.istore 5, 2) := by decide +kernel
theorem dX2_fittingValues_14 : decode cX2_fittingValues 14 = .ok (.iconst 0, 1) := by decide +kernel
theorem dX2_fittingValues_15 : decode cX2_fittingValues 15 = .ok (.istore 6, 2) := by decide +kernel
theorem dX2_fittingValues_17 : decode cX2_fittingValues 17 = .ok (.iload 6, 2) := by decide +kernel
theorem dX2_fittingValues_19 : decode cX2_fittingValues 19 = .ok (.bipush 30, 2) := by decide +kernel
theorem dX2_fittingValues_21 : decode cX2_fittingValues 21 = .ok (.if_icmp .gt 39, 3) := by decide +kernel
theorem dX2_fittingValues_24 : decode cX2_fittingValues 24 = .ok (.aload_n 0, 1) := by decide +kernel
theorem dX2_fittingValues_25 : decode cX2_fittingValues 25 = .ok (.getfield 12, 3) := by decide +kernel
theorem dX2_fittingValues_28 : decode cX2_fittingValues 28 = .ok (.iload_n 3, 1) := by decide +kernel
theorem dX2_fittingValues_29 : decode cX2_fittingValues 29 = .ok (.iload 4, 2) := by decide +kernel
theorem dX2_fittingValues_31 : decode cX2_fittingValues 31 = .ok (.iload 6, 2) := by decide +kernel
theorem dX2_fittingValues_33 : decode cX2_fittingValues 33 = .ok (.invokevirtual 126, 3) := by decide +kernel
theorem dX2_fittingValues_36 : decode cX2_fittingValues 36 = .ok (.aload_n 0, 1) := by decide +kernel
theorem dX2_fittingValues_37 : decode cX2_fittingValues 37 = .ok (.aload_n 1, 1) := by decide +kernel
theorem dX2_fittingValues_38 : decode cX2_fittingValues 38 = .ok (.aload_n 2, 1) := by decide +kernel
theorem dX2_fittingValues_39 : decode cX2_fittingValues 39 = .ok (.invokevirtual 130, 3) := by decide +kernel
theorem dX2_fittingValues_42 : decode cX2_fittingValues 42 = .ok (.ifCond .eq 12, 3) := by decide +kernel
theorem dX2_fittingValues_45 : decode cX2_fittingValues 45 = .ok (.iload 5, 2) := by decide +kernel
theorem dX2_fittingValues_47 : decode cX2_fittingValues 47 = .ok (.iconst 1, 1) := by decide +kernel
theorem dX2_fittingValues_48 : decode cX2_fittingValues 48 = .ok (.iload 6, 2) := by decide +kernel
theorem dX2_fittingValues_50 : decode cX2_fittingValues 50 = .ok (.ishl, 1) := by decide +kernel
theorem dX2_fittingValues_51 : decode cX2_fittingValues 51 = .ok (.ior, 1) := by decide +kernel
theorem dX2_fittingValues_52 : decode cX2_fittingValues 52 = .ok (.istore 5, 2) := by decide +kernel
theorem dX2_fittingValues_54 : decode cX2_fittingValues 54 = .ok (.iinc 6 1, 3) := by decide +kernel
theorem dX2_fittingValues_57 : decode cX2_fittingValues 57 = .ok (.goto (-40), 3) := by decide +kernel
theorem dX2_fittingValues_60 : decode cX2_fittingValues 60 = .ok (.iload 5, 2) := by decide +kernel
theorem dX2_fittingValues_62 : decode cX2_fittingValues 62 = .ok (.ireturn, 1) := by decide +kernel
theorem dX2_allWentSo_0 : decode cX2_allWentSo 0 = .ok (.iconst 0, 1) := by decide +kernel
theorem dX2_allWentSo_1 : decode cX2_allWentSo 1 = .ok (.istore_n 3, 1) := by decide +kernel
theorem dX2_allWentSo_2 : decode cX2_allWentSo 2 = .ok (.iload_n 3, 1) := by decide +kernel
theorem dX2_allWentSo_3 : decode cX2_allWentSo 3 = .ok (.aload_n 1, 1) := by decide +kernel
theorem dX2_allWentSo_4 : decode cX2_allWentSo 4 = .ok (.getfield 134, 3) := by decide +kernel
theorem dX2_allWentSo_7 : decode cX2_allWentSo 7 = .ok (.getfield 79, 3) := by decide +kernel
theorem dX2_allWentSo_10 : decode cX2_allWentSo 10 = .ok (.if_icmp .ge 42, 3) := by decide +kernel
theorem dX2_allWentSo_13 : decode cX2_allWentSo 13 = .ok (.aload_n 2, 1) := by decide +kernel
theorem dX2_allWentSo_14 : decode cX2_allWentSo 14 = .ok (.aload_n 0, 1) := by decide +kernel
theorem dX2_allWentSo_15 : decode cX2_allWentSo 15 = .ok (.getfield 12, 3) := by decide +kernel
theorem dX2_allWentSo_18 : decode cX2_allWentSo 18 = .ok (.aload_n 1, 1) := by decide +kernel
theorem dX2_allWentSo_19 : decode cX2_allWentSo 19 = .ok (.getfield 134, 3) := by decide +kernel
theorem dX2_allWentSo_22 : decode cX2_allWentSo 22 = .ok (.iload_n 3, 1) := by decide +kernel
theorem dX2_allWentSo_23 : decode cX2_allWentSo 23 = .ok (.invokevirtual 80, 3) := by decide +kernel
theorem dX2_allWentSo_26 : decode cX2_allWentSo 26 = .ok (.invokevirtual 114, 3) := by decide +kernel
theorem dX2_allWentSo_29 : decode cX2_allWentSo 29 = .ok (.istore 4, 2) := by decide +kernel
theorem dX2_allWentSo_31 : decode cX2_allWentSo 31 = .ok (.iload 4, 2) := by decide +kernel
theorem dX2_allWentSo_33 : decode cX2_allWentSo 33 = .ok (.aload_n 1, 1) := by decide +kernel
theorem dX2_allWentSo_34 : decode cX2_allWentSo 34 = .ok (.getfield 137, 3) := by decide +kernel
theorem dX2_allWentSo_37 : decode cX2_allWentSo 37 = .ok (.iload_n 3, 1) := by decide +kernel
theorem dX2_allWentSo_38 : decode cX2_allWentSo 38 = .ok (.invokevirtual 80, 3) := by decide +kernel
theorem dX2_allWentSo_41 : decode cX2_allWentSo 41 = .ok (.if_icmp .eq 5, 3) := by decide +kernel
theorem dX2_allWentSo_44 : decode cX2_allWentSo 44 = .ok (.iconst 0, 1) := by decide +kernel
theorem dX2_allWentSo_45 : decode cX2_allWentSo 45 = .ok (.ireturn, 1) := by decide +kernel
theorem dX2_allWentSo_46 : decode cX2_allWentSo 46 = .ok (.iinc 3 1, 3) := by decide +kernel
theorem dX2_allWentSo_49 : decode cX2_allWentSo 49 = .ok (.goto (-47), 3) := by decide +kernel
theorem dX2_allWentSo_52 : decode cX2_allWentSo 52 = .ok (.iconst 1, 1) := by decide +kernel
theorem dX2_allWentSo_53 : decode cX2_allWentSo 53 = .ok (.ireturn, 1) := by decide +kernel
theorem dX2_mostTelling_0 : decode cX2_mostTelling 0 = .ok (.aload_n 0, 1) := by decide +kernel
theorem dX2_mostTelling_1 : decode cX2_mostTelling 1 = .ok (.getfield 12, 3) := by decide +kernel
theorem dX2_mostTelling_4 : decode cX2_mostTelling 4 = .ok (.aload_n 1, 1) := by decide +kernel
theorem dX2_mostTelling_5 : decode cX2_mostTelling 5 = .ok (.invokevirtual 55, 3) := by decide +kernel
theorem dX2_mostTelling_8 : decode cX2_mostTelling 8 = .ok (.iconst 0, 1) := by decide +kernel
theorem dX2_mostTelling_9 : decode cX2_mostTelling 9 = .ok (.istore 6, 2) := by decide +kernel
theorem dX2_mostTelling_11 : decode cX2_mostTelling 11 = .ok (.iconst 0, 1) := by decide +kernel
theorem dX2_mostTelling_12 : decode cX2_mostTelling 12 = .ok (.istore 7, 2) := by decide +kernel
theorem dX2_mostTelling_14 : decode cX2_mostTelling 14 = .ok (.iconst 0, 1) := by decide +kernel
theorem dX2_mostTelling_15 : decode cX2_mostTelling 15 = .ok (.istore 8, 2) := by decide +kernel
theorem dX2_mostTelling_17 : decode cX2_mostTelling 17 = .ok (.iload 8, 2) := by decide +kernel
theorem dX2_mostTelling_19 : decode cX2_mostTelling 19 = .ok (.getstatic 33, 3) := by decide +kernel
theorem dX2_mostTelling_22 : decode cX2_mostTelling 22 = .ok (.arraylength, 1) := by decide +kernel
theorem dX2_mostTelling_23 : decode cX2_mostTelling 23 = .ok (.if_icmp .ge 46, 3) := by decide +kernel
theorem dX2_mostTelling_26 : decode cX2_mostTelling 26 = .ok (.aload_n 0, 1) := by decide +kernel
theorem dX2_mostTelling_27 : decode cX2_mostTelling 27 = .ok (.aload_n 2, 1) := by decide +kernel
theorem dX2_mostTelling_28 : decode cX2_mostTelling 28 = .ok (.iload_n 3, 1) := by decide +kernel
theorem dX2_mostTelling_29 : decode cX2_mostTelling 29 = .ok (.iload 4, 2) := by decide +kernel
theorem dX2_mostTelling_31 : decode cX2_mostTelling 31 = .ok (.iload 5, 2) := by decide +kernel
theorem dX2_mostTelling_33 : decode cX2_mostTelling 33 = .ok (.getstatic 33, 3) := by decide +kernel
theorem dX2_mostTelling_36 : decode cX2_mostTelling 36 = .ok (.iload 8, 2) := by decide +kernel
theorem dX2_mostTelling_38 : decode cX2_mostTelling 38 = .ok (.iaload, 1) := by decide +kernel
theorem dX2_mostTelling_39 : decode cX2_mostTelling 39 = .ok (.invokevirtual 140, 3) := by decide +kernel
theorem dX2_mostTelling_42 : decode cX2_mostTelling 42 = .ok (.istore 9, 2) := by decide +kernel
theorem dX2_mostTelling_44 : decode cX2_mostTelling 44 = .ok (.iload 9, 2) := by decide +kernel
theorem dX2_mostTelling_46 : decode cX2_mostTelling 46 = .ok (.iload 7, 2) := by decide +kernel
theorem dX2_mostTelling_48 : decode cX2_mostTelling 48 = .ok (.if_icmp .le 15, 3) := by decide +kernel
theorem dX2_mostTelling_51 : decode cX2_mostTelling 51 = .ok (.iload 9, 2) := by decide +kernel
theorem dX2_mostTelling_53 : decode cX2_mostTelling 53 = .ok (.istore 7, 2) := by decide +kernel
theorem dX2_mostTelling_55 : decode cX2_mostTelling 55 = .ok (.getstatic 33, 3) := by decide +kernel
theorem dX2_mostTelling_58 : decode cX2_mostTelling 58 = .ok (.iload 8, 2) := by decide +kernel
theorem dX2_mostTelling_60 : decode cX2_mostTelling 60 = .ok (.iaload, 1) := by decide +kernel
theorem dX2_mostTelling_61 : decode cX2_mostTelling 61 = .ok (.istore 6, 2) := by decide +kernel
theorem dX2_mostTelling_63 : decode cX2_mostTelling 63 = .ok (.iinc 8 1, 3) := by decide +kernel
theorem dX2_mostTelling_66 : decode cX2_mostTelling 66 = .ok (.goto (-49), 3) := by decide +kernel
theorem dX2_mostTelling_69 : decode cX2_mostTelling 69 = .ok (.iload 6, 2) := by decide +kernel
theorem dX2_mostTelling_71 : decode cX2_mostTelling 71 = .ok (.ireturn, 1) := by decide +kernel
theorem dX2_receiversOver_0 : decode cX2_receiversOver 0 = .ok (.iconst 0, 1) := by decide +kernel
theorem dX2_receiversOver_1 : decode cX2_receiversOver 1 = .ok (.istore 6, 2) := by decide +kernel
theorem dX2_receiversOver_3 : decode cX2_receiversOver 3 = .ok (.iconst 0, 1) := by decide +kernel
theorem dX2_receiversOver_4 : decode cX2_receiversOver 4 = .ok (.istore 7, 2) := by decide +kernel
theorem dX2_receiversOver_6 : decode cX2_receiversOver 6 = .ok (.iload 7, 2) := by decide +kernel
theorem dX2_receiversOver_8 : decode cX2_receiversOver 8 = .ok (.bipush 30, 2) := by decide +kernel
theorem dX2_receiversOver_10 : decode cX2_receiversOver 10 = .ok (.if_icmp .gt 64, 3) := by decide +kernel
theorem dX2_receiversOver_13 : decode cX2_receiversOver 13 = .ok (.iload 4, 2) := by decide +kernel
theorem dX2_receiversOver_15 : decode cX2_receiversOver 15 = .ok (.iload 7, 2) := by decide +kernel
theorem dX2_receiversOver_17 : decode cX2_receiversOver 17 = .ok (.ishr, 1) := by decide +kernel
theorem dX2_receiversOver_18 : decode cX2_receiversOver 18 = .ok (.iconst 1, 1) := by decide +kernel
theorem dX2_receiversOver_19 : decode cX2_receiversOver 19 = .ok (.iand, 1) := by decide +kernel
theorem dX2_receiversOver_20 : decode cX2_receiversOver 20 = .ok (.iconst 1, 1) := by decide +kernel
theorem dX2_receiversOver_21 : decode cX2_receiversOver 21 = .ok (.if_icmp .ne 47, 3) := by decide +kernel
theorem dX2_receiversOver_24 : decode cX2_receiversOver 24 = .ok (.aload_n 0, 1) := by decide +kernel
theorem dX2_receiversOver_25 : decode cX2_receiversOver 25 = .ok (.getfield 12, 3) := by decide +kernel
theorem dX2_receiversOver_28 : decode cX2_receiversOver 28 = .ok (.iload_n 2, 1) := by decide +kernel
theorem dX2_receiversOver_29 : decode cX2_receiversOver 29 = .ok (.iload_n 3, 1) := by decide +kernel
theorem dX2_receiversOver_30 : decode cX2_receiversOver 30 = .ok (.iload 7, 2) := by decide +kernel
theorem dX2_receiversOver_32 : decode cX2_receiversOver 32 = .ok (.invokevirtual 126, 3) := by decide +kernel
theorem dX2_receiversOver_35 : decode cX2_receiversOver 35 = .ok (.aload_n 1, 1) := by decide +kernel
theorem dX2_receiversOver_36 : decode cX2_receiversOver 36 = .ok (.aload_n 0, 1) := by decide +kernel
theorem dX2_receiversOver_37 : decode cX2_receiversOver 37 = .ok (.getfield 12, 3) := by decide +kernel
theorem dX2_receiversOver_40 : decode cX2_receiversOver 40 = .ok (.iload 5, 2) := by decide +kernel
theorem dX2_receiversOver_42 : decode cX2_receiversOver 42 = .ok (.invokevirtual 114, 3) := by decide +kernel
theorem dX2_receiversOver_45 : decode cX2_receiversOver 45 = .ok (.istore 8, 2) := by decide +kernel
theorem dX2_receiversOver_47 : decode cX2_receiversOver 47 = .ok (.iload 6, 2) := by decide +kernel
theorem dX2_receiversOver_49 : decode cX2_receiversOver 49 = .ok (.iconst 1, 1) := by decide +kernel
theorem dX2_receiversOver_50 : decode cX2_receiversOver 50 = .ok (.iload 8, 2) := by decide +kernel
theorem dX2_receiversOver_52 : decode cX2_receiversOver 52 = .ok (.bipush (-9), 2) := by decide +kernel
theorem dX2_receiversOver_54 : decode cX2_receiversOver 54 = .ok (.if_icmp .ne 8, 3) := by decide +kernel
theorem dX2_receiversOver_57 : decode cX2_receiversOver 57 = .ok (.bipush 6, 2) := by decide +kernel
theorem dX2_receiversOver_59 : decode cX2_receiversOver 59 = .ok (.goto 5, 3) := by decide +kernel
theorem dX2_receiversOver_62 : decode cX2_receiversOver 62 = .ok (.iload 8, 2) := by decide +kernel
theorem dX2_receiversOver_64 : decode cX2_receiversOver 64 = .ok (.ishl, 1) := by decide +kernel
theorem dX2_receiversOver_65 : decode cX2_receiversOver 65 = .ok (.ior, 1) := by decide +kernel
theorem dX2_receiversOver_66 : decode cX2_receiversOver 66 = .ok (.istore 6, 2) := by decide +kernel
theorem dX2_receiversOver_68 : decode cX2_receiversOver 68 = .ok (.iinc 7 1, 3) := by decide +kernel
theorem dX2_receiversOver_71 : decode cX2_receiversOver 71 = .ok (.goto (-65), 3) := by decide +kernel
theorem dX2_receiversOver_74 : decode cX2_receiversOver 74 = .ok (.iload 6, 2) := by decide +kernel
theorem dX2_receiversOver_76 : decode cX2_receiversOver 76 = .ok (.invokestatic 109, 3) := by decide +kernel
theorem dX2_receiversOver_79 : decode cX2_receiversOver 79 = .ok (.ireturn, 1) := by decide +kernel
theorem dX2_surestTo_0 : decode cX2_surestTo 0 = .ok (.bipush (-9), 2) := by decide +kernel
theorem dX2_surestTo_2 : decode cX2_surestTo 2 = .ok (.istore 5, 2) := by decide +kernel
theorem dX2_surestTo_4 : decode cX2_surestTo 4 = .ok (.iconst 0, 1) := by decide +kernel
theorem dX2_surestTo_5 : decode cX2_surestTo 5 = .ok (.istore 6, 2) := by decide +kernel
theorem dX2_surestTo_7 : decode cX2_surestTo 7 = .ok (.bipush 100, 2) := by decide +kernel
theorem dX2_surestTo_9 : decode cX2_surestTo 9 = .ok (.istore 7, 2) := by decide +kernel
theorem dX2_surestTo_11 : decode cX2_surestTo 11 = .ok (.iconst 0, 1) := by decide +kernel
theorem dX2_surestTo_12 : decode cX2_surestTo 12 = .ok (.istore 8, 2) := by decide +kernel
theorem dX2_surestTo_14 : decode cX2_surestTo 14 = .ok (.iload 8, 2) := by decide +kernel
theorem dX2_surestTo_16 : decode cX2_surestTo 16 = .ok (.getstatic 33, 3) := by decide +kernel
theorem dX2_surestTo_19 : decode cX2_surestTo 19 = .ok (.arraylength, 1) := by decide +kernel
theorem dX2_surestTo_20 : decode cX2_surestTo 20 = .ok (.if_icmp .ge 78, 3) := by decide +kernel
theorem dX2_surestTo_23 : decode cX2_surestTo 23 = .ok (.aload_n 2, 1) := by decide +kernel
theorem dX2_surestTo_24 : decode cX2_surestTo 24 = .ok (.aload_n 1, 1) := by decide +kernel
theorem dX2_surestTo_25 : decode cX2_surestTo 25 = .ok (.iload_n 3, 1) := by decide +kernel
theorem dX2_surestTo_26 : decode cX2_surestTo 26 = .ok (.getstatic 33, 3) := by decide +kernel
theorem dX2_surestTo_29 : decode cX2_surestTo 29 = .ok (.iload 8, 2) := by decide +kernel
theorem dX2_surestTo_31 : decode cX2_surestTo 31 = .ok (.iaload, 1) := by decide +kernel
theorem dX2_surestTo_32 : decode cX2_surestTo 32 = .ok (.iload 4, 2) := by decide +kernel
theorem dX2_surestTo_34 : decode cX2_surestTo 34 = .ok (.invokevirtual 144, 3) := by decide +kernel
theorem dX2_surestTo_37 : decode cX2_surestTo 37 = .ok (.istore 9, 2) := by decide +kernel
theorem dX2_surestTo_39 : decode cX2_surestTo 39 = .ok (.getstatic 33, 3) := by decide +kernel
theorem dX2_surestTo_42 : decode cX2_surestTo 42 = .ok (.iload 8, 2) := by decide +kernel
theorem dX2_surestTo_44 : decode cX2_surestTo 44 = .ok (.iaload, 1) := by decide +kernel
theorem dX2_surestTo_45 : decode cX2_surestTo 45 = .ok (.invokestatic 37, 3) := by decide +kernel
theorem dX2_surestTo_48 : decode cX2_surestTo 48 = .ok (.istore 10, 2) := by decide +kernel
theorem dX2_surestTo_50 : decode cX2_surestTo 50 = .ok (.iload 9, 2) := by decide +kernel
theorem dX2_surestTo_52 : decode cX2_surestTo 52 = .ok (.iload 6, 2) := by decide +kernel
theorem dX2_surestTo_54 : decode cX2_surestTo 54 = .ok (.if_icmp .gt 22, 3) := by decide +kernel
theorem dX2_surestTo_57 : decode cX2_surestTo 57 = .ok (.iload 9, 2) := by decide +kernel
theorem dX2_surestTo_59 : decode cX2_surestTo 59 = .ok (.iload 6, 2) := by decide +kernel
theorem dX2_surestTo_61 : decode cX2_surestTo 61 = .ok (.if_icmp .ne 31, 3) := by decide +kernel
theorem dX2_surestTo_64 : decode cX2_surestTo 64 = .ok (.iload 9, 2) := by decide +kernel
theorem dX2_surestTo_66 : decode cX2_surestTo 66 = .ok (.ifCond .le 26, 3) := by decide +kernel
theorem dX2_surestTo_69 : decode cX2_surestTo 69 = .ok (.iload 10, 2) := by decide +kernel
theorem dX2_surestTo_71 : decode cX2_surestTo 71 = .ok (.iload 7, 2) := by decide +kernel
theorem dX2_surestTo_73 : decode cX2_surestTo 73 = .ok (.if_icmp .ge 19, 3) := by decide +kernel
theorem dX2_surestTo_76 : decode cX2_surestTo 76 = .ok (.iload 9, 2) := by decide +kernel
theorem dX2_surestTo_78 : decode cX2_surestTo 78 = .ok (.istore 6, 2) := by decide +kernel
theorem dX2_surestTo_80 : decode cX2_surestTo 80 = .ok (.iload 10, 2) := by decide +kernel
theorem dX2_surestTo_82 : decode cX2_surestTo 82 = .ok (.istore 7, 2) := by decide +kernel
theorem dX2_surestTo_84 : decode cX2_surestTo 84 = .ok (.getstatic 33, 3) := by decide +kernel
theorem dX2_surestTo_87 : decode cX2_surestTo 87 = .ok (.iload 8, 2) := by decide +kernel
theorem dX2_surestTo_89 : decode cX2_surestTo 89 = .ok (.iaload, 1) := by decide +kernel
theorem dX2_surestTo_90 : decode cX2_surestTo 90 = .ok (.istore 5, 2) := by decide +kernel
theorem dX2_surestTo_92 : decode cX2_surestTo 92 = .ok (.iinc 8 1, 3) := by decide +kernel
theorem dX2_surestTo_95 : decode cX2_surestTo 95 = .ok (.goto (-81), 3) := by decide +kernel
theorem dX2_surestTo_98 : decode cX2_surestTo 98 = .ok (.iload 5, 2) := by decide +kernel
theorem dX2_surestTo_100 : decode cX2_surestTo 100 = .ok (.ireturn, 1) := by decide +kernel
theorem dX2_written_0 : decode cX2_written 0 = .ok (.aload_n 1, 1) := by decide +kernel
theorem dX2_written_1 : decode cX2_written 1 = .ok (.getfield 148, 3) := by decide +kernel
theorem dX2_written_4 : decode cX2_written 4 = .ok (.iload_n 3, 1) := by decide +kernel
theorem dX2_written_5 : decode cX2_written 5 = .ok (.invokevirtual 80, 3) := by decide +kernel
theorem dX2_written_8 : decode cX2_written 8 = .ok (.istore 4, 2) := by decide +kernel
theorem dX2_written_10 : decode cX2_written 10 = .ok (.aload_n 1, 1) := by decide +kernel
theorem dX2_written_11 : decode cX2_written 11 = .ok (.getfield 151, 3) := by decide +kernel
theorem dX2_written_14 : decode cX2_written 14 = .ok (.iload_n 3, 1) := by decide +kernel
theorem dX2_written_15 : decode cX2_written 15 = .ok (.invokevirtual 80, 3) := by decide +kernel
theorem dX2_written_18 : decode cX2_written 18 = .ok (.istore 5, 2) := by decide +kernel
theorem dX2_written_20 : decode cX2_written 20 = .ok (.aload_n 1, 1) := by decide +kernel
theorem dX2_written_21 : decode cX2_written 21 = .ok (.getfield 154, 3) := by decide +kernel
theorem dX2_written_24 : decode cX2_written 24 = .ok (.iload_n 3, 1) := by decide +kernel
theorem dX2_written_25 : decode cX2_written 25 = .ok (.invokevirtual 80, 3) := by decide +kernel
theorem dX2_written_28 : decode cX2_written 28 = .ok (.tableswitch 99 1 4 #[32, 46, 56, 85], 32) := by decide +kernel
theorem dX2_written_60 : decode cX2_written 60 = .ok (.aload_n 0, 1) := by decide +kernel
theorem dX2_written_61 : decode cX2_written 61 = .ok (.aload_n 1, 1) := by decide +kernel
theorem dX2_written_62 : decode cX2_written 62 = .ok (.getfield 121, 3) := by decide +kernel
theorem dX2_written_65 : decode cX2_written 65 = .ok (.aload_n 2, 1) := by decide +kernel
theorem dX2_written_66 : decode cX2_written 66 = .ok (.iload 5, 2) := by decide +kernel
theorem dX2_written_68 : decode cX2_written 68 = .ok (.iload 4, 2) := by decide +kernel
theorem dX2_written_70 : decode cX2_written 70 = .ok (.invokevirtual 157, 3) := by decide +kernel
theorem dX2_written_73 : decode cX2_written 73 = .ok (.ireturn, 1) := by decide +kernel
theorem dX2_written_74 : decode cX2_written 74 = .ok (.aload_n 0, 1) := by decide +kernel
theorem dX2_written_75 : decode cX2_written 75 = .ok (.aload_n 1, 1) := by decide +kernel
theorem dX2_written_76 : decode cX2_written 76 = .ok (.getfield 121, 3) := by decide +kernel
theorem dX2_written_79 : decode cX2_written 79 = .ok (.aload_n 2, 1) := by decide +kernel
theorem dX2_written_80 : decode cX2_written 80 = .ok (.invokevirtual 161, 3) := by decide +kernel
theorem dX2_written_83 : decode cX2_written 83 = .ok (.ireturn, 1) := by decide +kernel
theorem dX2_written_84 : decode cX2_written 84 = .ok (.aload_n 1, 1) := by decide +kernel
theorem dX2_written_85 : decode cX2_written 85 = .ok (.getfield 165, 3) := by decide +kernel
theorem dX2_written_88 : decode cX2_written 88 = .ok (.iconst 2, 1) := by decide +kernel
theorem dX2_written_89 : decode cX2_written 89 = .ok (.irem, 1) := by decide +kernel
theorem dX2_written_90 : decode cX2_written 90 = .ok (.iconst 1, 1) := by decide +kernel
theorem dX2_written_91 : decode cX2_written 91 = .ok (.if_icmp .ne 19, 3) := by decide +kernel
theorem dX2_written_94 : decode cX2_written 94 = .ok (.aload_n 0, 1) := by decide +kernel
theorem dX2_written_95 : decode cX2_written 95 = .ok (.aload_n 1, 1) := by decide +kernel
theorem dX2_written_96 : decode cX2_written 96 = .ok (.getfield 121, 3) := by decide +kernel
theorem dX2_written_99 : decode cX2_written 99 = .ok (.aload_n 2, 1) := by decide +kernel
theorem dX2_written_100 : decode cX2_written 100 = .ok (.iload 5, 2) := by decide +kernel
theorem dX2_written_102 : decode cX2_written 102 = .ok (.iload 4, 2) := by decide +kernel
theorem dX2_written_104 : decode cX2_written 104 = .ok (.invokevirtual 157, 3) := by decide +kernel
theorem dX2_written_107 : decode cX2_written 107 = .ok (.goto 5, 3) := by decide +kernel
theorem dX2_written_110 : decode cX2_written 110 = .ok (.iload 4, 2) := by decide +kernel
theorem dX2_written_112 : decode cX2_written 112 = .ok (.ireturn, 1) := by decide +kernel
theorem dX2_written_113 : decode cX2_written 113 = .ok (.aload_n 0, 1) := by decide +kernel
theorem dX2_written_114 : decode cX2_written 114 = .ok (.aload_n 1, 1) := by decide +kernel
theorem dX2_written_115 : decode cX2_written 115 = .ok (.getfield 121, 3) := by decide +kernel
theorem dX2_written_118 : decode cX2_written 118 = .ok (.aload_n 2, 1) := by decide +kernel
theorem dX2_written_119 : decode cX2_written 119 = .ok (.iload 5, 2) := by decide +kernel
theorem dX2_written_121 : decode cX2_written 121 = .ok (.iload 4, 2) := by decide +kernel
theorem dX2_written_123 : decode cX2_written 123 = .ok (.invokevirtual 168, 3) := by decide +kernel
theorem dX2_written_126 : decode cX2_written 126 = .ok (.ireturn, 1) := by decide +kernel
theorem dX2_written_127 : decode cX2_written 127 = .ok (.iload 4, 2) := by decide +kernel
theorem dX2_written_129 : decode cX2_written 129 = .ok (.ireturn, 1) := by decide +kernel
theorem dX2_meetingMost_0 : decode cX2_meetingMost 0 = .ok (.iconst 0, 1) := by decide +kernel
theorem dX2_meetingMost_1 : decode cX2_meetingMost 1 = .ok (.istore_n 3, 1) := by decide +kernel
theorem dX2_meetingMost_2 : decode cX2_meetingMost 2 = .ok (.iconst (-1), 1) := by decide +kernel
theorem dX2_meetingMost_3 : decode cX2_meetingMost 3 = .ok (.istore 4, 2) := by decide +kernel
theorem dX2_meetingMost_5 : decode cX2_meetingMost 5 = .ok (.bipush 100, 2) := by decide +kernel
theorem dX2_meetingMost_7 : decode cX2_meetingMost 7 = .ok (.istore 5, 2) := by decide +kernel
theorem dX2_meetingMost_9 : decode cX2_meetingMost 9 = .ok (.iconst 0, 1) := by decide +kernel
theorem dX2_meetingMost_10 : decode cX2_meetingMost 10 = .ok (.istore 6, 2) := by decide +kernel
theorem dX2_meetingMost_12 : decode cX2_meetingMost 12 = .ok (.iload 6, 2) := by decide +kernel
theorem dX2_meetingMost_14 : decode cX2_meetingMost 14 = .ok (.getstatic 33, 3) := by decide +kernel
theorem dX2_meetingMost_17 : decode cX2_meetingMost 17 = .ok (.arraylength, 1) := by decide +kernel
theorem dX2_meetingMost_18 : decode cX2_meetingMost 18 = .ok (.if_icmp .ge 93, 3) := by decide +kernel
theorem dX2_meetingMost_21 : decode cX2_meetingMost 21 = .ok (.aload_n 0, 1) := by decide +kernel
theorem dX2_meetingMost_22 : decode cX2_meetingMost 22 = .ok (.getfield 12, 3) := by decide +kernel
theorem dX2_meetingMost_25 : decode cX2_meetingMost 25 = .ok (.aload_n 1, 1) := by decide +kernel
theorem dX2_meetingMost_26 : decode cX2_meetingMost 26 = .ok (.invokevirtual 55, 3) := by decide +kernel
theorem dX2_meetingMost_29 : decode cX2_meetingMost 29 = .ok (.aload_n 2, 1) := by decide +kernel
theorem dX2_meetingMost_30 : decode cX2_meetingMost 30 = .ok (.aload_n 0, 1) := by decide +kernel
theorem dX2_meetingMost_31 : decode cX2_meetingMost 31 = .ok (.getfield 12, 3) := by decide +kernel
theorem dX2_meetingMost_34 : decode cX2_meetingMost 34 = .ok (.getstatic 33, 3) := by decide +kernel
theorem dX2_meetingMost_37 : decode cX2_meetingMost 37 = .ok (.iload 6, 2) := by decide +kernel
theorem dX2_meetingMost_39 : decode cX2_meetingMost 39 = .ok (.iaload, 1) := by decide +kernel
theorem dX2_meetingMost_40 : decode cX2_meetingMost 40 = .ok (.invokevirtual 63, 3) := by decide +kernel
theorem dX2_meetingMost_43 : decode cX2_meetingMost 43 = .ok (.pop, 1) := by decide +kernel
theorem dX2_meetingMost_44 : decode cX2_meetingMost 44 = .ok (.aload_n 1, 1) := by decide +kernel
theorem dX2_meetingMost_45 : decode cX2_meetingMost 45 = .ok (.invokevirtual 83, 3) := by decide +kernel
theorem dX2_meetingMost_48 : decode cX2_meetingMost 48 = .ok (.aload_n 0, 1) := by decide +kernel
theorem dX2_meetingMost_49 : decode cX2_meetingMost 49 = .ok (.getfield 12, 3) := by decide +kernel
theorem dX2_meetingMost_52 : decode cX2_meetingMost 52 = .ok (.invokevirtual 83, 3) := by decide +kernel
theorem dX2_meetingMost_55 : decode cX2_meetingMost 55 = .ok (.isub, 1) := by decide +kernel
theorem dX2_meetingMost_56 : decode cX2_meetingMost 56 = .ok (.istore 7, 2) := by decide +kernel
theorem dX2_meetingMost_58 : decode cX2_meetingMost 58 = .ok (.getstatic 33, 3) := by decide +kernel
theorem dX2_meetingMost_61 : decode cX2_meetingMost 61 = .ok (.iload 6, 2) := by decide +kernel
theorem dX2_meetingMost_63 : decode cX2_meetingMost 63 = .ok (.iaload, 1) := by decide +kernel
theorem dX2_meetingMost_64 : decode cX2_meetingMost 64 = .ok (.invokestatic 37, 3) := by decide +kernel
theorem dX2_meetingMost_67 : decode cX2_meetingMost 67 = .ok (.istore 8, 2) := by decide +kernel
theorem dX2_meetingMost_69 : decode cX2_meetingMost 69 = .ok (.iload 7, 2) := by decide +kernel
theorem dX2_meetingMost_71 : decode cX2_meetingMost 71 = .ok (.iload 4, 2) := by decide +kernel
theorem dX2_meetingMost_73 : decode cX2_meetingMost 73 = .ok (.if_icmp .gt 17, 3) := by decide +kernel
theorem dX2_meetingMost_76 : decode cX2_meetingMost 76 = .ok (.iload 7, 2) := by decide +kernel
theorem dX2_meetingMost_78 : decode cX2_meetingMost 78 = .ok (.iload 4, 2) := by decide +kernel
theorem dX2_meetingMost_80 : decode cX2_meetingMost 80 = .ok (.if_icmp .ne 25, 3) := by decide +kernel
theorem dX2_meetingMost_83 : decode cX2_meetingMost 83 = .ok (.iload 8, 2) := by decide +kernel
theorem dX2_meetingMost_85 : decode cX2_meetingMost 85 = .ok (.iload 5, 2) := by decide +kernel
theorem dX2_meetingMost_87 : decode cX2_meetingMost 87 = .ok (.if_icmp .ge 18, 3) := by decide +kernel
theorem dX2_meetingMost_90 : decode cX2_meetingMost 90 = .ok (.iload 7, 2) := by decide +kernel
theorem dX2_meetingMost_92 : decode cX2_meetingMost 92 = .ok (.istore 4, 2) := by decide +kernel
theorem dX2_meetingMost_94 : decode cX2_meetingMost 94 = .ok (.iload 8, 2) := by decide +kernel
theorem dX2_meetingMost_96 : decode cX2_meetingMost 96 = .ok (.istore 5, 2) := by decide +kernel
theorem dX2_meetingMost_98 : decode cX2_meetingMost 98 = .ok (.getstatic 33, 3) := by decide +kernel
theorem dX2_meetingMost_101 : decode cX2_meetingMost 101 = .ok (.iload 6, 2) := by decide +kernel
theorem dX2_meetingMost_103 : decode cX2_meetingMost 103 = .ok (.iaload, 1) := by decide +kernel
theorem dX2_meetingMost_104 : decode cX2_meetingMost 104 = .ok (.istore_n 3, 1) := by decide +kernel
theorem dX2_meetingMost_105 : decode cX2_meetingMost 105 = .ok (.iinc 6 1, 3) := by decide +kernel
theorem dX2_meetingMost_108 : decode cX2_meetingMost 108 = .ok (.goto (-96), 3) := by decide +kernel
theorem dX2_meetingMost_111 : decode cX2_meetingMost 111 = .ok (.iload_n 3, 1) := by decide +kernel
theorem dX2_meetingMost_112 : decode cX2_meetingMost 112 = .ok (.ireturn, 1) := by decide +kernel
theorem dX2_easing_0 : decode cX2_easing 0 = .ok (.aload_n 0, 1) := by decide +kernel
theorem dX2_easing_1 : decode cX2_easing 1 = .ok (.aload_n 1, 1) := by decide +kernel
theorem dX2_easing_2 : decode cX2_easing 2 = .ok (.aload_n 2, 1) := by decide +kernel
theorem dX2_easing_3 : decode cX2_easing 3 = .ok (.iload_n 3, 1) := by decide +kernel
theorem dX2_easing_4 : decode cX2_easing 4 = .ok (.bipush (-9), 2) := by decide +kernel
theorem dX2_easing_6 : decode cX2_easing 6 = .ok (.invokevirtual 157, 3) := by decide +kernel
theorem dX2_easing_9 : decode cX2_easing 9 = .ok (.istore 5, 2) := by decide +kernel
theorem dX2_easing_11 : decode cX2_easing 11 = .ok (.iload 5, 2) := by decide +kernel
theorem dX2_easing_13 : decode cX2_easing 13 = .ok (.bipush (-9), 2) := by decide +kernel
theorem dX2_easing_15 : decode cX2_easing 15 = .ok (.if_icmp .ne 8, 3) := by decide +kernel
theorem dX2_easing_18 : decode cX2_easing 18 = .ok (.bipush 100, 2) := by decide +kernel
theorem dX2_easing_20 : decode cX2_easing 20 = .ok (.goto 8, 3) := by decide +kernel
theorem dX2_easing_23 : decode cX2_easing 23 = .ok (.iload 5, 2) := by decide +kernel
theorem dX2_easing_25 : decode cX2_easing 25 = .ok (.invokestatic 37, 3) := by decide +kernel
theorem dX2_easing_28 : decode cX2_easing 28 = .ok (.istore 6, 2) := by decide +kernel
theorem dX2_easing_30 : decode cX2_easing 30 = .ok (.iload 5, 2) := by decide +kernel
theorem dX2_easing_32 : decode cX2_easing 32 = .ok (.bipush (-9), 2) := by decide +kernel
theorem dX2_easing_34 : decode cX2_easing 34 = .ok (.if_icmp .ne 8, 3) := by decide +kernel
theorem dX2_easing_37 : decode cX2_easing 37 = .ok (.iload 4, 2) := by decide +kernel
theorem dX2_easing_39 : decode cX2_easing 39 = .ok (.goto 5, 3) := by decide +kernel
theorem dX2_easing_42 : decode cX2_easing 42 = .ok (.iload 5, 2) := by decide +kernel
theorem dX2_easing_44 : decode cX2_easing 44 = .ok (.istore 7, 2) := by decide +kernel
theorem dX2_easing_46 : decode cX2_easing 46 = .ok (.bipush 100, 2) := by decide +kernel
theorem dX2_easing_48 : decode cX2_easing 48 = .ok (.istore 8, 2) := by decide +kernel
theorem dX2_easing_50 : decode cX2_easing 50 = .ok (.iconst 0, 1) := by decide +kernel
theorem dX2_easing_51 : decode cX2_easing 51 = .ok (.istore 9, 2) := by decide +kernel
theorem dX2_easing_53 : decode cX2_easing 53 = .ok (.iload 9, 2) := by decide +kernel
theorem dX2_easing_55 : decode cX2_easing 55 = .ok (.getstatic 33, 3) := by decide +kernel
theorem dX2_easing_58 : decode cX2_easing 58 = .ok (.arraylength, 1) := by decide +kernel
theorem dX2_easing_59 : decode cX2_easing 59 = .ok (.if_icmp .ge 93, 3) := by decide +kernel
theorem dX2_easing_62 : decode cX2_easing 62 = .ok (.getstatic 33, 3) := by decide +kernel
theorem dX2_easing_65 : decode cX2_easing 65 = .ok (.iload 9, 2) := by decide +kernel
theorem dX2_easing_67 : decode cX2_easing 67 = .ok (.iaload, 1) := by decide +kernel
theorem dX2_easing_68 : decode cX2_easing 68 = .ok (.invokestatic 37, 3) := by decide +kernel
theorem dX2_easing_71 : decode cX2_easing 71 = .ok (.istore 10, 2) := by decide +kernel
theorem dX2_easing_73 : decode cX2_easing 73 = .ok (.iload 10, 2) := by decide +kernel
theorem dX2_easing_75 : decode cX2_easing 75 = .ok (.iload 8, 2) := by decide +kernel
theorem dX2_easing_77 : decode cX2_easing 77 = .ok (.if_icmp .ge 69, 3) := by decide +kernel
theorem dX2_easing_80 : decode cX2_easing 80 = .ok (.aload_n 0, 1) := by decide +kernel
theorem dX2_easing_81 : decode cX2_easing 81 = .ok (.getfield 12, 3) := by decide +kernel
theorem dX2_easing_84 : decode cX2_easing 84 = .ok (.aload_n 1, 1) := by decide +kernel
theorem dX2_easing_85 : decode cX2_easing 85 = .ok (.invokevirtual 55, 3) := by decide +kernel
theorem dX2_easing_88 : decode cX2_easing 88 = .ok (.aload_n 2, 1) := by decide +kernel
theorem dX2_easing_89 : decode cX2_easing 89 = .ok (.aload_n 0, 1) := by decide +kernel
theorem dX2_easing_90 : decode cX2_easing 90 = .ok (.getfield 12, 3) := by decide +kernel
theorem dX2_easing_93 : decode cX2_easing 93 = .ok (.getstatic 33, 3) := by decide +kernel
theorem dX2_easing_96 : decode cX2_easing 96 = .ok (.iload 9, 2) := by decide +kernel
theorem dX2_easing_98 : decode cX2_easing 98 = .ok (.iaload, 1) := by decide +kernel
theorem dX2_easing_99 : decode cX2_easing 99 = .ok (.invokevirtual 63, 3) := by decide +kernel
theorem dX2_easing_102 : decode cX2_easing 102 = .ok (.pop, 1) := by decide +kernel
theorem dX2_easing_103 : decode cX2_easing 103 = .ok (.aload_n 0, 1) := by decide +kernel
theorem dX2_easing_104 : decode cX2_easing 104 = .ok (.aload_n 0, 1) := by decide +kernel
theorem dX2_easing_105 : decode cX2_easing 105 = .ok (.getfield 12, 3) := by decide +kernel
theorem dX2_easing_108 : decode cX2_easing 108 = .ok (.aload_n 2, 1) := by decide +kernel
theorem dX2_easing_109 : decode cX2_easing 109 = .ok (.iload_n 3, 1) := by decide +kernel
theorem dX2_easing_110 : decode cX2_easing 110 = .ok (.bipush (-9), 2) := by decide +kernel
theorem dX2_easing_112 : decode cX2_easing 112 = .ok (.invokevirtual 157, 3) := by decide +kernel
theorem dX2_easing_115 : decode cX2_easing 115 = .ok (.istore 11, 2) := by decide +kernel
theorem dX2_easing_117 : decode cX2_easing 117 = .ok (.iload 11, 2) := by decide +kernel
theorem dX2_easing_119 : decode cX2_easing 119 = .ok (.bipush (-9), 2) := by decide +kernel
theorem dX2_easing_121 : decode cX2_easing 121 = .ok (.if_icmp .eq 25, 3) := by decide +kernel
theorem dX2_easing_124 : decode cX2_easing 124 = .ok (.iload 11, 2) := by decide +kernel
theorem dX2_easing_126 : decode cX2_easing 126 = .ok (.invokestatic 37, 3) := by decide +kernel
theorem dX2_easing_129 : decode cX2_easing 129 = .ok (.iload 6, 2) := by decide +kernel
theorem dX2_easing_131 : decode cX2_easing 131 = .ok (.if_icmp .ge 15, 3) := by decide +kernel
theorem dX2_easing_134 : decode cX2_easing 134 = .ok (.iload 10, 2) := by decide +kernel
theorem dX2_easing_136 : decode cX2_easing 136 = .ok (.istore 8, 2) := by decide +kernel
theorem dX2_easing_138 : decode cX2_easing 138 = .ok (.getstatic 33, 3) := by decide +kernel
theorem dX2_easing_141 : decode cX2_easing 141 = .ok (.iload 9, 2) := by decide +kernel
theorem dX2_easing_143 : decode cX2_easing 143 = .ok (.iaload, 1) := by decide +kernel
theorem dX2_easing_144 : decode cX2_easing 144 = .ok (.istore 7, 2) := by decide +kernel
theorem dX2_easing_146 : decode cX2_easing 146 = .ok (.iinc 9 1, 3) := by decide +kernel
theorem dX2_easing_149 : decode cX2_easing 149 = .ok (.goto (-96), 3) := by decide +kernel
theorem dX2_easing_152 : decode cX2_easing 152 = .ok (.iload 7, 2) := by decide +kernel
theorem dX2_easing_154 : decode cX2_easing 154 = .ok (.ireturn, 1) := by decide +kernel
theorem dX2_roundsOfTwo_0 : decode cX2_roundsOfTwo 0 = .ok (.aload_n 1, 1) := by decide +kernel
theorem dX2_roundsOfTwo_1 : decode cX2_roundsOfTwo 1 = .ok (.getfield 148, 3) := by decide +kernel
theorem dX2_roundsOfTwo_4 : decode cX2_roundsOfTwo 4 = .ok (.iload_n 3, 1) := by decide +kernel
theorem dX2_roundsOfTwo_5 : decode cX2_roundsOfTwo 5 = .ok (.invokevirtual 80, 3) := by decide +kernel
theorem dX2_roundsOfTwo_8 : decode cX2_roundsOfTwo 8 = .ok (.istore 5, 2) := by decide +kernel
theorem dX2_roundsOfTwo_10 : decode cX2_roundsOfTwo 10 = .ok (.aload_n 1, 1) := by decide +kernel
theorem dX2_roundsOfTwo_11 : decode cX2_roundsOfTwo 11 = .ok (.getfield 148, 3) := by decide +kernel
theorem dX2_roundsOfTwo_14 : decode cX2_roundsOfTwo 14 = .ok (.iload 4, 2) := by decide +kernel
theorem dX2_roundsOfTwo_16 : decode cX2_roundsOfTwo 16 = .ok (.invokevirtual 80, 3) := by decide +kernel
theorem dX2_roundsOfTwo_19 : decode cX2_roundsOfTwo 19 = .ok (.istore 6, 2) := by decide +kernel
theorem dX2_roundsOfTwo_21 : decode cX2_roundsOfTwo 21 = .ok (.iconst 1, 1) := by decide +kernel
theorem dX2_roundsOfTwo_22 : decode cX2_roundsOfTwo 22 = .ok (.istore 7, 2) := by decide +kernel
theorem dX2_roundsOfTwo_24 : decode cX2_roundsOfTwo 24 = .ok (.iload 7, 2) := by decide +kernel
theorem dX2_roundsOfTwo_26 : decode cX2_roundsOfTwo 26 = .ok (.bipush 10, 2) := by decide +kernel
theorem dX2_roundsOfTwo_28 : decode cX2_roundsOfTwo 28 = .ok (.if_icmp .gt 57, 3) := by decide +kernel
theorem dX2_roundsOfTwo_31 : decode cX2_roundsOfTwo 31 = .ok (.aload_n 0, 1) := by decide +kernel
theorem dX2_roundsOfTwo_32 : decode cX2_roundsOfTwo 32 = .ok (.aload_n 1, 1) := by decide +kernel
theorem dX2_roundsOfTwo_33 : decode cX2_roundsOfTwo 33 = .ok (.aload_n 2, 1) := by decide +kernel
theorem dX2_roundsOfTwo_34 : decode cX2_roundsOfTwo 34 = .ok (.iload_n 3, 1) := by decide +kernel
theorem dX2_roundsOfTwo_35 : decode cX2_roundsOfTwo 35 = .ok (.iload 6, 2) := by decide +kernel
theorem dX2_roundsOfTwo_37 : decode cX2_roundsOfTwo 37 = .ok (.invokevirtual 171, 3) := by decide +kernel
theorem dX2_roundsOfTwo_40 : decode cX2_roundsOfTwo 40 = .ok (.istore 8, 2) := by decide +kernel
theorem dX2_roundsOfTwo_42 : decode cX2_roundsOfTwo 42 = .ok (.aload_n 0, 1) := by decide +kernel
theorem dX2_roundsOfTwo_43 : decode cX2_roundsOfTwo 43 = .ok (.aload_n 1, 1) := by decide +kernel
theorem dX2_roundsOfTwo_44 : decode cX2_roundsOfTwo 44 = .ok (.aload_n 2, 1) := by decide +kernel
theorem dX2_roundsOfTwo_45 : decode cX2_roundsOfTwo 45 = .ok (.iload 4, 2) := by decide +kernel
theorem dX2_roundsOfTwo_47 : decode cX2_roundsOfTwo 47 = .ok (.iload 8, 2) := by decide +kernel
theorem dX2_roundsOfTwo_49 : decode cX2_roundsOfTwo 49 = .ok (.invokevirtual 171, 3) := by decide +kernel
theorem dX2_roundsOfTwo_52 : decode cX2_roundsOfTwo 52 = .ok (.istore 9, 2) := by decide +kernel
theorem dX2_roundsOfTwo_54 : decode cX2_roundsOfTwo 54 = .ok (.iload 8, 2) := by decide +kernel
theorem dX2_roundsOfTwo_56 : decode cX2_roundsOfTwo 56 = .ok (.iload 5, 2) := by decide +kernel
theorem dX2_roundsOfTwo_58 : decode cX2_roundsOfTwo 58 = .ok (.if_icmp .ne 13, 3) := by decide +kernel
theorem dX2_roundsOfTwo_61 : decode cX2_roundsOfTwo 61 = .ok (.iload 9, 2) := by decide +kernel
theorem dX2_roundsOfTwo_63 : decode cX2_roundsOfTwo 63 = .ok (.iload 6, 2) := by decide +kernel
theorem dX2_roundsOfTwo_65 : decode cX2_roundsOfTwo 65 = .ok (.if_icmp .ne 6, 3) := by decide +kernel
theorem dX2_roundsOfTwo_68 : decode cX2_roundsOfTwo 68 = .ok (.iload 7, 2) := by decide +kernel
theorem dX2_roundsOfTwo_70 : decode cX2_roundsOfTwo 70 = .ok (.ireturn, 1) := by decide +kernel
theorem dX2_roundsOfTwo_71 : decode cX2_roundsOfTwo 71 = .ok (.iload 8, 2) := by decide +kernel
theorem dX2_roundsOfTwo_73 : decode cX2_roundsOfTwo 73 = .ok (.istore 5, 2) := by decide +kernel
theorem dX2_roundsOfTwo_75 : decode cX2_roundsOfTwo 75 = .ok (.iload 9, 2) := by decide +kernel
theorem dX2_roundsOfTwo_77 : decode cX2_roundsOfTwo 77 = .ok (.istore 6, 2) := by decide +kernel
theorem dX2_roundsOfTwo_79 : decode cX2_roundsOfTwo 79 = .ok (.iinc 7 1, 3) := by decide +kernel
theorem dX2_roundsOfTwo_82 : decode cX2_roundsOfTwo 82 = .ok (.goto (-58), 3) := by decide +kernel
theorem dX2_roundsOfTwo_85 : decode cX2_roundsOfTwo 85 = .ok (.bipush (-9), 2) := by decide +kernel
theorem dX2_roundsOfTwo_87 : decode cX2_roundsOfTwo 87 = .ok (.ireturn, 1) := by decide +kernel
theorem dX2_aimedBehind_0 : decode cX2_aimedBehind 0 = .ok (.aload_n 0, 1) := by decide +kernel
theorem dX2_aimedBehind_1 : decode cX2_aimedBehind 1 = .ok (.getfield 12, 3) := by decide +kernel
theorem dX2_aimedBehind_4 : decode cX2_aimedBehind 4 = .ok (.aload_n 1, 1) := by decide +kernel
theorem dX2_aimedBehind_5 : decode cX2_aimedBehind 5 = .ok (.getfield 121, 3) := by decide +kernel
theorem dX2_aimedBehind_8 : decode cX2_aimedBehind 8 = .ok (.invokevirtual 55, 3) := by decide +kernel
theorem dX2_aimedBehind_11 : decode cX2_aimedBehind 11 = .ok (.aload_n 2, 1) := by decide +kernel
theorem dX2_aimedBehind_12 : decode cX2_aimedBehind 12 = .ok (.aload_n 0, 1) := by decide +kernel
theorem dX2_aimedBehind_13 : decode cX2_aimedBehind 13 = .ok (.getfield 12, 3) := by decide +kernel
theorem dX2_aimedBehind_16 : decode cX2_aimedBehind 16 = .ok (.iload 4, 2) := by decide +kernel
theorem dX2_aimedBehind_18 : decode cX2_aimedBehind 18 = .ok (.invokevirtual 63, 3) := by decide +kernel
theorem dX2_aimedBehind_21 : decode cX2_aimedBehind 21 = .ok (.pop, 1) := by decide +kernel
theorem dX2_aimedBehind_22 : decode cX2_aimedBehind 22 = .ok (.aload_n 0, 1) := by decide +kernel
theorem dX2_aimedBehind_23 : decode cX2_aimedBehind 23 = .ok (.aload_n 0, 1) := by decide +kernel
theorem dX2_aimedBehind_24 : decode cX2_aimedBehind 24 = .ok (.getfield 12, 3) := by decide +kernel
theorem dX2_aimedBehind_27 : decode cX2_aimedBehind 27 = .ok (.aload_n 2, 1) := by decide +kernel
theorem dX2_aimedBehind_28 : decode cX2_aimedBehind 28 = .ok (.aload_n 1, 1) := by decide +kernel
theorem dX2_aimedBehind_29 : decode cX2_aimedBehind 29 = .ok (.getfield 151, 3) := by decide +kernel
theorem dX2_aimedBehind_32 : decode cX2_aimedBehind 32 = .ok (.iload_n 3, 1) := by decide +kernel
theorem dX2_aimedBehind_33 : decode cX2_aimedBehind 33 = .ok (.invokevirtual 80, 3) := by decide +kernel
theorem dX2_aimedBehind_36 : decode cX2_aimedBehind 36 = .ok (.aload_n 1, 1) := by decide +kernel
theorem dX2_aimedBehind_37 : decode cX2_aimedBehind 37 = .ok (.getfield 148, 3) := by decide +kernel
theorem dX2_aimedBehind_40 : decode cX2_aimedBehind 40 = .ok (.iload_n 3, 1) := by decide +kernel
theorem dX2_aimedBehind_41 : decode cX2_aimedBehind 41 = .ok (.invokevirtual 80, 3) := by decide +kernel
theorem dX2_aimedBehind_44 : decode cX2_aimedBehind 44 = .ok (.invokevirtual 157, 3) := by decide +kernel
theorem dX2_aimedBehind_47 : decode cX2_aimedBehind 47 = .ok (.ireturn, 1) := by decide +kernel
theorem dX2_needBehindDays_0 : decode cX2_needBehindDays 0 = .ok (.aload_n 0, 1) := by decide +kernel
theorem dX2_needBehindDays_1 : decode cX2_needBehindDays 1 = .ok (.getfield 12, 3) := by decide +kernel
theorem dX2_needBehindDays_4 : decode cX2_needBehindDays 4 = .ok (.aload_n 1, 1) := by decide +kernel
theorem dX2_needBehindDays_5 : decode cX2_needBehindDays 5 = .ok (.invokevirtual 55, 3) := by decide +kernel
theorem dX2_needBehindDays_8 : decode cX2_needBehindDays 8 = .ok (.aload_n 0, 1) := by decide +kernel
theorem dX2_needBehindDays_9 : decode cX2_needBehindDays 9 = .ok (.iload 4, 2) := by decide +kernel
theorem dX2_needBehindDays_11 : decode cX2_needBehindDays 11 = .ok (.putfield 175, 3) := by decide +kernel
theorem dX2_needBehindDays_14 : decode cX2_needBehindDays 14 = .ok (.iconst 0, 1) := by decide +kernel
theorem dX2_needBehindDays_15 : decode cX2_needBehindDays 15 = .ok (.istore 5, 2) := by decide +kernel
theorem dX2_needBehindDays_17 : decode cX2_needBehindDays 17 = .ok (.iload 5, 2) := by decide +kernel
theorem dX2_needBehindDays_19 : decode cX2_needBehindDays 19 = .ok (.iload_n 3, 1) := by decide +kernel
theorem dX2_needBehindDays_20 : decode cX2_needBehindDays 20 = .ok (.if_icmp .ge 62, 3) := by decide +kernel
theorem dX2_needBehindDays_23 : decode cX2_needBehindDays 23 = .ok (.iconst 0, 1) := by decide +kernel
theorem dX2_needBehindDays_24 : decode cX2_needBehindDays 24 = .ok (.istore 6, 2) := by decide +kernel
theorem dX2_needBehindDays_26 : decode cX2_needBehindDays 26 = .ok (.iconst 0, 1) := by decide +kernel
theorem dX2_needBehindDays_27 : decode cX2_needBehindDays 27 = .ok (.istore 7, 2) := by decide +kernel
theorem dX2_needBehindDays_29 : decode cX2_needBehindDays 29 = .ok (.iload 7, 2) := by decide +kernel
theorem dX2_needBehindDays_31 : decode cX2_needBehindDays 31 = .ok (.iconst 4, 1) := by decide +kernel
theorem dX2_needBehindDays_32 : decode cX2_needBehindDays 32 = .ok (.if_icmp .ge 26, 3) := by decide +kernel
theorem dX2_needBehindDays_35 : decode cX2_needBehindDays 35 = .ok (.iload 6, 2) := by decide +kernel
theorem dX2_needBehindDays_37 : decode cX2_needBehindDays 37 = .ok (.aload_n 0, 1) := by decide +kernel
theorem dX2_needBehindDays_38 : decode cX2_needBehindDays 38 = .ok (.iconst 3, 1) := by decide +kernel
theorem dX2_needBehindDays_39 : decode cX2_needBehindDays 39 = .ok (.invokevirtual 178, 3) := by decide +kernel
theorem dX2_needBehindDays_42 : decode cX2_needBehindDays 42 = .ok (.getstatic 181, 3) := by decide +kernel
theorem dX2_needBehindDays_45 : decode cX2_needBehindDays 45 = .ok (.iload 7, 2) := by decide +kernel
theorem dX2_needBehindDays_47 : decode cX2_needBehindDays 47 = .ok (.iaload, 1) := by decide +kernel
theorem dX2_needBehindDays_48 : decode cX2_needBehindDays 48 = .ok (.imul, 1) := by decide +kernel
theorem dX2_needBehindDays_49 : decode cX2_needBehindDays 49 = .ok (.iadd, 1) := by decide +kernel
theorem dX2_needBehindDays_50 : decode cX2_needBehindDays 50 = .ok (.istore 6, 2) := by decide +kernel
theorem dX2_needBehindDays_52 : decode cX2_needBehindDays 52 = .ok (.iinc 7 1, 3) := by decide +kernel
theorem dX2_needBehindDays_55 : decode cX2_needBehindDays 55 = .ok (.goto (-26), 3) := by decide +kernel
theorem dX2_needBehindDays_58 : decode cX2_needBehindDays 58 = .ok (.aload_n 2, 1) := by decide +kernel
theorem dX2_needBehindDays_59 : decode cX2_needBehindDays 59 = .ok (.aload_n 0, 1) := by decide +kernel
theorem dX2_needBehindDays_60 : decode cX2_needBehindDays 60 = .ok (.getfield 12, 3) := by decide +kernel
theorem dX2_needBehindDays_63 : decode cX2_needBehindDays 63 = .ok (.iload 6, 2) := by decide +kernel
theorem dX2_needBehindDays_65 : decode cX2_needBehindDays 65 = .ok (.invokevirtual 63, 3) := by decide +kernel
theorem dX2_needBehindDays_68 : decode cX2_needBehindDays 68 = .ok (.pop, 1) := by decide +kernel
theorem dX2_needBehindDays_69 : decode cX2_needBehindDays 69 = .ok (.aload_n 0, 1) := by decide +kernel
theorem dX2_needBehindDays_70 : decode cX2_needBehindDays 70 = .ok (.getfield 12, 3) := by decide +kernel
theorem dX2_needBehindDays_73 : decode cX2_needBehindDays 73 = .ok (.invokevirtual 184, 3) := by decide +kernel
theorem dX2_needBehindDays_76 : decode cX2_needBehindDays 76 = .ok (.iinc 5 1, 3) := by decide +kernel
theorem dX2_needBehindDays_79 : decode cX2_needBehindDays 79 = .ok (.goto (-62), 3) := by decide +kernel
theorem dX2_needBehindDays_82 : decode cX2_needBehindDays 82 = .ok (.aload_n 0, 1) := by decide +kernel
theorem dX2_needBehindDays_83 : decode cX2_needBehindDays 83 = .ok (.getfield 12, 3) := by decide +kernel
theorem dX2_needBehindDays_86 : decode cX2_needBehindDays 86 = .ok (.invokevirtual 83, 3) := by decide +kernel
theorem dX2_needBehindDays_89 : decode cX2_needBehindDays 89 = .ok (.ireturn, 1) := by decide +kernel
theorem dX2_drawBelow_0 : decode cX2_drawBelow 0 = .ok (.aload_n 0, 1) := by decide +kernel
theorem dX2_drawBelow_1 : decode cX2_drawBelow 1 = .ok (.aload_n 0, 1) := by decide +kernel
theorem dX2_drawBelow_2 : decode cX2_drawBelow 2 = .ok (.getfield 175, 3) := by decide +kernel
theorem dX2_drawBelow_5 : decode cX2_drawBelow 5 = .ok (.ldc 187, 2) := by decide +kernel
theorem dX2_drawBelow_7 : decode cX2_drawBelow 7 = .ok (.imul, 1) := by decide +kernel
theorem dX2_drawBelow_8 : decode cX2_drawBelow 8 = .ok (.ldc 188, 2) := by decide +kernel
theorem dX2_drawBelow_10 : decode cX2_drawBelow 10 = .ok (.iadd, 1) := by decide +kernel
theorem dX2_drawBelow_11 : decode cX2_drawBelow 11 = .ok (.putfield 175, 3) := by decide +kernel
theorem dX2_drawBelow_14 : decode cX2_drawBelow 14 = .ok (.iload_n 1, 1) := by decide +kernel
theorem dX2_drawBelow_15 : decode cX2_drawBelow 15 = .ok (.ifCond .le 19, 3) := by decide +kernel
theorem dX2_drawBelow_18 : decode cX2_drawBelow 18 = .ok (.aload_n 0, 1) := by decide +kernel
theorem dX2_drawBelow_19 : decode cX2_drawBelow 19 = .ok (.getfield 175, 3) := by decide +kernel
theorem dX2_drawBelow_22 : decode cX2_drawBelow 22 = .ok (.ldc 189, 2) := by decide +kernel
theorem dX2_drawBelow_24 : decode cX2_drawBelow 24 = .ok (.iand, 1) := by decide +kernel
theorem dX2_drawBelow_25 : decode cX2_drawBelow 25 = .ok (.sipush 256, 3) := by decide +kernel
theorem dX2_drawBelow_28 : decode cX2_drawBelow 28 = .ok (.idiv, 1) := by decide +kernel
theorem dX2_drawBelow_29 : decode cX2_drawBelow 29 = .ok (.iload_n 1, 1) := by decide +kernel
theorem dX2_drawBelow_30 : decode cX2_drawBelow 30 = .ok (.irem, 1) := by decide +kernel
theorem dX2_drawBelow_31 : decode cX2_drawBelow 31 = .ok (.goto 4, 3) := by decide +kernel
theorem dX2_drawBelow_34 : decode cX2_drawBelow 34 = .ok (.iconst 0, 1) := by decide +kernel
theorem dX2_drawBelow_35 : decode cX2_drawBelow 35 = .ok (.ireturn, 1) := by decide +kernel
theorem dX2_firstNotSo_0 : decode cX2_firstNotSo 0 = .ok (.aload_n 0, 1) := by decide +kernel
theorem dX2_firstNotSo_1 : decode cX2_firstNotSo 1 = .ok (.getfield 12, 3) := by decide +kernel
theorem dX2_firstNotSo_4 : decode cX2_firstNotSo 4 = .ok (.aload_n 1, 1) := by decide +kernel
theorem dX2_firstNotSo_5 : decode cX2_firstNotSo 5 = .ok (.invokevirtual 55, 3) := by decide +kernel
theorem dX2_firstNotSo_8 : decode cX2_firstNotSo 8 = .ok (.iconst 0, 1) := by decide +kernel
theorem dX2_firstNotSo_9 : decode cX2_firstNotSo 9 = .ok (.istore 5, 2) := by decide +kernel
theorem dX2_firstNotSo_11 : decode cX2_firstNotSo 11 = .ok (.iload 5, 2) := by decide +kernel
theorem dX2_firstNotSo_13 : decode cX2_firstNotSo 13 = .ok (.aload_n 3, 1) := by decide +kernel
theorem dX2_firstNotSo_14 : decode cX2_firstNotSo 14 = .ok (.getfield 79, 3) := by decide +kernel
theorem dX2_firstNotSo_17 : decode cX2_firstNotSo 17 = .ok (.if_icmp .ge 52, 3) := by decide +kernel
theorem dX2_firstNotSo_20 : decode cX2_firstNotSo 20 = .ok (.aload_n 2, 1) := by decide +kernel
theorem dX2_firstNotSo_21 : decode cX2_firstNotSo 21 = .ok (.aload_n 0, 1) := by decide +kernel
theorem dX2_firstNotSo_22 : decode cX2_firstNotSo 22 = .ok (.getfield 12, 3) := by decide +kernel
theorem dX2_firstNotSo_25 : decode cX2_firstNotSo 25 = .ok (.aload_n 3, 1) := by decide +kernel
theorem dX2_firstNotSo_26 : decode cX2_firstNotSo 26 = .ok (.iload 5, 2) := by decide +kernel
theorem dX2_firstNotSo_28 : decode cX2_firstNotSo 28 = .ok (.invokevirtual 80, 3) := by decide +kernel
theorem dX2_firstNotSo_31 : decode cX2_firstNotSo 31 = .ok (.invokevirtual 63, 3) := by decide +kernel
theorem dX2_firstNotSo_34 : decode cX2_firstNotSo 34 = .ok (.istore 6, 2) := by decide +kernel
theorem dX2_firstNotSo_36 : decode cX2_firstNotSo 36 = .ok (.aload 4, 2) := by decide +kernel
theorem dX2_firstNotSo_38 : decode cX2_firstNotSo 38 = .ok (.iload 5, 2) := by decide +kernel
theorem dX2_firstNotSo_40 : decode cX2_firstNotSo 40 = .ok (.invokevirtual 80, 3) := by decide +kernel
theorem dX2_firstNotSo_43 : decode cX2_firstNotSo 43 = .ok (.iload 6, 2) := by decide +kernel
theorem dX2_firstNotSo_45 : decode cX2_firstNotSo 45 = .ok (.bipush (-9), 2) := by decide +kernel
theorem dX2_firstNotSo_47 : decode cX2_firstNotSo 47 = .ok (.if_icmp .ne 8, 3) := by decide +kernel
theorem dX2_firstNotSo_50 : decode cX2_firstNotSo 50 = .ok (.bipush 9, 2) := by decide +kernel
theorem dX2_firstNotSo_52 : decode cX2_firstNotSo 52 = .ok (.goto 5, 3) := by decide +kernel
theorem dX2_firstNotSo_55 : decode cX2_firstNotSo 55 = .ok (.iload 6, 2) := by decide +kernel
theorem dX2_firstNotSo_57 : decode cX2_firstNotSo 57 = .ok (.if_icmp .eq 6, 3) := by decide +kernel
theorem dX2_firstNotSo_60 : decode cX2_firstNotSo 60 = .ok (.iload 5, 2) := by decide +kernel
theorem dX2_firstNotSo_62 : decode cX2_firstNotSo 62 = .ok (.ireturn, 1) := by decide +kernel
theorem dX2_firstNotSo_63 : decode cX2_firstNotSo 63 = .ok (.iinc 5 1, 3) := by decide +kernel
theorem dX2_firstNotSo_66 : decode cX2_firstNotSo 66 = .ok (.goto (-55), 3) := by decide +kernel
theorem dX2_firstNotSo_69 : decode cX2_firstNotSo 69 = .ok (.aload 4, 2) := by decide +kernel
theorem dX2_firstNotSo_71 : decode cX2_firstNotSo 71 = .ok (.getfield 79, 3) := by decide +kernel
theorem dX2_firstNotSo_74 : decode cX2_firstNotSo 74 = .ok (.aload_n 3, 1) := by decide +kernel
theorem dX2_firstNotSo_75 : decode cX2_firstNotSo 75 = .ok (.getfield 79, 3) := by decide +kernel
theorem dX2_firstNotSo_78 : decode cX2_firstNotSo 78 = .ok (.if_icmp .le 10, 3) := by decide +kernel
theorem dX2_firstNotSo_81 : decode cX2_firstNotSo 81 = .ok (.aload_n 3, 1) := by decide +kernel
theorem dX2_firstNotSo_82 : decode cX2_firstNotSo 82 = .ok (.getfield 79, 3) := by decide +kernel
theorem dX2_firstNotSo_85 : decode cX2_firstNotSo 85 = .ok (.goto 5, 3) := by decide +kernel
theorem dX2_firstNotSo_88 : decode cX2_firstNotSo 88 = .ok (.bipush (-9), 2) := by decide +kernel
theorem dX2_firstNotSo_90 : decode cX2_firstNotSo 90 = .ok (.ireturn, 1) := by decide +kernel
theorem dX3_init_0 : decode cX3_init 0 = .ok (.aload_n 0, 1) := by decide +kernel
theorem dX3_init_1 : decode cX3_init 1 = .ok (.iconst 0, 1) := by decide +kernel
theorem dX3_init_2 : decode cX3_init 2 = .ok (.invokespecial 3, 3) := by decide +kernel
theorem dX3_init_5 : decode cX3_init 5 = .ok (.return_, 1) := by decide +kernel
theorem dX3_scoreOf_0 : decode cX3_scoreOf 0 = .ok (.iconst 0, 1) := by decide +kernel
theorem dX3_scoreOf_1 : decode cX3_scoreOf 1 = .ok (.istore 4, 2) := by decide +kernel
theorem dX3_scoreOf_3 : decode cX3_scoreOf 3 = .ok (.iload_n 2, 1) := by decide +kernel
theorem dX3_scoreOf_4 : decode cX3_scoreOf 4 = .ok (.iconst 4, 1) := by decide +kernel
theorem dX3_scoreOf_5 : decode cX3_scoreOf 5 = .ok (.imul, 1) := by decide +kernel
theorem dX3_scoreOf_6 : decode cX3_scoreOf 6 = .ok (.istore 5, 2) := by decide +kernel
theorem dX3_scoreOf_8 : decode cX3_scoreOf 8 = .ok (.iload_n 3, 1) := by decide +kernel
theorem dX3_scoreOf_9 : decode cX3_scoreOf 9 = .ok (.istore 6, 2) := by decide +kernel
theorem dX3_scoreOf_11 : decode cX3_scoreOf 11 = .ok (.iload 6, 2) := by decide +kernel
theorem dX3_scoreOf_13 : decode cX3_scoreOf 13 = .ok (.ifCond .le 60, 3) := by decide +kernel
theorem dX3_scoreOf_16 : decode cX3_scoreOf 16 = .ok (.iload 5, 2) := by decide +kernel
theorem dX3_scoreOf_18 : decode cX3_scoreOf 18 = .ok (.ifCond .lt 55, 3) := by decide +kernel
theorem dX3_scoreOf_21 : decode cX3_scoreOf 21 = .ok (.iload 5, 2) := by decide +kernel
theorem dX3_scoreOf_23 : decode cX3_scoreOf 23 = .ok (.aload_n 1, 1) := by decide +kernel
theorem dX3_scoreOf_24 : decode cX3_scoreOf 24 = .ok (.getfield 9, 3) := by decide +kernel
theorem dX3_scoreOf_27 : decode cX3_scoreOf 27 = .ok (.arraylength, 1) := by decide +kernel
theorem dX3_scoreOf_28 : decode cX3_scoreOf 28 = .ok (.if_icmp .ge 45, 3) := by decide +kernel
theorem dX3_scoreOf_31 : decode cX3_scoreOf 31 = .ok (.iload 6, 2) := by decide +kernel
theorem dX3_scoreOf_33 : decode cX3_scoreOf 33 = .ok (.bipush 10, 2) := by decide +kernel
theorem dX3_scoreOf_35 : decode cX3_scoreOf 35 = .ok (.irem, 1) := by decide +kernel
theorem dX3_scoreOf_36 : decode cX3_scoreOf 36 = .ok (.ifCond .le 24, 3) := by decide +kernel
theorem dX3_scoreOf_39 : decode cX3_scoreOf 39 = .ok (.aload_n 1, 1) := by decide +kernel
theorem dX3_scoreOf_40 : decode cX3_scoreOf 40 = .ok (.getfield 9, 3) := by decide +kernel
theorem dX3_scoreOf_43 : decode cX3_scoreOf 43 = .ok (.iload 5, 2) := by decide +kernel
theorem dX3_scoreOf_45 : decode cX3_scoreOf 45 = .ok (.iaload, 1) := by decide +kernel
theorem dX3_scoreOf_46 : decode cX3_scoreOf 46 = .ok (.iload 4, 2) := by decide +kernel
theorem dX3_scoreOf_48 : decode cX3_scoreOf 48 = .ok (.if_icmp .le 12, 3) := by decide +kernel
theorem dX3_scoreOf_51 : decode cX3_scoreOf 51 = .ok (.aload_n 1, 1) := by decide +kernel
theorem dX3_scoreOf_52 : decode cX3_scoreOf 52 = .ok (.getfield 9, 3) := by decide +kernel
theorem dX3_scoreOf_55 : decode cX3_scoreOf 55 = .ok (.iload 5, 2) := by decide +kernel
theorem dX3_scoreOf_57 : decode cX3_scoreOf 57 = .ok (.iaload, 1) := by decide +kernel
theorem dX3_scoreOf_58 : decode cX3_scoreOf 58 = .ok (.istore 4, 2) := by decide +kernel
theorem dX3_scoreOf_60 : decode cX3_scoreOf 60 = .ok (.iinc 5 1, 3) := by decide +kernel
theorem dX3_scoreOf_63 : decode cX3_scoreOf 63 = .ok (.iload 6, 2) := by decide +kernel
theorem dX3_scoreOf_65 : decode cX3_scoreOf 65 = .ok (.bipush 10, 2) := by decide +kernel
theorem dX3_scoreOf_67 : decode cX3_scoreOf 67 = .ok (.idiv, 1) := by decide +kernel
theorem dX3_scoreOf_68 : decode cX3_scoreOf 68 = .ok (.istore 6, 2) := by decide +kernel
theorem dX3_scoreOf_70 : decode cX3_scoreOf 70 = .ok (.goto (-59), 3) := by decide +kernel
theorem dX3_scoreOf_73 : decode cX3_scoreOf 73 = .ok (.iload 4, 2) := by decide +kernel
theorem dX3_scoreOf_75 : decode cX3_scoreOf 75 = .ok (.ireturn, 1) := by decide +kernel
theorem dX4_init_0 : decode cX4_init 0 = .ok (.aload_n 0, 1) := by decide +kernel
theorem dX4_init_1 : decode cX4_init 1 = .ok (.invokespecial 1, 3) := by decide +kernel
theorem dX4_init_4 : decode cX4_init 4 = .ok (.aload_n 0, 1) := by decide +kernel
theorem dX4_init_5 : decode cX4_init 5 = .ok (.iload_n 1, 1) := by decide +kernel
theorem dX4_init_6 : decode cX4_init 6 = .ok (.ifCond .le 7, 3) := by decide +kernel
theorem dX4_init_9 : decode cX4_init 9 = .ok (.iload_n 1, 1) := by decide +kernel
theorem dX4_init_10 : decode cX4_init 10 = .ok (.goto 4, 3) := by decide +kernel
theorem dX4_init_13 : decode cX4_init 13 = .ok (.iconst 0, 1) := by decide +kernel
theorem dX4_init_14 : decode cX4_init 14 = .ok (.newarray .int, 2) := by decide +kernel
theorem dX4_init_16 : decode cX4_init 16 = .ok (.putfield 7, 3) := by decide +kernel
theorem dX4_init_19 : decode cX4_init 19 = .ok (.return_, 1) := by decide +kernel
theorem dX4_isFull_0 : decode cX4_isFull 0 = .ok (.aload_n 0, 1) := by decide +kernel
theorem dX4_isFull_1 : decode cX4_isFull 1 = .ok (.getfield 13, 3) := by decide +kernel
theorem dX4_isFull_4 : decode cX4_isFull 4 = .ok (.aload_n 0, 1) := by decide +kernel
theorem dX4_isFull_5 : decode cX4_isFull 5 = .ok (.getfield 7, 3) := by decide +kernel
theorem dX4_isFull_8 : decode cX4_isFull 8 = .ok (.arraylength, 1) := by decide +kernel
theorem dX4_isFull_9 : decode cX4_isFull 9 = .ok (.if_icmp .lt 7, 3) := by decide +kernel
theorem dX4_isFull_12 : decode cX4_isFull 12 = .ok (.iconst 1, 1) := by decide +kernel
theorem dX4_isFull_13 : decode cX4_isFull 13 = .ok (.goto 4, 3) := by decide +kernel
theorem dX4_isFull_16 : decode cX4_isFull 16 = .ok (.iconst 0, 1) := by decide +kernel
theorem dX4_isFull_17 : decode cX4_isFull 17 = .ok (.ireturn, 1) := by decide +kernel
theorem dX4_add_0 : decode cX4_add 0 = .ok (.aload_n 0, 1) := by decide +kernel
theorem dX4_add_1 : decode cX4_add 1 = .ok (.getfield 13, 3) := by decide +kernel
theorem dX4_add_4 : decode cX4_add 4 = .ok (.ifCond .lt 35, 3) := by decide +kernel
theorem dX4_add_7 : decode cX4_add 7 = .ok (.aload_n 0, 1) := by decide +kernel
theorem dX4_add_8 : decode cX4_add 8 = .ok (.getfield 13, 3) := by decide +kernel
theorem dX4_add_11 : decode cX4_add 11 = .ok (.aload_n 0, 1) := by decide +kernel
theorem dX4_add_12 : decode cX4_add 12 = .ok (.getfield 7, 3) := by decide +kernel
theorem dX4_add_15 : decode cX4_add 15 = .ok (.arraylength, 1) := by decide +kernel
theorem dX4_add_16 : decode cX4_add 16 = .ok (.if_icmp .ge 23, 3) := by decide +kernel
theorem dX4_add_19 : decode cX4_add 19 = .ok (.aload_n 0, 1) := by decide +kernel
theorem dX4_add_20 : decode cX4_add 20 = .ok (.getfield 7, 3) := by decide +kernel
theorem dX4_add_23 : decode cX4_add 23 = .ok (.aload_n 0, 1) := by decide +kernel
theorem dX4_add_24 : decode cX4_add 24 = .ok (.getfield 13, 3) := by decide +kernel
theorem dX4_add_27 : decode cX4_add 27 = .ok (.iload_n 1, 1) := by decide +kernel
theorem dX4_add_28 : decode cX4_add 28 = .ok (.iastore, 1) := by decide +kernel
theorem dX4_add_29 : decode cX4_add 29 = .ok (.aload_n 0, 1) := by decide +kernel
theorem dX4_add_30 : decode cX4_add 30 = .ok (.dup, 1) := by decide +kernel
theorem dX4_add_31 : decode cX4_add 31 = .ok (.getfield 13, 3) := by decide +kernel
theorem dX4_add_34 : decode cX4_add 34 = .ok (.iconst 1, 1) := by decide +kernel
theorem dX4_add_35 : decode cX4_add 35 = .ok (.iadd, 1) := by decide +kernel
theorem dX4_add_36 : decode cX4_add 36 = .ok (.putfield 13, 3) := by decide +kernel
theorem dX4_add_39 : decode cX4_add 39 = .ok (.return_, 1) := by decide +kernel
theorem dX4_get_0 : decode cX4_get 0 = .ok (.iload_n 1, 1) := by decide +kernel
theorem dX4_get_1 : decode cX4_get 1 = .ok (.ifCond .lt 29, 3) := by decide +kernel
theorem dX4_get_4 : decode cX4_get 4 = .ok (.iload_n 1, 1) := by decide +kernel
theorem dX4_get_5 : decode cX4_get 5 = .ok (.aload_n 0, 1) := by decide +kernel
theorem dX4_get_6 : decode cX4_get 6 = .ok (.getfield 13, 3) := by decide +kernel
theorem dX4_get_9 : decode cX4_get 9 = .ok (.if_icmp .ge 21, 3) := by decide +kernel
theorem dX4_get_12 : decode cX4_get 12 = .ok (.iload_n 1, 1) := by decide +kernel
theorem dX4_get_13 : decode cX4_get 13 = .ok (.aload_n 0, 1) := by decide +kernel
theorem dX4_get_14 : decode cX4_get 14 = .ok (.getfield 7, 3) := by decide +kernel
theorem dX4_get_17 : decode cX4_get 17 = .ok (.arraylength, 1) := by decide +kernel
theorem dX4_get_18 : decode cX4_get 18 = .ok (.if_icmp .ge 12, 3) := by decide +kernel
theorem dX4_get_21 : decode cX4_get 21 = .ok (.aload_n 0, 1) := by decide +kernel
theorem dX4_get_22 : decode cX4_get 22 = .ok (.getfield 7, 3) := by decide +kernel
theorem dX4_get_25 : decode cX4_get 25 = .ok (.iload_n 1, 1) := by decide +kernel
theorem dX4_get_26 : decode cX4_get 26 = .ok (.iaload, 1) := by decide +kernel
theorem dX4_get_27 : decode cX4_get 27 = .ok (.goto 4, 3) := by decide +kernel
theorem dX4_get_30 : decode cX4_get 30 = .ok (.iconst (-1), 1) := by decide +kernel
theorem dX4_get_31 : decode cX4_get 31 = .ok (.ireturn, 1) := by decide +kernel
theorem dX4_set_0 : decode cX4_set 0 = .ok (.iload_n 1, 1) := by decide +kernel
theorem dX4_set_1 : decode cX4_set 1 = .ok (.ifCond .lt 27, 3) := by decide +kernel
theorem dX4_set_4 : decode cX4_set 4 = .ok (.iload_n 1, 1) := by decide +kernel
theorem dX4_set_5 : decode cX4_set 5 = .ok (.aload_n 0, 1) := by decide +kernel
theorem dX4_set_6 : decode cX4_set 6 = .ok (.getfield 13, 3) := by decide +kernel
theorem dX4_set_9 : decode cX4_set 9 = .ok (.if_icmp .ge 19, 3) := by decide +kernel
theorem dX4_set_12 : decode cX4_set 12 = .ok (.iload_n 1, 1) := by decide +kernel
theorem dX4_set_13 : decode cX4_set 13 = .ok (.aload_n 0, 1) := by decide +kernel
theorem dX4_set_14 : decode cX4_set 14 = .ok (.getfield 7, 3) := by decide +kernel
theorem dX4_set_17 : decode cX4_set 17 = .ok (.arraylength, 1) := by decide +kernel
theorem dX4_set_18 : decode cX4_set 18 = .ok (.if_icmp .ge 10, 3) := by decide +kernel
theorem dX4_set_21 : decode cX4_set 21 = .ok (.aload_n 0, 1) := by decide +kernel
theorem dX4_set_22 : decode cX4_set 22 = .ok (.getfield 7, 3) := by decide +kernel
theorem dX4_set_25 : decode cX4_set 25 = .ok (.iload_n 1, 1) := by decide +kernel
theorem dX4_set_26 : decode cX4_set 26 = .ok (.iload_n 2, 1) := by decide +kernel
theorem dX4_set_27 : decode cX4_set 27 = .ok (.iastore, 1) := by decide +kernel
theorem dX4_set_28 : decode cX4_set 28 = .ok (.return_, 1) := by decide +kernel
theorem dX4_clear_0 : decode cX4_clear 0 = .ok (.aload_n 0, 1) := by decide +kernel
theorem dX4_clear_1 : decode cX4_clear 1 = .ok (.iconst 0, 1) := by decide +kernel
theorem dX4_clear_2 : decode cX4_clear 2 = .ok (.putfield 13, 3) := by decide +kernel
theorem dX4_clear_5 : decode cX4_clear 5 = .ok (.return_, 1) := by decide +kernel
theorem dX4_takeFrom_0 : decode cX4_takeFrom 0 = .ok (.aload_n 0, 1) := by decide +kernel
theorem dX4_takeFrom_1 : decode cX4_takeFrom 1 = .ok (.invokevirtual 17, 3) := by decide +kernel
theorem dX4_takeFrom_4 : decode cX4_takeFrom 4 = .ok (.iconst 0, 1) := by decide +kernel
theorem dX4_takeFrom_5 : decode cX4_takeFrom 5 = .ok (.istore_n 2, 1) := by decide +kernel
theorem dX4_takeFrom_6 : decode cX4_takeFrom 6 = .ok (.iload_n 2, 1) := by decide +kernel
theorem dX4_takeFrom_7 : decode cX4_takeFrom 7 = .ok (.aload_n 1, 1) := by decide +kernel
theorem dX4_takeFrom_8 : decode cX4_takeFrom 8 = .ok (.getfield 13, 3) := by decide +kernel
theorem dX4_takeFrom_11 : decode cX4_takeFrom 11 = .ok (.if_icmp .ge 18, 3) := by decide +kernel
theorem dX4_takeFrom_14 : decode cX4_takeFrom 14 = .ok (.aload_n 0, 1) := by decide +kernel
theorem dX4_takeFrom_15 : decode cX4_takeFrom 15 = .ok (.aload_n 1, 1) := by decide +kernel
theorem dX4_takeFrom_16 : decode cX4_takeFrom 16 = .ok (.iload_n 2, 1) := by decide +kernel
theorem dX4_takeFrom_17 : decode cX4_takeFrom 17 = .ok (.invokevirtual 20, 3) := by decide +kernel
theorem dX4_takeFrom_20 : decode cX4_takeFrom 20 = .ok (.invokevirtual 24, 3) := by decide +kernel
theorem dX4_takeFrom_23 : decode cX4_takeFrom 23 = .ok (.iinc 2 1, 3) := by decide +kernel
theorem dX4_takeFrom_26 : decode cX4_takeFrom 26 = .ok (.goto (-20), 3) := by decide +kernel
theorem dX4_takeFrom_29 : decode cX4_takeFrom 29 = .ok (.return_, 1) := by decide +kernel
theorem dX5_init_0 : decode cX5_init 0 = .ok (.aload_n 0, 1) := by decide +kernel
theorem dX5_init_1 : decode cX5_init 1 = .ok (.invokespecial 3, 3) := by decide +kernel
theorem dX5_init_4 : decode cX5_init 4 = .ok (.aload_n 0, 1) := by decide +kernel
theorem dX5_init_5 : decode cX5_init 5 = .ok (.bipush 24, 2) := by decide +kernel
theorem dX5_init_7 : decode cX5_init 7 = .ok (.newarray .int, 2) := by decide +kernel
theorem dX5_init_9 : decode cX5_init 9 = .ok (.putfield 9, 3) := by decide +kernel
theorem dX5_init_12 : decode cX5_init 12 = .ok (.aload_n 0, 1) := by decide +kernel
theorem dX5_init_13 : decode cX5_init 13 = .ok (.bipush 6, 2) := by decide +kernel
theorem dX5_init_15 : decode cX5_init 15 = .ok (.newarray .int, 2) := by decide +kernel
theorem dX5_init_17 : decode cX5_init 17 = .ok (.putfield 15, 3) := by decide +kernel
theorem dX5_init_20 : decode cX5_init 20 = .ok (.return_, 1) := by decide +kernel
theorem dX5_has_0 : decode cX5_has 0 = .ok (.iload_n 1, 1) := by decide +kernel
theorem dX5_has_1 : decode cX5_has 1 = .ok (.ifCond .lt 15, 3) := by decide +kernel
theorem dX5_has_4 : decode cX5_has 4 = .ok (.iload_n 1, 1) := by decide +kernel
theorem dX5_has_5 : decode cX5_has 5 = .ok (.aload_n 0, 1) := by decide +kernel
theorem dX5_has_6 : decode cX5_has 6 = .ok (.getfield 18, 3) := by decide +kernel
theorem dX5_has_9 : decode cX5_has 9 = .ok (.if_icmp .ge 7, 3) := by decide +kernel
theorem dX5_has_12 : decode cX5_has 12 = .ok (.iconst 1, 1) := by decide +kernel
theorem dX5_has_13 : decode cX5_has 13 = .ok (.goto 4, 3) := by decide +kernel
theorem dX5_has_16 : decode cX5_has 16 = .ok (.iconst 0, 1) := by decide +kernel
theorem dX5_has_17 : decode cX5_has 17 = .ok (.ireturn, 1) := by decide +kernel
theorem dX5_lack_0 : decode cX5_lack 0 = .ok (.iload_n 1, 1) := by decide +kernel
theorem dX5_lack_1 : decode cX5_lack 1 = .ok (.iconst 4, 1) := by decide +kernel
theorem dX5_lack_2 : decode cX5_lack 2 = .ok (.imul, 1) := by decide +kernel
theorem dX5_lack_3 : decode cX5_lack 3 = .ok (.iload_n 2, 1) := by decide +kernel
theorem dX5_lack_4 : decode cX5_lack 4 = .ok (.iadd, 1) := by decide +kernel
theorem dX5_lack_5 : decode cX5_lack 5 = .ok (.istore_n 3, 1) := by decide +kernel
theorem dX5_lack_6 : decode cX5_lack 6 = .ok (.iload_n 3, 1) := by decide +kernel
theorem dX5_lack_7 : decode cX5_lack 7 = .ok (.ifCond .lt 21, 3) := by decide +kernel
theorem dX5_lack_10 : decode cX5_lack 10 = .ok (.iload_n 3, 1) := by decide +kernel
theorem dX5_lack_11 : decode cX5_lack 11 = .ok (.aload_n 0, 1) := by decide +kernel
theorem dX5_lack_12 : decode cX5_lack 12 = .ok (.getfield 9, 3) := by decide +kernel
theorem dX5_lack_15 : decode cX5_lack 15 = .ok (.arraylength, 1) := by decide +kernel
theorem dX5_lack_16 : decode cX5_lack 16 = .ok (.if_icmp .ge 12, 3) := by decide +kernel
theorem dX5_lack_19 : decode cX5_lack 19 = .ok (.aload_n 0, 1) := by decide +kernel
theorem dX5_lack_20 : decode cX5_lack 20 = .ok (.getfield 9, 3) := by decide +kernel
theorem dX5_lack_23 : decode cX5_lack 23 = .ok (.iload_n 3, 1) := by decide +kernel
theorem dX5_lack_24 : decode cX5_lack 24 = .ok (.iaload, 1) := by decide +kernel
theorem dX5_lack_25 : decode cX5_lack 25 = .ok (.goto 4, 3) := by decide +kernel
theorem dX5_lack_28 : decode cX5_lack 28 = .ok (.iconst 0, 1) := by decide +kernel
theorem dX5_lack_29 : decode cX5_lack 29 = .ok (.ireturn, 1) := by decide +kernel
theorem dX5_setLack_0 : decode cX5_setLack 0 = .ok (.iload_n 1, 1) := by decide +kernel
theorem dX5_setLack_1 : decode cX5_setLack 1 = .ok (.iconst 4, 1) := by decide +kernel
theorem dX5_setLack_2 : decode cX5_setLack 2 = .ok (.imul, 1) := by decide +kernel
theorem dX5_setLack_3 : decode cX5_setLack 3 = .ok (.iload_n 2, 1) := by decide +kernel
theorem dX5_setLack_4 : decode cX5_setLack 4 = .ok (.iadd, 1) := by decide +kernel
theorem dX5_setLack_5 : decode cX5_setLack 5 = .ok (.istore 4, 2) := by decide +kernel
theorem dX5_setLack_7 : decode cX5_setLack 7 = .ok (.iload 4, 2) := by decide +kernel
theorem dX5_setLack_9 : decode cX5_setLack 9 = .ok (.ifCond .lt 30, 3) := by decide +kernel
theorem dX5_setLack_12 : decode cX5_setLack 12 = .ok (.iload 4, 2) := by decide +kernel
theorem dX5_setLack_14 : decode cX5_setLack 14 = .ok (.aload_n 0, 1) := by decide +kernel
theorem dX5_setLack_15 : decode cX5_setLack 15 = .ok (.getfield 9, 3) := by decide +kernel
theorem dX5_setLack_18 : decode cX5_setLack 18 = .ok (.arraylength, 1) := by decide +kernel
theorem dX5_setLack_19 : decode cX5_setLack 19 = .ok (.if_icmp .ge 20, 3) := by decide +kernel
theorem dX5_setLack_22 : decode cX5_setLack 22 = .ok (.aload_n 0, 1) := by decide +kernel
theorem dX5_setLack_23 : decode cX5_setLack 23 = .ok (.getfield 9, 3) := by decide +kernel
theorem dX5_setLack_26 : decode cX5_setLack 26 = .ok (.iload 4, 2) := by decide +kernel
theorem dX5_setLack_28 : decode cX5_setLack 28 = .ok (.iconst 0, 1) := by decide +kernel
theorem dX5_setLack_29 : decode cX5_setLack 29 = .ok (.iload_n 3, 1) := by decide +kernel
theorem dX5_setLack_30 : decode cX5_setLack 30 = .ok (.bipush 30, 2) := by decide +kernel
theorem dX5_setLack_32 : decode cX5_setLack 32 = .ok (.invokestatic 22, 3) := by decide +kernel
theorem dX5_setLack_35 : decode cX5_setLack 35 = .ok (.invokestatic 28, 3) := by decide +kernel
theorem dX5_setLack_38 : decode cX5_setLack 38 = .ok (.iastore, 1) := by decide +kernel
theorem dX5_setLack_39 : decode cX5_setLack 39 = .ok (.return_, 1) := by decide +kernel
theorem dX5_enter_0 : decode cX5_enter 0 = .ok (.aload_n 0, 1) := by decide +kernel
theorem dX5_enter_1 : decode cX5_enter 1 = .ok (.getfield 18, 3) := by decide +kernel
theorem dX5_enter_4 : decode cX5_enter 4 = .ok (.ifCond .lt 15, 3) := by decide +kernel
theorem dX5_enter_7 : decode cX5_enter 7 = .ok (.aload_n 0, 1) := by decide +kernel
theorem dX5_enter_8 : decode cX5_enter 8 = .ok (.getfield 18, 3) := by decide +kernel
theorem dX5_enter_11 : decode cX5_enter 11 = .ok (.aload_n 0, 1) := by decide +kernel
theorem dX5_enter_12 : decode cX5_enter 12 = .ok (.getfield 15, 3) := by decide +kernel
theorem dX5_enter_15 : decode cX5_enter 15 = .ok (.arraylength, 1) := by decide +kernel
theorem dX5_enter_16 : decode cX5_enter 16 = .ok (.if_icmp .lt 5, 3) := by decide +kernel
theorem dX5_enter_19 : decode cX5_enter 19 = .ok (.iconst 0, 1) := by decide +kernel
theorem dX5_enter_20 : decode cX5_enter 20 = .ok (.ireturn, 1) := by decide +kernel
theorem dX5_enter_21 : decode cX5_enter 21 = .ok (.aload_n 0, 1) := by decide +kernel
theorem dX5_enter_22 : decode cX5_enter 22 = .ok (.getfield 15, 3) := by decide +kernel
theorem dX5_enter_25 : decode cX5_enter 25 = .ok (.aload_n 0, 1) := by decide +kernel
theorem dX5_enter_26 : decode cX5_enter 26 = .ok (.getfield 18, 3) := by decide +kernel
theorem dX5_enter_29 : decode cX5_enter 29 = .ok (.iload_n 1, 1) := by decide +kernel
theorem dX5_enter_30 : decode cX5_enter 30 = .ok (.iastore, 1) := by decide +kernel
theorem dX5_enter_31 : decode cX5_enter 31 = .ok (.aload_n 0, 1) := by decide +kernel
theorem dX5_enter_32 : decode cX5_enter 32 = .ok (.dup, 1) := by decide +kernel
theorem dX5_enter_33 : decode cX5_enter 33 = .ok (.getfield 18, 3) := by decide +kernel
theorem dX5_enter_36 : decode cX5_enter 36 = .ok (.iconst 1, 1) := by decide +kernel
theorem dX5_enter_37 : decode cX5_enter 37 = .ok (.iadd, 1) := by decide +kernel
theorem dX5_enter_38 : decode cX5_enter 38 = .ok (.putfield 18, 3) := by decide +kernel
theorem dX5_enter_41 : decode cX5_enter 41 = .ok (.iconst 1, 1) := by decide +kernel
theorem dX5_enter_42 : decode cX5_enter 42 = .ok (.ireturn, 1) := by decide +kernel
theorem dX5_takeFrom_0 : decode cX5_takeFrom 0 = .ok (.aload_n 0, 1) := by decide +kernel
theorem dX5_takeFrom_1 : decode cX5_takeFrom 1 = .ok (.aload_n 1, 1) := by decide +kernel
theorem dX5_takeFrom_2 : decode cX5_takeFrom 2 = .ok (.getfield 18, 3) := by decide +kernel
theorem dX5_takeFrom_5 : decode cX5_takeFrom 5 = .ok (.putfield 18, 3) := by decide +kernel
theorem dX5_takeFrom_8 : decode cX5_takeFrom 8 = .ok (.aload_n 1, 1) := by decide +kernel
theorem dX5_takeFrom_9 : decode cX5_takeFrom 9 = .ok (.getfield 9, 3) := by decide +kernel
theorem dX5_takeFrom_12 : decode cX5_takeFrom 12 = .ok (.iconst 0, 1) := by decide +kernel
theorem dX5_takeFrom_13 : decode cX5_takeFrom 13 = .ok (.aload_n 0, 1) := by decide +kernel
theorem dX5_takeFrom_14 : decode cX5_takeFrom 14 = .ok (.getfield 9, 3) := by decide +kernel
theorem dX5_takeFrom_17 : decode cX5_takeFrom 17 = .ok (.iconst 0, 1) := by decide +kernel
theorem dX5_takeFrom_18 : decode cX5_takeFrom 18 = .ok (.aload_n 0, 1) := by decide +kernel
theorem dX5_takeFrom_19 : decode cX5_takeFrom 19 = .ok (.getfield 9, 3) := by decide +kernel
theorem dX5_takeFrom_22 : decode cX5_takeFrom 22 = .ok (.arraylength, 1) := by decide +kernel
theorem dX5_takeFrom_23 : decode cX5_takeFrom 23 = .ok (.invokestatic 31, 3) := by decide +kernel
theorem dX5_takeFrom_26 : decode cX5_takeFrom 26 = .ok (.aload_n 1, 1) := by decide +kernel
theorem dX5_takeFrom_27 : decode cX5_takeFrom 27 = .ok (.getfield 15, 3) := by decide +kernel
theorem dX5_takeFrom_30 : decode cX5_takeFrom 30 = .ok (.iconst 0, 1) := by decide +kernel
theorem dX5_takeFrom_31 : decode cX5_takeFrom 31 = .ok (.aload_n 0, 1) := by decide +kernel
theorem dX5_takeFrom_32 : decode cX5_takeFrom 32 = .ok (.getfield 15, 3) := by decide +kernel
theorem dX5_takeFrom_35 : decode cX5_takeFrom 35 = .ok (.iconst 0, 1) := by decide +kernel
theorem dX5_takeFrom_36 : decode cX5_takeFrom 36 = .ok (.aload_n 0, 1) := by decide +kernel
theorem dX5_takeFrom_37 : decode cX5_takeFrom 37 = .ok (.getfield 15, 3) := by decide +kernel
theorem dX5_takeFrom_40 : decode cX5_takeFrom 40 = .ok (.arraylength, 1) := by decide +kernel
theorem dX5_takeFrom_41 : decode cX5_takeFrom 41 = .ok (.invokestatic 31, 3) := by decide +kernel
theorem dX5_takeFrom_44 : decode cX5_takeFrom 44 = .ok (.return_, 1) := by decide +kernel
theorem dX5_total_0 : decode cX5_total 0 = .ok (.iconst 0, 1) := by decide +kernel
theorem dX5_total_1 : decode cX5_total 1 = .ok (.istore_n 1, 1) := by decide +kernel
theorem dX5_total_2 : decode cX5_total 2 = .ok (.iconst 0, 1) := by decide +kernel
theorem dX5_total_3 : decode cX5_total 3 = .ok (.istore_n 2, 1) := by decide +kernel
theorem dX5_total_4 : decode cX5_total 4 = .ok (.iload_n 2, 1) := by decide +kernel
theorem dX5_total_5 : decode cX5_total 5 = .ok (.aload_n 0, 1) := by decide +kernel
theorem dX5_total_6 : decode cX5_total 6 = .ok (.getfield 9, 3) := by decide +kernel
theorem dX5_total_9 : decode cX5_total 9 = .ok (.arraylength, 1) := by decide +kernel
theorem dX5_total_10 : decode cX5_total 10 = .ok (.if_icmp .ge 18, 3) := by decide +kernel
theorem dX5_total_13 : decode cX5_total 13 = .ok (.iload_n 1, 1) := by decide +kernel
theorem dX5_total_14 : decode cX5_total 14 = .ok (.aload_n 0, 1) := by decide +kernel
theorem dX5_total_15 : decode cX5_total 15 = .ok (.getfield 9, 3) := by decide +kernel
theorem dX5_total_18 : decode cX5_total 18 = .ok (.iload_n 2, 1) := by decide +kernel
theorem dX5_total_19 : decode cX5_total 19 = .ok (.iaload, 1) := by decide +kernel
theorem dX5_total_20 : decode cX5_total 20 = .ok (.iadd, 1) := by decide +kernel
theorem dX5_total_21 : decode cX5_total 21 = .ok (.istore_n 1, 1) := by decide +kernel
theorem dX5_total_22 : decode cX5_total 22 = .ok (.iinc 2 1, 3) := by decide +kernel
theorem dX5_total_25 : decode cX5_total 25 = .ok (.goto (-21), 3) := by decide +kernel
theorem dX5_total_28 : decode cX5_total 28 = .ok (.iload_n 1, 1) := by decide +kernel
theorem dX5_total_29 : decode cX5_total 29 = .ok (.ireturn, 1) := by decide +kernel
theorem dX5_grow_0 : decode cX5_grow 0 = .ok (.iconst 0, 1) := by decide +kernel
theorem dX5_grow_1 : decode cX5_grow 1 = .ok (.istore_n 1, 1) := by decide +kernel
theorem dX5_grow_2 : decode cX5_grow 2 = .ok (.iload_n 1, 1) := by decide +kernel
theorem dX5_grow_3 : decode cX5_grow 3 = .ok (.aload_n 0, 1) := by decide +kernel
theorem dX5_grow_4 : decode cX5_grow 4 = .ok (.getfield 18, 3) := by decide +kernel
theorem dX5_grow_7 : decode cX5_grow 7 = .ok (.if_icmp .ge 50, 3) := by decide +kernel
theorem dX5_grow_10 : decode cX5_grow 10 = .ok (.iload_n 1, 1) := by decide +kernel
theorem dX5_grow_11 : decode cX5_grow 11 = .ok (.aload_n 0, 1) := by decide +kernel
theorem dX5_grow_12 : decode cX5_grow 12 = .ok (.getfield 15, 3) := by decide +kernel
theorem dX5_grow_15 : decode cX5_grow 15 = .ok (.arraylength, 1) := by decide +kernel
theorem dX5_grow_16 : decode cX5_grow 16 = .ok (.if_icmp .ge 41, 3) := by decide +kernel
theorem dX5_grow_19 : decode cX5_grow 19 = .ok (.iconst 0, 1) := by decide +kernel
theorem dX5_grow_20 : decode cX5_grow 20 = .ok (.istore_n 2, 1) := by decide +kernel
theorem dX5_grow_21 : decode cX5_grow 21 = .ok (.iload_n 2, 1) := by decide +kernel
theorem dX5_grow_22 : decode cX5_grow 22 = .ok (.iconst 4, 1) := by decide +kernel
theorem dX5_grow_23 : decode cX5_grow 23 = .ok (.if_icmp .ge 28, 3) := by decide +kernel
theorem dX5_grow_26 : decode cX5_grow 26 = .ok (.aload_n 0, 1) := by decide +kernel
theorem dX5_grow_27 : decode cX5_grow 27 = .ok (.iload_n 1, 1) := by decide +kernel
theorem dX5_grow_28 : decode cX5_grow 28 = .ok (.iload_n 2, 1) := by decide +kernel
theorem dX5_grow_29 : decode cX5_grow 29 = .ok (.aload_n 0, 1) := by decide +kernel
theorem dX5_grow_30 : decode cX5_grow 30 = .ok (.iload_n 1, 1) := by decide +kernel
theorem dX5_grow_31 : decode cX5_grow 31 = .ok (.iload_n 2, 1) := by decide +kernel
theorem dX5_grow_32 : decode cX5_grow 32 = .ok (.invokevirtual 37, 3) := by decide +kernel
theorem dX5_grow_35 : decode cX5_grow 35 = .ok (.aload_n 0, 1) := by decide +kernel
theorem dX5_grow_36 : decode cX5_grow 36 = .ok (.getfield 15, 3) := by decide +kernel
theorem dX5_grow_39 : decode cX5_grow 39 = .ok (.iload_n 1, 1) := by decide +kernel
theorem dX5_grow_40 : decode cX5_grow 40 = .ok (.iaload, 1) := by decide +kernel
theorem dX5_grow_41 : decode cX5_grow 41 = .ok (.iadd, 1) := by decide +kernel
theorem dX5_grow_42 : decode cX5_grow 42 = .ok (.invokevirtual 40, 3) := by decide +kernel
theorem dX5_grow_45 : decode cX5_grow 45 = .ok (.iinc 2 1, 3) := by decide +kernel
theorem dX5_grow_48 : decode cX5_grow 48 = .ok (.goto (-27), 3) := by decide +kernel
theorem dX5_grow_51 : decode cX5_grow 51 = .ok (.iinc 1 1, 3) := by decide +kernel
theorem dX5_grow_54 : decode cX5_grow 54 = .ok (.goto (-52), 3) := by decide +kernel
theorem dX5_grow_57 : decode cX5_grow 57 = .ok (.return_, 1) := by decide +kernel
theorem dX5_handTo_0 : decode cX5_handTo 0 = .ok (.iconst 0, 1) := by decide +kernel
theorem dX5_handTo_1 : decode cX5_handTo 1 = .ok (.istore_n 3, 1) := by decide +kernel
theorem dX5_handTo_2 : decode cX5_handTo 2 = .ok (.iload_n 3, 1) := by decide +kernel
theorem dX5_handTo_3 : decode cX5_handTo 3 = .ok (.aload_n 0, 1) := by decide +kernel
theorem dX5_handTo_4 : decode cX5_handTo 4 = .ok (.getfield 18, 3) := by decide +kernel
theorem dX5_handTo_7 : decode cX5_handTo 7 = .ok (.if_icmp .ge 63, 3) := by decide +kernel
theorem dX5_handTo_10 : decode cX5_handTo 10 = .ok (.iload_n 2, 1) := by decide +kernel
theorem dX5_handTo_11 : decode cX5_handTo 11 = .ok (.istore 4, 2) := by decide +kernel
theorem dX5_handTo_13 : decode cX5_handTo 13 = .ok (.iconst 0, 1) := by decide +kernel
theorem dX5_handTo_14 : decode cX5_handTo 14 = .ok (.istore 5, 2) := by decide +kernel
theorem dX5_handTo_16 : decode cX5_handTo 16 = .ok (.iload 5, 2) := by decide +kernel
theorem dX5_handTo_18 : decode cX5_handTo 18 = .ok (.iconst 4, 1) := by decide +kernel
theorem dX5_handTo_19 : decode cX5_handTo 19 = .ok (.if_icmp .ge 45, 3) := by decide +kernel
theorem dX5_handTo_22 : decode cX5_handTo 22 = .ok (.iload_n 1, 1) := by decide +kernel
theorem dX5_handTo_23 : decode cX5_handTo 23 = .ok (.iload_n 3, 1) := by decide +kernel
theorem dX5_handTo_24 : decode cX5_handTo 24 = .ok (.ishr, 1) := by decide +kernel
theorem dX5_handTo_25 : decode cX5_handTo 25 = .ok (.iconst 1, 1) := by decide +kernel
theorem dX5_handTo_26 : decode cX5_handTo 26 = .ok (.iand, 1) := by decide +kernel
theorem dX5_handTo_27 : decode cX5_handTo 27 = .ok (.iconst 1, 1) := by decide +kernel
theorem dX5_handTo_28 : decode cX5_handTo 28 = .ok (.if_icmp .ne 36, 3) := by decide +kernel
theorem dX5_handTo_31 : decode cX5_handTo 31 = .ok (.aload_n 0, 1) := by decide +kernel
theorem dX5_handTo_32 : decode cX5_handTo 32 = .ok (.iload_n 3, 1) := by decide +kernel
theorem dX5_handTo_33 : decode cX5_handTo 33 = .ok (.iload 5, 2) := by decide +kernel
theorem dX5_handTo_35 : decode cX5_handTo 35 = .ok (.aload_n 0, 1) := by decide +kernel
theorem dX5_handTo_36 : decode cX5_handTo 36 = .ok (.iload_n 3, 1) := by decide +kernel
theorem dX5_handTo_37 : decode cX5_handTo 37 = .ok (.iload 5, 2) := by decide +kernel
theorem dX5_handTo_39 : decode cX5_handTo 39 = .ok (.invokevirtual 37, 3) := by decide +kernel
theorem dX5_handTo_42 : decode cX5_handTo 42 = .ok (.iload 4, 2) := by decide +kernel
theorem dX5_handTo_44 : decode cX5_handTo 44 = .ok (.bipush 10, 2) := by decide +kernel
theorem dX5_handTo_46 : decode cX5_handTo 46 = .ok (.irem, 1) := by decide +kernel
theorem dX5_handTo_47 : decode cX5_handTo 47 = .ok (.isub, 1) := by decide +kernel
theorem dX5_handTo_48 : decode cX5_handTo 48 = .ok (.invokevirtual 40, 3) := by decide +kernel
theorem dX5_handTo_51 : decode cX5_handTo 51 = .ok (.iload 4, 2) := by decide +kernel
theorem dX5_handTo_53 : decode cX5_handTo 53 = .ok (.bipush 10, 2) := by decide +kernel
theorem dX5_handTo_55 : decode cX5_handTo 55 = .ok (.idiv, 1) := by decide +kernel
theorem dX5_handTo_56 : decode cX5_handTo 56 = .ok (.istore 4, 2) := by decide +kernel
theorem dX5_handTo_58 : decode cX5_handTo 58 = .ok (.iinc 5 1, 3) := by decide +kernel
theorem dX5_handTo_61 : decode cX5_handTo 61 = .ok (.goto (-45), 3) := by decide +kernel
theorem dX5_handTo_64 : decode cX5_handTo 64 = .ok (.iinc 3 1, 3) := by decide +kernel
theorem dX5_handTo_67 : decode cX5_handTo 67 = .ok (.goto (-65), 3) := by decide +kernel
theorem dX5_handTo_70 : decode cX5_handTo 70 = .ok (.return_, 1) := by decide +kernel
theorem dX6_init_0 : decode cX6_init 0 = .ok (.aload_n 0, 1) := by decide +kernel
theorem dX6_init_1 : decode cX6_init 1 = .ok (.invokespecial 1, 3) := by decide +kernel
theorem dX6_init_4 : decode cX6_init 4 = .ok (.return_, 1) := by decide +kernel
theorem dX6_havers_0 : decode cX6_havers 0 = .ok (.iconst 0, 1) := by decide +kernel
theorem dX6_havers_1 : decode cX6_havers 1 = .ok (.istore 4, 2) := by decide +kernel
theorem dX6_havers_3 : decode cX6_havers 3 = .ok (.iconst 0, 1) := by decide +kernel
theorem dX6_havers_4 : decode cX6_havers 4 = .ok (.istore 5, 2) := by decide +kernel
theorem dX6_havers_6 : decode cX6_havers 6 = .ok (.iload 5, 2) := by decide +kernel
theorem dX6_havers_8 : decode cX6_havers 8 = .ok (.aload_n 1, 1) := by decide +kernel
theorem dX6_havers_9 : decode cX6_havers 9 = .ok (.getfield 7, 3) := by decide +kernel
theorem dX6_havers_12 : decode cX6_havers 12 = .ok (.if_icmp .ge 29, 3) := by decide +kernel
theorem dX6_havers_15 : decode cX6_havers 15 = .ok (.aload_n 0, 1) := by decide +kernel
theorem dX6_havers_16 : decode cX6_havers 16 = .ok (.aload_n 1, 1) := by decide +kernel
theorem dX6_havers_17 : decode cX6_havers 17 = .ok (.iload 5, 2) := by decide +kernel
theorem dX6_havers_19 : decode cX6_havers 19 = .ok (.iload_n 2, 1) := by decide +kernel
theorem dX6_havers_20 : decode cX6_havers 20 = .ok (.invokevirtual 13, 3) := by decide +kernel
theorem dX6_havers_23 : decode cX6_havers 23 = .ok (.ifCond .le 12, 3) := by decide +kernel
theorem dX6_havers_26 : decode cX6_havers 26 = .ok (.iload 4, 2) := by decide +kernel
theorem dX6_havers_28 : decode cX6_havers 28 = .ok (.iconst 1, 1) := by decide +kernel
theorem dX6_havers_29 : decode cX6_havers 29 = .ok (.iload 5, 2) := by decide +kernel
theorem dX6_havers_31 : decode cX6_havers 31 = .ok (.ishl, 1) := by decide +kernel
theorem dX6_havers_32 : decode cX6_havers 32 = .ok (.ior, 1) := by decide +kernel
theorem dX6_havers_33 : decode cX6_havers 33 = .ok (.istore 4, 2) := by decide +kernel
theorem dX6_havers_35 : decode cX6_havers 35 = .ok (.iinc 5 1, 3) := by decide +kernel
theorem dX6_havers_38 : decode cX6_havers 38 = .ok (.goto (-32), 3) := by decide +kernel
theorem dX6_havers_41 : decode cX6_havers 41 = .ok (.iload 4, 2) := by decide +kernel
theorem dX6_havers_43 : decode cX6_havers 43 = .ok (.ireturn, 1) := by decide +kernel
theorem dX7_init_0 : decode cX7_init 0 = .ok (.aload_n 0, 1) := by decide +kernel
theorem dX7_init_1 : decode cX7_init 1 = .ok (.invokespecial 3, 3) := by decide +kernel
theorem dX7_init_4 : decode cX7_init 4 = .ok (.aload_n 0, 1) := by decide +kernel
theorem dX7_init_5 : decode cX7_init 5 = .ok (.new 9, 3) := by decide +kernel
theorem dX7_init_8 : decode cX7_init 8 = .ok (.dup, 1) := by decide +kernel
theorem dX7_init_9 : decode cX7_init 9 = .ok (.bipush 64, 2) := by decide +kernel
theorem dX7_init_11 : decode cX7_init 11 = .ok (.invokespecial 11, 3) := by decide +kernel
theorem dX7_init_14 : decode cX7_init 14 = .ok (.putfield 14, 3) := by decide +kernel
theorem dX7_init_17 : decode cX7_init 17 = .ok (.aload_n 0, 1) := by decide +kernel
theorem dX7_init_18 : decode cX7_init 18 = .ok (.new 20, 3) := by decide +kernel
theorem dX7_init_21 : decode cX7_init 21 = .ok (.dup, 1) := by decide +kernel
theorem dX7_init_22 : decode cX7_init 22 = .ok (.invokespecial 22, 3) := by decide +kernel
theorem dX7_init_25 : decode cX7_init 25 = .ok (.putfield 23, 3) := by decide +kernel
theorem dX7_init_28 : decode cX7_init 28 = .ok (.aload_n 0, 1) := by decide +kernel
theorem dX7_init_29 : decode cX7_init 29 = .ok (.iconst 5, 1) := by decide +kernel
theorem dX7_init_30 : decode cX7_init 30 = .ok (.newarray .int, 2) := by decide +kernel
theorem dX7_init_32 : decode cX7_init 32 = .ok (.putfield 27, 3) := by decide +kernel
theorem dX7_init_35 : decode cX7_init 35 = .ok (.return_, 1) := by decide +kernel
theorem dX7_read_0 : decode cX7_read 0 = .ok (.aload_n 0, 1) := by decide +kernel
theorem dX7_read_1 : decode cX7_read 1 = .ok (.getfield 23, 3) := by decide +kernel
theorem dX7_read_4 : decode cX7_read 4 = .ok (.aload_n 1, 1) := by decide +kernel
theorem dX7_read_5 : decode cX7_read 5 = .ok (.invokevirtual 31, 3) := by decide +kernel
theorem dX7_read_8 : decode cX7_read 8 = .ok (.aload_n 0, 1) := by decide +kernel
theorem dX7_read_9 : decode cX7_read 9 = .ok (.invokevirtual 35, 3) := by decide +kernel
theorem dX7_read_12 : decode cX7_read 12 = .ok (.ifCond .ne 12, 3) := by decide +kernel
theorem dX7_read_15 : decode cX7_read 15 = .ok (.sipush (-1000), 3) := by decide +kernel
theorem dX7_read_18 : decode cX7_read 18 = .ok (.aload_n 0, 1) := by decide +kernel
theorem dX7_read_19 : decode cX7_read 19 = .ok (.getfield 39, 3) := by decide +kernel
theorem dX7_read_22 : decode cX7_read 22 = .ok (.isub, 1) := by decide +kernel
theorem dX7_read_23 : decode cX7_read 23 = .ok (.ireturn, 1) := by decide +kernel
theorem dX7_read_24 : decode cX7_read 24 = .ok (.aload_n 0, 1) := by decide +kernel
theorem dX7_read_25 : decode cX7_read 25 = .ok (.invokevirtual 43, 3) := by decide +kernel
theorem dX7_read_28 : decode cX7_read 28 = .ok (.istore_n 2, 1) := by decide +kernel
theorem dX7_read_29 : decode cX7_read 29 = .ok (.iload_n 2, 1) := by decide +kernel
theorem dX7_read_30 : decode cX7_read 30 = .ok (.ifCond .lt 11, 3) := by decide +kernel
theorem dX7_read_33 : decode cX7_read 33 = .ok (.aload_n 1, 1) := by decide +kernel
theorem dX7_read_34 : decode cX7_read 34 = .ok (.aload_n 0, 1) := by decide +kernel
theorem dX7_read_35 : decode cX7_read 35 = .ok (.getfield 23, 3) := by decide +kernel
theorem dX7_read_38 : decode cX7_read 38 = .ok (.invokevirtual 31, 3) := by decide +kernel
theorem dX7_read_41 : decode cX7_read 41 = .ok (.iload_n 2, 1) := by decide +kernel
theorem dX7_read_42 : decode cX7_read 42 = .ok (.ireturn, 1) := by decide +kernel
theorem dX7_isShaped_0 : decode cX7_isShaped 0 = .ok (.aload_n 0, 1) := by decide +kernel
theorem dX7_isShaped_1 : decode cX7_isShaped 1 = .ok (.iconst 0, 1) := by decide +kernel
theorem dX7_isShaped_2 : decode cX7_isShaped 2 = .ok (.putfield 39, 3) := by decide +kernel
theorem dX7_isShaped_5 : decode cX7_isShaped 5 = .ok (.aload_n 0, 1) := by decide +kernel
theorem dX7_isShaped_6 : decode cX7_isShaped 6 = .ok (.invokevirtual 47, 3) := by decide +kernel
theorem dX7_isShaped_9 : decode cX7_isShaped 9 = .ok (.istore_n 1, 1) := by decide +kernel
theorem dX7_isShaped_10 : decode cX7_isShaped 10 = .ok (.iconst 0, 1) := by decide +kernel
theorem dX7_isShaped_11 : decode cX7_isShaped 11 = .ok (.istore_n 2, 1) := by decide +kernel
theorem dX7_isShaped_12 : decode cX7_isShaped 12 = .ok (.iload_n 2, 1) := by decide +kernel
theorem dX7_isShaped_13 : decode cX7_isShaped 13 = .ok (.bipush 64, 2) := by decide +kernel
theorem dX7_isShaped_15 : decode cX7_isShaped 15 = .ok (.if_icmp .ge 32, 3) := by decide +kernel
theorem dX7_isShaped_18 : decode cX7_isShaped 18 = .ok (.iload_n 1, 1) := by decide +kernel
theorem dX7_isShaped_19 : decode cX7_isShaped 19 = .ok (.ifCond .eq 28, 3) := by decide +kernel
theorem dX7_isShaped_22 : decode cX7_isShaped 22 = .ok (.aload_n 0, 1) := by decide +kernel
theorem dX7_isShaped_23 : decode cX7_isShaped 23 = .ok (.getfield 39, 3) := by decide +kernel
theorem dX7_isShaped_26 : decode cX7_isShaped 26 = .ok (.aload_n 0, 1) := by decide +kernel
theorem dX7_isShaped_27 : decode cX7_isShaped 27 = .ok (.getfield 14, 3) := by decide +kernel
theorem dX7_isShaped_30 : decode cX7_isShaped 30 = .ok (.getfield 50, 3) := by decide +kernel
theorem dX7_isShaped_33 : decode cX7_isShaped 33 = .ok (.if_icmp .ge 14, 3) := by decide +kernel
theorem dX7_isShaped_36 : decode cX7_isShaped 36 = .ok (.aload_n 0, 1) := by decide +kernel
theorem dX7_isShaped_37 : decode cX7_isShaped 37 = .ok (.invokevirtual 47, 3) := by decide +kernel
theorem dX7_isShaped_40 : decode cX7_isShaped 40 = .ok (.istore_n 1, 1) := by decide +kernel
theorem dX7_isShaped_41 : decode cX7_isShaped 41 = .ok (.iinc 2 1, 3) := by decide +kernel
theorem dX7_isShaped_44 : decode cX7_isShaped 44 = .ok (.goto (-32), 3) := by decide +kernel
theorem dX7_isShaped_47 : decode cX7_isShaped 47 = .ok (.iload_n 1, 1) := by decide +kernel
theorem dX7_isShaped_48 : decode cX7_isShaped 48 = .ok (.ireturn, 1) := by decide +kernel
theorem dX7_enterAll_0 : decode cX7_enterAll 0 = .ok (.aload_n 0, 1) := by decide +kernel
theorem dX7_enterAll_1 : decode cX7_enterAll 1 = .ok (.iconst 0, 1) := by decide +kernel
theorem dX7_enterAll_2 : decode cX7_enterAll 2 = .ok (.putfield 39, 3) := by decide +kernel
theorem dX7_enterAll_5 : decode cX7_enterAll 5 = .ok (.iconst 0, 1) := by decide +kernel
theorem dX7_enterAll_6 : decode cX7_enterAll 6 = .ok (.istore_n 1, 1) := by decide +kernel
theorem dX7_enterAll_7 : decode cX7_enterAll 7 = .ok (.iload_n 1, 1) := by decide +kernel
theorem dX7_enterAll_8 : decode cX7_enterAll 8 = .ok (.bipush 64, 2) := by decide +kernel
theorem dX7_enterAll_10 : decode cX7_enterAll 10 = .ok (.if_icmp .ge 61, 3) := by decide +kernel
theorem dX7_enterAll_13 : decode cX7_enterAll 13 = .ok (.aload_n 0, 1) := by decide +kernel
theorem dX7_enterAll_14 : decode cX7_enterAll 14 = .ok (.getfield 39, 3) := by decide +kernel
theorem dX7_enterAll_17 : decode cX7_enterAll 17 = .ok (.aload_n 0, 1) := by decide +kernel
theorem dX7_enterAll_18 : decode cX7_enterAll 18 = .ok (.getfield 14, 3) := by decide +kernel
theorem dX7_enterAll_21 : decode cX7_enterAll 21 = .ok (.getfield 50, 3) := by decide +kernel
theorem dX7_enterAll_24 : decode cX7_enterAll 24 = .ok (.if_icmp .ge 47, 3) := by decide +kernel
theorem dX7_enterAll_27 : decode cX7_enterAll 27 = .ok (.aload_n 0, 1) := by decide +kernel
theorem dX7_enterAll_28 : decode cX7_enterAll 28 = .ok (.getfield 39, 3) := by decide +kernel
theorem dX7_enterAll_31 : decode cX7_enterAll 31 = .ok (.istore_n 2, 1) := by decide +kernel
theorem dX7_enterAll_32 : decode cX7_enterAll 32 = .ok (.aload_n 0, 1) := by decide +kernel
theorem dX7_enterAll_33 : decode cX7_enterAll 33 = .ok (.getfield 14, 3) := by decide +kernel
theorem dX7_enterAll_36 : decode cX7_enterAll 36 = .ok (.aload_n 0, 1) := by decide +kernel
theorem dX7_enterAll_37 : decode cX7_enterAll 37 = .ok (.getfield 39, 3) := by decide +kernel
theorem dX7_enterAll_40 : decode cX7_enterAll 40 = .ok (.invokevirtual 53, 3) := by decide +kernel
theorem dX7_enterAll_43 : decode cX7_enterAll 43 = .ok (.istore_n 3, 1) := by decide +kernel
theorem dX7_enterAll_44 : decode cX7_enterAll 44 = .ok (.aload_n 0, 1) := by decide +kernel
theorem dX7_enterAll_45 : decode cX7_enterAll 45 = .ok (.invokevirtual 47, 3) := by decide +kernel
theorem dX7_enterAll_48 : decode cX7_enterAll 48 = .ok (.ifCond .eq 11, 3) := by decide +kernel
theorem dX7_enterAll_51 : decode cX7_enterAll 51 = .ok (.aload_n 0, 1) := by decide +kernel
theorem dX7_enterAll_52 : decode cX7_enterAll 52 = .ok (.iload_n 3, 1) := by decide +kernel
theorem dX7_enterAll_53 : decode cX7_enterAll 53 = .ok (.invokevirtual 57, 3) := by decide +kernel
theorem dX7_enterAll_56 : decode cX7_enterAll 56 = .ok (.ifCond .ne 9, 3) := by decide +kernel
theorem dX7_enterAll_59 : decode cX7_enterAll 59 = .ok (.sipush (-2000), 3) := by decide +kernel
theorem dX7_enterAll_62 : decode cX7_enterAll 62 = .ok (.iload_n 2, 1) := by decide +kernel
theorem dX7_enterAll_63 : decode cX7_enterAll 63 = .ok (.isub, 1) := by decide +kernel
theorem dX7_enterAll_64 : decode cX7_enterAll 64 = .ok (.ireturn, 1) := by decide +kernel
theorem dX7_enterAll_65 : decode cX7_enterAll 65 = .ok (.iinc 1 1, 3) := by decide +kernel
theorem dX7_enterAll_68 : decode cX7_enterAll 68 = .ok (.goto (-61), 3) := by decide +kernel
theorem dX7_enterAll_71 : decode cX7_enterAll 71 = .ok (.iload_n 1, 1) := by decide +kernel
theorem dX7_enterAll_72 : decode cX7_enterAll 72 = .ok (.ireturn, 1) := by decide +kernel
theorem dX7_scanStatement_0 : decode cX7_scanStatement 0 = .ok (.aload_n 0, 1) := by decide +kernel
theorem dX7_scanStatement_1 : decode cX7_scanStatement 1 = .ok (.bipush 112, 2) := by decide +kernel
theorem dX7_scanStatement_3 : decode cX7_scanStatement 3 = .ok (.invokevirtual 61, 3) := by decide +kernel
theorem dX7_scanStatement_6 : decode cX7_scanStatement 6 = .ok (.ifCond .eq 8, 3) := by decide +kernel
theorem dX7_scanStatement_9 : decode cX7_scanStatement 9 = .ok (.aload_n 0, 1) := by decide +kernel
theorem dX7_scanStatement_10 : decode cX7_scanStatement 10 = .ok (.invokevirtual 65, 3) := by decide +kernel
theorem dX7_scanStatement_13 : decode cX7_scanStatement 13 = .ok (.ireturn, 1) := by decide +kernel
theorem dX7_scanStatement_14 : decode cX7_scanStatement 14 = .ok (.aload_n 0, 1) := by decide +kernel
theorem dX7_scanStatement_15 : decode cX7_scanStatement 15 = .ok (.bipush 119, 2) := by decide +kernel
theorem dX7_scanStatement_17 : decode cX7_scanStatement 17 = .ok (.invokevirtual 61, 3) := by decide +kernel
theorem dX7_scanStatement_20 : decode cX7_scanStatement 20 = .ok (.ifCond .eq 33, 3) := by decide +kernel
theorem dX7_scanStatement_23 : decode cX7_scanStatement 23 = .ok (.aload_n 0, 1) := by decide +kernel
theorem dX7_scanStatement_24 : decode cX7_scanStatement 24 = .ok (.invokevirtual 68, 3) := by decide +kernel
theorem dX7_scanStatement_27 : decode cX7_scanStatement 27 = .ok (.ifCond .eq 24, 3) := by decide +kernel
theorem dX7_scanStatement_30 : decode cX7_scanStatement 30 = .ok (.aload_n 0, 1) := by decide +kernel
theorem dX7_scanStatement_31 : decode cX7_scanStatement 31 = .ok (.iconst 1, 1) := by decide +kernel
theorem dX7_scanStatement_32 : decode cX7_scanStatement 32 = .ok (.invokevirtual 71, 3) := by decide +kernel
theorem dX7_scanStatement_35 : decode cX7_scanStatement 35 = .ok (.ifCond .eq 16, 3) := by decide +kernel
theorem dX7_scanStatement_38 : decode cX7_scanStatement 38 = .ok (.aload_n 0, 1) := by decide +kernel
theorem dX7_scanStatement_39 : decode cX7_scanStatement 39 = .ok (.bipush 59, 2) := by decide +kernel
theorem dX7_scanStatement_41 : decode cX7_scanStatement 41 = .ok (.invokevirtual 61, 3) := by decide +kernel
theorem dX7_scanStatement_44 : decode cX7_scanStatement 44 = .ok (.ifCond .eq 7, 3) := by decide +kernel
theorem dX7_scanStatement_47 : decode cX7_scanStatement 47 = .ok (.iconst 1, 1) := by decide +kernel
theorem dX7_scanStatement_48 : decode cX7_scanStatement 48 = .ok (.goto 4, 3) := by decide +kernel
theorem dX7_scanStatement_51 : decode cX7_scanStatement 51 = .ok (.iconst 0, 1) := by decide +kernel
theorem dX7_scanStatement_52 : decode cX7_scanStatement 52 = .ok (.ireturn, 1) := by decide +kernel
theorem dX7_scanStatement_53 : decode cX7_scanStatement 53 = .ok (.aload_n 0, 1) := by decide +kernel
theorem dX7_scanStatement_54 : decode cX7_scanStatement 54 = .ok (.bipush 108, 2) := by decide +kernel
theorem dX7_scanStatement_56 : decode cX7_scanStatement 56 = .ok (.invokevirtual 61, 3) := by decide +kernel
theorem dX7_scanStatement_59 : decode cX7_scanStatement 59 = .ok (.ifCond .eq 14, 3) := by decide +kernel
theorem dX7_scanStatement_62 : decode cX7_scanStatement 62 = .ok (.aload_n 0, 1) := by decide +kernel
theorem dX7_scanStatement_63 : decode cX7_scanStatement 63 = .ok (.invokevirtual 74, 3) := by decide +kernel
theorem dX7_scanStatement_66 : decode cX7_scanStatement 66 = .ok (.ifCond .eq 7, 3) := by decide +kernel
theorem dX7_scanStatement_69 : decode cX7_scanStatement 69 = .ok (.iconst 1, 1) := by decide +kernel
theorem dX7_scanStatement_70 : decode cX7_scanStatement 70 = .ok (.goto 4, 3) := by decide +kernel
theorem dX7_scanStatement_73 : decode cX7_scanStatement 73 = .ok (.iconst 0, 1) := by decide +kernel
theorem dX7_scanStatement_74 : decode cX7_scanStatement 74 = .ok (.ireturn, 1) := by decide +kernel
theorem dX7_scanPerson_0 : decode cX7_scanPerson 0 = .ok (.iconst 1, 1) := by decide +kernel
theorem dX7_scanPerson_1 : decode cX7_scanPerson 1 = .ok (.istore_n 1, 1) := by decide +kernel
theorem dX7_scanPerson_2 : decode cX7_scanPerson 2 = .ok (.iconst 0, 1) := by decide +kernel
theorem dX7_scanPerson_3 : decode cX7_scanPerson 3 = .ok (.istore_n 2, 1) := by decide +kernel
theorem dX7_scanPerson_4 : decode cX7_scanPerson 4 = .ok (.iload_n 2, 1) := by decide +kernel
theorem dX7_scanPerson_5 : decode cX7_scanPerson 5 = .ok (.iconst 4, 1) := by decide +kernel
theorem dX7_scanPerson_6 : decode cX7_scanPerson 6 = .ok (.if_icmp .ge 46, 3) := by decide +kernel
theorem dX7_scanPerson_9 : decode cX7_scanPerson 9 = .ok (.iload_n 1, 1) := by decide +kernel
theorem dX7_scanPerson_10 : decode cX7_scanPerson 10 = .ok (.ifCond .eq 42, 3) := by decide +kernel
theorem dX7_scanPerson_13 : decode cX7_scanPerson 13 = .ok (.aload_n 0, 1) := by decide +kernel
theorem dX7_scanPerson_14 : decode cX7_scanPerson 14 = .ok (.iload_n 2, 1) := by decide +kernel
theorem dX7_scanPerson_15 : decode cX7_scanPerson 15 = .ok (.invokevirtual 77, 3) := by decide +kernel
theorem dX7_scanPerson_18 : decode cX7_scanPerson 18 = .ok (.ifCond .eq 26, 3) := by decide +kernel
theorem dX7_scanPerson_21 : decode cX7_scanPerson 21 = .ok (.aload_n 0, 1) := by decide +kernel
theorem dX7_scanPerson_22 : decode cX7_scanPerson 22 = .ok (.iload_n 2, 1) := by decide +kernel
theorem dX7_scanPerson_23 : decode cX7_scanPerson 23 = .ok (.iconst 3, 1) := by decide +kernel
theorem dX7_scanPerson_24 : decode cX7_scanPerson 24 = .ok (.if_icmp .ge 8, 3) := by decide +kernel
theorem dX7_scanPerson_27 : decode cX7_scanPerson 27 = .ok (.bipush 44, 2) := by decide +kernel
theorem dX7_scanPerson_29 : decode cX7_scanPerson 29 = .ok (.goto 5, 3) := by decide +kernel
theorem dX7_scanPerson_32 : decode cX7_scanPerson 32 = .ok (.bipush 43, 2) := by decide +kernel
theorem dX7_scanPerson_34 : decode cX7_scanPerson 34 = .ok (.invokevirtual 61, 3) := by decide +kernel
theorem dX7_scanPerson_37 : decode cX7_scanPerson 37 = .ok (.ifCond .eq 7, 3) := by decide +kernel
theorem dX7_scanPerson_40 : decode cX7_scanPerson 40 = .ok (.iconst 1, 1) := by decide +kernel
theorem dX7_scanPerson_41 : decode cX7_scanPerson 41 = .ok (.goto 4, 3) := by decide +kernel
theorem dX7_scanPerson_44 : decode cX7_scanPerson 44 = .ok (.iconst 0, 1) := by decide +kernel
theorem dX7_scanPerson_45 : decode cX7_scanPerson 45 = .ok (.istore_n 1, 1) := by decide +kernel
theorem dX7_scanPerson_46 : decode cX7_scanPerson 46 = .ok (.iinc 2 1, 3) := by decide +kernel
theorem dX7_scanPerson_49 : decode cX7_scanPerson 49 = .ok (.goto (-45), 3) := by decide +kernel
theorem dX7_scanPerson_52 : decode cX7_scanPerson 52 = .ok (.iload_n 1, 1) := by decide +kernel
theorem dX7_scanPerson_53 : decode cX7_scanPerson 53 = .ok (.ifCond .eq 24, 3) := by decide +kernel
theorem dX7_scanPerson_56 : decode cX7_scanPerson 56 = .ok (.aload_n 0, 1) := by decide +kernel
theorem dX7_scanPerson_57 : decode cX7_scanPerson 57 = .ok (.iconst 4, 1) := by decide +kernel
theorem dX7_scanPerson_58 : decode cX7_scanPerson 58 = .ok (.invokevirtual 71, 3) := by decide +kernel
theorem dX7_scanPerson_61 : decode cX7_scanPerson 61 = .ok (.ifCond .eq 16, 3) := by decide +kernel
theorem dX7_scanPerson_64 : decode cX7_scanPerson 64 = .ok (.aload_n 0, 1) := by decide +kernel
theorem dX7_scanPerson_65 : decode cX7_scanPerson 65 = .ok (.bipush 59, 2) := by decide +kernel
theorem dX7_scanPerson_67 : decode cX7_scanPerson 67 = .ok (.invokevirtual 61, 3) := by decide +kernel
theorem dX7_scanPerson_70 : decode cX7_scanPerson 70 = .ok (.ifCond .eq 7, 3) := by decide +kernel
theorem dX7_scanPerson_73 : decode cX7_scanPerson 73 = .ok (.iconst 1, 1) := by decide +kernel
theorem dX7_scanPerson_74 : decode cX7_scanPerson 74 = .ok (.goto 4, 3) := by decide +kernel
theorem dX7_scanPerson_77 : decode cX7_scanPerson 77 = .ok (.iconst 0, 1) := by decide +kernel
theorem dX7_scanPerson_78 : decode cX7_scanPerson 78 = .ok (.ireturn, 1) := by decide +kernel
theorem dX7_scanAmounts_0 : decode cX7_scanAmounts 0 = .ok (.iconst 1, 1) := by decide +kernel
theorem dX7_scanAmounts_1 : decode cX7_scanAmounts 1 = .ok (.istore_n 1, 1) := by decide +kernel
theorem dX7_scanAmounts_2 : decode cX7_scanAmounts 2 = .ok (.iconst 0, 1) := by decide +kernel
theorem dX7_scanAmounts_3 : decode cX7_scanAmounts 3 = .ok (.istore_n 2, 1) := by decide +kernel
theorem dX7_scanAmounts_4 : decode cX7_scanAmounts 4 = .ok (.iload_n 2, 1) := by decide +kernel
theorem dX7_scanAmounts_5 : decode cX7_scanAmounts 5 = .ok (.iconst 4, 1) := by decide +kernel
theorem dX7_scanAmounts_6 : decode cX7_scanAmounts 6 = .ok (.if_icmp .ge 19, 3) := by decide +kernel
theorem dX7_scanAmounts_9 : decode cX7_scanAmounts 9 = .ok (.iload_n 1, 1) := by decide +kernel
theorem dX7_scanAmounts_10 : decode cX7_scanAmounts 10 = .ok (.ifCond .eq 15, 3) := by decide +kernel
theorem dX7_scanAmounts_13 : decode cX7_scanAmounts 13 = .ok (.aload_n 0, 1) := by decide +kernel
theorem dX7_scanAmounts_14 : decode cX7_scanAmounts 14 = .ok (.iload_n 2, 1) := by decide +kernel
theorem dX7_scanAmounts_15 : decode cX7_scanAmounts 15 = .ok (.invokevirtual 71, 3) := by decide +kernel
theorem dX7_scanAmounts_18 : decode cX7_scanAmounts 18 = .ok (.istore_n 1, 1) := by decide +kernel
theorem dX7_scanAmounts_19 : decode cX7_scanAmounts 19 = .ok (.iinc 2 1, 3) := by decide +kernel
theorem dX7_scanAmounts_22 : decode cX7_scanAmounts 22 = .ok (.goto (-18), 3) := by decide +kernel
theorem dX7_scanAmounts_25 : decode cX7_scanAmounts 25 = .ok (.iload_n 1, 1) := by decide +kernel
theorem dX7_scanAmounts_26 : decode cX7_scanAmounts 26 = .ok (.ifCond .eq 16, 3) := by decide +kernel
theorem dX7_scanAmounts_29 : decode cX7_scanAmounts 29 = .ok (.aload_n 0, 1) := by decide +kernel
theorem dX7_scanAmounts_30 : decode cX7_scanAmounts 30 = .ok (.bipush 59, 2) := by decide +kernel
theorem dX7_scanAmounts_32 : decode cX7_scanAmounts 32 = .ok (.invokevirtual 61, 3) := by decide +kernel
theorem dX7_scanAmounts_35 : decode cX7_scanAmounts 35 = .ok (.ifCond .eq 7, 3) := by decide +kernel
theorem dX7_scanAmounts_38 : decode cX7_scanAmounts 38 = .ok (.iconst 1, 1) := by decide +kernel
theorem dX7_scanAmounts_39 : decode cX7_scanAmounts 39 = .ok (.goto 4, 3) := by decide +kernel
theorem dX7_scanAmounts_42 : decode cX7_scanAmounts 42 = .ok (.iconst 0, 1) := by decide +kernel
theorem dX7_scanAmounts_43 : decode cX7_scanAmounts 43 = .ok (.ireturn, 1) := by decide +kernel
theorem dX7_scanNeed_0 : decode cX7_scanNeed 0 = .ok (.aload_n 0, 1) := by decide +kernel
theorem dX7_scanNeed_1 : decode cX7_scanNeed 1 = .ok (.iload_n 1, 1) := by decide +kernel
theorem dX7_scanNeed_2 : decode cX7_scanNeed 2 = .ok (.invokevirtual 71, 3) := by decide +kernel
theorem dX7_scanNeed_5 : decode cX7_scanNeed 5 = .ok (.ifCond .ne 5, 3) := by decide +kernel
theorem dX7_scanNeed_8 : decode cX7_scanNeed 8 = .ok (.iconst 0, 1) := by decide +kernel
theorem dX7_scanNeed_9 : decode cX7_scanNeed 9 = .ok (.ireturn, 1) := by decide +kernel
theorem dX7_scanNeed_10 : decode cX7_scanNeed 10 = .ok (.aload_n 0, 1) := by decide +kernel
theorem dX7_scanNeed_11 : decode cX7_scanNeed 11 = .ok (.getfield 27, 3) := by decide +kernel
theorem dX7_scanNeed_14 : decode cX7_scanNeed 14 = .ok (.iload_n 1, 1) := by decide +kernel
theorem dX7_scanNeed_15 : decode cX7_scanNeed 15 = .ok (.iaload, 1) := by decide +kernel
theorem dX7_scanNeed_16 : decode cX7_scanNeed 16 = .ok (.istore_n 2, 1) := by decide +kernel
theorem dX7_scanNeed_17 : decode cX7_scanNeed 17 = .ok (.aload_n 0, 1) := by decide +kernel
theorem dX7_scanNeed_18 : decode cX7_scanNeed 18 = .ok (.iload_n 1, 1) := by decide +kernel
theorem dX7_scanNeed_19 : decode cX7_scanNeed 19 = .ok (.invokevirtual 71, 3) := by decide +kernel
theorem dX7_scanNeed_22 : decode cX7_scanNeed 22 = .ok (.ifCond .eq 16, 3) := by decide +kernel
theorem dX7_scanNeed_25 : decode cX7_scanNeed 25 = .ok (.aload_n 0, 1) := by decide +kernel
theorem dX7_scanNeed_26 : decode cX7_scanNeed 26 = .ok (.getfield 27, 3) := by decide +kernel
theorem dX7_scanNeed_29 : decode cX7_scanNeed 29 = .ok (.iload_n 1, 1) := by decide +kernel
theorem dX7_scanNeed_30 : decode cX7_scanNeed 30 = .ok (.dup2, 1) := by decide +kernel
theorem dX7_scanNeed_31 : decode cX7_scanNeed 31 = .ok (.iaload, 1) := by decide +kernel
theorem dX7_scanNeed_32 : decode cX7_scanNeed 32 = .ok (.iload_n 2, 1) := by decide +kernel
theorem dX7_scanNeed_33 : decode cX7_scanNeed 33 = .ok (.bipush 10, 2) := by decide +kernel
theorem dX7_scanNeed_35 : decode cX7_scanNeed 35 = .ok (.imul, 1) := by decide +kernel
theorem dX7_scanNeed_36 : decode cX7_scanNeed 36 = .ok (.iadd, 1) := by decide +kernel
theorem dX7_scanNeed_37 : decode cX7_scanNeed 37 = .ok (.iastore, 1) := by decide +kernel
theorem dX7_scanNeed_38 : decode cX7_scanNeed 38 = .ok (.iconst 1, 1) := by decide +kernel
theorem dX7_scanNeed_39 : decode cX7_scanNeed 39 = .ok (.ireturn, 1) := by decide +kernel
theorem dX7_scanKind_0 : decode cX7_scanKind 0 = .ok (.iconst 0, 1) := by decide +kernel
theorem dX7_scanKind_1 : decode cX7_scanKind 1 = .ok (.istore_n 1, 1) := by decide +kernel
theorem dX7_scanKind_2 : decode cX7_scanKind 2 = .ok (.iload_n 1, 1) := by decide +kernel
theorem dX7_scanKind_3 : decode cX7_scanKind 3 = .ok (.ldc 80, 2) := by decide +kernel
theorem dX7_scanKind_5 : decode cX7_scanKind 5 = .ok (.invokevirtual 82, 3) := by decide +kernel
theorem dX7_scanKind_8 : decode cX7_scanKind 8 = .ok (.if_icmp .ge 31, 3) := by decide +kernel
theorem dX7_scanKind_11 : decode cX7_scanKind 11 = .ok (.aload_n 0, 1) := by decide +kernel
theorem dX7_scanKind_12 : decode cX7_scanKind 12 = .ok (.ldc 80, 2) := by decide +kernel
theorem dX7_scanKind_14 : decode cX7_scanKind 14 = .ok (.iload_n 1, 1) := by decide +kernel
theorem dX7_scanKind_15 : decode cX7_scanKind 15 = .ok (.invokevirtual 87, 3) := by decide +kernel
theorem dX7_scanKind_18 : decode cX7_scanKind 18 = .ok (.invokevirtual 61, 3) := by decide +kernel
theorem dX7_scanKind_21 : decode cX7_scanKind 21 = .ok (.ifCond .eq 12, 3) := by decide +kernel
theorem dX7_scanKind_24 : decode cX7_scanKind 24 = .ok (.aload_n 0, 1) := by decide +kernel
theorem dX7_scanKind_25 : decode cX7_scanKind 25 = .ok (.getfield 27, 3) := by decide +kernel
theorem dX7_scanKind_28 : decode cX7_scanKind 28 = .ok (.iconst 0, 1) := by decide +kernel
theorem dX7_scanKind_29 : decode cX7_scanKind 29 = .ok (.iload_n 1, 1) := by decide +kernel
theorem dX7_scanKind_30 : decode cX7_scanKind 30 = .ok (.iastore, 1) := by decide +kernel
theorem dX7_scanKind_31 : decode cX7_scanKind 31 = .ok (.iconst 1, 1) := by decide +kernel
theorem dX7_scanKind_32 : decode cX7_scanKind 32 = .ok (.ireturn, 1) := by decide +kernel
theorem dX7_scanKind_33 : decode cX7_scanKind 33 = .ok (.iinc 1 1, 3) := by decide +kernel
theorem dX7_scanKind_36 : decode cX7_scanKind 36 = .ok (.goto (-34), 3) := by decide +kernel
theorem dX7_scanKind_39 : decode cX7_scanKind 39 = .ok (.iconst 0, 1) := by decide +kernel
theorem dX7_scanKind_40 : decode cX7_scanKind 40 = .ok (.ireturn, 1) := by decide +kernel
theorem dX7_scanDigit_0 : decode cX7_scanDigit 0 = .ok (.aload_n 0, 1) := by decide +kernel
theorem dX7_scanDigit_1 : decode cX7_scanDigit 1 = .ok (.getfield 14, 3) := by decide +kernel
theorem dX7_scanDigit_4 : decode cX7_scanDigit 4 = .ok (.aload_n 0, 1) := by decide +kernel
theorem dX7_scanDigit_5 : decode cX7_scanDigit 5 = .ok (.getfield 39, 3) := by decide +kernel
theorem dX7_scanDigit_8 : decode cX7_scanDigit 8 = .ok (.invokevirtual 53, 3) := by decide +kernel
theorem dX7_scanDigit_11 : decode cX7_scanDigit 11 = .ok (.istore_n 2, 1) := by decide +kernel
theorem dX7_scanDigit_12 : decode cX7_scanDigit 12 = .ok (.iload_n 2, 1) := by decide +kernel
theorem dX7_scanDigit_13 : decode cX7_scanDigit 13 = .ok (.bipush 48, 2) := by decide +kernel
theorem dX7_scanDigit_15 : decode cX7_scanDigit 15 = .ok (.if_icmp .lt 22, 3) := by decide +kernel
theorem dX7_scanDigit_18 : decode cX7_scanDigit 18 = .ok (.iload_n 2, 1) := by decide +kernel
theorem dX7_scanDigit_19 : decode cX7_scanDigit 19 = .ok (.bipush 57, 2) := by decide +kernel
theorem dX7_scanDigit_21 : decode cX7_scanDigit 21 = .ok (.if_icmp .gt 16, 3) := by decide +kernel
theorem dX7_scanDigit_24 : decode cX7_scanDigit 24 = .ok (.iload_n 1, 1) := by decide +kernel
theorem dX7_scanDigit_25 : decode cX7_scanDigit 25 = .ok (.ifCond .lt 12, 3) := by decide +kernel
theorem dX7_scanDigit_28 : decode cX7_scanDigit 28 = .ok (.iload_n 1, 1) := by decide +kernel
theorem dX7_scanDigit_29 : decode cX7_scanDigit 29 = .ok (.aload_n 0, 1) := by decide +kernel
theorem dX7_scanDigit_30 : decode cX7_scanDigit 30 = .ok (.getfield 27, 3) := by decide +kernel
theorem dX7_scanDigit_33 : decode cX7_scanDigit 33 = .ok (.arraylength, 1) := by decide +kernel
theorem dX7_scanDigit_34 : decode cX7_scanDigit 34 = .ok (.if_icmp .lt 5, 3) := by decide +kernel
theorem dX7_scanDigit_37 : decode cX7_scanDigit 37 = .ok (.iconst 0, 1) := by decide +kernel
theorem dX7_scanDigit_38 : decode cX7_scanDigit 38 = .ok (.ireturn, 1) := by decide +kernel
theorem dX7_scanDigit_39 : decode cX7_scanDigit 39 = .ok (.aload_n 0, 1) := by decide +kernel
theorem dX7_scanDigit_40 : decode cX7_scanDigit 40 = .ok (.getfield 27, 3) := by decide +kernel
theorem dX7_scanDigit_43 : decode cX7_scanDigit 43 = .ok (.iload_n 1, 1) := by decide +kernel
theorem dX7_scanDigit_44 : decode cX7_scanDigit 44 = .ok (.iload_n 2, 1) := by decide +kernel
theorem dX7_scanDigit_45 : decode cX7_scanDigit 45 = .ok (.bipush 48, 2) := by decide +kernel
theorem dX7_scanDigit_47 : decode cX7_scanDigit 47 = .ok (.isub, 1) := by decide +kernel
theorem dX7_scanDigit_48 : decode cX7_scanDigit 48 = .ok (.iastore, 1) := by decide +kernel
theorem dX7_scanDigit_49 : decode cX7_scanDigit 49 = .ok (.aload_n 0, 1) := by decide +kernel
theorem dX7_scanDigit_50 : decode cX7_scanDigit 50 = .ok (.dup, 1) := by decide +kernel
theorem dX7_scanDigit_51 : decode cX7_scanDigit 51 = .ok (.getfield 39, 3) := by decide +kernel
theorem dX7_scanDigit_54 : decode cX7_scanDigit 54 = .ok (.iconst 1, 1) := by decide +kernel
theorem dX7_scanDigit_55 : decode cX7_scanDigit 55 = .ok (.iadd, 1) := by decide +kernel
theorem dX7_scanDigit_56 : decode cX7_scanDigit 56 = .ok (.putfield 39, 3) := by decide +kernel
theorem dX7_scanDigit_59 : decode cX7_scanDigit 59 = .ok (.iconst 1, 1) := by decide +kernel
theorem dX7_scanDigit_60 : decode cX7_scanDigit 60 = .ok (.ireturn, 1) := by decide +kernel
theorem dX7_pass_0 : decode cX7_pass 0 = .ok (.aload_n 0, 1) := by decide +kernel
theorem dX7_pass_1 : decode cX7_pass 1 = .ok (.getfield 14, 3) := by decide +kernel
theorem dX7_pass_4 : decode cX7_pass 4 = .ok (.aload_n 0, 1) := by decide +kernel
theorem dX7_pass_5 : decode cX7_pass 5 = .ok (.getfield 39, 3) := by decide +kernel
theorem dX7_pass_8 : decode cX7_pass 8 = .ok (.invokevirtual 53, 3) := by decide +kernel
theorem dX7_pass_11 : decode cX7_pass 11 = .ok (.iload_n 1, 1) := by decide +kernel
theorem dX7_pass_12 : decode cX7_pass 12 = .ok (.if_icmp .eq 5, 3) := by decide +kernel
theorem dX7_pass_15 : decode cX7_pass 15 = .ok (.iconst 0, 1) := by decide +kernel
theorem dX7_pass_16 : decode cX7_pass 16 = .ok (.ireturn, 1) := by decide +kernel
theorem dX7_pass_17 : decode cX7_pass 17 = .ok (.aload_n 0, 1) := by decide +kernel
theorem dX7_pass_18 : decode cX7_pass 18 = .ok (.dup, 1) := by decide +kernel
theorem dX7_pass_19 : decode cX7_pass 19 = .ok (.getfield 39, 3) := by decide +kernel
theorem dX7_pass_22 : decode cX7_pass 22 = .ok (.iconst 1, 1) := by decide +kernel
theorem dX7_pass_23 : decode cX7_pass 23 = .ok (.iadd, 1) := by decide +kernel
theorem dX7_pass_24 : decode cX7_pass 24 = .ok (.putfield 39, 3) := by decide +kernel
theorem dX7_pass_27 : decode cX7_pass 27 = .ok (.iconst 1, 1) := by decide +kernel
theorem dX7_pass_28 : decode cX7_pass 28 = .ok (.ireturn, 1) := by decide +kernel
theorem dX7_enter_0 : decode cX7_enter 0 = .ok (.iload_n 1, 1) := by decide +kernel
theorem dX7_enter_1 : decode cX7_enter 1 = .ok (.bipush 112, 2) := by decide +kernel
theorem dX7_enter_3 : decode cX7_enter 3 = .ok (.if_icmp .ne 8, 3) := by decide +kernel
theorem dX7_enter_6 : decode cX7_enter 6 = .ok (.aload_n 0, 1) := by decide +kernel
theorem dX7_enter_7 : decode cX7_enter 7 = .ok (.invokevirtual 91, 3) := by decide +kernel
theorem dX7_enter_10 : decode cX7_enter 10 = .ok (.ireturn, 1) := by decide +kernel
theorem dX7_enter_11 : decode cX7_enter 11 = .ok (.iload_n 1, 1) := by decide +kernel
theorem dX7_enter_12 : decode cX7_enter 12 = .ok (.bipush 119, 2) := by decide +kernel
theorem dX7_enter_14 : decode cX7_enter 14 = .ok (.if_icmp .ne 10, 3) := by decide +kernel
theorem dX7_enter_17 : decode cX7_enter 17 = .ok (.aload_n 0, 1) := by decide +kernel
theorem dX7_enter_18 : decode cX7_enter 18 = .ok (.invokevirtual 94, 3) := by decide +kernel
theorem dX7_enter_21 : decode cX7_enter 21 = .ok (.goto 7, 3) := by decide +kernel
theorem dX7_enter_24 : decode cX7_enter 24 = .ok (.aload_n 0, 1) := by decide +kernel
theorem dX7_enter_25 : decode cX7_enter 25 = .ok (.invokevirtual 97, 3) := by decide +kernel
theorem dX7_enter_28 : decode cX7_enter 28 = .ok (.ireturn, 1) := by decide +kernel
theorem dX7_enterPerson_0 : decode cX7_enterPerson 0 = .ok (.aload_n 0, 1) := by decide +kernel
theorem dX7_enterPerson_1 : decode cX7_enterPerson 1 = .ok (.getfield 23, 3) := by decide +kernel
theorem dX7_enterPerson_4 : decode cX7_enterPerson 4 = .ok (.getfield 100, 3) := by decide +kernel
theorem dX7_enterPerson_7 : decode cX7_enterPerson 7 = .ok (.getfield 104, 3) := by decide +kernel
theorem dX7_enterPerson_10 : decode cX7_enterPerson 10 = .ok (.istore_n 1, 1) := by decide +kernel
theorem dX7_enterPerson_11 : decode cX7_enterPerson 11 = .ok (.aload_n 0, 1) := by decide +kernel
theorem dX7_enterPerson_12 : decode cX7_enterPerson 12 = .ok (.bipush 30, 2) := by decide +kernel
theorem dX7_enterPerson_14 : decode cX7_enterPerson 14 = .ok (.invokevirtual 107, 3) := by decide +kernel
theorem dX7_enterPerson_17 : decode cX7_enterPerson 17 = .ok (.ifCond .eq 22, 3) := by decide +kernel
theorem dX7_enterPerson_20 : decode cX7_enterPerson 20 = .ok (.aload_n 0, 1) := by decide +kernel
theorem dX7_enterPerson_21 : decode cX7_enterPerson 21 = .ok (.getfield 23, 3) := by decide +kernel
theorem dX7_enterPerson_24 : decode cX7_enterPerson 24 = .ok (.getfield 100, 3) := by decide +kernel
theorem dX7_enterPerson_27 : decode cX7_enterPerson 27 = .ok (.aload_n 0, 1) := by decide +kernel
theorem dX7_enterPerson_28 : decode cX7_enterPerson 28 = .ok (.getfield 27, 3) := by decide +kernel
theorem dX7_enterPerson_31 : decode cX7_enterPerson 31 = .ok (.iconst 4, 1) := by decide +kernel
theorem dX7_enterPerson_32 : decode cX7_enterPerson 32 = .ok (.iaload, 1) := by decide +kernel
theorem dX7_enterPerson_33 : decode cX7_enterPerson 33 = .ok (.invokevirtual 110, 3) := by decide +kernel
theorem dX7_enterPerson_36 : decode cX7_enterPerson 36 = .ok (.ifCond .ne 5, 3) := by decide +kernel
theorem dX7_enterPerson_39 : decode cX7_enterPerson 39 = .ok (.iconst 0, 1) := by decide +kernel
theorem dX7_enterPerson_40 : decode cX7_enterPerson 40 = .ok (.ireturn, 1) := by decide +kernel
theorem dX7_enterPerson_41 : decode cX7_enterPerson 41 = .ok (.iconst 0, 1) := by decide +kernel
theorem dX7_enterPerson_42 : decode cX7_enterPerson 42 = .ok (.istore_n 2, 1) := by decide +kernel
theorem dX7_enterPerson_43 : decode cX7_enterPerson 43 = .ok (.iload_n 2, 1) := by decide +kernel
theorem dX7_enterPerson_44 : decode cX7_enterPerson 44 = .ok (.iconst 4, 1) := by decide +kernel
theorem dX7_enterPerson_45 : decode cX7_enterPerson 45 = .ok (.if_icmp .ge 27, 3) := by decide +kernel
theorem dX7_enterPerson_48 : decode cX7_enterPerson 48 = .ok (.aload_n 0, 1) := by decide +kernel
theorem dX7_enterPerson_49 : decode cX7_enterPerson 49 = .ok (.getfield 23, 3) := by decide +kernel
theorem dX7_enterPerson_52 : decode cX7_enterPerson 52 = .ok (.getfield 100, 3) := by decide +kernel
theorem dX7_enterPerson_55 : decode cX7_enterPerson 55 = .ok (.iload_n 1, 1) := by decide +kernel
theorem dX7_enterPerson_56 : decode cX7_enterPerson 56 = .ok (.iload_n 2, 1) := by decide +kernel
theorem dX7_enterPerson_57 : decode cX7_enterPerson 57 = .ok (.aload_n 0, 1) := by decide +kernel
theorem dX7_enterPerson_58 : decode cX7_enterPerson 58 = .ok (.getfield 27, 3) := by decide +kernel
theorem dX7_enterPerson_61 : decode cX7_enterPerson 61 = .ok (.iload_n 2, 1) := by decide +kernel
theorem dX7_enterPerson_62 : decode cX7_enterPerson 62 = .ok (.iaload, 1) := by decide +kernel
theorem dX7_enterPerson_63 : decode cX7_enterPerson 63 = .ok (.invokevirtual 111, 3) := by decide +kernel
theorem dX7_enterPerson_66 : decode cX7_enterPerson 66 = .ok (.iinc 2 1, 3) := by decide +kernel
theorem dX7_enterPerson_69 : decode cX7_enterPerson 69 = .ok (.goto (-26), 3) := by decide +kernel
theorem dX7_enterPerson_72 : decode cX7_enterPerson 72 = .ok (.iconst 1, 1) := by decide +kernel
theorem dX7_enterPerson_73 : decode cX7_enterPerson 73 = .ok (.ireturn, 1) := by decide +kernel
theorem dX7_enterWriter_0 : decode cX7_enterWriter 0 = .ok (.aload_n 0, 1) := by decide +kernel
theorem dX7_enterWriter_1 : decode cX7_enterWriter 1 = .ok (.getfield 23, 3) := by decide +kernel
theorem dX7_enterWriter_4 : decode cX7_enterWriter 4 = .ok (.getfield 115, 3) := by decide +kernel
theorem dX7_enterWriter_7 : decode cX7_enterWriter 7 = .ok (.invokevirtual 118, 3) := by decide +kernel
theorem dX7_enterWriter_10 : decode cX7_enterWriter 10 = .ok (.ifCond .ne 22, 3) := by decide +kernel
theorem dX7_enterWriter_13 : decode cX7_enterWriter 13 = .ok (.aload_n 0, 1) := by decide +kernel
theorem dX7_enterWriter_14 : decode cX7_enterWriter 14 = .ok (.getfield 23, 3) := by decide +kernel
theorem dX7_enterWriter_17 : decode cX7_enterWriter 17 = .ok (.getfield 100, 3) := by decide +kernel
theorem dX7_enterWriter_20 : decode cX7_enterWriter 20 = .ok (.aload_n 0, 1) := by decide +kernel
theorem dX7_enterWriter_21 : decode cX7_enterWriter 21 = .ok (.getfield 27, 3) := by decide +kernel
theorem dX7_enterWriter_24 : decode cX7_enterWriter 24 = .ok (.iconst 1, 1) := by decide +kernel
theorem dX7_enterWriter_25 : decode cX7_enterWriter 25 = .ok (.iaload, 1) := by decide +kernel
theorem dX7_enterWriter_26 : decode cX7_enterWriter 26 = .ok (.invokevirtual 121, 3) := by decide +kernel
theorem dX7_enterWriter_29 : decode cX7_enterWriter 29 = .ok (.ifCond .ne 5, 3) := by decide +kernel
theorem dX7_enterWriter_32 : decode cX7_enterWriter 32 = .ok (.iconst 0, 1) := by decide +kernel
theorem dX7_enterWriter_33 : decode cX7_enterWriter 33 = .ok (.ireturn, 1) := by decide +kernel
theorem dX7_enterWriter_34 : decode cX7_enterWriter 34 = .ok (.aload_n 0, 1) := by decide +kernel
theorem dX7_enterWriter_35 : decode cX7_enterWriter 35 = .ok (.getfield 23, 3) := by decide +kernel
theorem dX7_enterWriter_38 : decode cX7_enterWriter 38 = .ok (.getfield 115, 3) := by decide +kernel
theorem dX7_enterWriter_41 : decode cX7_enterWriter 41 = .ok (.aload_n 0, 1) := by decide +kernel
theorem dX7_enterWriter_42 : decode cX7_enterWriter 42 = .ok (.getfield 27, 3) := by decide +kernel
theorem dX7_enterWriter_45 : decode cX7_enterWriter 45 = .ok (.iconst 0, 1) := by decide +kernel
theorem dX7_enterWriter_46 : decode cX7_enterWriter 46 = .ok (.iaload, 1) := by decide +kernel
theorem dX7_enterWriter_47 : decode cX7_enterWriter 47 = .ok (.invokevirtual 124, 3) := by decide +kernel
theorem dX7_enterWriter_50 : decode cX7_enterWriter 50 = .ok (.aload_n 0, 1) := by decide +kernel
theorem dX7_enterWriter_51 : decode cX7_enterWriter 51 = .ok (.getfield 23, 3) := by decide +kernel
theorem dX7_enterWriter_54 : decode cX7_enterWriter 54 = .ok (.getfield 127, 3) := by decide +kernel
theorem dX7_enterWriter_57 : decode cX7_enterWriter 57 = .ok (.aload_n 0, 1) := by decide +kernel
theorem dX7_enterWriter_58 : decode cX7_enterWriter 58 = .ok (.getfield 27, 3) := by decide +kernel
theorem dX7_enterWriter_61 : decode cX7_enterWriter 61 = .ok (.iconst 1, 1) := by decide +kernel
theorem dX7_enterWriter_62 : decode cX7_enterWriter 62 = .ok (.iaload, 1) := by decide +kernel
theorem dX7_enterWriter_63 : decode cX7_enterWriter 63 = .ok (.invokevirtual 124, 3) := by decide +kernel
theorem dX7_enterWriter_66 : decode cX7_enterWriter 66 = .ok (.aload_n 0, 1) := by decide +kernel
theorem dX7_enterWriter_67 : decode cX7_enterWriter 67 = .ok (.getfield 23, 3) := by decide +kernel
theorem dX7_enterWriter_70 : decode cX7_enterWriter 70 = .ok (.getfield 130, 3) := by decide +kernel
theorem dX7_enterWriter_73 : decode cX7_enterWriter 73 = .ok (.iconst 0, 1) := by decide +kernel
theorem dX7_enterWriter_74 : decode cX7_enterWriter 74 = .ok (.invokevirtual 124, 3) := by decide +kernel
theorem dX7_enterWriter_77 : decode cX7_enterWriter 77 = .ok (.iconst 1, 1) := by decide +kernel
theorem dX7_enterWriter_78 : decode cX7_enterWriter 78 = .ok (.ireturn, 1) := by decide +kernel
theorem dX7_enterAmounts_0 : decode cX7_enterAmounts 0 = .ok (.aload_n 0, 1) := by decide +kernel
theorem dX7_enterAmounts_1 : decode cX7_enterAmounts 1 = .ok (.getfield 23, 3) := by decide +kernel
theorem dX7_enterAmounts_4 : decode cX7_enterAmounts 4 = .ok (.getfield 130, 3) := by decide +kernel
theorem dX7_enterAmounts_7 : decode cX7_enterAmounts 7 = .ok (.getfield 50, 3) := by decide +kernel
theorem dX7_enterAmounts_10 : decode cX7_enterAmounts 10 = .ok (.ifCond .eq 11, 3) := by decide +kernel
theorem dX7_enterAmounts_13 : decode cX7_enterAmounts 13 = .ok (.aload_n 0, 1) := by decide +kernel
theorem dX7_enterAmounts_14 : decode cX7_enterAmounts 14 = .ok (.iconst 5, 1) := by decide +kernel
theorem dX7_enterAmounts_15 : decode cX7_enterAmounts 15 = .ok (.invokevirtual 107, 3) := by decide +kernel
theorem dX7_enterAmounts_18 : decode cX7_enterAmounts 18 = .ok (.ifCond .ne 5, 3) := by decide +kernel
theorem dX7_enterAmounts_21 : decode cX7_enterAmounts 21 = .ok (.iconst 0, 1) := by decide +kernel
theorem dX7_enterAmounts_22 : decode cX7_enterAmounts 22 = .ok (.ireturn, 1) := by decide +kernel
theorem dX7_enterAmounts_23 : decode cX7_enterAmounts 23 = .ok (.iconst 0, 1) := by decide +kernel
theorem dX7_enterAmounts_24 : decode cX7_enterAmounts 24 = .ok (.istore_n 1, 1) := by decide +kernel
theorem dX7_enterAmounts_25 : decode cX7_enterAmounts 25 = .ok (.iconst 0, 1) := by decide +kernel
theorem dX7_enterAmounts_26 : decode cX7_enterAmounts 26 = .ok (.istore_n 2, 1) := by decide +kernel
theorem dX7_enterAmounts_27 : decode cX7_enterAmounts 27 = .ok (.iload_n 2, 1) := by decide +kernel
theorem dX7_enterAmounts_28 : decode cX7_enterAmounts 28 = .ok (.iconst 4, 1) := by decide +kernel
theorem dX7_enterAmounts_29 : decode cX7_enterAmounts 29 = .ok (.if_icmp .ge 24, 3) := by decide +kernel
theorem dX7_enterAmounts_32 : decode cX7_enterAmounts 32 = .ok (.iload_n 1, 1) := by decide +kernel
theorem dX7_enterAmounts_33 : decode cX7_enterAmounts 33 = .ok (.aload_n 0, 1) := by decide +kernel
theorem dX7_enterAmounts_34 : decode cX7_enterAmounts 34 = .ok (.getfield 27, 3) := by decide +kernel
theorem dX7_enterAmounts_37 : decode cX7_enterAmounts 37 = .ok (.iload_n 2, 1) := by decide +kernel
theorem dX7_enterAmounts_38 : decode cX7_enterAmounts 38 = .ok (.iaload, 1) := by decide +kernel
theorem dX7_enterAmounts_39 : decode cX7_enterAmounts 39 = .ok (.getstatic 133, 3) := by decide +kernel
theorem dX7_enterAmounts_42 : decode cX7_enterAmounts 42 = .ok (.iload_n 2, 1) := by decide +kernel
theorem dX7_enterAmounts_43 : decode cX7_enterAmounts 43 = .ok (.iaload, 1) := by decide +kernel
theorem dX7_enterAmounts_44 : decode cX7_enterAmounts 44 = .ok (.imul, 1) := by decide +kernel
theorem dX7_enterAmounts_45 : decode cX7_enterAmounts 45 = .ok (.iadd, 1) := by decide +kernel
theorem dX7_enterAmounts_46 : decode cX7_enterAmounts 46 = .ok (.istore_n 1, 1) := by decide +kernel
theorem dX7_enterAmounts_47 : decode cX7_enterAmounts 47 = .ok (.iinc 2 1, 3) := by decide +kernel
theorem dX7_enterAmounts_50 : decode cX7_enterAmounts 50 = .ok (.goto (-23), 3) := by decide +kernel
theorem dX7_enterAmounts_53 : decode cX7_enterAmounts 53 = .ok (.aload_n 0, 1) := by decide +kernel
theorem dX7_enterAmounts_54 : decode cX7_enterAmounts 54 = .ok (.getfield 23, 3) := by decide +kernel
theorem dX7_enterAmounts_57 : decode cX7_enterAmounts 57 = .ok (.getfield 130, 3) := by decide +kernel
theorem dX7_enterAmounts_60 : decode cX7_enterAmounts 60 = .ok (.aload_n 0, 1) := by decide +kernel
theorem dX7_enterAmounts_61 : decode cX7_enterAmounts 61 = .ok (.getfield 23, 3) := by decide +kernel
theorem dX7_enterAmounts_64 : decode cX7_enterAmounts 64 = .ok (.getfield 130, 3) := by decide +kernel
theorem dX7_enterAmounts_67 : decode cX7_enterAmounts 67 = .ok (.getfield 50, 3) := by decide +kernel
theorem dX7_enterAmounts_70 : decode cX7_enterAmounts 70 = .ok (.iconst 1, 1) := by decide +kernel
theorem dX7_enterAmounts_71 : decode cX7_enterAmounts 71 = .ok (.isub, 1) := by decide +kernel
theorem dX7_enterAmounts_72 : decode cX7_enterAmounts 72 = .ok (.iload_n 1, 1) := by decide +kernel
theorem dX7_enterAmounts_73 : decode cX7_enterAmounts 73 = .ok (.invokevirtual 136, 3) := by decide +kernel
theorem dX7_enterAmounts_76 : decode cX7_enterAmounts 76 = .ok (.iconst 1, 1) := by decide +kernel
theorem dX7_enterAmounts_77 : decode cX7_enterAmounts 77 = .ok (.ireturn, 1) := by decide +kernel
theorem dX7_areAtMost_0 : decode cX7_areAtMost 0 = .ok (.iconst 0, 1) := by decide +kernel
theorem dX7_areAtMost_1 : decode cX7_areAtMost 1 = .ok (.istore_n 2, 1) := by decide +kernel
theorem dX7_areAtMost_2 : decode cX7_areAtMost 2 = .ok (.iload_n 2, 1) := by decide +kernel
theorem dX7_areAtMost_3 : decode cX7_areAtMost 3 = .ok (.iconst 4, 1) := by decide +kernel
theorem dX7_areAtMost_4 : decode cX7_areAtMost 4 = .ok (.if_icmp .ge 21, 3) := by decide +kernel
theorem dX7_areAtMost_7 : decode cX7_areAtMost 7 = .ok (.aload_n 0, 1) := by decide +kernel
theorem dX7_areAtMost_8 : decode cX7_areAtMost 8 = .ok (.getfield 27, 3) := by decide +kernel
theorem dX7_areAtMost_11 : decode cX7_areAtMost 11 = .ok (.iload_n 2, 1) := by decide +kernel
theorem dX7_areAtMost_12 : decode cX7_areAtMost 12 = .ok (.iaload, 1) := by decide +kernel
theorem dX7_areAtMost_13 : decode cX7_areAtMost 13 = .ok (.iload_n 1, 1) := by decide +kernel
theorem dX7_areAtMost_14 : decode cX7_areAtMost 14 = .ok (.if_icmp .le 5, 3) := by decide +kernel
theorem dX7_areAtMost_17 : decode cX7_areAtMost 17 = .ok (.iconst 0, 1) := by decide +kernel
theorem dX7_areAtMost_18 : decode cX7_areAtMost 18 = .ok (.ireturn, 1) := by decide +kernel
theorem dX7_areAtMost_19 : decode cX7_areAtMost 19 = .ok (.iinc 2 1, 3) := by decide +kernel
theorem dX7_areAtMost_22 : decode cX7_areAtMost 22 = .ok (.goto (-20), 3) := by decide +kernel
theorem dX7_areAtMost_25 : decode cX7_areAtMost 25 = .ok (.iconst 1, 1) := by decide +kernel
theorem dX7_areAtMost_26 : decode cX7_areAtMost 26 = .ok (.ireturn, 1) := by decide +kernel
theorem dX8_init_0 : decode cX8_init 0 = .ok (.aload_n 0, 1) := by decide +kernel
theorem dX8_init_1 : decode cX8_init 1 = .ok (.iconst 1, 1) := by decide +kernel
theorem dX8_init_2 : decode cX8_init 2 = .ok (.invokespecial 1, 3) := by decide +kernel
theorem dX8_init_5 : decode cX8_init 5 = .ok (.return_, 1) := by decide +kernel
theorem dX9_init_0 : decode cX9_init 0 = .ok (.aload_n 0, 1) := by decide +kernel
theorem dX9_init_1 : decode cX9_init 1 = .ok (.invokespecial 3, 3) := by decide +kernel
theorem dX9_init_4 : decode cX9_init 4 = .ok (.aload_n 0, 1) := by decide +kernel
theorem dX9_init_5 : decode cX9_init 5 = .ok (.new 9, 3) := by decide +kernel
theorem dX9_init_8 : decode cX9_init 8 = .ok (.dup, 1) := by decide +kernel
theorem dX9_init_9 : decode cX9_init 9 = .ok (.invokespecial 11, 3) := by decide +kernel
theorem dX9_init_12 : decode cX9_init 12 = .ok (.putfield 12, 3) := by decide +kernel
theorem dX9_init_15 : decode cX9_init 15 = .ok (.aload_n 0, 1) := by decide +kernel
theorem dX9_init_16 : decode cX9_init 16 = .ok (.new 18, 3) := by decide +kernel
theorem dX9_init_19 : decode cX9_init 19 = .ok (.dup, 1) := by decide +kernel
theorem dX9_init_20 : decode cX9_init 20 = .ok (.iconst 4, 1) := by decide +kernel
theorem dX9_init_21 : decode cX9_init 21 = .ok (.invokespecial 20, 3) := by decide +kernel
theorem dX9_init_24 : decode cX9_init 24 = .ok (.putfield 23, 3) := by decide +kernel
theorem dX9_init_27 : decode cX9_init 27 = .ok (.aload_n 0, 1) := by decide +kernel
theorem dX9_init_28 : decode cX9_init 28 = .ok (.new 18, 3) := by decide +kernel
theorem dX9_init_31 : decode cX9_init 31 = .ok (.dup, 1) := by decide +kernel
theorem dX9_init_32 : decode cX9_init 32 = .ok (.iconst 4, 1) := by decide +kernel
theorem dX9_init_33 : decode cX9_init 33 = .ok (.invokespecial 20, 3) := by decide +kernel
theorem dX9_init_36 : decode cX9_init 36 = .ok (.putfield 27, 3) := by decide +kernel
theorem dX9_init_39 : decode cX9_init 39 = .ok (.aload_n 0, 1) := by decide +kernel
theorem dX9_init_40 : decode cX9_init 40 = .ok (.new 18, 3) := by decide +kernel
theorem dX9_init_43 : decode cX9_init 43 = .ok (.dup, 1) := by decide +kernel
theorem dX9_init_44 : decode cX9_init 44 = .ok (.iconst 4, 1) := by decide +kernel
theorem dX9_init_45 : decode cX9_init 45 = .ok (.invokespecial 20, 3) := by decide +kernel
theorem dX9_init_48 : decode cX9_init 48 = .ok (.putfield 30, 3) := by decide +kernel
theorem dX9_init_51 : decode cX9_init 51 = .ok (.aload_n 0, 1) := by decide +kernel
theorem dX9_init_52 : decode cX9_init 52 = .ok (.new 18, 3) := by decide +kernel
theorem dX9_init_55 : decode cX9_init 55 = .ok (.dup, 1) := by decide +kernel
theorem dX9_init_56 : decode cX9_init 56 = .ok (.iconst 5, 1) := by decide +kernel
theorem dX9_init_57 : decode cX9_init 57 = .ok (.invokespecial 20, 3) := by decide +kernel
theorem dX9_init_60 : decode cX9_init 60 = .ok (.putfield 33, 3) := by decide +kernel
theorem dX9_init_63 : decode cX9_init 63 = .ok (.aload_n 0, 1) := by decide +kernel
theorem dX9_init_64 : decode cX9_init 64 = .ok (.new 18, 3) := by decide +kernel
theorem dX9_init_67 : decode cX9_init 67 = .ok (.dup, 1) := by decide +kernel
theorem dX9_init_68 : decode cX9_init 68 = .ok (.bipush 6, 2) := by decide +kernel
theorem dX9_init_70 : decode cX9_init 70 = .ok (.invokespecial 20, 3) := by decide +kernel
theorem dX9_init_73 : decode cX9_init 73 = .ok (.putfield 36, 3) := by decide +kernel
theorem dX9_init_76 : decode cX9_init 76 = .ok (.aload_n 0, 1) := by decide +kernel
theorem dX9_init_77 : decode cX9_init 77 = .ok (.new 18, 3) := by decide +kernel
theorem dX9_init_80 : decode cX9_init 80 = .ok (.dup, 1) := by decide +kernel
theorem dX9_init_81 : decode cX9_init 81 = .ok (.bipush 6, 2) := by decide +kernel
theorem dX9_init_83 : decode cX9_init 83 = .ok (.invokespecial 20, 3) := by decide +kernel
theorem dX9_init_86 : decode cX9_init 86 = .ok (.putfield 39, 3) := by decide +kernel
theorem dX9_init_89 : decode cX9_init 89 = .ok (.return_, 1) := by decide +kernel
theorem dX9_isWriter_0 : decode cX9_isWriter 0 = .ok (.iload_n 1, 1) := by decide +kernel
theorem dX9_isWriter_1 : decode cX9_isWriter 1 = .ok (.ifCond .lt 18, 3) := by decide +kernel
theorem dX9_isWriter_4 : decode cX9_isWriter 4 = .ok (.iload_n 1, 1) := by decide +kernel
theorem dX9_isWriter_5 : decode cX9_isWriter 5 = .ok (.aload_n 0, 1) := by decide +kernel
theorem dX9_isWriter_6 : decode cX9_isWriter 6 = .ok (.getfield 23, 3) := by decide +kernel
theorem dX9_isWriter_9 : decode cX9_isWriter 9 = .ok (.getfield 42, 3) := by decide +kernel
theorem dX9_isWriter_12 : decode cX9_isWriter 12 = .ok (.if_icmp .ge 7, 3) := by decide +kernel
theorem dX9_isWriter_15 : decode cX9_isWriter 15 = .ok (.iconst 1, 1) := by decide +kernel
theorem dX9_isWriter_16 : decode cX9_isWriter 16 = .ok (.goto 4, 3) := by decide +kernel
theorem dX9_isWriter_19 : decode cX9_isWriter 19 = .ok (.iconst 0, 1) := by decide +kernel
theorem dX9_isWriter_20 : decode cX9_isWriter 20 = .ok (.ireturn, 1) := by decide +kernel
theorem dX9_takeFrom_0 : decode cX9_takeFrom 0 = .ok (.aload_n 0, 1) := by decide +kernel
theorem dX9_takeFrom_1 : decode cX9_takeFrom 1 = .ok (.getfield 12, 3) := by decide +kernel
theorem dX9_takeFrom_4 : decode cX9_takeFrom 4 = .ok (.aload_n 1, 1) := by decide +kernel
theorem dX9_takeFrom_5 : decode cX9_takeFrom 5 = .ok (.getfield 12, 3) := by decide +kernel
theorem dX9_takeFrom_8 : decode cX9_takeFrom 8 = .ok (.invokevirtual 46, 3) := by decide +kernel
theorem dX9_takeFrom_11 : decode cX9_takeFrom 11 = .ok (.aload_n 0, 1) := by decide +kernel
theorem dX9_takeFrom_12 : decode cX9_takeFrom 12 = .ok (.getfield 23, 3) := by decide +kernel
theorem dX9_takeFrom_15 : decode cX9_takeFrom 15 = .ok (.aload_n 1, 1) := by decide +kernel
theorem dX9_takeFrom_16 : decode cX9_takeFrom 16 = .ok (.getfield 23, 3) := by decide +kernel
theorem dX9_takeFrom_19 : decode cX9_takeFrom 19 = .ok (.invokevirtual 50, 3) := by decide +kernel
theorem dX9_takeFrom_22 : decode cX9_takeFrom 22 = .ok (.aload_n 0, 1) := by decide +kernel
theorem dX9_takeFrom_23 : decode cX9_takeFrom 23 = .ok (.getfield 27, 3) := by decide +kernel
theorem dX9_takeFrom_26 : decode cX9_takeFrom 26 = .ok (.aload_n 1, 1) := by decide +kernel
theorem dX9_takeFrom_27 : decode cX9_takeFrom 27 = .ok (.getfield 27, 3) := by decide +kernel
theorem dX9_takeFrom_30 : decode cX9_takeFrom 30 = .ok (.invokevirtual 50, 3) := by decide +kernel
theorem dX9_takeFrom_33 : decode cX9_takeFrom 33 = .ok (.aload_n 0, 1) := by decide +kernel
theorem dX9_takeFrom_34 : decode cX9_takeFrom 34 = .ok (.getfield 30, 3) := by decide +kernel
theorem dX9_takeFrom_37 : decode cX9_takeFrom 37 = .ok (.aload_n 1, 1) := by decide +kernel
theorem dX9_takeFrom_38 : decode cX9_takeFrom 38 = .ok (.getfield 30, 3) := by decide +kernel
theorem dX9_takeFrom_41 : decode cX9_takeFrom 41 = .ok (.invokevirtual 50, 3) := by decide +kernel
theorem dX9_takeFrom_44 : decode cX9_takeFrom 44 = .ok (.aload_n 0, 1) := by decide +kernel
theorem dX9_takeFrom_45 : decode cX9_takeFrom 45 = .ok (.getfield 33, 3) := by decide +kernel
theorem dX9_takeFrom_48 : decode cX9_takeFrom 48 = .ok (.aload_n 1, 1) := by decide +kernel
theorem dX9_takeFrom_49 : decode cX9_takeFrom 49 = .ok (.getfield 33, 3) := by decide +kernel
theorem dX9_takeFrom_52 : decode cX9_takeFrom 52 = .ok (.invokevirtual 50, 3) := by decide +kernel
theorem dX9_takeFrom_55 : decode cX9_takeFrom 55 = .ok (.aload_n 0, 1) := by decide +kernel
theorem dX9_takeFrom_56 : decode cX9_takeFrom 56 = .ok (.getfield 36, 3) := by decide +kernel
theorem dX9_takeFrom_59 : decode cX9_takeFrom 59 = .ok (.aload_n 1, 1) := by decide +kernel
theorem dX9_takeFrom_60 : decode cX9_takeFrom 60 = .ok (.getfield 36, 3) := by decide +kernel
theorem dX9_takeFrom_63 : decode cX9_takeFrom 63 = .ok (.invokevirtual 50, 3) := by decide +kernel
theorem dX9_takeFrom_66 : decode cX9_takeFrom 66 = .ok (.aload_n 0, 1) := by decide +kernel
theorem dX9_takeFrom_67 : decode cX9_takeFrom 67 = .ok (.getfield 39, 3) := by decide +kernel
theorem dX9_takeFrom_70 : decode cX9_takeFrom 70 = .ok (.aload_n 1, 1) := by decide +kernel
theorem dX9_takeFrom_71 : decode cX9_takeFrom 71 = .ok (.getfield 39, 3) := by decide +kernel
theorem dX9_takeFrom_74 : decode cX9_takeFrom 74 = .ok (.invokevirtual 50, 3) := by decide +kernel
theorem dX9_takeFrom_77 : decode cX9_takeFrom 77 = .ok (.aload_n 0, 1) := by decide +kernel
theorem dX9_takeFrom_78 : decode cX9_takeFrom 78 = .ok (.aload_n 1, 1) := by decide +kernel
theorem dX9_takeFrom_79 : decode cX9_takeFrom 79 = .ok (.getfield 53, 3) := by decide +kernel
theorem dX9_takeFrom_82 : decode cX9_takeFrom 82 = .ok (.putfield 53, 3) := by decide +kernel
theorem dX9_takeFrom_85 : decode cX9_takeFrom 85 = .ok (.aload_n 0, 1) := by decide +kernel
theorem dX9_takeFrom_86 : decode cX9_takeFrom 86 = .ok (.aload_n 1, 1) := by decide +kernel
theorem dX9_takeFrom_87 : decode cX9_takeFrom 87 = .ok (.getfield 56, 3) := by decide +kernel
theorem dX9_takeFrom_90 : decode cX9_takeFrom 90 = .ok (.putfield 56, 3) := by decide +kernel
theorem dX9_takeFrom_93 : decode cX9_takeFrom 93 = .ok (.aload_n 0, 1) := by decide +kernel
theorem dX9_takeFrom_94 : decode cX9_takeFrom 94 = .ok (.aload_n 1, 1) := by decide +kernel
theorem dX9_takeFrom_95 : decode cX9_takeFrom 95 = .ok (.getfield 59, 3) := by decide +kernel
theorem dX9_takeFrom_98 : decode cX9_takeFrom 98 = .ok (.putfield 59, 3) := by decide +kernel
theorem dX9_takeFrom_101 : decode cX9_takeFrom 101 = .ok (.aload_n 0, 1) := by decide +kernel
theorem dX9_takeFrom_102 : decode cX9_takeFrom 102 = .ok (.aload_n 1, 1) := by decide +kernel
theorem dX9_takeFrom_103 : decode cX9_takeFrom 103 = .ok (.getfield 62, 3) := by decide +kernel
theorem dX9_takeFrom_106 : decode cX9_takeFrom 106 = .ok (.putfield 62, 3) := by decide +kernel
theorem dX9_takeFrom_109 : decode cX9_takeFrom 109 = .ok (.return_, 1) := by decide +kernel
theorem dX10_init_0 : decode cX10_init 0 = .ok (.aload_n 0, 1) := by decide +kernel
theorem dX10_init_1 : decode cX10_init 1 = .ok (.iload_n 1, 1) := by decide +kernel
theorem dX10_init_2 : decode cX10_init 2 = .ok (.invokespecial 3, 3) := by decide +kernel
theorem dX10_init_5 : decode cX10_init 5 = .ok (.return_, 1) := by decide +kernel
theorem dX10_scoreOf_0 : decode cX10_scoreOf 0 = .ok (.iconst 0, 1) := by decide +kernel
theorem dX10_scoreOf_1 : decode cX10_scoreOf 1 = .ok (.istore 4, 2) := by decide +kernel
theorem dX10_scoreOf_3 : decode cX10_scoreOf 3 = .ok (.iload_n 2, 1) := by decide +kernel
theorem dX10_scoreOf_4 : decode cX10_scoreOf 4 = .ok (.iconst 4, 1) := by decide +kernel
theorem dX10_scoreOf_5 : decode cX10_scoreOf 5 = .ok (.imul, 1) := by decide +kernel
theorem dX10_scoreOf_6 : decode cX10_scoreOf 6 = .ok (.istore 5, 2) := by decide +kernel
theorem dX10_scoreOf_8 : decode cX10_scoreOf 8 = .ok (.iload_n 3, 1) := by decide +kernel
theorem dX10_scoreOf_9 : decode cX10_scoreOf 9 = .ok (.istore 6, 2) := by decide +kernel
theorem dX10_scoreOf_11 : decode cX10_scoreOf 11 = .ok (.iload 6, 2) := by decide +kernel
theorem dX10_scoreOf_13 : decode cX10_scoreOf 13 = .ok (.ifCond .le 49, 3) := by decide +kernel
theorem dX10_scoreOf_16 : decode cX10_scoreOf 16 = .ok (.iload 5, 2) := by decide +kernel
theorem dX10_scoreOf_18 : decode cX10_scoreOf 18 = .ok (.ifCond .lt 44, 3) := by decide +kernel
theorem dX10_scoreOf_21 : decode cX10_scoreOf 21 = .ok (.iload 5, 2) := by decide +kernel
theorem dX10_scoreOf_23 : decode cX10_scoreOf 23 = .ok (.aload_n 1, 1) := by decide +kernel
theorem dX10_scoreOf_24 : decode cX10_scoreOf 24 = .ok (.getfield 9, 3) := by decide +kernel
theorem dX10_scoreOf_27 : decode cX10_scoreOf 27 = .ok (.arraylength, 1) := by decide +kernel
theorem dX10_scoreOf_28 : decode cX10_scoreOf 28 = .ok (.if_icmp .ge 34, 3) := by decide +kernel
theorem dX10_scoreOf_31 : decode cX10_scoreOf 31 = .ok (.iload 4, 2) := by decide +kernel
theorem dX10_scoreOf_33 : decode cX10_scoreOf 33 = .ok (.iload 6, 2) := by decide +kernel
theorem dX10_scoreOf_35 : decode cX10_scoreOf 35 = .ok (.bipush 10, 2) := by decide +kernel
theorem dX10_scoreOf_37 : decode cX10_scoreOf 37 = .ok (.irem, 1) := by decide +kernel
theorem dX10_scoreOf_38 : decode cX10_scoreOf 38 = .ok (.aload_n 1, 1) := by decide +kernel
theorem dX10_scoreOf_39 : decode cX10_scoreOf 39 = .ok (.getfield 9, 3) := by decide +kernel
theorem dX10_scoreOf_42 : decode cX10_scoreOf 42 = .ok (.iload 5, 2) := by decide +kernel
theorem dX10_scoreOf_44 : decode cX10_scoreOf 44 = .ok (.iaload, 1) := by decide +kernel
theorem dX10_scoreOf_45 : decode cX10_scoreOf 45 = .ok (.imul, 1) := by decide +kernel
theorem dX10_scoreOf_46 : decode cX10_scoreOf 46 = .ok (.iadd, 1) := by decide +kernel
theorem dX10_scoreOf_47 : decode cX10_scoreOf 47 = .ok (.istore 4, 2) := by decide +kernel
theorem dX10_scoreOf_49 : decode cX10_scoreOf 49 = .ok (.iinc 5 1, 3) := by decide +kernel
theorem dX10_scoreOf_52 : decode cX10_scoreOf 52 = .ok (.iload 6, 2) := by decide +kernel
theorem dX10_scoreOf_54 : decode cX10_scoreOf 54 = .ok (.bipush 10, 2) := by decide +kernel
theorem dX10_scoreOf_56 : decode cX10_scoreOf 56 = .ok (.idiv, 1) := by decide +kernel
theorem dX10_scoreOf_57 : decode cX10_scoreOf 57 = .ok (.istore 6, 2) := by decide +kernel
theorem dX10_scoreOf_59 : decode cX10_scoreOf 59 = .ok (.goto (-48), 3) := by decide +kernel
theorem dX10_scoreOf_62 : decode cX10_scoreOf 62 = .ok (.iload 4, 2) := by decide +kernel
theorem dX10_scoreOf_64 : decode cX10_scoreOf 64 = .ok (.ireturn, 1) := by decide +kernel
theorem dX11_init_0 : decode cX11_init 0 = .ok (.aload_n 0, 1) := by decide +kernel
theorem dX11_init_1 : decode cX11_init 1 = .ok (.invokespecial 1, 3) := by decide +kernel
theorem dX11_init_4 : decode cX11_init 4 = .ok (.aload_n 0, 1) := by decide +kernel
theorem dX11_init_5 : decode cX11_init 5 = .ok (.new 7, 3) := by decide +kernel
theorem dX11_init_8 : decode cX11_init 8 = .ok (.dup, 1) := by decide +kernel
theorem dX11_init_9 : decode cX11_init 9 = .ok (.invokespecial 9, 3) := by decide +kernel
theorem dX11_init_12 : decode cX11_init 12 = .ok (.putfield 10, 3) := by decide +kernel
theorem dX11_init_15 : decode cX11_init 15 = .ok (.aload_n 0, 1) := by decide +kernel
theorem dX11_init_16 : decode cX11_init 16 = .ok (.new 7, 3) := by decide +kernel
theorem dX11_init_19 : decode cX11_init 19 = .ok (.dup, 1) := by decide +kernel
theorem dX11_init_20 : decode cX11_init 20 = .ok (.invokespecial 9, 3) := by decide +kernel
theorem dX11_init_23 : decode cX11_init 23 = .ok (.putfield 16, 3) := by decide +kernel
theorem dX11_init_26 : decode cX11_init 26 = .ok (.aload_n 0, 1) := by decide +kernel
theorem dX11_init_27 : decode cX11_init 27 = .ok (.new 19, 3) := by decide +kernel
theorem dX11_init_30 : decode cX11_init 30 = .ok (.dup, 1) := by decide +kernel
theorem dX11_init_31 : decode cX11_init 31 = .ok (.invokespecial 21, 3) := by decide +kernel
theorem dX11_init_34 : decode cX11_init 34 = .ok (.putfield 22, 3) := by decide +kernel
theorem dX11_init_37 : decode cX11_init 37 = .ok (.aload_n 0, 1) := by decide +kernel
theorem dX11_init_38 : decode cX11_init 38 = .ok (.new 26, 3) := by decide +kernel
theorem dX11_init_41 : decode cX11_init 41 = .ok (.dup, 1) := by decide +kernel
theorem dX11_init_42 : decode cX11_init 42 = .ok (.invokespecial 28, 3) := by decide +kernel
theorem dX11_init_45 : decode cX11_init 45 = .ok (.putfield 29, 3) := by decide +kernel
theorem dX11_init_48 : decode cX11_init 48 = .ok (.aload_n 0, 1) := by decide +kernel
theorem dX11_init_49 : decode cX11_init 49 = .ok (.iconst 5, 1) := by decide +kernel
theorem dX11_init_50 : decode cX11_init 50 = .ok (.anewarray 33, 3) := by decide +kernel
theorem dX11_init_53 : decode cX11_init 53 = .ok (.dup, 1) := by decide +kernel
theorem dX11_init_54 : decode cX11_init 54 = .ok (.iconst 0, 1) := by decide +kernel
theorem dX11_init_55 : decode cX11_init 55 = .ok (.new 35, 3) := by decide +kernel
theorem dX11_init_58 : decode cX11_init 58 = .ok (.dup, 1) := by decide +kernel
theorem dX11_init_59 : decode cX11_init 59 = .ok (.iconst 0, 1) := by decide +kernel
theorem dX11_init_60 : decode cX11_init 60 = .ok (.invokespecial 37, 3) := by decide +kernel
theorem dX11_init_63 : decode cX11_init 63 = .ok (.aastore, 1) := by decide +kernel
theorem dX11_init_64 : decode cX11_init 64 = .ok (.dup, 1) := by decide +kernel
theorem dX11_init_65 : decode cX11_init 65 = .ok (.iconst 1, 1) := by decide +kernel
theorem dX11_init_66 : decode cX11_init 66 = .ok (.new 40, 3) := by decide +kernel
theorem dX11_init_69 : decode cX11_init 69 = .ok (.dup, 1) := by decide +kernel
theorem dX11_init_70 : decode cX11_init 70 = .ok (.invokespecial 42, 3) := by decide +kernel
theorem dX11_init_73 : decode cX11_init 73 = .ok (.aastore, 1) := by decide +kernel
theorem dX11_init_74 : decode cX11_init 74 = .ok (.dup, 1) := by decide +kernel
theorem dX11_init_75 : decode cX11_init 75 = .ok (.iconst 2, 1) := by decide +kernel
theorem dX11_init_76 : decode cX11_init 76 = .ok (.new 43, 3) := by decide +kernel
theorem dX11_init_79 : decode cX11_init 79 = .ok (.dup, 1) := by decide +kernel
theorem dX11_init_80 : decode cX11_init 80 = .ok (.invokespecial 45, 3) := by decide +kernel
theorem dX11_init_83 : decode cX11_init 83 = .ok (.aastore, 1) := by decide +kernel
theorem dX11_init_84 : decode cX11_init 84 = .ok (.dup, 1) := by decide +kernel
theorem dX11_init_85 : decode cX11_init 85 = .ok (.iconst 3, 1) := by decide +kernel
theorem dX11_init_86 : decode cX11_init 86 = .ok (.new 46, 3) := by decide +kernel
theorem dX11_init_89 : decode cX11_init 89 = .ok (.dup, 1) := by decide +kernel
theorem dX11_init_90 : decode cX11_init 90 = .ok (.invokespecial 48, 3) := by decide +kernel
theorem dX11_init_93 : decode cX11_init 93 = .ok (.aastore, 1) := by decide +kernel
theorem dX11_init_94 : decode cX11_init 94 = .ok (.dup, 1) := by decide +kernel
theorem dX11_init_95 : decode cX11_init 95 = .ok (.iconst 4, 1) := by decide +kernel
theorem dX11_init_96 : decode cX11_init 96 = .ok (.new 49, 3) := by decide +kernel
theorem dX11_init_99 : decode cX11_init 99 = .ok (.dup, 1) := by decide +kernel
theorem dX11_init_100 : decode cX11_init 100 = .ok (.invokespecial 51, 3) := by decide +kernel
theorem dX11_init_103 : decode cX11_init 103 = .ok (.aastore, 1) := by decide +kernel
theorem dX11_init_104 : decode cX11_init 104 = .ok (.putfield 52, 3) := by decide +kernel
theorem dX11_init_107 : decode cX11_init 107 = .ok (.aload_n 0, 1) := by decide +kernel
theorem dX11_init_108 : decode cX11_init 108 = .ok (.new 56, 3) := by decide +kernel
theorem dX11_init_111 : decode cX11_init 111 = .ok (.dup, 1) := by decide +kernel
theorem dX11_init_112 : decode cX11_init 112 = .ok (.bipush 8, 2) := by decide +kernel
theorem dX11_init_114 : decode cX11_init 114 = .ok (.invokespecial 58, 3) := by decide +kernel
theorem dX11_init_117 : decode cX11_init 117 = .ok (.putfield 59, 3) := by decide +kernel
theorem dX11_init_120 : decode cX11_init 120 = .ok (.aload_n 0, 1) := by decide +kernel
theorem dX11_init_121 : decode cX11_init 121 = .ok (.bipush 7, 2) := by decide +kernel
theorem dX11_init_123 : decode cX11_init 123 = .ok (.newarray .int, 2) := by decide +kernel
theorem dX11_init_125 : decode cX11_init 125 = .ok (.putfield 63, 3) := by decide +kernel
theorem dX11_init_128 : decode cX11_init 128 = .ok (.return_, 1) := by decide +kernel
theorem dX11_letter_0 : decode cX11_letter 0 = .ok (.iload_n 1, 1) := by decide +kernel
theorem dX11_letter_1 : decode cX11_letter 1 = .ok (.ifCond .ge 10, 3) := by decide +kernel
theorem dX11_letter_4 : decode cX11_letter 4 = .ok (.aload_n 0, 1) := by decide +kernel
theorem dX11_letter_5 : decode cX11_letter 5 = .ok (.bipush (-4), 2) := by decide +kernel
theorem dX11_letter_7 : decode cX11_letter 7 = .ok (.invokevirtual 67, 3) := by decide +kernel
theorem dX11_letter_10 : decode cX11_letter 10 = .ok (.ireturn, 1) := by decide +kernel
theorem dX11_letter_11 : decode cX11_letter 11 = .ok (.iload_n 1, 1) := by decide +kernel
theorem dX11_letter_12 : decode cX11_letter 12 = .ok (.sipush 255, 3) := by decide +kernel
theorem dX11_letter_15 : decode cX11_letter 15 = .ok (.if_icmp .gt 16, 3) := by decide +kernel
theorem dX11_letter_18 : decode cX11_letter 18 = .ok (.aload_n 0, 1) := by decide +kernel
theorem dX11_letter_19 : decode cX11_letter 19 = .ok (.getfield 22, 3) := by decide +kernel
theorem dX11_letter_22 : decode cX11_letter 22 = .ok (.getfield 71, 3) := by decide +kernel
theorem dX11_letter_25 : decode cX11_letter 25 = .ok (.invokevirtual 74, 3) := by decide +kernel
theorem dX11_letter_28 : decode cX11_letter 28 = .ok (.ifCond .eq 10, 3) := by decide +kernel
theorem dX11_letter_31 : decode cX11_letter 31 = .ok (.aload_n 0, 1) := by decide +kernel
theorem dX11_letter_32 : decode cX11_letter 32 = .ok (.bipush (-6), 2) := by decide +kernel
theorem dX11_letter_34 : decode cX11_letter 34 = .ok (.invokevirtual 67, 3) := by decide +kernel
theorem dX11_letter_37 : decode cX11_letter 37 = .ok (.ireturn, 1) := by decide +kernel
theorem dX11_letter_38 : decode cX11_letter 38 = .ok (.aload_n 0, 1) := by decide +kernel
theorem dX11_letter_39 : decode cX11_letter 39 = .ok (.getfield 22, 3) := by decide +kernel
theorem dX11_letter_42 : decode cX11_letter 42 = .ok (.getfield 71, 3) := by decide +kernel
theorem dX11_letter_45 : decode cX11_letter 45 = .ok (.iload_n 1, 1) := by decide +kernel
theorem dX11_letter_46 : decode cX11_letter 46 = .ok (.invokevirtual 78, 3) := by decide +kernel
theorem dX11_letter_49 : decode cX11_letter 49 = .ok (.aload_n 0, 1) := by decide +kernel
theorem dX11_letter_50 : decode cX11_letter 50 = .ok (.getfield 22, 3) := by decide +kernel
theorem dX11_letter_53 : decode cX11_letter 53 = .ok (.getfield 71, 3) := by decide +kernel
theorem dX11_letter_56 : decode cX11_letter 56 = .ok (.getfield 81, 3) := by decide +kernel
theorem dX11_letter_59 : decode cX11_letter 59 = .ok (.ireturn, 1) := by decide +kernel
theorem dX11_parish_0 : decode cX11_parish 0 = .ok (.aload_n 0, 1) := by decide +kernel
theorem dX11_parish_1 : decode cX11_parish 1 = .ok (.getfield 22, 3) := by decide +kernel
theorem dX11_parish_4 : decode cX11_parish 4 = .ok (.aload_n 0, 1) := by decide +kernel
theorem dX11_parish_5 : decode cX11_parish 5 = .ok (.getfield 10, 3) := by decide +kernel
theorem dX11_parish_8 : decode cX11_parish 8 = .ok (.invokevirtual 85, 3) := by decide +kernel
theorem dX11_parish_11 : decode cX11_parish 11 = .ok (.istore_n 1, 1) := by decide +kernel
theorem dX11_parish_12 : decode cX11_parish 12 = .ok (.aload_n 0, 1) := by decide +kernel
theorem dX11_parish_13 : decode cX11_parish 13 = .ok (.getfield 22, 3) := by decide +kernel
theorem dX11_parish_16 : decode cX11_parish 16 = .ok (.getfield 71, 3) := by decide +kernel
theorem dX11_parish_19 : decode cX11_parish 19 = .ok (.invokevirtual 89, 3) := by decide +kernel
theorem dX11_parish_22 : decode cX11_parish 22 = .ok (.iload_n 1, 1) := by decide +kernel
theorem dX11_parish_23 : decode cX11_parish 23 = .ok (.ireturn, 1) := by decide +kernel
theorem dX11_need_0 : decode cX11_need 0 = .ok (.aload_n 0, 1) := by decide +kernel
theorem dX11_need_1 : decode cX11_need 1 = .ok (.iload_n 1, 1) := by decide +kernel
theorem dX11_need_2 : decode cX11_need 2 = .ok (.iload_n 2, 1) := by decide +kernel
theorem dX11_need_3 : decode cX11_need 3 = .ok (.invokevirtual 92, 3) := by decide +kernel
theorem dX11_need_6 : decode cX11_need 6 = .ok (.ifCond .ne 9, 3) := by decide +kernel
theorem dX11_need_9 : decode cX11_need 9 = .ok (.aload_n 0, 1) := by decide +kernel
theorem dX11_need_10 : decode cX11_need 10 = .ok (.iconst (-1), 1) := by decide +kernel
theorem dX11_need_11 : decode cX11_need 11 = .ok (.invokevirtual 67, 3) := by decide +kernel
theorem dX11_need_14 : decode cX11_need 14 = .ok (.ireturn, 1) := by decide +kernel
theorem dX11_need_15 : decode cX11_need 15 = .ok (.aload_n 0, 1) := by decide +kernel
theorem dX11_need_16 : decode cX11_need 16 = .ok (.getfield 10, 3) := by decide +kernel
theorem dX11_need_19 : decode cX11_need 19 = .ok (.getfield 96, 3) := by decide +kernel
theorem dX11_need_22 : decode cX11_need 22 = .ok (.iload_n 1, 1) := by decide +kernel
theorem dX11_need_23 : decode cX11_need 23 = .ok (.iload_n 2, 1) := by decide +kernel
theorem dX11_need_24 : decode cX11_need 24 = .ok (.invokevirtual 100, 3) := by decide +kernel
theorem dX11_need_27 : decode cX11_need 27 = .ok (.ireturn, 1) := by decide +kernel
theorem dX11_writer_0 : decode cX11_writer 0 = .ok (.aload_n 0, 1) := by decide +kernel
theorem dX11_writer_1 : decode cX11_writer 1 = .ok (.getfield 10, 3) := by decide +kernel
theorem dX11_writer_4 : decode cX11_writer 4 = .ok (.iload_n 1, 1) := by decide +kernel
theorem dX11_writer_5 : decode cX11_writer 5 = .ok (.invokevirtual 106, 3) := by decide +kernel
theorem dX11_writer_8 : decode cX11_writer 8 = .ok (.ifCond .ne 9, 3) := by decide +kernel
theorem dX11_writer_11 : decode cX11_writer 11 = .ok (.aload_n 0, 1) := by decide +kernel
theorem dX11_writer_12 : decode cX11_writer 12 = .ok (.iconst (-1), 1) := by decide +kernel
theorem dX11_writer_13 : decode cX11_writer 13 = .ok (.invokevirtual 67, 3) := by decide +kernel
theorem dX11_writer_16 : decode cX11_writer 16 = .ok (.ireturn, 1) := by decide +kernel
theorem dX11_writer_17 : decode cX11_writer 17 = .ok (.iload_n 2, 1) := by decide +kernel
theorem dX11_writer_18 : decode cX11_writer 18 = .ok (.tableswitch 62 0 2 #[26, 38, 50], 26) := by decide +kernel
theorem dX11_writer_44 : decode cX11_writer 44 = .ok (.aload_n 0, 1) := by decide +kernel
theorem dX11_writer_45 : decode cX11_writer 45 = .ok (.getfield 10, 3) := by decide +kernel
theorem dX11_writer_48 : decode cX11_writer 48 = .ok (.getfield 110, 3) := by decide +kernel
theorem dX11_writer_51 : decode cX11_writer 51 = .ok (.iload_n 1, 1) := by decide +kernel
theorem dX11_writer_52 : decode cX11_writer 52 = .ok (.invokevirtual 113, 3) := by decide +kernel
theorem dX11_writer_55 : decode cX11_writer 55 = .ok (.ireturn, 1) := by decide +kernel
theorem dX11_writer_56 : decode cX11_writer 56 = .ok (.aload_n 0, 1) := by decide +kernel
theorem dX11_writer_57 : decode cX11_writer 57 = .ok (.getfield 10, 3) := by decide +kernel
theorem dX11_writer_60 : decode cX11_writer 60 = .ok (.getfield 116, 3) := by decide +kernel
theorem dX11_writer_63 : decode cX11_writer 63 = .ok (.iload_n 1, 1) := by decide +kernel
theorem dX11_writer_64 : decode cX11_writer 64 = .ok (.invokevirtual 113, 3) := by decide +kernel
theorem dX11_writer_67 : decode cX11_writer 67 = .ok (.ireturn, 1) := by decide +kernel
theorem dX11_writer_68 : decode cX11_writer 68 = .ok (.aload_n 0, 1) := by decide +kernel
theorem dX11_writer_69 : decode cX11_writer 69 = .ok (.getfield 10, 3) := by decide +kernel
theorem dX11_writer_72 : decode cX11_writer 72 = .ok (.getfield 119, 3) := by decide +kernel
theorem dX11_writer_75 : decode cX11_writer 75 = .ok (.iload_n 1, 1) := by decide +kernel
theorem dX11_writer_76 : decode cX11_writer 76 = .ok (.invokevirtual 113, 3) := by decide +kernel
theorem dX11_writer_79 : decode cX11_writer 79 = .ok (.ireturn, 1) := by decide +kernel
theorem dX11_writer_80 : decode cX11_writer 80 = .ok (.aload_n 0, 1) := by decide +kernel
theorem dX11_writer_81 : decode cX11_writer 81 = .ok (.bipush (-2), 2) := by decide +kernel
theorem dX11_writer_83 : decode cX11_writer 83 = .ok (.invokevirtual 67, 3) := by decide +kernel
theorem dX11_writer_86 : decode cX11_writer 86 = .ok (.ireturn, 1) := by decide +kernel
theorem dX11_law_0 : decode cX11_law 0 = .ok (.iload_n 1, 1) := by decide +kernel
theorem dX11_law_1 : decode cX11_law 1 = .ok (.ifCond .lt 12, 3) := by decide +kernel
theorem dX11_law_4 : decode cX11_law 4 = .ok (.iload_n 1, 1) := by decide +kernel
theorem dX11_law_5 : decode cX11_law 5 = .ok (.aload_n 0, 1) := by decide +kernel
theorem dX11_law_6 : decode cX11_law 6 = .ok (.getfield 52, 3) := by decide +kernel
theorem dX11_law_9 : decode cX11_law 9 = .ok (.arraylength, 1) := by decide +kernel
theorem dX11_law_10 : decode cX11_law 10 = .ok (.if_icmp .lt 10, 3) := by decide +kernel
theorem dX11_law_13 : decode cX11_law 13 = .ok (.aload_n 0, 1) := by decide +kernel
theorem dX11_law_14 : decode cX11_law 14 = .ok (.bipush (-2), 2) := by decide +kernel
theorem dX11_law_16 : decode cX11_law 16 = .ok (.invokevirtual 67, 3) := by decide +kernel
theorem dX11_law_19 : decode cX11_law 19 = .ok (.ireturn, 1) := by decide +kernel
theorem dX11_law_20 : decode cX11_law 20 = .ok (.aload_n 0, 1) := by decide +kernel
theorem dX11_law_21 : decode cX11_law 21 = .ok (.getfield 10, 3) := by decide +kernel
theorem dX11_law_24 : decode cX11_law 24 = .ok (.getfield 122, 3) := by decide +kernel
theorem dX11_law_27 : decode cX11_law 27 = .ok (.istore_n 2, 1) := by decide +kernel
theorem dX11_law_28 : decode cX11_law 28 = .ok (.aload_n 0, 1) := by decide +kernel
theorem dX11_law_29 : decode cX11_law 29 = .ok (.getfield 10, 3) := by decide +kernel
theorem dX11_law_32 : decode cX11_law 32 = .ok (.iload_n 1, 1) := by decide +kernel
theorem dX11_law_33 : decode cX11_law 33 = .ok (.putfield 122, 3) := by decide +kernel
theorem dX11_law_36 : decode cX11_law 36 = .ok (.iload_n 2, 1) := by decide +kernel
theorem dX11_law_37 : decode cX11_law 37 = .ok (.ireturn, 1) := by decide +kernel
theorem dX11_err_0 : decode cX11_err 0 = .ok (.iload_n 1, 1) := by decide +kernel
theorem dX11_err_1 : decode cX11_err 1 = .ok (.ifCond .ge 10, 3) := by decide +kernel
theorem dX11_err_4 : decode cX11_err 4 = .ok (.aload_n 0, 1) := by decide +kernel
theorem dX11_err_5 : decode cX11_err 5 = .ok (.bipush (-4), 2) := by decide +kernel
theorem dX11_err_7 : decode cX11_err 7 = .ok (.invokevirtual 67, 3) := by decide +kernel
theorem dX11_err_10 : decode cX11_err 10 = .ok (.ireturn, 1) := by decide +kernel
theorem dX11_err_11 : decode cX11_err 11 = .ok (.iload_n 1, 1) := by decide +kernel
theorem dX11_err_12 : decode cX11_err 12 = .ok (.bipush 50, 2) := by decide +kernel
theorem dX11_err_14 : decode cX11_err 14 = .ok (.if_icmp .le 10, 3) := by decide +kernel
theorem dX11_err_17 : decode cX11_err 17 = .ok (.aload_n 0, 1) := by decide +kernel
theorem dX11_err_18 : decode cX11_err 18 = .ok (.bipush (-6), 2) := by decide +kernel
theorem dX11_err_20 : decode cX11_err 20 = .ok (.invokevirtual 67, 3) := by decide +kernel
theorem dX11_err_23 : decode cX11_err 23 = .ok (.ireturn, 1) := by decide +kernel
theorem dX11_err_24 : decode cX11_err 24 = .ok (.aload_n 0, 1) := by decide +kernel
theorem dX11_err_25 : decode cX11_err 25 = .ok (.getfield 10, 3) := by decide +kernel
theorem dX11_err_28 : decode cX11_err 28 = .ok (.getfield 125, 3) := by decide +kernel
theorem dX11_err_31 : decode cX11_err 31 = .ok (.istore_n 2, 1) := by decide +kernel
theorem dX11_err_32 : decode cX11_err 32 = .ok (.aload_n 0, 1) := by decide +kernel
theorem dX11_err_33 : decode cX11_err 33 = .ok (.getfield 10, 3) := by decide +kernel
theorem dX11_err_36 : decode cX11_err 36 = .ok (.iload_n 1, 1) := by decide +kernel
theorem dX11_err_37 : decode cX11_err 37 = .ok (.putfield 125, 3) := by decide +kernel
theorem dX11_err_40 : decode cX11_err 40 = .ok (.iload_n 2, 1) := by decide +kernel
theorem dX11_err_41 : decode cX11_err 41 = .ok (.ireturn, 1) := by decide +kernel
theorem dX11_score_0 : decode cX11_score 0 = .ok (.aload_n 0, 1) := by decide +kernel
theorem dX11_score_1 : decode cX11_score 1 = .ok (.getfield 10, 3) := by decide +kernel
theorem dX11_score_4 : decode cX11_score 4 = .ok (.getfield 96, 3) := by decide +kernel
theorem dX11_score_7 : decode cX11_score 7 = .ok (.iload_n 1, 1) := by decide +kernel
theorem dX11_score_8 : decode cX11_score 8 = .ok (.invokevirtual 128, 3) := by decide +kernel
theorem dX11_score_11 : decode cX11_score 11 = .ok (.ifCond .eq 10, 3) := by decide +kernel
theorem dX11_score_14 : decode cX11_score 14 = .ok (.iload_n 2, 1) := by decide +kernel
theorem dX11_score_15 : decode cX11_score 15 = .ok (.invokestatic 131, 3) := by decide +kernel
theorem dX11_score_18 : decode cX11_score 18 = .ok (.ifCond .ne 9, 3) := by decide +kernel
theorem dX11_score_21 : decode cX11_score 21 = .ok (.aload_n 0, 1) := by decide +kernel
theorem dX11_score_22 : decode cX11_score 22 = .ok (.iconst (-1), 1) := by decide +kernel
theorem dX11_score_23 : decode cX11_score 23 = .ok (.invokevirtual 67, 3) := by decide +kernel
theorem dX11_score_26 : decode cX11_score 26 = .ok (.ireturn, 1) := by decide +kernel
theorem dX11_score_27 : decode cX11_score 27 = .ok (.aload_n 0, 1) := by decide +kernel
theorem dX11_score_28 : decode cX11_score 28 = .ok (.invokevirtual 134, 3) := by decide +kernel
theorem dX11_score_31 : decode cX11_score 31 = .ok (.aload_n 0, 1) := by decide +kernel
theorem dX11_score_32 : decode cX11_score 32 = .ok (.getfield 10, 3) := by decide +kernel
theorem dX11_score_35 : decode cX11_score 35 = .ok (.getfield 96, 3) := by decide +kernel
theorem dX11_score_38 : decode cX11_score 38 = .ok (.iload_n 1, 1) := by decide +kernel
theorem dX11_score_39 : decode cX11_score 39 = .ok (.iload_n 2, 1) := by decide +kernel
theorem dX11_score_40 : decode cX11_score 40 = .ok (.invokevirtual 138, 3) := by decide +kernel
theorem dX11_score_43 : decode cX11_score 43 = .ok (.ireturn, 1) := by decide +kernel
theorem dX11_goes_0 : decode cX11_goes 0 = .ok (.iload_n 1, 1) := by decide +kernel
theorem dX11_goes_1 : decode cX11_goes 1 = .ok (.invokestatic 131, 3) := by decide +kernel
theorem dX11_goes_4 : decode cX11_goes 4 = .ok (.ifCond .ne 9, 3) := by decide +kernel
theorem dX11_goes_7 : decode cX11_goes 7 = .ok (.aload_n 0, 1) := by decide +kernel
theorem dX11_goes_8 : decode cX11_goes 8 = .ok (.iconst (-1), 1) := by decide +kernel
theorem dX11_goes_9 : decode cX11_goes 9 = .ok (.invokevirtual 67, 3) := by decide +kernel
theorem dX11_goes_12 : decode cX11_goes 12 = .ok (.ireturn, 1) := by decide +kernel
theorem dX11_goes_13 : decode cX11_goes 13 = .ok (.aload_n 0, 1) := by decide +kernel
theorem dX11_goes_14 : decode cX11_goes 14 = .ok (.invokevirtual 134, 3) := by decide +kernel
theorem dX11_goes_17 : decode cX11_goes 17 = .ok (.aload_n 0, 1) := by decide +kernel
theorem dX11_goes_18 : decode cX11_goes 18 = .ok (.getfield 10, 3) := by decide +kernel
theorem dX11_goes_21 : decode cX11_goes 21 = .ok (.getfield 96, 3) := by decide +kernel
theorem dX11_goes_24 : decode cX11_goes 24 = .ok (.iload_n 1, 1) := by decide +kernel
theorem dX11_goes_25 : decode cX11_goes 25 = .ok (.invokevirtual 142, 3) := by decide +kernel
theorem dX11_goes_28 : decode cX11_goes 28 = .ok (.ireturn, 1) := by decide +kernel
theorem dX11_post_0 : decode cX11_post 0 = .ok (.iload_n 1, 1) := by decide +kernel
theorem dX11_post_1 : decode cX11_post 1 = .ok (.invokestatic 131, 3) := by decide +kernel
theorem dX11_post_4 : decode cX11_post 4 = .ok (.ifCond .ne 9, 3) := by decide +kernel
theorem dX11_post_7 : decode cX11_post 7 = .ok (.aload_n 0, 1) := by decide +kernel
theorem dX11_post_8 : decode cX11_post 8 = .ok (.iconst (-1), 1) := by decide +kernel
theorem dX11_post_9 : decode cX11_post 9 = .ok (.invokevirtual 67, 3) := by decide +kernel
theorem dX11_post_12 : decode cX11_post 12 = .ok (.ireturn, 1) := by decide +kernel
theorem dX11_post_13 : decode cX11_post 13 = .ok (.aload_n 0, 1) := by decide +kernel
theorem dX11_post_14 : decode cX11_post 14 = .ok (.getfield 10, 3) := by decide +kernel
theorem dX11_post_17 : decode cX11_post 17 = .ok (.dup, 1) := by decide +kernel
theorem dX11_post_18 : decode cX11_post 18 = .ok (.getfield 146, 3) := by decide +kernel
theorem dX11_post_21 : decode cX11_post 21 = .ok (.iconst 1, 1) := by decide +kernel
theorem dX11_post_22 : decode cX11_post 22 = .ok (.iadd, 1) := by decide +kernel
theorem dX11_post_23 : decode cX11_post 23 = .ok (.putfield 146, 3) := by decide +kernel
theorem dX11_post_26 : decode cX11_post 26 = .ok (.aload_n 0, 1) := by decide +kernel
theorem dX11_post_27 : decode cX11_post 27 = .ok (.invokevirtual 134, 3) := by decide +kernel
theorem dX11_post_30 : decode cX11_post 30 = .ok (.aload_n 0, 1) := by decide +kernel
theorem dX11_post_31 : decode cX11_post 31 = .ok (.getfield 10, 3) := by decide +kernel
theorem dX11_post_34 : decode cX11_post 34 = .ok (.getfield 96, 3) := by decide +kernel
theorem dX11_post_37 : decode cX11_post 37 = .ok (.iload_n 1, 1) := by decide +kernel
theorem dX11_post_38 : decode cX11_post 38 = .ok (.invokevirtual 149, 3) := by decide +kernel
theorem dX11_post_41 : decode cX11_post 41 = .ok (.ireturn, 1) := by decide +kernel
theorem dX11_day_0 : decode cX11_day 0 = .ok (.aload_n 0, 1) := by decide +kernel
theorem dX11_day_1 : decode cX11_day 1 = .ok (.getfield 10, 3) := by decide +kernel
theorem dX11_day_4 : decode cX11_day 4 = .ok (.getfield 96, 3) := by decide +kernel
theorem dX11_day_7 : decode cX11_day 7 = .ok (.invokevirtual 152, 3) := by decide +kernel
theorem dX11_day_10 : decode cX11_day 10 = .ok (.aload_n 0, 1) := by decide +kernel
theorem dX11_day_11 : decode cX11_day 11 = .ok (.getfield 10, 3) := by decide +kernel
theorem dX11_day_14 : decode cX11_day 14 = .ok (.dup, 1) := by decide +kernel
theorem dX11_day_15 : decode cX11_day 15 = .ok (.getfield 155, 3) := by decide +kernel
theorem dX11_day_18 : decode cX11_day 18 = .ok (.iconst 1, 1) := by decide +kernel
theorem dX11_day_19 : decode cX11_day 19 = .ok (.iadd, 1) := by decide +kernel
theorem dX11_day_20 : decode cX11_day 20 = .ok (.putfield 155, 3) := by decide +kernel
theorem dX11_day_23 : decode cX11_day 23 = .ok (.aload_n 0, 1) := by decide +kernel
theorem dX11_day_24 : decode cX11_day 24 = .ok (.getfield 10, 3) := by decide +kernel
theorem dX11_day_27 : decode cX11_day 27 = .ok (.getfield 96, 3) := by decide +kernel
theorem dX11_day_30 : decode cX11_day 30 = .ok (.invokevirtual 158, 3) := by decide +kernel
theorem dX11_day_33 : decode cX11_day 33 = .ok (.ireturn, 1) := by decide +kernel
theorem dX11_allNeed_0 : decode cX11_allNeed 0 = .ok (.aload_n 0, 1) := by decide +kernel
theorem dX11_allNeed_1 : decode cX11_allNeed 1 = .ok (.getfield 10, 3) := by decide +kernel
theorem dX11_allNeed_4 : decode cX11_allNeed 4 = .ok (.getfield 96, 3) := by decide +kernel
theorem dX11_allNeed_7 : decode cX11_allNeed 7 = .ok (.invokevirtual 158, 3) := by decide +kernel
theorem dX11_allNeed_10 : decode cX11_allNeed 10 = .ok (.ireturn, 1) := by decide +kernel
theorem dX11_can_0 : decode cX11_can 0 = .ok (.aload_n 0, 1) := by decide +kernel
theorem dX11_can_1 : decode cX11_can 1 = .ok (.getfield 10, 3) := by decide +kernel
theorem dX11_can_4 : decode cX11_can 4 = .ok (.getfield 96, 3) := by decide +kernel
theorem dX11_can_7 : decode cX11_can 7 = .ok (.iload_n 1, 1) := by decide +kernel
theorem dX11_can_8 : decode cX11_can 8 = .ok (.invokevirtual 128, 3) := by decide +kernel
theorem dX11_can_11 : decode cX11_can 11 = .ok (.ifCond .ne 9, 3) := by decide +kernel
theorem dX11_can_14 : decode cX11_can 14 = .ok (.aload_n 0, 1) := by decide +kernel
theorem dX11_can_15 : decode cX11_can 15 = .ok (.iconst (-1), 1) := by decide +kernel
theorem dX11_can_16 : decode cX11_can 16 = .ok (.invokevirtual 67, 3) := by decide +kernel
theorem dX11_can_19 : decode cX11_can 19 = .ok (.ireturn, 1) := by decide +kernel
theorem dX11_can_20 : decode cX11_can 20 = .ok (.aload_n 0, 1) := by decide +kernel
theorem dX11_can_21 : decode cX11_can 21 = .ok (.getfield 29, 3) := by decide +kernel
theorem dX11_can_24 : decode cX11_can 24 = .ok (.aload_n 0, 1) := by decide +kernel
theorem dX11_can_25 : decode cX11_can 25 = .ok (.getfield 10, 3) := by decide +kernel
theorem dX11_can_28 : decode cX11_can 28 = .ok (.getfield 96, 3) := by decide +kernel
theorem dX11_can_31 : decode cX11_can 31 = .ok (.aload_n 0, 1) := by decide +kernel
theorem dX11_can_32 : decode cX11_can 32 = .ok (.invokevirtual 134, 3) := by decide +kernel
theorem dX11_can_35 : decode cX11_can 35 = .ok (.iload_n 1, 1) := by decide +kernel
theorem dX11_can_36 : decode cX11_can 36 = .ok (.bipush (-9), 2) := by decide +kernel
theorem dX11_can_38 : decode cX11_can 38 = .ok (.invokevirtual 162, 3) := by decide +kernel
theorem dX11_can_41 : decode cX11_can 41 = .ok (.ireturn, 1) := by decide +kernel
theorem dX11_who_0 : decode cX11_who 0 = .ok (.aload_n 0, 1) := by decide +kernel
theorem dX11_who_1 : decode cX11_who 1 = .ok (.getfield 29, 3) := by decide +kernel
theorem dX11_who_4 : decode cX11_who 4 = .ok (.aload_n 0, 1) := by decide +kernel
theorem dX11_who_5 : decode cX11_who 5 = .ok (.getfield 10, 3) := by decide +kernel
theorem dX11_who_8 : decode cX11_who 8 = .ok (.getfield 96, 3) := by decide +kernel
theorem dX11_who_11 : decode cX11_who 11 = .ok (.aload_n 0, 1) := by decide +kernel
theorem dX11_who_12 : decode cX11_who 12 = .ok (.invokevirtual 134, 3) := by decide +kernel
theorem dX11_who_15 : decode cX11_who 15 = .ok (.invokevirtual 166, 3) := by decide +kernel
theorem dX11_who_18 : decode cX11_who 18 = .ok (.ireturn, 1) := by decide +kernel
theorem dX11_never_0 : decode cX11_never 0 = .ok (.aload_n 0, 1) := by decide +kernel
theorem dX11_never_1 : decode cX11_never 1 = .ok (.getfield 10, 3) := by decide +kernel
theorem dX11_never_4 : decode cX11_never 4 = .ok (.getfield 96, 3) := by decide +kernel
theorem dX11_never_7 : decode cX11_never 7 = .ok (.iload_n 1, 1) := by decide +kernel
theorem dX11_never_8 : decode cX11_never 8 = .ok (.invokevirtual 128, 3) := by decide +kernel
theorem dX11_never_11 : decode cX11_never 11 = .ok (.ifCond .ne 9, 3) := by decide +kernel
theorem dX11_never_14 : decode cX11_never 14 = .ok (.aload_n 0, 1) := by decide +kernel
theorem dX11_never_15 : decode cX11_never 15 = .ok (.iconst (-1), 1) := by decide +kernel
theorem dX11_never_16 : decode cX11_never 16 = .ok (.invokevirtual 67, 3) := by decide +kernel
theorem dX11_never_19 : decode cX11_never 19 = .ok (.ireturn, 1) := by decide +kernel
theorem dX11_never_20 : decode cX11_never 20 = .ok (.aload_n 0, 1) := by decide +kernel
theorem dX11_never_21 : decode cX11_never 21 = .ok (.getfield 29, 3) := by decide +kernel
theorem dX11_never_24 : decode cX11_never 24 = .ok (.aload_n 0, 1) := by decide +kernel
theorem dX11_never_25 : decode cX11_never 25 = .ok (.getfield 10, 3) := by decide +kernel
theorem dX11_never_28 : decode cX11_never 28 = .ok (.getfield 96, 3) := by decide +kernel
theorem dX11_never_31 : decode cX11_never 31 = .ok (.aload_n 0, 1) := by decide +kernel
theorem dX11_never_32 : decode cX11_never 32 = .ok (.invokevirtual 134, 3) := by decide +kernel
theorem dX11_never_35 : decode cX11_never 35 = .ok (.iload_n 1, 1) := by decide +kernel
theorem dX11_never_36 : decode cX11_never 36 = .ok (.invokevirtual 170, 3) := by decide +kernel
theorem dX11_never_39 : decode cX11_never 39 = .ok (.istore_n 2, 1) := by decide +kernel
theorem dX11_never_40 : decode cX11_never 40 = .ok (.iload_n 2, 1) := by decide +kernel
theorem dX11_never_41 : decode cX11_never 41 = .ok (.ifCond .eq 7, 3) := by decide +kernel
theorem dX11_never_44 : decode cX11_never 44 = .ok (.iconst 0, 1) := by decide +kernel
theorem dX11_never_45 : decode cX11_never 45 = .ok (.goto 21, 3) := by decide +kernel
theorem dX11_never_48 : decode cX11_never 48 = .ok (.aload_n 0, 1) := by decide +kernel
theorem dX11_never_49 : decode cX11_never 49 = .ok (.getfield 29, 3) := by decide +kernel
theorem dX11_never_52 : decode cX11_never 52 = .ok (.aload_n 0, 1) := by decide +kernel
theorem dX11_never_53 : decode cX11_never 53 = .ok (.getfield 10, 3) := by decide +kernel
theorem dX11_never_56 : decode cX11_never 56 = .ok (.getfield 96, 3) := by decide +kernel
theorem dX11_never_59 : decode cX11_never 59 = .ok (.aload_n 0, 1) := by decide +kernel
theorem dX11_never_60 : decode cX11_never 60 = .ok (.invokevirtual 134, 3) := by decide +kernel
theorem dX11_never_63 : decode cX11_never 63 = .ok (.invokevirtual 166, 3) := by decide +kernel
theorem dX11_never_66 : decode cX11_never 66 = .ok (.ireturn, 1) := by decide +kernel
theorem dX11_before_0 : decode cX11_before 0 = .ok (.aload_n 0, 1) := by decide +kernel
theorem dX11_before_1 : decode cX11_before 1 = .ok (.getfield 10, 3) := by decide +kernel
theorem dX11_before_4 : decode cX11_before 4 = .ok (.getfield 96, 3) := by decide +kernel
theorem dX11_before_7 : decode cX11_before 7 = .ok (.iload_n 1, 1) := by decide +kernel
theorem dX11_before_8 : decode cX11_before 8 = .ok (.invokevirtual 128, 3) := by decide +kernel
theorem dX11_before_11 : decode cX11_before 11 = .ok (.ifCond .ne 9, 3) := by decide +kernel
theorem dX11_before_14 : decode cX11_before 14 = .ok (.aload_n 0, 1) := by decide +kernel
theorem dX11_before_15 : decode cX11_before 15 = .ok (.iconst (-1), 1) := by decide +kernel
theorem dX11_before_16 : decode cX11_before 16 = .ok (.invokevirtual 67, 3) := by decide +kernel
theorem dX11_before_19 : decode cX11_before 19 = .ok (.ireturn, 1) := by decide +kernel
theorem dX11_before_20 : decode cX11_before 20 = .ok (.iload_n 2, 1) := by decide +kernel
theorem dX11_before_21 : decode cX11_before 21 = .ok (.ifCond .eq 15, 3) := by decide +kernel
theorem dX11_before_24 : decode cX11_before 24 = .ok (.iload_n 2, 1) := by decide +kernel
theorem dX11_before_25 : decode cX11_before 25 = .ok (.iconst 1, 1) := by decide +kernel
theorem dX11_before_26 : decode cX11_before 26 = .ok (.if_icmp .eq 10, 3) := by decide +kernel
theorem dX11_before_29 : decode cX11_before 29 = .ok (.aload_n 0, 1) := by decide +kernel
theorem dX11_before_30 : decode cX11_before 30 = .ok (.bipush (-2), 2) := by decide +kernel
theorem dX11_before_32 : decode cX11_before 32 = .ok (.invokevirtual 67, 3) := by decide +kernel
theorem dX11_before_35 : decode cX11_before 35 = .ok (.ireturn, 1) := by decide +kernel
theorem dX11_before_36 : decode cX11_before 36 = .ok (.aload_n 0, 1) := by decide +kernel
theorem dX11_before_37 : decode cX11_before 37 = .ok (.getfield 29, 3) := by decide +kernel
theorem dX11_before_40 : decode cX11_before 40 = .ok (.aload_n 0, 1) := by decide +kernel
theorem dX11_before_41 : decode cX11_before 41 = .ok (.getfield 10, 3) := by decide +kernel
theorem dX11_before_44 : decode cX11_before 44 = .ok (.getfield 96, 3) := by decide +kernel
theorem dX11_before_47 : decode cX11_before 47 = .ok (.aload_n 0, 1) := by decide +kernel
theorem dX11_before_48 : decode cX11_before 48 = .ok (.invokevirtual 134, 3) := by decide +kernel
theorem dX11_before_51 : decode cX11_before 51 = .ok (.iload_n 1, 1) := by decide +kernel
theorem dX11_before_52 : decode cX11_before 52 = .ok (.invokevirtual 170, 3) := by decide +kernel
theorem dX11_before_55 : decode cX11_before 55 = .ok (.ifCond .eq 5, 3) := by decide +kernel
theorem dX11_before_58 : decode cX11_before 58 = .ok (.iconst 0, 1) := by decide +kernel
theorem dX11_before_59 : decode cX11_before 59 = .ok (.ireturn, 1) := by decide +kernel
theorem dX11_before_60 : decode cX11_before 60 = .ok (.aload_n 0, 1) := by decide +kernel
theorem dX11_before_61 : decode cX11_before 61 = .ok (.getfield 29, 3) := by decide +kernel
theorem dX11_before_64 : decode cX11_before 64 = .ok (.aload_n 0, 1) := by decide +kernel
theorem dX11_before_65 : decode cX11_before 65 = .ok (.getfield 10, 3) := by decide +kernel
theorem dX11_before_68 : decode cX11_before 68 = .ok (.getfield 96, 3) := by decide +kernel
theorem dX11_before_71 : decode cX11_before 71 = .ok (.aload_n 0, 1) := by decide +kernel
theorem dX11_before_72 : decode cX11_before 72 = .ok (.invokevirtual 134, 3) := by decide +kernel
theorem dX11_before_75 : decode cX11_before 75 = .ok (.iload_n 1, 1) := by decide +kernel
theorem dX11_before_76 : decode cX11_before 76 = .ok (.invokevirtual 174, 3) := by decide +kernel
theorem dX11_before_79 : decode cX11_before 79 = .ok (.istore_n 3, 1) := by decide +kernel
theorem dX11_before_80 : decode cX11_before 80 = .ok (.iload_n 3, 1) := by decide +kernel
theorem dX11_before_81 : decode cX11_before 81 = .ok (.bipush 100, 2) := by decide +kernel
theorem dX11_before_83 : decode cX11_before 83 = .ok (.if_icmp .ge 13, 3) := by decide +kernel
theorem dX11_before_86 : decode cX11_before 86 = .ok (.iload_n 2, 1) := by decide +kernel
theorem dX11_before_87 : decode cX11_before 87 = .ok (.ifCond .ne 7, 3) := by decide +kernel
theorem dX11_before_90 : decode cX11_before 90 = .ok (.iconst 1, 1) := by decide +kernel
theorem dX11_before_91 : decode cX11_before 91 = .ok (.goto 4, 3) := by decide +kernel
theorem dX11_before_94 : decode cX11_before 94 = .ok (.iload_n 3, 1) := by decide +kernel
theorem dX11_before_95 : decode cX11_before 95 = .ok (.ireturn, 1) := by decide +kernel
theorem dX11_before_96 : decode cX11_before 96 = .ok (.aload_n 0, 1) := by decide +kernel
theorem dX11_before_97 : decode cX11_before 97 = .ok (.getfield 29, 3) := by decide +kernel
theorem dX11_before_100 : decode cX11_before 100 = .ok (.aload_n 0, 1) := by decide +kernel
theorem dX11_before_101 : decode cX11_before 101 = .ok (.getfield 10, 3) := by decide +kernel
theorem dX11_before_104 : decode cX11_before 104 = .ok (.getfield 96, 3) := by decide +kernel
theorem dX11_before_107 : decode cX11_before 107 = .ok (.aload_n 0, 1) := by decide +kernel
theorem dX11_before_108 : decode cX11_before 108 = .ok (.invokevirtual 134, 3) := by decide +kernel
theorem dX11_before_111 : decode cX11_before 111 = .ok (.iload_n 1, 1) := by decide +kernel
theorem dX11_before_112 : decode cX11_before 112 = .ok (.invokevirtual 178, 3) := by decide +kernel
theorem dX11_before_115 : decode cX11_before 115 = .ok (.istore_n 3, 1) := by decide +kernel
theorem dX11_before_116 : decode cX11_before 116 = .ok (.iload_n 3, 1) := by decide +kernel
theorem dX11_before_117 : decode cX11_before 117 = .ok (.bipush 100, 2) := by decide +kernel
theorem dX11_before_119 : decode cX11_before 119 = .ok (.if_icmp .ge 13, 3) := by decide +kernel
theorem dX11_before_122 : decode cX11_before 122 = .ok (.iload_n 2, 1) := by decide +kernel
theorem dX11_before_123 : decode cX11_before 123 = .ok (.ifCond .ne 7, 3) := by decide +kernel
theorem dX11_before_126 : decode cX11_before 126 = .ok (.iconst 2, 1) := by decide +kernel
theorem dX11_before_127 : decode cX11_before 127 = .ok (.goto 4, 3) := by decide +kernel
theorem dX11_before_130 : decode cX11_before 130 = .ok (.iload_n 3, 1) := by decide +kernel
theorem dX11_before_131 : decode cX11_before 131 = .ok (.ireturn, 1) := by decide +kernel
theorem dX11_before_132 : decode cX11_before 132 = .ok (.bipush (-9), 2) := by decide +kernel
theorem dX11_before_134 : decode cX11_before 134 = .ok (.ireturn, 1) := by decide +kernel
theorem dX11_order_0 : decode cX11_order 0 = .ok (.iload_n 1, 1) := by decide +kernel
theorem dX11_order_1 : decode cX11_order 1 = .ok (.invokestatic 131, 3) := by decide +kernel
theorem dX11_order_4 : decode cX11_order 4 = .ok (.ifCond .ne 9, 3) := by decide +kernel
theorem dX11_order_7 : decode cX11_order 7 = .ok (.aload_n 0, 1) := by decide +kernel
theorem dX11_order_8 : decode cX11_order 8 = .ok (.iconst (-1), 1) := by decide +kernel
theorem dX11_order_9 : decode cX11_order 9 = .ok (.invokevirtual 67, 3) := by decide +kernel
theorem dX11_order_12 : decode cX11_order 12 = .ok (.ireturn, 1) := by decide +kernel
theorem dX11_order_13 : decode cX11_order 13 = .ok (.aload_n 0, 1) := by decide +kernel
theorem dX11_order_14 : decode cX11_order 14 = .ok (.getfield 10, 3) := by decide +kernel
theorem dX11_order_17 : decode cX11_order 17 = .ok (.getfield 181, 3) := by decide +kernel
theorem dX11_order_20 : decode cX11_order 20 = .ok (.invokevirtual 74, 3) := by decide +kernel
theorem dX11_order_23 : decode cX11_order 23 = .ok (.ifCond .eq 10, 3) := by decide +kernel
theorem dX11_order_26 : decode cX11_order 26 = .ok (.aload_n 0, 1) := by decide +kernel
theorem dX11_order_27 : decode cX11_order 27 = .ok (.bipush (-6), 2) := by decide +kernel
theorem dX11_order_29 : decode cX11_order 29 = .ok (.invokevirtual 67, 3) := by decide +kernel
theorem dX11_order_32 : decode cX11_order 32 = .ok (.ireturn, 1) := by decide +kernel
theorem dX11_order_33 : decode cX11_order 33 = .ok (.aload_n 0, 1) := by decide +kernel
theorem dX11_order_34 : decode cX11_order 34 = .ok (.getfield 10, 3) := by decide +kernel
theorem dX11_order_37 : decode cX11_order 37 = .ok (.getfield 181, 3) := by decide +kernel
theorem dX11_order_40 : decode cX11_order 40 = .ok (.iload_n 1, 1) := by decide +kernel
theorem dX11_order_41 : decode cX11_order 41 = .ok (.invokevirtual 78, 3) := by decide +kernel
theorem dX11_order_44 : decode cX11_order 44 = .ok (.aload_n 0, 1) := by decide +kernel
theorem dX11_order_45 : decode cX11_order 45 = .ok (.getfield 10, 3) := by decide +kernel
theorem dX11_order_48 : decode cX11_order 48 = .ok (.getfield 181, 3) := by decide +kernel
theorem dX11_order_51 : decode cX11_order 51 = .ok (.getfield 81, 3) := by decide +kernel
theorem dX11_order_54 : decode cX11_order 54 = .ok (.ireturn, 1) := by decide +kernel
theorem dX11_forget_0 : decode cX11_forget 0 = .ok (.aload_n 0, 1) := by decide +kernel
theorem dX11_forget_1 : decode cX11_forget 1 = .ok (.getfield 10, 3) := by decide +kernel
theorem dX11_forget_4 : decode cX11_forget 4 = .ok (.getfield 181, 3) := by decide +kernel
theorem dX11_forget_7 : decode cX11_forget 7 = .ok (.getfield 81, 3) := by decide +kernel
theorem dX11_forget_10 : decode cX11_forget 10 = .ok (.istore_n 1, 1) := by decide +kernel
theorem dX11_forget_11 : decode cX11_forget 11 = .ok (.aload_n 0, 1) := by decide +kernel
theorem dX11_forget_12 : decode cX11_forget 12 = .ok (.getfield 10, 3) := by decide +kernel
theorem dX11_forget_15 : decode cX11_forget 15 = .ok (.getfield 181, 3) := by decide +kernel
theorem dX11_forget_18 : decode cX11_forget 18 = .ok (.invokevirtual 89, 3) := by decide +kernel
theorem dX11_forget_21 : decode cX11_forget 21 = .ok (.iload_n 1, 1) := by decide +kernel
theorem dX11_forget_22 : decode cX11_forget 22 = .ok (.ireturn, 1) := by decide +kernel
theorem dX11_met_0 : decode cX11_met 0 = .ok (.iload_n 1, 1) := by decide +kernel
theorem dX11_met_1 : decode cX11_met 1 = .ok (.ifCond .ge 10, 3) := by decide +kernel
theorem dX11_met_4 : decode cX11_met 4 = .ok (.aload_n 0, 1) := by decide +kernel
theorem dX11_met_5 : decode cX11_met 5 = .ok (.bipush (-4), 2) := by decide +kernel
theorem dX11_met_7 : decode cX11_met 7 = .ok (.invokevirtual 67, 3) := by decide +kernel
theorem dX11_met_10 : decode cX11_met 10 = .ok (.ireturn, 1) := by decide +kernel
theorem dX11_met_11 : decode cX11_met 11 = .ok (.iload_n 1, 1) := by decide +kernel
theorem dX11_met_12 : decode cX11_met 12 = .ok (.iconst 5, 1) := by decide +kernel
theorem dX11_met_13 : decode cX11_met 13 = .ok (.if_icmp .le 10, 3) := by decide +kernel
theorem dX11_met_16 : decode cX11_met 16 = .ok (.aload_n 0, 1) := by decide +kernel
theorem dX11_met_17 : decode cX11_met 17 = .ok (.bipush (-6), 2) := by decide +kernel
theorem dX11_met_19 : decode cX11_met 19 = .ok (.invokevirtual 67, 3) := by decide +kernel
theorem dX11_met_22 : decode cX11_met 22 = .ok (.ireturn, 1) := by decide +kernel
theorem dX11_met_23 : decode cX11_met 23 = .ok (.aload_n 0, 1) := by decide +kernel
theorem dX11_met_24 : decode cX11_met 24 = .ok (.getfield 29, 3) := by decide +kernel
theorem dX11_met_27 : decode cX11_met 27 = .ok (.iload_n 1, 1) := by decide +kernel
theorem dX11_met_28 : decode cX11_met 28 = .ok (.iload_n 2, 1) := by decide +kernel
theorem dX11_met_29 : decode cX11_met 29 = .ok (.aload_n 0, 1) := by decide +kernel
theorem dX11_met_30 : decode cX11_met 30 = .ok (.getfield 10, 3) := by decide +kernel
theorem dX11_met_33 : decode cX11_met 33 = .ok (.getfield 181, 3) := by decide +kernel
theorem dX11_met_36 : decode cX11_met 36 = .ok (.getfield 81, 3) := by decide +kernel
theorem dX11_met_39 : decode cX11_met 39 = .ok (.invokevirtual 184, 3) := by decide +kernel
theorem dX11_met_42 : decode cX11_met 42 = .ok (.ifCond .ne 9, 3) := by decide +kernel
theorem dX11_met_45 : decode cX11_met 45 = .ok (.aload_n 0, 1) := by decide +kernel
theorem dX11_met_46 : decode cX11_met 46 = .ok (.iconst (-1), 1) := by decide +kernel
theorem dX11_met_47 : decode cX11_met 47 = .ok (.invokevirtual 67, 3) := by decide +kernel
theorem dX11_met_50 : decode cX11_met 50 = .ok (.ireturn, 1) := by decide +kernel
theorem dX11_met_51 : decode cX11_met 51 = .ok (.aload_n 0, 1) := by decide +kernel
theorem dX11_met_52 : decode cX11_met 52 = .ok (.getfield 29, 3) := by decide +kernel
theorem dX11_met_55 : decode cX11_met 55 = .ok (.aload_n 0, 1) := by decide +kernel
theorem dX11_met_56 : decode cX11_met 56 = .ok (.getfield 10, 3) := by decide +kernel
theorem dX11_met_59 : decode cX11_met 59 = .ok (.getfield 96, 3) := by decide +kernel
theorem dX11_met_62 : decode cX11_met 62 = .ok (.aload_n 0, 1) := by decide +kernel
theorem dX11_met_63 : decode cX11_met 63 = .ok (.invokevirtual 134, 3) := by decide +kernel
theorem dX11_met_66 : decode cX11_met 66 = .ok (.aload_n 0, 1) := by decide +kernel
theorem dX11_met_67 : decode cX11_met 67 = .ok (.getfield 10, 3) := by decide +kernel
theorem dX11_met_70 : decode cX11_met 70 = .ok (.getfield 181, 3) := by decide +kernel
theorem dX11_met_73 : decode cX11_met 73 = .ok (.invokevirtual 188, 3) := by decide +kernel
theorem dX11_met_76 : decode cX11_met 76 = .ok (.ireturn, 1) := by decide +kernel
theorem dX11_best_0 : decode cX11_best 0 = .ok (.iload_n 1, 1) := by decide +kernel
theorem dX11_best_1 : decode cX11_best 1 = .ok (.iconst (-1), 1) := by decide +kernel
theorem dX11_best_2 : decode cX11_best 2 = .ok (.if_icmp .ge 10, 3) := by decide +kernel
theorem dX11_best_5 : decode cX11_best 5 = .ok (.aload_n 0, 1) := by decide +kernel
theorem dX11_best_6 : decode cX11_best 6 = .ok (.bipush (-4), 2) := by decide +kernel
theorem dX11_best_8 : decode cX11_best 8 = .ok (.invokevirtual 67, 3) := by decide +kernel
theorem dX11_best_11 : decode cX11_best 11 = .ok (.ireturn, 1) := by decide +kernel
theorem dX11_best_12 : decode cX11_best 12 = .ok (.aload_n 0, 1) := by decide +kernel
theorem dX11_best_13 : decode cX11_best 13 = .ok (.getfield 29, 3) := by decide +kernel
theorem dX11_best_16 : decode cX11_best 16 = .ok (.aload_n 0, 1) := by decide +kernel
theorem dX11_best_17 : decode cX11_best 17 = .ok (.getfield 10, 3) := by decide +kernel
theorem dX11_best_20 : decode cX11_best 20 = .ok (.getfield 96, 3) := by decide +kernel
theorem dX11_best_23 : decode cX11_best 23 = .ok (.aload_n 0, 1) := by decide +kernel
theorem dX11_best_24 : decode cX11_best 24 = .ok (.invokevirtual 134, 3) := by decide +kernel
theorem dX11_best_27 : decode cX11_best 27 = .ok (.aload_n 0, 1) := by decide +kernel
theorem dX11_best_28 : decode cX11_best 28 = .ok (.getfield 10, 3) := by decide +kernel
theorem dX11_best_31 : decode cX11_best 31 = .ok (.getfield 181, 3) := by decide +kernel
theorem dX11_best_34 : decode cX11_best 34 = .ok (.invokevirtual 192, 3) := by decide +kernel
theorem dX11_best_37 : decode cX11_best 37 = .ok (.istore_n 2, 1) := by decide +kernel
theorem dX11_best_38 : decode cX11_best 38 = .ok (.iload_n 1, 1) := by decide +kernel
theorem dX11_best_39 : decode cX11_best 39 = .ok (.iconst (-1), 1) := by decide +kernel
theorem dX11_best_40 : decode cX11_best 40 = .ok (.if_icmp .ne 5, 3) := by decide +kernel
theorem dX11_best_43 : decode cX11_best 43 = .ok (.iload_n 2, 1) := by decide +kernel
theorem dX11_best_44 : decode cX11_best 44 = .ok (.ireturn, 1) := by decide +kernel
theorem dX11_best_45 : decode cX11_best 45 = .ok (.iload_n 1, 1) := by decide +kernel
theorem dX11_best_46 : decode cX11_best 46 = .ok (.aload_n 0, 1) := by decide +kernel
theorem dX11_best_47 : decode cX11_best 47 = .ok (.getfield 10, 3) := by decide +kernel
theorem dX11_best_50 : decode cX11_best 50 = .ok (.getfield 181, 3) := by decide +kernel
theorem dX11_best_53 : decode cX11_best 53 = .ok (.getfield 81, 3) := by decide +kernel
theorem dX11_best_56 : decode cX11_best 56 = .ok (.if_icmp .ge 17, 3) := by decide +kernel
theorem dX11_best_59 : decode cX11_best 59 = .ok (.aload_n 0, 1) := by decide +kernel
theorem dX11_best_60 : decode cX11_best 60 = .ok (.getfield 29, 3) := by decide +kernel
theorem dX11_best_63 : decode cX11_best 63 = .ok (.getfield 195, 3) := by decide +kernel
theorem dX11_best_66 : decode cX11_best 66 = .ok (.iload_n 1, 1) := by decide +kernel
theorem dX11_best_67 : decode cX11_best 67 = .ok (.invokevirtual 113, 3) := by decide +kernel
theorem dX11_best_70 : decode cX11_best 70 = .ok (.goto 5, 3) := by decide +kernel
theorem dX11_best_73 : decode cX11_best 73 = .ok (.bipush (-9), 2) := by decide +kernel
theorem dX11_best_75 : decode cX11_best 75 = .ok (.ireturn, 1) := by decide +kernel
theorem dX11_greedy_0 : decode cX11_greedy 0 = .ok (.aload_n 0, 1) := by decide +kernel
theorem dX11_greedy_1 : decode cX11_greedy 1 = .ok (.getfield 29, 3) := by decide +kernel
theorem dX11_greedy_4 : decode cX11_greedy 4 = .ok (.aload_n 0, 1) := by decide +kernel
theorem dX11_greedy_5 : decode cX11_greedy 5 = .ok (.getfield 10, 3) := by decide +kernel
theorem dX11_greedy_8 : decode cX11_greedy 8 = .ok (.getfield 96, 3) := by decide +kernel
theorem dX11_greedy_11 : decode cX11_greedy 11 = .ok (.aload_n 0, 1) := by decide +kernel
theorem dX11_greedy_12 : decode cX11_greedy 12 = .ok (.invokevirtual 134, 3) := by decide +kernel
theorem dX11_greedy_15 : decode cX11_greedy 15 = .ok (.aload_n 0, 1) := by decide +kernel
theorem dX11_greedy_16 : decode cX11_greedy 16 = .ok (.getfield 10, 3) := by decide +kernel
theorem dX11_greedy_19 : decode cX11_greedy 19 = .ok (.getfield 181, 3) := by decide +kernel
theorem dX11_greedy_22 : decode cX11_greedy 22 = .ok (.invokevirtual 198, 3) := by decide +kernel
theorem dX11_greedy_25 : decode cX11_greedy 25 = .ok (.ireturn, 1) := by decide +kernel
theorem dX11_forty_0 : decode cX11_forty 0 = .ok (.iload_n 1, 1) := by decide +kernel
theorem dX11_forty_1 : decode cX11_forty 1 = .ok (.invokestatic 131, 3) := by decide +kernel
theorem dX11_forty_4 : decode cX11_forty 4 = .ok (.ifCond .ne 9, 3) := by decide +kernel
theorem dX11_forty_7 : decode cX11_forty 7 = .ok (.aload_n 0, 1) := by decide +kernel
theorem dX11_forty_8 : decode cX11_forty 8 = .ok (.iconst (-1), 1) := by decide +kernel
theorem dX11_forty_9 : decode cX11_forty 9 = .ok (.invokevirtual 67, 3) := by decide +kernel
theorem dX11_forty_12 : decode cX11_forty 12 = .ok (.ireturn, 1) := by decide +kernel
theorem dX11_forty_13 : decode cX11_forty 13 = .ok (.iload_n 2, 1) := by decide +kernel
theorem dX11_forty_14 : decode cX11_forty 14 = .ok (.ifCond .ge 10, 3) := by decide +kernel
theorem dX11_forty_17 : decode cX11_forty 17 = .ok (.aload_n 0, 1) := by decide +kernel
theorem dX11_forty_18 : decode cX11_forty 18 = .ok (.bipush (-4), 2) := by decide +kernel
theorem dX11_forty_20 : decode cX11_forty 20 = .ok (.invokevirtual 67, 3) := by decide +kernel
theorem dX11_forty_23 : decode cX11_forty 23 = .ok (.ireturn, 1) := by decide +kernel
theorem dX11_forty_24 : decode cX11_forty 24 = .ok (.iload_n 2, 1) := by decide +kernel
theorem dX11_forty_25 : decode cX11_forty 25 = .ok (.aload_n 0, 1) := by decide +kernel
theorem dX11_forty_26 : decode cX11_forty 26 = .ok (.getfield 10, 3) := by decide +kernel
theorem dX11_forty_29 : decode cX11_forty 29 = .ok (.getfield 96, 3) := by decide +kernel
theorem dX11_forty_32 : decode cX11_forty 32 = .ok (.getfield 201, 3) := by decide +kernel
theorem dX11_forty_35 : decode cX11_forty 35 = .ok (.if_icmp .le 10, 3) := by decide +kernel
theorem dX11_forty_38 : decode cX11_forty 38 = .ok (.aload_n 0, 1) := by decide +kernel
theorem dX11_forty_39 : decode cX11_forty 39 = .ok (.bipush (-6), 2) := by decide +kernel
theorem dX11_forty_41 : decode cX11_forty 41 = .ok (.invokevirtual 67, 3) := by decide +kernel
theorem dX11_forty_44 : decode cX11_forty 44 = .ok (.ireturn, 1) := by decide +kernel
theorem dX11_forty_45 : decode cX11_forty 45 = .ok (.aload_n 0, 1) := by decide +kernel
theorem dX11_forty_46 : decode cX11_forty 46 = .ok (.getfield 29, 3) := by decide +kernel
theorem dX11_forty_49 : decode cX11_forty 49 = .ok (.aload_n 0, 1) := by decide +kernel
theorem dX11_forty_50 : decode cX11_forty 50 = .ok (.getfield 10, 3) := by decide +kernel
theorem dX11_forty_53 : decode cX11_forty 53 = .ok (.getfield 96, 3) := by decide +kernel
theorem dX11_forty_56 : decode cX11_forty 56 = .ok (.aload_n 0, 1) := by decide +kernel
theorem dX11_forty_57 : decode cX11_forty 57 = .ok (.invokevirtual 134, 3) := by decide +kernel
theorem dX11_forty_60 : decode cX11_forty 60 = .ok (.iload_n 1, 1) := by decide +kernel
theorem dX11_forty_61 : decode cX11_forty 61 = .ok (.iload_n 2, 1) := by decide +kernel
theorem dX11_forty_62 : decode cX11_forty 62 = .ok (.invokevirtual 202, 3) := by decide +kernel
theorem dX11_forty_65 : decode cX11_forty 65 = .ok (.ireturn, 1) := by decide +kernel
theorem dX11_going_0 : decode cX11_going 0 = .ok (.iload_n 2, 1) := by decide +kernel
theorem dX11_going_1 : decode cX11_going 1 = .ok (.iconst (-1), 1) := by decide +kernel
theorem dX11_going_2 : decode cX11_going 2 = .ok (.if_icmp .ne 7, 3) := by decide +kernel
theorem dX11_going_5 : decode cX11_going 5 = .ok (.iconst 1, 1) := by decide +kernel
theorem dX11_going_6 : decode cX11_going 6 = .ok (.goto 4, 3) := by decide +kernel
theorem dX11_going_9 : decode cX11_going 9 = .ok (.iconst 0, 1) := by decide +kernel
theorem dX11_going_10 : decode cX11_going 10 = .ok (.istore_n 3, 1) := by decide +kernel
theorem dX11_going_11 : decode cX11_going 11 = .ok (.iload_n 1, 1) := by decide +kernel
theorem dX11_going_12 : decode cX11_going 12 = .ok (.invokestatic 131, 3) := by decide +kernel
theorem dX11_going_15 : decode cX11_going 15 = .ok (.ifCond .eq 21, 3) := by decide +kernel
theorem dX11_going_18 : decode cX11_going 18 = .ok (.iload_n 3, 1) := by decide +kernel
theorem dX11_going_19 : decode cX11_going 19 = .ok (.ifCond .ne 23, 3) := by decide +kernel
theorem dX11_going_22 : decode cX11_going 22 = .ok (.aload_n 0, 1) := by decide +kernel
theorem dX11_going_23 : decode cX11_going 23 = .ok (.getfield 10, 3) := by decide +kernel
theorem dX11_going_26 : decode cX11_going 26 = .ok (.getfield 96, 3) := by decide +kernel
theorem dX11_going_29 : decode cX11_going 29 = .ok (.iload_n 2, 1) := by decide +kernel
theorem dX11_going_30 : decode cX11_going 30 = .ok (.invokevirtual 128, 3) := by decide +kernel
theorem dX11_going_33 : decode cX11_going 33 = .ok (.ifCond .ne 9, 3) := by decide +kernel
theorem dX11_going_36 : decode cX11_going 36 = .ok (.aload_n 0, 1) := by decide +kernel
theorem dX11_going_37 : decode cX11_going 37 = .ok (.iconst (-1), 1) := by decide +kernel
theorem dX11_going_38 : decode cX11_going 38 = .ok (.invokevirtual 67, 3) := by decide +kernel
theorem dX11_going_41 : decode cX11_going 41 = .ok (.ireturn, 1) := by decide +kernel
theorem dX11_going_42 : decode cX11_going 42 = .ok (.aload_n 0, 1) := by decide +kernel
theorem dX11_going_43 : decode cX11_going 43 = .ok (.getfield 10, 3) := by decide +kernel
theorem dX11_going_46 : decode cX11_going 46 = .ok (.getfield 205, 3) := by decide +kernel
theorem dX11_going_49 : decode cX11_going 49 = .ok (.invokevirtual 74, 3) := by decide +kernel
theorem dX11_going_52 : decode cX11_going 52 = .ok (.ifCond .eq 10, 3) := by decide +kernel
theorem dX11_going_55 : decode cX11_going 55 = .ok (.aload_n 0, 1) := by decide +kernel
theorem dX11_going_56 : decode cX11_going 56 = .ok (.bipush (-6), 2) := by decide +kernel
theorem dX11_going_58 : decode cX11_going 58 = .ok (.invokevirtual 67, 3) := by decide +kernel
theorem dX11_going_61 : decode cX11_going 61 = .ok (.ireturn, 1) := by decide +kernel
theorem dX11_going_62 : decode cX11_going 62 = .ok (.aload_n 0, 1) := by decide +kernel
theorem dX11_going_63 : decode cX11_going 63 = .ok (.getfield 10, 3) := by decide +kernel
theorem dX11_going_66 : decode cX11_going 66 = .ok (.getfield 205, 3) := by decide +kernel
theorem dX11_going_69 : decode cX11_going 69 = .ok (.iload_n 1, 1) := by decide +kernel
theorem dX11_going_70 : decode cX11_going 70 = .ok (.invokevirtual 78, 3) := by decide +kernel
theorem dX11_going_73 : decode cX11_going 73 = .ok (.aload_n 0, 1) := by decide +kernel
theorem dX11_going_74 : decode cX11_going 74 = .ok (.getfield 10, 3) := by decide +kernel
theorem dX11_going_77 : decode cX11_going 77 = .ok (.getfield 208, 3) := by decide +kernel
theorem dX11_going_80 : decode cX11_going 80 = .ok (.iload_n 3, 1) := by decide +kernel
theorem dX11_going_81 : decode cX11_going 81 = .ok (.ifCond .eq 8, 3) := by decide +kernel
theorem dX11_going_84 : decode cX11_going 84 = .ok (.bipush (-9), 2) := by decide +kernel
theorem dX11_going_86 : decode cX11_going 86 = .ok (.goto 4, 3) := by decide +kernel
theorem dX11_going_89 : decode cX11_going 89 = .ok (.iload_n 2, 1) := by decide +kernel
theorem dX11_going_90 : decode cX11_going 90 = .ok (.invokevirtual 78, 3) := by decide +kernel
theorem dX11_going_93 : decode cX11_going 93 = .ok (.aload_n 0, 1) := by decide +kernel
theorem dX11_going_94 : decode cX11_going 94 = .ok (.getfield 10, 3) := by decide +kernel
theorem dX11_going_97 : decode cX11_going 97 = .ok (.getfield 205, 3) := by decide +kernel
theorem dX11_going_100 : decode cX11_going 100 = .ok (.getfield 81, 3) := by decide +kernel
theorem dX11_going_103 : decode cX11_going 103 = .ok (.ireturn, 1) := by decide +kernel
theorem dX11_think_0 : decode cX11_think 0 = .ok (.aload_n 0, 1) := by decide +kernel
theorem dX11_think_1 : decode cX11_think 1 = .ok (.iload_n 1, 1) := by decide +kernel
theorem dX11_think_2 : decode cX11_think 2 = .ok (.iload_n 2, 1) := by decide +kernel
theorem dX11_think_3 : decode cX11_think 3 = .ok (.invokevirtual 92, 3) := by decide +kernel
theorem dX11_think_6 : decode cX11_think 6 = .ok (.ifCond .ne 9, 3) := by decide +kernel
theorem dX11_think_9 : decode cX11_think 9 = .ok (.aload_n 0, 1) := by decide +kernel
theorem dX11_think_10 : decode cX11_think 10 = .ok (.iconst (-1), 1) := by decide +kernel
theorem dX11_think_11 : decode cX11_think 11 = .ok (.invokevirtual 67, 3) := by decide +kernel
theorem dX11_think_14 : decode cX11_think 14 = .ok (.ireturn, 1) := by decide +kernel
theorem dX11_think_15 : decode cX11_think 15 = .ok (.iload_n 3, 1) := by decide +kernel
theorem dX11_think_16 : decode cX11_think 16 = .ok (.ifCond .lt 8, 3) := by decide +kernel
theorem dX11_think_19 : decode cX11_think 19 = .ok (.iload_n 3, 1) := by decide +kernel
theorem dX11_think_20 : decode cX11_think 20 = .ok (.iconst 2, 1) := by decide +kernel
theorem dX11_think_21 : decode cX11_think 21 = .ok (.if_icmp .le 10, 3) := by decide +kernel
theorem dX11_think_24 : decode cX11_think 24 = .ok (.aload_n 0, 1) := by decide +kernel
theorem dX11_think_25 : decode cX11_think 25 = .ok (.bipush (-2), 2) := by decide +kernel
theorem dX11_think_27 : decode cX11_think 27 = .ok (.invokevirtual 67, 3) := by decide +kernel
theorem dX11_think_30 : decode cX11_think 30 = .ok (.ireturn, 1) := by decide +kernel
theorem dX11_think_31 : decode cX11_think 31 = .ok (.aload_n 0, 1) := by decide +kernel
theorem dX11_think_32 : decode cX11_think 32 = .ok (.getfield 29, 3) := by decide +kernel
theorem dX11_think_35 : decode cX11_think 35 = .ok (.aload_n 0, 1) := by decide +kernel
theorem dX11_think_36 : decode cX11_think 36 = .ok (.getfield 10, 3) := by decide +kernel
theorem dX11_think_39 : decode cX11_think 39 = .ok (.aload_n 0, 1) := by decide +kernel
theorem dX11_think_40 : decode cX11_think 40 = .ok (.invokevirtual 134, 3) := by decide +kernel
theorem dX11_think_43 : decode cX11_think 43 = .ok (.iload_n 1, 1) := by decide +kernel
theorem dX11_think_44 : decode cX11_think 44 = .ok (.iload_n 2, 1) := by decide +kernel
theorem dX11_think_45 : decode cX11_think 45 = .ok (.invokevirtual 211, 3) := by decide +kernel
theorem dX11_think_48 : decode cX11_think 48 = .ok (.istore 4, 2) := by decide +kernel
theorem dX11_think_50 : decode cX11_think 50 = .ok (.iload_n 3, 1) := by decide +kernel
theorem dX11_think_51 : decode cX11_think 51 = .ok (.iconst 2, 1) := by decide +kernel
theorem dX11_think_52 : decode cX11_think 52 = .ok (.if_icmp .ne 9, 3) := by decide +kernel
theorem dX11_think_55 : decode cX11_think 55 = .ok (.iload 4, 2) := by decide +kernel
theorem dX11_think_57 : decode cX11_think 57 = .ok (.invokestatic 215, 3) := by decide +kernel
theorem dX11_think_60 : decode cX11_think 60 = .ok (.ireturn, 1) := by decide +kernel
theorem dX11_think_61 : decode cX11_think 61 = .ok (.iload_n 3, 1) := by decide +kernel
theorem dX11_think_62 : decode cX11_think 62 = .ok (.ifCond .ne 11, 3) := by decide +kernel
theorem dX11_think_65 : decode cX11_think 65 = .ok (.iload 4, 2) := by decide +kernel
theorem dX11_think_67 : decode cX11_think 67 = .ok (.invokestatic 220, 3) := by decide +kernel
theorem dX11_think_70 : decode cX11_think 70 = .ok (.goto 8, 3) := by decide +kernel
theorem dX11_think_73 : decode cX11_think 73 = .ok (.iload 4, 2) := by decide +kernel
theorem dX11_think_75 : decode cX11_think 75 = .ok (.invokestatic 223, 3) := by decide +kernel
theorem dX11_think_78 : decode cX11_think 78 = .ok (.ireturn, 1) := by decide +kernel
theorem dX11_tell_0 : decode cX11_tell 0 = .ok (.aload_n 0, 1) := by decide +kernel
theorem dX11_tell_1 : decode cX11_tell 1 = .ok (.iload_n 1, 1) := by decide +kernel
theorem dX11_tell_2 : decode cX11_tell 2 = .ok (.iload_n 2, 1) := by decide +kernel
theorem dX11_tell_3 : decode cX11_tell 3 = .ok (.invokevirtual 92, 3) := by decide +kernel
theorem dX11_tell_6 : decode cX11_tell 6 = .ok (.ifCond .ne 9, 3) := by decide +kernel
theorem dX11_tell_9 : decode cX11_tell 9 = .ok (.aload_n 0, 1) := by decide +kernel
theorem dX11_tell_10 : decode cX11_tell 10 = .ok (.iconst (-1), 1) := by decide +kernel
theorem dX11_tell_11 : decode cX11_tell 11 = .ok (.invokevirtual 67, 3) := by decide +kernel
theorem dX11_tell_14 : decode cX11_tell 14 = .ok (.ireturn, 1) := by decide +kernel
theorem dX11_tell_15 : decode cX11_tell 15 = .ok (.aload_n 0, 1) := by decide +kernel
theorem dX11_tell_16 : decode cX11_tell 16 = .ok (.getfield 29, 3) := by decide +kernel
theorem dX11_tell_19 : decode cX11_tell 19 = .ok (.aload_n 0, 1) := by decide +kernel
theorem dX11_tell_20 : decode cX11_tell 20 = .ok (.getfield 10, 3) := by decide +kernel
theorem dX11_tell_23 : decode cX11_tell 23 = .ok (.aload_n 0, 1) := by decide +kernel
theorem dX11_tell_24 : decode cX11_tell 24 = .ok (.invokevirtual 134, 3) := by decide +kernel
theorem dX11_tell_27 : decode cX11_tell 27 = .ok (.iload_n 1, 1) := by decide +kernel
theorem dX11_tell_28 : decode cX11_tell 28 = .ok (.iload_n 2, 1) := by decide +kernel
theorem dX11_tell_29 : decode cX11_tell 29 = .ok (.invokevirtual 211, 3) := by decide +kernel
theorem dX11_tell_32 : decode cX11_tell 32 = .ok (.istore_n 3, 1) := by decide +kernel
theorem dX11_tell_33 : decode cX11_tell 33 = .ok (.iload_n 3, 1) := by decide +kernel
theorem dX11_tell_34 : decode cX11_tell 34 = .ok (.ifCond .ne 10, 3) := by decide +kernel
theorem dX11_tell_37 : decode cX11_tell 37 = .ok (.aload_n 0, 1) := by decide +kernel
theorem dX11_tell_38 : decode cX11_tell 38 = .ok (.bipush (-3), 2) := by decide +kernel
theorem dX11_tell_40 : decode cX11_tell 40 = .ok (.invokevirtual 67, 3) := by decide +kernel
theorem dX11_tell_43 : decode cX11_tell 43 = .ok (.ireturn, 1) := by decide +kernel
theorem dX11_tell_44 : decode cX11_tell 44 = .ok (.aload_n 0, 1) := by decide +kernel
theorem dX11_tell_45 : decode cX11_tell 45 = .ok (.getfield 29, 3) := by decide +kernel
theorem dX11_tell_48 : decode cX11_tell 48 = .ok (.aload_n 0, 1) := by decide +kernel
theorem dX11_tell_49 : decode cX11_tell 49 = .ok (.getfield 10, 3) := by decide +kernel
theorem dX11_tell_52 : decode cX11_tell 52 = .ok (.getfield 96, 3) := by decide +kernel
theorem dX11_tell_55 : decode cX11_tell 55 = .ok (.aload_n 0, 1) := by decide +kernel
theorem dX11_tell_56 : decode cX11_tell 56 = .ok (.invokevirtual 134, 3) := by decide +kernel
theorem dX11_tell_59 : decode cX11_tell 59 = .ok (.iload_n 1, 1) := by decide +kernel
theorem dX11_tell_60 : decode cX11_tell 60 = .ok (.iload_n 2, 1) := by decide +kernel
theorem dX11_tell_61 : decode cX11_tell 61 = .ok (.iload_n 3, 1) := by decide +kernel
theorem dX11_tell_62 : decode cX11_tell 62 = .ok (.invokevirtual 226, 3) := by decide +kernel
theorem dX11_tell_65 : decode cX11_tell 65 = .ok (.ireturn, 1) := by decide +kernel
theorem dX11_laws_0 : decode cX11_laws 0 = .ok (.aload_n 0, 1) := by decide +kernel
theorem dX11_laws_1 : decode cX11_laws 1 = .ok (.getfield 10, 3) := by decide +kernel
theorem dX11_laws_4 : decode cX11_laws 4 = .ok (.getfield 96, 3) := by decide +kernel
theorem dX11_laws_7 : decode cX11_laws 7 = .ok (.iload_n 1, 1) := by decide +kernel
theorem dX11_laws_8 : decode cX11_laws 8 = .ok (.invokevirtual 128, 3) := by decide +kernel
theorem dX11_laws_11 : decode cX11_laws 11 = .ok (.ifCond .ne 9, 3) := by decide +kernel
theorem dX11_laws_14 : decode cX11_laws 14 = .ok (.aload_n 0, 1) := by decide +kernel
theorem dX11_laws_15 : decode cX11_laws 15 = .ok (.iconst (-1), 1) := by decide +kernel
theorem dX11_laws_16 : decode cX11_laws 16 = .ok (.invokevirtual 67, 3) := by decide +kernel
theorem dX11_laws_19 : decode cX11_laws 19 = .ok (.ireturn, 1) := by decide +kernel
theorem dX11_laws_20 : decode cX11_laws 20 = .ok (.iconst 0, 1) := by decide +kernel
theorem dX11_laws_21 : decode cX11_laws 21 = .ok (.istore_n 2, 1) := by decide +kernel
theorem dX11_laws_22 : decode cX11_laws 22 = .ok (.iconst 0, 1) := by decide +kernel
theorem dX11_laws_23 : decode cX11_laws 23 = .ok (.istore_n 3, 1) := by decide +kernel
theorem dX11_laws_24 : decode cX11_laws 24 = .ok (.iload_n 3, 1) := by decide +kernel
theorem dX11_laws_25 : decode cX11_laws 25 = .ok (.aload_n 0, 1) := by decide +kernel
theorem dX11_laws_26 : decode cX11_laws 26 = .ok (.getfield 52, 3) := by decide +kernel
theorem dX11_laws_29 : decode cX11_laws 29 = .ok (.arraylength, 1) := by decide +kernel
theorem dX11_laws_30 : decode cX11_laws 30 = .ok (.if_icmp .ge 39, 3) := by decide +kernel
theorem dX11_laws_33 : decode cX11_laws 33 = .ok (.aload_n 0, 1) := by decide +kernel
theorem dX11_laws_34 : decode cX11_laws 34 = .ok (.getfield 29, 3) := by decide +kernel
theorem dX11_laws_37 : decode cX11_laws 37 = .ok (.aload_n 0, 1) := by decide +kernel
theorem dX11_laws_38 : decode cX11_laws 38 = .ok (.getfield 10, 3) := by decide +kernel
theorem dX11_laws_41 : decode cX11_laws 41 = .ok (.getfield 96, 3) := by decide +kernel
theorem dX11_laws_44 : decode cX11_laws 44 = .ok (.aload_n 0, 1) := by decide +kernel
theorem dX11_laws_45 : decode cX11_laws 45 = .ok (.getfield 52, 3) := by decide +kernel
theorem dX11_laws_48 : decode cX11_laws 48 = .ok (.iload_n 3, 1) := by decide +kernel
theorem dX11_laws_49 : decode cX11_laws 49 = .ok (.aaload, 1) := by decide +kernel
theorem dX11_laws_50 : decode cX11_laws 50 = .ok (.iload_n 1, 1) := by decide +kernel
theorem dX11_laws_51 : decode cX11_laws 51 = .ok (.invokevirtual 170, 3) := by decide +kernel
theorem dX11_laws_54 : decode cX11_laws 54 = .ok (.ifCond .eq 9, 3) := by decide +kernel
theorem dX11_laws_57 : decode cX11_laws 57 = .ok (.iload_n 2, 1) := by decide +kernel
theorem dX11_laws_58 : decode cX11_laws 58 = .ok (.iconst 1, 1) := by decide +kernel
theorem dX11_laws_59 : decode cX11_laws 59 = .ok (.iload_n 3, 1) := by decide +kernel
theorem dX11_laws_60 : decode cX11_laws 60 = .ok (.ishl, 1) := by decide +kernel
theorem dX11_laws_61 : decode cX11_laws 61 = .ok (.ior, 1) := by decide +kernel
theorem dX11_laws_62 : decode cX11_laws 62 = .ok (.istore_n 2, 1) := by decide +kernel
theorem dX11_laws_63 : decode cX11_laws 63 = .ok (.iinc 3 1, 3) := by decide +kernel
theorem dX11_laws_66 : decode cX11_laws 66 = .ok (.goto (-42), 3) := by decide +kernel
theorem dX11_laws_69 : decode cX11_laws 69 = .ok (.iload_n 2, 1) := by decide +kernel
theorem dX11_laws_70 : decode cX11_laws 70 = .ok (.ireturn, 1) := by decide +kernel
theorem dX11_eye_0 : decode cX11_eye 0 = .ok (.aload_n 0, 1) := by decide +kernel
theorem dX11_eye_1 : decode cX11_eye 1 = .ok (.getfield 10, 3) := by decide +kernel
theorem dX11_eye_4 : decode cX11_eye 4 = .ok (.getfield 96, 3) := by decide +kernel
theorem dX11_eye_7 : decode cX11_eye 7 = .ok (.iload_n 1, 1) := by decide +kernel
theorem dX11_eye_8 : decode cX11_eye 8 = .ok (.invokevirtual 128, 3) := by decide +kernel
theorem dX11_eye_11 : decode cX11_eye 11 = .ok (.ifCond .eq 10, 3) := by decide +kernel
theorem dX11_eye_14 : decode cX11_eye 14 = .ok (.iload_n 2, 1) := by decide +kernel
theorem dX11_eye_15 : decode cX11_eye 15 = .ok (.invokestatic 131, 3) := by decide +kernel
theorem dX11_eye_18 : decode cX11_eye 18 = .ok (.ifCond .ne 9, 3) := by decide +kernel
theorem dX11_eye_21 : decode cX11_eye 21 = .ok (.aload_n 0, 1) := by decide +kernel
theorem dX11_eye_22 : decode cX11_eye 22 = .ok (.iconst (-1), 1) := by decide +kernel
theorem dX11_eye_23 : decode cX11_eye 23 = .ok (.invokevirtual 67, 3) := by decide +kernel
theorem dX11_eye_26 : decode cX11_eye 26 = .ok (.ireturn, 1) := by decide +kernel
theorem dX11_eye_27 : decode cX11_eye 27 = .ok (.iload_n 3, 1) := by decide +kernel
theorem dX11_eye_28 : decode cX11_eye 28 = .ok (.ifCond .eq 15, 3) := by decide +kernel
theorem dX11_eye_31 : decode cX11_eye 31 = .ok (.iload_n 3, 1) := by decide +kernel
theorem dX11_eye_32 : decode cX11_eye 32 = .ok (.iconst 1, 1) := by decide +kernel
theorem dX11_eye_33 : decode cX11_eye 33 = .ok (.if_icmp .eq 10, 3) := by decide +kernel
theorem dX11_eye_36 : decode cX11_eye 36 = .ok (.aload_n 0, 1) := by decide +kernel
theorem dX11_eye_37 : decode cX11_eye 37 = .ok (.bipush (-2), 2) := by decide +kernel
theorem dX11_eye_39 : decode cX11_eye 39 = .ok (.invokevirtual 67, 3) := by decide +kernel
theorem dX11_eye_42 : decode cX11_eye 42 = .ok (.ireturn, 1) := by decide +kernel
theorem dX11_eye_43 : decode cX11_eye 43 = .ok (.aload_n 0, 1) := by decide +kernel
theorem dX11_eye_44 : decode cX11_eye 44 = .ok (.invokevirtual 134, 3) := by decide +kernel
theorem dX11_eye_47 : decode cX11_eye 47 = .ok (.aload_n 0, 1) := by decide +kernel
theorem dX11_eye_48 : decode cX11_eye 48 = .ok (.getfield 10, 3) := by decide +kernel
theorem dX11_eye_51 : decode cX11_eye 51 = .ok (.getfield 96, 3) := by decide +kernel
theorem dX11_eye_54 : decode cX11_eye 54 = .ok (.iload_n 1, 1) := by decide +kernel
theorem dX11_eye_55 : decode cX11_eye 55 = .ok (.iload_n 2, 1) := by decide +kernel
theorem dX11_eye_56 : decode cX11_eye 56 = .ok (.aload_n 0, 1) := by decide +kernel
theorem dX11_eye_57 : decode cX11_eye 57 = .ok (.getfield 10, 3) := by decide +kernel
theorem dX11_eye_60 : decode cX11_eye 60 = .ok (.getfield 125, 3) := by decide +kernel
theorem dX11_eye_63 : decode cX11_eye 63 = .ok (.invokevirtual 230, 3) := by decide +kernel
theorem dX11_eye_66 : decode cX11_eye 66 = .ok (.istore 4, 2) := by decide +kernel
theorem dX11_eye_68 : decode cX11_eye 68 = .ok (.iload_n 3, 1) := by decide +kernel
theorem dX11_eye_69 : decode cX11_eye 69 = .ok (.ifCond .ne 8, 3) := by decide +kernel
theorem dX11_eye_72 : decode cX11_eye 72 = .ok (.iload 4, 2) := by decide +kernel
theorem dX11_eye_74 : decode cX11_eye 74 = .ok (.goto 5, 3) := by decide +kernel
theorem dX11_eye_77 : decode cX11_eye 77 = .ok (.bipush 100, 2) := by decide +kernel
theorem dX11_eye_79 : decode cX11_eye 79 = .ok (.iload 4, 2) := by decide +kernel
theorem dX11_eye_81 : decode cX11_eye 81 = .ok (.invokestatic 234, 3) := by decide +kernel
theorem dX11_eye_84 : decode cX11_eye 84 = .ok (.ireturn, 1) := by decide +kernel
theorem dX11_surest_0 : decode cX11_surest 0 = .ok (.aload_n 0, 1) := by decide +kernel
theorem dX11_surest_1 : decode cX11_surest 1 = .ok (.getfield 10, 3) := by decide +kernel
theorem dX11_surest_4 : decode cX11_surest 4 = .ok (.getfield 96, 3) := by decide +kernel
theorem dX11_surest_7 : decode cX11_surest 7 = .ok (.iload_n 1, 1) := by decide +kernel
theorem dX11_surest_8 : decode cX11_surest 8 = .ok (.invokevirtual 128, 3) := by decide +kernel
theorem dX11_surest_11 : decode cX11_surest 11 = .ok (.ifCond .ne 9, 3) := by decide +kernel
theorem dX11_surest_14 : decode cX11_surest 14 = .ok (.aload_n 0, 1) := by decide +kernel
theorem dX11_surest_15 : decode cX11_surest 15 = .ok (.iconst (-1), 1) := by decide +kernel
theorem dX11_surest_16 : decode cX11_surest 16 = .ok (.invokevirtual 67, 3) := by decide +kernel
theorem dX11_surest_19 : decode cX11_surest 19 = .ok (.ireturn, 1) := by decide +kernel
theorem dX11_surest_20 : decode cX11_surest 20 = .ok (.aload_n 0, 1) := by decide +kernel
theorem dX11_surest_21 : decode cX11_surest 21 = .ok (.getfield 29, 3) := by decide +kernel
theorem dX11_surest_24 : decode cX11_surest 24 = .ok (.aload_n 0, 1) := by decide +kernel
theorem dX11_surest_25 : decode cX11_surest 25 = .ok (.getfield 10, 3) := by decide +kernel
theorem dX11_surest_28 : decode cX11_surest 28 = .ok (.getfield 96, 3) := by decide +kernel
theorem dX11_surest_31 : decode cX11_surest 31 = .ok (.aload_n 0, 1) := by decide +kernel
theorem dX11_surest_32 : decode cX11_surest 32 = .ok (.invokevirtual 134, 3) := by decide +kernel
theorem dX11_surest_35 : decode cX11_surest 35 = .ok (.iload_n 1, 1) := by decide +kernel
theorem dX11_surest_36 : decode cX11_surest 36 = .ok (.aload_n 0, 1) := by decide +kernel
theorem dX11_surest_37 : decode cX11_surest 37 = .ok (.getfield 10, 3) := by decide +kernel
theorem dX11_surest_40 : decode cX11_surest 40 = .ok (.getfield 125, 3) := by decide +kernel
theorem dX11_surest_43 : decode cX11_surest 43 = .ok (.invokevirtual 237, 3) := by decide +kernel
theorem dX11_surest_46 : decode cX11_surest 46 = .ok (.ireturn, 1) := by decide +kernel
theorem dX11_morning_0 : decode cX11_morning 0 = .ok (.iconst 0, 1) := by decide +kernel
theorem dX11_morning_1 : decode cX11_morning 1 = .ok (.istore_n 1, 1) := by decide +kernel
theorem dX11_morning_2 : decode cX11_morning 2 = .ok (.iconst 0, 1) := by decide +kernel
theorem dX11_morning_3 : decode cX11_morning 3 = .ok (.istore_n 2, 1) := by decide +kernel
theorem dX11_morning_4 : decode cX11_morning 4 = .ok (.iload_n 2, 1) := by decide +kernel
theorem dX11_morning_5 : decode cX11_morning 5 = .ok (.aload_n 0, 1) := by decide +kernel
theorem dX11_morning_6 : decode cX11_morning 6 = .ok (.getfield 10, 3) := by decide +kernel
theorem dX11_morning_9 : decode cX11_morning 9 = .ok (.getfield 110, 3) := by decide +kernel
theorem dX11_morning_12 : decode cX11_morning 12 = .ok (.getfield 81, 3) := by decide +kernel
theorem dX11_morning_15 : decode cX11_morning 15 = .ok (.if_icmp .ge 75, 3) := by decide +kernel
theorem dX11_morning_18 : decode cX11_morning 18 = .ok (.aload_n 0, 1) := by decide +kernel
theorem dX11_morning_19 : decode cX11_morning 19 = .ok (.getfield 29, 3) := by decide +kernel
theorem dX11_morning_22 : decode cX11_morning 22 = .ok (.aload_n 0, 1) := by decide +kernel
theorem dX11_morning_23 : decode cX11_morning 23 = .ok (.getfield 10, 3) := by decide +kernel
theorem dX11_morning_26 : decode cX11_morning 26 = .ok (.aload_n 0, 1) := by decide +kernel
theorem dX11_morning_27 : decode cX11_morning 27 = .ok (.invokevirtual 134, 3) := by decide +kernel
theorem dX11_morning_30 : decode cX11_morning 30 = .ok (.iload_n 2, 1) := by decide +kernel
theorem dX11_morning_31 : decode cX11_morning 31 = .ok (.invokevirtual 240, 3) := by decide +kernel
theorem dX11_morning_34 : decode cX11_morning 34 = .ok (.istore_n 3, 1) := by decide +kernel
theorem dX11_morning_35 : decode cX11_morning 35 = .ok (.aload_n 0, 1) := by decide +kernel
theorem dX11_morning_36 : decode cX11_morning 36 = .ok (.invokevirtual 134, 3) := by decide +kernel
theorem dX11_morning_39 : decode cX11_morning 39 = .ok (.aload_n 0, 1) := by decide +kernel
theorem dX11_morning_40 : decode cX11_morning 40 = .ok (.getfield 10, 3) := by decide +kernel
theorem dX11_morning_43 : decode cX11_morning 43 = .ok (.getfield 96, 3) := by decide +kernel
theorem dX11_morning_46 : decode cX11_morning 46 = .ok (.iload_n 3, 1) := by decide +kernel
theorem dX11_morning_47 : decode cX11_morning 47 = .ok (.invokevirtual 149, 3) := by decide +kernel
theorem dX11_morning_50 : decode cX11_morning 50 = .ok (.istore 4, 2) := by decide +kernel
theorem dX11_morning_52 : decode cX11_morning 52 = .ok (.aload_n 0, 1) := by decide +kernel
theorem dX11_morning_53 : decode cX11_morning 53 = .ok (.getfield 10, 3) := by decide +kernel
theorem dX11_morning_56 : decode cX11_morning 56 = .ok (.dup, 1) := by decide +kernel
theorem dX11_morning_57 : decode cX11_morning 57 = .ok (.getfield 146, 3) := by decide +kernel
theorem dX11_morning_60 : decode cX11_morning 60 = .ok (.iconst 1, 1) := by decide +kernel
theorem dX11_morning_61 : decode cX11_morning 61 = .ok (.iadd, 1) := by decide +kernel
theorem dX11_morning_62 : decode cX11_morning 62 = .ok (.putfield 146, 3) := by decide +kernel
theorem dX11_morning_65 : decode cX11_morning 65 = .ok (.iload 4, 2) := by decide +kernel
theorem dX11_morning_67 : decode cX11_morning 67 = .ok (.aload_n 0, 1) := by decide +kernel
theorem dX11_morning_68 : decode cX11_morning 68 = .ok (.getfield 10, 3) := by decide +kernel
theorem dX11_morning_71 : decode cX11_morning 71 = .ok (.getfield 116, 3) := by decide +kernel
theorem dX11_morning_74 : decode cX11_morning 74 = .ok (.iload_n 2, 1) := by decide +kernel
theorem dX11_morning_75 : decode cX11_morning 75 = .ok (.invokevirtual 113, 3) := by decide +kernel
theorem dX11_morning_78 : decode cX11_morning 78 = .ok (.if_icmp .ne 6, 3) := by decide +kernel
theorem dX11_morning_81 : decode cX11_morning 81 = .ok (.iinc 1 1, 3) := by decide +kernel
theorem dX11_morning_84 : decode cX11_morning 84 = .ok (.iinc 2 1, 3) := by decide +kernel
theorem dX11_morning_87 : decode cX11_morning 87 = .ok (.goto (-83), 3) := by decide +kernel
theorem dX11_morning_90 : decode cX11_morning 90 = .ok (.iload_n 1, 1) := by decide +kernel
theorem dX11_morning_91 : decode cX11_morning 91 = .ok (.ireturn, 1) := by decide +kernel
theorem dX11_writes_0 : decode cX11_writes 0 = .ok (.aload_n 0, 1) := by decide +kernel
theorem dX11_writes_1 : decode cX11_writes 1 = .ok (.getfield 10, 3) := by decide +kernel
theorem dX11_writes_4 : decode cX11_writes 4 = .ok (.iload_n 1, 1) := by decide +kernel
theorem dX11_writes_5 : decode cX11_writes 5 = .ok (.invokevirtual 106, 3) := by decide +kernel
theorem dX11_writes_8 : decode cX11_writes 8 = .ok (.ifCond .ne 9, 3) := by decide +kernel
theorem dX11_writes_11 : decode cX11_writes 11 = .ok (.aload_n 0, 1) := by decide +kernel
theorem dX11_writes_12 : decode cX11_writes 12 = .ok (.iconst (-1), 1) := by decide +kernel
theorem dX11_writes_13 : decode cX11_writes 13 = .ok (.invokevirtual 67, 3) := by decide +kernel
theorem dX11_writes_16 : decode cX11_writes 16 = .ok (.ireturn, 1) := by decide +kernel
theorem dX11_writes_17 : decode cX11_writes 17 = .ok (.aload_n 0, 1) := by decide +kernel
theorem dX11_writes_18 : decode cX11_writes 18 = .ok (.getfield 29, 3) := by decide +kernel
theorem dX11_writes_21 : decode cX11_writes 21 = .ok (.aload_n 0, 1) := by decide +kernel
theorem dX11_writes_22 : decode cX11_writes 22 = .ok (.getfield 10, 3) := by decide +kernel
theorem dX11_writes_25 : decode cX11_writes 25 = .ok (.aload_n 0, 1) := by decide +kernel
theorem dX11_writes_26 : decode cX11_writes 26 = .ok (.invokevirtual 134, 3) := by decide +kernel
theorem dX11_writes_29 : decode cX11_writes 29 = .ok (.iload_n 1, 1) := by decide +kernel
theorem dX11_writes_30 : decode cX11_writes 30 = .ok (.invokevirtual 240, 3) := by decide +kernel
theorem dX11_writes_33 : decode cX11_writes 33 = .ok (.ireturn, 1) := by decide +kernel
theorem dX11_both_0 : decode cX11_both 0 = .ok (.aload_n 0, 1) := by decide +kernel
theorem dX11_both_1 : decode cX11_both 1 = .ok (.getfield 10, 3) := by decide +kernel
theorem dX11_both_4 : decode cX11_both 4 = .ok (.iload_n 1, 1) := by decide +kernel
theorem dX11_both_5 : decode cX11_both 5 = .ok (.invokevirtual 106, 3) := by decide +kernel
theorem dX11_both_8 : decode cX11_both 8 = .ok (.ifCond .eq 19, 3) := by decide +kernel
theorem dX11_both_11 : decode cX11_both 11 = .ok (.aload_n 0, 1) := by decide +kernel
theorem dX11_both_12 : decode cX11_both 12 = .ok (.getfield 10, 3) := by decide +kernel
theorem dX11_both_15 : decode cX11_both 15 = .ok (.iload_n 2, 1) := by decide +kernel
theorem dX11_both_16 : decode cX11_both 16 = .ok (.invokevirtual 106, 3) := by decide +kernel
theorem dX11_both_19 : decode cX11_both 19 = .ok (.ifCond .eq 8, 3) := by decide +kernel
theorem dX11_both_22 : decode cX11_both 22 = .ok (.iload_n 1, 1) := by decide +kernel
theorem dX11_both_23 : decode cX11_both 23 = .ok (.iload_n 2, 1) := by decide +kernel
theorem dX11_both_24 : decode cX11_both 24 = .ok (.if_icmp .ne 9, 3) := by decide +kernel
theorem dX11_both_27 : decode cX11_both 27 = .ok (.aload_n 0, 1) := by decide +kernel
theorem dX11_both_28 : decode cX11_both 28 = .ok (.iconst (-1), 1) := by decide +kernel
theorem dX11_both_29 : decode cX11_both 29 = .ok (.invokevirtual 67, 3) := by decide +kernel
theorem dX11_both_32 : decode cX11_both 32 = .ok (.ireturn, 1) := by decide +kernel
theorem dX11_both_33 : decode cX11_both 33 = .ok (.aload_n 0, 1) := by decide +kernel
theorem dX11_both_34 : decode cX11_both 34 = .ok (.getfield 29, 3) := by decide +kernel
theorem dX11_both_37 : decode cX11_both 37 = .ok (.aload_n 0, 1) := by decide +kernel
theorem dX11_both_38 : decode cX11_both 38 = .ok (.getfield 10, 3) := by decide +kernel
theorem dX11_both_41 : decode cX11_both 41 = .ok (.aload_n 0, 1) := by decide +kernel
theorem dX11_both_42 : decode cX11_both 42 = .ok (.invokevirtual 134, 3) := by decide +kernel
theorem dX11_both_45 : decode cX11_both 45 = .ok (.iload_n 1, 1) := by decide +kernel
theorem dX11_both_46 : decode cX11_both 46 = .ok (.iload_n 2, 1) := by decide +kernel
theorem dX11_both_47 : decode cX11_both 47 = .ok (.invokevirtual 244, 3) := by decide +kernel
theorem dX11_both_50 : decode cX11_both 50 = .ok (.ireturn, 1) := by decide +kernel
theorem dX11_year_0 : decode cX11_year 0 = .ok (.iload_n 1, 1) := by decide +kernel
theorem dX11_year_1 : decode cX11_year 1 = .ok (.iconst 1, 1) := by decide +kernel
theorem dX11_year_2 : decode cX11_year 2 = .ok (.if_icmp .ge 10, 3) := by decide +kernel
theorem dX11_year_5 : decode cX11_year 5 = .ok (.aload_n 0, 1) := by decide +kernel
theorem dX11_year_6 : decode cX11_year 6 = .ok (.bipush (-4), 2) := by decide +kernel
theorem dX11_year_8 : decode cX11_year 8 = .ok (.invokevirtual 67, 3) := by decide +kernel
theorem dX11_year_11 : decode cX11_year 11 = .ok (.ireturn, 1) := by decide +kernel
theorem dX11_year_12 : decode cX11_year 12 = .ok (.iload_n 1, 1) := by decide +kernel
theorem dX11_year_13 : decode cX11_year 13 = .ok (.bipush 30, 2) := by decide +kernel
theorem dX11_year_15 : decode cX11_year 15 = .ok (.if_icmp .le 10, 3) := by decide +kernel
theorem dX11_year_18 : decode cX11_year 18 = .ok (.aload_n 0, 1) := by decide +kernel
theorem dX11_year_19 : decode cX11_year 19 = .ok (.bipush (-6), 2) := by decide +kernel
theorem dX11_year_21 : decode cX11_year 21 = .ok (.invokevirtual 67, 3) := by decide +kernel
theorem dX11_year_24 : decode cX11_year 24 = .ok (.ireturn, 1) := by decide +kernel
theorem dX11_year_25 : decode cX11_year 25 = .ok (.aload_n 0, 1) := by decide +kernel
theorem dX11_year_26 : decode cX11_year 26 = .ok (.getfield 29, 3) := by decide +kernel
theorem dX11_year_29 : decode cX11_year 29 = .ok (.aload_n 0, 1) := by decide +kernel
theorem dX11_year_30 : decode cX11_year 30 = .ok (.getfield 10, 3) := by decide +kernel
theorem dX11_year_33 : decode cX11_year 33 = .ok (.getfield 96, 3) := by decide +kernel
theorem dX11_year_36 : decode cX11_year 36 = .ok (.aload_n 0, 1) := by decide +kernel
theorem dX11_year_37 : decode cX11_year 37 = .ok (.invokevirtual 134, 3) := by decide +kernel
theorem dX11_year_40 : decode cX11_year 40 = .ok (.iload_n 1, 1) := by decide +kernel
theorem dX11_year_41 : decode cX11_year 41 = .ok (.iload_n 2, 1) := by decide +kernel
theorem dX11_year_42 : decode cX11_year 42 = .ok (.invokevirtual 247, 3) := by decide +kernel
theorem dX11_year_45 : decode cX11_year 45 = .ok (.ireturn, 1) := by decide +kernel
theorem dX11_row_0 : decode cX11_row 0 = .ok (.iload_n 1, 1) := by decide +kernel
theorem dX11_row_1 : decode cX11_row 1 = .ok (.ifCond .ge 10, 3) := by decide +kernel
theorem dX11_row_4 : decode cX11_row 4 = .ok (.aload_n 0, 1) := by decide +kernel
theorem dX11_row_5 : decode cX11_row 5 = .ok (.bipush (-4), 2) := by decide +kernel
theorem dX11_row_7 : decode cX11_row 7 = .ok (.invokevirtual 67, 3) := by decide +kernel
theorem dX11_row_10 : decode cX11_row 10 = .ok (.ireturn, 1) := by decide +kernel
theorem dX11_row_11 : decode cX11_row 11 = .ok (.iload_n 1, 1) := by decide +kernel
theorem dX11_row_12 : decode cX11_row 12 = .ok (.bipush 9, 2) := by decide +kernel
theorem dX11_row_14 : decode cX11_row 14 = .ok (.if_icmp .gt 13, 3) := by decide +kernel
theorem dX11_row_17 : decode cX11_row 17 = .ok (.aload_n 0, 1) := by decide +kernel
theorem dX11_row_18 : decode cX11_row 18 = .ok (.getfield 59, 3) := by decide +kernel
theorem dX11_row_21 : decode cX11_row 21 = .ok (.invokevirtual 74, 3) := by decide +kernel
theorem dX11_row_24 : decode cX11_row 24 = .ok (.ifCond .eq 10, 3) := by decide +kernel
theorem dX11_row_27 : decode cX11_row 27 = .ok (.aload_n 0, 1) := by decide +kernel
theorem dX11_row_28 : decode cX11_row 28 = .ok (.bipush (-6), 2) := by decide +kernel
theorem dX11_row_30 : decode cX11_row 30 = .ok (.invokevirtual 67, 3) := by decide +kernel
theorem dX11_row_33 : decode cX11_row 33 = .ok (.ireturn, 1) := by decide +kernel
theorem dX11_row_34 : decode cX11_row 34 = .ok (.aload_n 0, 1) := by decide +kernel
theorem dX11_row_35 : decode cX11_row 35 = .ok (.getfield 59, 3) := by decide +kernel
theorem dX11_row_38 : decode cX11_row 38 = .ok (.iload_n 1, 1) := by decide +kernel
theorem dX11_row_39 : decode cX11_row 39 = .ok (.invokevirtual 78, 3) := by decide +kernel
theorem dX11_row_42 : decode cX11_row 42 = .ok (.aload_n 0, 1) := by decide +kernel
theorem dX11_row_43 : decode cX11_row 43 = .ok (.getfield 59, 3) := by decide +kernel
theorem dX11_row_46 : decode cX11_row 46 = .ok (.getfield 81, 3) := by decide +kernel
theorem dX11_row_49 : decode cX11_row 49 = .ok (.ireturn, 1) := by decide +kernel
theorem dX11_judge_0 : decode cX11_judge 0 = .ok (.aload_n 0, 1) := by decide +kernel
theorem dX11_judge_1 : decode cX11_judge 1 = .ok (.getfield 29, 3) := by decide +kernel
theorem dX11_judge_4 : decode cX11_judge 4 = .ok (.aload_n 0, 1) := by decide +kernel
theorem dX11_judge_5 : decode cX11_judge 5 = .ok (.getfield 10, 3) := by decide +kernel
theorem dX11_judge_8 : decode cX11_judge 8 = .ok (.getfield 96, 3) := by decide +kernel
theorem dX11_judge_11 : decode cX11_judge 11 = .ok (.aload_n 0, 1) := by decide +kernel
theorem dX11_judge_12 : decode cX11_judge 12 = .ok (.invokevirtual 134, 3) := by decide +kernel
theorem dX11_judge_15 : decode cX11_judge 15 = .ok (.aload_n 0, 1) := by decide +kernel
theorem dX11_judge_16 : decode cX11_judge 16 = .ok (.getfield 10, 3) := by decide +kernel
theorem dX11_judge_19 : decode cX11_judge 19 = .ok (.getfield 181, 3) := by decide +kernel
theorem dX11_judge_22 : decode cX11_judge 22 = .ok (.aload_n 0, 1) := by decide +kernel
theorem dX11_judge_23 : decode cX11_judge 23 = .ok (.getfield 59, 3) := by decide +kernel
theorem dX11_judge_26 : decode cX11_judge 26 = .ok (.invokevirtual 250, 3) := by decide +kernel
theorem dX11_judge_29 : decode cX11_judge 29 = .ok (.istore_n 1, 1) := by decide +kernel
theorem dX11_judge_30 : decode cX11_judge 30 = .ok (.aload_n 0, 1) := by decide +kernel
theorem dX11_judge_31 : decode cX11_judge 31 = .ok (.getfield 59, 3) := by decide +kernel
theorem dX11_judge_34 : decode cX11_judge 34 = .ok (.invokevirtual 89, 3) := by decide +kernel
theorem dX11_judge_37 : decode cX11_judge 37 = .ok (.iload_n 1, 1) := by decide +kernel
theorem dX11_judge_38 : decode cX11_judge 38 = .ok (.ireturn, 1) := by decide +kernel
theorem dX11_image_0 : decode cX11_image 0 = .ok (.aload_n 0, 1) := by decide +kernel
theorem dX11_image_1 : decode cX11_image 1 = .ok (.getfield 16, 3) := by decide +kernel
theorem dX11_image_4 : decode cX11_image 4 = .ok (.aload_n 0, 1) := by decide +kernel
theorem dX11_image_5 : decode cX11_image 5 = .ok (.getfield 10, 3) := by decide +kernel
theorem dX11_image_8 : decode cX11_image 8 = .ok (.invokevirtual 254, 3) := by decide +kernel
theorem dX11_image_11 : decode cX11_image 11 = .ok (.aload_n 0, 1) := by decide +kernel
theorem dX11_image_12 : decode cX11_image 12 = .ok (.iconst 1, 1) := by decide +kernel
theorem dX11_image_13 : decode cX11_image 13 = .ok (.putfield 258, 3) := by decide +kernel
theorem dX11_image_16 : decode cX11_image 16 = .ok (.aload_n 0, 1) := by decide +kernel
theorem dX11_image_17 : decode cX11_image 17 = .ok (.getfield 10, 3) := by decide +kernel
theorem dX11_image_20 : decode cX11_image 20 = .ok (.getfield 155, 3) := by decide +kernel
theorem dX11_image_23 : decode cX11_image 23 = .ok (.ireturn, 1) := by decide +kernel
theorem dX11_on_0 : decode cX11_on 0 = .ok (.aload_n 0, 1) := by decide +kernel
theorem dX11_on_1 : decode cX11_on 1 = .ok (.getfield 258, 3) := by decide +kernel
theorem dX11_on_4 : decode cX11_on 4 = .ok (.ifCond .ne 10, 3) := by decide +kernel
theorem dX11_on_7 : decode cX11_on 7 = .ok (.aload_n 0, 1) := by decide +kernel
theorem dX11_on_8 : decode cX11_on 8 = .ok (.bipush (-3), 2) := by decide +kernel
theorem dX11_on_10 : decode cX11_on 10 = .ok (.invokevirtual 67, 3) := by decide +kernel
theorem dX11_on_13 : decode cX11_on 13 = .ok (.ireturn, 1) := by decide +kernel
theorem dX11_on_14 : decode cX11_on 14 = .ok (.aload_n 0, 1) := by decide +kernel
theorem dX11_on_15 : decode cX11_on 15 = .ok (.getfield 10, 3) := by decide +kernel
theorem dX11_on_18 : decode cX11_on 18 = .ok (.aload_n 0, 1) := by decide +kernel
theorem dX11_on_19 : decode cX11_on 19 = .ok (.getfield 16, 3) := by decide +kernel
theorem dX11_on_22 : decode cX11_on 22 = .ok (.invokevirtual 254, 3) := by decide +kernel
theorem dX11_on_25 : decode cX11_on 25 = .ok (.aload_n 0, 1) := by decide +kernel
theorem dX11_on_26 : decode cX11_on 26 = .ok (.getfield 10, 3) := by decide +kernel
theorem dX11_on_29 : decode cX11_on 29 = .ok (.getfield 155, 3) := by decide +kernel
theorem dX11_on_32 : decode cX11_on 32 = .ok (.ireturn, 1) := by decide +kernel
theorem dX11_count_0 : decode cX11_count 0 = .ok (.iload_n 1, 1) := by decide +kernel
theorem dX11_count_1 : decode cX11_count 1 = .ok (.tableswitch 126 0 7 #[47, 58, 69, 80, 91, 99, 107, 118], 47) := by decide +kernel
theorem dX11_count_48 : decode cX11_count 48 = .ok (.aload_n 0, 1) := by decide +kernel
theorem dX11_count_49 : decode cX11_count 49 = .ok (.getfield 10, 3) := by decide +kernel
theorem dX11_count_52 : decode cX11_count 52 = .ok (.getfield 96, 3) := by decide +kernel
theorem dX11_count_55 : decode cX11_count 55 = .ok (.getfield 201, 3) := by decide +kernel
theorem dX11_count_58 : decode cX11_count 58 = .ok (.ireturn, 1) := by decide +kernel
theorem dX11_count_59 : decode cX11_count 59 = .ok (.aload_n 0, 1) := by decide +kernel
theorem dX11_count_60 : decode cX11_count 60 = .ok (.getfield 10, 3) := by decide +kernel
theorem dX11_count_63 : decode cX11_count 63 = .ok (.getfield 110, 3) := by decide +kernel
theorem dX11_count_66 : decode cX11_count 66 = .ok (.getfield 81, 3) := by decide +kernel
theorem dX11_count_69 : decode cX11_count 69 = .ok (.ireturn, 1) := by decide +kernel
theorem dX11_count_70 : decode cX11_count 70 = .ok (.aload_n 0, 1) := by decide +kernel
theorem dX11_count_71 : decode cX11_count 71 = .ok (.getfield 10, 3) := by decide +kernel
theorem dX11_count_74 : decode cX11_count 74 = .ok (.getfield 181, 3) := by decide +kernel
theorem dX11_count_77 : decode cX11_count 77 = .ok (.getfield 81, 3) := by decide +kernel
theorem dX11_count_80 : decode cX11_count 80 = .ok (.ireturn, 1) := by decide +kernel
theorem dX11_count_81 : decode cX11_count 81 = .ok (.aload_n 0, 1) := by decide +kernel
theorem dX11_count_82 : decode cX11_count 82 = .ok (.getfield 10, 3) := by decide +kernel
theorem dX11_count_85 : decode cX11_count 85 = .ok (.getfield 205, 3) := by decide +kernel
theorem dX11_count_88 : decode cX11_count 88 = .ok (.getfield 81, 3) := by decide +kernel
theorem dX11_count_91 : decode cX11_count 91 = .ok (.ireturn, 1) := by decide +kernel
theorem dX11_count_92 : decode cX11_count 92 = .ok (.aload_n 0, 1) := by decide +kernel
theorem dX11_count_93 : decode cX11_count 93 = .ok (.getfield 10, 3) := by decide +kernel
theorem dX11_count_96 : decode cX11_count 96 = .ok (.getfield 155, 3) := by decide +kernel
theorem dX11_count_99 : decode cX11_count 99 = .ok (.ireturn, 1) := by decide +kernel
theorem dX11_count_100 : decode cX11_count 100 = .ok (.aload_n 0, 1) := by decide +kernel
theorem dX11_count_101 : decode cX11_count 101 = .ok (.getfield 59, 3) := by decide +kernel
theorem dX11_count_104 : decode cX11_count 104 = .ok (.getfield 81, 3) := by decide +kernel
theorem dX11_count_107 : decode cX11_count 107 = .ok (.ireturn, 1) := by decide +kernel
theorem dX11_count_108 : decode cX11_count 108 = .ok (.aload_n 0, 1) := by decide +kernel
theorem dX11_count_109 : decode cX11_count 109 = .ok (.getfield 22, 3) := by decide +kernel
theorem dX11_count_112 : decode cX11_count 112 = .ok (.getfield 71, 3) := by decide +kernel
theorem dX11_count_115 : decode cX11_count 115 = .ok (.getfield 81, 3) := by decide +kernel
theorem dX11_count_118 : decode cX11_count 118 = .ok (.ireturn, 1) := by decide +kernel
theorem dX11_count_119 : decode cX11_count 119 = .ok (.aload_n 0, 1) := by decide +kernel
theorem dX11_count_120 : decode cX11_count 120 = .ok (.getfield 10, 3) := by decide +kernel
theorem dX11_count_123 : decode cX11_count 123 = .ok (.getfield 146, 3) := by decide +kernel
theorem dX11_count_126 : decode cX11_count 126 = .ok (.ireturn, 1) := by decide +kernel
theorem dX11_count_127 : decode cX11_count 127 = .ok (.iload_n 1, 1) := by decide +kernel
theorem dX11_count_128 : decode cX11_count 128 = .ok (.bipush 10, 2) := by decide +kernel
theorem dX11_count_130 : decode cX11_count 130 = .ok (.if_icmp .le 27, 3) := by decide +kernel
theorem dX11_count_133 : decode cX11_count 133 = .ok (.iload_n 1, 1) := by decide +kernel
theorem dX11_count_134 : decode cX11_count 134 = .ok (.bipush 10, 2) := by decide +kernel
theorem dX11_count_136 : decode cX11_count 136 = .ok (.isub, 1) := by decide +kernel
theorem dX11_count_137 : decode cX11_count 137 = .ok (.aload_n 0, 1) := by decide +kernel
theorem dX11_count_138 : decode cX11_count 138 = .ok (.getfield 63, 3) := by decide +kernel
theorem dX11_count_141 : decode cX11_count 141 = .ok (.arraylength, 1) := by decide +kernel
theorem dX11_count_142 : decode cX11_count 142 = .ok (.if_icmp .ge 15, 3) := by decide +kernel
theorem dX11_count_145 : decode cX11_count 145 = .ok (.aload_n 0, 1) := by decide +kernel
theorem dX11_count_146 : decode cX11_count 146 = .ok (.getfield 63, 3) := by decide +kernel
theorem dX11_count_149 : decode cX11_count 149 = .ok (.iload_n 1, 1) := by decide +kernel
theorem dX11_count_150 : decode cX11_count 150 = .ok (.bipush 10, 2) := by decide +kernel
theorem dX11_count_152 : decode cX11_count 152 = .ok (.isub, 1) := by decide +kernel
theorem dX11_count_153 : decode cX11_count 153 = .ok (.iaload, 1) := by decide +kernel
theorem dX11_count_154 : decode cX11_count 154 = .ok (.goto 5, 3) := by decide +kernel
theorem dX11_count_157 : decode cX11_count 157 = .ok (.bipush (-9), 2) := by decide +kernel
theorem dX11_count_159 : decode cX11_count 159 = .ok (.ireturn, 1) := by decide +kernel
theorem dX11_refuse_0 : decode cX11_refuse 0 = .ok (.iload_n 1, 1) := by decide +kernel
theorem dX11_refuse_1 : decode cX11_refuse 1 = .ok (.ifCond .ge 20, 3) := by decide +kernel
theorem dX11_refuse_4 : decode cX11_refuse 4 = .ok (.iload_n 1, 1) := by decide +kernel
theorem dX11_refuse_5 : decode cX11_refuse 5 = .ok (.bipush (-6), 2) := by decide +kernel
theorem dX11_refuse_7 : decode cX11_refuse 7 = .ok (.if_icmp .lt 14, 3) := by decide +kernel
theorem dX11_refuse_10 : decode cX11_refuse 10 = .ok (.aload_n 0, 1) := by decide +kernel
theorem dX11_refuse_11 : decode cX11_refuse 11 = .ok (.getfield 63, 3) := by decide +kernel
theorem dX11_refuse_14 : decode cX11_refuse 14 = .ok (.iload_n 1, 1) := by decide +kernel
theorem dX11_refuse_15 : decode cX11_refuse 15 = .ok (.ineg, 1) := by decide +kernel
theorem dX11_refuse_16 : decode cX11_refuse 16 = .ok (.dup2, 1) := by decide +kernel
theorem dX11_refuse_17 : decode cX11_refuse 17 = .ok (.iaload, 1) := by decide +kernel
theorem dX11_refuse_18 : decode cX11_refuse 18 = .ok (.iconst 1, 1) := by decide +kernel
theorem dX11_refuse_19 : decode cX11_refuse 19 = .ok (.iadd, 1) := by decide +kernel
theorem dX11_refuse_20 : decode cX11_refuse 20 = .ok (.iastore, 1) := by decide +kernel
theorem dX11_refuse_21 : decode cX11_refuse 21 = .ok (.iload_n 1, 1) := by decide +kernel
theorem dX11_refuse_22 : decode cX11_refuse 22 = .ok (.ireturn, 1) := by decide +kernel
theorem dX11_lawNow_0 : decode cX11_lawNow 0 = .ok (.aload_n 0, 1) := by decide +kernel
theorem dX11_lawNow_1 : decode cX11_lawNow 1 = .ok (.getfield 52, 3) := by decide +kernel
theorem dX11_lawNow_4 : decode cX11_lawNow 4 = .ok (.aload_n 0, 1) := by decide +kernel
theorem dX11_lawNow_5 : decode cX11_lawNow 5 = .ok (.getfield 10, 3) := by decide +kernel
theorem dX11_lawNow_8 : decode cX11_lawNow 8 = .ok (.getfield 122, 3) := by decide +kernel
theorem dX11_lawNow_11 : decode cX11_lawNow 11 = .ok (.ifCond .lt 28, 3) := by decide +kernel
theorem dX11_lawNow_14 : decode cX11_lawNow 14 = .ok (.aload_n 0, 1) := by decide +kernel
theorem dX11_lawNow_15 : decode cX11_lawNow 15 = .ok (.getfield 10, 3) := by decide +kernel
theorem dX11_lawNow_18 : decode cX11_lawNow 18 = .ok (.getfield 122, 3) := by decide +kernel
theorem dX11_lawNow_21 : decode cX11_lawNow 21 = .ok (.aload_n 0, 1) := by decide +kernel
theorem dX11_lawNow_22 : decode cX11_lawNow 22 = .ok (.getfield 52, 3) := by decide +kernel
theorem dX11_lawNow_25 : decode cX11_lawNow 25 = .ok (.arraylength, 1) := by decide +kernel
theorem dX11_lawNow_26 : decode cX11_lawNow 26 = .ok (.if_icmp .ge 13, 3) := by decide +kernel
theorem dX11_lawNow_29 : decode cX11_lawNow 29 = .ok (.aload_n 0, 1) := by decide +kernel
theorem dX11_lawNow_30 : decode cX11_lawNow 30 = .ok (.getfield 10, 3) := by decide +kernel
theorem dX11_lawNow_33 : decode cX11_lawNow 33 = .ok (.getfield 122, 3) := by decide +kernel
theorem dX11_lawNow_36 : decode cX11_lawNow 36 = .ok (.goto 4, 3) := by decide +kernel
theorem dX11_lawNow_39 : decode cX11_lawNow 39 = .ok (.iconst 0, 1) := by decide +kernel
theorem dX11_lawNow_40 : decode cX11_lawNow 40 = .ok (.aaload, 1) := by decide +kernel
theorem dX11_lawNow_41 : decode cX11_lawNow 41 = .ok (.areturn, 1) := by decide +kernel
theorem dX11_isPlace_0 : decode cX11_isPlace 0 = .ok (.aload_n 0, 1) := by decide +kernel
theorem dX11_isPlace_1 : decode cX11_isPlace 1 = .ok (.getfield 10, 3) := by decide +kernel
theorem dX11_isPlace_4 : decode cX11_isPlace 4 = .ok (.getfield 96, 3) := by decide +kernel
theorem dX11_isPlace_7 : decode cX11_isPlace 7 = .ok (.iload_n 1, 1) := by decide +kernel
theorem dX11_isPlace_8 : decode cX11_isPlace 8 = .ok (.invokevirtual 128, 3) := by decide +kernel
theorem dX11_isPlace_11 : decode cX11_isPlace 11 = .ok (.ifCond .eq 16, 3) := by decide +kernel
theorem dX11_isPlace_14 : decode cX11_isPlace 14 = .ok (.iload_n 2, 1) := by decide +kernel
theorem dX11_isPlace_15 : decode cX11_isPlace 15 = .ok (.ifCond .lt 12, 3) := by decide +kernel
theorem dX11_isPlace_18 : decode cX11_isPlace 18 = .ok (.iload_n 2, 1) := by decide +kernel
theorem dX11_isPlace_19 : decode cX11_isPlace 19 = .ok (.iconst 4, 1) := by decide +kernel
theorem dX11_isPlace_20 : decode cX11_isPlace 20 = .ok (.if_icmp .ge 7, 3) := by decide +kernel
theorem dX11_isPlace_23 : decode cX11_isPlace 23 = .ok (.iconst 1, 1) := by decide +kernel
theorem dX11_isPlace_24 : decode cX11_isPlace 24 = .ok (.goto 4, 3) := by decide +kernel
theorem dX11_isPlace_27 : decode cX11_isPlace 27 = .ok (.iconst 0, 1) := by decide +kernel
theorem dX11_isPlace_28 : decode cX11_isPlace 28 = .ok (.ireturn, 1) := by decide +kernel
theorem dX11_isLetter_0 : decode cX11_isLetter 0 = .ok (.iload_n 0, 1) := by decide +kernel
theorem dX11_isLetter_1 : decode cX11_isLetter 1 = .ok (.istore_n 1, 1) := by decide +kernel
theorem dX11_isLetter_2 : decode cX11_isLetter 2 = .ok (.iconst 0, 1) := by decide +kernel
theorem dX11_isLetter_3 : decode cX11_isLetter 3 = .ok (.istore_n 2, 1) := by decide +kernel
theorem dX11_isLetter_4 : decode cX11_isLetter 4 = .ok (.iload_n 2, 1) := by decide +kernel
theorem dX11_isLetter_5 : decode cX11_isLetter 5 = .ok (.iconst 4, 1) := by decide +kernel
theorem dX11_isLetter_6 : decode cX11_isLetter 6 = .ok (.if_icmp .ge 28, 3) := by decide +kernel
theorem dX11_isLetter_9 : decode cX11_isLetter 9 = .ok (.iload_n 1, 1) := by decide +kernel
theorem dX11_isLetter_10 : decode cX11_isLetter 10 = .ok (.ifCond .lt 11, 3) := by decide +kernel
theorem dX11_isLetter_13 : decode cX11_isLetter 13 = .ok (.iload_n 1, 1) := by decide +kernel
theorem dX11_isLetter_14 : decode cX11_isLetter 14 = .ok (.bipush 10, 2) := by decide +kernel
theorem dX11_isLetter_16 : decode cX11_isLetter 16 = .ok (.irem, 1) := by decide +kernel
theorem dX11_isLetter_17 : decode cX11_isLetter 17 = .ok (.iconst 5, 1) := by decide +kernel
theorem dX11_isLetter_18 : decode cX11_isLetter 18 = .ok (.if_icmp .le 5, 3) := by decide +kernel
theorem dX11_isLetter_21 : decode cX11_isLetter 21 = .ok (.iconst 0, 1) := by decide +kernel
theorem dX11_isLetter_22 : decode cX11_isLetter 22 = .ok (.ireturn, 1) := by decide +kernel
theorem dX11_isLetter_23 : decode cX11_isLetter 23 = .ok (.iload_n 1, 1) := by decide +kernel
theorem dX11_isLetter_24 : decode cX11_isLetter 24 = .ok (.bipush 10, 2) := by decide +kernel
theorem dX11_isLetter_26 : decode cX11_isLetter 26 = .ok (.idiv, 1) := by decide +kernel
theorem dX11_isLetter_27 : decode cX11_isLetter 27 = .ok (.istore_n 1, 1) := by decide +kernel
theorem dX11_isLetter_28 : decode cX11_isLetter 28 = .ok (.iinc 2 1, 3) := by decide +kernel
theorem dX11_isLetter_31 : decode cX11_isLetter 31 = .ok (.goto (-27), 3) := by decide +kernel
theorem dX11_isLetter_34 : decode cX11_isLetter 34 = .ok (.iload_n 1, 1) := by decide +kernel
theorem dX11_isLetter_35 : decode cX11_isLetter 35 = .ok (.ifCond .ne 7, 3) := by decide +kernel
theorem dX11_isLetter_38 : decode cX11_isLetter 38 = .ok (.iconst 1, 1) := by decide +kernel
theorem dX11_isLetter_39 : decode cX11_isLetter 39 = .ok (.goto 4, 3) := by decide +kernel
theorem dX11_isLetter_42 : decode cX11_isLetter 42 = .ok (.iconst 0, 1) := by decide +kernel
theorem dX11_isLetter_43 : decode cX11_isLetter 43 = .ok (.ireturn, 1) := by decide +kernel
theorem dX11_costOf_0 : decode cX11_costOf 0 = .ok (.iconst 0, 1) := by decide +kernel
theorem dX11_costOf_1 : decode cX11_costOf 1 = .ok (.istore_n 1, 1) := by decide +kernel
theorem dX11_costOf_2 : decode cX11_costOf 2 = .ok (.iload_n 0, 1) := by decide +kernel
theorem dX11_costOf_3 : decode cX11_costOf 3 = .ok (.istore_n 2, 1) := by decide +kernel
theorem dX11_costOf_4 : decode cX11_costOf 4 = .ok (.iconst 0, 1) := by decide +kernel
theorem dX11_costOf_5 : decode cX11_costOf 5 = .ok (.istore_n 3, 1) := by decide +kernel
theorem dX11_costOf_6 : decode cX11_costOf 6 = .ok (.iload_n 3, 1) := by decide +kernel
theorem dX11_costOf_7 : decode cX11_costOf 7 = .ok (.iconst 4, 1) := by decide +kernel
theorem dX11_costOf_8 : decode cX11_costOf 8 = .ok (.if_icmp .ge 21, 3) := by decide +kernel
theorem dX11_costOf_11 : decode cX11_costOf 11 = .ok (.iload_n 1, 1) := by decide +kernel
theorem dX11_costOf_12 : decode cX11_costOf 12 = .ok (.iload_n 2, 1) := by decide +kernel
theorem dX11_costOf_13 : decode cX11_costOf 13 = .ok (.bipush 10, 2) := by decide +kernel
theorem dX11_costOf_15 : decode cX11_costOf 15 = .ok (.irem, 1) := by decide +kernel
theorem dX11_costOf_16 : decode cX11_costOf 16 = .ok (.iadd, 1) := by decide +kernel
theorem dX11_costOf_17 : decode cX11_costOf 17 = .ok (.istore_n 1, 1) := by decide +kernel
theorem dX11_costOf_18 : decode cX11_costOf 18 = .ok (.iload_n 2, 1) := by decide +kernel
theorem dX11_costOf_19 : decode cX11_costOf 19 = .ok (.bipush 10, 2) := by decide +kernel
theorem dX11_costOf_21 : decode cX11_costOf 21 = .ok (.idiv, 1) := by decide +kernel
theorem dX11_costOf_22 : decode cX11_costOf 22 = .ok (.istore_n 2, 1) := by decide +kernel
theorem dX11_costOf_23 : decode cX11_costOf 23 = .ok (.iinc 3 1, 3) := by decide +kernel
theorem dX11_costOf_26 : decode cX11_costOf 26 = .ok (.goto (-20), 3) := by decide +kernel
theorem dX11_costOf_29 : decode cX11_costOf 29 = .ok (.iload_n 1, 1) := by decide +kernel
theorem dX11_costOf_30 : decode cX11_costOf 30 = .ok (.ireturn, 1) := by decide +kernel
theorem dX11_leastOf_0 : decode cX11_leastOf 0 = .ok (.iconst 0, 1) := by decide +kernel
theorem dX11_leastOf_1 : decode cX11_leastOf 1 = .ok (.istore_n 1, 1) := by decide +kernel
theorem dX11_leastOf_2 : decode cX11_leastOf 2 = .ok (.iload_n 1, 1) := by decide +kernel
theorem dX11_leastOf_3 : decode cX11_leastOf 3 = .ok (.bipush 30, 2) := by decide +kernel
theorem dX11_leastOf_5 : decode cX11_leastOf 5 = .ok (.if_icmp .gt 20, 3) := by decide +kernel
theorem dX11_leastOf_8 : decode cX11_leastOf 8 = .ok (.iload_n 0, 1) := by decide +kernel
theorem dX11_leastOf_9 : decode cX11_leastOf 9 = .ok (.iload_n 1, 1) := by decide +kernel
theorem dX11_leastOf_10 : decode cX11_leastOf 10 = .ok (.ishr, 1) := by decide +kernel
theorem dX11_leastOf_11 : decode cX11_leastOf 11 = .ok (.iconst 1, 1) := by decide +kernel
theorem dX11_leastOf_12 : decode cX11_leastOf 12 = .ok (.iand, 1) := by decide +kernel
theorem dX11_leastOf_13 : decode cX11_leastOf 13 = .ok (.iconst 1, 1) := by decide +kernel
theorem dX11_leastOf_14 : decode cX11_leastOf 14 = .ok (.if_icmp .ne 5, 3) := by decide +kernel
theorem dX11_leastOf_17 : decode cX11_leastOf 17 = .ok (.iload_n 1, 1) := by decide +kernel
theorem dX11_leastOf_18 : decode cX11_leastOf 18 = .ok (.ireturn, 1) := by decide +kernel
theorem dX11_leastOf_19 : decode cX11_leastOf 19 = .ok (.iinc 1 1, 3) := by decide +kernel
theorem dX11_leastOf_22 : decode cX11_leastOf 22 = .ok (.goto (-20), 3) := by decide +kernel
theorem dX11_leastOf_25 : decode cX11_leastOf 25 = .ok (.bipush (-9), 2) := by decide +kernel
theorem dX11_leastOf_27 : decode cX11_leastOf 27 = .ok (.ireturn, 1) := by decide +kernel
theorem dX11_greatestOf_0 : decode cX11_greatestOf 0 = .ok (.bipush 30, 2) := by decide +kernel
theorem dX11_greatestOf_2 : decode cX11_greatestOf 2 = .ok (.istore_n 1, 1) := by decide +kernel
theorem dX11_greatestOf_3 : decode cX11_greatestOf 3 = .ok (.iload_n 1, 1) := by decide +kernel
theorem dX11_greatestOf_4 : decode cX11_greatestOf 4 = .ok (.ifCond .lt 20, 3) := by decide +kernel
theorem dX11_greatestOf_7 : decode cX11_greatestOf 7 = .ok (.iload_n 0, 1) := by decide +kernel
theorem dX11_greatestOf_8 : decode cX11_greatestOf 8 = .ok (.iload_n 1, 1) := by decide +kernel
theorem dX11_greatestOf_9 : decode cX11_greatestOf 9 = .ok (.ishr, 1) := by decide +kernel
theorem dX11_greatestOf_10 : decode cX11_greatestOf 10 = .ok (.iconst 1, 1) := by decide +kernel
theorem dX11_greatestOf_11 : decode cX11_greatestOf 11 = .ok (.iand, 1) := by decide +kernel
theorem dX11_greatestOf_12 : decode cX11_greatestOf 12 = .ok (.iconst 1, 1) := by decide +kernel
theorem dX11_greatestOf_13 : decode cX11_greatestOf 13 = .ok (.if_icmp .ne 5, 3) := by decide +kernel
theorem dX11_greatestOf_16 : decode cX11_greatestOf 16 = .ok (.iload_n 1, 1) := by decide +kernel
theorem dX11_greatestOf_17 : decode cX11_greatestOf 17 = .ok (.ireturn, 1) := by decide +kernel
theorem dX11_greatestOf_18 : decode cX11_greatestOf 18 = .ok (.iinc 1 (-1), 3) := by decide +kernel
theorem dX11_greatestOf_21 : decode cX11_greatestOf 21 = .ok (.goto (-18), 3) := by decide +kernel
theorem dX11_greatestOf_24 : decode cX11_greatestOf 24 = .ok (.bipush (-9), 2) := by decide +kernel
theorem dX11_greatestOf_26 : decode cX11_greatestOf 26 = .ok (.ireturn, 1) := by decide +kernel
theorem dX11_inLeastTerms_0 : decode cX11_inLeastTerms 0 = .ok (.bipush 100, 2) := by decide +kernel
theorem dX11_inLeastTerms_2 : decode cX11_inLeastTerms 2 = .ok (.istore_n 2, 1) := by decide +kernel
theorem dX11_inLeastTerms_3 : decode cX11_inLeastTerms 3 = .ok (.iload_n 2, 1) := by decide +kernel
theorem dX11_inLeastTerms_4 : decode cX11_inLeastTerms 4 = .ok (.iconst 1, 1) := by decide +kernel
theorem dX11_inLeastTerms_5 : decode cX11_inLeastTerms 5 = .ok (.if_icmp .le 26, 3) := by decide +kernel
theorem dX11_inLeastTerms_8 : decode cX11_inLeastTerms 8 = .ok (.iload_n 1, 1) := by decide +kernel
theorem dX11_inLeastTerms_9 : decode cX11_inLeastTerms 9 = .ok (.iload_n 2, 1) := by decide +kernel
theorem dX11_inLeastTerms_10 : decode cX11_inLeastTerms 10 = .ok (.irem, 1) := by decide +kernel
theorem dX11_inLeastTerms_11 : decode cX11_inLeastTerms 11 = .ok (.ifCond .ne 14, 3) := by decide +kernel
theorem dX11_inLeastTerms_14 : decode cX11_inLeastTerms 14 = .ok (.bipush 100, 2) := by decide +kernel
theorem dX11_inLeastTerms_16 : decode cX11_inLeastTerms 16 = .ok (.iload_n 2, 1) := by decide +kernel
theorem dX11_inLeastTerms_17 : decode cX11_inLeastTerms 17 = .ok (.irem, 1) := by decide +kernel
theorem dX11_inLeastTerms_18 : decode cX11_inLeastTerms 18 = .ok (.ifCond .ne 7, 3) := by decide +kernel
theorem dX11_inLeastTerms_21 : decode cX11_inLeastTerms 21 = .ok (.iload_n 0, 1) := by decide +kernel
theorem dX11_inLeastTerms_22 : decode cX11_inLeastTerms 22 = .ok (.iload_n 2, 1) := by decide +kernel
theorem dX11_inLeastTerms_23 : decode cX11_inLeastTerms 23 = .ok (.idiv, 1) := by decide +kernel
theorem dX11_inLeastTerms_24 : decode cX11_inLeastTerms 24 = .ok (.ireturn, 1) := by decide +kernel
theorem dX11_inLeastTerms_25 : decode cX11_inLeastTerms 25 = .ok (.iinc 2 (-1), 3) := by decide +kernel
theorem dX11_inLeastTerms_28 : decode cX11_inLeastTerms 28 = .ok (.goto (-25), 3) := by decide +kernel
theorem dX11_inLeastTerms_31 : decode cX11_inLeastTerms 31 = .ok (.iload_n 0, 1) := by decide +kernel
theorem dX11_inLeastTerms_32 : decode cX11_inLeastTerms 32 = .ok (.ireturn, 1) := by decide +kernel
theorem dJ6_bitCount_0f7a4_0 : decode cJ6_bitCount_0f7a4 0 = .ok (.iload_n 0, 1) := by decide +kernel
theorem dJ6_bitCount_0f7a4_1 : decode cJ6_bitCount_0f7a4 1 = .ok (.iload_n 0, 1) := by decide +kernel
theorem dJ6_bitCount_0f7a4_2 : decode cJ6_bitCount_0f7a4 2 = .ok (.iconst 1, 1) := by decide +kernel
theorem dJ6_bitCount_0f7a4_3 : decode cJ6_bitCount_0f7a4 3 = .ok (.iushr, 1) := by decide +kernel
theorem dJ6_bitCount_0f7a4_4 : decode cJ6_bitCount_0f7a4 4 = .ok (.ldc_w 265, 3) := by decide +kernel
theorem dJ6_bitCount_0f7a4_7 : decode cJ6_bitCount_0f7a4 7 = .ok (.iand, 1) := by decide +kernel
theorem dJ6_bitCount_0f7a4_8 : decode cJ6_bitCount_0f7a4 8 = .ok (.isub, 1) := by decide +kernel
theorem dJ6_bitCount_0f7a4_9 : decode cJ6_bitCount_0f7a4 9 = .ok (.istore_n 0, 1) := by decide +kernel
theorem dJ6_bitCount_0f7a4_10 : decode cJ6_bitCount_0f7a4 10 = .ok (.iload_n 0, 1) := by decide +kernel
theorem dJ6_bitCount_0f7a4_11 : decode cJ6_bitCount_0f7a4 11 = .ok (.ldc_w 266, 3) := by decide +kernel
theorem dJ6_bitCount_0f7a4_14 : decode cJ6_bitCount_0f7a4 14 = .ok (.iand, 1) := by decide +kernel
theorem dJ6_bitCount_0f7a4_15 : decode cJ6_bitCount_0f7a4 15 = .ok (.iload_n 0, 1) := by decide +kernel
theorem dJ6_bitCount_0f7a4_16 : decode cJ6_bitCount_0f7a4 16 = .ok (.iconst 2, 1) := by decide +kernel
theorem dJ6_bitCount_0f7a4_17 : decode cJ6_bitCount_0f7a4 17 = .ok (.iushr, 1) := by decide +kernel
theorem dJ6_bitCount_0f7a4_18 : decode cJ6_bitCount_0f7a4 18 = .ok (.ldc_w 266, 3) := by decide +kernel
theorem dJ6_bitCount_0f7a4_21 : decode cJ6_bitCount_0f7a4 21 = .ok (.iand, 1) := by decide +kernel
theorem dJ6_bitCount_0f7a4_22 : decode cJ6_bitCount_0f7a4 22 = .ok (.iadd, 1) := by decide +kernel
theorem dJ6_bitCount_0f7a4_23 : decode cJ6_bitCount_0f7a4 23 = .ok (.istore_n 0, 1) := by decide +kernel
theorem dJ6_bitCount_0f7a4_24 : decode cJ6_bitCount_0f7a4 24 = .ok (.iload_n 0, 1) := by decide +kernel
theorem dJ6_bitCount_0f7a4_25 : decode cJ6_bitCount_0f7a4 25 = .ok (.iload_n 0, 1) := by decide +kernel
theorem dJ6_bitCount_0f7a4_26 : decode cJ6_bitCount_0f7a4 26 = .ok (.iconst 4, 1) := by decide +kernel
theorem dJ6_bitCount_0f7a4_27 : decode cJ6_bitCount_0f7a4 27 = .ok (.iushr, 1) := by decide +kernel
theorem dJ6_bitCount_0f7a4_28 : decode cJ6_bitCount_0f7a4 28 = .ok (.iadd, 1) := by decide +kernel
theorem dJ6_bitCount_0f7a4_29 : decode cJ6_bitCount_0f7a4 29 = .ok (.ldc_w 267, 3) := by decide +kernel
theorem dJ6_bitCount_0f7a4_32 : decode cJ6_bitCount_0f7a4 32 = .ok (.iand, 1) := by decide +kernel
theorem dJ6_bitCount_0f7a4_33 : decode cJ6_bitCount_0f7a4 33 = .ok (.istore_n 0, 1) := by decide +kernel
theorem dJ6_bitCount_0f7a4_34 : decode cJ6_bitCount_0f7a4 34 = .ok (.iload_n 0, 1) := by decide +kernel
theorem dJ6_bitCount_0f7a4_35 : decode cJ6_bitCount_0f7a4 35 = .ok (.iload_n 0, 1) := by decide +kernel
theorem dJ6_bitCount_0f7a4_36 : decode cJ6_bitCount_0f7a4 36 = .ok (.bipush 8, 2) := by decide +kernel
theorem dJ6_bitCount_0f7a4_38 : decode cJ6_bitCount_0f7a4 38 = .ok (.iushr, 1) := by decide +kernel
theorem dJ6_bitCount_0f7a4_39 : decode cJ6_bitCount_0f7a4 39 = .ok (.iadd, 1) := by decide +kernel
theorem dJ6_bitCount_0f7a4_40 : decode cJ6_bitCount_0f7a4 40 = .ok (.istore_n 0, 1) := by decide +kernel
theorem dJ6_bitCount_0f7a4_41 : decode cJ6_bitCount_0f7a4 41 = .ok (.iload_n 0, 1) := by decide +kernel
theorem dJ6_bitCount_0f7a4_42 : decode cJ6_bitCount_0f7a4 42 = .ok (.iload_n 0, 1) := by decide +kernel
theorem dJ6_bitCount_0f7a4_43 : decode cJ6_bitCount_0f7a4 43 = .ok (.bipush 16, 2) := by decide +kernel
theorem dJ6_bitCount_0f7a4_45 : decode cJ6_bitCount_0f7a4 45 = .ok (.iushr, 1) := by decide +kernel
theorem dJ6_bitCount_0f7a4_46 : decode cJ6_bitCount_0f7a4 46 = .ok (.iadd, 1) := by decide +kernel
theorem dJ6_bitCount_0f7a4_47 : decode cJ6_bitCount_0f7a4 47 = .ok (.istore_n 0, 1) := by decide +kernel
theorem dJ6_bitCount_0f7a4_48 : decode cJ6_bitCount_0f7a4 48 = .ok (.iload_n 0, 1) := by decide +kernel
theorem dJ6_bitCount_0f7a4_49 : decode cJ6_bitCount_0f7a4 49 = .ok (.bipush 63, 2) := by decide +kernel
theorem dJ6_bitCount_0f7a4_51 : decode cJ6_bitCount_0f7a4 51 = .ok (.iand, 1) := by decide +kernel
theorem dJ6_bitCount_0f7a4_52 : decode cJ6_bitCount_0f7a4 52 = .ok (.ireturn, 1) := by decide +kernel
theorem dJ9_max_7cf53_0 : decode cJ9_max_7cf53 0 = .ok (.iload_n 0, 1) := by decide +kernel
theorem dJ9_max_7cf53_1 : decode cJ9_max_7cf53 1 = .ok (.iload_n 1, 1) := by decide +kernel
theorem dJ9_max_7cf53_2 : decode cJ9_max_7cf53 2 = .ok (.if_icmp .lt 7, 3) := by decide +kernel
theorem dJ9_max_7cf53_5 : decode cJ9_max_7cf53 5 = .ok (.iload_n 0, 1) := by decide +kernel
theorem dJ9_max_7cf53_6 : decode cJ9_max_7cf53 6 = .ok (.goto 4, 3) := by decide +kernel
theorem dJ9_max_7cf53_9 : decode cJ9_max_7cf53 9 = .ok (.iload_n 1, 1) := by decide +kernel
theorem dJ9_max_7cf53_10 : decode cJ9_max_7cf53 10 = .ok (.ireturn, 1) := by decide +kernel
theorem dJ9_min_7cf53_0 : decode cJ9_min_7cf53 0 = .ok (.iload_n 0, 1) := by decide +kernel
theorem dJ9_min_7cf53_1 : decode cJ9_min_7cf53 1 = .ok (.iload_n 1, 1) := by decide +kernel
theorem dJ9_min_7cf53_2 : decode cJ9_min_7cf53 2 = .ok (.if_icmp .gt 7, 3) := by decide +kernel
theorem dJ9_min_7cf53_5 : decode cJ9_min_7cf53 5 = .ok (.iload_n 0, 1) := by decide +kernel
theorem dJ9_min_7cf53_6 : decode cJ9_min_7cf53 6 = .ok (.goto 4, 3) := by decide +kernel
theorem dJ9_min_7cf53_9 : decode cJ9_min_7cf53 9 = .ok (.iload_n 1, 1) := by decide +kernel
theorem dJ9_min_7cf53_10 : decode cJ9_min_7cf53 10 = .ok (.ireturn, 1) := by decide +kernel
theorem dJ0_length_8abf5_0 : decode cJ0_length_8abf5 0 = .ok (.aload_n 0, 1) := by decide +kernel
theorem dJ0_length_8abf5_1 : decode cJ0_length_8abf5 1 = .ok (.getfield 9, 3) := by decide +kernel
theorem dJ0_length_8abf5_4 : decode cJ0_length_8abf5 4 = .ok (.arraylength, 1) := by decide +kernel
theorem dJ0_length_8abf5_5 : decode cJ0_length_8abf5 5 = .ok (.aload_n 0, 1) := by decide +kernel
theorem dJ0_length_8abf5_6 : decode cJ0_length_8abf5 6 = .ok (.invokevirtual 335, 3) := by decide +kernel
theorem dJ0_length_8abf5_9 : decode cJ0_length_8abf5 9 = .ok (.ishr, 1) := by decide +kernel
theorem dJ0_length_8abf5_10 : decode cJ0_length_8abf5 10 = .ok (.ireturn, 1) := by decide +kernel
theorem dJ0_charAt_5068e_0 : decode cJ0_charAt_5068e 0 = .ok (.aload_n 0, 1) := by decide +kernel
theorem dJ0_charAt_5068e_1 : decode cJ0_charAt_5068e 1 = .ok (.invokevirtual 492, 3) := by decide +kernel
theorem dJ0_charAt_5068e_4 : decode cJ0_charAt_5068e 4 = .ok (.ifCond .eq 12, 3) := by decide +kernel
theorem dJ0_charAt_5068e_7 : decode cJ0_charAt_5068e 7 = .ok (.aload_n 0, 1) := by decide +kernel
theorem dJ0_charAt_5068e_8 : decode cJ0_charAt_5068e 8 = .ok (.getfield 9, 3) := by decide +kernel
theorem dJ0_charAt_5068e_11 : decode cJ0_charAt_5068e 11 = .ok (.iload_n 1, 1) := by decide +kernel
theorem dJ0_charAt_5068e_12 : decode cJ0_charAt_5068e 12 = .ok (.invokestatic 495, 3) := by decide +kernel
theorem dJ0_charAt_5068e_15 : decode cJ0_charAt_5068e 15 = .ok (.ireturn, 1) := by decide +kernel
theorem dJ0_charAt_5068e_16 : decode cJ0_charAt_5068e 16 = .ok (.aload_n 0, 1) := by decide +kernel
theorem dJ0_charAt_5068e_17 : decode cJ0_charAt_5068e 17 = .ok (.getfield 9, 3) := by decide +kernel
theorem dJ0_charAt_5068e_20 : decode cJ0_charAt_5068e 20 = .ok (.iload_n 1, 1) := by decide +kernel
theorem dJ0_charAt_5068e_21 : decode cJ0_charAt_5068e 21 = .ok (.invokestatic 498, 3) := by decide +kernel
theorem dJ0_charAt_5068e_24 : decode cJ0_charAt_5068e 24 = .ok (.ireturn, 1) := by decide +kernel
theorem dJ0_coder_7d493_0 : decode cJ0_coder_7d493 0 = .ok (.getstatic 38, 3) := by decide +kernel
theorem dJ0_coder_7d493_3 : decode cJ0_coder_7d493 3 = .ok (.ifCond .eq 10, 3) := by decide +kernel
theorem dJ0_coder_7d493_6 : decode cJ0_coder_7d493 6 = .ok (.aload_n 0, 1) := by decide +kernel
theorem dJ0_coder_7d493_7 : decode cJ0_coder_7d493 7 = .ok (.getfield 15, 3) := by decide +kernel
theorem dJ0_coder_7d493_10 : decode cJ0_coder_7d493 10 = .ok (.goto 4, 3) := by decide +kernel
theorem dJ0_coder_7d493_13 : decode cJ0_coder_7d493 13 = .ok (.iconst 1, 1) := by decide +kernel
theorem dJ0_coder_7d493_14 : decode cJ0_coder_7d493 14 = .ok (.ireturn, 1) := by decide +kernel
theorem dJ0_isLatin1_aae02_0 : decode cJ0_isLatin1_aae02 0 = .ok (.getstatic 38, 3) := by decide +kernel
theorem dJ0_isLatin1_aae02_3 : decode cJ0_isLatin1_aae02 3 = .ok (.ifCond .eq 14, 3) := by decide +kernel
theorem dJ0_isLatin1_aae02_6 : decode cJ0_isLatin1_aae02 6 = .ok (.aload_n 0, 1) := by decide +kernel
theorem dJ0_isLatin1_aae02_7 : decode cJ0_isLatin1_aae02 7 = .ok (.getfield 15, 3) := by decide +kernel
theorem dJ0_isLatin1_aae02_10 : decode cJ0_isLatin1_aae02 10 = .ok (.ifCond .ne 7, 3) := by decide +kernel
theorem dJ0_isLatin1_aae02_13 : decode cJ0_isLatin1_aae02 13 = .ok (.iconst 1, 1) := by decide +kernel
theorem dJ0_isLatin1_aae02_14 : decode cJ0_isLatin1_aae02 14 = .ok (.goto 4, 3) := by decide +kernel
theorem dJ0_isLatin1_aae02_17 : decode cJ0_isLatin1_aae02 17 = .ok (.iconst 0, 1) := by decide +kernel
theorem dJ0_isLatin1_aae02_18 : decode cJ0_isLatin1_aae02 18 = .ok (.ireturn, 1) := by decide +kernel
theorem dJ0_checkIndex_df160_0 : decode cJ0_checkIndex_df160 0 = .ok (.iload_n 0, 1) := by decide +kernel
theorem dJ0_checkIndex_df160_1 : decode cJ0_checkIndex_df160 1 = .ok (.iload_n 1, 1) := by decide +kernel
theorem dJ0_checkIndex_df160_2 : decode cJ0_checkIndex_df160 2 = .ok (.getstatic 1053, 3) := by decide +kernel
theorem dJ0_checkIndex_df160_5 : decode cJ0_checkIndex_df160 5 = .ok (.invokestatic 1059, 3) := by decide +kernel
theorem dJ0_checkIndex_df160_8 : decode cJ0_checkIndex_df160 8 = .ok (.pop, 1) := by decide +kernel
theorem dJ0_checkIndex_df160_9 : decode cJ0_checkIndex_df160 9 = .ok (.return_, 1) := by decide +kernel
theorem dJ1_charAt_3b067_0 : decode cJ1_charAt_3b067 0 = .ok (.iload_n 1, 1) := by decide +kernel
theorem dJ1_charAt_3b067_1 : decode cJ1_charAt_3b067 1 = .ok (.aload_n 0, 1) := by decide +kernel
theorem dJ1_charAt_3b067_2 : decode cJ1_charAt_3b067 2 = .ok (.arraylength, 1) := by decide +kernel
theorem dJ1_charAt_3b067_3 : decode cJ1_charAt_3b067 3 = .ok (.invokestatic 9, 3) := by decide +kernel
theorem dJ1_charAt_3b067_6 : decode cJ1_charAt_3b067 6 = .ok (.aload_n 0, 1) := by decide +kernel
theorem dJ1_charAt_3b067_7 : decode cJ1_charAt_3b067 7 = .ok (.iload_n 1, 1) := by decide +kernel
theorem dJ1_charAt_3b067_8 : decode cJ1_charAt_3b067 8 = .ok (.baload, 1) := by decide +kernel
theorem dJ1_charAt_3b067_9 : decode cJ1_charAt_3b067 9 = .ok (.sipush 255, 3) := by decide +kernel
theorem dJ1_charAt_3b067_12 : decode cJ1_charAt_3b067 12 = .ok (.iand, 1) := by decide +kernel
theorem dJ1_charAt_3b067_13 : decode cJ1_charAt_3b067 13 = .ok (.i2c, 1) := by decide +kernel
theorem dJ1_charAt_3b067_14 : decode cJ1_charAt_3b067 14 = .ok (.ireturn, 1) := by decide +kernel
theorem dJ2_getChar_3b067_0 : decode cJ2_getChar_3b067 0 = .ok (.getstatic 44, 3) := by decide +kernel
theorem dJ2_getChar_3b067_3 : decode cJ2_getChar_3b067 3 = .ok (.ifCond .ne 25, 3) := by decide +kernel
theorem dJ2_getChar_3b067_6 : decode cJ2_getChar_3b067 6 = .ok (.iload_n 1, 1) := by decide +kernel
theorem dJ2_getChar_3b067_7 : decode cJ2_getChar_3b067 7 = .ok (.ifCond .lt 11, 3) := by decide +kernel
theorem dJ2_getChar_3b067_10 : decode cJ2_getChar_3b067 10 = .ok (.iload_n 1, 1) := by decide +kernel
theorem dJ2_getChar_3b067_11 : decode cJ2_getChar_3b067 11 = .ok (.aload_n 0, 1) := by decide +kernel
theorem dJ2_getChar_3b067_12 : decode cJ2_getChar_3b067 12 = .ok (.invokestatic 48, 3) := by decide +kernel
theorem dJ2_getChar_3b067_15 : decode cJ2_getChar_3b067 15 = .ok (.if_icmp .lt 13, 3) := by decide +kernel
theorem dJ2_getChar_3b067_18 : decode cJ2_getChar_3b067 18 = .ok (.new 52, 3) := by decide +kernel
theorem dJ2_getChar_3b067_21 : decode cJ2_getChar_3b067 21 = .ok (.dup, 1) := by decide +kernel
theorem dJ2_getChar_3b067_22 : decode cJ2_getChar_3b067 22 = .ok (.ldc 54, 2) := by decide +kernel
theorem dJ2_getChar_3b067_24 : decode cJ2_getChar_3b067 24 = .ok (.invokespecial 56, 3) := by decide +kernel
theorem dJ2_getChar_3b067_27 : decode cJ2_getChar_3b067 27 = .ok (.athrow, 1) := by decide +kernel
theorem dJ2_getChar_3b067_28 : decode cJ2_getChar_3b067 28 = .ok (.iload_n 1, 1) := by decide +kernel
theorem dJ2_getChar_3b067_29 : decode cJ2_getChar_3b067 29 = .ok (.iconst 1, 1) := by decide +kernel
theorem dJ2_getChar_3b067_30 : decode cJ2_getChar_3b067 30 = .ok (.ishl, 1) := by decide +kernel
theorem dJ2_getChar_3b067_31 : decode cJ2_getChar_3b067 31 = .ok (.istore_n 1, 1) := by decide +kernel
theorem dJ2_getChar_3b067_32 : decode cJ2_getChar_3b067 32 = .ok (.aload_n 0, 1) := by decide +kernel
theorem dJ2_getChar_3b067_33 : decode cJ2_getChar_3b067 33 = .ok (.iload_n 1, 1) := by decide +kernel
theorem dJ2_getChar_3b067_34 : decode cJ2_getChar_3b067 34 = .ok (.iinc 1 1, 3) := by decide +kernel
theorem dJ2_getChar_3b067_37 : decode cJ2_getChar_3b067 37 = .ok (.baload, 1) := by decide +kernel
theorem dJ2_getChar_3b067_38 : decode cJ2_getChar_3b067 38 = .ok (.sipush 255, 3) := by decide +kernel
theorem dJ2_getChar_3b067_41 : decode cJ2_getChar_3b067 41 = .ok (.iand, 1) := by decide +kernel
theorem dJ2_getChar_3b067_42 : decode cJ2_getChar_3b067 42 = .ok (.getstatic 59, 3) := by decide +kernel
theorem dJ2_getChar_3b067_45 : decode cJ2_getChar_3b067 45 = .ok (.ishl, 1) := by decide +kernel
theorem dJ2_getChar_3b067_46 : decode cJ2_getChar_3b067 46 = .ok (.aload_n 0, 1) := by decide +kernel
theorem dJ2_getChar_3b067_47 : decode cJ2_getChar_3b067 47 = .ok (.iload_n 1, 1) := by decide +kernel
theorem dJ2_getChar_3b067_48 : decode cJ2_getChar_3b067 48 = .ok (.baload, 1) := by decide +kernel
theorem dJ2_getChar_3b067_49 : decode cJ2_getChar_3b067 49 = .ok (.sipush 255, 3) := by decide +kernel
theorem dJ2_getChar_3b067_52 : decode cJ2_getChar_3b067 52 = .ok (.iand, 1) := by decide +kernel
theorem dJ2_getChar_3b067_53 : decode cJ2_getChar_3b067 53 = .ok (.getstatic 63, 3) := by decide +kernel
theorem dJ2_getChar_3b067_56 : decode cJ2_getChar_3b067 56 = .ok (.ishl, 1) := by decide +kernel
theorem dJ2_getChar_3b067_57 : decode cJ2_getChar_3b067 57 = .ok (.ior, 1) := by decide +kernel
theorem dJ2_getChar_3b067_58 : decode cJ2_getChar_3b067 58 = .ok (.i2c, 1) := by decide +kernel
theorem dJ2_getChar_3b067_59 : decode cJ2_getChar_3b067 59 = .ok (.ireturn, 1) := by decide +kernel
theorem dJ2_length_9d52b_0 : decode cJ2_length_9d52b 0 = .ok (.aload_n 0, 1) := by decide +kernel
theorem dJ2_length_9d52b_1 : decode cJ2_length_9d52b 1 = .ok (.arraylength, 1) := by decide +kernel
theorem dJ2_length_9d52b_2 : decode cJ2_length_9d52b 2 = .ok (.iconst 1, 1) := by decide +kernel
theorem dJ2_length_9d52b_3 : decode cJ2_length_9d52b 3 = .ok (.ishr, 1) := by decide +kernel
theorem dJ2_length_9d52b_4 : decode cJ2_length_9d52b 4 = .ok (.ireturn, 1) := by decide +kernel
theorem dJ2_charAt_3b067_0 : decode cJ2_charAt_3b067 0 = .ok (.iload_n 1, 1) := by decide +kernel
theorem dJ2_charAt_3b067_1 : decode cJ2_charAt_3b067 1 = .ok (.aload_n 0, 1) := by decide +kernel
theorem dJ2_charAt_3b067_2 : decode cJ2_charAt_3b067 2 = .ok (.invokestatic 67, 3) := by decide +kernel
theorem dJ2_charAt_3b067_5 : decode cJ2_charAt_3b067 5 = .ok (.aload_n 0, 1) := by decide +kernel
theorem dJ2_charAt_3b067_6 : decode cJ2_charAt_3b067 6 = .ok (.iload_n 1, 1) := by decide +kernel
theorem dJ2_charAt_3b067_7 : decode cJ2_charAt_3b067 7 = .ok (.invokestatic 71, 3) := by decide +kernel
theorem dJ2_charAt_3b067_10 : decode cJ2_charAt_3b067 10 = .ok (.ireturn, 1) := by decide +kernel
theorem dJ2_checkIndex_2214a_0 : decode cJ2_checkIndex_2214a 0 = .ok (.iload_n 0, 1) := by decide +kernel
theorem dJ2_checkIndex_2214a_1 : decode cJ2_checkIndex_2214a 1 = .ok (.aload_n 1, 1) := by decide +kernel
theorem dJ2_checkIndex_2214a_2 : decode cJ2_checkIndex_2214a 2 = .ok (.invokestatic 48, 3) := by decide +kernel
theorem dJ2_checkIndex_2214a_5 : decode cJ2_checkIndex_2214a 5 = .ok (.invokestatic 414, 3) := by decide +kernel
theorem dJ2_checkIndex_2214a_8 : decode cJ2_checkIndex_2214a 8 = .ok (.return_, 1) := by decide +kernel
theorem dJ3_checkIndex_8e157_0 : decode cJ3_checkIndex_8e157 0 = .ok (.iload_n 0, 1) := by decide +kernel
theorem dJ3_checkIndex_8e157_1 : decode cJ3_checkIndex_8e157 1 = .ok (.ifCond .lt 8, 3) := by decide +kernel
theorem dJ3_checkIndex_8e157_4 : decode cJ3_checkIndex_8e157 4 = .ok (.iload_n 0, 1) := by decide +kernel
theorem dJ3_checkIndex_8e157_5 : decode cJ3_checkIndex_8e157 5 = .ok (.iload_n 1, 1) := by decide +kernel
theorem dJ3_checkIndex_8e157_6 : decode cJ3_checkIndex_8e157 6 = .ok (.if_icmp .lt 10, 3) := by decide +kernel
theorem dJ3_checkIndex_8e157_9 : decode cJ3_checkIndex_8e157 9 = .ok (.aload_n 2, 1) := by decide +kernel
theorem dJ3_checkIndex_8e157_10 : decode cJ3_checkIndex_8e157 10 = .ok (.iload_n 0, 1) := by decide +kernel
theorem dJ3_checkIndex_8e157_11 : decode cJ3_checkIndex_8e157 11 = .ok (.iload_n 1, 1) := by decide +kernel
theorem dJ3_checkIndex_8e157_12 : decode cJ3_checkIndex_8e157 12 = .ok (.invokestatic 95, 3) := by decide +kernel
theorem dJ3_checkIndex_8e157_15 : decode cJ3_checkIndex_8e157 15 = .ok (.athrow, 1) := by decide +kernel
theorem dJ3_checkIndex_8e157_16 : decode cJ3_checkIndex_8e157 16 = .ok (.iload_n 0, 1) := by decide +kernel
theorem dJ3_checkIndex_8e157_17 : decode cJ3_checkIndex_8e157 17 = .ok (.ireturn, 1) := by decide +kernel
