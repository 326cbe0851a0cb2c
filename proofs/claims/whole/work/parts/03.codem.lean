theorem dX12_init_0 : decode cX12_init 0 = .ok (.aload_n 0, 1) := by decide +kernel
theorem dX12_init_1 : decode cX12_init 1 = .ok (.invokespecial 1, 3) := by decide +kernel
theorem dX12_init_4 : decode cX12_init 4 = .ok (.aload_n 0, 1) := by decide +kernel
theorem dX12_init_5 : decode cX12_init 5 = .ok (.bipush 7, 2) := by decide +kernel
theorem dX12_init_7 : decode cX12_init 7 = .ok (.newarray .int, 2) := by decide +kernel
theorem dX12_init_9 : decode cX12_init 9 = .ok (.putfield 7, 3) := by decide +kernel
theorem dX12_init_12 : decode cX12_init 12 = .ok (.aload_n 0, 1) := by decide +kernel
theorem dX12_init_13 : decode cX12_init 13 = .ok (.bipush 24, 2) := by decide +kernel
theorem dX12_init_15 : decode cX12_init 15 = .ok (.newarray .int, 2) := by decide +kernel
theorem dX12_init_17 : decode cX12_init 17 = .ok (.putfield 13, 3) := by decide +kernel
theorem dX12_init_20 : decode cX12_init 20 = .ok (.aload_n 0, 1) := by decide +kernel
theorem dX12_init_21 : decode cX12_init 21 = .ok (.bipush 6, 2) := by decide +kernel
theorem dX12_init_23 : decode cX12_init 23 = .ok (.newarray .int, 2) := by decide +kernel
theorem dX12_init_25 : decode cX12_init 25 = .ok (.putfield 16, 3) := by decide +kernel
theorem dX12_init_28 : decode cX12_init 28 = .ok (.aload_n 0, 1) := by decide +kernel
theorem dX12_init_29 : decode cX12_init 29 = .ok (.iconst 4, 1) := by decide +kernel
theorem dX12_init_30 : decode cX12_init 30 = .ok (.newarray .int, 2) := by decide +kernel
theorem dX12_init_32 : decode cX12_init 32 = .ok (.putfield 19, 3) := by decide +kernel
theorem dX12_init_35 : decode cX12_init 35 = .ok (.aload_n 0, 1) := by decide +kernel
theorem dX12_init_36 : decode cX12_init 36 = .ok (.iconst 4, 1) := by decide +kernel
theorem dX12_init_37 : decode cX12_init 37 = .ok (.newarray .int, 2) := by decide +kernel
theorem dX12_init_39 : decode cX12_init 39 = .ok (.putfield 22, 3) := by decide +kernel
theorem dX12_init_42 : decode cX12_init 42 = .ok (.aload_n 0, 1) := by decide +kernel
theorem dX12_init_43 : decode cX12_init 43 = .ok (.iconst 4, 1) := by decide +kernel
theorem dX12_init_44 : decode cX12_init 44 = .ok (.newarray .int, 2) := by decide +kernel
theorem dX12_init_46 : decode cX12_init 46 = .ok (.putfield 25, 3) := by decide +kernel
theorem dX12_init_49 : decode cX12_init 49 = .ok (.aload_n 0, 1) := by decide +kernel
theorem dX12_init_50 : decode cX12_init 50 = .ok (.iconst 5, 1) := by decide +kernel
theorem dX12_init_51 : decode cX12_init 51 = .ok (.newarray .int, 2) := by decide +kernel
theorem dX12_init_53 : decode cX12_init 53 = .ok (.putfield 28, 3) := by decide +kernel
theorem dX12_init_56 : decode cX12_init 56 = .ok (.aload_n 0, 1) := by decide +kernel
theorem dX12_init_57 : decode cX12_init 57 = .ok (.bipush 6, 2) := by decide +kernel
theorem dX12_init_59 : decode cX12_init 59 = .ok (.newarray .int, 2) := by decide +kernel
theorem dX12_init_61 : decode cX12_init 61 = .ok (.putfield 31, 3) := by decide +kernel
theorem dX12_init_64 : decode cX12_init 64 = .ok (.aload_n 0, 1) := by decide +kernel
theorem dX12_init_65 : decode cX12_init 65 = .ok (.bipush 6, 2) := by decide +kernel
theorem dX12_init_67 : decode cX12_init 67 = .ok (.newarray .int, 2) := by decide +kernel
theorem dX12_init_69 : decode cX12_init 69 = .ok (.putfield 34, 3) := by decide +kernel
theorem dX12_init_72 : decode cX12_init 72 = .ok (.aload_n 0, 1) := by decide +kernel
theorem dX12_init_73 : decode cX12_init 73 = .ok (.bipush 64, 2) := by decide +kernel
theorem dX12_init_75 : decode cX12_init 75 = .ok (.newarray .int, 2) := by decide +kernel
theorem dX12_init_77 : decode cX12_init 77 = .ok (.putfield 37, 3) := by decide +kernel
theorem dX12_init_80 : decode cX12_init 80 = .ok (.aload_n 0, 1) := by decide +kernel
theorem dX12_init_81 : decode cX12_init 81 = .ok (.bipush 32, 2) := by decide +kernel
theorem dX12_init_83 : decode cX12_init 83 = .ok (.newarray .int, 2) := by decide +kernel
theorem dX12_init_85 : decode cX12_init 85 = .ok (.putfield 40, 3) := by decide +kernel
theorem dX12_init_88 : decode cX12_init 88 = .ok (.aload_n 0, 1) := by decide +kernel
theorem dX12_init_89 : decode cX12_init 89 = .ok (.bipush 32, 2) := by decide +kernel
theorem dX12_init_91 : decode cX12_init 91 = .ok (.newarray .int, 2) := by decide +kernel
theorem dX12_init_93 : decode cX12_init 93 = .ok (.putfield 43, 3) := by decide +kernel
theorem dX12_init_96 : decode cX12_init 96 = .ok (.aload_n 0, 1) := by decide +kernel
theorem dX12_init_97 : decode cX12_init 97 = .ok (.bipush 32, 2) := by decide +kernel
theorem dX12_init_99 : decode cX12_init 99 = .ok (.newarray .int, 2) := by decide +kernel
theorem dX12_init_101 : decode cX12_init 101 = .ok (.putfield 46, 3) := by decide +kernel
theorem dX12_init_104 : decode cX12_init 104 = .ok (.aload_n 0, 1) := by decide +kernel
theorem dX12_init_105 : decode cX12_init 105 = .ok (.bipush 32, 2) := by decide +kernel
theorem dX12_init_107 : decode cX12_init 107 = .ok (.newarray .int, 2) := by decide +kernel
theorem dX12_init_109 : decode cX12_init 109 = .ok (.putfield 49, 3) := by decide +kernel
theorem dX12_init_112 : decode cX12_init 112 = .ok (.aload_n 0, 1) := by decide +kernel
theorem dX12_init_113 : decode cX12_init 113 = .ok (.bipush 32, 2) := by decide +kernel
theorem dX12_init_115 : decode cX12_init 115 = .ok (.newarray .int, 2) := by decide +kernel
theorem dX12_init_117 : decode cX12_init 117 = .ok (.putfield 52, 3) := by decide +kernel
theorem dX12_init_120 : decode cX12_init 120 = .ok (.aload_n 0, 1) := by decide +kernel
theorem dX12_init_121 : decode cX12_init 121 = .ok (.bipush 32, 2) := by decide +kernel
theorem dX12_init_123 : decode cX12_init 123 = .ok (.newarray .int, 2) := by decide +kernel
theorem dX12_init_125 : decode cX12_init 125 = .ok (.putfield 55, 3) := by decide +kernel
theorem dX12_init_128 : decode cX12_init 128 = .ok (.aload_n 0, 1) := by decide +kernel
theorem dX12_init_129 : decode cX12_init 129 = .ok (.bipush 32, 2) := by decide +kernel
theorem dX12_init_131 : decode cX12_init 131 = .ok (.newarray .int, 2) := by decide +kernel
theorem dX12_init_133 : decode cX12_init 133 = .ok (.putfield 58, 3) := by decide +kernel
theorem dX12_init_136 : decode cX12_init 136 = .ok (.aload_n 0, 1) := by decide +kernel
theorem dX12_init_137 : decode cX12_init 137 = .ok (.sipush 300, 3) := by decide +kernel
theorem dX12_init_140 : decode cX12_init 140 = .ok (.newarray .int, 2) := by decide +kernel
theorem dX12_init_142 : decode cX12_init 142 = .ok (.putfield 61, 3) := by decide +kernel
theorem dX12_init_145 : decode cX12_init 145 = .ok (.aload_n 0, 1) := by decide +kernel
theorem dX12_init_146 : decode cX12_init 146 = .ok (.bipush 120, 2) := by decide +kernel
theorem dX12_init_148 : decode cX12_init 148 = .ok (.newarray .int, 2) := by decide +kernel
theorem dX12_init_150 : decode cX12_init 150 = .ok (.putfield 64, 3) := by decide +kernel
theorem dX12_init_153 : decode cX12_init 153 = .ok (.aload_n 0, 1) := by decide +kernel
theorem dX12_init_154 : decode cX12_init 154 = .ok (.iconst 5, 1) := by decide +kernel
theorem dX12_init_155 : decode cX12_init 155 = .ok (.newarray .int, 2) := by decide +kernel
theorem dX12_init_157 : decode cX12_init 157 = .ok (.putfield 67, 3) := by decide +kernel
theorem dX12_init_160 : decode cX12_init 160 = .ok (.aload_n 0, 1) := by decide +kernel
theorem dX12_init_161 : decode cX12_init 161 = .ok (.iconst 5, 1) := by decide +kernel
theorem dX12_init_162 : decode cX12_init 162 = .ok (.newarray .int, 2) := by decide +kernel
theorem dX12_init_164 : decode cX12_init 164 = .ok (.putfield 70, 3) := by decide +kernel
theorem dX12_init_167 : decode cX12_init 167 = .ok (.aload_n 0, 1) := by decide +kernel
theorem dX12_init_168 : decode cX12_init 168 = .ok (.bipush 8, 2) := by decide +kernel
theorem dX12_init_170 : decode cX12_init 170 = .ok (.newarray .int, 2) := by decide +kernel
theorem dX12_init_172 : decode cX12_init 172 = .ok (.putfield 73, 3) := by decide +kernel
theorem dX12_init_175 : decode cX12_init 175 = .ok (.return_, 1) := by decide +kernel
theorem dX12_no_0 : decode cX12_no 0 = .ok (.aload_n 0, 1) := by decide +kernel
theorem dX12_no_1 : decode cX12_no 1 = .ok (.getfield 7, 3) := by decide +kernel
theorem dX12_no_4 : decode cX12_no 4 = .ok (.iload_n 1, 1) := by decide +kernel
theorem dX12_no_5 : decode cX12_no 5 = .ok (.ineg, 1) := by decide +kernel
theorem dX12_no_6 : decode cX12_no 6 = .ok (.dup2, 1) := by decide +kernel
theorem dX12_no_7 : decode cX12_no 7 = .ok (.iaload, 1) := by decide +kernel
theorem dX12_no_8 : decode cX12_no 8 = .ok (.iconst 1, 1) := by decide +kernel
theorem dX12_no_9 : decode cX12_no 9 = .ok (.iadd, 1) := by decide +kernel
theorem dX12_no_10 : decode cX12_no 10 = .ok (.iastore, 1) := by decide +kernel
theorem dX12_no_11 : decode cX12_no 11 = .ok (.iload_n 1, 1) := by decide +kernel
theorem dX12_no_12 : decode cX12_no 12 = .ok (.ireturn, 1) := by decide +kernel
theorem dX12_isIn_0 : decode cX12_isIn 0 = .ok (.iload_n 0, 1) := by decide +kernel
theorem dX12_isIn_1 : decode cX12_isIn 1 = .ok (.iload_n 1, 1) := by decide +kernel
theorem dX12_isIn_2 : decode cX12_isIn 2 = .ok (.if_icmp .lt 12, 3) := by decide +kernel
theorem dX12_isIn_5 : decode cX12_isIn 5 = .ok (.iload_n 0, 1) := by decide +kernel
theorem dX12_isIn_6 : decode cX12_isIn 6 = .ok (.iload_n 2, 1) := by decide +kernel
theorem dX12_isIn_7 : decode cX12_isIn 7 = .ok (.if_icmp .gt 7, 3) := by decide +kernel
theorem dX12_isIn_10 : decode cX12_isIn 10 = .ok (.iconst 1, 1) := by decide +kernel
theorem dX12_isIn_11 : decode cX12_isIn 11 = .ok (.goto 4, 3) := by decide +kernel
theorem dX12_isIn_14 : decode cX12_isIn 14 = .ok (.iconst 0, 1) := by decide +kernel
theorem dX12_isIn_15 : decode cX12_isIn 15 = .ok (.ireturn, 1) := by decide +kernel
theorem dX12_bound_0 : decode cX12_bound 0 = .ok (.iload_n 0, 1) := by decide +kernel
theorem dX12_bound_1 : decode cX12_bound 1 = .ok (.iload_n 1, 1) := by decide +kernel
theorem dX12_bound_2 : decode cX12_bound 2 = .ok (.if_icmp .ge 8, 3) := by decide +kernel
theorem dX12_bound_5 : decode cX12_bound 5 = .ok (.bipush (-4), 2) := by decide +kernel
theorem dX12_bound_7 : decode cX12_bound 7 = .ok (.goto 14, 3) := by decide +kernel
theorem dX12_bound_10 : decode cX12_bound 10 = .ok (.iload_n 0, 1) := by decide +kernel
theorem dX12_bound_11 : decode cX12_bound 11 = .ok (.iload_n 2, 1) := by decide +kernel
theorem dX12_bound_12 : decode cX12_bound 12 = .ok (.if_icmp .le 8, 3) := by decide +kernel
theorem dX12_bound_15 : decode cX12_bound 15 = .ok (.bipush (-6), 2) := by decide +kernel
theorem dX12_bound_17 : decode cX12_bound 17 = .ok (.goto 4, 3) := by decide +kernel
theorem dX12_bound_20 : decode cX12_bound 20 = .ok (.iconst 0, 1) := by decide +kernel
theorem dX12_bound_21 : decode cX12_bound 21 = .ok (.ireturn, 1) := by decide +kernel
theorem dX12_isPerson_0 : decode cX12_isPerson 0 = .ok (.iload_n 1, 1) := by decide +kernel
theorem dX12_isPerson_1 : decode cX12_isPerson 1 = .ok (.ifCond .lt 15, 3) := by decide +kernel
theorem dX12_isPerson_4 : decode cX12_isPerson 4 = .ok (.iload_n 1, 1) := by decide +kernel
theorem dX12_isPerson_5 : decode cX12_isPerson 5 = .ok (.aload_n 0, 1) := by decide +kernel
theorem dX12_isPerson_6 : decode cX12_isPerson 6 = .ok (.getfield 76, 3) := by decide +kernel
theorem dX12_isPerson_9 : decode cX12_isPerson 9 = .ok (.if_icmp .ge 7, 3) := by decide +kernel
theorem dX12_isPerson_12 : decode cX12_isPerson 12 = .ok (.iconst 1, 1) := by decide +kernel
theorem dX12_isPerson_13 : decode cX12_isPerson 13 = .ok (.goto 4, 3) := by decide +kernel
theorem dX12_isPerson_16 : decode cX12_isPerson 16 = .ok (.iconst 0, 1) := by decide +kernel
theorem dX12_isPerson_17 : decode cX12_isPerson 17 = .ok (.ireturn, 1) := by decide +kernel
theorem dX12_isWriter_0 : decode cX12_isWriter 0 = .ok (.iload_n 1, 1) := by decide +kernel
theorem dX12_isWriter_1 : decode cX12_isWriter 1 = .ok (.ifCond .lt 15, 3) := by decide +kernel
theorem dX12_isWriter_4 : decode cX12_isWriter 4 = .ok (.iload_n 1, 1) := by decide +kernel
theorem dX12_isWriter_5 : decode cX12_isWriter 5 = .ok (.aload_n 0, 1) := by decide +kernel
theorem dX12_isWriter_6 : decode cX12_isWriter 6 = .ok (.getfield 80, 3) := by decide +kernel
theorem dX12_isWriter_9 : decode cX12_isWriter 9 = .ok (.if_icmp .ge 7, 3) := by decide +kernel
theorem dX12_isWriter_12 : decode cX12_isWriter 12 = .ok (.iconst 1, 1) := by decide +kernel
theorem dX12_isWriter_13 : decode cX12_isWriter 13 = .ok (.goto 4, 3) := by decide +kernel
theorem dX12_isWriter_16 : decode cX12_isWriter 16 = .ok (.iconst 0, 1) := by decide +kernel
theorem dX12_isWriter_17 : decode cX12_isWriter 17 = .ok (.ireturn, 1) := by decide +kernel
theorem dX12_amount_0 : decode cX12_amount 0 = .ok (.iload_n 0, 1) := by decide +kernel
theorem dX12_amount_1 : decode cX12_amount 1 = .ok (.istore_n 2, 1) := by decide +kernel
theorem dX12_amount_2 : decode cX12_amount 2 = .ok (.iconst 0, 1) := by decide +kernel
theorem dX12_amount_3 : decode cX12_amount 3 = .ok (.istore_n 3, 1) := by decide +kernel
theorem dX12_amount_4 : decode cX12_amount 4 = .ok (.iload_n 3, 1) := by decide +kernel
theorem dX12_amount_5 : decode cX12_amount 5 = .ok (.iload_n 1, 1) := by decide +kernel
theorem dX12_amount_6 : decode cX12_amount 6 = .ok (.if_icmp .ge 14, 3) := by decide +kernel
theorem dX12_amount_9 : decode cX12_amount 9 = .ok (.iload_n 2, 1) := by decide +kernel
theorem dX12_amount_10 : decode cX12_amount 10 = .ok (.bipush 10, 2) := by decide +kernel
theorem dX12_amount_12 : decode cX12_amount 12 = .ok (.idiv, 1) := by decide +kernel
theorem dX12_amount_13 : decode cX12_amount 13 = .ok (.istore_n 2, 1) := by decide +kernel
theorem dX12_amount_14 : decode cX12_amount 14 = .ok (.iinc 3 1, 3) := by decide +kernel
theorem dX12_amount_17 : decode cX12_amount 17 = .ok (.goto (-13), 3) := by decide +kernel
theorem dX12_amount_20 : decode cX12_amount 20 = .ok (.iload_n 2, 1) := by decide +kernel
theorem dX12_amount_21 : decode cX12_amount 21 = .ok (.bipush 10, 2) := by decide +kernel
theorem dX12_amount_23 : decode cX12_amount 23 = .ok (.irem, 1) := by decide +kernel
theorem dX12_amount_24 : decode cX12_amount 24 = .ok (.ireturn, 1) := by decide +kernel
theorem dX12_isLetter_0 : decode cX12_isLetter 0 = .ok (.iload_n 0, 1) := by decide +kernel
theorem dX12_isLetter_1 : decode cX12_isLetter 1 = .ok (.iconst 0, 1) := by decide +kernel
theorem dX12_isLetter_2 : decode cX12_isLetter 2 = .ok (.sipush 5555, 3) := by decide +kernel
theorem dX12_isLetter_5 : decode cX12_isLetter 5 = .ok (.invokestatic 83, 3) := by decide +kernel
theorem dX12_isLetter_8 : decode cX12_isLetter 8 = .ok (.ifCond .ne 5, 3) := by decide +kernel
theorem dX12_isLetter_11 : decode cX12_isLetter 11 = .ok (.iconst 0, 1) := by decide +kernel
theorem dX12_isLetter_12 : decode cX12_isLetter 12 = .ok (.ireturn, 1) := by decide +kernel
theorem dX12_isLetter_13 : decode cX12_isLetter 13 = .ok (.iconst 0, 1) := by decide +kernel
theorem dX12_isLetter_14 : decode cX12_isLetter 14 = .ok (.istore_n 1, 1) := by decide +kernel
theorem dX12_isLetter_15 : decode cX12_isLetter 15 = .ok (.iload_n 1, 1) := by decide +kernel
theorem dX12_isLetter_16 : decode cX12_isLetter 16 = .ok (.iconst 4, 1) := by decide +kernel
theorem dX12_isLetter_17 : decode cX12_isLetter 17 = .ok (.if_icmp .ge 20, 3) := by decide +kernel
theorem dX12_isLetter_20 : decode cX12_isLetter 20 = .ok (.iload_n 0, 1) := by decide +kernel
theorem dX12_isLetter_21 : decode cX12_isLetter 21 = .ok (.iload_n 1, 1) := by decide +kernel
theorem dX12_isLetter_22 : decode cX12_isLetter 22 = .ok (.invokestatic 87, 3) := by decide +kernel
theorem dX12_isLetter_25 : decode cX12_isLetter 25 = .ok (.iconst 5, 1) := by decide +kernel
theorem dX12_isLetter_26 : decode cX12_isLetter 26 = .ok (.if_icmp .le 5, 3) := by decide +kernel
theorem dX12_isLetter_29 : decode cX12_isLetter 29 = .ok (.iconst 0, 1) := by decide +kernel
theorem dX12_isLetter_30 : decode cX12_isLetter 30 = .ok (.ireturn, 1) := by decide +kernel
theorem dX12_isLetter_31 : decode cX12_isLetter 31 = .ok (.iinc 1 1, 3) := by decide +kernel
theorem dX12_isLetter_34 : decode cX12_isLetter 34 = .ok (.goto (-19), 3) := by decide +kernel
theorem dX12_isLetter_37 : decode cX12_isLetter 37 = .ok (.iconst 1, 1) := by decide +kernel
theorem dX12_isLetter_38 : decode cX12_isLetter 38 = .ok (.ireturn, 1) := by decide +kernel
theorem dX12_cost_0 : decode cX12_cost 0 = .ok (.iload_n 0, 1) := by decide +kernel
theorem dX12_cost_1 : decode cX12_cost 1 = .ok (.iconst 0, 1) := by decide +kernel
theorem dX12_cost_2 : decode cX12_cost 2 = .ok (.invokestatic 87, 3) := by decide +kernel
theorem dX12_cost_5 : decode cX12_cost 5 = .ok (.iload_n 0, 1) := by decide +kernel
theorem dX12_cost_6 : decode cX12_cost 6 = .ok (.iconst 1, 1) := by decide +kernel
theorem dX12_cost_7 : decode cX12_cost 7 = .ok (.invokestatic 87, 3) := by decide +kernel
theorem dX12_cost_10 : decode cX12_cost 10 = .ok (.iadd, 1) := by decide +kernel
theorem dX12_cost_11 : decode cX12_cost 11 = .ok (.iload_n 0, 1) := by decide +kernel
theorem dX12_cost_12 : decode cX12_cost 12 = .ok (.iconst 2, 1) := by decide +kernel
theorem dX12_cost_13 : decode cX12_cost 13 = .ok (.invokestatic 87, 3) := by decide +kernel
theorem dX12_cost_16 : decode cX12_cost 16 = .ok (.iadd, 1) := by decide +kernel
theorem dX12_cost_17 : decode cX12_cost 17 = .ok (.iload_n 0, 1) := by decide +kernel
theorem dX12_cost_18 : decode cX12_cost 18 = .ok (.iconst 3, 1) := by decide +kernel
theorem dX12_cost_19 : decode cX12_cost 19 = .ok (.invokestatic 87, 3) := by decide +kernel
theorem dX12_cost_22 : decode cX12_cost 22 = .ok (.iadd, 1) := by decide +kernel
theorem dX12_cost_23 : decode cX12_cost 23 = .ok (.ireturn, 1) := by decide +kernel
theorem dX12_two_0 : decode cX12_two 0 = .ok (.iload_n 0, 1) := by decide +kernel
theorem dX12_two_1 : decode cX12_two 1 = .ok (.iconst 3, 1) := by decide +kernel
theorem dX12_two_2 : decode cX12_two 2 = .ok (.irem, 1) := by decide +kernel
theorem dX12_two_3 : decode cX12_two 3 = .ok (.bipush 10, 2) := by decide +kernel
theorem dX12_two_5 : decode cX12_two 5 = .ok (.iload_n 0, 1) := by decide +kernel
theorem dX12_two_6 : decode cX12_two 6 = .ok (.iconst 3, 1) := by decide +kernel
theorem dX12_two_7 : decode cX12_two 7 = .ok (.idiv, 1) := by decide +kernel
theorem dX12_two_8 : decode cX12_two 8 = .ok (.iconst 3, 1) := by decide +kernel
theorem dX12_two_9 : decode cX12_two 9 = .ok (.irem, 1) := by decide +kernel
theorem dX12_two_10 : decode cX12_two 10 = .ok (.imul, 1) := by decide +kernel
theorem dX12_two_11 : decode cX12_two 11 = .ok (.iadd, 1) := by decide +kernel
theorem dX12_two_12 : decode cX12_two 12 = .ok (.bipush 100, 2) := by decide +kernel
theorem dX12_two_14 : decode cX12_two 14 = .ok (.iload_n 0, 1) := by decide +kernel
theorem dX12_two_15 : decode cX12_two 15 = .ok (.bipush 9, 2) := by decide +kernel
theorem dX12_two_17 : decode cX12_two 17 = .ok (.idiv, 1) := by decide +kernel
theorem dX12_two_18 : decode cX12_two 18 = .ok (.iconst 3, 1) := by decide +kernel
theorem dX12_two_19 : decode cX12_two 19 = .ok (.irem, 1) := by decide +kernel
theorem dX12_two_20 : decode cX12_two 20 = .ok (.imul, 1) := by decide +kernel
theorem dX12_two_21 : decode cX12_two 21 = .ok (.iadd, 1) := by decide +kernel
theorem dX12_two_22 : decode cX12_two 22 = .ok (.sipush 1000, 3) := by decide +kernel
theorem dX12_two_25 : decode cX12_two 25 = .ok (.iload_n 0, 1) := by decide +kernel
theorem dX12_two_26 : decode cX12_two 26 = .ok (.bipush 27, 2) := by decide +kernel
theorem dX12_two_28 : decode cX12_two 28 = .ok (.idiv, 1) := by decide +kernel
theorem dX12_two_29 : decode cX12_two 29 = .ok (.imul, 1) := by decide +kernel
theorem dX12_two_30 : decode cX12_two 30 = .ok (.iadd, 1) := by decide +kernel
theorem dX12_two_31 : decode cX12_two 31 = .ok (.ireturn, 1) := by decide +kernel
theorem dX12_letter_0 : decode cX12_letter 0 = .ok (.iload_n 1, 1) := by decide +kernel
theorem dX12_letter_1 : decode cX12_letter 1 = .ok (.iconst 0, 1) := by decide +kernel
theorem dX12_letter_2 : decode cX12_letter 2 = .ok (.sipush 255, 3) := by decide +kernel
theorem dX12_letter_5 : decode cX12_letter 5 = .ok (.invokestatic 91, 3) := by decide +kernel
theorem dX12_letter_8 : decode cX12_letter 8 = .ok (.istore_n 2, 1) := by decide +kernel
theorem dX12_letter_9 : decode cX12_letter 9 = .ok (.iload_n 2, 1) := by decide +kernel
theorem dX12_letter_10 : decode cX12_letter 10 = .ok (.ifCond .ne 15, 3) := by decide +kernel
theorem dX12_letter_13 : decode cX12_letter 13 = .ok (.aload_n 0, 1) := by decide +kernel
theorem dX12_letter_14 : decode cX12_letter 14 = .ok (.getfield 95, 3) := by decide +kernel
theorem dX12_letter_17 : decode cX12_letter 17 = .ok (.bipush 64, 2) := by decide +kernel
theorem dX12_letter_19 : decode cX12_letter 19 = .ok (.if_icmp .ne 6, 3) := by decide +kernel
theorem dX12_letter_22 : decode cX12_letter 22 = .ok (.bipush (-6), 2) := by decide +kernel
theorem dX12_letter_24 : decode cX12_letter 24 = .ok (.istore_n 2, 1) := by decide +kernel
theorem dX12_letter_25 : decode cX12_letter 25 = .ok (.iload_n 2, 1) := by decide +kernel
theorem dX12_letter_26 : decode cX12_letter 26 = .ok (.ifCond .eq 9, 3) := by decide +kernel
theorem dX12_letter_29 : decode cX12_letter 29 = .ok (.aload_n 0, 1) := by decide +kernel
theorem dX12_letter_30 : decode cX12_letter 30 = .ok (.iload_n 2, 1) := by decide +kernel
theorem dX12_letter_31 : decode cX12_letter 31 = .ok (.invokevirtual 98, 3) := by decide +kernel
theorem dX12_letter_34 : decode cX12_letter 34 = .ok (.ireturn, 1) := by decide +kernel
theorem dX12_letter_35 : decode cX12_letter 35 = .ok (.aload_n 0, 1) := by decide +kernel
theorem dX12_letter_36 : decode cX12_letter 36 = .ok (.getfield 37, 3) := by decide +kernel
theorem dX12_letter_39 : decode cX12_letter 39 = .ok (.aload_n 0, 1) := by decide +kernel
theorem dX12_letter_40 : decode cX12_letter 40 = .ok (.getfield 95, 3) := by decide +kernel
theorem dX12_letter_43 : decode cX12_letter 43 = .ok (.iload_n 1, 1) := by decide +kernel
theorem dX12_letter_44 : decode cX12_letter 44 = .ok (.iastore, 1) := by decide +kernel
theorem dX12_letter_45 : decode cX12_letter 45 = .ok (.aload_n 0, 1) := by decide +kernel
theorem dX12_letter_46 : decode cX12_letter 46 = .ok (.dup, 1) := by decide +kernel
theorem dX12_letter_47 : decode cX12_letter 47 = .ok (.getfield 95, 3) := by decide +kernel
theorem dX12_letter_50 : decode cX12_letter 50 = .ok (.iconst 1, 1) := by decide +kernel
theorem dX12_letter_51 : decode cX12_letter 51 = .ok (.iadd, 1) := by decide +kernel
theorem dX12_letter_52 : decode cX12_letter 52 = .ok (.putfield 95, 3) := by decide +kernel
theorem dX12_letter_55 : decode cX12_letter 55 = .ok (.aload_n 0, 1) := by decide +kernel
theorem dX12_letter_56 : decode cX12_letter 56 = .ok (.getfield 95, 3) := by decide +kernel
theorem dX12_letter_59 : decode cX12_letter 59 = .ok (.ireturn, 1) := by decide +kernel
theorem dX12_next_0 : decode cX12_next 0 = .ok (.aload_n 0, 1) := by decide +kernel
theorem dX12_next_1 : decode cX12_next 1 = .ok (.getfield 102, 3) := by decide +kernel
theorem dX12_next_4 : decode cX12_next 4 = .ok (.aload_n 0, 1) := by decide +kernel
theorem dX12_next_5 : decode cX12_next 5 = .ok (.getfield 95, 3) := by decide +kernel
theorem dX12_next_8 : decode cX12_next 8 = .ok (.if_icmp .ge 15, 3) := by decide +kernel
theorem dX12_next_11 : decode cX12_next 11 = .ok (.aload_n 0, 1) := by decide +kernel
theorem dX12_next_12 : decode cX12_next 12 = .ok (.getfield 37, 3) := by decide +kernel
theorem dX12_next_15 : decode cX12_next 15 = .ok (.aload_n 0, 1) := by decide +kernel
theorem dX12_next_16 : decode cX12_next 16 = .ok (.getfield 102, 3) := by decide +kernel
theorem dX12_next_19 : decode cX12_next 19 = .ok (.iaload, 1) := by decide +kernel
theorem dX12_next_20 : decode cX12_next 20 = .ok (.goto 4, 3) := by decide +kernel
theorem dX12_next_23 : decode cX12_next 23 = .ok (.iconst (-1), 1) := by decide +kernel
theorem dX12_next_24 : decode cX12_next 24 = .ok (.ireturn, 1) := by decide +kernel
theorem dX12_isNext_0 : decode cX12_isNext 0 = .ok (.aload_n 0, 1) := by decide +kernel
theorem dX12_isNext_1 : decode cX12_isNext 1 = .ok (.invokevirtual 105, 3) := by decide +kernel
theorem dX12_isNext_4 : decode cX12_isNext 4 = .ok (.iload_n 1, 1) := by decide +kernel
theorem dX12_isNext_5 : decode cX12_isNext 5 = .ok (.if_icmp .eq 5, 3) := by decide +kernel
theorem dX12_isNext_8 : decode cX12_isNext 8 = .ok (.iconst 0, 1) := by decide +kernel
theorem dX12_isNext_9 : decode cX12_isNext 9 = .ok (.ireturn, 1) := by decide +kernel
theorem dX12_isNext_10 : decode cX12_isNext 10 = .ok (.aload_n 0, 1) := by decide +kernel
theorem dX12_isNext_11 : decode cX12_isNext 11 = .ok (.dup, 1) := by decide +kernel
theorem dX12_isNext_12 : decode cX12_isNext 12 = .ok (.getfield 102, 3) := by decide +kernel
theorem dX12_isNext_15 : decode cX12_isNext 15 = .ok (.iconst 1, 1) := by decide +kernel
theorem dX12_isNext_16 : decode cX12_isNext 16 = .ok (.iadd, 1) := by decide +kernel
theorem dX12_isNext_17 : decode cX12_isNext 17 = .ok (.putfield 102, 3) := by decide +kernel
theorem dX12_isNext_20 : decode cX12_isNext 20 = .ok (.iconst 1, 1) := by decide +kernel
theorem dX12_isNext_21 : decode cX12_isNext 21 = .ok (.ireturn, 1) := by decide +kernel
theorem dX12_number_0 : decode cX12_number 0 = .ok (.aload_n 0, 1) := by decide +kernel
theorem dX12_number_1 : decode cX12_number 1 = .ok (.invokevirtual 105, 3) := by decide +kernel
theorem dX12_number_4 : decode cX12_number 4 = .ok (.bipush 48, 2) := by decide +kernel
theorem dX12_number_6 : decode cX12_number 6 = .ok (.bipush 57, 2) := by decide +kernel
theorem dX12_number_8 : decode cX12_number 8 = .ok (.invokestatic 83, 3) := by decide +kernel
theorem dX12_number_11 : decode cX12_number 11 = .ok (.ifCond .ne 5, 3) := by decide +kernel
theorem dX12_number_14 : decode cX12_number 14 = .ok (.iconst (-1), 1) := by decide +kernel
theorem dX12_number_15 : decode cX12_number 15 = .ok (.ireturn, 1) := by decide +kernel
theorem dX12_number_16 : decode cX12_number 16 = .ok (.iconst 0, 1) := by decide +kernel
theorem dX12_number_17 : decode cX12_number 17 = .ok (.istore_n 2, 1) := by decide +kernel
theorem dX12_number_18 : decode cX12_number 18 = .ok (.iconst 0, 1) := by decide +kernel
theorem dX12_number_19 : decode cX12_number 19 = .ok (.istore_n 3, 1) := by decide +kernel
theorem dX12_number_20 : decode cX12_number 20 = .ok (.iload_n 3, 1) := by decide +kernel
theorem dX12_number_21 : decode cX12_number 21 = .ok (.iload_n 1, 1) := by decide +kernel
theorem dX12_number_22 : decode cX12_number 22 = .ok (.if_icmp .ge 46, 3) := by decide +kernel
theorem dX12_number_25 : decode cX12_number 25 = .ok (.aload_n 0, 1) := by decide +kernel
theorem dX12_number_26 : decode cX12_number 26 = .ok (.invokevirtual 105, 3) := by decide +kernel
theorem dX12_number_29 : decode cX12_number 29 = .ok (.bipush 48, 2) := by decide +kernel
theorem dX12_number_31 : decode cX12_number 31 = .ok (.bipush 57, 2) := by decide +kernel
theorem dX12_number_33 : decode cX12_number 33 = .ok (.invokestatic 83, 3) := by decide +kernel
theorem dX12_number_36 : decode cX12_number 36 = .ok (.ifCond .eq 32, 3) := by decide +kernel
theorem dX12_number_39 : decode cX12_number 39 = .ok (.bipush 10, 2) := by decide +kernel
theorem dX12_number_41 : decode cX12_number 41 = .ok (.iload_n 2, 1) := by decide +kernel
theorem dX12_number_42 : decode cX12_number 42 = .ok (.imul, 1) := by decide +kernel
theorem dX12_number_43 : decode cX12_number 43 = .ok (.aload_n 0, 1) := by decide +kernel
theorem dX12_number_44 : decode cX12_number 44 = .ok (.invokevirtual 105, 3) := by decide +kernel
theorem dX12_number_47 : decode cX12_number 47 = .ok (.iadd, 1) := by decide +kernel
theorem dX12_number_48 : decode cX12_number 48 = .ok (.bipush 48, 2) := by decide +kernel
theorem dX12_number_50 : decode cX12_number 50 = .ok (.isub, 1) := by decide +kernel
theorem dX12_number_51 : decode cX12_number 51 = .ok (.istore_n 2, 1) := by decide +kernel
theorem dX12_number_52 : decode cX12_number 52 = .ok (.aload_n 0, 1) := by decide +kernel
theorem dX12_number_53 : decode cX12_number 53 = .ok (.dup, 1) := by decide +kernel
theorem dX12_number_54 : decode cX12_number 54 = .ok (.getfield 102, 3) := by decide +kernel
theorem dX12_number_57 : decode cX12_number 57 = .ok (.iconst 1, 1) := by decide +kernel
theorem dX12_number_58 : decode cX12_number 58 = .ok (.iadd, 1) := by decide +kernel
theorem dX12_number_59 : decode cX12_number 59 = .ok (.putfield 102, 3) := by decide +kernel
theorem dX12_number_62 : decode cX12_number 62 = .ok (.iinc 3 1, 3) := by decide +kernel
theorem dX12_number_65 : decode cX12_number 65 = .ok (.goto (-45), 3) := by decide +kernel
theorem dX12_number_68 : decode cX12_number 68 = .ok (.iload_n 2, 1) := by decide +kernel
theorem dX12_number_69 : decode cX12_number 69 = .ok (.ireturn, 1) := by decide +kernel
theorem dX12_kindOf_0 : decode cX12_kindOf 0 = .ok (.iload_n 0, 1) := by decide +kernel
theorem dX12_kindOf_1 : decode cX12_kindOf 1 = .ok (.lookupswitch 61 #[(97, 53), (104, 59), (109, 55), (112, 51), (116, 57)], 51) := by decide +kernel
theorem dX12_kindOf_52 : decode cX12_kindOf 52 = .ok (.iconst 0, 1) := by decide +kernel
theorem dX12_kindOf_53 : decode cX12_kindOf 53 = .ok (.ireturn, 1) := by decide +kernel
theorem dX12_kindOf_54 : decode cX12_kindOf 54 = .ok (.iconst 1, 1) := by decide +kernel
theorem dX12_kindOf_55 : decode cX12_kindOf 55 = .ok (.ireturn, 1) := by decide +kernel
theorem dX12_kindOf_56 : decode cX12_kindOf 56 = .ok (.iconst 2, 1) := by decide +kernel
theorem dX12_kindOf_57 : decode cX12_kindOf 57 = .ok (.ireturn, 1) := by decide +kernel
theorem dX12_kindOf_58 : decode cX12_kindOf 58 = .ok (.iconst 3, 1) := by decide +kernel
theorem dX12_kindOf_59 : decode cX12_kindOf 59 = .ok (.ireturn, 1) := by decide +kernel
theorem dX12_kindOf_60 : decode cX12_kindOf 60 = .ok (.iconst 4, 1) := by decide +kernel
theorem dX12_kindOf_61 : decode cX12_kindOf 61 = .ok (.ireturn, 1) := by decide +kernel
theorem dX12_kindOf_62 : decode cX12_kindOf 62 = .ok (.iconst (-1), 1) := by decide +kernel
theorem dX12_kindOf_63 : decode cX12_kindOf 63 = .ok (.ireturn, 1) := by decide +kernel
theorem dX12_readsPerson_0 : decode cX12_readsPerson 0 = .ok (.aload_n 0, 1) := by decide +kernel
theorem dX12_readsPerson_1 : decode cX12_readsPerson 1 = .ok (.getfield 46, 3) := by decide +kernel
theorem dX12_readsPerson_4 : decode cX12_readsPerson 4 = .ok (.iload_n 1, 1) := by decide +kernel
theorem dX12_readsPerson_5 : decode cX12_readsPerson 5 = .ok (.aload_n 0, 1) := by decide +kernel
theorem dX12_readsPerson_6 : decode cX12_readsPerson 6 = .ok (.iconst 2, 1) := by decide +kernel
theorem dX12_readsPerson_7 : decode cX12_readsPerson 7 = .ok (.invokevirtual 109, 3) := by decide +kernel
theorem dX12_readsPerson_10 : decode cX12_readsPerson 10 = .ok (.iastore, 1) := by decide +kernel
theorem dX12_readsPerson_11 : decode cX12_readsPerson 11 = .ok (.aload_n 0, 1) := by decide +kernel
theorem dX12_readsPerson_12 : decode cX12_readsPerson 12 = .ok (.getfield 46, 3) := by decide +kernel
theorem dX12_readsPerson_15 : decode cX12_readsPerson 15 = .ok (.iload_n 1, 1) := by decide +kernel
theorem dX12_readsPerson_16 : decode cX12_readsPerson 16 = .ok (.iaload, 1) := by decide +kernel
theorem dX12_readsPerson_17 : decode cX12_readsPerson 17 = .ok (.ifCond .lt 12, 3) := by decide +kernel
theorem dX12_readsPerson_20 : decode cX12_readsPerson 20 = .ok (.aload_n 0, 1) := by decide +kernel
theorem dX12_readsPerson_21 : decode cX12_readsPerson 21 = .ok (.bipush 44, 2) := by decide +kernel
theorem dX12_readsPerson_23 : decode cX12_readsPerson 23 = .ok (.invokevirtual 112, 3) := by decide +kernel
theorem dX12_readsPerson_26 : decode cX12_readsPerson 26 = .ok (.ifCond .ne 5, 3) := by decide +kernel
theorem dX12_readsPerson_29 : decode cX12_readsPerson 29 = .ok (.iconst 0, 1) := by decide +kernel
theorem dX12_readsPerson_30 : decode cX12_readsPerson 30 = .ok (.ireturn, 1) := by decide +kernel
theorem dX12_readsPerson_31 : decode cX12_readsPerson 31 = .ok (.aload_n 0, 1) := by decide +kernel
theorem dX12_readsPerson_32 : decode cX12_readsPerson 32 = .ok (.getfield 49, 3) := by decide +kernel
theorem dX12_readsPerson_35 : decode cX12_readsPerson 35 = .ok (.iload_n 1, 1) := by decide +kernel
theorem dX12_readsPerson_36 : decode cX12_readsPerson 36 = .ok (.aload_n 0, 1) := by decide +kernel
theorem dX12_readsPerson_37 : decode cX12_readsPerson 37 = .ok (.iconst 2, 1) := by decide +kernel
theorem dX12_readsPerson_38 : decode cX12_readsPerson 38 = .ok (.invokevirtual 109, 3) := by decide +kernel
theorem dX12_readsPerson_41 : decode cX12_readsPerson 41 = .ok (.iastore, 1) := by decide +kernel
theorem dX12_readsPerson_42 : decode cX12_readsPerson 42 = .ok (.aload_n 0, 1) := by decide +kernel
theorem dX12_readsPerson_43 : decode cX12_readsPerson 43 = .ok (.getfield 49, 3) := by decide +kernel
theorem dX12_readsPerson_46 : decode cX12_readsPerson 46 = .ok (.iload_n 1, 1) := by decide +kernel
theorem dX12_readsPerson_47 : decode cX12_readsPerson 47 = .ok (.iaload, 1) := by decide +kernel
theorem dX12_readsPerson_48 : decode cX12_readsPerson 48 = .ok (.ifCond .lt 12, 3) := by decide +kernel
theorem dX12_readsPerson_51 : decode cX12_readsPerson 51 = .ok (.aload_n 0, 1) := by decide +kernel
theorem dX12_readsPerson_52 : decode cX12_readsPerson 52 = .ok (.bipush 44, 2) := by decide +kernel
theorem dX12_readsPerson_54 : decode cX12_readsPerson 54 = .ok (.invokevirtual 112, 3) := by decide +kernel
theorem dX12_readsPerson_57 : decode cX12_readsPerson 57 = .ok (.ifCond .ne 5, 3) := by decide +kernel
theorem dX12_readsPerson_60 : decode cX12_readsPerson 60 = .ok (.iconst 0, 1) := by decide +kernel
theorem dX12_readsPerson_61 : decode cX12_readsPerson 61 = .ok (.ireturn, 1) := by decide +kernel
theorem dX12_readsPerson_62 : decode cX12_readsPerson 62 = .ok (.aload_n 0, 1) := by decide +kernel
theorem dX12_readsPerson_63 : decode cX12_readsPerson 63 = .ok (.getfield 52, 3) := by decide +kernel
theorem dX12_readsPerson_66 : decode cX12_readsPerson 66 = .ok (.iload_n 1, 1) := by decide +kernel
theorem dX12_readsPerson_67 : decode cX12_readsPerson 67 = .ok (.aload_n 0, 1) := by decide +kernel
theorem dX12_readsPerson_68 : decode cX12_readsPerson 68 = .ok (.iconst 2, 1) := by decide +kernel
theorem dX12_readsPerson_69 : decode cX12_readsPerson 69 = .ok (.invokevirtual 109, 3) := by decide +kernel
theorem dX12_readsPerson_72 : decode cX12_readsPerson 72 = .ok (.iastore, 1) := by decide +kernel
theorem dX12_readsPerson_73 : decode cX12_readsPerson 73 = .ok (.aload_n 0, 1) := by decide +kernel
theorem dX12_readsPerson_74 : decode cX12_readsPerson 74 = .ok (.getfield 52, 3) := by decide +kernel
theorem dX12_readsPerson_77 : decode cX12_readsPerson 77 = .ok (.iload_n 1, 1) := by decide +kernel
theorem dX12_readsPerson_78 : decode cX12_readsPerson 78 = .ok (.iaload, 1) := by decide +kernel
theorem dX12_readsPerson_79 : decode cX12_readsPerson 79 = .ok (.ifCond .lt 12, 3) := by decide +kernel
theorem dX12_readsPerson_82 : decode cX12_readsPerson 82 = .ok (.aload_n 0, 1) := by decide +kernel
theorem dX12_readsPerson_83 : decode cX12_readsPerson 83 = .ok (.bipush 44, 2) := by decide +kernel
theorem dX12_readsPerson_85 : decode cX12_readsPerson 85 = .ok (.invokevirtual 112, 3) := by decide +kernel
theorem dX12_readsPerson_88 : decode cX12_readsPerson 88 = .ok (.ifCond .ne 5, 3) := by decide +kernel
theorem dX12_readsPerson_91 : decode cX12_readsPerson 91 = .ok (.iconst 0, 1) := by decide +kernel
theorem dX12_readsPerson_92 : decode cX12_readsPerson 92 = .ok (.ireturn, 1) := by decide +kernel
theorem dX12_readsPerson_93 : decode cX12_readsPerson 93 = .ok (.aload_n 0, 1) := by decide +kernel
theorem dX12_readsPerson_94 : decode cX12_readsPerson 94 = .ok (.getfield 55, 3) := by decide +kernel
theorem dX12_readsPerson_97 : decode cX12_readsPerson 97 = .ok (.iload_n 1, 1) := by decide +kernel
theorem dX12_readsPerson_98 : decode cX12_readsPerson 98 = .ok (.aload_n 0, 1) := by decide +kernel
theorem dX12_readsPerson_99 : decode cX12_readsPerson 99 = .ok (.iconst 2, 1) := by decide +kernel
theorem dX12_readsPerson_100 : decode cX12_readsPerson 100 = .ok (.invokevirtual 109, 3) := by decide +kernel
theorem dX12_readsPerson_103 : decode cX12_readsPerson 103 = .ok (.iastore, 1) := by decide +kernel
theorem dX12_readsPerson_104 : decode cX12_readsPerson 104 = .ok (.aload_n 0, 1) := by decide +kernel
theorem dX12_readsPerson_105 : decode cX12_readsPerson 105 = .ok (.getfield 55, 3) := by decide +kernel
theorem dX12_readsPerson_108 : decode cX12_readsPerson 108 = .ok (.iload_n 1, 1) := by decide +kernel
theorem dX12_readsPerson_109 : decode cX12_readsPerson 109 = .ok (.iaload, 1) := by decide +kernel
theorem dX12_readsPerson_110 : decode cX12_readsPerson 110 = .ok (.ifCond .lt 12, 3) := by decide +kernel
theorem dX12_readsPerson_113 : decode cX12_readsPerson 113 = .ok (.aload_n 0, 1) := by decide +kernel
theorem dX12_readsPerson_114 : decode cX12_readsPerson 114 = .ok (.bipush 43, 2) := by decide +kernel
theorem dX12_readsPerson_116 : decode cX12_readsPerson 116 = .ok (.invokevirtual 112, 3) := by decide +kernel
theorem dX12_readsPerson_119 : decode cX12_readsPerson 119 = .ok (.ifCond .ne 5, 3) := by decide +kernel
theorem dX12_readsPerson_122 : decode cX12_readsPerson 122 = .ok (.iconst 0, 1) := by decide +kernel
theorem dX12_readsPerson_123 : decode cX12_readsPerson 123 = .ok (.ireturn, 1) := by decide +kernel
theorem dX12_readsPerson_124 : decode cX12_readsPerson 124 = .ok (.aload_n 0, 1) := by decide +kernel
theorem dX12_readsPerson_125 : decode cX12_readsPerson 125 = .ok (.getfield 58, 3) := by decide +kernel
theorem dX12_readsPerson_128 : decode cX12_readsPerson 128 = .ok (.iload_n 1, 1) := by decide +kernel
theorem dX12_readsPerson_129 : decode cX12_readsPerson 129 = .ok (.aload_n 0, 1) := by decide +kernel
theorem dX12_readsPerson_130 : decode cX12_readsPerson 130 = .ok (.iconst 1, 1) := by decide +kernel
theorem dX12_readsPerson_131 : decode cX12_readsPerson 131 = .ok (.invokevirtual 109, 3) := by decide +kernel
theorem dX12_readsPerson_134 : decode cX12_readsPerson 134 = .ok (.iastore, 1) := by decide +kernel
theorem dX12_readsPerson_135 : decode cX12_readsPerson 135 = .ok (.aload_n 0, 1) := by decide +kernel
theorem dX12_readsPerson_136 : decode cX12_readsPerson 136 = .ok (.getfield 58, 3) := by decide +kernel
theorem dX12_readsPerson_139 : decode cX12_readsPerson 139 = .ok (.iload_n 1, 1) := by decide +kernel
theorem dX12_readsPerson_140 : decode cX12_readsPerson 140 = .ok (.iaload, 1) := by decide +kernel
theorem dX12_readsPerson_141 : decode cX12_readsPerson 141 = .ok (.ifCond .lt 16, 3) := by decide +kernel
theorem dX12_readsPerson_144 : decode cX12_readsPerson 144 = .ok (.aload_n 0, 1) := by decide +kernel
theorem dX12_readsPerson_145 : decode cX12_readsPerson 145 = .ok (.bipush 59, 2) := by decide +kernel
theorem dX12_readsPerson_147 : decode cX12_readsPerson 147 = .ok (.invokevirtual 112, 3) := by decide +kernel
theorem dX12_readsPerson_150 : decode cX12_readsPerson 150 = .ok (.ifCond .eq 7, 3) := by decide +kernel
theorem dX12_readsPerson_153 : decode cX12_readsPerson 153 = .ok (.iconst 1, 1) := by decide +kernel
theorem dX12_readsPerson_154 : decode cX12_readsPerson 154 = .ok (.goto 4, 3) := by decide +kernel
theorem dX12_readsPerson_157 : decode cX12_readsPerson 157 = .ok (.iconst 0, 1) := by decide +kernel
theorem dX12_readsPerson_158 : decode cX12_readsPerson 158 = .ok (.ireturn, 1) := by decide +kernel
theorem dX12_readsLetter_0 : decode cX12_readsLetter 0 = .ok (.aload_n 0, 1) := by decide +kernel
theorem dX12_readsLetter_1 : decode cX12_readsLetter 1 = .ok (.getfield 46, 3) := by decide +kernel
theorem dX12_readsLetter_4 : decode cX12_readsLetter 4 = .ok (.iload_n 1, 1) := by decide +kernel
theorem dX12_readsLetter_5 : decode cX12_readsLetter 5 = .ok (.aload_n 0, 1) := by decide +kernel
theorem dX12_readsLetter_6 : decode cX12_readsLetter 6 = .ok (.iconst 1, 1) := by decide +kernel
theorem dX12_readsLetter_7 : decode cX12_readsLetter 7 = .ok (.invokevirtual 109, 3) := by decide +kernel
theorem dX12_readsLetter_10 : decode cX12_readsLetter 10 = .ok (.iastore, 1) := by decide +kernel
theorem dX12_readsLetter_11 : decode cX12_readsLetter 11 = .ok (.aload_n 0, 1) := by decide +kernel
theorem dX12_readsLetter_12 : decode cX12_readsLetter 12 = .ok (.getfield 46, 3) := by decide +kernel
theorem dX12_readsLetter_15 : decode cX12_readsLetter 15 = .ok (.iload_n 1, 1) := by decide +kernel
theorem dX12_readsLetter_16 : decode cX12_readsLetter 16 = .ok (.iaload, 1) := by decide +kernel
theorem dX12_readsLetter_17 : decode cX12_readsLetter 17 = .ok (.ifCond .ge 5, 3) := by decide +kernel
theorem dX12_readsLetter_20 : decode cX12_readsLetter 20 = .ok (.iconst 0, 1) := by decide +kernel
theorem dX12_readsLetter_21 : decode cX12_readsLetter 21 = .ok (.ireturn, 1) := by decide +kernel
theorem dX12_readsLetter_22 : decode cX12_readsLetter 22 = .ok (.aload_n 0, 1) := by decide +kernel
theorem dX12_readsLetter_23 : decode cX12_readsLetter 23 = .ok (.getfield 49, 3) := by decide +kernel
theorem dX12_readsLetter_26 : decode cX12_readsLetter 26 = .ok (.iload_n 1, 1) := by decide +kernel
theorem dX12_readsLetter_27 : decode cX12_readsLetter 27 = .ok (.aload_n 0, 1) := by decide +kernel
theorem dX12_readsLetter_28 : decode cX12_readsLetter 28 = .ok (.iconst 1, 1) := by decide +kernel
theorem dX12_readsLetter_29 : decode cX12_readsLetter 29 = .ok (.invokevirtual 109, 3) := by decide +kernel
theorem dX12_readsLetter_32 : decode cX12_readsLetter 32 = .ok (.iastore, 1) := by decide +kernel
theorem dX12_readsLetter_33 : decode cX12_readsLetter 33 = .ok (.aload_n 0, 1) := by decide +kernel
theorem dX12_readsLetter_34 : decode cX12_readsLetter 34 = .ok (.getfield 49, 3) := by decide +kernel
theorem dX12_readsLetter_37 : decode cX12_readsLetter 37 = .ok (.iload_n 1, 1) := by decide +kernel
theorem dX12_readsLetter_38 : decode cX12_readsLetter 38 = .ok (.iaload, 1) := by decide +kernel
theorem dX12_readsLetter_39 : decode cX12_readsLetter 39 = .ok (.ifCond .ge 5, 3) := by decide +kernel
theorem dX12_readsLetter_42 : decode cX12_readsLetter 42 = .ok (.iconst 0, 1) := by decide +kernel
theorem dX12_readsLetter_43 : decode cX12_readsLetter 43 = .ok (.ireturn, 1) := by decide +kernel
theorem dX12_readsLetter_44 : decode cX12_readsLetter 44 = .ok (.aload_n 0, 1) := by decide +kernel
theorem dX12_readsLetter_45 : decode cX12_readsLetter 45 = .ok (.getfield 52, 3) := by decide +kernel
theorem dX12_readsLetter_48 : decode cX12_readsLetter 48 = .ok (.iload_n 1, 1) := by decide +kernel
theorem dX12_readsLetter_49 : decode cX12_readsLetter 49 = .ok (.aload_n 0, 1) := by decide +kernel
theorem dX12_readsLetter_50 : decode cX12_readsLetter 50 = .ok (.iconst 1, 1) := by decide +kernel
theorem dX12_readsLetter_51 : decode cX12_readsLetter 51 = .ok (.invokevirtual 109, 3) := by decide +kernel
theorem dX12_readsLetter_54 : decode cX12_readsLetter 54 = .ok (.iastore, 1) := by decide +kernel
theorem dX12_readsLetter_55 : decode cX12_readsLetter 55 = .ok (.aload_n 0, 1) := by decide +kernel
theorem dX12_readsLetter_56 : decode cX12_readsLetter 56 = .ok (.getfield 52, 3) := by decide +kernel
theorem dX12_readsLetter_59 : decode cX12_readsLetter 59 = .ok (.iload_n 1, 1) := by decide +kernel
theorem dX12_readsLetter_60 : decode cX12_readsLetter 60 = .ok (.iaload, 1) := by decide +kernel
theorem dX12_readsLetter_61 : decode cX12_readsLetter 61 = .ok (.ifCond .ge 5, 3) := by decide +kernel
theorem dX12_readsLetter_64 : decode cX12_readsLetter 64 = .ok (.iconst 0, 1) := by decide +kernel
theorem dX12_readsLetter_65 : decode cX12_readsLetter 65 = .ok (.ireturn, 1) := by decide +kernel
theorem dX12_readsLetter_66 : decode cX12_readsLetter 66 = .ok (.aload_n 0, 1) := by decide +kernel
theorem dX12_readsLetter_67 : decode cX12_readsLetter 67 = .ok (.getfield 55, 3) := by decide +kernel
theorem dX12_readsLetter_70 : decode cX12_readsLetter 70 = .ok (.iload_n 1, 1) := by decide +kernel
theorem dX12_readsLetter_71 : decode cX12_readsLetter 71 = .ok (.aload_n 0, 1) := by decide +kernel
theorem dX12_readsLetter_72 : decode cX12_readsLetter 72 = .ok (.iconst 1, 1) := by decide +kernel
theorem dX12_readsLetter_73 : decode cX12_readsLetter 73 = .ok (.invokevirtual 109, 3) := by decide +kernel
theorem dX12_readsLetter_76 : decode cX12_readsLetter 76 = .ok (.iastore, 1) := by decide +kernel
theorem dX12_readsLetter_77 : decode cX12_readsLetter 77 = .ok (.aload_n 0, 1) := by decide +kernel
theorem dX12_readsLetter_78 : decode cX12_readsLetter 78 = .ok (.getfield 55, 3) := by decide +kernel
theorem dX12_readsLetter_81 : decode cX12_readsLetter 81 = .ok (.iload_n 1, 1) := by decide +kernel
theorem dX12_readsLetter_82 : decode cX12_readsLetter 82 = .ok (.iaload, 1) := by decide +kernel
theorem dX12_readsLetter_83 : decode cX12_readsLetter 83 = .ok (.ifCond .lt 16, 3) := by decide +kernel
theorem dX12_readsLetter_86 : decode cX12_readsLetter 86 = .ok (.aload_n 0, 1) := by decide +kernel
theorem dX12_readsLetter_87 : decode cX12_readsLetter 87 = .ok (.bipush 59, 2) := by decide +kernel
theorem dX12_readsLetter_89 : decode cX12_readsLetter 89 = .ok (.invokevirtual 112, 3) := by decide +kernel
theorem dX12_readsLetter_92 : decode cX12_readsLetter 92 = .ok (.ifCond .eq 7, 3) := by decide +kernel
theorem dX12_readsLetter_95 : decode cX12_readsLetter 95 = .ok (.iconst 1, 1) := by decide +kernel
theorem dX12_readsLetter_96 : decode cX12_readsLetter 96 = .ok (.goto 4, 3) := by decide +kernel
theorem dX12_readsLetter_99 : decode cX12_readsLetter 99 = .ok (.iconst 0, 1) := by decide +kernel
theorem dX12_readsLetter_100 : decode cX12_readsLetter 100 = .ok (.ireturn, 1) := by decide +kernel
theorem dX12_statement_0 : decode cX12_statement 0 = .ok (.aload_n 0, 1) := by decide +kernel
theorem dX12_statement_1 : decode cX12_statement 1 = .ok (.getfield 116, 3) := by decide +kernel
theorem dX12_statement_4 : decode cX12_statement 4 = .ok (.istore_n 1, 1) := by decide +kernel
theorem dX12_statement_5 : decode cX12_statement 5 = .ok (.aload_n 0, 1) := by decide +kernel
theorem dX12_statement_6 : decode cX12_statement 6 = .ok (.invokevirtual 105, 3) := by decide +kernel
theorem dX12_statement_9 : decode cX12_statement 9 = .ok (.istore_n 2, 1) := by decide +kernel
theorem dX12_statement_10 : decode cX12_statement 10 = .ok (.iload_n 2, 1) := by decide +kernel
theorem dX12_statement_11 : decode cX12_statement 11 = .ok (.bipush 112, 2) := by decide +kernel
theorem dX12_statement_13 : decode cX12_statement 13 = .ok (.if_icmp .eq 17, 3) := by decide +kernel
theorem dX12_statement_16 : decode cX12_statement 16 = .ok (.iload_n 2, 1) := by decide +kernel
theorem dX12_statement_17 : decode cX12_statement 17 = .ok (.bipush 119, 2) := by decide +kernel
theorem dX12_statement_19 : decode cX12_statement 19 = .ok (.if_icmp .eq 11, 3) := by decide +kernel
theorem dX12_statement_22 : decode cX12_statement 22 = .ok (.iload_n 2, 1) := by decide +kernel
theorem dX12_statement_23 : decode cX12_statement 23 = .ok (.bipush 108, 2) := by decide +kernel
theorem dX12_statement_25 : decode cX12_statement 25 = .ok (.if_icmp .eq 5, 3) := by decide +kernel
theorem dX12_statement_28 : decode cX12_statement 28 = .ok (.iconst 0, 1) := by decide +kernel
theorem dX12_statement_29 : decode cX12_statement 29 = .ok (.ireturn, 1) := by decide +kernel
theorem dX12_statement_30 : decode cX12_statement 30 = .ok (.aload_n 0, 1) := by decide +kernel
theorem dX12_statement_31 : decode cX12_statement 31 = .ok (.getfield 40, 3) := by decide +kernel
theorem dX12_statement_34 : decode cX12_statement 34 = .ok (.iload_n 1, 1) := by decide +kernel
theorem dX12_statement_35 : decode cX12_statement 35 = .ok (.iload_n 2, 1) := by decide +kernel
theorem dX12_statement_36 : decode cX12_statement 36 = .ok (.iastore, 1) := by decide +kernel
theorem dX12_statement_37 : decode cX12_statement 37 = .ok (.aload_n 0, 1) := by decide +kernel
theorem dX12_statement_38 : decode cX12_statement 38 = .ok (.getfield 43, 3) := by decide +kernel
theorem dX12_statement_41 : decode cX12_statement 41 = .ok (.iload_n 1, 1) := by decide +kernel
theorem dX12_statement_42 : decode cX12_statement 42 = .ok (.aload_n 0, 1) := by decide +kernel
theorem dX12_statement_43 : decode cX12_statement 43 = .ok (.getfield 102, 3) := by decide +kernel
theorem dX12_statement_46 : decode cX12_statement 46 = .ok (.iastore, 1) := by decide +kernel
theorem dX12_statement_47 : decode cX12_statement 47 = .ok (.aload_n 0, 1) := by decide +kernel
theorem dX12_statement_48 : decode cX12_statement 48 = .ok (.dup, 1) := by decide +kernel
theorem dX12_statement_49 : decode cX12_statement 49 = .ok (.getfield 102, 3) := by decide +kernel
theorem dX12_statement_52 : decode cX12_statement 52 = .ok (.iconst 1, 1) := by decide +kernel
theorem dX12_statement_53 : decode cX12_statement 53 = .ok (.iadd, 1) := by decide +kernel
theorem dX12_statement_54 : decode cX12_statement 54 = .ok (.putfield 102, 3) := by decide +kernel
theorem dX12_statement_57 : decode cX12_statement 57 = .ok (.iload_n 2, 1) := by decide +kernel
theorem dX12_statement_58 : decode cX12_statement 58 = .ok (.bipush 112, 2) := by decide +kernel
theorem dX12_statement_60 : decode cX12_statement 60 = .ok (.if_icmp .ne 9, 3) := by decide +kernel
theorem dX12_statement_63 : decode cX12_statement 63 = .ok (.aload_n 0, 1) := by decide +kernel
theorem dX12_statement_64 : decode cX12_statement 64 = .ok (.iload_n 1, 1) := by decide +kernel
theorem dX12_statement_65 : decode cX12_statement 65 = .ok (.invokevirtual 119, 3) := by decide +kernel
theorem dX12_statement_68 : decode cX12_statement 68 = .ok (.ireturn, 1) := by decide +kernel
theorem dX12_statement_69 : decode cX12_statement 69 = .ok (.iload_n 2, 1) := by decide +kernel
theorem dX12_statement_70 : decode cX12_statement 70 = .ok (.bipush 108, 2) := by decide +kernel
theorem dX12_statement_72 : decode cX12_statement 72 = .ok (.if_icmp .ne 9, 3) := by decide +kernel
theorem dX12_statement_75 : decode cX12_statement 75 = .ok (.aload_n 0, 1) := by decide +kernel
theorem dX12_statement_76 : decode cX12_statement 76 = .ok (.iload_n 1, 1) := by decide +kernel
theorem dX12_statement_77 : decode cX12_statement 77 = .ok (.invokevirtual 122, 3) := by decide +kernel
theorem dX12_statement_80 : decode cX12_statement 80 = .ok (.ireturn, 1) := by decide +kernel
theorem dX12_statement_81 : decode cX12_statement 81 = .ok (.aload_n 0, 1) := by decide +kernel
theorem dX12_statement_82 : decode cX12_statement 82 = .ok (.getfield 46, 3) := by decide +kernel
theorem dX12_statement_85 : decode cX12_statement 85 = .ok (.iload_n 1, 1) := by decide +kernel
theorem dX12_statement_86 : decode cX12_statement 86 = .ok (.aload_n 0, 1) := by decide +kernel
theorem dX12_statement_87 : decode cX12_statement 87 = .ok (.invokevirtual 105, 3) := by decide +kernel
theorem dX12_statement_90 : decode cX12_statement 90 = .ok (.invokestatic 125, 3) := by decide +kernel
theorem dX12_statement_93 : decode cX12_statement 93 = .ok (.iastore, 1) := by decide +kernel
theorem dX12_statement_94 : decode cX12_statement 94 = .ok (.aload_n 0, 1) := by decide +kernel
theorem dX12_statement_95 : decode cX12_statement 95 = .ok (.getfield 46, 3) := by decide +kernel
theorem dX12_statement_98 : decode cX12_statement 98 = .ok (.iload_n 1, 1) := by decide +kernel
theorem dX12_statement_99 : decode cX12_statement 99 = .ok (.iaload, 1) := by decide +kernel
theorem dX12_statement_100 : decode cX12_statement 100 = .ok (.ifCond .ge 5, 3) := by decide +kernel
theorem dX12_statement_103 : decode cX12_statement 103 = .ok (.iconst 0, 1) := by decide +kernel
theorem dX12_statement_104 : decode cX12_statement 104 = .ok (.ireturn, 1) := by decide +kernel
theorem dX12_statement_105 : decode cX12_statement 105 = .ok (.aload_n 0, 1) := by decide +kernel
theorem dX12_statement_106 : decode cX12_statement 106 = .ok (.dup, 1) := by decide +kernel
theorem dX12_statement_107 : decode cX12_statement 107 = .ok (.getfield 102, 3) := by decide +kernel
theorem dX12_statement_110 : decode cX12_statement 110 = .ok (.iconst 1, 1) := by decide +kernel
theorem dX12_statement_111 : decode cX12_statement 111 = .ok (.iadd, 1) := by decide +kernel
theorem dX12_statement_112 : decode cX12_statement 112 = .ok (.putfield 102, 3) := by decide +kernel
theorem dX12_statement_115 : decode cX12_statement 115 = .ok (.aload_n 0, 1) := by decide +kernel
theorem dX12_statement_116 : decode cX12_statement 116 = .ok (.getfield 49, 3) := by decide +kernel
theorem dX12_statement_119 : decode cX12_statement 119 = .ok (.iload_n 1, 1) := by decide +kernel
theorem dX12_statement_120 : decode cX12_statement 120 = .ok (.aload_n 0, 1) := by decide +kernel
theorem dX12_statement_121 : decode cX12_statement 121 = .ok (.iconst 1, 1) := by decide +kernel
theorem dX12_statement_122 : decode cX12_statement 122 = .ok (.invokevirtual 109, 3) := by decide +kernel
theorem dX12_statement_125 : decode cX12_statement 125 = .ok (.iastore, 1) := by decide +kernel
theorem dX12_statement_126 : decode cX12_statement 126 = .ok (.aload_n 0, 1) := by decide +kernel
theorem dX12_statement_127 : decode cX12_statement 127 = .ok (.getfield 49, 3) := by decide +kernel
theorem dX12_statement_130 : decode cX12_statement 130 = .ok (.iload_n 1, 1) := by decide +kernel
theorem dX12_statement_131 : decode cX12_statement 131 = .ok (.iaload, 1) := by decide +kernel
theorem dX12_statement_132 : decode cX12_statement 132 = .ok (.ifCond .lt 16, 3) := by decide +kernel
theorem dX12_statement_135 : decode cX12_statement 135 = .ok (.aload_n 0, 1) := by decide +kernel
theorem dX12_statement_136 : decode cX12_statement 136 = .ok (.bipush 59, 2) := by decide +kernel
theorem dX12_statement_138 : decode cX12_statement 138 = .ok (.invokevirtual 112, 3) := by decide +kernel
theorem dX12_statement_141 : decode cX12_statement 141 = .ok (.ifCond .eq 7, 3) := by decide +kernel
theorem dX12_statement_144 : decode cX12_statement 144 = .ok (.iconst 1, 1) := by decide +kernel
theorem dX12_statement_145 : decode cX12_statement 145 = .ok (.goto 4, 3) := by decide +kernel
theorem dX12_statement_148 : decode cX12_statement 148 = .ok (.iconst 0, 1) := by decide +kernel
theorem dX12_statement_149 : decode cX12_statement 149 = .ok (.ireturn, 1) := by decide +kernel
theorem dX12_comes_0 : decode cX12_comes 0 = .ok (.aload_n 0, 1) := by decide +kernel
theorem dX12_comes_1 : decode cX12_comes 1 = .ok (.getfield 40, 3) := by decide +kernel
theorem dX12_comes_4 : decode cX12_comes 4 = .ok (.iload_n 1, 1) := by decide +kernel
theorem dX12_comes_5 : decode cX12_comes 5 = .ok (.iaload, 1) := by decide +kernel
theorem dX12_comes_6 : decode cX12_comes 6 = .ok (.lookupswitch 257 #[(112, 26), (119, 182)], 26) := by decide +kernel
theorem dX12_comes_32 : decode cX12_comes 32 = .ok (.aload_n 0, 1) := by decide +kernel
theorem dX12_comes_33 : decode cX12_comes 33 = .ok (.getfield 46, 3) := by decide +kernel
theorem dX12_comes_36 : decode cX12_comes 36 = .ok (.iload_n 1, 1) := by decide +kernel
theorem dX12_comes_37 : decode cX12_comes 37 = .ok (.iaload, 1) := by decide +kernel
theorem dX12_comes_38 : decode cX12_comes 38 = .ok (.bipush 30, 2) := by decide +kernel
theorem dX12_comes_40 : decode cX12_comes 40 = .ok (.if_icmp .gt 45, 3) := by decide +kernel
theorem dX12_comes_43 : decode cX12_comes 43 = .ok (.aload_n 0, 1) := by decide +kernel
theorem dX12_comes_44 : decode cX12_comes 44 = .ok (.getfield 49, 3) := by decide +kernel
theorem dX12_comes_47 : decode cX12_comes 47 = .ok (.iload_n 1, 1) := by decide +kernel
theorem dX12_comes_48 : decode cX12_comes 48 = .ok (.iaload, 1) := by decide +kernel
theorem dX12_comes_49 : decode cX12_comes 49 = .ok (.bipush 30, 2) := by decide +kernel
theorem dX12_comes_51 : decode cX12_comes 51 = .ok (.if_icmp .gt 34, 3) := by decide +kernel
theorem dX12_comes_54 : decode cX12_comes 54 = .ok (.aload_n 0, 1) := by decide +kernel
theorem dX12_comes_55 : decode cX12_comes 55 = .ok (.getfield 52, 3) := by decide +kernel
theorem dX12_comes_58 : decode cX12_comes 58 = .ok (.iload_n 1, 1) := by decide +kernel
theorem dX12_comes_59 : decode cX12_comes 59 = .ok (.iaload, 1) := by decide +kernel
theorem dX12_comes_60 : decode cX12_comes 60 = .ok (.bipush 30, 2) := by decide +kernel
theorem dX12_comes_62 : decode cX12_comes 62 = .ok (.if_icmp .gt 23, 3) := by decide +kernel
theorem dX12_comes_65 : decode cX12_comes 65 = .ok (.aload_n 0, 1) := by decide +kernel
theorem dX12_comes_66 : decode cX12_comes 66 = .ok (.getfield 55, 3) := by decide +kernel
theorem dX12_comes_69 : decode cX12_comes 69 = .ok (.iload_n 1, 1) := by decide +kernel
theorem dX12_comes_70 : decode cX12_comes 70 = .ok (.iaload, 1) := by decide +kernel
theorem dX12_comes_71 : decode cX12_comes 71 = .ok (.bipush 30, 2) := by decide +kernel
theorem dX12_comes_73 : decode cX12_comes 73 = .ok (.if_icmp .gt 12, 3) := by decide +kernel
theorem dX12_comes_76 : decode cX12_comes 76 = .ok (.aload_n 0, 1) := by decide +kernel
theorem dX12_comes_77 : decode cX12_comes 77 = .ok (.getfield 76, 3) := by decide +kernel
theorem dX12_comes_80 : decode cX12_comes 80 = .ok (.bipush 6, 2) := by decide +kernel
theorem dX12_comes_82 : decode cX12_comes 82 = .ok (.if_icmp .ne 5, 3) := by decide +kernel
theorem dX12_comes_85 : decode cX12_comes 85 = .ok (.iconst 0, 1) := by decide +kernel
theorem dX12_comes_86 : decode cX12_comes 86 = .ok (.ireturn, 1) := by decide +kernel
theorem dX12_comes_87 : decode cX12_comes 87 = .ok (.aload_n 0, 1) := by decide +kernel
theorem dX12_comes_88 : decode cX12_comes 88 = .ok (.getfield 13, 3) := by decide +kernel
theorem dX12_comes_91 : decode cX12_comes 91 = .ok (.iconst 4, 1) := by decide +kernel
theorem dX12_comes_92 : decode cX12_comes 92 = .ok (.aload_n 0, 1) := by decide +kernel
theorem dX12_comes_93 : decode cX12_comes 93 = .ok (.getfield 76, 3) := by decide +kernel
theorem dX12_comes_96 : decode cX12_comes 96 = .ok (.imul, 1) := by decide +kernel
theorem dX12_comes_97 : decode cX12_comes 97 = .ok (.aload_n 0, 1) := by decide +kernel
theorem dX12_comes_98 : decode cX12_comes 98 = .ok (.getfield 46, 3) := by decide +kernel
theorem dX12_comes_101 : decode cX12_comes 101 = .ok (.iload_n 1, 1) := by decide +kernel
theorem dX12_comes_102 : decode cX12_comes 102 = .ok (.iaload, 1) := by decide +kernel
theorem dX12_comes_103 : decode cX12_comes 103 = .ok (.iastore, 1) := by decide +kernel
theorem dX12_comes_104 : decode cX12_comes 104 = .ok (.aload_n 0, 1) := by decide +kernel
theorem dX12_comes_105 : decode cX12_comes 105 = .ok (.getfield 13, 3) := by decide +kernel
theorem dX12_comes_108 : decode cX12_comes 108 = .ok (.iconst 4, 1) := by decide +kernel
theorem dX12_comes_109 : decode cX12_comes 109 = .ok (.aload_n 0, 1) := by decide +kernel
theorem dX12_comes_110 : decode cX12_comes 110 = .ok (.getfield 76, 3) := by decide +kernel
theorem dX12_comes_113 : decode cX12_comes 113 = .ok (.imul, 1) := by decide +kernel
theorem dX12_comes_114 : decode cX12_comes 114 = .ok (.iconst 1, 1) := by decide +kernel
theorem dX12_comes_115 : decode cX12_comes 115 = .ok (.iadd, 1) := by decide +kernel
theorem dX12_comes_116 : decode cX12_comes 116 = .ok (.aload_n 0, 1) := by decide +kernel
theorem dX12_comes_117 : decode cX12_comes 117 = .ok (.getfield 49, 3) := by decide +kernel
theorem dX12_comes_120 : decode cX12_comes 120 = .ok (.iload_n 1, 1) := by decide +kernel
theorem dX12_comes_121 : decode cX12_comes 121 = .ok (.iaload, 1) := by decide +kernel
theorem dX12_comes_122 : decode cX12_comes 122 = .ok (.iastore, 1) := by decide +kernel
theorem dX12_comes_123 : decode cX12_comes 123 = .ok (.aload_n 0, 1) := by decide +kernel
theorem dX12_comes_124 : decode cX12_comes 124 = .ok (.getfield 13, 3) := by decide +kernel
theorem dX12_comes_127 : decode cX12_comes 127 = .ok (.iconst 4, 1) := by decide +kernel
theorem dX12_comes_128 : decode cX12_comes 128 = .ok (.aload_n 0, 1) := by decide +kernel
theorem dX12_comes_129 : decode cX12_comes 129 = .ok (.getfield 76, 3) := by decide +kernel
theorem dX12_comes_132 : decode cX12_comes 132 = .ok (.imul, 1) := by decide +kernel
theorem dX12_comes_133 : decode cX12_comes 133 = .ok (.iconst 2, 1) := by decide +kernel
theorem dX12_comes_134 : decode cX12_comes 134 = .ok (.iadd, 1) := by decide +kernel
theorem dX12_comes_135 : decode cX12_comes 135 = .ok (.aload_n 0, 1) := by decide +kernel
theorem dX12_comes_136 : decode cX12_comes 136 = .ok (.getfield 52, 3) := by decide +kernel
theorem dX12_comes_139 : decode cX12_comes 139 = .ok (.iload_n 1, 1) := by decide +kernel
theorem dX12_comes_140 : decode cX12_comes 140 = .ok (.iaload, 1) := by decide +kernel
theorem dX12_comes_141 : decode cX12_comes 141 = .ok (.iastore, 1) := by decide +kernel
theorem dX12_comes_142 : decode cX12_comes 142 = .ok (.aload_n 0, 1) := by decide +kernel
theorem dX12_comes_143 : decode cX12_comes 143 = .ok (.getfield 13, 3) := by decide +kernel
theorem dX12_comes_146 : decode cX12_comes 146 = .ok (.iconst 4, 1) := by decide +kernel
theorem dX12_comes_147 : decode cX12_comes 147 = .ok (.aload_n 0, 1) := by decide +kernel
theorem dX12_comes_148 : decode cX12_comes 148 = .ok (.getfield 76, 3) := by decide +kernel
theorem dX12_comes_151 : decode cX12_comes 151 = .ok (.imul, 1) := by decide +kernel
theorem dX12_comes_152 : decode cX12_comes 152 = .ok (.iconst 3, 1) := by decide +kernel
theorem dX12_comes_153 : decode cX12_comes 153 = .ok (.iadd, 1) := by decide +kernel
theorem dX12_comes_154 : decode cX12_comes 154 = .ok (.aload_n 0, 1) := by decide +kernel
theorem dX12_comes_155 : decode cX12_comes 155 = .ok (.getfield 55, 3) := by decide +kernel
theorem dX12_comes_158 : decode cX12_comes 158 = .ok (.iload_n 1, 1) := by decide +kernel
theorem dX12_comes_159 : decode cX12_comes 159 = .ok (.iaload, 1) := by decide +kernel
theorem dX12_comes_160 : decode cX12_comes 160 = .ok (.iastore, 1) := by decide +kernel
theorem dX12_comes_161 : decode cX12_comes 161 = .ok (.aload_n 0, 1) := by decide +kernel
theorem dX12_comes_162 : decode cX12_comes 162 = .ok (.getfield 16, 3) := by decide +kernel
theorem dX12_comes_165 : decode cX12_comes 165 = .ok (.aload_n 0, 1) := by decide +kernel
theorem dX12_comes_166 : decode cX12_comes 166 = .ok (.getfield 76, 3) := by decide +kernel
theorem dX12_comes_169 : decode cX12_comes 169 = .ok (.aload_n 0, 1) := by decide +kernel
theorem dX12_comes_170 : decode cX12_comes 170 = .ok (.getfield 58, 3) := by decide +kernel
theorem dX12_comes_173 : decode cX12_comes 173 = .ok (.iload_n 1, 1) := by decide +kernel
theorem dX12_comes_174 : decode cX12_comes 174 = .ok (.iaload, 1) := by decide +kernel
theorem dX12_comes_175 : decode cX12_comes 175 = .ok (.iastore, 1) := by decide +kernel
theorem dX12_comes_176 : decode cX12_comes 176 = .ok (.aload_n 0, 1) := by decide +kernel
theorem dX12_comes_177 : decode cX12_comes 177 = .ok (.dup, 1) := by decide +kernel
theorem dX12_comes_178 : decode cX12_comes 178 = .ok (.getfield 76, 3) := by decide +kernel
theorem dX12_comes_181 : decode cX12_comes 181 = .ok (.iconst 1, 1) := by decide +kernel
theorem dX12_comes_182 : decode cX12_comes 182 = .ok (.iadd, 1) := by decide +kernel
theorem dX12_comes_183 : decode cX12_comes 183 = .ok (.putfield 76, 3) := by decide +kernel
theorem dX12_comes_186 : decode cX12_comes 186 = .ok (.iconst 1, 1) := by decide +kernel
theorem dX12_comes_187 : decode cX12_comes 187 = .ok (.ireturn, 1) := by decide +kernel
theorem dX12_comes_188 : decode cX12_comes 188 = .ok (.aload_n 0, 1) := by decide +kernel
theorem dX12_comes_189 : decode cX12_comes 189 = .ok (.aload_n 0, 1) := by decide +kernel
theorem dX12_comes_190 : decode cX12_comes 190 = .ok (.getfield 49, 3) := by decide +kernel
theorem dX12_comes_193 : decode cX12_comes 193 = .ok (.iload_n 1, 1) := by decide +kernel
theorem dX12_comes_194 : decode cX12_comes 194 = .ok (.iaload, 1) := by decide +kernel
theorem dX12_comes_195 : decode cX12_comes 195 = .ok (.invokevirtual 128, 3) := by decide +kernel
theorem dX12_comes_198 : decode cX12_comes 198 = .ok (.ifCond .eq 11, 3) := by decide +kernel
theorem dX12_comes_201 : decode cX12_comes 201 = .ok (.aload_n 0, 1) := by decide +kernel
theorem dX12_comes_202 : decode cX12_comes 202 = .ok (.getfield 80, 3) := by decide +kernel
theorem dX12_comes_205 : decode cX12_comes 205 = .ok (.iconst 4, 1) := by decide +kernel
theorem dX12_comes_206 : decode cX12_comes 206 = .ok (.if_icmp .ne 5, 3) := by decide +kernel
theorem dX12_comes_209 : decode cX12_comes 209 = .ok (.iconst 0, 1) := by decide +kernel
theorem dX12_comes_210 : decode cX12_comes 210 = .ok (.ireturn, 1) := by decide +kernel
theorem dX12_comes_211 : decode cX12_comes 211 = .ok (.aload_n 0, 1) := by decide +kernel
theorem dX12_comes_212 : decode cX12_comes 212 = .ok (.getfield 19, 3) := by decide +kernel
theorem dX12_comes_215 : decode cX12_comes 215 = .ok (.aload_n 0, 1) := by decide +kernel
theorem dX12_comes_216 : decode cX12_comes 216 = .ok (.getfield 80, 3) := by decide +kernel
theorem dX12_comes_219 : decode cX12_comes 219 = .ok (.aload_n 0, 1) := by decide +kernel
theorem dX12_comes_220 : decode cX12_comes 220 = .ok (.getfield 46, 3) := by decide +kernel
theorem dX12_comes_223 : decode cX12_comes 223 = .ok (.iload_n 1, 1) := by decide +kernel
theorem dX12_comes_224 : decode cX12_comes 224 = .ok (.iaload, 1) := by decide +kernel
theorem dX12_comes_225 : decode cX12_comes 225 = .ok (.iastore, 1) := by decide +kernel
theorem dX12_comes_226 : decode cX12_comes 226 = .ok (.aload_n 0, 1) := by decide +kernel
theorem dX12_comes_227 : decode cX12_comes 227 = .ok (.getfield 22, 3) := by decide +kernel
theorem dX12_comes_230 : decode cX12_comes 230 = .ok (.aload_n 0, 1) := by decide +kernel
theorem dX12_comes_231 : decode cX12_comes 231 = .ok (.getfield 80, 3) := by decide +kernel
theorem dX12_comes_234 : decode cX12_comes 234 = .ok (.aload_n 0, 1) := by decide +kernel
theorem dX12_comes_235 : decode cX12_comes 235 = .ok (.getfield 49, 3) := by decide +kernel
theorem dX12_comes_238 : decode cX12_comes 238 = .ok (.iload_n 1, 1) := by decide +kernel
theorem dX12_comes_239 : decode cX12_comes 239 = .ok (.iaload, 1) := by decide +kernel
theorem dX12_comes_240 : decode cX12_comes 240 = .ok (.iastore, 1) := by decide +kernel
theorem dX12_comes_241 : decode cX12_comes 241 = .ok (.aload_n 0, 1) := by decide +kernel
theorem dX12_comes_242 : decode cX12_comes 242 = .ok (.getfield 25, 3) := by decide +kernel
theorem dX12_comes_245 : decode cX12_comes 245 = .ok (.aload_n 0, 1) := by decide +kernel
theorem dX12_comes_246 : decode cX12_comes 246 = .ok (.getfield 80, 3) := by decide +kernel
theorem dX12_comes_249 : decode cX12_comes 249 = .ok (.iconst 0, 1) := by decide +kernel
theorem dX12_comes_250 : decode cX12_comes 250 = .ok (.iastore, 1) := by decide +kernel
theorem dX12_comes_251 : decode cX12_comes 251 = .ok (.aload_n 0, 1) := by decide +kernel
theorem dX12_comes_252 : decode cX12_comes 252 = .ok (.dup, 1) := by decide +kernel
theorem dX12_comes_253 : decode cX12_comes 253 = .ok (.getfield 80, 3) := by decide +kernel
theorem dX12_comes_256 : decode cX12_comes 256 = .ok (.iconst 1, 1) := by decide +kernel
theorem dX12_comes_257 : decode cX12_comes 257 = .ok (.iadd, 1) := by decide +kernel
theorem dX12_comes_258 : decode cX12_comes 258 = .ok (.putfield 80, 3) := by decide +kernel
theorem dX12_comes_261 : decode cX12_comes 261 = .ok (.iconst 1, 1) := by decide +kernel
theorem dX12_comes_262 : decode cX12_comes 262 = .ok (.ireturn, 1) := by decide +kernel
theorem dX12_comes_263 : decode cX12_comes 263 = .ok (.aload_n 0, 1) := by decide +kernel
theorem dX12_comes_264 : decode cX12_comes 264 = .ok (.getfield 80, 3) := by decide +kernel
theorem dX12_comes_267 : decode cX12_comes 267 = .ok (.ifCond .eq 43, 3) := by decide +kernel
theorem dX12_comes_270 : decode cX12_comes 270 = .ok (.aload_n 0, 1) := by decide +kernel
theorem dX12_comes_271 : decode cX12_comes 271 = .ok (.getfield 46, 3) := by decide +kernel
theorem dX12_comes_274 : decode cX12_comes 274 = .ok (.iload_n 1, 1) := by decide +kernel
theorem dX12_comes_275 : decode cX12_comes 275 = .ok (.iaload, 1) := by decide +kernel
theorem dX12_comes_276 : decode cX12_comes 276 = .ok (.iconst 5, 1) := by decide +kernel
theorem dX12_comes_277 : decode cX12_comes 277 = .ok (.if_icmp .gt 33, 3) := by decide +kernel
theorem dX12_comes_280 : decode cX12_comes 280 = .ok (.aload_n 0, 1) := by decide +kernel
theorem dX12_comes_281 : decode cX12_comes 281 = .ok (.getfield 49, 3) := by decide +kernel
theorem dX12_comes_284 : decode cX12_comes 284 = .ok (.iload_n 1, 1) := by decide +kernel
theorem dX12_comes_285 : decode cX12_comes 285 = .ok (.iaload, 1) := by decide +kernel
theorem dX12_comes_286 : decode cX12_comes 286 = .ok (.iconst 5, 1) := by decide +kernel
theorem dX12_comes_287 : decode cX12_comes 287 = .ok (.if_icmp .gt 23, 3) := by decide +kernel
theorem dX12_comes_290 : decode cX12_comes 290 = .ok (.aload_n 0, 1) := by decide +kernel
theorem dX12_comes_291 : decode cX12_comes 291 = .ok (.getfield 52, 3) := by decide +kernel
theorem dX12_comes_294 : decode cX12_comes 294 = .ok (.iload_n 1, 1) := by decide +kernel
theorem dX12_comes_295 : decode cX12_comes 295 = .ok (.iaload, 1) := by decide +kernel
theorem dX12_comes_296 : decode cX12_comes 296 = .ok (.iconst 5, 1) := by decide +kernel
theorem dX12_comes_297 : decode cX12_comes 297 = .ok (.if_icmp .gt 13, 3) := by decide +kernel
theorem dX12_comes_300 : decode cX12_comes 300 = .ok (.aload_n 0, 1) := by decide +kernel
theorem dX12_comes_301 : decode cX12_comes 301 = .ok (.getfield 55, 3) := by decide +kernel
theorem dX12_comes_304 : decode cX12_comes 304 = .ok (.iload_n 1, 1) := by decide +kernel
theorem dX12_comes_305 : decode cX12_comes 305 = .ok (.iaload, 1) := by decide +kernel
theorem dX12_comes_306 : decode cX12_comes 306 = .ok (.iconst 5, 1) := by decide +kernel
theorem dX12_comes_307 : decode cX12_comes 307 = .ok (.if_icmp .le 5, 3) := by decide +kernel
theorem dX12_comes_310 : decode cX12_comes 310 = .ok (.iconst 0, 1) := by decide +kernel
theorem dX12_comes_311 : decode cX12_comes 311 = .ok (.ireturn, 1) := by decide +kernel
theorem dX12_comes_312 : decode cX12_comes 312 = .ok (.aload_n 0, 1) := by decide +kernel
theorem dX12_comes_313 : decode cX12_comes 313 = .ok (.getfield 25, 3) := by decide +kernel
theorem dX12_comes_316 : decode cX12_comes 316 = .ok (.aload_n 0, 1) := by decide +kernel
theorem dX12_comes_317 : decode cX12_comes 317 = .ok (.getfield 80, 3) := by decide +kernel
theorem dX12_comes_320 : decode cX12_comes 320 = .ok (.iconst 1, 1) := by decide +kernel
theorem dX12_comes_321 : decode cX12_comes 321 = .ok (.isub, 1) := by decide +kernel
theorem dX12_comes_322 : decode cX12_comes 322 = .ok (.aload_n 0, 1) := by decide +kernel
theorem dX12_comes_323 : decode cX12_comes 323 = .ok (.getfield 46, 3) := by decide +kernel
theorem dX12_comes_326 : decode cX12_comes 326 = .ok (.iload_n 1, 1) := by decide +kernel
theorem dX12_comes_327 : decode cX12_comes 327 = .ok (.iaload, 1) := by decide +kernel
theorem dX12_comes_328 : decode cX12_comes 328 = .ok (.bipush 10, 2) := by decide +kernel
theorem dX12_comes_330 : decode cX12_comes 330 = .ok (.aload_n 0, 1) := by decide +kernel
theorem dX12_comes_331 : decode cX12_comes 331 = .ok (.getfield 49, 3) := by decide +kernel
theorem dX12_comes_334 : decode cX12_comes 334 = .ok (.iload_n 1, 1) := by decide +kernel
theorem dX12_comes_335 : decode cX12_comes 335 = .ok (.iaload, 1) := by decide +kernel
theorem dX12_comes_336 : decode cX12_comes 336 = .ok (.imul, 1) := by decide +kernel
theorem dX12_comes_337 : decode cX12_comes 337 = .ok (.iadd, 1) := by decide +kernel
theorem dX12_comes_338 : decode cX12_comes 338 = .ok (.bipush 100, 2) := by decide +kernel
theorem dX12_comes_340 : decode cX12_comes 340 = .ok (.aload_n 0, 1) := by decide +kernel
theorem dX12_comes_341 : decode cX12_comes 341 = .ok (.getfield 52, 3) := by decide +kernel
theorem dX12_comes_344 : decode cX12_comes 344 = .ok (.iload_n 1, 1) := by decide +kernel
theorem dX12_comes_345 : decode cX12_comes 345 = .ok (.iaload, 1) := by decide +kernel
theorem dX12_comes_346 : decode cX12_comes 346 = .ok (.imul, 1) := by decide +kernel
theorem dX12_comes_347 : decode cX12_comes 347 = .ok (.iadd, 1) := by decide +kernel
theorem dX12_comes_348 : decode cX12_comes 348 = .ok (.sipush 1000, 3) := by decide +kernel
theorem dX12_comes_351 : decode cX12_comes 351 = .ok (.aload_n 0, 1) := by decide +kernel
theorem dX12_comes_352 : decode cX12_comes 352 = .ok (.getfield 55, 3) := by decide +kernel
theorem dX12_comes_355 : decode cX12_comes 355 = .ok (.iload_n 1, 1) := by decide +kernel
theorem dX12_comes_356 : decode cX12_comes 356 = .ok (.iaload, 1) := by decide +kernel
theorem dX12_comes_357 : decode cX12_comes 357 = .ok (.imul, 1) := by decide +kernel
theorem dX12_comes_358 : decode cX12_comes 358 = .ok (.iadd, 1) := by decide +kernel
theorem dX12_comes_359 : decode cX12_comes 359 = .ok (.iastore, 1) := by decide +kernel
theorem dX12_comes_360 : decode cX12_comes 360 = .ok (.iconst 1, 1) := by decide +kernel
theorem dX12_comes_361 : decode cX12_comes 361 = .ok (.ireturn, 1) := by decide +kernel
theorem dX12_parish_0 : decode cX12_parish 0 = .ok (.aload_n 0, 1) := by decide +kernel
theorem dX12_parish_1 : decode cX12_parish 1 = .ok (.iconst 0, 1) := by decide +kernel
theorem dX12_parish_2 : decode cX12_parish 2 = .ok (.putfield 102, 3) := by decide +kernel
theorem dX12_parish_5 : decode cX12_parish 5 = .ok (.aload_n 0, 1) := by decide +kernel
theorem dX12_parish_6 : decode cX12_parish 6 = .ok (.iconst 0, 1) := by decide +kernel
theorem dX12_parish_7 : decode cX12_parish 7 = .ok (.putfield 116, 3) := by decide +kernel
theorem dX12_parish_10 : decode cX12_parish 10 = .ok (.iconst 1, 1) := by decide +kernel
theorem dX12_parish_11 : decode cX12_parish 11 = .ok (.istore_n 1, 1) := by decide +kernel
theorem dX12_parish_12 : decode cX12_parish 12 = .ok (.iload_n 1, 1) := by decide +kernel
theorem dX12_parish_13 : decode cX12_parish 13 = .ok (.ifCond .eq 47, 3) := by decide +kernel
theorem dX12_parish_16 : decode cX12_parish 16 = .ok (.aload_n 0, 1) := by decide +kernel
theorem dX12_parish_17 : decode cX12_parish 17 = .ok (.getfield 102, 3) := by decide +kernel
theorem dX12_parish_20 : decode cX12_parish 20 = .ok (.aload_n 0, 1) := by decide +kernel
theorem dX12_parish_21 : decode cX12_parish 21 = .ok (.getfield 95, 3) := by decide +kernel
theorem dX12_parish_24 : decode cX12_parish 24 = .ok (.if_icmp .lt 10, 3) := by decide +kernel
theorem dX12_parish_27 : decode cX12_parish 27 = .ok (.aload_n 0, 1) := by decide +kernel
theorem dX12_parish_28 : decode cX12_parish 28 = .ok (.getfield 116, 3) := by decide +kernel
theorem dX12_parish_31 : decode cX12_parish 31 = .ok (.ifCond .ne 29, 3) := by decide +kernel
theorem dX12_parish_34 : decode cX12_parish 34 = .ok (.aload_n 0, 1) := by decide +kernel
theorem dX12_parish_35 : decode cX12_parish 35 = .ok (.invokevirtual 131, 3) := by decide +kernel
theorem dX12_parish_38 : decode cX12_parish 38 = .ok (.istore_n 1, 1) := by decide +kernel
theorem dX12_parish_39 : decode cX12_parish 39 = .ok (.aload_n 0, 1) := by decide +kernel
theorem dX12_parish_40 : decode cX12_parish 40 = .ok (.dup, 1) := by decide +kernel
theorem dX12_parish_41 : decode cX12_parish 41 = .ok (.getfield 116, 3) := by decide +kernel
theorem dX12_parish_44 : decode cX12_parish 44 = .ok (.iload_n 1, 1) := by decide +kernel
theorem dX12_parish_45 : decode cX12_parish 45 = .ok (.ifCond .eq 7, 3) := by decide +kernel
theorem dX12_parish_48 : decode cX12_parish 48 = .ok (.iconst 1, 1) := by decide +kernel
theorem dX12_parish_49 : decode cX12_parish 49 = .ok (.goto 4, 3) := by decide +kernel
theorem dX12_parish_52 : decode cX12_parish 52 = .ok (.iconst 0, 1) := by decide +kernel
theorem dX12_parish_53 : decode cX12_parish 53 = .ok (.iadd, 1) := by decide +kernel
theorem dX12_parish_54 : decode cX12_parish 54 = .ok (.putfield 116, 3) := by decide +kernel
theorem dX12_parish_57 : decode cX12_parish 57 = .ok (.goto (-45), 3) := by decide +kernel
theorem dX12_parish_60 : decode cX12_parish 60 = .ok (.aload_n 0, 1) := by decide +kernel
theorem dX12_parish_61 : decode cX12_parish 61 = .ok (.iconst 0, 1) := by decide +kernel
theorem dX12_parish_62 : decode cX12_parish 62 = .ok (.putfield 95, 3) := by decide +kernel
theorem dX12_parish_65 : decode cX12_parish 65 = .ok (.iload_n 1, 1) := by decide +kernel
theorem dX12_parish_66 : decode cX12_parish 66 = .ok (.ifCond .ne 12, 3) := by decide +kernel
theorem dX12_parish_69 : decode cX12_parish 69 = .ok (.sipush (-1000), 3) := by decide +kernel
theorem dX12_parish_72 : decode cX12_parish 72 = .ok (.aload_n 0, 1) := by decide +kernel
theorem dX12_parish_73 : decode cX12_parish 73 = .ok (.getfield 102, 3) := by decide +kernel
theorem dX12_parish_76 : decode cX12_parish 76 = .ok (.isub, 1) := by decide +kernel
theorem dX12_parish_77 : decode cX12_parish 77 = .ok (.ireturn, 1) := by decide +kernel
theorem dX12_parish_78 : decode cX12_parish 78 = .ok (.aload_n 0, 1) := by decide +kernel
theorem dX12_parish_79 : decode cX12_parish 79 = .ok (.iconst 1, 1) := by decide +kernel
theorem dX12_parish_80 : decode cX12_parish 80 = .ok (.iconst 1, 1) := by decide +kernel
theorem dX12_parish_81 : decode cX12_parish 81 = .ok (.invokevirtual 135, 3) := by decide +kernel
theorem dX12_parish_84 : decode cX12_parish 84 = .ok (.iconst 0, 1) := by decide +kernel
theorem dX12_parish_85 : decode cX12_parish 85 = .ok (.istore_n 2, 1) := by decide +kernel
theorem dX12_parish_86 : decode cX12_parish 86 = .ok (.iload_n 2, 1) := by decide +kernel
theorem dX12_parish_87 : decode cX12_parish 87 = .ok (.aload_n 0, 1) := by decide +kernel
theorem dX12_parish_88 : decode cX12_parish 88 = .ok (.getfield 116, 3) := by decide +kernel
theorem dX12_parish_91 : decode cX12_parish 91 = .ok (.if_icmp .ge 37, 3) := by decide +kernel
theorem dX12_parish_94 : decode cX12_parish 94 = .ok (.aload_n 0, 1) := by decide +kernel
theorem dX12_parish_95 : decode cX12_parish 95 = .ok (.iload_n 2, 1) := by decide +kernel
theorem dX12_parish_96 : decode cX12_parish 96 = .ok (.invokevirtual 139, 3) := by decide +kernel
theorem dX12_parish_99 : decode cX12_parish 99 = .ok (.ifCond .eq 6, 3) := by decide +kernel
theorem dX12_parish_102 : decode cX12_parish 102 = .ok (.goto 20, 3) := by decide +kernel
theorem dX12_parish_105 : decode cX12_parish 105 = .ok (.aload_n 0, 1) := by decide +kernel
theorem dX12_parish_106 : decode cX12_parish 106 = .ok (.iconst 1, 1) := by decide +kernel
theorem dX12_parish_107 : decode cX12_parish 107 = .ok (.iconst 0, 1) := by decide +kernel
theorem dX12_parish_108 : decode cX12_parish 108 = .ok (.invokevirtual 135, 3) := by decide +kernel
theorem dX12_parish_111 : decode cX12_parish 111 = .ok (.sipush (-2000), 3) := by decide +kernel
theorem dX12_parish_114 : decode cX12_parish 114 = .ok (.aload_n 0, 1) := by decide +kernel
theorem dX12_parish_115 : decode cX12_parish 115 = .ok (.getfield 43, 3) := by decide +kernel
theorem dX12_parish_118 : decode cX12_parish 118 = .ok (.iload_n 2, 1) := by decide +kernel
theorem dX12_parish_119 : decode cX12_parish 119 = .ok (.iaload, 1) := by decide +kernel
theorem dX12_parish_120 : decode cX12_parish 120 = .ok (.isub, 1) := by decide +kernel
theorem dX12_parish_121 : decode cX12_parish 121 = .ok (.ireturn, 1) := by decide +kernel
theorem dX12_parish_122 : decode cX12_parish 122 = .ok (.iinc 2 1, 3) := by decide +kernel
theorem dX12_parish_125 : decode cX12_parish 125 = .ok (.goto (-39), 3) := by decide +kernel
theorem dX12_parish_128 : decode cX12_parish 128 = .ok (.aload_n 0, 1) := by decide +kernel
theorem dX12_parish_129 : decode cX12_parish 129 = .ok (.getfield 116, 3) := by decide +kernel
theorem dX12_parish_132 : decode cX12_parish 132 = .ok (.ireturn, 1) := by decide +kernel
theorem dX12_passes_0 : decode cX12_passes 0 = .ok (.iconst 0, 1) := by decide +kernel
theorem dX12_passes_1 : decode cX12_passes 1 = .ok (.istore_n 2, 1) := by decide +kernel
theorem dX12_passes_2 : decode cX12_passes 2 = .ok (.iload_n 2, 1) := by decide +kernel
theorem dX12_passes_3 : decode cX12_passes 3 = .ok (.aload_n 1, 1) := by decide +kernel
theorem dX12_passes_4 : decode cX12_passes 4 = .ok (.arraylength, 1) := by decide +kernel
theorem dX12_passes_5 : decode cX12_passes 5 = .ok (.if_icmp .ge 53, 3) := by decide +kernel
theorem dX12_passes_8 : decode cX12_passes 8 = .ok (.aload_n 0, 1) := by decide +kernel
theorem dX12_passes_9 : decode cX12_passes 9 = .ok (.getfield 142, 3) := by decide +kernel
theorem dX12_passes_12 : decode cX12_passes 12 = .ok (.ifCond .eq 18, 3) := by decide +kernel
theorem dX12_passes_15 : decode cX12_passes 15 = .ok (.aload_n 0, 1) := by decide +kernel
theorem dX12_passes_16 : decode cX12_passes 16 = .ok (.getfield 61, 3) := by decide +kernel
theorem dX12_passes_19 : decode cX12_passes 19 = .ok (.aload_n 0, 1) := by decide +kernel
theorem dX12_passes_20 : decode cX12_passes 20 = .ok (.getfield 146, 3) := by decide +kernel
theorem dX12_passes_23 : decode cX12_passes 23 = .ok (.aload_n 1, 1) := by decide +kernel
theorem dX12_passes_24 : decode cX12_passes 24 = .ok (.iload_n 2, 1) := by decide +kernel
theorem dX12_passes_25 : decode cX12_passes 25 = .ok (.iaload, 1) := by decide +kernel
theorem dX12_passes_26 : decode cX12_passes 26 = .ok (.iastore, 1) := by decide +kernel
theorem dX12_passes_27 : decode cX12_passes 27 = .ok (.goto 15, 3) := by decide +kernel
theorem dX12_passes_30 : decode cX12_passes 30 = .ok (.aload_n 1, 1) := by decide +kernel
theorem dX12_passes_31 : decode cX12_passes 31 = .ok (.iload_n 2, 1) := by decide +kernel
theorem dX12_passes_32 : decode cX12_passes 32 = .ok (.aload_n 0, 1) := by decide +kernel
theorem dX12_passes_33 : decode cX12_passes 33 = .ok (.getfield 61, 3) := by decide +kernel
theorem dX12_passes_36 : decode cX12_passes 36 = .ok (.aload_n 0, 1) := by decide +kernel
theorem dX12_passes_37 : decode cX12_passes 37 = .ok (.getfield 146, 3) := by decide +kernel
theorem dX12_passes_40 : decode cX12_passes 40 = .ok (.iaload, 1) := by decide +kernel
theorem dX12_passes_41 : decode cX12_passes 41 = .ok (.iastore, 1) := by decide +kernel
theorem dX12_passes_42 : decode cX12_passes 42 = .ok (.aload_n 0, 1) := by decide +kernel
theorem dX12_passes_43 : decode cX12_passes 43 = .ok (.dup, 1) := by decide +kernel
theorem dX12_passes_44 : decode cX12_passes 44 = .ok (.getfield 146, 3) := by decide +kernel
theorem dX12_passes_47 : decode cX12_passes 47 = .ok (.iconst 1, 1) := by decide +kernel
theorem dX12_passes_48 : decode cX12_passes 48 = .ok (.iadd, 1) := by decide +kernel
theorem dX12_passes_49 : decode cX12_passes 49 = .ok (.putfield 146, 3) := by decide +kernel
theorem dX12_passes_52 : decode cX12_passes 52 = .ok (.iinc 2 1, 3) := by decide +kernel
theorem dX12_passes_55 : decode cX12_passes 55 = .ok (.goto (-53), 3) := by decide +kernel
theorem dX12_passes_58 : decode cX12_passes 58 = .ok (.return_, 1) := by decide +kernel
theorem dX12_passOne_0 : decode cX12_passOne 0 = .ok (.aload_n 0, 1) := by decide +kernel
theorem dX12_passOne_1 : decode cX12_passOne 1 = .ok (.getfield 142, 3) := by decide +kernel
theorem dX12_passOne_4 : decode cX12_passOne 4 = .ok (.ifCond .eq 7, 3) := by decide +kernel
theorem dX12_passOne_7 : decode cX12_passOne 7 = .ok (.iload_n 1, 1) := by decide +kernel
theorem dX12_passOne_8 : decode cX12_passOne 8 = .ok (.goto 12, 3) := by decide +kernel
theorem dX12_passOne_11 : decode cX12_passOne 11 = .ok (.aload_n 0, 1) := by decide +kernel
theorem dX12_passOne_12 : decode cX12_passOne 12 = .ok (.getfield 61, 3) := by decide +kernel
theorem dX12_passOne_15 : decode cX12_passOne 15 = .ok (.aload_n 0, 1) := by decide +kernel
theorem dX12_passOne_16 : decode cX12_passOne 16 = .ok (.getfield 146, 3) := by decide +kernel
theorem dX12_passOne_19 : decode cX12_passOne 19 = .ok (.iaload, 1) := by decide +kernel
theorem dX12_passOne_20 : decode cX12_passOne 20 = .ok (.istore_n 2, 1) := by decide +kernel
theorem dX12_passOne_21 : decode cX12_passOne 21 = .ok (.aload_n 0, 1) := by decide +kernel
theorem dX12_passOne_22 : decode cX12_passOne 22 = .ok (.getfield 142, 3) := by decide +kernel
theorem dX12_passOne_25 : decode cX12_passOne 25 = .ok (.ifCond .eq 13, 3) := by decide +kernel
theorem dX12_passOne_28 : decode cX12_passOne 28 = .ok (.aload_n 0, 1) := by decide +kernel
theorem dX12_passOne_29 : decode cX12_passOne 29 = .ok (.getfield 61, 3) := by decide +kernel
theorem dX12_passOne_32 : decode cX12_passOne 32 = .ok (.aload_n 0, 1) := by decide +kernel
theorem dX12_passOne_33 : decode cX12_passOne 33 = .ok (.getfield 146, 3) := by decide +kernel
theorem dX12_passOne_36 : decode cX12_passOne 36 = .ok (.iload_n 1, 1) := by decide +kernel
theorem dX12_passOne_37 : decode cX12_passOne 37 = .ok (.iastore, 1) := by decide +kernel
theorem dX12_passOne_38 : decode cX12_passOne 38 = .ok (.aload_n 0, 1) := by decide +kernel
theorem dX12_passOne_39 : decode cX12_passOne 39 = .ok (.dup, 1) := by decide +kernel
theorem dX12_passOne_40 : decode cX12_passOne 40 = .ok (.getfield 146, 3) := by decide +kernel
theorem dX12_passOne_43 : decode cX12_passOne 43 = .ok (.iconst 1, 1) := by decide +kernel
theorem dX12_passOne_44 : decode cX12_passOne 44 = .ok (.iadd, 1) := by decide +kernel
theorem dX12_passOne_45 : decode cX12_passOne 45 = .ok (.putfield 146, 3) := by decide +kernel
theorem dX12_passOne_48 : decode cX12_passOne 48 = .ok (.iload_n 2, 1) := by decide +kernel
theorem dX12_passOne_49 : decode cX12_passOne 49 = .ok (.ireturn, 1) := by decide +kernel
theorem dX12_passesAll_0 : decode cX12_passesAll 0 = .ok (.aload_n 0, 1) := by decide +kernel
theorem dX12_passesAll_1 : decode cX12_passesAll 1 = .ok (.sipush 150, 3) := by decide +kernel
theorem dX12_passesAll_4 : decode cX12_passesAll 4 = .ok (.iload_n 1, 1) := by decide +kernel
theorem dX12_passesAll_5 : decode cX12_passesAll 5 = .ok (.imul, 1) := by decide +kernel
theorem dX12_passesAll_6 : decode cX12_passesAll 6 = .ok (.putfield 146, 3) := by decide +kernel
theorem dX12_passesAll_9 : decode cX12_passesAll 9 = .ok (.aload_n 0, 1) := by decide +kernel
theorem dX12_passesAll_10 : decode cX12_passesAll 10 = .ok (.iload_n 2, 1) := by decide +kernel
theorem dX12_passesAll_11 : decode cX12_passesAll 11 = .ok (.putfield 142, 3) := by decide +kernel
theorem dX12_passesAll_14 : decode cX12_passesAll 14 = .ok (.aload_n 0, 1) := by decide +kernel
theorem dX12_passesAll_15 : decode cX12_passesAll 15 = .ok (.aload_n 0, 1) := by decide +kernel
theorem dX12_passesAll_16 : decode cX12_passesAll 16 = .ok (.getfield 13, 3) := by decide +kernel
theorem dX12_passesAll_19 : decode cX12_passesAll 19 = .ok (.invokevirtual 149, 3) := by decide +kernel
theorem dX12_passesAll_22 : decode cX12_passesAll 22 = .ok (.aload_n 0, 1) := by decide +kernel
theorem dX12_passesAll_23 : decode cX12_passesAll 23 = .ok (.aload_n 0, 1) := by decide +kernel
theorem dX12_passesAll_24 : decode cX12_passesAll 24 = .ok (.getfield 16, 3) := by decide +kernel
theorem dX12_passesAll_27 : decode cX12_passesAll 27 = .ok (.invokevirtual 149, 3) := by decide +kernel
theorem dX12_passesAll_30 : decode cX12_passesAll 30 = .ok (.aload_n 0, 1) := by decide +kernel
theorem dX12_passesAll_31 : decode cX12_passesAll 31 = .ok (.aload_n 0, 1) := by decide +kernel
theorem dX12_passesAll_32 : decode cX12_passesAll 32 = .ok (.getfield 19, 3) := by decide +kernel
theorem dX12_passesAll_35 : decode cX12_passesAll 35 = .ok (.invokevirtual 149, 3) := by decide +kernel
theorem dX12_passesAll_38 : decode cX12_passesAll 38 = .ok (.aload_n 0, 1) := by decide +kernel
theorem dX12_passesAll_39 : decode cX12_passesAll 39 = .ok (.aload_n 0, 1) := by decide +kernel
theorem dX12_passesAll_40 : decode cX12_passesAll 40 = .ok (.getfield 22, 3) := by decide +kernel
theorem dX12_passesAll_43 : decode cX12_passesAll 43 = .ok (.invokevirtual 149, 3) := by decide +kernel
theorem dX12_passesAll_46 : decode cX12_passesAll 46 = .ok (.aload_n 0, 1) := by decide +kernel
theorem dX12_passesAll_47 : decode cX12_passesAll 47 = .ok (.aload_n 0, 1) := by decide +kernel
theorem dX12_passesAll_48 : decode cX12_passesAll 48 = .ok (.getfield 25, 3) := by decide +kernel
theorem dX12_passesAll_51 : decode cX12_passesAll 51 = .ok (.invokevirtual 149, 3) := by decide +kernel
theorem dX12_passesAll_54 : decode cX12_passesAll 54 = .ok (.aload_n 0, 1) := by decide +kernel
theorem dX12_passesAll_55 : decode cX12_passesAll 55 = .ok (.aload_n 0, 1) := by decide +kernel
theorem dX12_passesAll_56 : decode cX12_passesAll 56 = .ok (.getfield 28, 3) := by decide +kernel
theorem dX12_passesAll_59 : decode cX12_passesAll 59 = .ok (.invokevirtual 149, 3) := by decide +kernel
theorem dX12_passesAll_62 : decode cX12_passesAll 62 = .ok (.aload_n 0, 1) := by decide +kernel
theorem dX12_passesAll_63 : decode cX12_passesAll 63 = .ok (.aload_n 0, 1) := by decide +kernel
theorem dX12_passesAll_64 : decode cX12_passesAll 64 = .ok (.getfield 31, 3) := by decide +kernel
theorem dX12_passesAll_67 : decode cX12_passesAll 67 = .ok (.invokevirtual 149, 3) := by decide +kernel
theorem dX12_passesAll_70 : decode cX12_passesAll 70 = .ok (.aload_n 0, 1) := by decide +kernel
theorem dX12_passesAll_71 : decode cX12_passesAll 71 = .ok (.aload_n 0, 1) := by decide +kernel
theorem dX12_passesAll_72 : decode cX12_passesAll 72 = .ok (.getfield 34, 3) := by decide +kernel
theorem dX12_passesAll_75 : decode cX12_passesAll 75 = .ok (.invokevirtual 149, 3) := by decide +kernel
theorem dX12_passesAll_78 : decode cX12_passesAll 78 = .ok (.aload_n 0, 1) := by decide +kernel
theorem dX12_passesAll_79 : decode cX12_passesAll 79 = .ok (.aload_n 0, 1) := by decide +kernel
theorem dX12_passesAll_80 : decode cX12_passesAll 80 = .ok (.aload_n 0, 1) := by decide +kernel
theorem dX12_passesAll_81 : decode cX12_passesAll 81 = .ok (.getfield 76, 3) := by decide +kernel
theorem dX12_passesAll_84 : decode cX12_passesAll 84 = .ok (.invokevirtual 153, 3) := by decide +kernel
theorem dX12_passesAll_87 : decode cX12_passesAll 87 = .ok (.putfield 76, 3) := by decide +kernel
theorem dX12_passesAll_90 : decode cX12_passesAll 90 = .ok (.aload_n 0, 1) := by decide +kernel
theorem dX12_passesAll_91 : decode cX12_passesAll 91 = .ok (.aload_n 0, 1) := by decide +kernel
theorem dX12_passesAll_92 : decode cX12_passesAll 92 = .ok (.aload_n 0, 1) := by decide +kernel
theorem dX12_passesAll_93 : decode cX12_passesAll 93 = .ok (.getfield 80, 3) := by decide +kernel
theorem dX12_passesAll_96 : decode cX12_passesAll 96 = .ok (.invokevirtual 153, 3) := by decide +kernel
theorem dX12_passesAll_99 : decode cX12_passesAll 99 = .ok (.putfield 80, 3) := by decide +kernel
theorem dX12_passesAll_102 : decode cX12_passesAll 102 = .ok (.aload_n 0, 1) := by decide +kernel
theorem dX12_passesAll_103 : decode cX12_passesAll 103 = .ok (.aload_n 0, 1) := by decide +kernel
theorem dX12_passesAll_104 : decode cX12_passesAll 104 = .ok (.aload_n 0, 1) := by decide +kernel
theorem dX12_passesAll_105 : decode cX12_passesAll 105 = .ok (.getfield 156, 3) := by decide +kernel
theorem dX12_passesAll_108 : decode cX12_passesAll 108 = .ok (.invokevirtual 153, 3) := by decide +kernel
theorem dX12_passesAll_111 : decode cX12_passesAll 111 = .ok (.putfield 156, 3) := by decide +kernel
theorem dX12_passesAll_114 : decode cX12_passesAll 114 = .ok (.aload_n 0, 1) := by decide +kernel
theorem dX12_passesAll_115 : decode cX12_passesAll 115 = .ok (.aload_n 0, 1) := by decide +kernel
theorem dX12_passesAll_116 : decode cX12_passesAll 116 = .ok (.aload_n 0, 1) := by decide +kernel
theorem dX12_passesAll_117 : decode cX12_passesAll 117 = .ok (.getfield 159, 3) := by decide +kernel
theorem dX12_passesAll_120 : decode cX12_passesAll 120 = .ok (.invokevirtual 153, 3) := by decide +kernel
theorem dX12_passesAll_123 : decode cX12_passesAll 123 = .ok (.putfield 159, 3) := by decide +kernel
theorem dX12_passesAll_126 : decode cX12_passesAll 126 = .ok (.aload_n 0, 1) := by decide +kernel
theorem dX12_passesAll_127 : decode cX12_passesAll 127 = .ok (.aload_n 0, 1) := by decide +kernel
theorem dX12_passesAll_128 : decode cX12_passesAll 128 = .ok (.aload_n 0, 1) := by decide +kernel
theorem dX12_passesAll_129 : decode cX12_passesAll 129 = .ok (.getfield 162, 3) := by decide +kernel
theorem dX12_passesAll_132 : decode cX12_passesAll 132 = .ok (.invokevirtual 153, 3) := by decide +kernel
theorem dX12_passesAll_135 : decode cX12_passesAll 135 = .ok (.putfield 162, 3) := by decide +kernel
theorem dX12_passesAll_138 : decode cX12_passesAll 138 = .ok (.aload_n 0, 1) := by decide +kernel
theorem dX12_passesAll_139 : decode cX12_passesAll 139 = .ok (.aload_n 0, 1) := by decide +kernel
theorem dX12_passesAll_140 : decode cX12_passesAll 140 = .ok (.aload_n 0, 1) := by decide +kernel
theorem dX12_passesAll_141 : decode cX12_passesAll 141 = .ok (.getfield 165, 3) := by decide +kernel
theorem dX12_passesAll_144 : decode cX12_passesAll 144 = .ok (.invokevirtual 153, 3) := by decide +kernel
theorem dX12_passesAll_147 : decode cX12_passesAll 147 = .ok (.putfield 165, 3) := by decide +kernel
theorem dX12_passesAll_150 : decode cX12_passesAll 150 = .ok (.aload_n 0, 1) := by decide +kernel
theorem dX12_passesAll_151 : decode cX12_passesAll 151 = .ok (.aload_n 0, 1) := by decide +kernel
theorem dX12_passesAll_152 : decode cX12_passesAll 152 = .ok (.aload_n 0, 1) := by decide +kernel
theorem dX12_passesAll_153 : decode cX12_passesAll 153 = .ok (.getfield 168, 3) := by decide +kernel
theorem dX12_passesAll_156 : decode cX12_passesAll 156 = .ok (.invokevirtual 153, 3) := by decide +kernel
theorem dX12_passesAll_159 : decode cX12_passesAll 159 = .ok (.putfield 168, 3) := by decide +kernel
theorem dX12_passesAll_162 : decode cX12_passesAll 162 = .ok (.aload_n 0, 1) := by decide +kernel
theorem dX12_passesAll_163 : decode cX12_passesAll 163 = .ok (.aload_n 0, 1) := by decide +kernel
theorem dX12_passesAll_164 : decode cX12_passesAll 164 = .ok (.aload_n 0, 1) := by decide +kernel
theorem dX12_passesAll_165 : decode cX12_passesAll 165 = .ok (.getfield 171, 3) := by decide +kernel
theorem dX12_passesAll_168 : decode cX12_passesAll 168 = .ok (.invokevirtual 153, 3) := by decide +kernel
theorem dX12_passesAll_171 : decode cX12_passesAll 171 = .ok (.putfield 171, 3) := by decide +kernel
theorem dX12_passesAll_174 : decode cX12_passesAll 174 = .ok (.return_, 1) := by decide +kernel
theorem dX12_keeps_0 : decode cX12_keeps 0 = .ok (.iconst 0, 1) := by decide +kernel
theorem dX12_keeps_1 : decode cX12_keeps 1 = .ok (.istore_n 2, 1) := by decide +kernel
theorem dX12_keeps_2 : decode cX12_keeps 2 = .ok (.iload_n 2, 1) := by decide +kernel
theorem dX12_keeps_3 : decode cX12_keeps 3 = .ok (.bipush 24, 2) := by decide +kernel
theorem dX12_keeps_5 : decode cX12_keeps 5 = .ok (.if_icmp .ge 26, 3) := by decide +kernel
theorem dX12_keeps_8 : decode cX12_keeps 8 = .ok (.aload_n 0, 1) := by decide +kernel
theorem dX12_keeps_9 : decode cX12_keeps 9 = .ok (.getfield 64, 3) := by decide +kernel
theorem dX12_keeps_12 : decode cX12_keeps 12 = .ok (.bipush 24, 2) := by decide +kernel
theorem dX12_keeps_14 : decode cX12_keeps 14 = .ok (.iload_n 1, 1) := by decide +kernel
theorem dX12_keeps_15 : decode cX12_keeps 15 = .ok (.imul, 1) := by decide +kernel
theorem dX12_keeps_16 : decode cX12_keeps 16 = .ok (.iload_n 2, 1) := by decide +kernel
theorem dX12_keeps_17 : decode cX12_keeps 17 = .ok (.iadd, 1) := by decide +kernel
theorem dX12_keeps_18 : decode cX12_keeps 18 = .ok (.aload_n 0, 1) := by decide +kernel
theorem dX12_keeps_19 : decode cX12_keeps 19 = .ok (.getfield 13, 3) := by decide +kernel
theorem dX12_keeps_22 : decode cX12_keeps 22 = .ok (.iload_n 2, 1) := by decide +kernel
theorem dX12_keeps_23 : decode cX12_keeps 23 = .ok (.iaload, 1) := by decide +kernel
theorem dX12_keeps_24 : decode cX12_keeps 24 = .ok (.iastore, 1) := by decide +kernel
theorem dX12_keeps_25 : decode cX12_keeps 25 = .ok (.iinc 2 1, 3) := by decide +kernel
theorem dX12_keeps_28 : decode cX12_keeps 28 = .ok (.goto (-26), 3) := by decide +kernel
theorem dX12_keeps_31 : decode cX12_keeps 31 = .ok (.return_, 1) := by decide +kernel
theorem dX12_putsBack_0 : decode cX12_putsBack 0 = .ok (.iconst 0, 1) := by decide +kernel
theorem dX12_putsBack_1 : decode cX12_putsBack 1 = .ok (.istore_n 2, 1) := by decide +kernel
theorem dX12_putsBack_2 : decode cX12_putsBack 2 = .ok (.iload_n 2, 1) := by decide +kernel
theorem dX12_putsBack_3 : decode cX12_putsBack 3 = .ok (.bipush 24, 2) := by decide +kernel
theorem dX12_putsBack_5 : decode cX12_putsBack 5 = .ok (.if_icmp .ge 26, 3) := by decide +kernel
theorem dX12_putsBack_8 : decode cX12_putsBack 8 = .ok (.aload_n 0, 1) := by decide +kernel
theorem dX12_putsBack_9 : decode cX12_putsBack 9 = .ok (.getfield 13, 3) := by decide +kernel
theorem dX12_putsBack_12 : decode cX12_putsBack 12 = .ok (.iload_n 2, 1) := by decide +kernel
theorem dX12_putsBack_13 : decode cX12_putsBack 13 = .ok (.aload_n 0, 1) := by decide +kernel
theorem dX12_putsBack_14 : decode cX12_putsBack 14 = .ok (.getfield 64, 3) := by decide +kernel
theorem dX12_putsBack_17 : decode cX12_putsBack 17 = .ok (.bipush 24, 2) := by decide +kernel
theorem dX12_putsBack_19 : decode cX12_putsBack 19 = .ok (.iload_n 1, 1) := by decide +kernel
theorem dX12_putsBack_20 : decode cX12_putsBack 20 = .ok (.imul, 1) := by decide +kernel
theorem dX12_putsBack_21 : decode cX12_putsBack 21 = .ok (.iload_n 2, 1) := by decide +kernel
theorem dX12_putsBack_22 : decode cX12_putsBack 22 = .ok (.iadd, 1) := by decide +kernel
theorem dX12_putsBack_23 : decode cX12_putsBack 23 = .ok (.iaload, 1) := by decide +kernel
theorem dX12_putsBack_24 : decode cX12_putsBack 24 = .ok (.iastore, 1) := by decide +kernel
theorem dX12_putsBack_25 : decode cX12_putsBack 25 = .ok (.iinc 2 1, 3) := by decide +kernel
theorem dX12_putsBack_28 : decode cX12_putsBack 28 = .ok (.goto (-26), 3) := by decide +kernel
theorem dX12_putsBack_31 : decode cX12_putsBack 31 = .ok (.return_, 1) := by decide +kernel
theorem dX12_scoreOf_0 : decode cX12_scoreOf 0 = .ok (.iconst 0, 1) := by decide +kernel
theorem dX12_scoreOf_1 : decode cX12_scoreOf 1 = .ok (.istore_n 3, 1) := by decide +kernel
theorem dX12_scoreOf_2 : decode cX12_scoreOf 2 = .ok (.iconst 0, 1) := by decide +kernel
theorem dX12_scoreOf_3 : decode cX12_scoreOf 3 = .ok (.istore 4, 2) := by decide +kernel
theorem dX12_scoreOf_5 : decode cX12_scoreOf 5 = .ok (.iload 4, 2) := by decide +kernel
theorem dX12_scoreOf_7 : decode cX12_scoreOf 7 = .ok (.iconst 4, 1) := by decide +kernel
theorem dX12_scoreOf_8 : decode cX12_scoreOf 8 = .ok (.if_icmp .ge 102, 3) := by decide +kernel
theorem dX12_scoreOf_11 : decode cX12_scoreOf 11 = .ok (.iload_n 2, 1) := by decide +kernel
theorem dX12_scoreOf_12 : decode cX12_scoreOf 12 = .ok (.iload 4, 2) := by decide +kernel
theorem dX12_scoreOf_14 : decode cX12_scoreOf 14 = .ok (.invokestatic 87, 3) := by decide +kernel
theorem dX12_scoreOf_17 : decode cX12_scoreOf 17 = .ok (.istore 5, 2) := by decide +kernel
theorem dX12_scoreOf_19 : decode cX12_scoreOf 19 = .ok (.aload_n 0, 1) := by decide +kernel
theorem dX12_scoreOf_20 : decode cX12_scoreOf 20 = .ok (.getfield 13, 3) := by decide +kernel
theorem dX12_scoreOf_23 : decode cX12_scoreOf 23 = .ok (.iconst 4, 1) := by decide +kernel
theorem dX12_scoreOf_24 : decode cX12_scoreOf 24 = .ok (.iload_n 1, 1) := by decide +kernel
theorem dX12_scoreOf_25 : decode cX12_scoreOf 25 = .ok (.imul, 1) := by decide +kernel
theorem dX12_scoreOf_26 : decode cX12_scoreOf 26 = .ok (.iload 4, 2) := by decide +kernel
theorem dX12_scoreOf_28 : decode cX12_scoreOf 28 = .ok (.iadd, 1) := by decide +kernel
theorem dX12_scoreOf_29 : decode cX12_scoreOf 29 = .ok (.iaload, 1) := by decide +kernel
theorem dX12_scoreOf_30 : decode cX12_scoreOf 30 = .ok (.istore 6, 2) := by decide +kernel
theorem dX12_scoreOf_32 : decode cX12_scoreOf 32 = .ok (.aload_n 0, 1) := by decide +kernel
theorem dX12_scoreOf_33 : decode cX12_scoreOf 33 = .ok (.getfield 156, 3) := by decide +kernel
theorem dX12_scoreOf_36 : decode cX12_scoreOf 36 = .ok (.ifCond .eq 11, 3) := by decide +kernel
theorem dX12_scoreOf_39 : decode cX12_scoreOf 39 = .ok (.aload_n 0, 1) := by decide +kernel
theorem dX12_scoreOf_40 : decode cX12_scoreOf 40 = .ok (.getfield 156, 3) := by decide +kernel
theorem dX12_scoreOf_43 : decode cX12_scoreOf 43 = .ok (.iconst 3, 1) := by decide +kernel
theorem dX12_scoreOf_44 : decode cX12_scoreOf 44 = .ok (.if_icmp .ne 14, 3) := by decide +kernel
theorem dX12_scoreOf_47 : decode cX12_scoreOf 47 = .ok (.iload_n 3, 1) := by decide +kernel
theorem dX12_scoreOf_48 : decode cX12_scoreOf 48 = .ok (.iload 5, 2) := by decide +kernel
theorem dX12_scoreOf_50 : decode cX12_scoreOf 50 = .ok (.iload 6, 2) := by decide +kernel
theorem dX12_scoreOf_52 : decode cX12_scoreOf 52 = .ok (.imul, 1) := by decide +kernel
theorem dX12_scoreOf_53 : decode cX12_scoreOf 53 = .ok (.iadd, 1) := by decide +kernel
theorem dX12_scoreOf_54 : decode cX12_scoreOf 54 = .ok (.istore_n 3, 1) := by decide +kernel
theorem dX12_scoreOf_55 : decode cX12_scoreOf 55 = .ok (.goto 49, 3) := by decide +kernel
theorem dX12_scoreOf_58 : decode cX12_scoreOf 58 = .ok (.aload_n 0, 1) := by decide +kernel
theorem dX12_scoreOf_59 : decode cX12_scoreOf 59 = .ok (.getfield 156, 3) := by decide +kernel
theorem dX12_scoreOf_62 : decode cX12_scoreOf 62 = .ok (.iconst 2, 1) := by decide +kernel
theorem dX12_scoreOf_63 : decode cX12_scoreOf 63 = .ok (.if_icmp .eq 23, 3) := by decide +kernel
theorem dX12_scoreOf_66 : decode cX12_scoreOf 66 = .ok (.iload_n 3, 1) := by decide +kernel
theorem dX12_scoreOf_67 : decode cX12_scoreOf 67 = .ok (.iload 5, 2) := by decide +kernel
theorem dX12_scoreOf_69 : decode cX12_scoreOf 69 = .ok (.iload 6, 2) := by decide +kernel
theorem dX12_scoreOf_71 : decode cX12_scoreOf 71 = .ok (.if_icmp .ge 8, 3) := by decide +kernel
theorem dX12_scoreOf_74 : decode cX12_scoreOf 74 = .ok (.iload 5, 2) := by decide +kernel
theorem dX12_scoreOf_76 : decode cX12_scoreOf 76 = .ok (.goto 5, 3) := by decide +kernel
theorem dX12_scoreOf_79 : decode cX12_scoreOf 79 = .ok (.iload 6, 2) := by decide +kernel
theorem dX12_scoreOf_81 : decode cX12_scoreOf 81 = .ok (.iadd, 1) := by decide +kernel
theorem dX12_scoreOf_82 : decode cX12_scoreOf 82 = .ok (.istore_n 3, 1) := by decide +kernel
theorem dX12_scoreOf_83 : decode cX12_scoreOf 83 = .ok (.goto 21, 3) := by decide +kernel
theorem dX12_scoreOf_86 : decode cX12_scoreOf 86 = .ok (.iload 5, 2) := by decide +kernel
theorem dX12_scoreOf_88 : decode cX12_scoreOf 88 = .ok (.ifCond .le 14, 3) := by decide +kernel
theorem dX12_scoreOf_91 : decode cX12_scoreOf 91 = .ok (.iload 6, 2) := by decide +kernel
theorem dX12_scoreOf_93 : decode cX12_scoreOf 93 = .ok (.iload_n 3, 1) := by decide +kernel
theorem dX12_scoreOf_94 : decode cX12_scoreOf 94 = .ok (.if_icmp .le 8, 3) := by decide +kernel
theorem dX12_scoreOf_97 : decode cX12_scoreOf 97 = .ok (.iload 6, 2) := by decide +kernel
theorem dX12_scoreOf_99 : decode cX12_scoreOf 99 = .ok (.goto 4, 3) := by decide +kernel
theorem dX12_scoreOf_102 : decode cX12_scoreOf 102 = .ok (.iload_n 3, 1) := by decide +kernel
theorem dX12_scoreOf_103 : decode cX12_scoreOf 103 = .ok (.istore_n 3, 1) := by decide +kernel
theorem dX12_scoreOf_104 : decode cX12_scoreOf 104 = .ok (.iinc 4 1, 3) := by decide +kernel
theorem dX12_scoreOf_107 : decode cX12_scoreOf 107 = .ok (.goto (-102), 3) := by decide +kernel
theorem dX12_scoreOf_110 : decode cX12_scoreOf 110 = .ok (.iload_n 3, 1) := by decide +kernel
theorem dX12_scoreOf_111 : decode cX12_scoreOf 111 = .ok (.ireturn, 1) := by decide +kernel
theorem dX12_firstBut_0 : decode cX12_firstBut 0 = .ok (.bipush (-9), 2) := by decide +kernel
theorem dX12_firstBut_2 : decode cX12_firstBut 2 = .ok (.istore_n 3, 1) := by decide +kernel
theorem dX12_firstBut_3 : decode cX12_firstBut 3 = .ok (.iconst 0, 1) := by decide +kernel
theorem dX12_firstBut_4 : decode cX12_firstBut 4 = .ok (.istore 4, 2) := by decide +kernel
theorem dX12_firstBut_6 : decode cX12_firstBut 6 = .ok (.iconst 0, 1) := by decide +kernel
theorem dX12_firstBut_7 : decode cX12_firstBut 7 = .ok (.istore 5, 2) := by decide +kernel
theorem dX12_firstBut_9 : decode cX12_firstBut 9 = .ok (.iload 5, 2) := by decide +kernel
theorem dX12_firstBut_11 : decode cX12_firstBut 11 = .ok (.aload_n 0, 1) := by decide +kernel
theorem dX12_firstBut_12 : decode cX12_firstBut 12 = .ok (.getfield 76, 3) := by decide +kernel
theorem dX12_firstBut_15 : decode cX12_firstBut 15 = .ok (.if_icmp .ge 57, 3) := by decide +kernel
theorem dX12_firstBut_18 : decode cX12_firstBut 18 = .ok (.iload 5, 2) := by decide +kernel
theorem dX12_firstBut_20 : decode cX12_firstBut 20 = .ok (.iload_n 2, 1) := by decide +kernel
theorem dX12_firstBut_21 : decode cX12_firstBut 21 = .ok (.if_icmp .eq 45, 3) := by decide +kernel
theorem dX12_firstBut_24 : decode cX12_firstBut 24 = .ok (.aload_n 0, 1) := by decide +kernel
theorem dX12_firstBut_25 : decode cX12_firstBut 25 = .ok (.getfield 174, 3) := by decide +kernel
theorem dX12_firstBut_28 : decode cX12_firstBut 28 = .ok (.iload 5, 2) := by decide +kernel
theorem dX12_firstBut_30 : decode cX12_firstBut 30 = .ok (.ishr, 1) := by decide +kernel
theorem dX12_firstBut_31 : decode cX12_firstBut 31 = .ok (.iconst 1, 1) := by decide +kernel
theorem dX12_firstBut_32 : decode cX12_firstBut 32 = .ok (.iand, 1) := by decide +kernel
theorem dX12_firstBut_33 : decode cX12_firstBut 33 = .ok (.iconst 1, 1) := by decide +kernel
theorem dX12_firstBut_34 : decode cX12_firstBut 34 = .ok (.if_icmp .ne 6, 3) := by decide +kernel
theorem dX12_firstBut_37 : decode cX12_firstBut 37 = .ok (.goto 29, 3) := by decide +kernel
theorem dX12_firstBut_40 : decode cX12_firstBut 40 = .ok (.aload_n 0, 1) := by decide +kernel
theorem dX12_firstBut_41 : decode cX12_firstBut 41 = .ok (.iload 5, 2) := by decide +kernel
theorem dX12_firstBut_43 : decode cX12_firstBut 43 = .ok (.iload_n 1, 1) := by decide +kernel
theorem dX12_firstBut_44 : decode cX12_firstBut 44 = .ok (.invokevirtual 177, 3) := by decide +kernel
theorem dX12_firstBut_47 : decode cX12_firstBut 47 = .ok (.istore 6, 2) := by decide +kernel
theorem dX12_firstBut_49 : decode cX12_firstBut 49 = .ok (.iload 6, 2) := by decide +kernel
theorem dX12_firstBut_51 : decode cX12_firstBut 51 = .ok (.iload 4, 2) := by decide +kernel
theorem dX12_firstBut_53 : decode cX12_firstBut 53 = .ok (.if_icmp .gt 6, 3) := by decide +kernel
theorem dX12_firstBut_56 : decode cX12_firstBut 56 = .ok (.goto 10, 3) := by decide +kernel
theorem dX12_firstBut_59 : decode cX12_firstBut 59 = .ok (.iload 5, 2) := by decide +kernel
theorem dX12_firstBut_61 : decode cX12_firstBut 61 = .ok (.istore_n 3, 1) := by decide +kernel
theorem dX12_firstBut_62 : decode cX12_firstBut 62 = .ok (.iload 6, 2) := by decide +kernel
theorem dX12_firstBut_64 : decode cX12_firstBut 64 = .ok (.istore 4, 2) := by decide +kernel
theorem dX12_firstBut_66 : decode cX12_firstBut 66 = .ok (.iinc 5 1, 3) := by decide +kernel
theorem dX12_firstBut_69 : decode cX12_firstBut 69 = .ok (.goto (-60), 3) := by decide +kernel
theorem dX12_firstBut_72 : decode cX12_firstBut 72 = .ok (.iload_n 3, 1) := by decide +kernel
theorem dX12_firstBut_73 : decode cX12_firstBut 73 = .ok (.ireturn, 1) := by decide +kernel
theorem dX12_goesTo_0 : decode cX12_goesTo 0 = .ok (.aload_n 0, 1) := by decide +kernel
theorem dX12_goesTo_1 : decode cX12_goesTo 1 = .ok (.iconst 0, 1) := by decide +kernel
theorem dX12_goesTo_2 : decode cX12_goesTo 2 = .ok (.putfield 174, 3) := by decide +kernel
theorem dX12_goesTo_5 : decode cX12_goesTo 5 = .ok (.aload_n 0, 1) := by decide +kernel
theorem dX12_goesTo_6 : decode cX12_goesTo 6 = .ok (.iload_n 1, 1) := by decide +kernel
theorem dX12_goesTo_7 : decode cX12_goesTo 7 = .ok (.iconst (-1), 1) := by decide +kernel
theorem dX12_goesTo_8 : decode cX12_goesTo 8 = .ok (.invokevirtual 180, 3) := by decide +kernel
theorem dX12_goesTo_11 : decode cX12_goesTo 11 = .ok (.istore_n 2, 1) := by decide +kernel
theorem dX12_goesTo_12 : decode cX12_goesTo 12 = .ok (.aload_n 0, 1) := by decide +kernel
theorem dX12_goesTo_13 : decode cX12_goesTo 13 = .ok (.getfield 156, 3) := by decide +kernel
theorem dX12_goesTo_16 : decode cX12_goesTo 16 = .ok (.iconst 3, 1) := by decide +kernel
theorem dX12_goesTo_17 : decode cX12_goesTo 17 = .ok (.if_icmp .ne 7, 3) := by decide +kernel
theorem dX12_goesTo_20 : decode cX12_goesTo 20 = .ok (.iload_n 2, 1) := by decide +kernel
theorem dX12_goesTo_21 : decode cX12_goesTo 21 = .ok (.ifCond .ge 5, 3) := by decide +kernel
theorem dX12_goesTo_24 : decode cX12_goesTo 24 = .ok (.iload_n 2, 1) := by decide +kernel
theorem dX12_goesTo_25 : decode cX12_goesTo 25 = .ok (.ireturn, 1) := by decide +kernel
theorem dX12_goesTo_26 : decode cX12_goesTo 26 = .ok (.aload_n 0, 1) := by decide +kernel
theorem dX12_goesTo_27 : decode cX12_goesTo 27 = .ok (.iload_n 1, 1) := by decide +kernel
theorem dX12_goesTo_28 : decode cX12_goesTo 28 = .ok (.iload_n 2, 1) := by decide +kernel
theorem dX12_goesTo_29 : decode cX12_goesTo 29 = .ok (.invokevirtual 180, 3) := by decide +kernel
theorem dX12_goesTo_32 : decode cX12_goesTo 32 = .ok (.istore_n 3, 1) := by decide +kernel
theorem dX12_goesTo_33 : decode cX12_goesTo 33 = .ok (.iload_n 3, 1) := by decide +kernel
theorem dX12_goesTo_34 : decode cX12_goesTo 34 = .ok (.ifCond .ge 7, 3) := by decide +kernel
theorem dX12_goesTo_37 : decode cX12_goesTo 37 = .ok (.iload_n 2, 1) := by decide +kernel
theorem dX12_goesTo_38 : decode cX12_goesTo 38 = .ok (.goto 4, 3) := by decide +kernel
theorem dX12_goesTo_41 : decode cX12_goesTo 41 = .ok (.iload_n 3, 1) := by decide +kernel
theorem dX12_goesTo_42 : decode cX12_goesTo 42 = .ok (.ireturn, 1) := by decide +kernel
theorem dX12_has_0 : decode cX12_has 0 = .ok (.iconst 0, 1) := by decide +kernel
theorem dX12_has_1 : decode cX12_has 1 = .ok (.istore_n 3, 1) := by decide +kernel
theorem dX12_has_2 : decode cX12_has 2 = .ok (.iload_n 3, 1) := by decide +kernel
theorem dX12_has_3 : decode cX12_has 3 = .ok (.iconst 4, 1) := by decide +kernel
theorem dX12_has_4 : decode cX12_has 4 = .ok (.if_icmp .ge 48, 3) := by decide +kernel
theorem dX12_has_7 : decode cX12_has 7 = .ok (.aload_n 0, 1) := by decide +kernel
theorem dX12_has_8 : decode cX12_has 8 = .ok (.getfield 13, 3) := by decide +kernel
theorem dX12_has_11 : decode cX12_has 11 = .ok (.iconst 4, 1) := by decide +kernel
theorem dX12_has_12 : decode cX12_has 12 = .ok (.iload_n 1, 1) := by decide +kernel
theorem dX12_has_13 : decode cX12_has 13 = .ok (.imul, 1) := by decide +kernel
theorem dX12_has_14 : decode cX12_has 14 = .ok (.iload_n 3, 1) := by decide +kernel
theorem dX12_has_15 : decode cX12_has 15 = .ok (.iadd, 1) := by decide +kernel
theorem dX12_has_16 : decode cX12_has 16 = .ok (.iaload, 1) := by decide +kernel
theorem dX12_has_17 : decode cX12_has 17 = .ok (.iload_n 2, 1) := by decide +kernel
theorem dX12_has_18 : decode cX12_has 18 = .ok (.iload_n 3, 1) := by decide +kernel
theorem dX12_has_19 : decode cX12_has 19 = .ok (.invokestatic 87, 3) := by decide +kernel
theorem dX12_has_22 : decode cX12_has 22 = .ok (.isub, 1) := by decide +kernel
theorem dX12_has_23 : decode cX12_has 23 = .ok (.istore 4, 2) := by decide +kernel
theorem dX12_has_25 : decode cX12_has 25 = .ok (.aload_n 0, 1) := by decide +kernel
theorem dX12_has_26 : decode cX12_has 26 = .ok (.getfield 13, 3) := by decide +kernel
theorem dX12_has_29 : decode cX12_has 29 = .ok (.iconst 4, 1) := by decide +kernel
theorem dX12_has_30 : decode cX12_has 30 = .ok (.iload_n 1, 1) := by decide +kernel
theorem dX12_has_31 : decode cX12_has 31 = .ok (.imul, 1) := by decide +kernel
theorem dX12_has_32 : decode cX12_has 32 = .ok (.iload_n 3, 1) := by decide +kernel
theorem dX12_has_33 : decode cX12_has 33 = .ok (.iadd, 1) := by decide +kernel
theorem dX12_has_34 : decode cX12_has 34 = .ok (.iload 4, 2) := by decide +kernel
theorem dX12_has_36 : decode cX12_has 36 = .ok (.ifCond .ge 7, 3) := by decide +kernel
theorem dX12_has_39 : decode cX12_has 39 = .ok (.iconst 0, 1) := by decide +kernel
theorem dX12_has_40 : decode cX12_has 40 = .ok (.goto 5, 3) := by decide +kernel
theorem dX12_has_43 : decode cX12_has 43 = .ok (.iload 4, 2) := by decide +kernel
theorem dX12_has_45 : decode cX12_has 45 = .ok (.iastore, 1) := by decide +kernel
theorem dX12_has_46 : decode cX12_has 46 = .ok (.iinc 3 1, 3) := by decide +kernel
theorem dX12_has_49 : decode cX12_has 49 = .ok (.goto (-47), 3) := by decide +kernel
theorem dX12_has_52 : decode cX12_has 52 = .ok (.aload_n 0, 1) := by decide +kernel
theorem dX12_has_53 : decode cX12_has 53 = .ok (.dup, 1) := by decide +kernel
theorem dX12_has_54 : decode cX12_has 54 = .ok (.getfield 174, 3) := by decide +kernel
theorem dX12_has_57 : decode cX12_has 57 = .ok (.iconst 1, 1) := by decide +kernel
theorem dX12_has_58 : decode cX12_has 58 = .ok (.iload_n 1, 1) := by decide +kernel
theorem dX12_has_59 : decode cX12_has 59 = .ok (.ishl, 1) := by decide +kernel
theorem dX12_has_60 : decode cX12_has 60 = .ok (.ior, 1) := by decide +kernel
theorem dX12_has_61 : decode cX12_has 61 = .ok (.putfield 174, 3) := by decide +kernel
theorem dX12_has_64 : decode cX12_has 64 = .ok (.return_, 1) := by decide +kernel
theorem dX12_posts_0 : decode cX12_posts 0 = .ok (.aload_n 0, 1) := by decide +kernel
theorem dX12_posts_1 : decode cX12_posts 1 = .ok (.iload_n 1, 1) := by decide +kernel
theorem dX12_posts_2 : decode cX12_posts 2 = .ok (.invokevirtual 183, 3) := by decide +kernel
theorem dX12_posts_5 : decode cX12_posts 5 = .ok (.istore_n 2, 1) := by decide +kernel
theorem dX12_posts_6 : decode cX12_posts 6 = .ok (.iload_n 2, 1) := by decide +kernel
theorem dX12_posts_7 : decode cX12_posts 7 = .ok (.ifCond .ge 6, 3) := by decide +kernel
theorem dX12_posts_10 : decode cX12_posts 10 = .ok (.bipush (-9), 2) := by decide +kernel
theorem dX12_posts_12 : decode cX12_posts 12 = .ok (.ireturn, 1) := by decide +kernel
theorem dX12_posts_13 : decode cX12_posts 13 = .ok (.aload_n 0, 1) := by decide +kernel
theorem dX12_posts_14 : decode cX12_posts 14 = .ok (.iload_n 2, 1) := by decide +kernel
theorem dX12_posts_15 : decode cX12_posts 15 = .ok (.iload_n 1, 1) := by decide +kernel
theorem dX12_posts_16 : decode cX12_posts 16 = .ok (.invokevirtual 186, 3) := by decide +kernel
theorem dX12_posts_19 : decode cX12_posts 19 = .ok (.aload_n 0, 1) := by decide +kernel
theorem dX12_posts_20 : decode cX12_posts 20 = .ok (.getfield 156, 3) := by decide +kernel
theorem dX12_posts_23 : decode cX12_posts 23 = .ok (.iconst 4, 1) := by decide +kernel
theorem dX12_posts_24 : decode cX12_posts 24 = .ok (.if_icmp .ne 12, 3) := by decide +kernel
theorem dX12_posts_27 : decode cX12_posts 27 = .ok (.aload_n 0, 1) := by decide +kernel
theorem dX12_posts_28 : decode cX12_posts 28 = .ok (.iload_n 1, 1) := by decide +kernel
theorem dX12_posts_29 : decode cX12_posts 29 = .ok (.iconst (-1), 1) := by decide +kernel
theorem dX12_posts_30 : decode cX12_posts 30 = .ok (.invokevirtual 180, 3) := by decide +kernel
theorem dX12_posts_33 : decode cX12_posts 33 = .ok (.goto 5, 3) := by decide +kernel
theorem dX12_posts_36 : decode cX12_posts 36 = .ok (.bipush (-9), 2) := by decide +kernel
theorem dX12_posts_38 : decode cX12_posts 38 = .ok (.istore_n 3, 1) := by decide +kernel
theorem dX12_posts_39 : decode cX12_posts 39 = .ok (.iload_n 3, 1) := by decide +kernel
theorem dX12_posts_40 : decode cX12_posts 40 = .ok (.ifCond .lt 19, 3) := by decide +kernel
theorem dX12_posts_43 : decode cX12_posts 43 = .ok (.aload_n 0, 1) := by decide +kernel
theorem dX12_posts_44 : decode cX12_posts 44 = .ok (.iload_n 3, 1) := by decide +kernel
theorem dX12_posts_45 : decode cX12_posts 45 = .ok (.iload_n 1, 1) := by decide +kernel
theorem dX12_posts_46 : decode cX12_posts 46 = .ok (.invokevirtual 186, 3) := by decide +kernel
theorem dX12_posts_49 : decode cX12_posts 49 = .ok (.aload_n 0, 1) := by decide +kernel
theorem dX12_posts_50 : decode cX12_posts 50 = .ok (.iload_n 1, 1) := by decide +kernel
theorem dX12_posts_51 : decode cX12_posts 51 = .ok (.iconst (-1), 1) := by decide +kernel
theorem dX12_posts_52 : decode cX12_posts 52 = .ok (.invokevirtual 180, 3) := by decide +kernel
theorem dX12_posts_55 : decode cX12_posts 55 = .ok (.istore_n 3, 1) := by decide +kernel
theorem dX12_posts_56 : decode cX12_posts 56 = .ok (.goto (-17), 3) := by decide +kernel
theorem dX12_posts_59 : decode cX12_posts 59 = .ok (.iload_n 2, 1) := by decide +kernel
theorem dX12_posts_60 : decode cX12_posts 60 = .ok (.ireturn, 1) := by decide +kernel
theorem dX12_sumOf_0 : decode cX12_sumOf 0 = .ok (.iconst 0, 1) := by decide +kernel
theorem dX12_sumOf_1 : decode cX12_sumOf 1 = .ok (.istore_n 1, 1) := by decide +kernel
theorem dX12_sumOf_2 : decode cX12_sumOf 2 = .ok (.iconst 0, 1) := by decide +kernel
theorem dX12_sumOf_3 : decode cX12_sumOf 3 = .ok (.istore_n 2, 1) := by decide +kernel
theorem dX12_sumOf_4 : decode cX12_sumOf 4 = .ok (.iload_n 2, 1) := by decide +kernel
theorem dX12_sumOf_5 : decode cX12_sumOf 5 = .ok (.iconst 4, 1) := by decide +kernel
theorem dX12_sumOf_6 : decode cX12_sumOf 6 = .ok (.aload_n 0, 1) := by decide +kernel
theorem dX12_sumOf_7 : decode cX12_sumOf 7 = .ok (.getfield 76, 3) := by decide +kernel
theorem dX12_sumOf_10 : decode cX12_sumOf 10 = .ok (.imul, 1) := by decide +kernel
theorem dX12_sumOf_11 : decode cX12_sumOf 11 = .ok (.if_icmp .ge 18, 3) := by decide +kernel
theorem dX12_sumOf_14 : decode cX12_sumOf 14 = .ok (.iload_n 1, 1) := by decide +kernel
theorem dX12_sumOf_15 : decode cX12_sumOf 15 = .ok (.aload_n 0, 1) := by decide +kernel
theorem dX12_sumOf_16 : decode cX12_sumOf 16 = .ok (.getfield 13, 3) := by decide +kernel
theorem dX12_sumOf_19 : decode cX12_sumOf 19 = .ok (.iload_n 2, 1) := by decide +kernel
theorem dX12_sumOf_20 : decode cX12_sumOf 20 = .ok (.iaload, 1) := by decide +kernel
theorem dX12_sumOf_21 : decode cX12_sumOf 21 = .ok (.iadd, 1) := by decide +kernel
theorem dX12_sumOf_22 : decode cX12_sumOf 22 = .ok (.istore_n 1, 1) := by decide +kernel
theorem dX12_sumOf_23 : decode cX12_sumOf 23 = .ok (.iinc 2 1, 3) := by decide +kernel
theorem dX12_sumOf_26 : decode cX12_sumOf 26 = .ok (.goto (-22), 3) := by decide +kernel
theorem dX12_sumOf_29 : decode cX12_sumOf 29 = .ok (.iload_n 1, 1) := by decide +kernel
theorem dX12_sumOf_30 : decode cX12_sumOf 30 = .ok (.ireturn, 1) := by decide +kernel
theorem dX12_grows_0 : decode cX12_grows 0 = .ok (.iconst 0, 1) := by decide +kernel
theorem dX12_grows_1 : decode cX12_grows 1 = .ok (.istore_n 1, 1) := by decide +kernel
theorem dX12_grows_2 : decode cX12_grows 2 = .ok (.iload_n 1, 1) := by decide +kernel
theorem dX12_grows_3 : decode cX12_grows 3 = .ok (.iconst 4, 1) := by decide +kernel
theorem dX12_grows_4 : decode cX12_grows 4 = .ok (.aload_n 0, 1) := by decide +kernel
theorem dX12_grows_5 : decode cX12_grows 5 = .ok (.getfield 76, 3) := by decide +kernel
theorem dX12_grows_8 : decode cX12_grows 8 = .ok (.imul, 1) := by decide +kernel
theorem dX12_grows_9 : decode cX12_grows 9 = .ok (.if_icmp .ge 43, 3) := by decide +kernel
theorem dX12_grows_12 : decode cX12_grows 12 = .ok (.aload_n 0, 1) := by decide +kernel
theorem dX12_grows_13 : decode cX12_grows 13 = .ok (.getfield 13, 3) := by decide +kernel
theorem dX12_grows_16 : decode cX12_grows 16 = .ok (.iload_n 1, 1) := by decide +kernel
theorem dX12_grows_17 : decode cX12_grows 17 = .ok (.iaload, 1) := by decide +kernel
theorem dX12_grows_18 : decode cX12_grows 18 = .ok (.aload_n 0, 1) := by decide +kernel
theorem dX12_grows_19 : decode cX12_grows 19 = .ok (.getfield 16, 3) := by decide +kernel
theorem dX12_grows_22 : decode cX12_grows 22 = .ok (.iload_n 1, 1) := by decide +kernel
theorem dX12_grows_23 : decode cX12_grows 23 = .ok (.iconst 4, 1) := by decide +kernel
theorem dX12_grows_24 : decode cX12_grows 24 = .ok (.idiv, 1) := by decide +kernel
theorem dX12_grows_25 : decode cX12_grows 25 = .ok (.iaload, 1) := by decide +kernel
theorem dX12_grows_26 : decode cX12_grows 26 = .ok (.iadd, 1) := by decide +kernel
theorem dX12_grows_27 : decode cX12_grows 27 = .ok (.istore_n 2, 1) := by decide +kernel
theorem dX12_grows_28 : decode cX12_grows 28 = .ok (.aload_n 0, 1) := by decide +kernel
theorem dX12_grows_29 : decode cX12_grows 29 = .ok (.getfield 13, 3) := by decide +kernel
theorem dX12_grows_32 : decode cX12_grows 32 = .ok (.iload_n 1, 1) := by decide +kernel
theorem dX12_grows_33 : decode cX12_grows 33 = .ok (.iload_n 2, 1) := by decide +kernel
theorem dX12_grows_34 : decode cX12_grows 34 = .ok (.bipush 30, 2) := by decide +kernel
theorem dX12_grows_36 : decode cX12_grows 36 = .ok (.if_icmp .le 8, 3) := by decide +kernel
theorem dX12_grows_39 : decode cX12_grows 39 = .ok (.bipush 30, 2) := by decide +kernel
theorem dX12_grows_41 : decode cX12_grows 41 = .ok (.goto 4, 3) := by decide +kernel
theorem dX12_grows_44 : decode cX12_grows 44 = .ok (.iload_n 2, 1) := by decide +kernel
theorem dX12_grows_45 : decode cX12_grows 45 = .ok (.iastore, 1) := by decide +kernel
theorem dX12_grows_46 : decode cX12_grows 46 = .ok (.iinc 1 1, 3) := by decide +kernel
theorem dX12_grows_49 : decode cX12_grows 49 = .ok (.goto (-47), 3) := by decide +kernel
theorem dX12_grows_52 : decode cX12_grows 52 = .ok (.return_, 1) := by decide +kernel
theorem dX12_need_0 : decode cX12_need 0 = .ok (.aload_n 0, 1) := by decide +kernel
theorem dX12_need_1 : decode cX12_need 1 = .ok (.iload_n 1, 1) := by decide +kernel
theorem dX12_need_2 : decode cX12_need 2 = .ok (.invokevirtual 128, 3) := by decide +kernel
theorem dX12_need_5 : decode cX12_need 5 = .ok (.ifCond .eq 25, 3) := by decide +kernel
theorem dX12_need_8 : decode cX12_need 8 = .ok (.iload_n 2, 1) := by decide +kernel
theorem dX12_need_9 : decode cX12_need 9 = .ok (.iconst 0, 1) := by decide +kernel
theorem dX12_need_10 : decode cX12_need 10 = .ok (.iconst 3, 1) := by decide +kernel
theorem dX12_need_11 : decode cX12_need 11 = .ok (.invokestatic 83, 3) := by decide +kernel
theorem dX12_need_14 : decode cX12_need 14 = .ok (.ifCond .eq 16, 3) := by decide +kernel
theorem dX12_need_17 : decode cX12_need 17 = .ok (.aload_n 0, 1) := by decide +kernel
theorem dX12_need_18 : decode cX12_need 18 = .ok (.getfield 13, 3) := by decide +kernel
theorem dX12_need_21 : decode cX12_need 21 = .ok (.iconst 4, 1) := by decide +kernel
theorem dX12_need_22 : decode cX12_need 22 = .ok (.iload_n 1, 1) := by decide +kernel
theorem dX12_need_23 : decode cX12_need 23 = .ok (.imul, 1) := by decide +kernel
theorem dX12_need_24 : decode cX12_need 24 = .ok (.iload_n 2, 1) := by decide +kernel
theorem dX12_need_25 : decode cX12_need 25 = .ok (.iadd, 1) := by decide +kernel
theorem dX12_need_26 : decode cX12_need 26 = .ok (.iaload, 1) := by decide +kernel
theorem dX12_need_27 : decode cX12_need 27 = .ok (.goto 8, 3) := by decide +kernel
theorem dX12_need_30 : decode cX12_need 30 = .ok (.aload_n 0, 1) := by decide +kernel
theorem dX12_need_31 : decode cX12_need 31 = .ok (.iconst (-1), 1) := by decide +kernel
theorem dX12_need_32 : decode cX12_need 32 = .ok (.invokevirtual 98, 3) := by decide +kernel
theorem dX12_need_35 : decode cX12_need 35 = .ok (.ireturn, 1) := by decide +kernel
theorem dX12_writer_0 : decode cX12_writer 0 = .ok (.aload_n 0, 1) := by decide +kernel
theorem dX12_writer_1 : decode cX12_writer 1 = .ok (.iload_n 1, 1) := by decide +kernel
theorem dX12_writer_2 : decode cX12_writer 2 = .ok (.invokevirtual 190, 3) := by decide +kernel
theorem dX12_writer_5 : decode cX12_writer 5 = .ok (.ifCond .ne 9, 3) := by decide +kernel
theorem dX12_writer_8 : decode cX12_writer 8 = .ok (.aload_n 0, 1) := by decide +kernel
theorem dX12_writer_9 : decode cX12_writer 9 = .ok (.iconst (-1), 1) := by decide +kernel
theorem dX12_writer_10 : decode cX12_writer 10 = .ok (.invokevirtual 98, 3) := by decide +kernel
theorem dX12_writer_13 : decode cX12_writer 13 = .ok (.ireturn, 1) := by decide +kernel
theorem dX12_writer_14 : decode cX12_writer 14 = .ok (.iload_n 2, 1) := by decide +kernel
theorem dX12_writer_15 : decode cX12_writer 15 = .ok (.iconst 0, 1) := by decide +kernel
theorem dX12_writer_16 : decode cX12_writer 16 = .ok (.iconst 2, 1) := by decide +kernel
theorem dX12_writer_17 : decode cX12_writer 17 = .ok (.invokestatic 83, 3) := by decide +kernel
theorem dX12_writer_20 : decode cX12_writer 20 = .ok (.ifCond .ne 10, 3) := by decide +kernel
theorem dX12_writer_23 : decode cX12_writer 23 = .ok (.aload_n 0, 1) := by decide +kernel
theorem dX12_writer_24 : decode cX12_writer 24 = .ok (.bipush (-2), 2) := by decide +kernel
theorem dX12_writer_26 : decode cX12_writer 26 = .ok (.invokevirtual 98, 3) := by decide +kernel
theorem dX12_writer_29 : decode cX12_writer 29 = .ok (.ireturn, 1) := by decide +kernel
theorem dX12_writer_30 : decode cX12_writer 30 = .ok (.iload_n 2, 1) := by decide +kernel
theorem dX12_writer_31 : decode cX12_writer 31 = .ok (.ifCond .ne 12, 3) := by decide +kernel
theorem dX12_writer_34 : decode cX12_writer 34 = .ok (.aload_n 0, 1) := by decide +kernel
theorem dX12_writer_35 : decode cX12_writer 35 = .ok (.getfield 19, 3) := by decide +kernel
theorem dX12_writer_38 : decode cX12_writer 38 = .ok (.iload_n 1, 1) := by decide +kernel
theorem dX12_writer_39 : decode cX12_writer 39 = .ok (.iaload, 1) := by decide +kernel
theorem dX12_writer_40 : decode cX12_writer 40 = .ok (.goto 23, 3) := by decide +kernel
theorem dX12_writer_43 : decode cX12_writer 43 = .ok (.iload_n 2, 1) := by decide +kernel
theorem dX12_writer_44 : decode cX12_writer 44 = .ok (.iconst 1, 1) := by decide +kernel
theorem dX12_writer_45 : decode cX12_writer 45 = .ok (.if_icmp .ne 12, 3) := by decide +kernel
theorem dX12_writer_48 : decode cX12_writer 48 = .ok (.aload_n 0, 1) := by decide +kernel
theorem dX12_writer_49 : decode cX12_writer 49 = .ok (.getfield 22, 3) := by decide +kernel
theorem dX12_writer_52 : decode cX12_writer 52 = .ok (.iload_n 1, 1) := by decide +kernel
theorem dX12_writer_53 : decode cX12_writer 53 = .ok (.iaload, 1) := by decide +kernel
theorem dX12_writer_54 : decode cX12_writer 54 = .ok (.goto 9, 3) := by decide +kernel
theorem dX12_writer_57 : decode cX12_writer 57 = .ok (.aload_n 0, 1) := by decide +kernel
theorem dX12_writer_58 : decode cX12_writer 58 = .ok (.getfield 25, 3) := by decide +kernel
theorem dX12_writer_61 : decode cX12_writer 61 = .ok (.iload_n 1, 1) := by decide +kernel
theorem dX12_writer_62 : decode cX12_writer 62 = .ok (.iaload, 1) := by decide +kernel
theorem dX12_writer_63 : decode cX12_writer 63 = .ok (.ireturn, 1) := by decide +kernel
theorem dX12_law_0 : decode cX12_law 0 = .ok (.iload_n 1, 1) := by decide +kernel
theorem dX12_law_1 : decode cX12_law 1 = .ok (.iconst 0, 1) := by decide +kernel
theorem dX12_law_2 : decode cX12_law 2 = .ok (.iconst 4, 1) := by decide +kernel
theorem dX12_law_3 : decode cX12_law 3 = .ok (.invokestatic 83, 3) := by decide +kernel
theorem dX12_law_6 : decode cX12_law 6 = .ok (.ifCond .ne 10, 3) := by decide +kernel
theorem dX12_law_9 : decode cX12_law 9 = .ok (.aload_n 0, 1) := by decide +kernel
theorem dX12_law_10 : decode cX12_law 10 = .ok (.bipush (-2), 2) := by decide +kernel
theorem dX12_law_12 : decode cX12_law 12 = .ok (.invokevirtual 98, 3) := by decide +kernel
theorem dX12_law_15 : decode cX12_law 15 = .ok (.ireturn, 1) := by decide +kernel
theorem dX12_law_16 : decode cX12_law 16 = .ok (.aload_n 0, 1) := by decide +kernel
theorem dX12_law_17 : decode cX12_law 17 = .ok (.getfield 156, 3) := by decide +kernel
theorem dX12_law_20 : decode cX12_law 20 = .ok (.istore_n 2, 1) := by decide +kernel
theorem dX12_law_21 : decode cX12_law 21 = .ok (.aload_n 0, 1) := by decide +kernel
theorem dX12_law_22 : decode cX12_law 22 = .ok (.iload_n 1, 1) := by decide +kernel
theorem dX12_law_23 : decode cX12_law 23 = .ok (.putfield 156, 3) := by decide +kernel
theorem dX12_law_26 : decode cX12_law 26 = .ok (.iload_n 2, 1) := by decide +kernel
theorem dX12_law_27 : decode cX12_law 27 = .ok (.ireturn, 1) := by decide +kernel
theorem dX12_err_0 : decode cX12_err 0 = .ok (.iload_n 1, 1) := by decide +kernel
theorem dX12_err_1 : decode cX12_err 1 = .ok (.iconst 0, 1) := by decide +kernel
theorem dX12_err_2 : decode cX12_err 2 = .ok (.bipush 50, 2) := by decide +kernel
theorem dX12_err_4 : decode cX12_err 4 = .ok (.invokestatic 91, 3) := by decide +kernel
theorem dX12_err_7 : decode cX12_err 7 = .ok (.istore_n 2, 1) := by decide +kernel
theorem dX12_err_8 : decode cX12_err 8 = .ok (.iload_n 2, 1) := by decide +kernel
theorem dX12_err_9 : decode cX12_err 9 = .ok (.ifCond .eq 9, 3) := by decide +kernel
theorem dX12_err_12 : decode cX12_err 12 = .ok (.aload_n 0, 1) := by decide +kernel
theorem dX12_err_13 : decode cX12_err 13 = .ok (.iload_n 2, 1) := by decide +kernel
theorem dX12_err_14 : decode cX12_err 14 = .ok (.invokevirtual 98, 3) := by decide +kernel
theorem dX12_err_17 : decode cX12_err 17 = .ok (.ireturn, 1) := by decide +kernel
theorem dX12_err_18 : decode cX12_err 18 = .ok (.aload_n 0, 1) := by decide +kernel
theorem dX12_err_19 : decode cX12_err 19 = .ok (.getfield 159, 3) := by decide +kernel
theorem dX12_err_22 : decode cX12_err 22 = .ok (.istore_n 3, 1) := by decide +kernel
theorem dX12_err_23 : decode cX12_err 23 = .ok (.aload_n 0, 1) := by decide +kernel
theorem dX12_err_24 : decode cX12_err 24 = .ok (.iload_n 1, 1) := by decide +kernel
theorem dX12_err_25 : decode cX12_err 25 = .ok (.putfield 159, 3) := by decide +kernel
theorem dX12_err_28 : decode cX12_err 28 = .ok (.iload_n 3, 1) := by decide +kernel
theorem dX12_err_29 : decode cX12_err 29 = .ok (.ireturn, 1) := by decide +kernel
theorem dX12_score_0 : decode cX12_score 0 = .ok (.aload_n 0, 1) := by decide +kernel
theorem dX12_score_1 : decode cX12_score 1 = .ok (.iload_n 1, 1) := by decide +kernel
theorem dX12_score_2 : decode cX12_score 2 = .ok (.invokevirtual 128, 3) := by decide +kernel
theorem dX12_score_5 : decode cX12_score 5 = .ok (.ifCond .eq 19, 3) := by decide +kernel
theorem dX12_score_8 : decode cX12_score 8 = .ok (.iload_n 2, 1) := by decide +kernel
theorem dX12_score_9 : decode cX12_score 9 = .ok (.invokestatic 193, 3) := by decide +kernel
theorem dX12_score_12 : decode cX12_score 12 = .ok (.ifCond .eq 12, 3) := by decide +kernel
theorem dX12_score_15 : decode cX12_score 15 = .ok (.aload_n 0, 1) := by decide +kernel
theorem dX12_score_16 : decode cX12_score 16 = .ok (.iload_n 1, 1) := by decide +kernel
theorem dX12_score_17 : decode cX12_score 17 = .ok (.iload_n 2, 1) := by decide +kernel
theorem dX12_score_18 : decode cX12_score 18 = .ok (.invokevirtual 177, 3) := by decide +kernel
theorem dX12_score_21 : decode cX12_score 21 = .ok (.goto 8, 3) := by decide +kernel
theorem dX12_score_24 : decode cX12_score 24 = .ok (.aload_n 0, 1) := by decide +kernel
theorem dX12_score_25 : decode cX12_score 25 = .ok (.iconst (-1), 1) := by decide +kernel
theorem dX12_score_26 : decode cX12_score 26 = .ok (.invokevirtual 98, 3) := by decide +kernel
theorem dX12_score_29 : decode cX12_score 29 = .ok (.ireturn, 1) := by decide +kernel
theorem dX12_goes_0 : decode cX12_goes 0 = .ok (.iload_n 1, 1) := by decide +kernel
theorem dX12_goes_1 : decode cX12_goes 1 = .ok (.invokestatic 193, 3) := by decide +kernel
theorem dX12_goes_4 : decode cX12_goes 4 = .ok (.ifCond .eq 11, 3) := by decide +kernel
theorem dX12_goes_7 : decode cX12_goes 7 = .ok (.aload_n 0, 1) := by decide +kernel
theorem dX12_goes_8 : decode cX12_goes 8 = .ok (.iload_n 1, 1) := by decide +kernel
theorem dX12_goes_9 : decode cX12_goes 9 = .ok (.invokevirtual 183, 3) := by decide +kernel
theorem dX12_goes_12 : decode cX12_goes 12 = .ok (.goto 8, 3) := by decide +kernel
theorem dX12_goes_15 : decode cX12_goes 15 = .ok (.aload_n 0, 1) := by decide +kernel
theorem dX12_goes_16 : decode cX12_goes 16 = .ok (.iconst (-1), 1) := by decide +kernel
theorem dX12_goes_17 : decode cX12_goes 17 = .ok (.invokevirtual 98, 3) := by decide +kernel
theorem dX12_goes_20 : decode cX12_goes 20 = .ok (.ireturn, 1) := by decide +kernel
theorem dX12_post_0 : decode cX12_post 0 = .ok (.iload_n 1, 1) := by decide +kernel
theorem dX12_post_1 : decode cX12_post 1 = .ok (.invokestatic 193, 3) := by decide +kernel
theorem dX12_post_4 : decode cX12_post 4 = .ok (.ifCond .ne 9, 3) := by decide +kernel
theorem dX12_post_7 : decode cX12_post 7 = .ok (.aload_n 0, 1) := by decide +kernel
theorem dX12_post_8 : decode cX12_post 8 = .ok (.iconst (-1), 1) := by decide +kernel
theorem dX12_post_9 : decode cX12_post 9 = .ok (.invokevirtual 98, 3) := by decide +kernel
theorem dX12_post_12 : decode cX12_post 12 = .ok (.ireturn, 1) := by decide +kernel
theorem dX12_post_13 : decode cX12_post 13 = .ok (.aload_n 0, 1) := by decide +kernel
theorem dX12_post_14 : decode cX12_post 14 = .ok (.dup, 1) := by decide +kernel
theorem dX12_post_15 : decode cX12_post 15 = .ok (.getfield 171, 3) := by decide +kernel
theorem dX12_post_18 : decode cX12_post 18 = .ok (.iconst 1, 1) := by decide +kernel
theorem dX12_post_19 : decode cX12_post 19 = .ok (.iadd, 1) := by decide +kernel
theorem dX12_post_20 : decode cX12_post 20 = .ok (.putfield 171, 3) := by decide +kernel
theorem dX12_post_23 : decode cX12_post 23 = .ok (.aload_n 0, 1) := by decide +kernel
theorem dX12_post_24 : decode cX12_post 24 = .ok (.iload_n 1, 1) := by decide +kernel
theorem dX12_post_25 : decode cX12_post 25 = .ok (.invokevirtual 196, 3) := by decide +kernel
theorem dX12_post_28 : decode cX12_post 28 = .ok (.ireturn, 1) := by decide +kernel
theorem dX12_day_0 : decode cX12_day 0 = .ok (.aload_n 0, 1) := by decide +kernel
theorem dX12_day_1 : decode cX12_day 1 = .ok (.invokevirtual 199, 3) := by decide +kernel
theorem dX12_day_4 : decode cX12_day 4 = .ok (.aload_n 0, 1) := by decide +kernel
theorem dX12_day_5 : decode cX12_day 5 = .ok (.dup, 1) := by decide +kernel
theorem dX12_day_6 : decode cX12_day 6 = .ok (.getfield 168, 3) := by decide +kernel
theorem dX12_day_9 : decode cX12_day 9 = .ok (.iconst 1, 1) := by decide +kernel
theorem dX12_day_10 : decode cX12_day 10 = .ok (.iadd, 1) := by decide +kernel
theorem dX12_day_11 : decode cX12_day 11 = .ok (.putfield 168, 3) := by decide +kernel
theorem dX12_day_14 : decode cX12_day 14 = .ok (.aload_n 0, 1) := by decide +kernel
theorem dX12_day_15 : decode cX12_day 15 = .ok (.invokevirtual 202, 3) := by decide +kernel
theorem dX12_day_18 : decode cX12_day 18 = .ok (.ireturn, 1) := by decide +kernel
theorem dX12_allNeed_0 : decode cX12_allNeed 0 = .ok (.aload_n 0, 1) := by decide +kernel
theorem dX12_allNeed_1 : decode cX12_allNeed 1 = .ok (.invokevirtual 202, 3) := by decide +kernel
theorem dX12_allNeed_4 : decode cX12_allNeed 4 = .ok (.ireturn, 1) := by decide +kernel
theorem dX12_canOf_0 : decode cX12_canOf 0 = .ok (.bipush (-9), 2) := by decide +kernel
theorem dX12_canOf_2 : decode cX12_canOf 2 = .ok (.istore_n 2, 1) := by decide +kernel
theorem dX12_canOf_3 : decode cX12_canOf 3 = .ok (.iconst 0, 1) := by decide +kernel
theorem dX12_canOf_4 : decode cX12_canOf 4 = .ok (.istore_n 3, 1) := by decide +kernel
theorem dX12_canOf_5 : decode cX12_canOf 5 = .ok (.iload_n 3, 1) := by decide +kernel
theorem dX12_canOf_6 : decode cX12_canOf 6 = .ok (.bipush 81, 2) := by decide +kernel
theorem dX12_canOf_8 : decode cX12_canOf 8 = .ok (.if_icmp .ge 44, 3) := by decide +kernel
theorem dX12_canOf_11 : decode cX12_canOf 11 = .ok (.aload_n 0, 1) := by decide +kernel
theorem dX12_canOf_12 : decode cX12_canOf 12 = .ok (.iload_n 3, 1) := by decide +kernel
theorem dX12_canOf_13 : decode cX12_canOf 13 = .ok (.invokestatic 205, 3) := by decide +kernel
theorem dX12_canOf_16 : decode cX12_canOf 16 = .ok (.invokevirtual 183, 3) := by decide +kernel
theorem dX12_canOf_19 : decode cX12_canOf 19 = .ok (.iload_n 1, 1) := by decide +kernel
theorem dX12_canOf_20 : decode cX12_canOf 20 = .ok (.if_icmp .ne 26, 3) := by decide +kernel
theorem dX12_canOf_23 : decode cX12_canOf 23 = .ok (.iload_n 2, 1) := by decide +kernel
theorem dX12_canOf_24 : decode cX12_canOf 24 = .ok (.ifCond .lt 17, 3) := by decide +kernel
theorem dX12_canOf_27 : decode cX12_canOf 27 = .ok (.iload_n 3, 1) := by decide +kernel
theorem dX12_canOf_28 : decode cX12_canOf 28 = .ok (.invokestatic 205, 3) := by decide +kernel
theorem dX12_canOf_31 : decode cX12_canOf 31 = .ok (.invokestatic 208, 3) := by decide +kernel
theorem dX12_canOf_34 : decode cX12_canOf 34 = .ok (.iload_n 2, 1) := by decide +kernel
theorem dX12_canOf_35 : decode cX12_canOf 35 = .ok (.invokestatic 208, 3) := by decide +kernel
theorem dX12_canOf_38 : decode cX12_canOf 38 = .ok (.if_icmp .ge 8, 3) := by decide +kernel
theorem dX12_canOf_41 : decode cX12_canOf 41 = .ok (.iload_n 3, 1) := by decide +kernel
theorem dX12_canOf_42 : decode cX12_canOf 42 = .ok (.invokestatic 205, 3) := by decide +kernel
theorem dX12_canOf_45 : decode cX12_canOf 45 = .ok (.istore_n 2, 1) := by decide +kernel
theorem dX12_canOf_46 : decode cX12_canOf 46 = .ok (.iinc 3 1, 3) := by decide +kernel
theorem dX12_canOf_49 : decode cX12_canOf 49 = .ok (.goto (-44), 3) := by decide +kernel
theorem dX12_canOf_52 : decode cX12_canOf 52 = .ok (.iload_n 2, 1) := by decide +kernel
theorem dX12_canOf_53 : decode cX12_canOf 53 = .ok (.ireturn, 1) := by decide +kernel
theorem dX12_can_0 : decode cX12_can 0 = .ok (.aload_n 0, 1) := by decide +kernel
theorem dX12_can_1 : decode cX12_can 1 = .ok (.iload_n 1, 1) := by decide +kernel
theorem dX12_can_2 : decode cX12_can 2 = .ok (.invokevirtual 128, 3) := by decide +kernel
theorem dX12_can_5 : decode cX12_can 5 = .ok (.ifCond .eq 11, 3) := by decide +kernel
theorem dX12_can_8 : decode cX12_can 8 = .ok (.aload_n 0, 1) := by decide +kernel
theorem dX12_can_9 : decode cX12_can 9 = .ok (.iload_n 1, 1) := by decide +kernel
theorem dX12_can_10 : decode cX12_can 10 = .ok (.invokevirtual 211, 3) := by decide +kernel
theorem dX12_can_13 : decode cX12_can 13 = .ok (.goto 8, 3) := by decide +kernel
theorem dX12_can_16 : decode cX12_can 16 = .ok (.aload_n 0, 1) := by decide +kernel
theorem dX12_can_17 : decode cX12_can 17 = .ok (.iconst (-1), 1) := by decide +kernel
theorem dX12_can_18 : decode cX12_can 18 = .ok (.invokevirtual 98, 3) := by decide +kernel
theorem dX12_can_21 : decode cX12_can 21 = .ok (.ireturn, 1) := by decide +kernel
theorem dX12_whoGets_0 : decode cX12_whoGets 0 = .ok (.iconst 0, 1) := by decide +kernel
theorem dX12_whoGets_1 : decode cX12_whoGets 1 = .ok (.istore_n 1, 1) := by decide +kernel
theorem dX12_whoGets_2 : decode cX12_whoGets 2 = .ok (.iconst 0, 1) := by decide +kernel
theorem dX12_whoGets_3 : decode cX12_whoGets 3 = .ok (.istore_n 2, 1) := by decide +kernel
theorem dX12_whoGets_4 : decode cX12_whoGets 4 = .ok (.iload_n 2, 1) := by decide +kernel
theorem dX12_whoGets_5 : decode cX12_whoGets 5 = .ok (.bipush 81, 2) := by decide +kernel
theorem dX12_whoGets_7 : decode cX12_whoGets 7 = .ok (.if_icmp .ge 32, 3) := by decide +kernel
theorem dX12_whoGets_10 : decode cX12_whoGets 10 = .ok (.aload_n 0, 1) := by decide +kernel
theorem dX12_whoGets_11 : decode cX12_whoGets 11 = .ok (.iload_n 2, 1) := by decide +kernel
theorem dX12_whoGets_12 : decode cX12_whoGets 12 = .ok (.invokestatic 205, 3) := by decide +kernel
theorem dX12_whoGets_15 : decode cX12_whoGets 15 = .ok (.invokevirtual 183, 3) := by decide +kernel
theorem dX12_whoGets_18 : decode cX12_whoGets 18 = .ok (.istore_n 3, 1) := by decide +kernel
theorem dX12_whoGets_19 : decode cX12_whoGets 19 = .ok (.iload_n 1, 1) := by decide +kernel
theorem dX12_whoGets_20 : decode cX12_whoGets 20 = .ok (.iload_n 3, 1) := by decide +kernel
theorem dX12_whoGets_21 : decode cX12_whoGets 21 = .ok (.ifCond .ge 7, 3) := by decide +kernel
theorem dX12_whoGets_24 : decode cX12_whoGets 24 = .ok (.iconst 0, 1) := by decide +kernel
theorem dX12_whoGets_25 : decode cX12_whoGets 25 = .ok (.goto 6, 3) := by decide +kernel
theorem dX12_whoGets_28 : decode cX12_whoGets 28 = .ok (.iconst 1, 1) := by decide +kernel
theorem dX12_whoGets_29 : decode cX12_whoGets 29 = .ok (.iload_n 3, 1) := by decide +kernel
theorem dX12_whoGets_30 : decode cX12_whoGets 30 = .ok (.ishl, 1) := by decide +kernel
theorem dX12_whoGets_31 : decode cX12_whoGets 31 = .ok (.ior, 1) := by decide +kernel
theorem dX12_whoGets_32 : decode cX12_whoGets 32 = .ok (.istore_n 1, 1) := by decide +kernel
theorem dX12_whoGets_33 : decode cX12_whoGets 33 = .ok (.iinc 2 1, 3) := by decide +kernel
theorem dX12_whoGets_36 : decode cX12_whoGets 36 = .ok (.goto (-32), 3) := by decide +kernel
theorem dX12_whoGets_39 : decode cX12_whoGets 39 = .ok (.iload_n 1, 1) := by decide +kernel
theorem dX12_whoGets_40 : decode cX12_whoGets 40 = .ok (.ireturn, 1) := by decide +kernel
theorem dX12_who_0 : decode cX12_who 0 = .ok (.aload_n 0, 1) := by decide +kernel
theorem dX12_who_1 : decode cX12_who 1 = .ok (.invokevirtual 214, 3) := by decide +kernel
theorem dX12_who_4 : decode cX12_who 4 = .ok (.ireturn, 1) := by decide +kernel
theorem dX12_never_0 : decode cX12_never 0 = .ok (.aload_n 0, 1) := by decide +kernel
theorem dX12_never_1 : decode cX12_never 1 = .ok (.iload_n 1, 1) := by decide +kernel
theorem dX12_never_2 : decode cX12_never 2 = .ok (.invokevirtual 128, 3) := by decide +kernel
theorem dX12_never_5 : decode cX12_never 5 = .ok (.ifCond .ne 9, 3) := by decide +kernel
theorem dX12_never_8 : decode cX12_never 8 = .ok (.aload_n 0, 1) := by decide +kernel
theorem dX12_never_9 : decode cX12_never 9 = .ok (.iconst (-1), 1) := by decide +kernel
theorem dX12_never_10 : decode cX12_never 10 = .ok (.invokevirtual 98, 3) := by decide +kernel
theorem dX12_never_13 : decode cX12_never 13 = .ok (.ireturn, 1) := by decide +kernel
theorem dX12_never_14 : decode cX12_never 14 = .ok (.aload_n 0, 1) := by decide +kernel
theorem dX12_never_15 : decode cX12_never 15 = .ok (.invokevirtual 214, 3) := by decide +kernel
theorem dX12_never_18 : decode cX12_never 18 = .ok (.istore_n 2, 1) := by decide +kernel
theorem dX12_never_19 : decode cX12_never 19 = .ok (.iload_n 2, 1) := by decide +kernel
theorem dX12_never_20 : decode cX12_never 20 = .ok (.iload_n 1, 1) := by decide +kernel
theorem dX12_never_21 : decode cX12_never 21 = .ok (.ishr, 1) := by decide +kernel
theorem dX12_never_22 : decode cX12_never 22 = .ok (.iconst 1, 1) := by decide +kernel
theorem dX12_never_23 : decode cX12_never 23 = .ok (.iand, 1) := by decide +kernel
theorem dX12_never_24 : decode cX12_never 24 = .ok (.iconst 1, 1) := by decide +kernel
theorem dX12_never_25 : decode cX12_never 25 = .ok (.if_icmp .ne 7, 3) := by decide +kernel
theorem dX12_never_28 : decode cX12_never 28 = .ok (.iconst 0, 1) := by decide +kernel
theorem dX12_never_29 : decode cX12_never 29 = .ok (.goto 4, 3) := by decide +kernel
theorem dX12_never_32 : decode cX12_never 32 = .ok (.iload_n 2, 1) := by decide +kernel
theorem dX12_never_33 : decode cX12_never 33 = .ok (.ireturn, 1) := by decide +kernel
theorem dX12_isReached_0 : decode cX12_isReached 0 = .ok (.aload_n 0, 1) := by decide +kernel
theorem dX12_isReached_1 : decode cX12_isReached 1 = .ok (.invokevirtual 214, 3) := by decide +kernel
theorem dX12_isReached_4 : decode cX12_isReached 4 = .ok (.iload_n 1, 1) := by decide +kernel
theorem dX12_isReached_5 : decode cX12_isReached 5 = .ok (.ishr, 1) := by decide +kernel
theorem dX12_isReached_6 : decode cX12_isReached 6 = .ok (.iconst 1, 1) := by decide +kernel
theorem dX12_isReached_7 : decode cX12_isReached 7 = .ok (.iand, 1) := by decide +kernel
theorem dX12_isReached_8 : decode cX12_isReached 8 = .ok (.iconst 1, 1) := by decide +kernel
theorem dX12_isReached_9 : decode cX12_isReached 9 = .ok (.if_icmp .ne 7, 3) := by decide +kernel
theorem dX12_isReached_12 : decode cX12_isReached 12 = .ok (.iconst 1, 1) := by decide +kernel
theorem dX12_isReached_13 : decode cX12_isReached 13 = .ok (.goto 4, 3) := by decide +kernel
theorem dX12_isReached_16 : decode cX12_isReached 16 = .ok (.iconst 0, 1) := by decide +kernel
theorem dX12_isReached_17 : decode cX12_isReached 17 = .ok (.ireturn, 1) := by decide +kernel
theorem dX12_costAhead_0 : decode cX12_costAhead 0 = .ok (.iload_n 2, 1) := by decide +kernel
theorem dX12_costAhead_1 : decode cX12_costAhead 1 = .ok (.ifCond .ne 18, 3) := by decide +kernel
theorem dX12_costAhead_4 : decode cX12_costAhead 4 = .ok (.aload_n 0, 1) := by decide +kernel
theorem dX12_costAhead_5 : decode cX12_costAhead 5 = .ok (.iload_n 1, 1) := by decide +kernel
theorem dX12_costAhead_6 : decode cX12_costAhead 6 = .ok (.invokevirtual 217, 3) := by decide +kernel
theorem dX12_costAhead_9 : decode cX12_costAhead 9 = .ok (.ifCond .eq 7, 3) := by decide +kernel
theorem dX12_costAhead_12 : decode cX12_costAhead 12 = .ok (.iconst 0, 1) := by decide +kernel
theorem dX12_costAhead_13 : decode cX12_costAhead 13 = .ok (.goto 5, 3) := by decide +kernel
theorem dX12_costAhead_16 : decode cX12_costAhead 16 = .ok (.bipush (-9), 2) := by decide +kernel
theorem dX12_costAhead_18 : decode cX12_costAhead 18 = .ok (.ireturn, 1) := by decide +kernel
theorem dX12_costAhead_19 : decode cX12_costAhead 19 = .ok (.bipush (-9), 2) := by decide +kernel
theorem dX12_costAhead_21 : decode cX12_costAhead 21 = .ok (.istore_n 3, 1) := by decide +kernel
theorem dX12_costAhead_22 : decode cX12_costAhead 22 = .ok (.iconst 0, 1) := by decide +kernel
theorem dX12_costAhead_23 : decode cX12_costAhead 23 = .ok (.istore 4, 2) := by decide +kernel
theorem dX12_costAhead_25 : decode cX12_costAhead 25 = .ok (.iload 4, 2) := by decide +kernel
theorem dX12_costAhead_27 : decode cX12_costAhead 27 = .ok (.bipush 81, 2) := by decide +kernel
theorem dX12_costAhead_29 : decode cX12_costAhead 29 = .ok (.if_icmp .ge 113, 3) := by decide +kernel
theorem dX12_costAhead_32 : decode cX12_costAhead 32 = .ok (.iload_n 3, 1) := by decide +kernel
theorem dX12_costAhead_33 : decode cX12_costAhead 33 = .ok (.ifCond .lt 18, 3) := by decide +kernel
theorem dX12_costAhead_36 : decode cX12_costAhead 36 = .ok (.iload 4, 2) := by decide +kernel
theorem dX12_costAhead_38 : decode cX12_costAhead 38 = .ok (.invokestatic 205, 3) := by decide +kernel
theorem dX12_costAhead_41 : decode cX12_costAhead 41 = .ok (.invokestatic 208, 3) := by decide +kernel
theorem dX12_costAhead_44 : decode cX12_costAhead 44 = .ok (.iload_n 3, 1) := by decide +kernel
theorem dX12_costAhead_45 : decode cX12_costAhead 45 = .ok (.if_icmp .lt 6, 3) := by decide +kernel
theorem dX12_costAhead_48 : decode cX12_costAhead 48 = .ok (.goto 88, 3) := by decide +kernel
theorem dX12_costAhead_51 : decode cX12_costAhead 51 = .ok (.aload_n 0, 1) := by decide +kernel
theorem dX12_costAhead_52 : decode cX12_costAhead 52 = .ok (.iload_n 2, 1) := by decide +kernel
theorem dX12_costAhead_53 : decode cX12_costAhead 53 = .ok (.invokevirtual 220, 3) := by decide +kernel
theorem dX12_costAhead_56 : decode cX12_costAhead 56 = .ok (.aload_n 0, 1) := by decide +kernel
theorem dX12_costAhead_57 : decode cX12_costAhead 57 = .ok (.iload 4, 2) := by decide +kernel
theorem dX12_costAhead_59 : decode cX12_costAhead 59 = .ok (.invokestatic 205, 3) := by decide +kernel
theorem dX12_costAhead_62 : decode cX12_costAhead 62 = .ok (.invokevirtual 196, 3) := by decide +kernel
theorem dX12_costAhead_65 : decode cX12_costAhead 65 = .ok (.pop, 1) := by decide +kernel
theorem dX12_costAhead_66 : decode cX12_costAhead 66 = .ok (.aload_n 0, 1) := by decide +kernel
theorem dX12_costAhead_67 : decode cX12_costAhead 67 = .ok (.iload_n 1, 1) := by decide +kernel
theorem dX12_costAhead_68 : decode cX12_costAhead 68 = .ok (.iload_n 2, 1) := by decide +kernel
theorem dX12_costAhead_69 : decode cX12_costAhead 69 = .ok (.iconst 1, 1) := by decide +kernel
theorem dX12_costAhead_70 : decode cX12_costAhead 70 = .ok (.isub, 1) := by decide +kernel
theorem dX12_costAhead_71 : decode cX12_costAhead 71 = .ok (.iload_n 3, 1) := by decide +kernel
theorem dX12_costAhead_72 : decode cX12_costAhead 72 = .ok (.ifCond .ge 8, 3) := by decide +kernel
theorem dX12_costAhead_75 : decode cX12_costAhead 75 = .ok (.bipush (-9), 2) := by decide +kernel
theorem dX12_costAhead_77 : decode cX12_costAhead 77 = .ok (.goto 13, 3) := by decide +kernel
theorem dX12_costAhead_80 : decode cX12_costAhead 80 = .ok (.iload_n 3, 1) := by decide +kernel
theorem dX12_costAhead_81 : decode cX12_costAhead 81 = .ok (.iload 4, 2) := by decide +kernel
theorem dX12_costAhead_83 : decode cX12_costAhead 83 = .ok (.invokestatic 205, 3) := by decide +kernel
theorem dX12_costAhead_86 : decode cX12_costAhead 86 = .ok (.invokestatic 208, 3) := by decide +kernel
theorem dX12_costAhead_89 : decode cX12_costAhead 89 = .ok (.isub, 1) := by decide +kernel
theorem dX12_costAhead_90 : decode cX12_costAhead 90 = .ok (.invokevirtual 224, 3) := by decide +kernel
theorem dX12_costAhead_93 : decode cX12_costAhead 93 = .ok (.istore 5, 2) := by decide +kernel
theorem dX12_costAhead_95 : decode cX12_costAhead 95 = .ok (.aload_n 0, 1) := by decide +kernel
theorem dX12_costAhead_96 : decode cX12_costAhead 96 = .ok (.iload_n 2, 1) := by decide +kernel
theorem dX12_costAhead_97 : decode cX12_costAhead 97 = .ok (.invokevirtual 227, 3) := by decide +kernel
theorem dX12_costAhead_100 : decode cX12_costAhead 100 = .ok (.iload 5, 2) := by decide +kernel
theorem dX12_costAhead_102 : decode cX12_costAhead 102 = .ok (.ifCond .lt 34, 3) := by decide +kernel
theorem dX12_costAhead_105 : decode cX12_costAhead 105 = .ok (.iload_n 3, 1) := by decide +kernel
theorem dX12_costAhead_106 : decode cX12_costAhead 106 = .ok (.ifCond .lt 18, 3) := by decide +kernel
theorem dX12_costAhead_109 : decode cX12_costAhead 109 = .ok (.iload 5, 2) := by decide +kernel
theorem dX12_costAhead_111 : decode cX12_costAhead 111 = .ok (.iload 4, 2) := by decide +kernel
theorem dX12_costAhead_113 : decode cX12_costAhead 113 = .ok (.invokestatic 205, 3) := by decide +kernel
theorem dX12_costAhead_116 : decode cX12_costAhead 116 = .ok (.invokestatic 208, 3) := by decide +kernel
theorem dX12_costAhead_119 : decode cX12_costAhead 119 = .ok (.iadd, 1) := by decide +kernel
theorem dX12_costAhead_120 : decode cX12_costAhead 120 = .ok (.iload_n 3, 1) := by decide +kernel
theorem dX12_costAhead_121 : decode cX12_costAhead 121 = .ok (.if_icmp .ge 15, 3) := by decide +kernel
theorem dX12_costAhead_124 : decode cX12_costAhead 124 = .ok (.iload 5, 2) := by decide +kernel
theorem dX12_costAhead_126 : decode cX12_costAhead 126 = .ok (.iload 4, 2) := by decide +kernel
theorem dX12_costAhead_128 : decode cX12_costAhead 128 = .ok (.invokestatic 205, 3) := by decide +kernel
theorem dX12_costAhead_131 : decode cX12_costAhead 131 = .ok (.invokestatic 208, 3) := by decide +kernel
theorem dX12_costAhead_134 : decode cX12_costAhead 134 = .ok (.iadd, 1) := by decide +kernel
theorem dX12_costAhead_135 : decode cX12_costAhead 135 = .ok (.istore_n 3, 1) := by decide +kernel
theorem dX12_costAhead_136 : decode cX12_costAhead 136 = .ok (.iinc 4 1, 3) := by decide +kernel
theorem dX12_costAhead_139 : decode cX12_costAhead 139 = .ok (.goto (-114), 3) := by decide +kernel
theorem dX12_costAhead_142 : decode cX12_costAhead 142 = .ok (.iload_n 3, 1) := by decide +kernel
theorem dX12_costAhead_143 : decode cX12_costAhead 143 = .ok (.ireturn, 1) := by decide +kernel
theorem dX12_costAheadOne_0 : decode cX12_costAheadOne 0 = .ok (.iload_n 2, 1) := by decide +kernel
theorem dX12_costAheadOne_1 : decode cX12_costAheadOne 1 = .ok (.ifCond .ne 18, 3) := by decide +kernel
theorem dX12_costAheadOne_4 : decode cX12_costAheadOne 4 = .ok (.aload_n 0, 1) := by decide +kernel
theorem dX12_costAheadOne_5 : decode cX12_costAheadOne 5 = .ok (.iload_n 1, 1) := by decide +kernel
theorem dX12_costAheadOne_6 : decode cX12_costAheadOne 6 = .ok (.invokevirtual 217, 3) := by decide +kernel
theorem dX12_costAheadOne_9 : decode cX12_costAheadOne 9 = .ok (.ifCond .eq 7, 3) := by decide +kernel
theorem dX12_costAheadOne_12 : decode cX12_costAheadOne 12 = .ok (.iconst 0, 1) := by decide +kernel
theorem dX12_costAheadOne_13 : decode cX12_costAheadOne 13 = .ok (.goto 5, 3) := by decide +kernel
theorem dX12_costAheadOne_16 : decode cX12_costAheadOne 16 = .ok (.bipush (-9), 2) := by decide +kernel
theorem dX12_costAheadOne_18 : decode cX12_costAheadOne 18 = .ok (.ireturn, 1) := by decide +kernel
theorem dX12_costAheadOne_19 : decode cX12_costAheadOne 19 = .ok (.bipush (-9), 2) := by decide +kernel
theorem dX12_costAheadOne_21 : decode cX12_costAheadOne 21 = .ok (.istore 4, 2) := by decide +kernel
theorem dX12_costAheadOne_23 : decode cX12_costAheadOne 23 = .ok (.iconst 0, 1) := by decide +kernel
theorem dX12_costAheadOne_24 : decode cX12_costAheadOne 24 = .ok (.istore 5, 2) := by decide +kernel
theorem dX12_costAheadOne_26 : decode cX12_costAheadOne 26 = .ok (.iload 5, 2) := by decide +kernel
theorem dX12_costAheadOne_28 : decode cX12_costAheadOne 28 = .ok (.bipush 81, 2) := by decide +kernel
theorem dX12_costAheadOne_30 : decode cX12_costAheadOne 30 = .ok (.if_icmp .ge 76, 3) := by decide +kernel
theorem dX12_costAheadOne_33 : decode cX12_costAheadOne 33 = .ok (.iload 5, 2) := by decide +kernel
theorem dX12_costAheadOne_35 : decode cX12_costAheadOne 35 = .ok (.invokestatic 205, 3) := by decide +kernel
theorem dX12_costAheadOne_38 : decode cX12_costAheadOne 38 = .ok (.invokestatic 208, 3) := by decide +kernel
theorem dX12_costAheadOne_41 : decode cX12_costAheadOne 41 = .ok (.istore 6, 2) := by decide +kernel
theorem dX12_costAheadOne_43 : decode cX12_costAheadOne 43 = .ok (.iload 4, 2) := by decide +kernel
theorem dX12_costAheadOne_45 : decode cX12_costAheadOne 45 = .ok (.ifCond .lt 10, 3) := by decide +kernel
theorem dX12_costAheadOne_48 : decode cX12_costAheadOne 48 = .ok (.iload 6, 2) := by decide +kernel
theorem dX12_costAheadOne_50 : decode cX12_costAheadOne 50 = .ok (.iload 4, 2) := by decide +kernel
theorem dX12_costAheadOne_52 : decode cX12_costAheadOne 52 = .ok (.if_icmp .ge 48, 3) := by decide +kernel
theorem dX12_costAheadOne_55 : decode cX12_costAheadOne 55 = .ok (.iload_n 3, 1) := by decide +kernel
theorem dX12_costAheadOne_56 : decode cX12_costAheadOne 56 = .ok (.ifCond .lt 12, 3) := by decide +kernel
theorem dX12_costAheadOne_59 : decode cX12_costAheadOne 59 = .ok (.iload 6, 2) := by decide +kernel
theorem dX12_costAheadOne_61 : decode cX12_costAheadOne 61 = .ok (.iload_n 3, 1) := by decide +kernel
theorem dX12_costAheadOne_62 : decode cX12_costAheadOne 62 = .ok (.if_icmp .lt 6, 3) := by decide +kernel
theorem dX12_costAheadOne_65 : decode cX12_costAheadOne 65 = .ok (.goto 35, 3) := by decide +kernel
theorem dX12_costAheadOne_68 : decode cX12_costAheadOne 68 = .ok (.aload_n 0, 1) := by decide +kernel
theorem dX12_costAheadOne_69 : decode cX12_costAheadOne 69 = .ok (.iconst 0, 1) := by decide +kernel
theorem dX12_costAheadOne_70 : decode cX12_costAheadOne 70 = .ok (.invokevirtual 220, 3) := by decide +kernel
theorem dX12_costAheadOne_73 : decode cX12_costAheadOne 73 = .ok (.aload_n 0, 1) := by decide +kernel
theorem dX12_costAheadOne_74 : decode cX12_costAheadOne 74 = .ok (.iload 5, 2) := by decide +kernel
theorem dX12_costAheadOne_76 : decode cX12_costAheadOne 76 = .ok (.invokestatic 205, 3) := by decide +kernel
theorem dX12_costAheadOne_79 : decode cX12_costAheadOne 79 = .ok (.invokevirtual 196, 3) := by decide +kernel
theorem dX12_costAheadOne_82 : decode cX12_costAheadOne 82 = .ok (.pop, 1) := by decide +kernel
theorem dX12_costAheadOne_83 : decode cX12_costAheadOne 83 = .ok (.aload_n 0, 1) := by decide +kernel
theorem dX12_costAheadOne_84 : decode cX12_costAheadOne 84 = .ok (.iload_n 1, 1) := by decide +kernel
theorem dX12_costAheadOne_85 : decode cX12_costAheadOne 85 = .ok (.invokevirtual 217, 3) := by decide +kernel
theorem dX12_costAheadOne_88 : decode cX12_costAheadOne 88 = .ok (.ifCond .eq 7, 3) := by decide +kernel
theorem dX12_costAheadOne_91 : decode cX12_costAheadOne 91 = .ok (.iload 6, 2) := by decide +kernel
theorem dX12_costAheadOne_93 : decode cX12_costAheadOne 93 = .ok (.istore 4, 2) := by decide +kernel
theorem dX12_costAheadOne_95 : decode cX12_costAheadOne 95 = .ok (.aload_n 0, 1) := by decide +kernel
theorem dX12_costAheadOne_96 : decode cX12_costAheadOne 96 = .ok (.iconst 0, 1) := by decide +kernel
theorem dX12_costAheadOne_97 : decode cX12_costAheadOne 97 = .ok (.invokevirtual 227, 3) := by decide +kernel
theorem dX12_costAheadOne_100 : decode cX12_costAheadOne 100 = .ok (.iinc 5 1, 3) := by decide +kernel
theorem dX12_costAheadOne_103 : decode cX12_costAheadOne 103 = .ok (.goto (-77), 3) := by decide +kernel
theorem dX12_costAheadOne_106 : decode cX12_costAheadOne 106 = .ok (.iload 4, 2) := by decide +kernel
theorem dX12_costAheadOne_108 : decode cX12_costAheadOne 108 = .ok (.ireturn, 1) := by decide +kernel
theorem dX12_before_0 : decode cX12_before 0 = .ok (.aload_n 0, 1) := by decide +kernel
theorem dX12_before_1 : decode cX12_before 1 = .ok (.iload_n 1, 1) := by decide +kernel
theorem dX12_before_2 : decode cX12_before 2 = .ok (.invokevirtual 128, 3) := by decide +kernel
theorem dX12_before_5 : decode cX12_before 5 = .ok (.ifCond .ne 9, 3) := by decide +kernel
theorem dX12_before_8 : decode cX12_before 8 = .ok (.aload_n 0, 1) := by decide +kernel
theorem dX12_before_9 : decode cX12_before 9 = .ok (.iconst (-1), 1) := by decide +kernel
theorem dX12_before_10 : decode cX12_before 10 = .ok (.invokevirtual 98, 3) := by decide +kernel
theorem dX12_before_13 : decode cX12_before 13 = .ok (.ireturn, 1) := by decide +kernel
theorem dX12_before_14 : decode cX12_before 14 = .ok (.iload_n 2, 1) := by decide +kernel
theorem dX12_before_15 : decode cX12_before 15 = .ok (.iconst 0, 1) := by decide +kernel
theorem dX12_before_16 : decode cX12_before 16 = .ok (.iconst 1, 1) := by decide +kernel
theorem dX12_before_17 : decode cX12_before 17 = .ok (.invokestatic 83, 3) := by decide +kernel
theorem dX12_before_20 : decode cX12_before 20 = .ok (.ifCond .ne 10, 3) := by decide +kernel
theorem dX12_before_23 : decode cX12_before 23 = .ok (.aload_n 0, 1) := by decide +kernel
theorem dX12_before_24 : decode cX12_before 24 = .ok (.bipush (-2), 2) := by decide +kernel
theorem dX12_before_26 : decode cX12_before 26 = .ok (.invokevirtual 98, 3) := by decide +kernel
theorem dX12_before_29 : decode cX12_before 29 = .ok (.ireturn, 1) := by decide +kernel
theorem dX12_before_30 : decode cX12_before 30 = .ok (.iconst 0, 1) := by decide +kernel
theorem dX12_before_31 : decode cX12_before 31 = .ok (.istore_n 3, 1) := by decide +kernel
theorem dX12_before_32 : decode cX12_before 32 = .ok (.iload_n 3, 1) := by decide +kernel
theorem dX12_before_33 : decode cX12_before 33 = .ok (.iconst 3, 1) := by decide +kernel
theorem dX12_before_34 : decode cX12_before 34 = .ok (.if_icmp .ge 33, 3) := by decide +kernel
theorem dX12_before_37 : decode cX12_before 37 = .ok (.aload_n 0, 1) := by decide +kernel
theorem dX12_before_38 : decode cX12_before 38 = .ok (.iload_n 1, 1) := by decide +kernel
theorem dX12_before_39 : decode cX12_before 39 = .ok (.iload_n 3, 1) := by decide +kernel
theorem dX12_before_40 : decode cX12_before 40 = .ok (.invokevirtual 230, 3) := by decide +kernel
theorem dX12_before_43 : decode cX12_before 43 = .ok (.istore 4, 2) := by decide +kernel
theorem dX12_before_45 : decode cX12_before 45 = .ok (.iload 4, 2) := by decide +kernel
theorem dX12_before_47 : decode cX12_before 47 = .ok (.ifCond .lt 14, 3) := by decide +kernel
theorem dX12_before_50 : decode cX12_before 50 = .ok (.iload_n 2, 1) := by decide +kernel
theorem dX12_before_51 : decode cX12_before 51 = .ok (.ifCond .ne 7, 3) := by decide +kernel
theorem dX12_before_54 : decode cX12_before 54 = .ok (.iload_n 3, 1) := by decide +kernel
theorem dX12_before_55 : decode cX12_before 55 = .ok (.goto 5, 3) := by decide +kernel
theorem dX12_before_58 : decode cX12_before 58 = .ok (.iload 4, 2) := by decide +kernel
theorem dX12_before_60 : decode cX12_before 60 = .ok (.ireturn, 1) := by decide +kernel
theorem dX12_before_61 : decode cX12_before 61 = .ok (.iinc 3 1, 3) := by decide +kernel
theorem dX12_before_64 : decode cX12_before 64 = .ok (.goto (-32), 3) := by decide +kernel
theorem dX12_before_67 : decode cX12_before 67 = .ok (.bipush (-9), 2) := by decide +kernel
theorem dX12_before_69 : decode cX12_before 69 = .ok (.ireturn, 1) := by decide +kernel
theorem dX12_order_0 : decode cX12_order 0 = .ok (.iload_n 1, 1) := by decide +kernel
theorem dX12_order_1 : decode cX12_order 1 = .ok (.invokestatic 193, 3) := by decide +kernel
theorem dX12_order_4 : decode cX12_order 4 = .ok (.ifCond .ne 9, 3) := by decide +kernel
theorem dX12_order_7 : decode cX12_order 7 = .ok (.aload_n 0, 1) := by decide +kernel
theorem dX12_order_8 : decode cX12_order 8 = .ok (.iconst (-1), 1) := by decide +kernel
theorem dX12_order_9 : decode cX12_order 9 = .ok (.invokevirtual 98, 3) := by decide +kernel
theorem dX12_order_12 : decode cX12_order 12 = .ok (.ireturn, 1) := by decide +kernel
theorem dX12_order_13 : decode cX12_order 13 = .ok (.aload_n 0, 1) := by decide +kernel
theorem dX12_order_14 : decode cX12_order 14 = .ok (.getfield 162, 3) := by decide +kernel
theorem dX12_order_17 : decode cX12_order 17 = .ok (.iconst 5, 1) := by decide +kernel
theorem dX12_order_18 : decode cX12_order 18 = .ok (.if_icmp .ne 10, 3) := by decide +kernel
theorem dX12_order_21 : decode cX12_order 21 = .ok (.aload_n 0, 1) := by decide +kernel
theorem dX12_order_22 : decode cX12_order 22 = .ok (.bipush (-6), 2) := by decide +kernel
theorem dX12_order_24 : decode cX12_order 24 = .ok (.invokevirtual 98, 3) := by decide +kernel
theorem dX12_order_27 : decode cX12_order 27 = .ok (.ireturn, 1) := by decide +kernel
theorem dX12_order_28 : decode cX12_order 28 = .ok (.aload_n 0, 1) := by decide +kernel
theorem dX12_order_29 : decode cX12_order 29 = .ok (.getfield 28, 3) := by decide +kernel
theorem dX12_order_32 : decode cX12_order 32 = .ok (.aload_n 0, 1) := by decide +kernel
theorem dX12_order_33 : decode cX12_order 33 = .ok (.getfield 162, 3) := by decide +kernel
theorem dX12_order_36 : decode cX12_order 36 = .ok (.iload_n 1, 1) := by decide +kernel
theorem dX12_order_37 : decode cX12_order 37 = .ok (.iastore, 1) := by decide +kernel
theorem dX12_order_38 : decode cX12_order 38 = .ok (.aload_n 0, 1) := by decide +kernel
theorem dX12_order_39 : decode cX12_order 39 = .ok (.dup, 1) := by decide +kernel
theorem dX12_order_40 : decode cX12_order 40 = .ok (.getfield 162, 3) := by decide +kernel
theorem dX12_order_43 : decode cX12_order 43 = .ok (.iconst 1, 1) := by decide +kernel
theorem dX12_order_44 : decode cX12_order 44 = .ok (.iadd, 1) := by decide +kernel
theorem dX12_order_45 : decode cX12_order 45 = .ok (.putfield 162, 3) := by decide +kernel
theorem dX12_order_48 : decode cX12_order 48 = .ok (.aload_n 0, 1) := by decide +kernel
theorem dX12_order_49 : decode cX12_order 49 = .ok (.getfield 162, 3) := by decide +kernel
theorem dX12_order_52 : decode cX12_order 52 = .ok (.ireturn, 1) := by decide +kernel
theorem dX12_forget_0 : decode cX12_forget 0 = .ok (.aload_n 0, 1) := by decide +kernel
theorem dX12_forget_1 : decode cX12_forget 1 = .ok (.getfield 162, 3) := by decide +kernel
theorem dX12_forget_4 : decode cX12_forget 4 = .ok (.istore_n 1, 1) := by decide +kernel
theorem dX12_forget_5 : decode cX12_forget 5 = .ok (.aload_n 0, 1) := by decide +kernel
theorem dX12_forget_6 : decode cX12_forget 6 = .ok (.iconst 0, 1) := by decide +kernel
theorem dX12_forget_7 : decode cX12_forget 7 = .ok (.putfield 162, 3) := by decide +kernel
theorem dX12_forget_10 : decode cX12_forget 10 = .ok (.iload_n 1, 1) := by decide +kernel
theorem dX12_forget_11 : decode cX12_forget 11 = .ok (.ireturn, 1) := by decide +kernel
theorem dX12_metBy_0 : decode cX12_metBy 0 = .ok (.aload_n 0, 1) := by decide +kernel
theorem dX12_metBy_1 : decode cX12_metBy 1 = .ok (.invokevirtual 202, 3) := by decide +kernel
theorem dX12_metBy_4 : decode cX12_metBy 4 = .ok (.istore_n 2, 1) := by decide +kernel
theorem dX12_metBy_5 : decode cX12_metBy 5 = .ok (.aload_n 0, 1) := by decide +kernel
theorem dX12_metBy_6 : decode cX12_metBy 6 = .ok (.iconst 0, 1) := by decide +kernel
theorem dX12_metBy_7 : decode cX12_metBy 7 = .ok (.invokevirtual 220, 3) := by decide +kernel
theorem dX12_metBy_10 : decode cX12_metBy 10 = .ok (.iconst 0, 1) := by decide +kernel
theorem dX12_metBy_11 : decode cX12_metBy 11 = .ok (.istore_n 3, 1) := by decide +kernel
theorem dX12_metBy_12 : decode cX12_metBy 12 = .ok (.iload_n 3, 1) := by decide +kernel
theorem dX12_metBy_13 : decode cX12_metBy 13 = .ok (.iload_n 1, 1) := by decide +kernel
theorem dX12_metBy_14 : decode cX12_metBy 14 = .ok (.if_icmp .ge 25, 3) := by decide +kernel
theorem dX12_metBy_17 : decode cX12_metBy 17 = .ok (.aload_n 0, 1) := by decide +kernel
theorem dX12_metBy_18 : decode cX12_metBy 18 = .ok (.aload_n 0, 1) := by decide +kernel
theorem dX12_metBy_19 : decode cX12_metBy 19 = .ok (.getfield 28, 3) := by decide +kernel
theorem dX12_metBy_22 : decode cX12_metBy 22 = .ok (.aload_n 0, 1) := by decide +kernel
theorem dX12_metBy_23 : decode cX12_metBy 23 = .ok (.getfield 67, 3) := by decide +kernel
theorem dX12_metBy_26 : decode cX12_metBy 26 = .ok (.iload_n 3, 1) := by decide +kernel
theorem dX12_metBy_27 : decode cX12_metBy 27 = .ok (.iaload, 1) := by decide +kernel
theorem dX12_metBy_28 : decode cX12_metBy 28 = .ok (.iaload, 1) := by decide +kernel
theorem dX12_metBy_29 : decode cX12_metBy 29 = .ok (.invokevirtual 196, 3) := by decide +kernel
theorem dX12_metBy_32 : decode cX12_metBy 32 = .ok (.pop, 1) := by decide +kernel
theorem dX12_metBy_33 : decode cX12_metBy 33 = .ok (.iinc 3 1, 3) := by decide +kernel
theorem dX12_metBy_36 : decode cX12_metBy 36 = .ok (.goto (-24), 3) := by decide +kernel
theorem dX12_metBy_39 : decode cX12_metBy 39 = .ok (.aload_n 0, 1) := by decide +kernel
theorem dX12_metBy_40 : decode cX12_metBy 40 = .ok (.invokevirtual 202, 3) := by decide +kernel
theorem dX12_metBy_43 : decode cX12_metBy 43 = .ok (.istore_n 3, 1) := by decide +kernel
theorem dX12_metBy_44 : decode cX12_metBy 44 = .ok (.aload_n 0, 1) := by decide +kernel
theorem dX12_metBy_45 : decode cX12_metBy 45 = .ok (.iconst 0, 1) := by decide +kernel
theorem dX12_metBy_46 : decode cX12_metBy 46 = .ok (.invokevirtual 227, 3) := by decide +kernel
theorem dX12_metBy_49 : decode cX12_metBy 49 = .ok (.iload_n 2, 1) := by decide +kernel
theorem dX12_metBy_50 : decode cX12_metBy 50 = .ok (.iload_n 3, 1) := by decide +kernel
theorem dX12_metBy_51 : decode cX12_metBy 51 = .ok (.isub, 1) := by decide +kernel
theorem dX12_metBy_52 : decode cX12_metBy 52 = .ok (.ireturn, 1) := by decide +kernel
theorem dX12_met_0 : decode cX12_met 0 = .ok (.iload_n 1, 1) := by decide +kernel
theorem dX12_met_1 : decode cX12_met 1 = .ok (.iconst 0, 1) := by decide +kernel
theorem dX12_met_2 : decode cX12_met 2 = .ok (.iconst 5, 1) := by decide +kernel
theorem dX12_met_3 : decode cX12_met 3 = .ok (.invokestatic 91, 3) := by decide +kernel
theorem dX12_met_6 : decode cX12_met 6 = .ok (.istore_n 3, 1) := by decide +kernel
theorem dX12_met_7 : decode cX12_met 7 = .ok (.iload_n 3, 1) := by decide +kernel
theorem dX12_met_8 : decode cX12_met 8 = .ok (.ifCond .eq 9, 3) := by decide +kernel
theorem dX12_met_11 : decode cX12_met 11 = .ok (.aload_n 0, 1) := by decide +kernel
theorem dX12_met_12 : decode cX12_met 12 = .ok (.iload_n 3, 1) := by decide +kernel
theorem dX12_met_13 : decode cX12_met 13 = .ok (.invokevirtual 98, 3) := by decide +kernel
theorem dX12_met_16 : decode cX12_met 16 = .ok (.ireturn, 1) := by decide +kernel
theorem dX12_met_17 : decode cX12_met 17 = .ok (.iload_n 2, 1) := by decide +kernel
theorem dX12_met_18 : decode cX12_met 18 = .ok (.istore 4, 2) := by decide +kernel
theorem dX12_met_20 : decode cX12_met 20 = .ok (.iconst 0, 1) := by decide +kernel
theorem dX12_met_21 : decode cX12_met 21 = .ok (.istore 5, 2) := by decide +kernel
theorem dX12_met_23 : decode cX12_met 23 = .ok (.iconst 0, 1) := by decide +kernel
theorem dX12_met_24 : decode cX12_met 24 = .ok (.istore 6, 2) := by decide +kernel
theorem dX12_met_26 : decode cX12_met 26 = .ok (.iload 6, 2) := by decide +kernel
theorem dX12_met_28 : decode cX12_met 28 = .ok (.iload_n 1, 1) := by decide +kernel
theorem dX12_met_29 : decode cX12_met 29 = .ok (.if_icmp .ge 72, 3) := by decide +kernel
theorem dX12_met_32 : decode cX12_met 32 = .ok (.iload 4, 2) := by decide +kernel
theorem dX12_met_34 : decode cX12_met 34 = .ok (.bipush 10, 2) := by decide +kernel
theorem dX12_met_36 : decode cX12_met 36 = .ok (.irem, 1) := by decide +kernel
theorem dX12_met_37 : decode cX12_met 37 = .ok (.istore 7, 2) := by decide +kernel
theorem dX12_met_39 : decode cX12_met 39 = .ok (.iload 4, 2) := by decide +kernel
theorem dX12_met_41 : decode cX12_met 41 = .ok (.bipush 10, 2) := by decide +kernel
theorem dX12_met_43 : decode cX12_met 43 = .ok (.idiv, 1) := by decide +kernel
theorem dX12_met_44 : decode cX12_met 44 = .ok (.istore 4, 2) := by decide +kernel
theorem dX12_met_46 : decode cX12_met 46 = .ok (.iload 7, 2) := by decide +kernel
theorem dX12_met_48 : decode cX12_met 48 = .ok (.ifCond .lt 23, 3) := by decide +kernel
theorem dX12_met_51 : decode cX12_met 51 = .ok (.iload 7, 2) := by decide +kernel
theorem dX12_met_53 : decode cX12_met 53 = .ok (.aload_n 0, 1) := by decide +kernel
theorem dX12_met_54 : decode cX12_met 54 = .ok (.getfield 162, 3) := by decide +kernel
theorem dX12_met_57 : decode cX12_met 57 = .ok (.if_icmp .ge 14, 3) := by decide +kernel
theorem dX12_met_60 : decode cX12_met 60 = .ok (.iload 5, 2) := by decide +kernel
theorem dX12_met_62 : decode cX12_met 62 = .ok (.iload 7, 2) := by decide +kernel
theorem dX12_met_64 : decode cX12_met 64 = .ok (.ishr, 1) := by decide +kernel
theorem dX12_met_65 : decode cX12_met 65 = .ok (.iconst 1, 1) := by decide +kernel
theorem dX12_met_66 : decode cX12_met 66 = .ok (.iand, 1) := by decide +kernel
theorem dX12_met_67 : decode cX12_met 67 = .ok (.iconst 1, 1) := by decide +kernel
theorem dX12_met_68 : decode cX12_met 68 = .ok (.if_icmp .ne 9, 3) := by decide +kernel
theorem dX12_met_71 : decode cX12_met 71 = .ok (.aload_n 0, 1) := by decide +kernel
theorem dX12_met_72 : decode cX12_met 72 = .ok (.iconst (-1), 1) := by decide +kernel
theorem dX12_met_73 : decode cX12_met 73 = .ok (.invokevirtual 98, 3) := by decide +kernel
theorem dX12_met_76 : decode cX12_met 76 = .ok (.ireturn, 1) := by decide +kernel
theorem dX12_met_77 : decode cX12_met 77 = .ok (.iload 5, 2) := by decide +kernel
theorem dX12_met_79 : decode cX12_met 79 = .ok (.iconst 1, 1) := by decide +kernel
theorem dX12_met_80 : decode cX12_met 80 = .ok (.iload 7, 2) := by decide +kernel
theorem dX12_met_82 : decode cX12_met 82 = .ok (.ishl, 1) := by decide +kernel
theorem dX12_met_83 : decode cX12_met 83 = .ok (.ior, 1) := by decide +kernel
theorem dX12_met_84 : decode cX12_met 84 = .ok (.istore 5, 2) := by decide +kernel
theorem dX12_met_86 : decode cX12_met 86 = .ok (.aload_n 0, 1) := by decide +kernel
theorem dX12_met_87 : decode cX12_met 87 = .ok (.getfield 67, 3) := by decide +kernel
theorem dX12_met_90 : decode cX12_met 90 = .ok (.iload 6, 2) := by decide +kernel
theorem dX12_met_92 : decode cX12_met 92 = .ok (.iload 7, 2) := by decide +kernel
theorem dX12_met_94 : decode cX12_met 94 = .ok (.iastore, 1) := by decide +kernel
theorem dX12_met_95 : decode cX12_met 95 = .ok (.iinc 6 1, 3) := by decide +kernel
theorem dX12_met_98 : decode cX12_met 98 = .ok (.goto (-72), 3) := by decide +kernel
theorem dX12_met_101 : decode cX12_met 101 = .ok (.aload_n 0, 1) := by decide +kernel
theorem dX12_met_102 : decode cX12_met 102 = .ok (.iload_n 1, 1) := by decide +kernel
theorem dX12_met_103 : decode cX12_met 103 = .ok (.invokevirtual 233, 3) := by decide +kernel
theorem dX12_met_106 : decode cX12_met 106 = .ok (.ireturn, 1) := by decide +kernel
theorem dX12_ordersBy_0 : decode cX12_ordersBy 0 = .ok (.iconst 0, 1) := by decide +kernel
theorem dX12_ordersBy_1 : decode cX12_ordersBy 1 = .ok (.istore_n 2, 1) := by decide +kernel
theorem dX12_ordersBy_2 : decode cX12_ordersBy 2 = .ok (.iload_n 1, 1) := by decide +kernel
theorem dX12_ordersBy_3 : decode cX12_ordersBy 3 = .ok (.istore_n 3, 1) := by decide +kernel
theorem dX12_ordersBy_4 : decode cX12_ordersBy 4 = .ok (.iconst 1, 1) := by decide +kernel
theorem dX12_ordersBy_5 : decode cX12_ordersBy 5 = .ok (.istore 4, 2) := by decide +kernel
theorem dX12_ordersBy_7 : decode cX12_ordersBy 7 = .ok (.iconst 2, 1) := by decide +kernel
theorem dX12_ordersBy_8 : decode cX12_ordersBy 8 = .ok (.istore 5, 2) := by decide +kernel
theorem dX12_ordersBy_10 : decode cX12_ordersBy 10 = .ok (.iload 5, 2) := by decide +kernel
theorem dX12_ordersBy_12 : decode cX12_ordersBy 12 = .ok (.aload_n 0, 1) := by decide +kernel
theorem dX12_ordersBy_13 : decode cX12_ordersBy 13 = .ok (.getfield 162, 3) := by decide +kernel
theorem dX12_ordersBy_16 : decode cX12_ordersBy 16 = .ok (.if_icmp .ge 16, 3) := by decide +kernel
theorem dX12_ordersBy_19 : decode cX12_ordersBy 19 = .ok (.iload 4, 2) := by decide +kernel
theorem dX12_ordersBy_21 : decode cX12_ordersBy 21 = .ok (.iload 5, 2) := by decide +kernel
theorem dX12_ordersBy_23 : decode cX12_ordersBy 23 = .ok (.imul, 1) := by decide +kernel
theorem dX12_ordersBy_24 : decode cX12_ordersBy 24 = .ok (.istore 4, 2) := by decide +kernel
theorem dX12_ordersBy_26 : decode cX12_ordersBy 26 = .ok (.iinc 5 1, 3) := by decide +kernel
theorem dX12_ordersBy_29 : decode cX12_ordersBy 29 = .ok (.goto (-19), 3) := by decide +kernel
theorem dX12_ordersBy_32 : decode cX12_ordersBy 32 = .ok (.iconst 0, 1) := by decide +kernel
theorem dX12_ordersBy_33 : decode cX12_ordersBy 33 = .ok (.istore 5, 2) := by decide +kernel
theorem dX12_ordersBy_35 : decode cX12_ordersBy 35 = .ok (.iload 5, 2) := by decide +kernel
theorem dX12_ordersBy_37 : decode cX12_ordersBy 37 = .ok (.aload_n 0, 1) := by decide +kernel
theorem dX12_ordersBy_38 : decode cX12_ordersBy 38 = .ok (.getfield 162, 3) := by decide +kernel
theorem dX12_ordersBy_41 : decode cX12_ordersBy 41 = .ok (.if_icmp .ge 105, 3) := by decide +kernel
theorem dX12_ordersBy_44 : decode cX12_ordersBy 44 = .ok (.iload_n 3, 1) := by decide +kernel
theorem dX12_ordersBy_45 : decode cX12_ordersBy 45 = .ok (.iload 4, 2) := by decide +kernel
theorem dX12_ordersBy_47 : decode cX12_ordersBy 47 = .ok (.idiv, 1) := by decide +kernel
theorem dX12_ordersBy_48 : decode cX12_ordersBy 48 = .ok (.istore 6, 2) := by decide +kernel
theorem dX12_ordersBy_50 : decode cX12_ordersBy 50 = .ok (.iload_n 3, 1) := by decide +kernel
theorem dX12_ordersBy_51 : decode cX12_ordersBy 51 = .ok (.iload 4, 2) := by decide +kernel
theorem dX12_ordersBy_53 : decode cX12_ordersBy 53 = .ok (.irem, 1) := by decide +kernel
theorem dX12_ordersBy_54 : decode cX12_ordersBy 54 = .ok (.istore_n 3, 1) := by decide +kernel
theorem dX12_ordersBy_55 : decode cX12_ordersBy 55 = .ok (.iconst 0, 1) := by decide +kernel
theorem dX12_ordersBy_56 : decode cX12_ordersBy 56 = .ok (.istore 7, 2) := by decide +kernel
theorem dX12_ordersBy_58 : decode cX12_ordersBy 58 = .ok (.iload_n 2, 1) := by decide +kernel
theorem dX12_ordersBy_59 : decode cX12_ordersBy 59 = .ok (.iload 7, 2) := by decide +kernel
theorem dX12_ordersBy_61 : decode cX12_ordersBy 61 = .ok (.ishr, 1) := by decide +kernel
theorem dX12_ordersBy_62 : decode cX12_ordersBy 62 = .ok (.iconst 1, 1) := by decide +kernel
theorem dX12_ordersBy_63 : decode cX12_ordersBy 63 = .ok (.iand, 1) := by decide +kernel
theorem dX12_ordersBy_64 : decode cX12_ordersBy 64 = .ok (.iconst 1, 1) := by decide +kernel
theorem dX12_ordersBy_65 : decode cX12_ordersBy 65 = .ok (.if_icmp .eq 8, 3) := by decide +kernel
theorem dX12_ordersBy_68 : decode cX12_ordersBy 68 = .ok (.iload 6, 2) := by decide +kernel
theorem dX12_ordersBy_70 : decode cX12_ordersBy 70 = .ok (.ifCond .le 28, 3) := by decide +kernel
theorem dX12_ordersBy_73 : decode cX12_ordersBy 73 = .ok (.iload 6, 2) := by decide +kernel
theorem dX12_ordersBy_75 : decode cX12_ordersBy 75 = .ok (.iload_n 2, 1) := by decide +kernel
theorem dX12_ordersBy_76 : decode cX12_ordersBy 76 = .ok (.iload 7, 2) := by decide +kernel
theorem dX12_ordersBy_78 : decode cX12_ordersBy 78 = .ok (.ishr, 1) := by decide +kernel
theorem dX12_ordersBy_79 : decode cX12_ordersBy 79 = .ok (.iconst 1, 1) := by decide +kernel
theorem dX12_ordersBy_80 : decode cX12_ordersBy 80 = .ok (.iand, 1) := by decide +kernel
theorem dX12_ordersBy_81 : decode cX12_ordersBy 81 = .ok (.ifCond .ne 7, 3) := by decide +kernel
theorem dX12_ordersBy_84 : decode cX12_ordersBy 84 = .ok (.iconst 1, 1) := by decide +kernel
theorem dX12_ordersBy_85 : decode cX12_ordersBy 85 = .ok (.goto 4, 3) := by decide +kernel
theorem dX12_ordersBy_88 : decode cX12_ordersBy 88 = .ok (.iconst 0, 1) := by decide +kernel
theorem dX12_ordersBy_89 : decode cX12_ordersBy 89 = .ok (.isub, 1) := by decide +kernel
theorem dX12_ordersBy_90 : decode cX12_ordersBy 90 = .ok (.istore 6, 2) := by decide +kernel
theorem dX12_ordersBy_92 : decode cX12_ordersBy 92 = .ok (.iinc 7 1, 3) := by decide +kernel
theorem dX12_ordersBy_95 : decode cX12_ordersBy 95 = .ok (.goto (-37), 3) := by decide +kernel
theorem dX12_ordersBy_98 : decode cX12_ordersBy 98 = .ok (.aload_n 0, 1) := by decide +kernel
theorem dX12_ordersBy_99 : decode cX12_ordersBy 99 = .ok (.getfield 67, 3) := by decide +kernel
theorem dX12_ordersBy_102 : decode cX12_ordersBy 102 = .ok (.iload 5, 2) := by decide +kernel
theorem dX12_ordersBy_104 : decode cX12_ordersBy 104 = .ok (.iload 7, 2) := by decide +kernel
theorem dX12_ordersBy_106 : decode cX12_ordersBy 106 = .ok (.iastore, 1) := by decide +kernel
theorem dX12_ordersBy_107 : decode cX12_ordersBy 107 = .ok (.iload_n 2, 1) := by decide +kernel
theorem dX12_ordersBy_108 : decode cX12_ordersBy 108 = .ok (.iconst 1, 1) := by decide +kernel
theorem dX12_ordersBy_109 : decode cX12_ordersBy 109 = .ok (.iload 7, 2) := by decide +kernel
theorem dX12_ordersBy_111 : decode cX12_ordersBy 111 = .ok (.ishl, 1) := by decide +kernel
theorem dX12_ordersBy_112 : decode cX12_ordersBy 112 = .ok (.ior, 1) := by decide +kernel
theorem dX12_ordersBy_113 : decode cX12_ordersBy 113 = .ok (.istore_n 2, 1) := by decide +kernel
theorem dX12_ordersBy_114 : decode cX12_ordersBy 114 = .ok (.aload_n 0, 1) := by decide +kernel
theorem dX12_ordersBy_115 : decode cX12_ordersBy 115 = .ok (.getfield 162, 3) := by decide +kernel
theorem dX12_ordersBy_118 : decode cX12_ordersBy 118 = .ok (.iconst 1, 1) := by decide +kernel
theorem dX12_ordersBy_119 : decode cX12_ordersBy 119 = .ok (.isub, 1) := by decide +kernel
theorem dX12_ordersBy_120 : decode cX12_ordersBy 120 = .ok (.iload 5, 2) := by decide +kernel
theorem dX12_ordersBy_122 : decode cX12_ordersBy 122 = .ok (.isub, 1) := by decide +kernel
theorem dX12_ordersBy_123 : decode cX12_ordersBy 123 = .ok (.ifCond .le 17, 3) := by decide +kernel
theorem dX12_ordersBy_126 : decode cX12_ordersBy 126 = .ok (.iload 4, 2) := by decide +kernel
theorem dX12_ordersBy_128 : decode cX12_ordersBy 128 = .ok (.aload_n 0, 1) := by decide +kernel
theorem dX12_ordersBy_129 : decode cX12_ordersBy 129 = .ok (.getfield 162, 3) := by decide +kernel
theorem dX12_ordersBy_132 : decode cX12_ordersBy 132 = .ok (.iconst 1, 1) := by decide +kernel
theorem dX12_ordersBy_133 : decode cX12_ordersBy 133 = .ok (.isub, 1) := by decide +kernel
theorem dX12_ordersBy_134 : decode cX12_ordersBy 134 = .ok (.iload 5, 2) := by decide +kernel
theorem dX12_ordersBy_136 : decode cX12_ordersBy 136 = .ok (.isub, 1) := by decide +kernel
theorem dX12_ordersBy_137 : decode cX12_ordersBy 137 = .ok (.idiv, 1) := by decide +kernel
theorem dX12_ordersBy_138 : decode cX12_ordersBy 138 = .ok (.istore 4, 2) := by decide +kernel
theorem dX12_ordersBy_140 : decode cX12_ordersBy 140 = .ok (.iinc 5 1, 3) := by decide +kernel
theorem dX12_ordersBy_143 : decode cX12_ordersBy 143 = .ok (.goto (-108), 3) := by decide +kernel
theorem dX12_ordersBy_146 : decode cX12_ordersBy 146 = .ok (.return_, 1) := by decide +kernel
theorem dX12_best_0 : decode cX12_best 0 = .ok (.iload_n 1, 1) := by decide +kernel
theorem dX12_best_1 : decode cX12_best 1 = .ok (.iconst (-1), 1) := by decide +kernel
theorem dX12_best_2 : decode cX12_best 2 = .ok (.if_icmp .ge 10, 3) := by decide +kernel
theorem dX12_best_5 : decode cX12_best 5 = .ok (.aload_n 0, 1) := by decide +kernel
theorem dX12_best_6 : decode cX12_best 6 = .ok (.bipush (-4), 2) := by decide +kernel
theorem dX12_best_8 : decode cX12_best 8 = .ok (.invokevirtual 98, 3) := by decide +kernel
theorem dX12_best_11 : decode cX12_best 11 = .ok (.ireturn, 1) := by decide +kernel
theorem dX12_best_12 : decode cX12_best 12 = .ok (.iconst 1, 1) := by decide +kernel
theorem dX12_best_13 : decode cX12_best 13 = .ok (.istore_n 2, 1) := by decide +kernel
theorem dX12_best_14 : decode cX12_best 14 = .ok (.iconst 2, 1) := by decide +kernel
theorem dX12_best_15 : decode cX12_best 15 = .ok (.istore_n 3, 1) := by decide +kernel
theorem dX12_best_16 : decode cX12_best 16 = .ok (.iload_n 3, 1) := by decide +kernel
theorem dX12_best_17 : decode cX12_best 17 = .ok (.aload_n 0, 1) := by decide +kernel
theorem dX12_best_18 : decode cX12_best 18 = .ok (.getfield 162, 3) := by decide +kernel
theorem dX12_best_21 : decode cX12_best 21 = .ok (.if_icmp .gt 13, 3) := by decide +kernel
theorem dX12_best_24 : decode cX12_best 24 = .ok (.iload_n 2, 1) := by decide +kernel
theorem dX12_best_25 : decode cX12_best 25 = .ok (.iload_n 3, 1) := by decide +kernel
theorem dX12_best_26 : decode cX12_best 26 = .ok (.imul, 1) := by decide +kernel
theorem dX12_best_27 : decode cX12_best 27 = .ok (.istore_n 2, 1) := by decide +kernel
theorem dX12_best_28 : decode cX12_best 28 = .ok (.iinc 3 1, 3) := by decide +kernel
theorem dX12_best_31 : decode cX12_best 31 = .ok (.goto (-15), 3) := by decide +kernel
theorem dX12_best_34 : decode cX12_best 34 = .ok (.iconst (-1), 1) := by decide +kernel
theorem dX12_best_35 : decode cX12_best 35 = .ok (.istore_n 3, 1) := by decide +kernel
theorem dX12_best_36 : decode cX12_best 36 = .ok (.iconst 0, 1) := by decide +kernel
theorem dX12_best_37 : decode cX12_best 37 = .ok (.istore 4, 2) := by decide +kernel
theorem dX12_best_39 : decode cX12_best 39 = .ok (.iload 4, 2) := by decide +kernel
theorem dX12_best_41 : decode cX12_best 41 = .ok (.iload_n 2, 1) := by decide +kernel
theorem dX12_best_42 : decode cX12_best 42 = .ok (.if_icmp .ge 69, 3) := by decide +kernel
theorem dX12_best_45 : decode cX12_best 45 = .ok (.aload_n 0, 1) := by decide +kernel
theorem dX12_best_46 : decode cX12_best 46 = .ok (.iload 4, 2) := by decide +kernel
theorem dX12_best_48 : decode cX12_best 48 = .ok (.invokevirtual 236, 3) := by decide +kernel
theorem dX12_best_51 : decode cX12_best 51 = .ok (.aload_n 0, 1) := by decide +kernel
theorem dX12_best_52 : decode cX12_best 52 = .ok (.aload_n 0, 1) := by decide +kernel
theorem dX12_best_53 : decode cX12_best 53 = .ok (.getfield 162, 3) := by decide +kernel
theorem dX12_best_56 : decode cX12_best 56 = .ok (.invokevirtual 233, 3) := by decide +kernel
theorem dX12_best_59 : decode cX12_best 59 = .ok (.istore 5, 2) := by decide +kernel
theorem dX12_best_61 : decode cX12_best 61 = .ok (.iload 5, 2) := by decide +kernel
theorem dX12_best_63 : decode cX12_best 63 = .ok (.iload_n 3, 1) := by decide +kernel
theorem dX12_best_64 : decode cX12_best 64 = .ok (.if_icmp .gt 6, 3) := by decide +kernel
theorem dX12_best_67 : decode cX12_best 67 = .ok (.goto 38, 3) := by decide +kernel
theorem dX12_best_70 : decode cX12_best 70 = .ok (.iload 5, 2) := by decide +kernel
theorem dX12_best_72 : decode cX12_best 72 = .ok (.istore_n 3, 1) := by decide +kernel
theorem dX12_best_73 : decode cX12_best 73 = .ok (.iconst 0, 1) := by decide +kernel
theorem dX12_best_74 : decode cX12_best 74 = .ok (.istore 6, 2) := by decide +kernel
theorem dX12_best_76 : decode cX12_best 76 = .ok (.iload 6, 2) := by decide +kernel
theorem dX12_best_78 : decode cX12_best 78 = .ok (.aload_n 0, 1) := by decide +kernel
theorem dX12_best_79 : decode cX12_best 79 = .ok (.getfield 162, 3) := by decide +kernel
theorem dX12_best_82 : decode cX12_best 82 = .ok (.if_icmp .ge 23, 3) := by decide +kernel
theorem dX12_best_85 : decode cX12_best 85 = .ok (.aload_n 0, 1) := by decide +kernel
theorem dX12_best_86 : decode cX12_best 86 = .ok (.getfield 70, 3) := by decide +kernel
theorem dX12_best_89 : decode cX12_best 89 = .ok (.iload 6, 2) := by decide +kernel
theorem dX12_best_91 : decode cX12_best 91 = .ok (.aload_n 0, 1) := by decide +kernel
theorem dX12_best_92 : decode cX12_best 92 = .ok (.getfield 67, 3) := by decide +kernel
theorem dX12_best_95 : decode cX12_best 95 = .ok (.iload 6, 2) := by decide +kernel
theorem dX12_best_97 : decode cX12_best 97 = .ok (.iaload, 1) := by decide +kernel
theorem dX12_best_98 : decode cX12_best 98 = .ok (.iastore, 1) := by decide +kernel
theorem dX12_best_99 : decode cX12_best 99 = .ok (.iinc 6 1, 3) := by decide +kernel
theorem dX12_best_102 : decode cX12_best 102 = .ok (.goto (-26), 3) := by decide +kernel
theorem dX12_best_105 : decode cX12_best 105 = .ok (.iinc 4 1, 3) := by decide +kernel
theorem dX12_best_108 : decode cX12_best 108 = .ok (.goto (-69), 3) := by decide +kernel
theorem dX12_best_111 : decode cX12_best 111 = .ok (.iload_n 1, 1) := by decide +kernel
theorem dX12_best_112 : decode cX12_best 112 = .ok (.iconst (-1), 1) := by decide +kernel
theorem dX12_best_113 : decode cX12_best 113 = .ok (.if_icmp .ne 7, 3) := by decide +kernel
theorem dX12_best_116 : decode cX12_best 116 = .ok (.iload_n 3, 1) := by decide +kernel
theorem dX12_best_117 : decode cX12_best 117 = .ok (.goto 22, 3) := by decide +kernel
theorem dX12_best_120 : decode cX12_best 120 = .ok (.iload_n 1, 1) := by decide +kernel
theorem dX12_best_121 : decode cX12_best 121 = .ok (.aload_n 0, 1) := by decide +kernel
theorem dX12_best_122 : decode cX12_best 122 = .ok (.getfield 162, 3) := by decide +kernel
theorem dX12_best_125 : decode cX12_best 125 = .ok (.if_icmp .ge 12, 3) := by decide +kernel
theorem dX12_best_128 : decode cX12_best 128 = .ok (.aload_n 0, 1) := by decide +kernel
theorem dX12_best_129 : decode cX12_best 129 = .ok (.getfield 70, 3) := by decide +kernel
theorem dX12_best_132 : decode cX12_best 132 = .ok (.iload_n 1, 1) := by decide +kernel
theorem dX12_best_133 : decode cX12_best 133 = .ok (.iaload, 1) := by decide +kernel
theorem dX12_best_134 : decode cX12_best 134 = .ok (.goto 5, 3) := by decide +kernel
theorem dX12_best_137 : decode cX12_best 137 = .ok (.bipush (-9), 2) := by decide +kernel
theorem dX12_best_139 : decode cX12_best 139 = .ok (.ireturn, 1) := by decide +kernel
theorem dX12_greedy_0 : decode cX12_greedy 0 = .ok (.aload_n 0, 1) := by decide +kernel
theorem dX12_greedy_1 : decode cX12_greedy 1 = .ok (.invokevirtual 202, 3) := by decide +kernel
theorem dX12_greedy_4 : decode cX12_greedy 4 = .ok (.istore_n 1, 1) := by decide +kernel
theorem dX12_greedy_5 : decode cX12_greedy 5 = .ok (.aload_n 0, 1) := by decide +kernel
theorem dX12_greedy_6 : decode cX12_greedy 6 = .ok (.iconst 1, 1) := by decide +kernel
theorem dX12_greedy_7 : decode cX12_greedy 7 = .ok (.invokevirtual 220, 3) := by decide +kernel
theorem dX12_greedy_10 : decode cX12_greedy 10 = .ok (.iconst 0, 1) := by decide +kernel
theorem dX12_greedy_11 : decode cX12_greedy 11 = .ok (.istore_n 2, 1) := by decide +kernel
theorem dX12_greedy_12 : decode cX12_greedy 12 = .ok (.iconst 0, 1) := by decide +kernel
theorem dX12_greedy_13 : decode cX12_greedy 13 = .ok (.istore_n 3, 1) := by decide +kernel
theorem dX12_greedy_14 : decode cX12_greedy 14 = .ok (.iload_n 3, 1) := by decide +kernel
theorem dX12_greedy_15 : decode cX12_greedy 15 = .ok (.aload_n 0, 1) := by decide +kernel
theorem dX12_greedy_16 : decode cX12_greedy 16 = .ok (.getfield 162, 3) := by decide +kernel
theorem dX12_greedy_19 : decode cX12_greedy 19 = .ok (.if_icmp .ge 116, 3) := by decide +kernel
theorem dX12_greedy_22 : decode cX12_greedy 22 = .ok (.iconst (-1), 1) := by decide +kernel
theorem dX12_greedy_23 : decode cX12_greedy 23 = .ok (.istore 4, 2) := by decide +kernel
theorem dX12_greedy_25 : decode cX12_greedy 25 = .ok (.iconst 0, 1) := by decide +kernel
theorem dX12_greedy_26 : decode cX12_greedy 26 = .ok (.istore 5, 2) := by decide +kernel
theorem dX12_greedy_28 : decode cX12_greedy 28 = .ok (.iconst 0, 1) := by decide +kernel
theorem dX12_greedy_29 : decode cX12_greedy 29 = .ok (.istore 6, 2) := by decide +kernel
theorem dX12_greedy_31 : decode cX12_greedy 31 = .ok (.iload 6, 2) := by decide +kernel
theorem dX12_greedy_33 : decode cX12_greedy 33 = .ok (.aload_n 0, 1) := by decide +kernel
theorem dX12_greedy_34 : decode cX12_greedy 34 = .ok (.getfield 162, 3) := by decide +kernel
theorem dX12_greedy_37 : decode cX12_greedy 37 = .ok (.if_icmp .ge 73, 3) := by decide +kernel
theorem dX12_greedy_40 : decode cX12_greedy 40 = .ok (.iload_n 2, 1) := by decide +kernel
theorem dX12_greedy_41 : decode cX12_greedy 41 = .ok (.iload 6, 2) := by decide +kernel
theorem dX12_greedy_43 : decode cX12_greedy 43 = .ok (.ishr, 1) := by decide +kernel
theorem dX12_greedy_44 : decode cX12_greedy 44 = .ok (.iconst 1, 1) := by decide +kernel
theorem dX12_greedy_45 : decode cX12_greedy 45 = .ok (.iand, 1) := by decide +kernel
theorem dX12_greedy_46 : decode cX12_greedy 46 = .ok (.iconst 1, 1) := by decide +kernel
theorem dX12_greedy_47 : decode cX12_greedy 47 = .ok (.if_icmp .ne 6, 3) := by decide +kernel
theorem dX12_greedy_50 : decode cX12_greedy 50 = .ok (.goto 54, 3) := by decide +kernel
theorem dX12_greedy_53 : decode cX12_greedy 53 = .ok (.aload_n 0, 1) := by decide +kernel
theorem dX12_greedy_54 : decode cX12_greedy 54 = .ok (.iconst 0, 1) := by decide +kernel
theorem dX12_greedy_55 : decode cX12_greedy 55 = .ok (.invokevirtual 220, 3) := by decide +kernel
theorem dX12_greedy_58 : decode cX12_greedy 58 = .ok (.aload_n 0, 1) := by decide +kernel
theorem dX12_greedy_59 : decode cX12_greedy 59 = .ok (.aload_n 0, 1) := by decide +kernel
theorem dX12_greedy_60 : decode cX12_greedy 60 = .ok (.getfield 28, 3) := by decide +kernel
theorem dX12_greedy_63 : decode cX12_greedy 63 = .ok (.iload 6, 2) := by decide +kernel
theorem dX12_greedy_65 : decode cX12_greedy 65 = .ok (.iaload, 1) := by decide +kernel
theorem dX12_greedy_66 : decode cX12_greedy 66 = .ok (.invokevirtual 196, 3) := by decide +kernel
theorem dX12_greedy_69 : decode cX12_greedy 69 = .ok (.pop, 1) := by decide +kernel
theorem dX12_greedy_70 : decode cX12_greedy 70 = .ok (.aload_n 0, 1) := by decide +kernel
theorem dX12_greedy_71 : decode cX12_greedy 71 = .ok (.invokevirtual 202, 3) := by decide +kernel
theorem dX12_greedy_74 : decode cX12_greedy 74 = .ok (.istore 7, 2) := by decide +kernel
theorem dX12_greedy_76 : decode cX12_greedy 76 = .ok (.aload_n 0, 1) := by decide +kernel
theorem dX12_greedy_77 : decode cX12_greedy 77 = .ok (.iconst 0, 1) := by decide +kernel
theorem dX12_greedy_78 : decode cX12_greedy 78 = .ok (.invokevirtual 227, 3) := by decide +kernel
theorem dX12_greedy_81 : decode cX12_greedy 81 = .ok (.iload 4, 2) := by decide +kernel
theorem dX12_greedy_83 : decode cX12_greedy 83 = .ok (.ifCond .lt 13, 3) := by decide +kernel
theorem dX12_greedy_86 : decode cX12_greedy 86 = .ok (.iload 7, 2) := by decide +kernel
theorem dX12_greedy_88 : decode cX12_greedy 88 = .ok (.iload 5, 2) := by decide +kernel
theorem dX12_greedy_90 : decode cX12_greedy 90 = .ok (.if_icmp .lt 6, 3) := by decide +kernel
theorem dX12_greedy_93 : decode cX12_greedy 93 = .ok (.goto 11, 3) := by decide +kernel
theorem dX12_greedy_96 : decode cX12_greedy 96 = .ok (.iload 6, 2) := by decide +kernel
theorem dX12_greedy_98 : decode cX12_greedy 98 = .ok (.istore 4, 2) := by decide +kernel
theorem dX12_greedy_100 : decode cX12_greedy 100 = .ok (.iload 7, 2) := by decide +kernel
theorem dX12_greedy_102 : decode cX12_greedy 102 = .ok (.istore 5, 2) := by decide +kernel
theorem dX12_greedy_104 : decode cX12_greedy 104 = .ok (.iinc 6 1, 3) := by decide +kernel
theorem dX12_greedy_107 : decode cX12_greedy 107 = .ok (.goto (-76), 3) := by decide +kernel
theorem dX12_greedy_110 : decode cX12_greedy 110 = .ok (.aload_n 0, 1) := by decide +kernel
theorem dX12_greedy_111 : decode cX12_greedy 111 = .ok (.aload_n 0, 1) := by decide +kernel
theorem dX12_greedy_112 : decode cX12_greedy 112 = .ok (.getfield 28, 3) := by decide +kernel
theorem dX12_greedy_115 : decode cX12_greedy 115 = .ok (.iload 4, 2) := by decide +kernel
theorem dX12_greedy_117 : decode cX12_greedy 117 = .ok (.iaload, 1) := by decide +kernel
theorem dX12_greedy_118 : decode cX12_greedy 118 = .ok (.invokevirtual 196, 3) := by decide +kernel
theorem dX12_greedy_121 : decode cX12_greedy 121 = .ok (.pop, 1) := by decide +kernel
theorem dX12_greedy_122 : decode cX12_greedy 122 = .ok (.iload_n 2, 1) := by decide +kernel
theorem dX12_greedy_123 : decode cX12_greedy 123 = .ok (.iconst 1, 1) := by decide +kernel
theorem dX12_greedy_124 : decode cX12_greedy 124 = .ok (.iload 4, 2) := by decide +kernel
theorem dX12_greedy_126 : decode cX12_greedy 126 = .ok (.ishl, 1) := by decide +kernel
theorem dX12_greedy_127 : decode cX12_greedy 127 = .ok (.ior, 1) := by decide +kernel
theorem dX12_greedy_128 : decode cX12_greedy 128 = .ok (.istore_n 2, 1) := by decide +kernel
theorem dX12_greedy_129 : decode cX12_greedy 129 = .ok (.iinc 3 1, 3) := by decide +kernel
theorem dX12_greedy_132 : decode cX12_greedy 132 = .ok (.goto (-118), 3) := by decide +kernel
theorem dX12_greedy_135 : decode cX12_greedy 135 = .ok (.aload_n 0, 1) := by decide +kernel
theorem dX12_greedy_136 : decode cX12_greedy 136 = .ok (.invokevirtual 202, 3) := by decide +kernel
theorem dX12_greedy_139 : decode cX12_greedy 139 = .ok (.istore_n 3, 1) := by decide +kernel
theorem dX12_greedy_140 : decode cX12_greedy 140 = .ok (.aload_n 0, 1) := by decide +kernel
theorem dX12_greedy_141 : decode cX12_greedy 141 = .ok (.iconst 1, 1) := by decide +kernel
theorem dX12_greedy_142 : decode cX12_greedy 142 = .ok (.invokevirtual 227, 3) := by decide +kernel
theorem dX12_greedy_145 : decode cX12_greedy 145 = .ok (.iload_n 1, 1) := by decide +kernel
theorem dX12_greedy_146 : decode cX12_greedy 146 = .ok (.iload_n 3, 1) := by decide +kernel
theorem dX12_greedy_147 : decode cX12_greedy 147 = .ok (.isub, 1) := by decide +kernel
theorem dX12_greedy_148 : decode cX12_greedy 148 = .ok (.ireturn, 1) := by decide +kernel
theorem dX12_bits_0 : decode cX12_bits 0 = .ok (.iconst 0, 1) := by decide +kernel
theorem dX12_bits_1 : decode cX12_bits 1 = .ok (.istore_n 1, 1) := by decide +kernel
theorem dX12_bits_2 : decode cX12_bits 2 = .ok (.iconst 0, 1) := by decide +kernel
theorem dX12_bits_3 : decode cX12_bits 3 = .ok (.istore_n 2, 1) := by decide +kernel
theorem dX12_bits_4 : decode cX12_bits 4 = .ok (.iload_n 2, 1) := by decide +kernel
theorem dX12_bits_5 : decode cX12_bits 5 = .ok (.bipush 31, 2) := by decide +kernel
theorem dX12_bits_7 : decode cX12_bits 7 = .ok (.if_icmp .ge 17, 3) := by decide +kernel
theorem dX12_bits_10 : decode cX12_bits 10 = .ok (.iload_n 1, 1) := by decide +kernel
theorem dX12_bits_11 : decode cX12_bits 11 = .ok (.iload_n 0, 1) := by decide +kernel
theorem dX12_bits_12 : decode cX12_bits 12 = .ok (.iload_n 2, 1) := by decide +kernel
theorem dX12_bits_13 : decode cX12_bits 13 = .ok (.ishr, 1) := by decide +kernel
theorem dX12_bits_14 : decode cX12_bits 14 = .ok (.iconst 1, 1) := by decide +kernel
theorem dX12_bits_15 : decode cX12_bits 15 = .ok (.iand, 1) := by decide +kernel
theorem dX12_bits_16 : decode cX12_bits 16 = .ok (.iadd, 1) := by decide +kernel
theorem dX12_bits_17 : decode cX12_bits 17 = .ok (.istore_n 1, 1) := by decide +kernel
theorem dX12_bits_18 : decode cX12_bits 18 = .ok (.iinc 2 1, 3) := by decide +kernel
theorem dX12_bits_21 : decode cX12_bits 21 = .ok (.goto (-17), 3) := by decide +kernel
theorem dX12_bits_24 : decode cX12_bits 24 = .ok (.iload_n 1, 1) := by decide +kernel
theorem dX12_bits_25 : decode cX12_bits 25 = .ok (.ireturn, 1) := by decide +kernel
theorem dX12_forty_0 : decode cX12_forty 0 = .ok (.iload_n 1, 1) := by decide +kernel
theorem dX12_forty_1 : decode cX12_forty 1 = .ok (.invokestatic 193, 3) := by decide +kernel
theorem dX12_forty_4 : decode cX12_forty 4 = .ok (.ifCond .ne 9, 3) := by decide +kernel
theorem dX12_forty_7 : decode cX12_forty 7 = .ok (.aload_n 0, 1) := by decide +kernel
theorem dX12_forty_8 : decode cX12_forty 8 = .ok (.iconst (-1), 1) := by decide +kernel
theorem dX12_forty_9 : decode cX12_forty 9 = .ok (.invokevirtual 98, 3) := by decide +kernel
theorem dX12_forty_12 : decode cX12_forty 12 = .ok (.ireturn, 1) := by decide +kernel
theorem dX12_forty_13 : decode cX12_forty 13 = .ok (.iload_n 2, 1) := by decide +kernel
theorem dX12_forty_14 : decode cX12_forty 14 = .ok (.iconst 0, 1) := by decide +kernel
theorem dX12_forty_15 : decode cX12_forty 15 = .ok (.aload_n 0, 1) := by decide +kernel
theorem dX12_forty_16 : decode cX12_forty 16 = .ok (.getfield 76, 3) := by decide +kernel
theorem dX12_forty_19 : decode cX12_forty 19 = .ok (.invokestatic 91, 3) := by decide +kernel
theorem dX12_forty_22 : decode cX12_forty 22 = .ok (.istore_n 3, 1) := by decide +kernel
theorem dX12_forty_23 : decode cX12_forty 23 = .ok (.iload_n 3, 1) := by decide +kernel
theorem dX12_forty_24 : decode cX12_forty 24 = .ok (.ifCond .eq 9, 3) := by decide +kernel
theorem dX12_forty_27 : decode cX12_forty 27 = .ok (.aload_n 0, 1) := by decide +kernel
theorem dX12_forty_28 : decode cX12_forty 28 = .ok (.iload_n 3, 1) := by decide +kernel
theorem dX12_forty_29 : decode cX12_forty 29 = .ok (.invokevirtual 98, 3) := by decide +kernel
theorem dX12_forty_32 : decode cX12_forty 32 = .ok (.ireturn, 1) := by decide +kernel
theorem dX12_forty_33 : decode cX12_forty 33 = .ok (.aload_n 0, 1) := by decide +kernel
theorem dX12_forty_34 : decode cX12_forty 34 = .ok (.iconst 0, 1) := by decide +kernel
theorem dX12_forty_35 : decode cX12_forty 35 = .ok (.invokevirtual 220, 3) := by decide +kernel
theorem dX12_forty_38 : decode cX12_forty 38 = .ok (.iconst 0, 1) := by decide +kernel
theorem dX12_forty_39 : decode cX12_forty 39 = .ok (.istore 4, 2) := by decide +kernel
theorem dX12_forty_41 : decode cX12_forty 41 = .ok (.iload_n 2, 1) := by decide +kernel
theorem dX12_forty_42 : decode cX12_forty 42 = .ok (.ifCond .ne 7, 3) := by decide +kernel
theorem dX12_forty_45 : decode cX12_forty 45 = .ok (.iconst 0, 1) := by decide +kernel
theorem dX12_forty_46 : decode cX12_forty 46 = .ok (.goto 5, 3) := by decide +kernel
theorem dX12_forty_49 : decode cX12_forty 49 = .ok (.bipush (-9), 2) := by decide +kernel
theorem dX12_forty_51 : decode cX12_forty 51 = .ok (.istore 5, 2) := by decide +kernel
theorem dX12_forty_53 : decode cX12_forty 53 = .ok (.iconst 1, 1) := by decide +kernel
theorem dX12_forty_54 : decode cX12_forty 54 = .ok (.istore 6, 2) := by decide +kernel
theorem dX12_forty_56 : decode cX12_forty 56 = .ok (.iload 6, 2) := by decide +kernel
theorem dX12_forty_58 : decode cX12_forty 58 = .ok (.bipush 40, 2) := by decide +kernel
theorem dX12_forty_60 : decode cX12_forty 60 = .ok (.if_icmp .gt 42, 3) := by decide +kernel
theorem dX12_forty_63 : decode cX12_forty 63 = .ok (.iload 5, 2) := by decide +kernel
theorem dX12_forty_65 : decode cX12_forty 65 = .ok (.ifCond .ge 37, 3) := by decide +kernel
theorem dX12_forty_68 : decode cX12_forty 68 = .ok (.aload_n 0, 1) := by decide +kernel
theorem dX12_forty_69 : decode cX12_forty 69 = .ok (.iload_n 1, 1) := by decide +kernel
theorem dX12_forty_70 : decode cX12_forty 70 = .ok (.invokevirtual 196, 3) := by decide +kernel
theorem dX12_forty_73 : decode cX12_forty 73 = .ok (.pop, 1) := by decide +kernel
theorem dX12_forty_74 : decode cX12_forty 74 = .ok (.iload 4, 2) := by decide +kernel
theorem dX12_forty_76 : decode cX12_forty 76 = .ok (.aload_n 0, 1) := by decide +kernel
theorem dX12_forty_77 : decode cX12_forty 77 = .ok (.getfield 174, 3) := by decide +kernel
theorem dX12_forty_80 : decode cX12_forty 80 = .ok (.ior, 1) := by decide +kernel
theorem dX12_forty_81 : decode cX12_forty 81 = .ok (.istore 4, 2) := by decide +kernel
theorem dX12_forty_83 : decode cX12_forty 83 = .ok (.iload 4, 2) := by decide +kernel
theorem dX12_forty_85 : decode cX12_forty 85 = .ok (.invokestatic 239, 3) := by decide +kernel
theorem dX12_forty_88 : decode cX12_forty 88 = .ok (.iload_n 2, 1) := by decide +kernel
theorem dX12_forty_89 : decode cX12_forty 89 = .ok (.if_icmp .lt 7, 3) := by decide +kernel
theorem dX12_forty_92 : decode cX12_forty 92 = .ok (.iload 6, 2) := by decide +kernel
theorem dX12_forty_94 : decode cX12_forty 94 = .ok (.istore 5, 2) := by decide +kernel
theorem dX12_forty_96 : decode cX12_forty 96 = .ok (.iinc 6 1, 3) := by decide +kernel
theorem dX12_forty_99 : decode cX12_forty 99 = .ok (.goto (-43), 3) := by decide +kernel
theorem dX12_forty_102 : decode cX12_forty 102 = .ok (.aload_n 0, 1) := by decide +kernel
theorem dX12_forty_103 : decode cX12_forty 103 = .ok (.iconst 0, 1) := by decide +kernel
theorem dX12_forty_104 : decode cX12_forty 104 = .ok (.invokevirtual 227, 3) := by decide +kernel
theorem dX12_forty_107 : decode cX12_forty 107 = .ok (.iload 5, 2) := by decide +kernel
theorem dX12_forty_109 : decode cX12_forty 109 = .ok (.ireturn, 1) := by decide +kernel
theorem dX12_going_0 : decode cX12_going 0 = .ok (.iload_n 1, 1) := by decide +kernel
theorem dX12_going_1 : decode cX12_going 1 = .ok (.invokestatic 193, 3) := by decide +kernel
theorem dX12_going_4 : decode cX12_going 4 = .ok (.ifCond .eq 16, 3) := by decide +kernel
theorem dX12_going_7 : decode cX12_going 7 = .ok (.iload_n 2, 1) := by decide +kernel
theorem dX12_going_8 : decode cX12_going 8 = .ok (.iconst (-1), 1) := by decide +kernel
theorem dX12_going_9 : decode cX12_going 9 = .ok (.if_icmp .eq 17, 3) := by decide +kernel
theorem dX12_going_12 : decode cX12_going 12 = .ok (.aload_n 0, 1) := by decide +kernel
theorem dX12_going_13 : decode cX12_going 13 = .ok (.iload_n 2, 1) := by decide +kernel
theorem dX12_going_14 : decode cX12_going 14 = .ok (.invokevirtual 128, 3) := by decide +kernel
theorem dX12_going_17 : decode cX12_going 17 = .ok (.ifCond .ne 9, 3) := by decide +kernel
theorem dX12_going_20 : decode cX12_going 20 = .ok (.aload_n 0, 1) := by decide +kernel
theorem dX12_going_21 : decode cX12_going 21 = .ok (.iconst (-1), 1) := by decide +kernel
theorem dX12_going_22 : decode cX12_going 22 = .ok (.invokevirtual 98, 3) := by decide +kernel
theorem dX12_going_25 : decode cX12_going 25 = .ok (.ireturn, 1) := by decide +kernel
theorem dX12_going_26 : decode cX12_going 26 = .ok (.aload_n 0, 1) := by decide +kernel
theorem dX12_going_27 : decode cX12_going 27 = .ok (.getfield 165, 3) := by decide +kernel
theorem dX12_going_30 : decode cX12_going 30 = .ok (.bipush 6, 2) := by decide +kernel
theorem dX12_going_32 : decode cX12_going 32 = .ok (.if_icmp .ne 10, 3) := by decide +kernel
theorem dX12_going_35 : decode cX12_going 35 = .ok (.aload_n 0, 1) := by decide +kernel
theorem dX12_going_36 : decode cX12_going 36 = .ok (.bipush (-6), 2) := by decide +kernel
theorem dX12_going_38 : decode cX12_going 38 = .ok (.invokevirtual 98, 3) := by decide +kernel
theorem dX12_going_41 : decode cX12_going 41 = .ok (.ireturn, 1) := by decide +kernel
theorem dX12_going_42 : decode cX12_going 42 = .ok (.aload_n 0, 1) := by decide +kernel
theorem dX12_going_43 : decode cX12_going 43 = .ok (.getfield 31, 3) := by decide +kernel
theorem dX12_going_46 : decode cX12_going 46 = .ok (.aload_n 0, 1) := by decide +kernel
theorem dX12_going_47 : decode cX12_going 47 = .ok (.getfield 165, 3) := by decide +kernel
theorem dX12_going_50 : decode cX12_going 50 = .ok (.iload_n 1, 1) := by decide +kernel
theorem dX12_going_51 : decode cX12_going 51 = .ok (.iastore, 1) := by decide +kernel
theorem dX12_going_52 : decode cX12_going 52 = .ok (.aload_n 0, 1) := by decide +kernel
theorem dX12_going_53 : decode cX12_going 53 = .ok (.getfield 34, 3) := by decide +kernel
theorem dX12_going_56 : decode cX12_going 56 = .ok (.aload_n 0, 1) := by decide +kernel
theorem dX12_going_57 : decode cX12_going 57 = .ok (.getfield 165, 3) := by decide +kernel
theorem dX12_going_60 : decode cX12_going 60 = .ok (.iload_n 2, 1) := by decide +kernel
theorem dX12_going_61 : decode cX12_going 61 = .ok (.iconst (-1), 1) := by decide +kernel
theorem dX12_going_62 : decode cX12_going 62 = .ok (.if_icmp .ne 8, 3) := by decide +kernel
theorem dX12_going_65 : decode cX12_going 65 = .ok (.bipush (-9), 2) := by decide +kernel
theorem dX12_going_67 : decode cX12_going 67 = .ok (.goto 4, 3) := by decide +kernel
theorem dX12_going_70 : decode cX12_going 70 = .ok (.iload_n 2, 1) := by decide +kernel
theorem dX12_going_71 : decode cX12_going 71 = .ok (.iastore, 1) := by decide +kernel
theorem dX12_going_72 : decode cX12_going 72 = .ok (.aload_n 0, 1) := by decide +kernel
theorem dX12_going_73 : decode cX12_going 73 = .ok (.dup, 1) := by decide +kernel
theorem dX12_going_74 : decode cX12_going 74 = .ok (.getfield 165, 3) := by decide +kernel
theorem dX12_going_77 : decode cX12_going 77 = .ok (.iconst 1, 1) := by decide +kernel
theorem dX12_going_78 : decode cX12_going 78 = .ok (.iadd, 1) := by decide +kernel
theorem dX12_going_79 : decode cX12_going 79 = .ok (.putfield 165, 3) := by decide +kernel
theorem dX12_going_82 : decode cX12_going 82 = .ok (.aload_n 0, 1) := by decide +kernel
theorem dX12_going_83 : decode cX12_going 83 = .ok (.getfield 165, 3) := by decide +kernel
theorem dX12_going_86 : decode cX12_going 86 = .ok (.ireturn, 1) := by decide +kernel
theorem dX12_isThought_0 : decode cX12_isThought 0 = .ok (.iconst 0, 1) := by decide +kernel
theorem dX12_isThought_1 : decode cX12_isThought 1 = .ok (.istore_n 1, 1) := by decide +kernel
theorem dX12_isThought_2 : decode cX12_isThought 2 = .ok (.iload_n 1, 1) := by decide +kernel
theorem dX12_isThought_3 : decode cX12_isThought 3 = .ok (.aload_n 0, 1) := by decide +kernel
theorem dX12_isThought_4 : decode cX12_isThought 4 = .ok (.getfield 165, 3) := by decide +kernel
theorem dX12_isThought_7 : decode cX12_isThought 7 = .ok (.if_icmp .ge 30, 3) := by decide +kernel
theorem dX12_isThought_10 : decode cX12_isThought 10 = .ok (.aload_n 0, 1) := by decide +kernel
theorem dX12_isThought_11 : decode cX12_isThought 11 = .ok (.aload_n 0, 1) := by decide +kernel
theorem dX12_isThought_12 : decode cX12_isThought 12 = .ok (.getfield 31, 3) := by decide +kernel
theorem dX12_isThought_15 : decode cX12_isThought 15 = .ok (.iload_n 1, 1) := by decide +kernel
theorem dX12_isThought_16 : decode cX12_isThought 16 = .ok (.iaload, 1) := by decide +kernel
theorem dX12_isThought_17 : decode cX12_isThought 17 = .ok (.invokevirtual 183, 3) := by decide +kernel
theorem dX12_isThought_20 : decode cX12_isThought 20 = .ok (.aload_n 0, 1) := by decide +kernel
theorem dX12_isThought_21 : decode cX12_isThought 21 = .ok (.getfield 34, 3) := by decide +kernel
theorem dX12_isThought_24 : decode cX12_isThought 24 = .ok (.iload_n 1, 1) := by decide +kernel
theorem dX12_isThought_25 : decode cX12_isThought 25 = .ok (.iaload, 1) := by decide +kernel
theorem dX12_isThought_26 : decode cX12_isThought 26 = .ok (.if_icmp .eq 5, 3) := by decide +kernel
theorem dX12_isThought_29 : decode cX12_isThought 29 = .ok (.iconst 0, 1) := by decide +kernel
theorem dX12_isThought_30 : decode cX12_isThought 30 = .ok (.ireturn, 1) := by decide +kernel
theorem dX12_isThought_31 : decode cX12_isThought 31 = .ok (.iinc 1 1, 3) := by decide +kernel
theorem dX12_isThought_34 : decode cX12_isThought 34 = .ok (.goto (-32), 3) := by decide +kernel
theorem dX12_isThought_37 : decode cX12_isThought 37 = .ok (.iconst 1, 1) := by decide +kernel
theorem dX12_isThought_38 : decode cX12_isThought 38 = .ok (.ireturn, 1) := by decide +kernel
theorem dX12_fitting_0 : decode cX12_fitting 0 = .ok (.aload_n 0, 1) := by decide +kernel
theorem dX12_fitting_1 : decode cX12_fitting 1 = .ok (.getfield 13, 3) := by decide +kernel
theorem dX12_fitting_4 : decode cX12_fitting 4 = .ok (.iconst 4, 1) := by decide +kernel
theorem dX12_fitting_5 : decode cX12_fitting 5 = .ok (.iload_n 1, 1) := by decide +kernel
theorem dX12_fitting_6 : decode cX12_fitting 6 = .ok (.imul, 1) := by decide +kernel
theorem dX12_fitting_7 : decode cX12_fitting 7 = .ok (.iload_n 2, 1) := by decide +kernel
theorem dX12_fitting_8 : decode cX12_fitting 8 = .ok (.iadd, 1) := by decide +kernel
theorem dX12_fitting_9 : decode cX12_fitting 9 = .ok (.iaload, 1) := by decide +kernel
theorem dX12_fitting_10 : decode cX12_fitting 10 = .ok (.istore_n 3, 1) := by decide +kernel
theorem dX12_fitting_11 : decode cX12_fitting 11 = .ok (.iconst 0, 1) := by decide +kernel
theorem dX12_fitting_12 : decode cX12_fitting 12 = .ok (.istore 4, 2) := by decide +kernel
theorem dX12_fitting_14 : decode cX12_fitting 14 = .ok (.iconst 0, 1) := by decide +kernel
theorem dX12_fitting_15 : decode cX12_fitting 15 = .ok (.istore 5, 2) := by decide +kernel
theorem dX12_fitting_17 : decode cX12_fitting 17 = .ok (.iload 5, 2) := by decide +kernel
theorem dX12_fitting_19 : decode cX12_fitting 19 = .ok (.bipush 30, 2) := by decide +kernel
theorem dX12_fitting_21 : decode cX12_fitting 21 = .ok (.if_icmp .gt 41, 3) := by decide +kernel
theorem dX12_fitting_24 : decode cX12_fitting 24 = .ok (.aload_n 0, 1) := by decide +kernel
theorem dX12_fitting_25 : decode cX12_fitting 25 = .ok (.getfield 13, 3) := by decide +kernel
theorem dX12_fitting_28 : decode cX12_fitting 28 = .ok (.iconst 4, 1) := by decide +kernel
theorem dX12_fitting_29 : decode cX12_fitting 29 = .ok (.iload_n 1, 1) := by decide +kernel
theorem dX12_fitting_30 : decode cX12_fitting 30 = .ok (.imul, 1) := by decide +kernel
theorem dX12_fitting_31 : decode cX12_fitting 31 = .ok (.iload_n 2, 1) := by decide +kernel
theorem dX12_fitting_32 : decode cX12_fitting 32 = .ok (.iadd, 1) := by decide +kernel
theorem dX12_fitting_33 : decode cX12_fitting 33 = .ok (.iload 5, 2) := by decide +kernel
theorem dX12_fitting_35 : decode cX12_fitting 35 = .ok (.iastore, 1) := by decide +kernel
theorem dX12_fitting_36 : decode cX12_fitting 36 = .ok (.iload 4, 2) := by decide +kernel
theorem dX12_fitting_38 : decode cX12_fitting 38 = .ok (.aload_n 0, 1) := by decide +kernel
theorem dX12_fitting_39 : decode cX12_fitting 39 = .ok (.invokevirtual 242, 3) := by decide +kernel
theorem dX12_fitting_42 : decode cX12_fitting 42 = .ok (.ifCond .eq 10, 3) := by decide +kernel
theorem dX12_fitting_45 : decode cX12_fitting 45 = .ok (.iconst 1, 1) := by decide +kernel
theorem dX12_fitting_46 : decode cX12_fitting 46 = .ok (.iload 5, 2) := by decide +kernel
theorem dX12_fitting_48 : decode cX12_fitting 48 = .ok (.ishl, 1) := by decide +kernel
theorem dX12_fitting_49 : decode cX12_fitting 49 = .ok (.goto 4, 3) := by decide +kernel
theorem dX12_fitting_52 : decode cX12_fitting 52 = .ok (.iconst 0, 1) := by decide +kernel
theorem dX12_fitting_53 : decode cX12_fitting 53 = .ok (.ior, 1) := by decide +kernel
theorem dX12_fitting_54 : decode cX12_fitting 54 = .ok (.istore 4, 2) := by decide +kernel
theorem dX12_fitting_56 : decode cX12_fitting 56 = .ok (.iinc 5 1, 3) := by decide +kernel
theorem dX12_fitting_59 : decode cX12_fitting 59 = .ok (.goto (-42), 3) := by decide +kernel
theorem dX12_fitting_62 : decode cX12_fitting 62 = .ok (.aload_n 0, 1) := by decide +kernel
theorem dX12_fitting_63 : decode cX12_fitting 63 = .ok (.getfield 13, 3) := by decide +kernel
theorem dX12_fitting_66 : decode cX12_fitting 66 = .ok (.iconst 4, 1) := by decide +kernel
theorem dX12_fitting_67 : decode cX12_fitting 67 = .ok (.iload_n 1, 1) := by decide +kernel
theorem dX12_fitting_68 : decode cX12_fitting 68 = .ok (.imul, 1) := by decide +kernel
theorem dX12_fitting_69 : decode cX12_fitting 69 = .ok (.iload_n 2, 1) := by decide +kernel
theorem dX12_fitting_70 : decode cX12_fitting 70 = .ok (.iadd, 1) := by decide +kernel
theorem dX12_fitting_71 : decode cX12_fitting 71 = .ok (.iload_n 3, 1) := by decide +kernel
theorem dX12_fitting_72 : decode cX12_fitting 72 = .ok (.iastore, 1) := by decide +kernel
theorem dX12_fitting_73 : decode cX12_fitting 73 = .ok (.iload 4, 2) := by decide +kernel
theorem dX12_fitting_75 : decode cX12_fitting 75 = .ok (.ireturn, 1) := by decide +kernel
theorem dX12_think_0 : decode cX12_think 0 = .ok (.aload_n 0, 1) := by decide +kernel
theorem dX12_think_1 : decode cX12_think 1 = .ok (.iload_n 1, 1) := by decide +kernel
theorem dX12_think_2 : decode cX12_think 2 = .ok (.invokevirtual 128, 3) := by decide +kernel
theorem dX12_think_5 : decode cX12_think 5 = .ok (.ifCond .eq 12, 3) := by decide +kernel
theorem dX12_think_8 : decode cX12_think 8 = .ok (.iload_n 2, 1) := by decide +kernel
theorem dX12_think_9 : decode cX12_think 9 = .ok (.iconst 0, 1) := by decide +kernel
theorem dX12_think_10 : decode cX12_think 10 = .ok (.iconst 3, 1) := by decide +kernel
theorem dX12_think_11 : decode cX12_think 11 = .ok (.invokestatic 83, 3) := by decide +kernel
theorem dX12_think_14 : decode cX12_think 14 = .ok (.ifCond .ne 9, 3) := by decide +kernel
theorem dX12_think_17 : decode cX12_think 17 = .ok (.aload_n 0, 1) := by decide +kernel
theorem dX12_think_18 : decode cX12_think 18 = .ok (.iconst (-1), 1) := by decide +kernel
theorem dX12_think_19 : decode cX12_think 19 = .ok (.invokevirtual 98, 3) := by decide +kernel
theorem dX12_think_22 : decode cX12_think 22 = .ok (.ireturn, 1) := by decide +kernel
theorem dX12_think_23 : decode cX12_think 23 = .ok (.iload_n 3, 1) := by decide +kernel
theorem dX12_think_24 : decode cX12_think 24 = .ok (.iconst 0, 1) := by decide +kernel
theorem dX12_think_25 : decode cX12_think 25 = .ok (.iconst 2, 1) := by decide +kernel
theorem dX12_think_26 : decode cX12_think 26 = .ok (.invokestatic 83, 3) := by decide +kernel
theorem dX12_think_29 : decode cX12_think 29 = .ok (.ifCond .ne 10, 3) := by decide +kernel
theorem dX12_think_32 : decode cX12_think 32 = .ok (.aload_n 0, 1) := by decide +kernel
theorem dX12_think_33 : decode cX12_think 33 = .ok (.bipush (-2), 2) := by decide +kernel
theorem dX12_think_35 : decode cX12_think 35 = .ok (.invokevirtual 98, 3) := by decide +kernel
theorem dX12_think_38 : decode cX12_think 38 = .ok (.ireturn, 1) := by decide +kernel
theorem dX12_think_39 : decode cX12_think 39 = .ok (.aload_n 0, 1) := by decide +kernel
theorem dX12_think_40 : decode cX12_think 40 = .ok (.iload_n 1, 1) := by decide +kernel
theorem dX12_think_41 : decode cX12_think 41 = .ok (.iload_n 2, 1) := by decide +kernel
theorem dX12_think_42 : decode cX12_think 42 = .ok (.invokevirtual 245, 3) := by decide +kernel
theorem dX12_think_45 : decode cX12_think 45 = .ok (.istore 4, 2) := by decide +kernel
theorem dX12_think_47 : decode cX12_think 47 = .ok (.bipush (-9), 2) := by decide +kernel
theorem dX12_think_49 : decode cX12_think 49 = .ok (.istore 5, 2) := by decide +kernel
theorem dX12_think_51 : decode cX12_think 51 = .ok (.iconst 0, 1) := by decide +kernel
theorem dX12_think_52 : decode cX12_think 52 = .ok (.istore 6, 2) := by decide +kernel
theorem dX12_think_54 : decode cX12_think 54 = .ok (.iconst 0, 1) := by decide +kernel
theorem dX12_think_55 : decode cX12_think 55 = .ok (.istore 7, 2) := by decide +kernel
theorem dX12_think_57 : decode cX12_think 57 = .ok (.iload 7, 2) := by decide +kernel
theorem dX12_think_59 : decode cX12_think 59 = .ok (.bipush 30, 2) := by decide +kernel
theorem dX12_think_61 : decode cX12_think 61 = .ok (.if_icmp .gt 39, 3) := by decide +kernel
theorem dX12_think_64 : decode cX12_think 64 = .ok (.iload 4, 2) := by decide +kernel
theorem dX12_think_66 : decode cX12_think 66 = .ok (.iload 7, 2) := by decide +kernel
theorem dX12_think_68 : decode cX12_think 68 = .ok (.ishr, 1) := by decide +kernel
theorem dX12_think_69 : decode cX12_think 69 = .ok (.iconst 1, 1) := by decide +kernel
theorem dX12_think_70 : decode cX12_think 70 = .ok (.iand, 1) := by decide +kernel
theorem dX12_think_71 : decode cX12_think 71 = .ok (.ifCond .ne 6, 3) := by decide +kernel
theorem dX12_think_74 : decode cX12_think 74 = .ok (.goto 20, 3) := by decide +kernel
theorem dX12_think_77 : decode cX12_think 77 = .ok (.iinc 6 1, 3) := by decide +kernel
theorem dX12_think_80 : decode cX12_think 80 = .ok (.iload 5, 2) := by decide +kernel
theorem dX12_think_82 : decode cX12_think 82 = .ok (.ifCond .lt 8, 3) := by decide +kernel
theorem dX12_think_85 : decode cX12_think 85 = .ok (.iload_n 3, 1) := by decide +kernel
theorem dX12_think_86 : decode cX12_think 86 = .ok (.iconst 1, 1) := by decide +kernel
theorem dX12_think_87 : decode cX12_think 87 = .ok (.if_icmp .ne 7, 3) := by decide +kernel
theorem dX12_think_90 : decode cX12_think 90 = .ok (.iload 7, 2) := by decide +kernel
theorem dX12_think_92 : decode cX12_think 92 = .ok (.istore 5, 2) := by decide +kernel
theorem dX12_think_94 : decode cX12_think 94 = .ok (.iinc 7 1, 3) := by decide +kernel
theorem dX12_think_97 : decode cX12_think 97 = .ok (.goto (-40), 3) := by decide +kernel
theorem dX12_think_100 : decode cX12_think 100 = .ok (.iload_n 3, 1) := by decide +kernel
theorem dX12_think_101 : decode cX12_think 101 = .ok (.iconst 2, 1) := by decide +kernel
theorem dX12_think_102 : decode cX12_think 102 = .ok (.if_icmp .ne 8, 3) := by decide +kernel
theorem dX12_think_105 : decode cX12_think 105 = .ok (.iload 6, 2) := by decide +kernel
theorem dX12_think_107 : decode cX12_think 107 = .ok (.goto 5, 3) := by decide +kernel
theorem dX12_think_110 : decode cX12_think 110 = .ok (.iload 5, 2) := by decide +kernel
theorem dX12_think_112 : decode cX12_think 112 = .ok (.ireturn, 1) := by decide +kernel
theorem dX12_tell_0 : decode cX12_tell 0 = .ok (.aload_n 0, 1) := by decide +kernel
theorem dX12_tell_1 : decode cX12_tell 1 = .ok (.iload_n 1, 1) := by decide +kernel
theorem dX12_tell_2 : decode cX12_tell 2 = .ok (.invokevirtual 128, 3) := by decide +kernel
theorem dX12_tell_5 : decode cX12_tell 5 = .ok (.ifCond .eq 12, 3) := by decide +kernel
theorem dX12_tell_8 : decode cX12_tell 8 = .ok (.iload_n 2, 1) := by decide +kernel
theorem dX12_tell_9 : decode cX12_tell 9 = .ok (.iconst 0, 1) := by decide +kernel
theorem dX12_tell_10 : decode cX12_tell 10 = .ok (.iconst 3, 1) := by decide +kernel
theorem dX12_tell_11 : decode cX12_tell 11 = .ok (.invokestatic 83, 3) := by decide +kernel
theorem dX12_tell_14 : decode cX12_tell 14 = .ok (.ifCond .ne 9, 3) := by decide +kernel
theorem dX12_tell_17 : decode cX12_tell 17 = .ok (.aload_n 0, 1) := by decide +kernel
theorem dX12_tell_18 : decode cX12_tell 18 = .ok (.iconst (-1), 1) := by decide +kernel
theorem dX12_tell_19 : decode cX12_tell 19 = .ok (.invokevirtual 98, 3) := by decide +kernel
theorem dX12_tell_22 : decode cX12_tell 22 = .ok (.ireturn, 1) := by decide +kernel
theorem dX12_tell_23 : decode cX12_tell 23 = .ok (.aload_n 0, 1) := by decide +kernel
theorem dX12_tell_24 : decode cX12_tell 24 = .ok (.iload_n 1, 1) := by decide +kernel
theorem dX12_tell_25 : decode cX12_tell 25 = .ok (.iload_n 2, 1) := by decide +kernel
theorem dX12_tell_26 : decode cX12_tell 26 = .ok (.invokevirtual 245, 3) := by decide +kernel
theorem dX12_tell_29 : decode cX12_tell 29 = .ok (.istore_n 3, 1) := by decide +kernel
theorem dX12_tell_30 : decode cX12_tell 30 = .ok (.iload_n 3, 1) := by decide +kernel
theorem dX12_tell_31 : decode cX12_tell 31 = .ok (.ifCond .ne 10, 3) := by decide +kernel
theorem dX12_tell_34 : decode cX12_tell 34 = .ok (.aload_n 0, 1) := by decide +kernel
theorem dX12_tell_35 : decode cX12_tell 35 = .ok (.bipush (-3), 2) := by decide +kernel
theorem dX12_tell_37 : decode cX12_tell 37 = .ok (.invokevirtual 98, 3) := by decide +kernel
theorem dX12_tell_40 : decode cX12_tell 40 = .ok (.ireturn, 1) := by decide +kernel
theorem dX12_tell_41 : decode cX12_tell 41 = .ok (.aload_n 0, 1) := by decide +kernel
theorem dX12_tell_42 : decode cX12_tell 42 = .ok (.getfield 13, 3) := by decide +kernel
theorem dX12_tell_45 : decode cX12_tell 45 = .ok (.iconst 4, 1) := by decide +kernel
theorem dX12_tell_46 : decode cX12_tell 46 = .ok (.iload_n 1, 1) := by decide +kernel
theorem dX12_tell_47 : decode cX12_tell 47 = .ok (.imul, 1) := by decide +kernel
theorem dX12_tell_48 : decode cX12_tell 48 = .ok (.iload_n 2, 1) := by decide +kernel
theorem dX12_tell_49 : decode cX12_tell 49 = .ok (.iadd, 1) := by decide +kernel
theorem dX12_tell_50 : decode cX12_tell 50 = .ok (.iaload, 1) := by decide +kernel
theorem dX12_tell_51 : decode cX12_tell 51 = .ok (.istore 4, 2) := by decide +kernel
theorem dX12_tell_53 : decode cX12_tell 53 = .ok (.iconst 0, 1) := by decide +kernel
theorem dX12_tell_54 : decode cX12_tell 54 = .ok (.istore 5, 2) := by decide +kernel
theorem dX12_tell_56 : decode cX12_tell 56 = .ok (.iconst (-1), 1) := by decide +kernel
theorem dX12_tell_57 : decode cX12_tell 57 = .ok (.istore 6, 2) := by decide +kernel
theorem dX12_tell_59 : decode cX12_tell 59 = .ok (.iconst 0, 1) := by decide +kernel
theorem dX12_tell_60 : decode cX12_tell 60 = .ok (.istore 7, 2) := by decide +kernel
theorem dX12_tell_62 : decode cX12_tell 62 = .ok (.iload 7, 2) := by decide +kernel
theorem dX12_tell_64 : decode cX12_tell 64 = .ok (.bipush 81, 2) := by decide +kernel
theorem dX12_tell_66 : decode cX12_tell 66 = .ok (.if_icmp .ge 109, 3) := by decide +kernel
theorem dX12_tell_69 : decode cX12_tell 69 = .ok (.iconst 0, 1) := by decide +kernel
theorem dX12_tell_70 : decode cX12_tell 70 = .ok (.istore 8, 2) := by decide +kernel
theorem dX12_tell_72 : decode cX12_tell 72 = .ok (.iconst 0, 1) := by decide +kernel
theorem dX12_tell_73 : decode cX12_tell 73 = .ok (.istore 9, 2) := by decide +kernel
theorem dX12_tell_75 : decode cX12_tell 75 = .ok (.iload 9, 2) := by decide +kernel
theorem dX12_tell_77 : decode cX12_tell 77 = .ok (.bipush 30, 2) := by decide +kernel
theorem dX12_tell_79 : decode cX12_tell 79 = .ok (.if_icmp .gt 63, 3) := by decide +kernel
theorem dX12_tell_82 : decode cX12_tell 82 = .ok (.iload_n 3, 1) := by decide +kernel
theorem dX12_tell_83 : decode cX12_tell 83 = .ok (.iload 9, 2) := by decide +kernel
theorem dX12_tell_85 : decode cX12_tell 85 = .ok (.ishr, 1) := by decide +kernel
theorem dX12_tell_86 : decode cX12_tell 86 = .ok (.iconst 1, 1) := by decide +kernel
theorem dX12_tell_87 : decode cX12_tell 87 = .ok (.iand, 1) := by decide +kernel
theorem dX12_tell_88 : decode cX12_tell 88 = .ok (.ifCond .ne 6, 3) := by decide +kernel
theorem dX12_tell_91 : decode cX12_tell 91 = .ok (.goto 45, 3) := by decide +kernel
theorem dX12_tell_94 : decode cX12_tell 94 = .ok (.aload_n 0, 1) := by decide +kernel
theorem dX12_tell_95 : decode cX12_tell 95 = .ok (.getfield 13, 3) := by decide +kernel
theorem dX12_tell_98 : decode cX12_tell 98 = .ok (.iconst 4, 1) := by decide +kernel
theorem dX12_tell_99 : decode cX12_tell 99 = .ok (.iload_n 1, 1) := by decide +kernel
theorem dX12_tell_100 : decode cX12_tell 100 = .ok (.imul, 1) := by decide +kernel
theorem dX12_tell_101 : decode cX12_tell 101 = .ok (.iload_n 2, 1) := by decide +kernel
theorem dX12_tell_102 : decode cX12_tell 102 = .ok (.iadd, 1) := by decide +kernel
theorem dX12_tell_103 : decode cX12_tell 103 = .ok (.iload 9, 2) := by decide +kernel
theorem dX12_tell_105 : decode cX12_tell 105 = .ok (.iastore, 1) := by decide +kernel
theorem dX12_tell_106 : decode cX12_tell 106 = .ok (.aload_n 0, 1) := by decide +kernel
theorem dX12_tell_107 : decode cX12_tell 107 = .ok (.iload 7, 2) := by decide +kernel
theorem dX12_tell_109 : decode cX12_tell 109 = .ok (.invokestatic 205, 3) := by decide +kernel
theorem dX12_tell_112 : decode cX12_tell 112 = .ok (.invokevirtual 183, 3) := by decide +kernel
theorem dX12_tell_115 : decode cX12_tell 115 = .ok (.istore 10, 2) := by decide +kernel
theorem dX12_tell_117 : decode cX12_tell 117 = .ok (.iload 8, 2) := by decide +kernel
theorem dX12_tell_119 : decode cX12_tell 119 = .ok (.iload 10, 2) := by decide +kernel
theorem dX12_tell_121 : decode cX12_tell 121 = .ok (.ifCond .ge 8, 3) := by decide +kernel
theorem dX12_tell_124 : decode cX12_tell 124 = .ok (.bipush 64, 2) := by decide +kernel
theorem dX12_tell_126 : decode cX12_tell 126 = .ok (.goto 7, 3) := by decide +kernel
theorem dX12_tell_129 : decode cX12_tell 129 = .ok (.iconst 1, 1) := by decide +kernel
theorem dX12_tell_130 : decode cX12_tell 130 = .ok (.iload 10, 2) := by decide +kernel
theorem dX12_tell_132 : decode cX12_tell 132 = .ok (.ishl, 1) := by decide +kernel
theorem dX12_tell_133 : decode cX12_tell 133 = .ok (.ior, 1) := by decide +kernel
theorem dX12_tell_134 : decode cX12_tell 134 = .ok (.istore 8, 2) := by decide +kernel
theorem dX12_tell_136 : decode cX12_tell 136 = .ok (.iinc 9 1, 3) := by decide +kernel
theorem dX12_tell_139 : decode cX12_tell 139 = .ok (.goto (-64), 3) := by decide +kernel
theorem dX12_tell_142 : decode cX12_tell 142 = .ok (.iload 8, 2) := by decide +kernel
theorem dX12_tell_144 : decode cX12_tell 144 = .ok (.invokestatic 239, 3) := by decide +kernel
theorem dX12_tell_147 : decode cX12_tell 147 = .ok (.iload 6, 2) := by decide +kernel
theorem dX12_tell_149 : decode cX12_tell 149 = .ok (.if_icmp .gt 6, 3) := by decide +kernel
theorem dX12_tell_152 : decode cX12_tell 152 = .ok (.goto 17, 3) := by decide +kernel
theorem dX12_tell_155 : decode cX12_tell 155 = .ok (.iload 8, 2) := by decide +kernel
theorem dX12_tell_157 : decode cX12_tell 157 = .ok (.invokestatic 239, 3) := by decide +kernel
theorem dX12_tell_160 : decode cX12_tell 160 = .ok (.istore 6, 2) := by decide +kernel
theorem dX12_tell_162 : decode cX12_tell 162 = .ok (.iload 7, 2) := by decide +kernel
theorem dX12_tell_164 : decode cX12_tell 164 = .ok (.invokestatic 205, 3) := by decide +kernel
theorem dX12_tell_167 : decode cX12_tell 167 = .ok (.istore 5, 2) := by decide +kernel
theorem dX12_tell_169 : decode cX12_tell 169 = .ok (.iinc 7 1, 3) := by decide +kernel
theorem dX12_tell_172 : decode cX12_tell 172 = .ok (.goto (-110), 3) := by decide +kernel
theorem dX12_tell_175 : decode cX12_tell 175 = .ok (.aload_n 0, 1) := by decide +kernel
theorem dX12_tell_176 : decode cX12_tell 176 = .ok (.getfield 13, 3) := by decide +kernel
theorem dX12_tell_179 : decode cX12_tell 179 = .ok (.iconst 4, 1) := by decide +kernel
theorem dX12_tell_180 : decode cX12_tell 180 = .ok (.iload_n 1, 1) := by decide +kernel
theorem dX12_tell_181 : decode cX12_tell 181 = .ok (.imul, 1) := by decide +kernel
theorem dX12_tell_182 : decode cX12_tell 182 = .ok (.iload_n 2, 1) := by decide +kernel
theorem dX12_tell_183 : decode cX12_tell 183 = .ok (.iadd, 1) := by decide +kernel
theorem dX12_tell_184 : decode cX12_tell 184 = .ok (.iload 4, 2) := by decide +kernel
theorem dX12_tell_186 : decode cX12_tell 186 = .ok (.iastore, 1) := by decide +kernel
theorem dX12_tell_187 : decode cX12_tell 187 = .ok (.iload 5, 2) := by decide +kernel
theorem dX12_tell_189 : decode cX12_tell 189 = .ok (.ireturn, 1) := by decide +kernel
theorem dX12_laws_0 : decode cX12_laws 0 = .ok (.aload_n 0, 1) := by decide +kernel
theorem dX12_laws_1 : decode cX12_laws 1 = .ok (.iload_n 1, 1) := by decide +kernel
theorem dX12_laws_2 : decode cX12_laws 2 = .ok (.invokevirtual 128, 3) := by decide +kernel
theorem dX12_laws_5 : decode cX12_laws 5 = .ok (.ifCond .ne 9, 3) := by decide +kernel
theorem dX12_laws_8 : decode cX12_laws 8 = .ok (.aload_n 0, 1) := by decide +kernel
theorem dX12_laws_9 : decode cX12_laws 9 = .ok (.iconst (-1), 1) := by decide +kernel
theorem dX12_laws_10 : decode cX12_laws 10 = .ok (.invokevirtual 98, 3) := by decide +kernel
theorem dX12_laws_13 : decode cX12_laws 13 = .ok (.ireturn, 1) := by decide +kernel
theorem dX12_laws_14 : decode cX12_laws 14 = .ok (.aload_n 0, 1) := by decide +kernel
theorem dX12_laws_15 : decode cX12_laws 15 = .ok (.getfield 156, 3) := by decide +kernel
theorem dX12_laws_18 : decode cX12_laws 18 = .ok (.istore_n 2, 1) := by decide +kernel
theorem dX12_laws_19 : decode cX12_laws 19 = .ok (.iconst 0, 1) := by decide +kernel
theorem dX12_laws_20 : decode cX12_laws 20 = .ok (.istore_n 3, 1) := by decide +kernel
theorem dX12_laws_21 : decode cX12_laws 21 = .ok (.iconst 0, 1) := by decide +kernel
theorem dX12_laws_22 : decode cX12_laws 22 = .ok (.istore 4, 2) := by decide +kernel
theorem dX12_laws_24 : decode cX12_laws 24 = .ok (.iload 4, 2) := by decide +kernel
theorem dX12_laws_26 : decode cX12_laws 26 = .ok (.iconst 5, 1) := by decide +kernel
theorem dX12_laws_27 : decode cX12_laws 27 = .ok (.if_icmp .ge 34, 3) := by decide +kernel
theorem dX12_laws_30 : decode cX12_laws 30 = .ok (.aload_n 0, 1) := by decide +kernel
theorem dX12_laws_31 : decode cX12_laws 31 = .ok (.iload 4, 2) := by decide +kernel
theorem dX12_laws_33 : decode cX12_laws 33 = .ok (.putfield 156, 3) := by decide +kernel
theorem dX12_laws_36 : decode cX12_laws 36 = .ok (.iload_n 3, 1) := by decide +kernel
theorem dX12_laws_37 : decode cX12_laws 37 = .ok (.aload_n 0, 1) := by decide +kernel
theorem dX12_laws_38 : decode cX12_laws 38 = .ok (.iload_n 1, 1) := by decide +kernel
theorem dX12_laws_39 : decode cX12_laws 39 = .ok (.invokevirtual 217, 3) := by decide +kernel
theorem dX12_laws_42 : decode cX12_laws 42 = .ok (.ifCond .eq 10, 3) := by decide +kernel
theorem dX12_laws_45 : decode cX12_laws 45 = .ok (.iconst 1, 1) := by decide +kernel
theorem dX12_laws_46 : decode cX12_laws 46 = .ok (.iload 4, 2) := by decide +kernel
theorem dX12_laws_48 : decode cX12_laws 48 = .ok (.ishl, 1) := by decide +kernel
theorem dX12_laws_49 : decode cX12_laws 49 = .ok (.goto 4, 3) := by decide +kernel
theorem dX12_laws_52 : decode cX12_laws 52 = .ok (.iconst 0, 1) := by decide +kernel
theorem dX12_laws_53 : decode cX12_laws 53 = .ok (.ior, 1) := by decide +kernel
theorem dX12_laws_54 : decode cX12_laws 54 = .ok (.istore_n 3, 1) := by decide +kernel
theorem dX12_laws_55 : decode cX12_laws 55 = .ok (.iinc 4 1, 3) := by decide +kernel
theorem dX12_laws_58 : decode cX12_laws 58 = .ok (.goto (-34), 3) := by decide +kernel
theorem dX12_laws_61 : decode cX12_laws 61 = .ok (.aload_n 0, 1) := by decide +kernel
theorem dX12_laws_62 : decode cX12_laws 62 = .ok (.iload_n 2, 1) := by decide +kernel
theorem dX12_laws_63 : decode cX12_laws 63 = .ok (.putfield 156, 3) := by decide +kernel
theorem dX12_laws_66 : decode cX12_laws 66 = .ok (.iload_n 3, 1) := by decide +kernel
theorem dX12_laws_67 : decode cX12_laws 67 = .ok (.ireturn, 1) := by decide +kernel
theorem dX12_chanceOf_0 : decode cX12_chanceOf 0 = .ok (.aload_n 0, 1) := by decide +kernel
theorem dX12_chanceOf_1 : decode cX12_chanceOf 1 = .ok (.iconst 0, 1) := by decide +kernel
theorem dX12_chanceOf_2 : decode cX12_chanceOf 2 = .ok (.putfield 174, 3) := by decide +kernel
theorem dX12_chanceOf_5 : decode cX12_chanceOf 5 = .ok (.aload_n 0, 1) := by decide +kernel
theorem dX12_chanceOf_6 : decode cX12_chanceOf 6 = .ok (.iload_n 2, 1) := by decide +kernel
theorem dX12_chanceOf_7 : decode cX12_chanceOf 7 = .ok (.iconst (-1), 1) := by decide +kernel
theorem dX12_chanceOf_8 : decode cX12_chanceOf 8 = .ok (.invokevirtual 180, 3) := by decide +kernel
theorem dX12_chanceOf_11 : decode cX12_chanceOf 11 = .ok (.istore_n 3, 1) := by decide +kernel
theorem dX12_chanceOf_12 : decode cX12_chanceOf 12 = .ok (.iload_n 3, 1) := by decide +kernel
theorem dX12_chanceOf_13 : decode cX12_chanceOf 13 = .ok (.ifCond .ge 5, 3) := by decide +kernel
theorem dX12_chanceOf_16 : decode cX12_chanceOf 16 = .ok (.iconst 0, 1) := by decide +kernel
theorem dX12_chanceOf_17 : decode cX12_chanceOf 17 = .ok (.ireturn, 1) := by decide +kernel
theorem dX12_chanceOf_18 : decode cX12_chanceOf 18 = .ok (.aload_n 0, 1) := by decide +kernel
theorem dX12_chanceOf_19 : decode cX12_chanceOf 19 = .ok (.iload_n 2, 1) := by decide +kernel
theorem dX12_chanceOf_20 : decode cX12_chanceOf 20 = .ok (.iload_n 3, 1) := by decide +kernel
theorem dX12_chanceOf_21 : decode cX12_chanceOf 21 = .ok (.invokevirtual 180, 3) := by decide +kernel
theorem dX12_chanceOf_24 : decode cX12_chanceOf 24 = .ok (.istore 4, 2) := by decide +kernel
theorem dX12_chanceOf_26 : decode cX12_chanceOf 26 = .ok (.iload 4, 2) := by decide +kernel
theorem dX12_chanceOf_28 : decode cX12_chanceOf 28 = .ok (.ifCond .ge 15, 3) := by decide +kernel
theorem dX12_chanceOf_31 : decode cX12_chanceOf 31 = .ok (.iload_n 1, 1) := by decide +kernel
theorem dX12_chanceOf_32 : decode cX12_chanceOf 32 = .ok (.iload_n 3, 1) := by decide +kernel
theorem dX12_chanceOf_33 : decode cX12_chanceOf 33 = .ok (.if_icmp .ne 8, 3) := by decide +kernel
theorem dX12_chanceOf_36 : decode cX12_chanceOf 36 = .ok (.bipush 100, 2) := by decide +kernel
theorem dX12_chanceOf_38 : decode cX12_chanceOf 38 = .ok (.goto 4, 3) := by decide +kernel
theorem dX12_chanceOf_41 : decode cX12_chanceOf 41 = .ok (.iconst 0, 1) := by decide +kernel
theorem dX12_chanceOf_42 : decode cX12_chanceOf 42 = .ok (.ireturn, 1) := by decide +kernel
theorem dX12_chanceOf_43 : decode cX12_chanceOf 43 = .ok (.aload_n 0, 1) := by decide +kernel
theorem dX12_chanceOf_44 : decode cX12_chanceOf 44 = .ok (.getfield 156, 3) := by decide +kernel
theorem dX12_chanceOf_47 : decode cX12_chanceOf 47 = .ok (.iconst 3, 1) := by decide +kernel
theorem dX12_chanceOf_48 : decode cX12_chanceOf 48 = .ok (.if_icmp .ne 10, 3) := by decide +kernel
theorem dX12_chanceOf_51 : decode cX12_chanceOf 51 = .ok (.aload_n 0, 1) := by decide +kernel
theorem dX12_chanceOf_52 : decode cX12_chanceOf 52 = .ok (.getfield 159, 3) := by decide +kernel
theorem dX12_chanceOf_55 : decode cX12_chanceOf 55 = .ok (.goto 10, 3) := by decide +kernel
theorem dX12_chanceOf_58 : decode cX12_chanceOf 58 = .ok (.bipush 100, 2) := by decide +kernel
theorem dX12_chanceOf_60 : decode cX12_chanceOf 60 = .ok (.aload_n 0, 1) := by decide +kernel
theorem dX12_chanceOf_61 : decode cX12_chanceOf 61 = .ok (.getfield 159, 3) := by decide +kernel
theorem dX12_chanceOf_64 : decode cX12_chanceOf 64 = .ok (.isub, 1) := by decide +kernel
theorem dX12_chanceOf_65 : decode cX12_chanceOf 65 = .ok (.istore 5, 2) := by decide +kernel
theorem dX12_chanceOf_67 : decode cX12_chanceOf 67 = .ok (.iload_n 1, 1) := by decide +kernel
theorem dX12_chanceOf_68 : decode cX12_chanceOf 68 = .ok (.iload_n 3, 1) := by decide +kernel
theorem dX12_chanceOf_69 : decode cX12_chanceOf 69 = .ok (.if_icmp .ne 8, 3) := by decide +kernel
theorem dX12_chanceOf_72 : decode cX12_chanceOf 72 = .ok (.iload 5, 2) := by decide +kernel
theorem dX12_chanceOf_74 : decode cX12_chanceOf 74 = .ok (.goto 18, 3) := by decide +kernel
theorem dX12_chanceOf_77 : decode cX12_chanceOf 77 = .ok (.iload_n 1, 1) := by decide +kernel
theorem dX12_chanceOf_78 : decode cX12_chanceOf 78 = .ok (.iload 4, 2) := by decide +kernel
theorem dX12_chanceOf_80 : decode cX12_chanceOf 80 = .ok (.if_icmp .ne 11, 3) := by decide +kernel
theorem dX12_chanceOf_83 : decode cX12_chanceOf 83 = .ok (.bipush 100, 2) := by decide +kernel
theorem dX12_chanceOf_85 : decode cX12_chanceOf 85 = .ok (.iload 5, 2) := by decide +kernel
theorem dX12_chanceOf_87 : decode cX12_chanceOf 87 = .ok (.isub, 1) := by decide +kernel
theorem dX12_chanceOf_88 : decode cX12_chanceOf 88 = .ok (.goto 4, 3) := by decide +kernel
theorem dX12_chanceOf_91 : decode cX12_chanceOf 91 = .ok (.iconst 0, 1) := by decide +kernel
theorem dX12_chanceOf_92 : decode cX12_chanceOf 92 = .ok (.ireturn, 1) := by decide +kernel
theorem dX12_divisor_0 : decode cX12_divisor 0 = .ok (.iload_n 0, 1) := by decide +kernel
theorem dX12_divisor_1 : decode cX12_divisor 1 = .ok (.istore_n 2, 1) := by decide +kernel
theorem dX12_divisor_2 : decode cX12_divisor 2 = .ok (.iload_n 1, 1) := by decide +kernel
theorem dX12_divisor_3 : decode cX12_divisor 3 = .ok (.istore_n 3, 1) := by decide +kernel
theorem dX12_divisor_4 : decode cX12_divisor 4 = .ok (.iload_n 3, 1) := by decide +kernel
theorem dX12_divisor_5 : decode cX12_divisor 5 = .ok (.ifCond .eq 16, 3) := by decide +kernel
theorem dX12_divisor_8 : decode cX12_divisor 8 = .ok (.iload_n 2, 1) := by decide +kernel
theorem dX12_divisor_9 : decode cX12_divisor 9 = .ok (.iload_n 3, 1) := by decide +kernel
theorem dX12_divisor_10 : decode cX12_divisor 10 = .ok (.irem, 1) := by decide +kernel
theorem dX12_divisor_11 : decode cX12_divisor 11 = .ok (.istore 4, 2) := by decide +kernel
theorem dX12_divisor_13 : decode cX12_divisor 13 = .ok (.iload_n 3, 1) := by decide +kernel
theorem dX12_divisor_14 : decode cX12_divisor 14 = .ok (.istore_n 2, 1) := by decide +kernel
theorem dX12_divisor_15 : decode cX12_divisor 15 = .ok (.iload 4, 2) := by decide +kernel
theorem dX12_divisor_17 : decode cX12_divisor 17 = .ok (.istore_n 3, 1) := by decide +kernel
theorem dX12_divisor_18 : decode cX12_divisor 18 = .ok (.goto (-14), 3) := by decide +kernel
theorem dX12_divisor_21 : decode cX12_divisor 21 = .ok (.iload_n 2, 1) := by decide +kernel
theorem dX12_divisor_22 : decode cX12_divisor 22 = .ok (.ireturn, 1) := by decide +kernel
theorem dX12_eye_0 : decode cX12_eye 0 = .ok (.aload_n 0, 1) := by decide +kernel
theorem dX12_eye_1 : decode cX12_eye 1 = .ok (.iload_n 1, 1) := by decide +kernel
theorem dX12_eye_2 : decode cX12_eye 2 = .ok (.invokevirtual 128, 3) := by decide +kernel
theorem dX12_eye_5 : decode cX12_eye 5 = .ok (.ifCond .eq 10, 3) := by decide +kernel
theorem dX12_eye_8 : decode cX12_eye 8 = .ok (.iload_n 2, 1) := by decide +kernel
theorem dX12_eye_9 : decode cX12_eye 9 = .ok (.invokestatic 193, 3) := by decide +kernel
theorem dX12_eye_12 : decode cX12_eye 12 = .ok (.ifCond .ne 9, 3) := by decide +kernel
theorem dX12_eye_15 : decode cX12_eye 15 = .ok (.aload_n 0, 1) := by decide +kernel
theorem dX12_eye_16 : decode cX12_eye 16 = .ok (.iconst (-1), 1) := by decide +kernel
theorem dX12_eye_17 : decode cX12_eye 17 = .ok (.invokevirtual 98, 3) := by decide +kernel
theorem dX12_eye_20 : decode cX12_eye 20 = .ok (.ireturn, 1) := by decide +kernel
theorem dX12_eye_21 : decode cX12_eye 21 = .ok (.iload_n 3, 1) := by decide +kernel
theorem dX12_eye_22 : decode cX12_eye 22 = .ok (.iconst 0, 1) := by decide +kernel
theorem dX12_eye_23 : decode cX12_eye 23 = .ok (.iconst 1, 1) := by decide +kernel
theorem dX12_eye_24 : decode cX12_eye 24 = .ok (.invokestatic 83, 3) := by decide +kernel
theorem dX12_eye_27 : decode cX12_eye 27 = .ok (.ifCond .ne 10, 3) := by decide +kernel
theorem dX12_eye_30 : decode cX12_eye 30 = .ok (.aload_n 0, 1) := by decide +kernel
theorem dX12_eye_31 : decode cX12_eye 31 = .ok (.bipush (-2), 2) := by decide +kernel
theorem dX12_eye_33 : decode cX12_eye 33 = .ok (.invokevirtual 98, 3) := by decide +kernel
theorem dX12_eye_36 : decode cX12_eye 36 = .ok (.ireturn, 1) := by decide +kernel
theorem dX12_eye_37 : decode cX12_eye 37 = .ok (.aload_n 0, 1) := by decide +kernel
theorem dX12_eye_38 : decode cX12_eye 38 = .ok (.iload_n 1, 1) := by decide +kernel
theorem dX12_eye_39 : decode cX12_eye 39 = .ok (.iload_n 2, 1) := by decide +kernel
theorem dX12_eye_40 : decode cX12_eye 40 = .ok (.invokevirtual 248, 3) := by decide +kernel
theorem dX12_eye_43 : decode cX12_eye 43 = .ok (.istore 4, 2) := by decide +kernel
theorem dX12_eye_45 : decode cX12_eye 45 = .ok (.iload_n 3, 1) := by decide +kernel
theorem dX12_eye_46 : decode cX12_eye 46 = .ok (.ifCond .ne 8, 3) := by decide +kernel
theorem dX12_eye_49 : decode cX12_eye 49 = .ok (.iload 4, 2) := by decide +kernel
theorem dX12_eye_51 : decode cX12_eye 51 = .ok (.goto 5, 3) := by decide +kernel
theorem dX12_eye_54 : decode cX12_eye 54 = .ok (.bipush 100, 2) := by decide +kernel
theorem dX12_eye_56 : decode cX12_eye 56 = .ok (.iload 4, 2) := by decide +kernel
theorem dX12_eye_58 : decode cX12_eye 58 = .ok (.bipush 100, 2) := by decide +kernel
theorem dX12_eye_60 : decode cX12_eye 60 = .ok (.invokestatic 251, 3) := by decide +kernel
theorem dX12_eye_63 : decode cX12_eye 63 = .ok (.idiv, 1) := by decide +kernel
theorem dX12_eye_64 : decode cX12_eye 64 = .ok (.ireturn, 1) := by decide +kernel
theorem dX12_surest_0 : decode cX12_surest 0 = .ok (.aload_n 0, 1) := by decide +kernel
theorem dX12_surest_1 : decode cX12_surest 1 = .ok (.iload_n 1, 1) := by decide +kernel
theorem dX12_surest_2 : decode cX12_surest 2 = .ok (.invokevirtual 128, 3) := by decide +kernel
theorem dX12_surest_5 : decode cX12_surest 5 = .ok (.ifCond .ne 9, 3) := by decide +kernel
theorem dX12_surest_8 : decode cX12_surest 8 = .ok (.aload_n 0, 1) := by decide +kernel
theorem dX12_surest_9 : decode cX12_surest 9 = .ok (.iconst (-1), 1) := by decide +kernel
theorem dX12_surest_10 : decode cX12_surest 10 = .ok (.invokevirtual 98, 3) := by decide +kernel
theorem dX12_surest_13 : decode cX12_surest 13 = .ok (.ireturn, 1) := by decide +kernel
theorem dX12_surest_14 : decode cX12_surest 14 = .ok (.bipush (-9), 2) := by decide +kernel
theorem dX12_surest_16 : decode cX12_surest 16 = .ok (.istore_n 2, 1) := by decide +kernel
theorem dX12_surest_17 : decode cX12_surest 17 = .ok (.iconst 0, 1) := by decide +kernel
theorem dX12_surest_18 : decode cX12_surest 18 = .ok (.istore_n 3, 1) := by decide +kernel
theorem dX12_surest_19 : decode cX12_surest 19 = .ok (.iconst 0, 1) := by decide +kernel
theorem dX12_surest_20 : decode cX12_surest 20 = .ok (.istore 4, 2) := by decide +kernel
theorem dX12_surest_22 : decode cX12_surest 22 = .ok (.iload 4, 2) := by decide +kernel
theorem dX12_surest_24 : decode cX12_surest 24 = .ok (.bipush 81, 2) := by decide +kernel
theorem dX12_surest_26 : decode cX12_surest 26 = .ok (.if_icmp .ge 65, 3) := by decide +kernel
theorem dX12_surest_29 : decode cX12_surest 29 = .ok (.aload_n 0, 1) := by decide +kernel
theorem dX12_surest_30 : decode cX12_surest 30 = .ok (.iload_n 1, 1) := by decide +kernel
theorem dX12_surest_31 : decode cX12_surest 31 = .ok (.iload 4, 2) := by decide +kernel
theorem dX12_surest_33 : decode cX12_surest 33 = .ok (.invokestatic 205, 3) := by decide +kernel
theorem dX12_surest_36 : decode cX12_surest 36 = .ok (.invokevirtual 248, 3) := by decide +kernel
theorem dX12_surest_39 : decode cX12_surest 39 = .ok (.istore 5, 2) := by decide +kernel
theorem dX12_surest_41 : decode cX12_surest 41 = .ok (.iload 5, 2) := by decide +kernel
theorem dX12_surest_43 : decode cX12_surest 43 = .ok (.iload_n 3, 1) := by decide +kernel
theorem dX12_surest_44 : decode cX12_surest 44 = .ok (.if_icmp .lt 41, 3) := by decide +kernel
theorem dX12_surest_47 : decode cX12_surest 47 = .ok (.iload 5, 2) := by decide +kernel
theorem dX12_surest_49 : decode cX12_surest 49 = .ok (.ifCond .eq 36, 3) := by decide +kernel
theorem dX12_surest_52 : decode cX12_surest 52 = .ok (.iload 5, 2) := by decide +kernel
theorem dX12_surest_54 : decode cX12_surest 54 = .ok (.iload_n 3, 1) := by decide +kernel
theorem dX12_surest_55 : decode cX12_surest 55 = .ok (.if_icmp .ne 21, 3) := by decide +kernel
theorem dX12_surest_58 : decode cX12_surest 58 = .ok (.iload 4, 2) := by decide +kernel
theorem dX12_surest_60 : decode cX12_surest 60 = .ok (.invokestatic 205, 3) := by decide +kernel
theorem dX12_surest_63 : decode cX12_surest 63 = .ok (.invokestatic 208, 3) := by decide +kernel
theorem dX12_surest_66 : decode cX12_surest 66 = .ok (.iload_n 2, 1) := by decide +kernel
theorem dX12_surest_67 : decode cX12_surest 67 = .ok (.invokestatic 208, 3) := by decide +kernel
theorem dX12_surest_70 : decode cX12_surest 70 = .ok (.if_icmp .lt 6, 3) := by decide +kernel
theorem dX12_surest_73 : decode cX12_surest 73 = .ok (.goto 12, 3) := by decide +kernel
theorem dX12_surest_76 : decode cX12_surest 76 = .ok (.iload 4, 2) := by decide +kernel
theorem dX12_surest_78 : decode cX12_surest 78 = .ok (.invokestatic 205, 3) := by decide +kernel
theorem dX12_surest_81 : decode cX12_surest 81 = .ok (.istore_n 2, 1) := by decide +kernel
theorem dX12_surest_82 : decode cX12_surest 82 = .ok (.iload 5, 2) := by decide +kernel
theorem dX12_surest_84 : decode cX12_surest 84 = .ok (.istore_n 3, 1) := by decide +kernel
theorem dX12_surest_85 : decode cX12_surest 85 = .ok (.iinc 4 1, 3) := by decide +kernel
theorem dX12_surest_88 : decode cX12_surest 88 = .ok (.goto (-66), 3) := by decide +kernel
theorem dX12_surest_91 : decode cX12_surest 91 = .ok (.iload_n 2, 1) := by decide +kernel
theorem dX12_surest_92 : decode cX12_surest 92 = .ok (.ireturn, 1) := by decide +kernel
theorem dX12_aimOf_0 : decode cX12_aimOf 0 = .ok (.aload_n 0, 1) := by decide +kernel
theorem dX12_aimOf_1 : decode cX12_aimOf 1 = .ok (.aload_n 0, 1) := by decide +kernel
theorem dX12_aimOf_2 : decode cX12_aimOf 2 = .ok (.getfield 22, 3) := by decide +kernel
theorem dX12_aimOf_5 : decode cX12_aimOf 5 = .ok (.iload_n 1, 1) := by decide +kernel
theorem dX12_aimOf_6 : decode cX12_aimOf 6 = .ok (.iaload, 1) := by decide +kernel
theorem dX12_aimOf_7 : decode cX12_aimOf 7 = .ok (.invokevirtual 211, 3) := by decide +kernel
theorem dX12_aimOf_10 : decode cX12_aimOf 10 = .ok (.istore_n 2, 1) := by decide +kernel
theorem dX12_aimOf_11 : decode cX12_aimOf 11 = .ok (.iload_n 2, 1) := by decide +kernel
theorem dX12_aimOf_12 : decode cX12_aimOf 12 = .ok (.ifCond .ge 12, 3) := by decide +kernel
theorem dX12_aimOf_15 : decode cX12_aimOf 15 = .ok (.aload_n 0, 1) := by decide +kernel
theorem dX12_aimOf_16 : decode cX12_aimOf 16 = .ok (.getfield 25, 3) := by decide +kernel
theorem dX12_aimOf_19 : decode cX12_aimOf 19 = .ok (.iload_n 1, 1) := by decide +kernel
theorem dX12_aimOf_20 : decode cX12_aimOf 20 = .ok (.iaload, 1) := by decide +kernel
theorem dX12_aimOf_21 : decode cX12_aimOf 21 = .ok (.goto 4, 3) := by decide +kernel
theorem dX12_aimOf_24 : decode cX12_aimOf 24 = .ok (.iload_n 2, 1) := by decide +kernel
theorem dX12_aimOf_25 : decode cX12_aimOf 25 = .ok (.ireturn, 1) := by decide +kernel
theorem dX12_allOf_0 : decode cX12_allOf 0 = .ok (.iconst 0, 1) := by decide +kernel
theorem dX12_allOf_1 : decode cX12_allOf 1 = .ok (.istore_n 1, 1) := by decide +kernel
theorem dX12_allOf_2 : decode cX12_allOf 2 = .ok (.iconst (-1), 1) := by decide +kernel
theorem dX12_allOf_3 : decode cX12_allOf 3 = .ok (.istore_n 2, 1) := by decide +kernel
theorem dX12_allOf_4 : decode cX12_allOf 4 = .ok (.iconst 0, 1) := by decide +kernel
theorem dX12_allOf_5 : decode cX12_allOf 5 = .ok (.istore_n 3, 1) := by decide +kernel
theorem dX12_allOf_6 : decode cX12_allOf 6 = .ok (.iload_n 3, 1) := by decide +kernel
theorem dX12_allOf_7 : decode cX12_allOf 7 = .ok (.bipush 81, 2) := by decide +kernel
theorem dX12_allOf_9 : decode cX12_allOf 9 = .ok (.if_icmp .ge 75, 3) := by decide +kernel
theorem dX12_allOf_12 : decode cX12_allOf 12 = .ok (.aload_n 0, 1) := by decide +kernel
theorem dX12_allOf_13 : decode cX12_allOf 13 = .ok (.iconst 0, 1) := by decide +kernel
theorem dX12_allOf_14 : decode cX12_allOf 14 = .ok (.invokevirtual 220, 3) := by decide +kernel
theorem dX12_allOf_17 : decode cX12_allOf 17 = .ok (.aload_n 0, 1) := by decide +kernel
theorem dX12_allOf_18 : decode cX12_allOf 18 = .ok (.iload_n 3, 1) := by decide +kernel
theorem dX12_allOf_19 : decode cX12_allOf 19 = .ok (.invokestatic 205, 3) := by decide +kernel
theorem dX12_allOf_22 : decode cX12_allOf 22 = .ok (.invokevirtual 196, 3) := by decide +kernel
theorem dX12_allOf_25 : decode cX12_allOf 25 = .ok (.pop, 1) := by decide +kernel
theorem dX12_allOf_26 : decode cX12_allOf 26 = .ok (.aload_n 0, 1) := by decide +kernel
theorem dX12_allOf_27 : decode cX12_allOf 27 = .ok (.invokevirtual 202, 3) := by decide +kernel
theorem dX12_allOf_30 : decode cX12_allOf 30 = .ok (.istore 4, 2) := by decide +kernel
theorem dX12_allOf_32 : decode cX12_allOf 32 = .ok (.aload_n 0, 1) := by decide +kernel
theorem dX12_allOf_33 : decode cX12_allOf 33 = .ok (.iconst 0, 1) := by decide +kernel
theorem dX12_allOf_34 : decode cX12_allOf 34 = .ok (.invokevirtual 227, 3) := by decide +kernel
theorem dX12_allOf_37 : decode cX12_allOf 37 = .ok (.iload_n 2, 1) := by decide +kernel
theorem dX12_allOf_38 : decode cX12_allOf 38 = .ok (.ifCond .lt 32, 3) := by decide +kernel
theorem dX12_allOf_41 : decode cX12_allOf 41 = .ok (.iload 4, 2) := by decide +kernel
theorem dX12_allOf_43 : decode cX12_allOf 43 = .ok (.iload_n 2, 1) := by decide +kernel
theorem dX12_allOf_44 : decode cX12_allOf 44 = .ok (.if_icmp .gt 34, 3) := by decide +kernel
theorem dX12_allOf_47 : decode cX12_allOf 47 = .ok (.iload 4, 2) := by decide +kernel
theorem dX12_allOf_49 : decode cX12_allOf 49 = .ok (.iload_n 2, 1) := by decide +kernel
theorem dX12_allOf_50 : decode cX12_allOf 50 = .ok (.if_icmp .ne 20, 3) := by decide +kernel
theorem dX12_allOf_53 : decode cX12_allOf 53 = .ok (.iload_n 3, 1) := by decide +kernel
theorem dX12_allOf_54 : decode cX12_allOf 54 = .ok (.invokestatic 205, 3) := by decide +kernel
theorem dX12_allOf_57 : decode cX12_allOf 57 = .ok (.invokestatic 208, 3) := by decide +kernel
theorem dX12_allOf_60 : decode cX12_allOf 60 = .ok (.iload_n 1, 1) := by decide +kernel
theorem dX12_allOf_61 : decode cX12_allOf 61 = .ok (.invokestatic 208, 3) := by decide +kernel
theorem dX12_allOf_64 : decode cX12_allOf 64 = .ok (.if_icmp .lt 6, 3) := by decide +kernel
theorem dX12_allOf_67 : decode cX12_allOf 67 = .ok (.goto 11, 3) := by decide +kernel
theorem dX12_allOf_70 : decode cX12_allOf 70 = .ok (.iload_n 3, 1) := by decide +kernel
theorem dX12_allOf_71 : decode cX12_allOf 71 = .ok (.invokestatic 205, 3) := by decide +kernel
theorem dX12_allOf_74 : decode cX12_allOf 74 = .ok (.istore_n 1, 1) := by decide +kernel
theorem dX12_allOf_75 : decode cX12_allOf 75 = .ok (.iload 4, 2) := by decide +kernel
theorem dX12_allOf_77 : decode cX12_allOf 77 = .ok (.istore_n 2, 1) := by decide +kernel
theorem dX12_allOf_78 : decode cX12_allOf 78 = .ok (.iinc 3 1, 3) := by decide +kernel
theorem dX12_allOf_81 : decode cX12_allOf 81 = .ok (.goto (-75), 3) := by decide +kernel
theorem dX12_allOf_84 : decode cX12_allOf 84 = .ok (.iload_n 1, 1) := by decide +kernel
theorem dX12_allOf_85 : decode cX12_allOf 85 = .ok (.ireturn, 1) := by decide +kernel
theorem dX12_aheadOf_0 : decode cX12_aheadOf 0 = .ok (.aload_n 0, 1) := by decide +kernel
theorem dX12_aheadOf_1 : decode cX12_aheadOf 1 = .ok (.aload_n 0, 1) := by decide +kernel
theorem dX12_aheadOf_2 : decode cX12_aheadOf 2 = .ok (.getfield 22, 3) := by decide +kernel
theorem dX12_aheadOf_5 : decode cX12_aheadOf 5 = .ok (.iload_n 1, 1) := by decide +kernel
theorem dX12_aheadOf_6 : decode cX12_aheadOf 6 = .ok (.iaload, 1) := by decide +kernel
theorem dX12_aheadOf_7 : decode cX12_aheadOf 7 = .ok (.invokevirtual 211, 3) := by decide +kernel
theorem dX12_aheadOf_10 : decode cX12_aheadOf 10 = .ok (.istore_n 2, 1) := by decide +kernel
theorem dX12_aheadOf_11 : decode cX12_aheadOf 11 = .ok (.bipush (-9), 2) := by decide +kernel
theorem dX12_aheadOf_13 : decode cX12_aheadOf 13 = .ok (.istore_n 3, 1) := by decide +kernel
theorem dX12_aheadOf_14 : decode cX12_aheadOf 14 = .ok (.iconst 0, 1) := by decide +kernel
theorem dX12_aheadOf_15 : decode cX12_aheadOf 15 = .ok (.istore 4, 2) := by decide +kernel
theorem dX12_aheadOf_17 : decode cX12_aheadOf 17 = .ok (.iload 4, 2) := by decide +kernel
theorem dX12_aheadOf_19 : decode cX12_aheadOf 19 = .ok (.bipush 81, 2) := by decide +kernel
theorem dX12_aheadOf_21 : decode cX12_aheadOf 21 = .ok (.if_icmp .ge 90, 3) := by decide +kernel
theorem dX12_aheadOf_24 : decode cX12_aheadOf 24 = .ok (.iload_n 3, 1) := by decide +kernel
theorem dX12_aheadOf_25 : decode cX12_aheadOf 25 = .ok (.ifCond .lt 21, 3) := by decide +kernel
theorem dX12_aheadOf_28 : decode cX12_aheadOf 28 = .ok (.iload 4, 2) := by decide +kernel
theorem dX12_aheadOf_30 : decode cX12_aheadOf 30 = .ok (.invokestatic 205, 3) := by decide +kernel
theorem dX12_aheadOf_33 : decode cX12_aheadOf 33 = .ok (.invokestatic 208, 3) := by decide +kernel
theorem dX12_aheadOf_36 : decode cX12_aheadOf 36 = .ok (.iload_n 3, 1) := by decide +kernel
theorem dX12_aheadOf_37 : decode cX12_aheadOf 37 = .ok (.invokestatic 208, 3) := by decide +kernel
theorem dX12_aheadOf_40 : decode cX12_aheadOf 40 = .ok (.if_icmp .lt 6, 3) := by decide +kernel
theorem dX12_aheadOf_43 : decode cX12_aheadOf 43 = .ok (.goto 62, 3) := by decide +kernel
theorem dX12_aheadOf_46 : decode cX12_aheadOf 46 = .ok (.aload_n 0, 1) := by decide +kernel
theorem dX12_aheadOf_47 : decode cX12_aheadOf 47 = .ok (.iconst 0, 1) := by decide +kernel
theorem dX12_aheadOf_48 : decode cX12_aheadOf 48 = .ok (.invokevirtual 220, 3) := by decide +kernel
theorem dX12_aheadOf_51 : decode cX12_aheadOf 51 = .ok (.aload_n 0, 1) := by decide +kernel
theorem dX12_aheadOf_52 : decode cX12_aheadOf 52 = .ok (.iload 4, 2) := by decide +kernel
theorem dX12_aheadOf_54 : decode cX12_aheadOf 54 = .ok (.invokestatic 205, 3) := by decide +kernel
theorem dX12_aheadOf_57 : decode cX12_aheadOf 57 = .ok (.invokevirtual 196, 3) := by decide +kernel
theorem dX12_aheadOf_60 : decode cX12_aheadOf 60 = .ok (.pop, 1) := by decide +kernel
theorem dX12_aheadOf_61 : decode cX12_aheadOf 61 = .ok (.aload_n 0, 1) := by decide +kernel
theorem dX12_aheadOf_62 : decode cX12_aheadOf 62 = .ok (.aload_n 0, 1) := by decide +kernel
theorem dX12_aheadOf_63 : decode cX12_aheadOf 63 = .ok (.getfield 22, 3) := by decide +kernel
theorem dX12_aheadOf_66 : decode cX12_aheadOf 66 = .ok (.iload_n 1, 1) := by decide +kernel
theorem dX12_aheadOf_67 : decode cX12_aheadOf 67 = .ok (.iaload, 1) := by decide +kernel
theorem dX12_aheadOf_68 : decode cX12_aheadOf 68 = .ok (.invokevirtual 211, 3) := by decide +kernel
theorem dX12_aheadOf_71 : decode cX12_aheadOf 71 = .ok (.istore 5, 2) := by decide +kernel
theorem dX12_aheadOf_73 : decode cX12_aheadOf 73 = .ok (.aload_n 0, 1) := by decide +kernel
theorem dX12_aheadOf_74 : decode cX12_aheadOf 74 = .ok (.iconst 0, 1) := by decide +kernel
theorem dX12_aheadOf_75 : decode cX12_aheadOf 75 = .ok (.invokevirtual 227, 3) := by decide +kernel
theorem dX12_aheadOf_78 : decode cX12_aheadOf 78 = .ok (.iload 5, 2) := by decide +kernel
theorem dX12_aheadOf_80 : decode cX12_aheadOf 80 = .ok (.ifCond .lt 25, 3) := by decide +kernel
theorem dX12_aheadOf_83 : decode cX12_aheadOf 83 = .ok (.iload_n 2, 1) := by decide +kernel
theorem dX12_aheadOf_84 : decode cX12_aheadOf 84 = .ok (.ifCond .lt 15, 3) := by decide +kernel
theorem dX12_aheadOf_87 : decode cX12_aheadOf 87 = .ok (.iload 5, 2) := by decide +kernel
theorem dX12_aheadOf_89 : decode cX12_aheadOf 89 = .ok (.invokestatic 208, 3) := by decide +kernel
theorem dX12_aheadOf_92 : decode cX12_aheadOf 92 = .ok (.iload_n 2, 1) := by decide +kernel
theorem dX12_aheadOf_93 : decode cX12_aheadOf 93 = .ok (.invokestatic 208, 3) := by decide +kernel
theorem dX12_aheadOf_96 : decode cX12_aheadOf 96 = .ok (.if_icmp .ge 9, 3) := by decide +kernel
theorem dX12_aheadOf_99 : decode cX12_aheadOf 99 = .ok (.iload 4, 2) := by decide +kernel
theorem dX12_aheadOf_101 : decode cX12_aheadOf 101 = .ok (.invokestatic 205, 3) := by decide +kernel
theorem dX12_aheadOf_104 : decode cX12_aheadOf 104 = .ok (.istore_n 3, 1) := by decide +kernel
theorem dX12_aheadOf_105 : decode cX12_aheadOf 105 = .ok (.iinc 4 1, 3) := by decide +kernel
theorem dX12_aheadOf_108 : decode cX12_aheadOf 108 = .ok (.goto (-91), 3) := by decide +kernel
theorem dX12_aheadOf_111 : decode cX12_aheadOf 111 = .ok (.iload_n 3, 1) := by decide +kernel
theorem dX12_aheadOf_112 : decode cX12_aheadOf 112 = .ok (.ifCond .ge 11, 3) := by decide +kernel
theorem dX12_aheadOf_115 : decode cX12_aheadOf 115 = .ok (.aload_n 0, 1) := by decide +kernel
theorem dX12_aheadOf_116 : decode cX12_aheadOf 116 = .ok (.iload_n 1, 1) := by decide +kernel
theorem dX12_aheadOf_117 : decode cX12_aheadOf 117 = .ok (.invokevirtual 254, 3) := by decide +kernel
theorem dX12_aheadOf_120 : decode cX12_aheadOf 120 = .ok (.goto 4, 3) := by decide +kernel
theorem dX12_aheadOf_123 : decode cX12_aheadOf 123 = .ok (.iload_n 3, 1) := by decide +kernel
theorem dX12_aheadOf_124 : decode cX12_aheadOf 124 = .ok (.ireturn, 1) := by decide +kernel
theorem dX12_writesOf_0 : decode cX12_writesOf 0 = .ok (.aload_n 0, 1) := by decide +kernel
theorem dX12_writesOf_1 : decode cX12_writesOf 1 = .ok (.getfield 19, 3) := by decide +kernel
theorem dX12_writesOf_4 : decode cX12_writesOf 4 = .ok (.iload_n 1, 1) := by decide +kernel
theorem dX12_writesOf_5 : decode cX12_writesOf 5 = .ok (.iaload, 1) := by decide +kernel
theorem dX12_writesOf_6 : decode cX12_writesOf 6 = .ok (.tableswitch 73 0 3 #[30, 37, 43, 48], 30) := by decide +kernel
theorem dX12_writesOf_36 : decode cX12_writesOf 36 = .ok (.aload_n 0, 1) := by decide +kernel
theorem dX12_writesOf_37 : decode cX12_writesOf 37 = .ok (.getfield 25, 3) := by decide +kernel
theorem dX12_writesOf_40 : decode cX12_writesOf 40 = .ok (.iload_n 1, 1) := by decide +kernel
theorem dX12_writesOf_41 : decode cX12_writesOf 41 = .ok (.iaload, 1) := by decide +kernel
theorem dX12_writesOf_42 : decode cX12_writesOf 42 = .ok (.ireturn, 1) := by decide +kernel
theorem dX12_writesOf_43 : decode cX12_writesOf 43 = .ok (.aload_n 0, 1) := by decide +kernel
theorem dX12_writesOf_44 : decode cX12_writesOf 44 = .ok (.iload_n 1, 1) := by decide +kernel
theorem dX12_writesOf_45 : decode cX12_writesOf 45 = .ok (.invokevirtual 254, 3) := by decide +kernel
theorem dX12_writesOf_48 : decode cX12_writesOf 48 = .ok (.ireturn, 1) := by decide +kernel
theorem dX12_writesOf_49 : decode cX12_writesOf 49 = .ok (.aload_n 0, 1) := by decide +kernel
theorem dX12_writesOf_50 : decode cX12_writesOf 50 = .ok (.invokevirtual 257, 3) := by decide +kernel
theorem dX12_writesOf_53 : decode cX12_writesOf 53 = .ok (.ireturn, 1) := by decide +kernel
theorem dX12_writesOf_54 : decode cX12_writesOf 54 = .ok (.aload_n 0, 1) := by decide +kernel
theorem dX12_writesOf_55 : decode cX12_writesOf 55 = .ok (.getfield 168, 3) := by decide +kernel
theorem dX12_writesOf_58 : decode cX12_writesOf 58 = .ok (.iconst 2, 1) := by decide +kernel
theorem dX12_writesOf_59 : decode cX12_writesOf 59 = .ok (.irem, 1) := by decide +kernel
theorem dX12_writesOf_60 : decode cX12_writesOf 60 = .ok (.iconst 1, 1) := by decide +kernel
theorem dX12_writesOf_61 : decode cX12_writesOf 61 = .ok (.if_icmp .ne 11, 3) := by decide +kernel
theorem dX12_writesOf_64 : decode cX12_writesOf 64 = .ok (.aload_n 0, 1) := by decide +kernel
theorem dX12_writesOf_65 : decode cX12_writesOf 65 = .ok (.iload_n 1, 1) := by decide +kernel
theorem dX12_writesOf_66 : decode cX12_writesOf 66 = .ok (.invokevirtual 254, 3) := by decide +kernel
theorem dX12_writesOf_69 : decode cX12_writesOf 69 = .ok (.goto 9, 3) := by decide +kernel
theorem dX12_writesOf_72 : decode cX12_writesOf 72 = .ok (.aload_n 0, 1) := by decide +kernel
theorem dX12_writesOf_73 : decode cX12_writesOf 73 = .ok (.getfield 25, 3) := by decide +kernel
theorem dX12_writesOf_76 : decode cX12_writesOf 76 = .ok (.iload_n 1, 1) := by decide +kernel
theorem dX12_writesOf_77 : decode cX12_writesOf 77 = .ok (.iaload, 1) := by decide +kernel
theorem dX12_writesOf_78 : decode cX12_writesOf 78 = .ok (.ireturn, 1) := by decide +kernel
theorem dX12_writesOf_79 : decode cX12_writesOf 79 = .ok (.aload_n 0, 1) := by decide +kernel
theorem dX12_writesOf_80 : decode cX12_writesOf 80 = .ok (.iload_n 1, 1) := by decide +kernel
theorem dX12_writesOf_81 : decode cX12_writesOf 81 = .ok (.invokevirtual 260, 3) := by decide +kernel
theorem dX12_writesOf_84 : decode cX12_writesOf 84 = .ok (.ireturn, 1) := by decide +kernel
theorem dX12_morning_0 : decode cX12_morning 0 = .ok (.iconst 0, 1) := by decide +kernel
theorem dX12_morning_1 : decode cX12_morning 1 = .ok (.istore_n 1, 1) := by decide +kernel
theorem dX12_morning_2 : decode cX12_morning 2 = .ok (.iconst 0, 1) := by decide +kernel
theorem dX12_morning_3 : decode cX12_morning 3 = .ok (.istore_n 2, 1) := by decide +kernel
theorem dX12_morning_4 : decode cX12_morning 4 = .ok (.iload_n 2, 1) := by decide +kernel
theorem dX12_morning_5 : decode cX12_morning 5 = .ok (.aload_n 0, 1) := by decide +kernel
theorem dX12_morning_6 : decode cX12_morning 6 = .ok (.getfield 80, 3) := by decide +kernel
theorem dX12_morning_9 : decode cX12_morning 9 = .ok (.if_icmp .ge 47, 3) := by decide +kernel
theorem dX12_morning_12 : decode cX12_morning 12 = .ok (.aload_n 0, 1) := by decide +kernel
theorem dX12_morning_13 : decode cX12_morning 13 = .ok (.iload_n 2, 1) := by decide +kernel
theorem dX12_morning_14 : decode cX12_morning 14 = .ok (.invokevirtual 263, 3) := by decide +kernel
theorem dX12_morning_17 : decode cX12_morning 17 = .ok (.istore_n 3, 1) := by decide +kernel
theorem dX12_morning_18 : decode cX12_morning 18 = .ok (.aload_n 0, 1) := by decide +kernel
theorem dX12_morning_19 : decode cX12_morning 19 = .ok (.dup, 1) := by decide +kernel
theorem dX12_morning_20 : decode cX12_morning 20 = .ok (.getfield 171, 3) := by decide +kernel
theorem dX12_morning_23 : decode cX12_morning 23 = .ok (.iconst 1, 1) := by decide +kernel
theorem dX12_morning_24 : decode cX12_morning 24 = .ok (.iadd, 1) := by decide +kernel
theorem dX12_morning_25 : decode cX12_morning 25 = .ok (.putfield 171, 3) := by decide +kernel
theorem dX12_morning_28 : decode cX12_morning 28 = .ok (.iload_n 1, 1) := by decide +kernel
theorem dX12_morning_29 : decode cX12_morning 29 = .ok (.aload_n 0, 1) := by decide +kernel
theorem dX12_morning_30 : decode cX12_morning 30 = .ok (.iload_n 3, 1) := by decide +kernel
theorem dX12_morning_31 : decode cX12_morning 31 = .ok (.invokevirtual 196, 3) := by decide +kernel
theorem dX12_morning_34 : decode cX12_morning 34 = .ok (.aload_n 0, 1) := by decide +kernel
theorem dX12_morning_35 : decode cX12_morning 35 = .ok (.getfield 22, 3) := by decide +kernel
theorem dX12_morning_38 : decode cX12_morning 38 = .ok (.iload_n 2, 1) := by decide +kernel
theorem dX12_morning_39 : decode cX12_morning 39 = .ok (.iaload, 1) := by decide +kernel
theorem dX12_morning_40 : decode cX12_morning 40 = .ok (.if_icmp .ne 7, 3) := by decide +kernel
theorem dX12_morning_43 : decode cX12_morning 43 = .ok (.iconst 1, 1) := by decide +kernel
theorem dX12_morning_44 : decode cX12_morning 44 = .ok (.goto 4, 3) := by decide +kernel
theorem dX12_morning_47 : decode cX12_morning 47 = .ok (.iconst 0, 1) := by decide +kernel
theorem dX12_morning_48 : decode cX12_morning 48 = .ok (.iadd, 1) := by decide +kernel
theorem dX12_morning_49 : decode cX12_morning 49 = .ok (.istore_n 1, 1) := by decide +kernel
theorem dX12_morning_50 : decode cX12_morning 50 = .ok (.iinc 2 1, 3) := by decide +kernel
theorem dX12_morning_53 : decode cX12_morning 53 = .ok (.goto (-49), 3) := by decide +kernel
theorem dX12_morning_56 : decode cX12_morning 56 = .ok (.iload_n 1, 1) := by decide +kernel
theorem dX12_morning_57 : decode cX12_morning 57 = .ok (.ireturn, 1) := by decide +kernel
theorem dX12_writes_0 : decode cX12_writes 0 = .ok (.aload_n 0, 1) := by decide +kernel
theorem dX12_writes_1 : decode cX12_writes 1 = .ok (.iload_n 1, 1) := by decide +kernel
theorem dX12_writes_2 : decode cX12_writes 2 = .ok (.invokevirtual 190, 3) := by decide +kernel
theorem dX12_writes_5 : decode cX12_writes 5 = .ok (.ifCond .eq 11, 3) := by decide +kernel
theorem dX12_writes_8 : decode cX12_writes 8 = .ok (.aload_n 0, 1) := by decide +kernel
theorem dX12_writes_9 : decode cX12_writes 9 = .ok (.iload_n 1, 1) := by decide +kernel
theorem dX12_writes_10 : decode cX12_writes 10 = .ok (.invokevirtual 263, 3) := by decide +kernel
theorem dX12_writes_13 : decode cX12_writes 13 = .ok (.goto 8, 3) := by decide +kernel
theorem dX12_writes_16 : decode cX12_writes 16 = .ok (.aload_n 0, 1) := by decide +kernel
theorem dX12_writes_17 : decode cX12_writes 17 = .ok (.iconst (-1), 1) := by decide +kernel
theorem dX12_writes_18 : decode cX12_writes 18 = .ok (.invokevirtual 98, 3) := by decide +kernel
theorem dX12_writes_21 : decode cX12_writes 21 = .ok (.ireturn, 1) := by decide +kernel
theorem dX12_aimBehind_0 : decode cX12_aimBehind 0 = .ok (.aload_n 0, 1) := by decide +kernel
theorem dX12_aimBehind_1 : decode cX12_aimBehind 1 = .ok (.iconst 0, 1) := by decide +kernel
theorem dX12_aimBehind_2 : decode cX12_aimBehind 2 = .ok (.invokevirtual 220, 3) := by decide +kernel
theorem dX12_aimBehind_5 : decode cX12_aimBehind 5 = .ok (.aload_n 0, 1) := by decide +kernel
theorem dX12_aimBehind_6 : decode cX12_aimBehind 6 = .ok (.iload_n 2, 1) := by decide +kernel
theorem dX12_aimBehind_7 : decode cX12_aimBehind 7 = .ok (.invokevirtual 196, 3) := by decide +kernel
theorem dX12_aimBehind_10 : decode cX12_aimBehind 10 = .ok (.pop, 1) := by decide +kernel
theorem dX12_aimBehind_11 : decode cX12_aimBehind 11 = .ok (.aload_n 0, 1) := by decide +kernel
theorem dX12_aimBehind_12 : decode cX12_aimBehind 12 = .ok (.iload_n 1, 1) := by decide +kernel
theorem dX12_aimBehind_13 : decode cX12_aimBehind 13 = .ok (.invokevirtual 254, 3) := by decide +kernel
theorem dX12_aimBehind_16 : decode cX12_aimBehind 16 = .ok (.istore_n 3, 1) := by decide +kernel
theorem dX12_aimBehind_17 : decode cX12_aimBehind 17 = .ok (.aload_n 0, 1) := by decide +kernel
theorem dX12_aimBehind_18 : decode cX12_aimBehind 18 = .ok (.iconst 0, 1) := by decide +kernel
theorem dX12_aimBehind_19 : decode cX12_aimBehind 19 = .ok (.invokevirtual 227, 3) := by decide +kernel
theorem dX12_aimBehind_22 : decode cX12_aimBehind 22 = .ok (.iload_n 3, 1) := by decide +kernel
theorem dX12_aimBehind_23 : decode cX12_aimBehind 23 = .ok (.ireturn, 1) := by decide +kernel
theorem dX12_both_0 : decode cX12_both 0 = .ok (.aload_n 0, 1) := by decide +kernel
theorem dX12_both_1 : decode cX12_both 1 = .ok (.iload_n 1, 1) := by decide +kernel
theorem dX12_both_2 : decode cX12_both 2 = .ok (.invokevirtual 190, 3) := by decide +kernel
theorem dX12_both_5 : decode cX12_both 5 = .ok (.ifCond .eq 16, 3) := by decide +kernel
theorem dX12_both_8 : decode cX12_both 8 = .ok (.aload_n 0, 1) := by decide +kernel
theorem dX12_both_9 : decode cX12_both 9 = .ok (.iload_n 2, 1) := by decide +kernel
theorem dX12_both_10 : decode cX12_both 10 = .ok (.invokevirtual 190, 3) := by decide +kernel
theorem dX12_both_13 : decode cX12_both 13 = .ok (.ifCond .eq 8, 3) := by decide +kernel
theorem dX12_both_16 : decode cX12_both 16 = .ok (.iload_n 1, 1) := by decide +kernel
theorem dX12_both_17 : decode cX12_both 17 = .ok (.iload_n 2, 1) := by decide +kernel
theorem dX12_both_18 : decode cX12_both 18 = .ok (.if_icmp .ne 9, 3) := by decide +kernel
theorem dX12_both_21 : decode cX12_both 21 = .ok (.aload_n 0, 1) := by decide +kernel
theorem dX12_both_22 : decode cX12_both 22 = .ok (.iconst (-1), 1) := by decide +kernel
theorem dX12_both_23 : decode cX12_both 23 = .ok (.invokevirtual 98, 3) := by decide +kernel
theorem dX12_both_26 : decode cX12_both 26 = .ok (.ireturn, 1) := by decide +kernel
theorem dX12_both_27 : decode cX12_both 27 = .ok (.aload_n 0, 1) := by decide +kernel
theorem dX12_both_28 : decode cX12_both 28 = .ok (.getfield 25, 3) := by decide +kernel
theorem dX12_both_31 : decode cX12_both 31 = .ok (.iload_n 1, 1) := by decide +kernel
theorem dX12_both_32 : decode cX12_both 32 = .ok (.iaload, 1) := by decide +kernel
theorem dX12_both_33 : decode cX12_both 33 = .ok (.istore_n 3, 1) := by decide +kernel
theorem dX12_both_34 : decode cX12_both 34 = .ok (.aload_n 0, 1) := by decide +kernel
theorem dX12_both_35 : decode cX12_both 35 = .ok (.getfield 25, 3) := by decide +kernel
theorem dX12_both_38 : decode cX12_both 38 = .ok (.iload_n 2, 1) := by decide +kernel
theorem dX12_both_39 : decode cX12_both 39 = .ok (.iaload, 1) := by decide +kernel
theorem dX12_both_40 : decode cX12_both 40 = .ok (.istore 4, 2) := by decide +kernel
theorem dX12_both_42 : decode cX12_both 42 = .ok (.iconst 1, 1) := by decide +kernel
theorem dX12_both_43 : decode cX12_both 43 = .ok (.istore 5, 2) := by decide +kernel
theorem dX12_both_45 : decode cX12_both 45 = .ok (.iload 5, 2) := by decide +kernel
theorem dX12_both_47 : decode cX12_both 47 = .ok (.bipush 10, 2) := by decide +kernel
theorem dX12_both_49 : decode cX12_both 49 = .ok (.if_icmp .gt 50, 3) := by decide +kernel
theorem dX12_both_52 : decode cX12_both 52 = .ok (.aload_n 0, 1) := by decide +kernel
theorem dX12_both_53 : decode cX12_both 53 = .ok (.iload_n 1, 1) := by decide +kernel
theorem dX12_both_54 : decode cX12_both 54 = .ok (.iload 4, 2) := by decide +kernel
theorem dX12_both_56 : decode cX12_both 56 = .ok (.invokevirtual 266, 3) := by decide +kernel
theorem dX12_both_59 : decode cX12_both 59 = .ok (.istore 6, 2) := by decide +kernel
theorem dX12_both_61 : decode cX12_both 61 = .ok (.aload_n 0, 1) := by decide +kernel
theorem dX12_both_62 : decode cX12_both 62 = .ok (.iload_n 2, 1) := by decide +kernel
theorem dX12_both_63 : decode cX12_both 63 = .ok (.iload 6, 2) := by decide +kernel
theorem dX12_both_65 : decode cX12_both 65 = .ok (.invokevirtual 266, 3) := by decide +kernel
theorem dX12_both_68 : decode cX12_both 68 = .ok (.istore 7, 2) := by decide +kernel
theorem dX12_both_70 : decode cX12_both 70 = .ok (.iload 6, 2) := by decide +kernel
theorem dX12_both_72 : decode cX12_both 72 = .ok (.iload_n 3, 1) := by decide +kernel
theorem dX12_both_73 : decode cX12_both 73 = .ok (.if_icmp .ne 13, 3) := by decide +kernel
theorem dX12_both_76 : decode cX12_both 76 = .ok (.iload 7, 2) := by decide +kernel
theorem dX12_both_78 : decode cX12_both 78 = .ok (.iload 4, 2) := by decide +kernel
theorem dX12_both_80 : decode cX12_both 80 = .ok (.if_icmp .ne 6, 3) := by decide +kernel
theorem dX12_both_83 : decode cX12_both 83 = .ok (.iload 5, 2) := by decide +kernel
theorem dX12_both_85 : decode cX12_both 85 = .ok (.ireturn, 1) := by decide +kernel
theorem dX12_both_86 : decode cX12_both 86 = .ok (.iload 6, 2) := by decide +kernel
theorem dX12_both_88 : decode cX12_both 88 = .ok (.istore_n 3, 1) := by decide +kernel
theorem dX12_both_89 : decode cX12_both 89 = .ok (.iload 7, 2) := by decide +kernel
theorem dX12_both_91 : decode cX12_both 91 = .ok (.istore 4, 2) := by decide +kernel
theorem dX12_both_93 : decode cX12_both 93 = .ok (.iinc 5 1, 3) := by decide +kernel
theorem dX12_both_96 : decode cX12_both 96 = .ok (.goto (-51), 3) := by decide +kernel
theorem dX12_both_99 : decode cX12_both 99 = .ok (.bipush (-9), 2) := by decide +kernel
theorem dX12_both_101 : decode cX12_both 101 = .ok (.ireturn, 1) := by decide +kernel
theorem dX12_draw_0 : decode cX12_draw 0 = .ok (.aload_n 0, 1) := by decide +kernel
theorem dX12_draw_1 : decode cX12_draw 1 = .ok (.aload_n 0, 1) := by decide +kernel
theorem dX12_draw_2 : decode cX12_draw 2 = .ok (.getfield 269, 3) := by decide +kernel
theorem dX12_draw_5 : decode cX12_draw 5 = .ok (.ldc_w 272, 3) := by decide +kernel
theorem dX12_draw_8 : decode cX12_draw 8 = .ok (.imul, 1) := by decide +kernel
theorem dX12_draw_9 : decode cX12_draw 9 = .ok (.ldc_w 273, 3) := by decide +kernel
theorem dX12_draw_12 : decode cX12_draw 12 = .ok (.iadd, 1) := by decide +kernel
theorem dX12_draw_13 : decode cX12_draw 13 = .ok (.putfield 269, 3) := by decide +kernel
theorem dX12_draw_16 : decode cX12_draw 16 = .ok (.aload_n 0, 1) := by decide +kernel
theorem dX12_draw_17 : decode cX12_draw 17 = .ok (.getfield 269, 3) := by decide +kernel
theorem dX12_draw_20 : decode cX12_draw 20 = .ok (.ldc_w 274, 3) := by decide +kernel
theorem dX12_draw_23 : decode cX12_draw 23 = .ok (.iand, 1) := by decide +kernel
theorem dX12_draw_24 : decode cX12_draw 24 = .ok (.sipush 256, 3) := by decide +kernel
theorem dX12_draw_27 : decode cX12_draw 27 = .ok (.idiv, 1) := by decide +kernel
theorem dX12_draw_28 : decode cX12_draw 28 = .ok (.iload_n 1, 1) := by decide +kernel
theorem dX12_draw_29 : decode cX12_draw 29 = .ok (.irem, 1) := by decide +kernel
theorem dX12_draw_30 : decode cX12_draw 30 = .ok (.ireturn, 1) := by decide +kernel
theorem dX12_year_0 : decode cX12_year 0 = .ok (.iload_n 1, 1) := by decide +kernel
theorem dX12_year_1 : decode cX12_year 1 = .ok (.iconst 1, 1) := by decide +kernel
theorem dX12_year_2 : decode cX12_year 2 = .ok (.bipush 30, 2) := by decide +kernel
theorem dX12_year_4 : decode cX12_year 4 = .ok (.invokestatic 91, 3) := by decide +kernel
theorem dX12_year_7 : decode cX12_year 7 = .ok (.istore_n 3, 1) := by decide +kernel
theorem dX12_year_8 : decode cX12_year 8 = .ok (.iload_n 3, 1) := by decide +kernel
theorem dX12_year_9 : decode cX12_year 9 = .ok (.ifCond .eq 9, 3) := by decide +kernel
theorem dX12_year_12 : decode cX12_year 12 = .ok (.aload_n 0, 1) := by decide +kernel
theorem dX12_year_13 : decode cX12_year 13 = .ok (.iload_n 3, 1) := by decide +kernel
theorem dX12_year_14 : decode cX12_year 14 = .ok (.invokevirtual 98, 3) := by decide +kernel
theorem dX12_year_17 : decode cX12_year 17 = .ok (.ireturn, 1) := by decide +kernel
theorem dX12_year_18 : decode cX12_year 18 = .ok (.aload_n 0, 1) := by decide +kernel
theorem dX12_year_19 : decode cX12_year 19 = .ok (.iconst 0, 1) := by decide +kernel
theorem dX12_year_20 : decode cX12_year 20 = .ok (.invokevirtual 220, 3) := by decide +kernel
theorem dX12_year_23 : decode cX12_year 23 = .ok (.aload_n 0, 1) := by decide +kernel
theorem dX12_year_24 : decode cX12_year 24 = .ok (.iload_n 2, 1) := by decide +kernel
theorem dX12_year_25 : decode cX12_year 25 = .ok (.putfield 269, 3) := by decide +kernel
theorem dX12_year_28 : decode cX12_year 28 = .ok (.iconst 0, 1) := by decide +kernel
theorem dX12_year_29 : decode cX12_year 29 = .ok (.istore 4, 2) := by decide +kernel
theorem dX12_year_31 : decode cX12_year 31 = .ok (.iload 4, 2) := by decide +kernel
theorem dX12_year_33 : decode cX12_year 33 = .ok (.iload_n 1, 1) := by decide +kernel
theorem dX12_year_34 : decode cX12_year 34 = .ok (.if_icmp .ge 67, 3) := by decide +kernel
theorem dX12_year_37 : decode cX12_year 37 = .ok (.aload_n 0, 1) := by decide +kernel
theorem dX12_year_38 : decode cX12_year 38 = .ok (.iconst 3, 1) := by decide +kernel
theorem dX12_year_39 : decode cX12_year 39 = .ok (.invokevirtual 275, 3) := by decide +kernel
theorem dX12_year_42 : decode cX12_year 42 = .ok (.istore 5, 2) := by decide +kernel
theorem dX12_year_44 : decode cX12_year 44 = .ok (.iload 5, 2) := by decide +kernel
theorem dX12_year_46 : decode cX12_year 46 = .ok (.bipush 10, 2) := by decide +kernel
theorem dX12_year_48 : decode cX12_year 48 = .ok (.aload_n 0, 1) := by decide +kernel
theorem dX12_year_49 : decode cX12_year 49 = .ok (.iconst 3, 1) := by decide +kernel
theorem dX12_year_50 : decode cX12_year 50 = .ok (.invokevirtual 275, 3) := by decide +kernel
theorem dX12_year_53 : decode cX12_year 53 = .ok (.imul, 1) := by decide +kernel
theorem dX12_year_54 : decode cX12_year 54 = .ok (.iadd, 1) := by decide +kernel
theorem dX12_year_55 : decode cX12_year 55 = .ok (.istore 5, 2) := by decide +kernel
theorem dX12_year_57 : decode cX12_year 57 = .ok (.iload 5, 2) := by decide +kernel
theorem dX12_year_59 : decode cX12_year 59 = .ok (.bipush 100, 2) := by decide +kernel
theorem dX12_year_61 : decode cX12_year 61 = .ok (.aload_n 0, 1) := by decide +kernel
theorem dX12_year_62 : decode cX12_year 62 = .ok (.iconst 3, 1) := by decide +kernel
theorem dX12_year_63 : decode cX12_year 63 = .ok (.invokevirtual 275, 3) := by decide +kernel
theorem dX12_year_66 : decode cX12_year 66 = .ok (.imul, 1) := by decide +kernel
theorem dX12_year_67 : decode cX12_year 67 = .ok (.iadd, 1) := by decide +kernel
theorem dX12_year_68 : decode cX12_year 68 = .ok (.istore 5, 2) := by decide +kernel
theorem dX12_year_70 : decode cX12_year 70 = .ok (.iload 5, 2) := by decide +kernel
theorem dX12_year_72 : decode cX12_year 72 = .ok (.sipush 1000, 3) := by decide +kernel
theorem dX12_year_75 : decode cX12_year 75 = .ok (.aload_n 0, 1) := by decide +kernel
theorem dX12_year_76 : decode cX12_year 76 = .ok (.iconst 3, 1) := by decide +kernel
theorem dX12_year_77 : decode cX12_year 77 = .ok (.invokevirtual 275, 3) := by decide +kernel
theorem dX12_year_80 : decode cX12_year 80 = .ok (.imul, 1) := by decide +kernel
theorem dX12_year_81 : decode cX12_year 81 = .ok (.iadd, 1) := by decide +kernel
theorem dX12_year_82 : decode cX12_year 82 = .ok (.istore 5, 2) := by decide +kernel
theorem dX12_year_84 : decode cX12_year 84 = .ok (.aload_n 0, 1) := by decide +kernel
theorem dX12_year_85 : decode cX12_year 85 = .ok (.iload 5, 2) := by decide +kernel
theorem dX12_year_87 : decode cX12_year 87 = .ok (.invokevirtual 196, 3) := by decide +kernel
theorem dX12_year_90 : decode cX12_year 90 = .ok (.pop, 1) := by decide +kernel
theorem dX12_year_91 : decode cX12_year 91 = .ok (.aload_n 0, 1) := by decide +kernel
theorem dX12_year_92 : decode cX12_year 92 = .ok (.invokevirtual 199, 3) := by decide +kernel
theorem dX12_year_95 : decode cX12_year 95 = .ok (.iinc 4 1, 3) := by decide +kernel
theorem dX12_year_98 : decode cX12_year 98 = .ok (.goto (-67), 3) := by decide +kernel
theorem dX12_year_101 : decode cX12_year 101 = .ok (.aload_n 0, 1) := by decide +kernel
theorem dX12_year_102 : decode cX12_year 102 = .ok (.invokevirtual 202, 3) := by decide +kernel
theorem dX12_year_105 : decode cX12_year 105 = .ok (.istore 4, 2) := by decide +kernel
theorem dX12_year_107 : decode cX12_year 107 = .ok (.aload_n 0, 1) := by decide +kernel
theorem dX12_year_108 : decode cX12_year 108 = .ok (.iconst 0, 1) := by decide +kernel
theorem dX12_year_109 : decode cX12_year 109 = .ok (.invokevirtual 227, 3) := by decide +kernel
theorem dX12_year_112 : decode cX12_year 112 = .ok (.iload 4, 2) := by decide +kernel
theorem dX12_year_114 : decode cX12_year 114 = .ok (.ireturn, 1) := by decide +kernel
theorem dX12_row_0 : decode cX12_row 0 = .ok (.iload_n 1, 1) := by decide +kernel
theorem dX12_row_1 : decode cX12_row 1 = .ok (.iconst 0, 1) := by decide +kernel
theorem dX12_row_2 : decode cX12_row 2 = .ok (.bipush 9, 2) := by decide +kernel
theorem dX12_row_4 : decode cX12_row 4 = .ok (.invokestatic 91, 3) := by decide +kernel
theorem dX12_row_7 : decode cX12_row 7 = .ok (.istore_n 2, 1) := by decide +kernel
theorem dX12_row_8 : decode cX12_row 8 = .ok (.iload_n 2, 1) := by decide +kernel
theorem dX12_row_9 : decode cX12_row 9 = .ok (.ifCond .ne 15, 3) := by decide +kernel
theorem dX12_row_12 : decode cX12_row 12 = .ok (.aload_n 0, 1) := by decide +kernel
theorem dX12_row_13 : decode cX12_row 13 = .ok (.getfield 278, 3) := by decide +kernel
theorem dX12_row_16 : decode cX12_row 16 = .ok (.bipush 8, 2) := by decide +kernel
theorem dX12_row_18 : decode cX12_row 18 = .ok (.if_icmp .ne 6, 3) := by decide +kernel
theorem dX12_row_21 : decode cX12_row 21 = .ok (.bipush (-6), 2) := by decide +kernel
theorem dX12_row_23 : decode cX12_row 23 = .ok (.istore_n 2, 1) := by decide +kernel
theorem dX12_row_24 : decode cX12_row 24 = .ok (.iload_n 2, 1) := by decide +kernel
theorem dX12_row_25 : decode cX12_row 25 = .ok (.ifCond .eq 9, 3) := by decide +kernel
theorem dX12_row_28 : decode cX12_row 28 = .ok (.aload_n 0, 1) := by decide +kernel
theorem dX12_row_29 : decode cX12_row 29 = .ok (.iload_n 2, 1) := by decide +kernel
theorem dX12_row_30 : decode cX12_row 30 = .ok (.invokevirtual 98, 3) := by decide +kernel
theorem dX12_row_33 : decode cX12_row 33 = .ok (.ireturn, 1) := by decide +kernel
theorem dX12_row_34 : decode cX12_row 34 = .ok (.aload_n 0, 1) := by decide +kernel
theorem dX12_row_35 : decode cX12_row 35 = .ok (.getfield 73, 3) := by decide +kernel
theorem dX12_row_38 : decode cX12_row 38 = .ok (.aload_n 0, 1) := by decide +kernel
theorem dX12_row_39 : decode cX12_row 39 = .ok (.getfield 278, 3) := by decide +kernel
theorem dX12_row_42 : decode cX12_row 42 = .ok (.iload_n 1, 1) := by decide +kernel
theorem dX12_row_43 : decode cX12_row 43 = .ok (.iastore, 1) := by decide +kernel
theorem dX12_row_44 : decode cX12_row 44 = .ok (.aload_n 0, 1) := by decide +kernel
theorem dX12_row_45 : decode cX12_row 45 = .ok (.dup, 1) := by decide +kernel
theorem dX12_row_46 : decode cX12_row 46 = .ok (.getfield 278, 3) := by decide +kernel
theorem dX12_row_49 : decode cX12_row 49 = .ok (.iconst 1, 1) := by decide +kernel
theorem dX12_row_50 : decode cX12_row 50 = .ok (.iadd, 1) := by decide +kernel
theorem dX12_row_51 : decode cX12_row 51 = .ok (.putfield 278, 3) := by decide +kernel
theorem dX12_row_54 : decode cX12_row 54 = .ok (.aload_n 0, 1) := by decide +kernel
theorem dX12_row_55 : decode cX12_row 55 = .ok (.getfield 278, 3) := by decide +kernel
theorem dX12_row_58 : decode cX12_row 58 = .ok (.ireturn, 1) := by decide +kernel
theorem dX12_judge_0 : decode cX12_judge 0 = .ok (.aload_n 0, 1) := by decide +kernel
theorem dX12_judge_1 : decode cX12_judge 1 = .ok (.getfield 278, 3) := by decide +kernel
theorem dX12_judge_4 : decode cX12_judge 4 = .ok (.istore_n 1, 1) := by decide +kernel
theorem dX12_judge_5 : decode cX12_judge 5 = .ok (.aload_n 0, 1) := by decide +kernel
theorem dX12_judge_6 : decode cX12_judge 6 = .ok (.iconst 0, 1) := by decide +kernel
theorem dX12_judge_7 : decode cX12_judge 7 = .ok (.putfield 278, 3) := by decide +kernel
theorem dX12_judge_10 : decode cX12_judge 10 = .ok (.aload_n 0, 1) := by decide +kernel
theorem dX12_judge_11 : decode cX12_judge 11 = .ok (.iconst 0, 1) := by decide +kernel
theorem dX12_judge_12 : decode cX12_judge 12 = .ok (.invokevirtual 220, 3) := by decide +kernel
theorem dX12_judge_15 : decode cX12_judge 15 = .ok (.bipush (-9), 2) := by decide +kernel
theorem dX12_judge_17 : decode cX12_judge 17 = .ok (.istore_n 2, 1) := by decide +kernel
theorem dX12_judge_18 : decode cX12_judge 18 = .ok (.iconst 0, 1) := by decide +kernel
theorem dX12_judge_19 : decode cX12_judge 19 = .ok (.istore_n 3, 1) := by decide +kernel
theorem dX12_judge_20 : decode cX12_judge 20 = .ok (.iload_n 3, 1) := by decide +kernel
theorem dX12_judge_21 : decode cX12_judge 21 = .ok (.iload_n 1, 1) := by decide +kernel
theorem dX12_judge_22 : decode cX12_judge 22 = .ok (.if_icmp .ge 56, 3) := by decide +kernel
theorem dX12_judge_25 : decode cX12_judge 25 = .ok (.iload_n 3, 1) := by decide +kernel
theorem dX12_judge_26 : decode cX12_judge 26 = .ok (.aload_n 0, 1) := by decide +kernel
theorem dX12_judge_27 : decode cX12_judge 27 = .ok (.getfield 162, 3) := by decide +kernel
theorem dX12_judge_30 : decode cX12_judge 30 = .ok (.if_icmp .ge 48, 3) := by decide +kernel
theorem dX12_judge_33 : decode cX12_judge 33 = .ok (.iload_n 2, 1) := by decide +kernel
theorem dX12_judge_34 : decode cX12_judge 34 = .ok (.ifCond .ge 44, 3) := by decide +kernel
theorem dX12_judge_37 : decode cX12_judge 37 = .ok (.aload_n 0, 1) := by decide +kernel
theorem dX12_judge_38 : decode cX12_judge 38 = .ok (.aload_n 0, 1) := by decide +kernel
theorem dX12_judge_39 : decode cX12_judge 39 = .ok (.getfield 28, 3) := by decide +kernel
theorem dX12_judge_42 : decode cX12_judge 42 = .ok (.iload_n 3, 1) := by decide +kernel
theorem dX12_judge_43 : decode cX12_judge 43 = .ok (.iaload, 1) := by decide +kernel
theorem dX12_judge_44 : decode cX12_judge 44 = .ok (.invokevirtual 196, 3) := by decide +kernel
theorem dX12_judge_47 : decode cX12_judge 47 = .ok (.istore 4, 2) := by decide +kernel
theorem dX12_judge_49 : decode cX12_judge 49 = .ok (.iload 4, 2) := by decide +kernel
theorem dX12_judge_51 : decode cX12_judge 51 = .ok (.ifCond .ge 8, 3) := by decide +kernel
theorem dX12_judge_54 : decode cX12_judge 54 = .ok (.bipush 9, 2) := by decide +kernel
theorem dX12_judge_56 : decode cX12_judge 56 = .ok (.goto 5, 3) := by decide +kernel
theorem dX12_judge_59 : decode cX12_judge 59 = .ok (.iload 4, 2) := by decide +kernel
theorem dX12_judge_61 : decode cX12_judge 61 = .ok (.aload_n 0, 1) := by decide +kernel
theorem dX12_judge_62 : decode cX12_judge 62 = .ok (.getfield 73, 3) := by decide +kernel
theorem dX12_judge_65 : decode cX12_judge 65 = .ok (.iload_n 3, 1) := by decide +kernel
theorem dX12_judge_66 : decode cX12_judge 66 = .ok (.iaload, 1) := by decide +kernel
theorem dX12_judge_67 : decode cX12_judge 67 = .ok (.if_icmp .eq 5, 3) := by decide +kernel
theorem dX12_judge_70 : decode cX12_judge 70 = .ok (.iload_n 3, 1) := by decide +kernel
theorem dX12_judge_71 : decode cX12_judge 71 = .ok (.istore_n 2, 1) := by decide +kernel
theorem dX12_judge_72 : decode cX12_judge 72 = .ok (.iinc 3 1, 3) := by decide +kernel
theorem dX12_judge_75 : decode cX12_judge 75 = .ok (.goto (-55), 3) := by decide +kernel
theorem dX12_judge_78 : decode cX12_judge 78 = .ok (.aload_n 0, 1) := by decide +kernel
theorem dX12_judge_79 : decode cX12_judge 79 = .ok (.iconst 0, 1) := by decide +kernel
theorem dX12_judge_80 : decode cX12_judge 80 = .ok (.invokevirtual 227, 3) := by decide +kernel
theorem dX12_judge_83 : decode cX12_judge 83 = .ok (.iload_n 2, 1) := by decide +kernel
theorem dX12_judge_84 : decode cX12_judge 84 = .ok (.ifCond .lt 5, 3) := by decide +kernel
theorem dX12_judge_87 : decode cX12_judge 87 = .ok (.iload_n 2, 1) := by decide +kernel
theorem dX12_judge_88 : decode cX12_judge 88 = .ok (.ireturn, 1) := by decide +kernel
theorem dX12_judge_89 : decode cX12_judge 89 = .ok (.iload_n 1, 1) := by decide +kernel
theorem dX12_judge_90 : decode cX12_judge 90 = .ok (.aload_n 0, 1) := by decide +kernel
theorem dX12_judge_91 : decode cX12_judge 91 = .ok (.getfield 162, 3) := by decide +kernel
theorem dX12_judge_94 : decode cX12_judge 94 = .ok (.if_icmp .ge 7, 3) := by decide +kernel
theorem dX12_judge_97 : decode cX12_judge 97 = .ok (.iload_n 1, 1) := by decide +kernel
theorem dX12_judge_98 : decode cX12_judge 98 = .ok (.goto 20, 3) := by decide +kernel
theorem dX12_judge_101 : decode cX12_judge 101 = .ok (.iload_n 1, 1) := by decide +kernel
theorem dX12_judge_102 : decode cX12_judge 102 = .ok (.aload_n 0, 1) := by decide +kernel
theorem dX12_judge_103 : decode cX12_judge 103 = .ok (.getfield 162, 3) := by decide +kernel
theorem dX12_judge_106 : decode cX12_judge 106 = .ok (.if_icmp .le 10, 3) := by decide +kernel
theorem dX12_judge_109 : decode cX12_judge 109 = .ok (.aload_n 0, 1) := by decide +kernel
theorem dX12_judge_110 : decode cX12_judge 110 = .ok (.getfield 162, 3) := by decide +kernel
theorem dX12_judge_113 : decode cX12_judge 113 = .ok (.goto 5, 3) := by decide +kernel
theorem dX12_judge_116 : decode cX12_judge 116 = .ok (.bipush (-9), 2) := by decide +kernel
theorem dX12_judge_118 : decode cX12_judge 118 = .ok (.ireturn, 1) := by decide +kernel
theorem dX12_image_0 : decode cX12_image 0 = .ok (.aload_n 0, 1) := by decide +kernel
theorem dX12_image_1 : decode cX12_image 1 = .ok (.iconst 1, 1) := by decide +kernel
theorem dX12_image_2 : decode cX12_image 2 = .ok (.putfield 281, 3) := by decide +kernel
theorem dX12_image_5 : decode cX12_image 5 = .ok (.aload_n 0, 1) := by decide +kernel
theorem dX12_image_6 : decode cX12_image 6 = .ok (.iconst 0, 1) := by decide +kernel
theorem dX12_image_7 : decode cX12_image 7 = .ok (.iconst 1, 1) := by decide +kernel
theorem dX12_image_8 : decode cX12_image 8 = .ok (.invokevirtual 135, 3) := by decide +kernel
theorem dX12_image_11 : decode cX12_image 11 = .ok (.aload_n 0, 1) := by decide +kernel
theorem dX12_image_12 : decode cX12_image 12 = .ok (.getfield 168, 3) := by decide +kernel
theorem dX12_image_15 : decode cX12_image 15 = .ok (.ireturn, 1) := by decide +kernel
theorem dX12_on_0 : decode cX12_on 0 = .ok (.aload_n 0, 1) := by decide +kernel
theorem dX12_on_1 : decode cX12_on 1 = .ok (.getfield 281, 3) := by decide +kernel
theorem dX12_on_4 : decode cX12_on 4 = .ok (.ifCond .ne 10, 3) := by decide +kernel
theorem dX12_on_7 : decode cX12_on 7 = .ok (.aload_n 0, 1) := by decide +kernel
theorem dX12_on_8 : decode cX12_on 8 = .ok (.bipush (-3), 2) := by decide +kernel
theorem dX12_on_10 : decode cX12_on 10 = .ok (.invokevirtual 98, 3) := by decide +kernel
theorem dX12_on_13 : decode cX12_on 13 = .ok (.ireturn, 1) := by decide +kernel
theorem dX12_on_14 : decode cX12_on 14 = .ok (.aload_n 0, 1) := by decide +kernel
theorem dX12_on_15 : decode cX12_on 15 = .ok (.iconst 0, 1) := by decide +kernel
theorem dX12_on_16 : decode cX12_on 16 = .ok (.iconst 0, 1) := by decide +kernel
theorem dX12_on_17 : decode cX12_on 17 = .ok (.invokevirtual 135, 3) := by decide +kernel
theorem dX12_on_20 : decode cX12_on 20 = .ok (.aload_n 0, 1) := by decide +kernel
theorem dX12_on_21 : decode cX12_on 21 = .ok (.getfield 168, 3) := by decide +kernel
theorem dX12_on_24 : decode cX12_on 24 = .ok (.ireturn, 1) := by decide +kernel
theorem dX12_count_0 : decode cX12_count 0 = .ok (.iload_n 1, 1) := by decide +kernel
theorem dX12_count_1 : decode cX12_count 1 = .ok (.bipush 11, 2) := by decide +kernel
theorem dX12_count_3 : decode cX12_count 3 = .ok (.bipush 16, 2) := by decide +kernel
theorem dX12_count_5 : decode cX12_count 5 = .ok (.invokestatic 83, 3) := by decide +kernel
theorem dX12_count_8 : decode cX12_count 8 = .ok (.ifCond .eq 13, 3) := by decide +kernel
theorem dX12_count_11 : decode cX12_count 11 = .ok (.aload_n 0, 1) := by decide +kernel
theorem dX12_count_12 : decode cX12_count 12 = .ok (.getfield 7, 3) := by decide +kernel
theorem dX12_count_15 : decode cX12_count 15 = .ok (.iload_n 1, 1) := by decide +kernel
theorem dX12_count_16 : decode cX12_count 16 = .ok (.bipush 10, 2) := by decide +kernel
theorem dX12_count_18 : decode cX12_count 18 = .ok (.isub, 1) := by decide +kernel
theorem dX12_count_19 : decode cX12_count 19 = .ok (.iaload, 1) := by decide +kernel
theorem dX12_count_20 : decode cX12_count 20 = .ok (.ireturn, 1) := by decide +kernel
theorem dX12_count_21 : decode cX12_count 21 = .ok (.iload_n 1, 1) := by decide +kernel
theorem dX12_count_22 : decode cX12_count 22 = .ok (.tableswitch 86 0 7 #[46, 51, 56, 61, 66, 71, 76, 81], 46) := by decide +kernel
theorem dX12_count_68 : decode cX12_count 68 = .ok (.aload_n 0, 1) := by decide +kernel
theorem dX12_count_69 : decode cX12_count 69 = .ok (.getfield 76, 3) := by decide +kernel
theorem dX12_count_72 : decode cX12_count 72 = .ok (.ireturn, 1) := by decide +kernel
theorem dX12_count_73 : decode cX12_count 73 = .ok (.aload_n 0, 1) := by decide +kernel
theorem dX12_count_74 : decode cX12_count 74 = .ok (.getfield 80, 3) := by decide +kernel
theorem dX12_count_77 : decode cX12_count 77 = .ok (.ireturn, 1) := by decide +kernel
theorem dX12_count_78 : decode cX12_count 78 = .ok (.aload_n 0, 1) := by decide +kernel
theorem dX12_count_79 : decode cX12_count 79 = .ok (.getfield 162, 3) := by decide +kernel
theorem dX12_count_82 : decode cX12_count 82 = .ok (.ireturn, 1) := by decide +kernel
theorem dX12_count_83 : decode cX12_count 83 = .ok (.aload_n 0, 1) := by decide +kernel
theorem dX12_count_84 : decode cX12_count 84 = .ok (.getfield 165, 3) := by decide +kernel
theorem dX12_count_87 : decode cX12_count 87 = .ok (.ireturn, 1) := by decide +kernel
theorem dX12_count_88 : decode cX12_count 88 = .ok (.aload_n 0, 1) := by decide +kernel
theorem dX12_count_89 : decode cX12_count 89 = .ok (.getfield 168, 3) := by decide +kernel
theorem dX12_count_92 : decode cX12_count 92 = .ok (.ireturn, 1) := by decide +kernel
theorem dX12_count_93 : decode cX12_count 93 = .ok (.aload_n 0, 1) := by decide +kernel
theorem dX12_count_94 : decode cX12_count 94 = .ok (.getfield 278, 3) := by decide +kernel
theorem dX12_count_97 : decode cX12_count 97 = .ok (.ireturn, 1) := by decide +kernel
theorem dX12_count_98 : decode cX12_count 98 = .ok (.aload_n 0, 1) := by decide +kernel
theorem dX12_count_99 : decode cX12_count 99 = .ok (.getfield 95, 3) := by decide +kernel
theorem dX12_count_102 : decode cX12_count 102 = .ok (.ireturn, 1) := by decide +kernel
theorem dX12_count_103 : decode cX12_count 103 = .ok (.aload_n 0, 1) := by decide +kernel
theorem dX12_count_104 : decode cX12_count 104 = .ok (.getfield 171, 3) := by decide +kernel
theorem dX12_count_107 : decode cX12_count 107 = .ok (.ireturn, 1) := by decide +kernel
theorem dX12_count_108 : decode cX12_count 108 = .ok (.bipush (-9), 2) := by decide +kernel
theorem dX12_count_110 : decode cX12_count 110 = .ok (.ireturn, 1) := by decide +kernel
