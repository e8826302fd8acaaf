theorem dX12_branchTurn_68 : decode cX12_branchTurn 68 = .ok (.iload_n 3, 1) := by decide +kernel
theorem dX12_branchTurn_69 : decode cX12_branchTurn 69 = .ok (.imul, 1) := by decide +kernel
theorem dX12_branchTurn_70 : decode cX12_branchTurn 70 = .ok (.iload 4, 2) := by decide +kernel
theorem dX12_branchTurn_72 : decode cX12_branchTurn 72 = .ok (.isub, 1) := by decide +kernel
theorem dX12_branchTurn_73 : decode cX12_branchTurn 73 = .ok (.goto 9, 3) := by decide +kernel
theorem dX12_branchTurn_76 : decode cX12_branchTurn 76 = .ok (.iconst 4, 1) := by decide +kernel
theorem dX12_branchTurn_77 : decode cX12_branchTurn 77 = .ok (.iload_n 3, 1) := by decide +kernel
theorem dX12_branchTurn_78 : decode cX12_branchTurn 78 = .ok (.imul, 1) := by decide +kernel
theorem dX12_branchTurn_79 : decode cX12_branchTurn 79 = .ok (.iload 4, 2) := by decide +kernel
theorem dX12_branchTurn_81 : decode cX12_branchTurn 81 = .ok (.iadd, 1) := by decide +kernel
theorem dX12_branchTurn_82 : decode cX12_branchTurn 82 = .ok (.istore 5, 2) := by decide +kernel
theorem dX12_branchTurn_84 : decode cX12_branchTurn 84 = .ok (.iload 5, 2) := by decide +kernel
theorem dX12_branchTurn_86 : decode cX12_branchTurn 86 = .ok (.iconst 2, 1) := by decide +kernel
theorem dX12_branchTurn_87 : decode cX12_branchTurn 87 = .ok (.ishr, 1) := by decide +kernel
theorem dX12_branchTurn_88 : decode cX12_branchTurn 88 = .ok (.ldc 211, 2) := by decide +kernel
theorem dX12_branchTurn_90 : decode cX12_branchTurn 90 = .ok (.iand, 1) := by decide +kernel
theorem dX12_branchTurn_91 : decode cX12_branchTurn 91 = .ok (.istore 5, 2) := by decide +kernel
theorem dX12_branchTurn_93 : decode cX12_branchTurn 93 = .ok (.aload_n 0, 1) := by decide +kernel
theorem dX12_branchTurn_94 : decode cX12_branchTurn 94 = .ok (.getfield 47, 3) := by decide +kernel
theorem dX12_branchTurn_97 : decode cX12_branchTurn 97 = .ok (.iload_n 2, 1) := by decide +kernel
theorem dX12_branchTurn_98 : decode cX12_branchTurn 98 = .ok (.iload 5, 2) := by decide +kernel
theorem dX12_branchTurn_100 : decode cX12_branchTurn 100 = .ok (.sipush 255, 3) := by decide +kernel
theorem dX12_branchTurn_103 : decode cX12_branchTurn 103 = .ok (.iand, 1) := by decide +kernel
theorem dX12_branchTurn_104 : decode cX12_branchTurn 104 = .ok (.iastore, 1) := by decide +kernel
theorem dX12_branchTurn_105 : decode cX12_branchTurn 105 = .ok (.aload_n 0, 1) := by decide +kernel
theorem dX12_branchTurn_106 : decode cX12_branchTurn 106 = .ok (.getfield 47, 3) := by decide +kernel
theorem dX12_branchTurn_109 : decode cX12_branchTurn 109 = .ok (.iload_n 2, 1) := by decide +kernel
theorem dX12_branchTurn_110 : decode cX12_branchTurn 110 = .ok (.iconst 1, 1) := by decide +kernel
theorem dX12_branchTurn_111 : decode cX12_branchTurn 111 = .ok (.iadd, 1) := by decide +kernel
theorem dX12_branchTurn_112 : decode cX12_branchTurn 112 = .ok (.iload 5, 2) := by decide +kernel
theorem dX12_branchTurn_114 : decode cX12_branchTurn 114 = .ok (.bipush 8, 2) := by decide +kernel
theorem dX12_branchTurn_116 : decode cX12_branchTurn 116 = .ok (.ishr, 1) := by decide +kernel
theorem dX12_branchTurn_117 : decode cX12_branchTurn 117 = .ok (.sipush 255, 3) := by decide +kernel
theorem dX12_branchTurn_120 : decode cX12_branchTurn 120 = .ok (.iand, 1) := by decide +kernel
theorem dX12_branchTurn_121 : decode cX12_branchTurn 121 = .ok (.iastore, 1) := by decide +kernel
theorem dX12_branchTurn_122 : decode cX12_branchTurn 122 = .ok (.aload_n 0, 1) := by decide +kernel
theorem dX12_branchTurn_123 : decode cX12_branchTurn 123 = .ok (.getfield 47, 3) := by decide +kernel
theorem dX12_branchTurn_126 : decode cX12_branchTurn 126 = .ok (.iload_n 2, 1) := by decide +kernel
theorem dX12_branchTurn_127 : decode cX12_branchTurn 127 = .ok (.iconst 2, 1) := by decide +kernel
theorem dX12_branchTurn_128 : decode cX12_branchTurn 128 = .ok (.iadd, 1) := by decide +kernel
theorem dX12_branchTurn_129 : decode cX12_branchTurn 129 = .ok (.iload 5, 2) := by decide +kernel
theorem dX12_branchTurn_131 : decode cX12_branchTurn 131 = .ok (.bipush 16, 2) := by decide +kernel
theorem dX12_branchTurn_133 : decode cX12_branchTurn 133 = .ok (.ishr, 1) := by decide +kernel
theorem dX12_branchTurn_134 : decode cX12_branchTurn 134 = .ok (.iastore, 1) := by decide +kernel
theorem dX12_branchTurn_135 : decode cX12_branchTurn 135 = .ok (.iinc 2 4, 3) := by decide +kernel
theorem dX12_branchTurn_138 : decode cX12_branchTurn 138 = .ok (.goto (-136), 3) := by decide +kernel
theorem dX12_branchTurn_141 : decode cX12_branchTurn 141 = .ok (.return_, 1) := by decide +kernel
theorem dX12_turn_0 : decode cX12_turn 0 = .ok (.aload_n 0, 1) := by decide +kernel
theorem dX12_turn_1 : decode cX12_turn 1 = .ok (.iconst 0, 1) := by decide +kernel
theorem dX12_turn_2 : decode cX12_turn 2 = .ok (.putfield 111, 3) := by decide +kernel
theorem dX12_turn_5 : decode cX12_turn 5 = .ok (.iload_n 1, 1) := by decide +kernel
theorem dX12_turn_6 : decode cX12_turn 6 = .ok (.ifCond .lt 24, 3) := by decide +kernel
theorem dX12_turn_9 : decode cX12_turn 9 = .ok (.iload_n 1, 1) := by decide +kernel
theorem dX12_turn_10 : decode cX12_turn 10 = .ok (.iconst 1, 1) := by decide +kernel
theorem dX12_turn_11 : decode cX12_turn 11 = .ok (.if_icmp .gt 19, 3) := by decide +kernel
theorem dX12_turn_14 : decode cX12_turn 14 = .ok (.iload_n 1, 1) := by decide +kernel
theorem dX12_turn_15 : decode cX12_turn 15 = .ok (.ifCond .ne 17, 3) := by decide +kernel
theorem dX12_turn_18 : decode cX12_turn 18 = .ok (.iload_n 2, 1) := by decide +kernel
theorem dX12_turn_19 : decode cX12_turn 19 = .ok (.iconst 1, 1) := by decide +kernel
theorem dX12_turn_20 : decode cX12_turn 20 = .ok (.if_icmp .lt 10, 3) := by decide +kernel
theorem dX12_turn_23 : decode cX12_turn 23 = .ok (.iload_n 2, 1) := by decide +kernel
theorem dX12_turn_24 : decode cX12_turn 24 = .ok (.sipush 256, 3) := by decide +kernel
theorem dX12_turn_27 : decode cX12_turn 27 = .ok (.if_icmp .le 5, 3) := by decide +kernel
theorem dX12_turn_30 : decode cX12_turn 30 = .ok (.iconst (-1), 1) := by decide +kernel
theorem dX12_turn_31 : decode cX12_turn 31 = .ok (.ireturn, 1) := by decide +kernel
theorem dX12_turn_32 : decode cX12_turn 32 = .ok (.aload_n 0, 1) := by decide +kernel
theorem dX12_turn_33 : decode cX12_turn 33 = .ok (.aload_n 0, 1) := by decide +kernel
theorem dX12_turn_34 : decode cX12_turn 34 = .ok (.getfield 129, 3) := by decide +kernel
theorem dX12_turn_37 : decode cX12_turn 37 = .ok (.putfield 208, 3) := by decide +kernel
theorem dX12_turn_40 : decode cX12_turn 40 = .ok (.iconst 0, 1) := by decide +kernel
theorem dX12_turn_41 : decode cX12_turn 41 = .ok (.istore 4, 2) := by decide +kernel
theorem dX12_turn_43 : decode cX12_turn 43 = .ok (.iload 4, 2) := by decide +kernel
theorem dX12_turn_45 : decode cX12_turn 45 = .ok (.aload_n 0, 1) := by decide +kernel
theorem dX12_turn_46 : decode cX12_turn 46 = .ok (.getfield 129, 3) := by decide +kernel
theorem dX12_turn_49 : decode cX12_turn 49 = .ok (.if_icmp .ge 23, 3) := by decide +kernel
theorem dX12_turn_52 : decode cX12_turn 52 = .ok (.aload_n 0, 1) := by decide +kernel
theorem dX12_turn_53 : decode cX12_turn 53 = .ok (.getfield 47, 3) := by decide +kernel
theorem dX12_turn_56 : decode cX12_turn 56 = .ok (.iload 4, 2) := by decide +kernel
theorem dX12_turn_58 : decode cX12_turn 58 = .ok (.aload_n 0, 1) := by decide +kernel
theorem dX12_turn_59 : decode cX12_turn 59 = .ok (.getfield 32, 3) := by decide +kernel
theorem dX12_turn_62 : decode cX12_turn 62 = .ok (.iload 4, 2) := by decide +kernel
theorem dX12_turn_64 : decode cX12_turn 64 = .ok (.iaload, 1) := by decide +kernel
theorem dX12_turn_65 : decode cX12_turn 65 = .ok (.iastore, 1) := by decide +kernel
theorem dX12_turn_66 : decode cX12_turn 66 = .ok (.iinc 4 1, 3) := by decide +kernel
theorem dX12_turn_69 : decode cX12_turn 69 = .ok (.goto (-26), 3) := by decide +kernel
theorem dX12_turn_72 : decode cX12_turn 72 = .ok (.iload_n 1, 1) := by decide +kernel
theorem dX12_turn_73 : decode cX12_turn 73 = .ok (.iconst 1, 1) := by decide +kernel
theorem dX12_turn_74 : decode cX12_turn 74 = .ok (.if_icmp .ne 11, 3) := by decide +kernel
theorem dX12_turn_77 : decode cX12_turn 77 = .ok (.aload_n 0, 1) := by decide +kernel
theorem dX12_turn_78 : decode cX12_turn 78 = .ok (.iload_n 3, 1) := by decide +kernel
theorem dX12_turn_79 : decode cX12_turn 79 = .ok (.invokevirtual 212, 3) := by decide +kernel
theorem dX12_turn_82 : decode cX12_turn 82 = .ok (.goto 20, 3) := by decide +kernel
theorem dX12_turn_85 : decode cX12_turn 85 = .ok (.iload_n 3, 1) := by decide +kernel
theorem dX12_turn_86 : decode cX12_turn 86 = .ok (.ifCond .eq 11, 3) := by decide +kernel
theorem dX12_turn_89 : decode cX12_turn 89 = .ok (.aload_n 0, 1) := by decide +kernel
theorem dX12_turn_90 : decode cX12_turn 90 = .ok (.iload_n 2, 1) := by decide +kernel
theorem dX12_turn_91 : decode cX12_turn 91 = .ok (.invokevirtual 216, 3) := by decide +kernel
theorem dX12_turn_94 : decode cX12_turn 94 = .ok (.goto 8, 3) := by decide +kernel
theorem dX12_turn_97 : decode cX12_turn 97 = .ok (.aload_n 0, 1) := by decide +kernel
theorem dX12_turn_98 : decode cX12_turn 98 = .ok (.iload_n 2, 1) := by decide +kernel
theorem dX12_turn_99 : decode cX12_turn 99 = .ok (.invokevirtual 219, 3) := by decide +kernel
theorem dX12_turn_102 : decode cX12_turn 102 = .ok (.iconst 0, 1) := by decide +kernel
theorem dX12_turn_103 : decode cX12_turn 103 = .ok (.istore 4, 2) := by decide +kernel
theorem dX12_turn_105 : decode cX12_turn 105 = .ok (.iload 4, 2) := by decide +kernel
theorem dX12_turn_107 : decode cX12_turn 107 = .ok (.aload_n 0, 1) := by decide +kernel
theorem dX12_turn_108 : decode cX12_turn 108 = .ok (.getfield 129, 3) := by decide +kernel
theorem dX12_turn_111 : decode cX12_turn 111 = .ok (.if_icmp .ge 23, 3) := by decide +kernel
theorem dX12_turn_114 : decode cX12_turn 114 = .ok (.aload_n 0, 1) := by decide +kernel
theorem dX12_turn_115 : decode cX12_turn 115 = .ok (.getfield 32, 3) := by decide +kernel
theorem dX12_turn_118 : decode cX12_turn 118 = .ok (.iload 4, 2) := by decide +kernel
theorem dX12_turn_120 : decode cX12_turn 120 = .ok (.aload_n 0, 1) := by decide +kernel
theorem dX12_turn_121 : decode cX12_turn 121 = .ok (.getfield 47, 3) := by decide +kernel
theorem dX12_turn_124 : decode cX12_turn 124 = .ok (.iload 4, 2) := by decide +kernel
theorem dX12_turn_126 : decode cX12_turn 126 = .ok (.iaload, 1) := by decide +kernel
theorem dX12_turn_127 : decode cX12_turn 127 = .ok (.iastore, 1) := by decide +kernel
theorem dX12_turn_128 : decode cX12_turn 128 = .ok (.iinc 4 1, 3) := by decide +kernel
theorem dX12_turn_131 : decode cX12_turn 131 = .ok (.goto (-26), 3) := by decide +kernel
theorem dX12_turn_134 : decode cX12_turn 134 = .ok (.aload_n 0, 1) := by decide +kernel
theorem dX12_turn_135 : decode cX12_turn 135 = .ok (.getfield 129, 3) := by decide +kernel
theorem dX12_turn_138 : decode cX12_turn 138 = .ok (.ireturn, 1) := by decide +kernel
theorem dX12_step_0 : decode cX12_step 0 = .ok (.aload_n 0, 1) := by decide +kernel
theorem dX12_step_1 : decode cX12_step 1 = .ok (.iconst 0, 1) := by decide +kernel
theorem dX12_step_2 : decode cX12_step 2 = .ok (.putfield 111, 3) := by decide +kernel
theorem dX12_step_5 : decode cX12_step 5 = .ok (.iload_n 1, 1) := by decide +kernel
theorem dX12_step_6 : decode cX12_step 6 = .ok (.iconst (-1), 1) := by decide +kernel
theorem dX12_step_7 : decode cX12_step 7 = .ok (.if_icmp .ne 12, 3) := by decide +kernel
theorem dX12_step_10 : decode cX12_step 10 = .ok (.iload_n 2, 1) := by decide +kernel
theorem dX12_step_11 : decode cX12_step 11 = .ok (.ifCond .ne 8, 3) := by decide +kernel
theorem dX12_step_14 : decode cX12_step 14 = .ok (.aload_n 0, 1) := by decide +kernel
theorem dX12_step_15 : decode cX12_step 15 = .ok (.getfield 222, 3) := by decide +kernel
theorem dX12_step_18 : decode cX12_step 18 = .ok (.ireturn, 1) := by decide +kernel
theorem dX12_step_19 : decode cX12_step 19 = .ok (.iload_n 1, 1) := by decide +kernel
theorem dX12_step_20 : decode cX12_step 20 = .ok (.ifCond .lt 27, 3) := by decide +kernel
theorem dX12_step_23 : decode cX12_step 23 = .ok (.iload_n 1, 1) := by decide +kernel
theorem dX12_step_24 : decode cX12_step 24 = .ok (.aload_n 0, 1) := by decide +kernel
theorem dX12_step_25 : decode cX12_step 25 = .ok (.getfield 222, 3) := by decide +kernel
theorem dX12_step_28 : decode cX12_step 28 = .ok (.if_icmp .ge 19, 3) := by decide +kernel
theorem dX12_step_31 : decode cX12_step 31 = .ok (.iload_n 1, 1) := by decide +kernel
theorem dX12_step_32 : decode cX12_step 32 = .ok (.sipush 2000, 3) := by decide +kernel
theorem dX12_step_35 : decode cX12_step 35 = .ok (.if_icmp .ge 12, 3) := by decide +kernel
theorem dX12_step_38 : decode cX12_step 38 = .ok (.iload_n 2, 1) := by decide +kernel
theorem dX12_step_39 : decode cX12_step 39 = .ok (.ifCond .lt 8, 3) := by decide +kernel
theorem dX12_step_42 : decode cX12_step 42 = .ok (.iload_n 2, 1) := by decide +kernel
theorem dX12_step_43 : decode cX12_step 43 = .ok (.iconst 3, 1) := by decide +kernel
theorem dX12_step_44 : decode cX12_step 44 = .ok (.if_icmp .le 5, 3) := by decide +kernel
theorem dX12_step_47 : decode cX12_step 47 = .ok (.iconst (-1), 1) := by decide +kernel
theorem dX12_step_48 : decode cX12_step 48 = .ok (.ireturn, 1) := by decide +kernel
theorem dX12_step_49 : decode cX12_step 49 = .ok (.iload_n 2, 1) := by decide +kernel
theorem dX12_step_50 : decode cX12_step 50 = .ok (.ifCond .ne 12, 3) := by decide +kernel
theorem dX12_step_53 : decode cX12_step 53 = .ok (.aload_n 0, 1) := by decide +kernel
theorem dX12_step_54 : decode cX12_step 54 = .ok (.getfield 50, 3) := by decide +kernel
theorem dX12_step_57 : decode cX12_step 57 = .ok (.iload_n 1, 1) := by decide +kernel
theorem dX12_step_58 : decode cX12_step 58 = .ok (.iaload, 1) := by decide +kernel
theorem dX12_step_59 : decode cX12_step 59 = .ok (.goto 37, 3) := by decide +kernel
theorem dX12_step_62 : decode cX12_step 62 = .ok (.iload_n 2, 1) := by decide +kernel
theorem dX12_step_63 : decode cX12_step 63 = .ok (.iconst 1, 1) := by decide +kernel
theorem dX12_step_64 : decode cX12_step 64 = .ok (.if_icmp .ne 12, 3) := by decide +kernel
theorem dX12_step_67 : decode cX12_step 67 = .ok (.aload_n 0, 1) := by decide +kernel
theorem dX12_step_68 : decode cX12_step 68 = .ok (.getfield 53, 3) := by decide +kernel
theorem dX12_step_71 : decode cX12_step 71 = .ok (.iload_n 1, 1) := by decide +kernel
theorem dX12_step_72 : decode cX12_step 72 = .ok (.iaload, 1) := by decide +kernel
theorem dX12_step_73 : decode cX12_step 73 = .ok (.goto 23, 3) := by decide +kernel
theorem dX12_step_76 : decode cX12_step 76 = .ok (.iload_n 2, 1) := by decide +kernel
theorem dX12_step_77 : decode cX12_step 77 = .ok (.iconst 2, 1) := by decide +kernel
theorem dX12_step_78 : decode cX12_step 78 = .ok (.if_icmp .ne 12, 3) := by decide +kernel
theorem dX12_step_81 : decode cX12_step 81 = .ok (.aload_n 0, 1) := by decide +kernel
theorem dX12_step_82 : decode cX12_step 82 = .ok (.getfield 56, 3) := by decide +kernel
theorem dX12_step_85 : decode cX12_step 85 = .ok (.iload_n 1, 1) := by decide +kernel
theorem dX12_step_86 : decode cX12_step 86 = .ok (.iaload, 1) := by decide +kernel
theorem dX12_step_87 : decode cX12_step 87 = .ok (.goto 9, 3) := by decide +kernel
theorem dX12_step_90 : decode cX12_step 90 = .ok (.aload_n 0, 1) := by decide +kernel
theorem dX12_step_91 : decode cX12_step 91 = .ok (.getfield 59, 3) := by decide +kernel
theorem dX12_step_94 : decode cX12_step 94 = .ok (.iload_n 1, 1) := by decide +kernel
theorem dX12_step_95 : decode cX12_step 95 = .ok (.iaload, 1) := by decide +kernel
theorem dX12_step_96 : decode cX12_step 96 = .ok (.ireturn, 1) := by decide +kernel
theorem dX12_state_0 : decode cX12_state 0 = .ok (.aload_n 0, 1) := by decide +kernel
theorem dX12_state_1 : decode cX12_state 1 = .ok (.iconst 0, 1) := by decide +kernel
theorem dX12_state_2 : decode cX12_state 2 = .ok (.putfield 111, 3) := by decide +kernel
theorem dX12_state_5 : decode cX12_state 5 = .ok (.aload_n 0, 1) := by decide +kernel
theorem dX12_state_6 : decode cX12_state 6 = .ok (.getfield 77, 3) := by decide +kernel
theorem dX12_state_9 : decode cX12_state 9 = .ok (.ireturn, 1) := by decide +kernel
theorem dX12_rule_0 : decode cX12_rule 0 = .ok (.aload_n 0, 1) := by decide +kernel
theorem dX12_rule_1 : decode cX12_rule 1 = .ok (.iconst 0, 1) := by decide +kernel
theorem dX12_rule_2 : decode cX12_rule 2 = .ok (.putfield 111, 3) := by decide +kernel
theorem dX12_rule_5 : decode cX12_rule 5 = .ok (.aload_n 0, 1) := by decide +kernel
theorem dX12_rule_6 : decode cX12_rule 6 = .ok (.getfield 225, 3) := by decide +kernel
theorem dX12_rule_9 : decode cX12_rule 9 = .ok (.ireturn, 1) := by decide +kernel
theorem dX12_block_0 : decode cX12_block 0 = .ok (.aload_n 0, 1) := by decide +kernel
theorem dX12_block_1 : decode cX12_block 1 = .ok (.iconst 0, 1) := by decide +kernel
theorem dX12_block_2 : decode cX12_block 2 = .ok (.putfield 111, 3) := by decide +kernel
theorem dX12_block_5 : decode cX12_block 5 = .ok (.iload_n 1, 1) := by decide +kernel
theorem dX12_block_6 : decode cX12_block 6 = .ok (.iconst (-1), 1) := by decide +kernel
theorem dX12_block_7 : decode cX12_block 7 = .ok (.if_icmp .ne 12, 3) := by decide +kernel
theorem dX12_block_10 : decode cX12_block 10 = .ok (.iload_n 2, 1) := by decide +kernel
theorem dX12_block_11 : decode cX12_block 11 = .ok (.ifCond .ne 8, 3) := by decide +kernel
theorem dX12_block_14 : decode cX12_block 14 = .ok (.aload_n 0, 1) := by decide +kernel
theorem dX12_block_15 : decode cX12_block 15 = .ok (.getfield 228, 3) := by decide +kernel
theorem dX12_block_18 : decode cX12_block 18 = .ok (.ireturn, 1) := by decide +kernel
theorem dX12_block_19 : decode cX12_block 19 = .ok (.iload_n 1, 1) := by decide +kernel
theorem dX12_block_20 : decode cX12_block 20 = .ok (.ifCond .lt 20, 3) := by decide +kernel
theorem dX12_block_23 : decode cX12_block 23 = .ok (.iload_n 1, 1) := by decide +kernel
theorem dX12_block_24 : decode cX12_block 24 = .ok (.aload_n 0, 1) := by decide +kernel
theorem dX12_block_25 : decode cX12_block 25 = .ok (.getfield 228, 3) := by decide +kernel
theorem dX12_block_28 : decode cX12_block 28 = .ok (.if_icmp .ge 12, 3) := by decide +kernel
theorem dX12_block_31 : decode cX12_block 31 = .ok (.iload_n 2, 1) := by decide +kernel
theorem dX12_block_32 : decode cX12_block 32 = .ok (.ifCond .lt 8, 3) := by decide +kernel
theorem dX12_block_35 : decode cX12_block 35 = .ok (.iload_n 2, 1) := by decide +kernel
theorem dX12_block_36 : decode cX12_block 36 = .ok (.iconst 4, 1) := by decide +kernel
theorem dX12_block_37 : decode cX12_block 37 = .ok (.if_icmp .le 5, 3) := by decide +kernel
theorem dX12_block_40 : decode cX12_block 40 = .ok (.iconst (-1), 1) := by decide +kernel
theorem dX12_block_41 : decode cX12_block 41 = .ok (.ireturn, 1) := by decide +kernel
theorem dX12_block_42 : decode cX12_block 42 = .ok (.iload_n 2, 1) := by decide +kernel
theorem dX12_block_43 : decode cX12_block 43 = .ok (.ifCond .ne 12, 3) := by decide +kernel
theorem dX12_block_46 : decode cX12_block 46 = .ok (.aload_n 0, 1) := by decide +kernel
theorem dX12_block_47 : decode cX12_block 47 = .ok (.getfield 62, 3) := by decide +kernel
theorem dX12_block_50 : decode cX12_block 50 = .ok (.iload_n 1, 1) := by decide +kernel
theorem dX12_block_51 : decode cX12_block 51 = .ok (.iaload, 1) := by decide +kernel
theorem dX12_block_52 : decode cX12_block 52 = .ok (.goto 51, 3) := by decide +kernel
theorem dX12_block_55 : decode cX12_block 55 = .ok (.iload_n 2, 1) := by decide +kernel
theorem dX12_block_56 : decode cX12_block 56 = .ok (.iconst 1, 1) := by decide +kernel
theorem dX12_block_57 : decode cX12_block 57 = .ok (.if_icmp .ne 12, 3) := by decide +kernel
theorem dX12_block_60 : decode cX12_block 60 = .ok (.aload_n 0, 1) := by decide +kernel
theorem dX12_block_61 : decode cX12_block 61 = .ok (.getfield 65, 3) := by decide +kernel
theorem dX12_block_64 : decode cX12_block 64 = .ok (.iload_n 1, 1) := by decide +kernel
theorem dX12_block_65 : decode cX12_block 65 = .ok (.iaload, 1) := by decide +kernel
theorem dX12_block_66 : decode cX12_block 66 = .ok (.goto 37, 3) := by decide +kernel
theorem dX12_block_69 : decode cX12_block 69 = .ok (.iload_n 2, 1) := by decide +kernel
theorem dX12_block_70 : decode cX12_block 70 = .ok (.iconst 2, 1) := by decide +kernel
theorem dX12_block_71 : decode cX12_block 71 = .ok (.if_icmp .ne 12, 3) := by decide +kernel
theorem dX12_block_74 : decode cX12_block 74 = .ok (.aload_n 0, 1) := by decide +kernel
theorem dX12_block_75 : decode cX12_block 75 = .ok (.getfield 68, 3) := by decide +kernel
theorem dX12_block_78 : decode cX12_block 78 = .ok (.iload_n 1, 1) := by decide +kernel
theorem dX12_block_79 : decode cX12_block 79 = .ok (.iaload, 1) := by decide +kernel
theorem dX12_block_80 : decode cX12_block 80 = .ok (.goto 23, 3) := by decide +kernel
theorem dX12_block_83 : decode cX12_block 83 = .ok (.iload_n 2, 1) := by decide +kernel
theorem dX12_block_84 : decode cX12_block 84 = .ok (.iconst 3, 1) := by decide +kernel
theorem dX12_block_85 : decode cX12_block 85 = .ok (.if_icmp .ne 12, 3) := by decide +kernel
theorem dX12_block_88 : decode cX12_block 88 = .ok (.aload_n 0, 1) := by decide +kernel
theorem dX12_block_89 : decode cX12_block 89 = .ok (.getfield 71, 3) := by decide +kernel
theorem dX12_block_92 : decode cX12_block 92 = .ok (.iload_n 1, 1) := by decide +kernel
theorem dX12_block_93 : decode cX12_block 93 = .ok (.iaload, 1) := by decide +kernel
theorem dX12_block_94 : decode cX12_block 94 = .ok (.goto 9, 3) := by decide +kernel
theorem dX12_block_97 : decode cX12_block 97 = .ok (.aload_n 0, 1) := by decide +kernel
theorem dX12_block_98 : decode cX12_block 98 = .ok (.getfield 74, 3) := by decide +kernel
theorem dX12_block_101 : decode cX12_block 101 = .ok (.iload_n 1, 1) := by decide +kernel
theorem dX12_block_102 : decode cX12_block 102 = .ok (.iaload, 1) := by decide +kernel
theorem dX12_block_103 : decode cX12_block 103 = .ok (.ireturn, 1) := by decide +kernel
theorem dX12_freshState_0 : decode cX12_freshState 0 = .ok (.iconst 0, 1) := by decide +kernel
theorem dX12_freshState_1 : decode cX12_freshState 1 = .ok (.istore_n 1, 1) := by decide +kernel
theorem dX12_freshState_2 : decode cX12_freshState 2 = .ok (.iload_n 1, 1) := by decide +kernel
theorem dX12_freshState_3 : decode cX12_freshState 3 = .ok (.sipush 14344, 3) := by decide +kernel
theorem dX12_freshState_6 : decode cX12_freshState 6 = .ok (.if_icmp .ge 18, 3) := by decide +kernel
theorem dX12_freshState_9 : decode cX12_freshState 9 = .ok (.aload_n 0, 1) := by decide +kernel
theorem dX12_freshState_10 : decode cX12_freshState 10 = .ok (.getfield 80, 3) := by decide +kernel
theorem dX12_freshState_13 : decode cX12_freshState 13 = .ok (.iload_n 1, 1) := by decide +kernel
theorem dX12_freshState_14 : decode cX12_freshState 14 = .ok (.sipush 1024, 3) := by decide +kernel
theorem dX12_freshState_17 : decode cX12_freshState 17 = .ok (.iastore, 1) := by decide +kernel
theorem dX12_freshState_18 : decode cX12_freshState 18 = .ok (.iinc 1 1, 3) := by decide +kernel
theorem dX12_freshState_21 : decode cX12_freshState 21 = .ok (.goto (-19), 3) := by decide +kernel
theorem dX12_freshState_24 : decode cX12_freshState 24 = .ok (.aload_n 0, 1) := by decide +kernel
theorem dX12_freshState_25 : decode cX12_freshState 25 = .ok (.iconst 0, 1) := by decide +kernel
theorem dX12_freshState_26 : decode cX12_freshState 26 = .ok (.putfield 231, 3) := by decide +kernel
theorem dX12_freshState_29 : decode cX12_freshState 29 = .ok (.aload_n 0, 1) := by decide +kernel
theorem dX12_freshState_30 : decode cX12_freshState 30 = .ok (.iconst 1, 1) := by decide +kernel
theorem dX12_freshState_31 : decode cX12_freshState 31 = .ok (.putfield 234, 3) := by decide +kernel
theorem dX12_freshState_34 : decode cX12_freshState 34 = .ok (.aload_n 0, 1) := by decide +kernel
theorem dX12_freshState_35 : decode cX12_freshState 35 = .ok (.iconst 1, 1) := by decide +kernel
theorem dX12_freshState_36 : decode cX12_freshState 36 = .ok (.putfield 237, 3) := by decide +kernel
theorem dX12_freshState_39 : decode cX12_freshState 39 = .ok (.aload_n 0, 1) := by decide +kernel
theorem dX12_freshState_40 : decode cX12_freshState 40 = .ok (.iconst 1, 1) := by decide +kernel
theorem dX12_freshState_41 : decode cX12_freshState 41 = .ok (.putfield 240, 3) := by decide +kernel
theorem dX12_freshState_44 : decode cX12_freshState 44 = .ok (.aload_n 0, 1) := by decide +kernel
theorem dX12_freshState_45 : decode cX12_freshState 45 = .ok (.iconst 1, 1) := by decide +kernel
theorem dX12_freshState_46 : decode cX12_freshState 46 = .ok (.putfield 243, 3) := by decide +kernel
theorem dX12_freshState_49 : decode cX12_freshState 49 = .ok (.return_, 1) := by decide +kernel
theorem dX12_beginCoder_0 : decode cX12_beginCoder 0 = .ok (.aload_n 0, 1) := by decide +kernel
theorem dX12_beginCoder_1 : decode cX12_beginCoder 1 = .ok (.iconst 0, 1) := by decide +kernel
theorem dX12_beginCoder_2 : decode cX12_beginCoder 2 = .ok (.putfield 261, 3) := by decide +kernel
theorem dX12_beginCoder_5 : decode cX12_beginCoder 5 = .ok (.aload_n 0, 1) := by decide +kernel
theorem dX12_beginCoder_6 : decode cX12_beginCoder 6 = .ok (.lconst 0, 1) := by decide +kernel
theorem dX12_beginCoder_7 : decode cX12_beginCoder 7 = .ok (.putfield 264, 3) := by decide +kernel
theorem dX12_beginCoder_10 : decode cX12_beginCoder 10 = .ok (.aload_n 0, 1) := by decide +kernel
theorem dX12_beginCoder_11 : decode cX12_beginCoder 11 = .ok (.ldc2_w 267, 3) := by decide +kernel
theorem dX12_beginCoder_14 : decode cX12_beginCoder 14 = .ok (.putfield 269, 3) := by decide +kernel
theorem dX12_beginCoder_17 : decode cX12_beginCoder 17 = .ok (.aload_n 0, 1) := by decide +kernel
theorem dX12_beginCoder_18 : decode cX12_beginCoder 18 = .ok (.iconst 0, 1) := by decide +kernel
theorem dX12_beginCoder_19 : decode cX12_beginCoder 19 = .ok (.putfield 272, 3) := by decide +kernel
theorem dX12_beginCoder_22 : decode cX12_beginCoder 22 = .ok (.aload_n 0, 1) := by decide +kernel
theorem dX12_beginCoder_23 : decode cX12_beginCoder 23 = .ok (.iconst 1, 1) := by decide +kernel
theorem dX12_beginCoder_24 : decode cX12_beginCoder 24 = .ok (.putfield 275, 3) := by decide +kernel
theorem dX12_beginCoder_27 : decode cX12_beginCoder 27 = .ok (.return_, 1) := by decide +kernel
theorem dX12_shift_0 : decode cX12_shift 0 = .ok (.aload_n 0, 1) := by decide +kernel
theorem dX12_shift_1 : decode cX12_shift 1 = .ok (.getfield 264, 3) := by decide +kernel
theorem dX12_shift_4 : decode cX12_shift 4 = .ok (.ldc2_w 278, 3) := by decide +kernel
theorem dX12_shift_7 : decode cX12_shift 7 = .ok (.lcmp, 1) := by decide +kernel
theorem dX12_shift_8 : decode cX12_shift 8 = .ok (.ifCond .lt 14, 3) := by decide +kernel
theorem dX12_shift_11 : decode cX12_shift 11 = .ok (.aload_n 0, 1) := by decide +kernel
theorem dX12_shift_12 : decode cX12_shift 12 = .ok (.getfield 264, 3) := by decide +kernel
theorem dX12_shift_15 : decode cX12_shift 15 = .ok (.ldc2_w 280, 3) := by decide +kernel
theorem dX12_shift_18 : decode cX12_shift 18 = .ok (.lcmp, 1) := by decide +kernel
theorem dX12_shift_19 : decode cX12_shift 19 = .ok (.ifCond .lt 91, 3) := by decide +kernel
theorem dX12_shift_22 : decode cX12_shift 22 = .ok (.aload_n 0, 1) := by decide +kernel
theorem dX12_shift_23 : decode cX12_shift 23 = .ok (.getfield 264, 3) := by decide +kernel
theorem dX12_shift_26 : decode cX12_shift 26 = .ok (.ldc2_w 280, 3) := by decide +kernel
theorem dX12_shift_29 : decode cX12_shift 29 = .ok (.lcmp, 1) := by decide +kernel
theorem dX12_shift_30 : decode cX12_shift 30 = .ok (.ifCond .lt 7, 3) := by decide +kernel
theorem dX12_shift_33 : decode cX12_shift 33 = .ok (.iconst 1, 1) := by decide +kernel
theorem dX12_shift_34 : decode cX12_shift 34 = .ok (.goto 4, 3) := by decide +kernel
theorem dX12_shift_37 : decode cX12_shift 37 = .ok (.iconst 0, 1) := by decide +kernel
theorem dX12_shift_38 : decode cX12_shift 38 = .ok (.istore_n 1, 1) := by decide +kernel
theorem dX12_shift_39 : decode cX12_shift 39 = .ok (.aload_n 0, 1) := by decide +kernel
theorem dX12_shift_40 : decode cX12_shift 40 = .ok (.getfield 272, 3) := by decide +kernel
theorem dX12_shift_43 : decode cX12_shift 43 = .ok (.istore_n 2, 1) := by decide +kernel
theorem dX12_shift_44 : decode cX12_shift 44 = .ok (.aload_n 0, 1) := by decide +kernel
theorem dX12_shift_45 : decode cX12_shift 45 = .ok (.getfield 275, 3) := by decide +kernel
theorem dX12_shift_48 : decode cX12_shift 48 = .ok (.ifCond .le 46, 3) := by decide +kernel
theorem dX12_shift_51 : decode cX12_shift 51 = .ok (.aload_n 0, 1) := by decide +kernel
theorem dX12_shift_52 : decode cX12_shift 52 = .ok (.getfield 86, 3) := by decide +kernel
theorem dX12_shift_55 : decode cX12_shift 55 = .ok (.aload_n 0, 1) := by decide +kernel
theorem dX12_shift_56 : decode cX12_shift 56 = .ok (.getfield 261, 3) := by decide +kernel
theorem dX12_shift_59 : decode cX12_shift 59 = .ok (.iload_n 2, 1) := by decide +kernel
theorem dX12_shift_60 : decode cX12_shift 60 = .ok (.iload_n 1, 1) := by decide +kernel
theorem dX12_shift_61 : decode cX12_shift 61 = .ok (.iadd, 1) := by decide +kernel
theorem dX12_shift_62 : decode cX12_shift 62 = .ok (.sipush 255, 3) := by decide +kernel
theorem dX12_shift_65 : decode cX12_shift 65 = .ok (.iand, 1) := by decide +kernel
theorem dX12_shift_66 : decode cX12_shift 66 = .ok (.iastore, 1) := by decide +kernel
theorem dX12_shift_67 : decode cX12_shift 67 = .ok (.aload_n 0, 1) := by decide +kernel
theorem dX12_shift_68 : decode cX12_shift 68 = .ok (.dup, 1) := by decide +kernel
theorem dX12_shift_69 : decode cX12_shift 69 = .ok (.getfield 261, 3) := by decide +kernel
theorem dX12_shift_72 : decode cX12_shift 72 = .ok (.iconst 1, 1) := by decide +kernel
theorem dX12_shift_73 : decode cX12_shift 73 = .ok (.iadd, 1) := by decide +kernel
theorem dX12_shift_74 : decode cX12_shift 74 = .ok (.putfield 261, 3) := by decide +kernel
theorem dX12_shift_77 : decode cX12_shift 77 = .ok (.sipush 255, 3) := by decide +kernel
theorem dX12_shift_80 : decode cX12_shift 80 = .ok (.istore_n 2, 1) := by decide +kernel
theorem dX12_shift_81 : decode cX12_shift 81 = .ok (.aload_n 0, 1) := by decide +kernel
theorem dX12_shift_82 : decode cX12_shift 82 = .ok (.dup, 1) := by decide +kernel
theorem dX12_shift_83 : decode cX12_shift 83 = .ok (.getfield 275, 3) := by decide +kernel
theorem dX12_shift_86 : decode cX12_shift 86 = .ok (.iconst 1, 1) := by decide +kernel
theorem dX12_shift_87 : decode cX12_shift 87 = .ok (.isub, 1) := by decide +kernel
theorem dX12_shift_88 : decode cX12_shift 88 = .ok (.putfield 275, 3) := by decide +kernel
theorem dX12_shift_91 : decode cX12_shift 91 = .ok (.goto (-47), 3) := by decide +kernel
theorem dX12_shift_94 : decode cX12_shift 94 = .ok (.aload_n 0, 1) := by decide +kernel
theorem dX12_shift_95 : decode cX12_shift 95 = .ok (.aload_n 0, 1) := by decide +kernel
theorem dX12_shift_96 : decode cX12_shift 96 = .ok (.getfield 264, 3) := by decide +kernel
theorem dX12_shift_99 : decode cX12_shift 99 = .ok (.bipush 24, 2) := by decide +kernel
theorem dX12_shift_101 : decode cX12_shift 101 = .ok (.lshr, 1) := by decide +kernel
theorem dX12_shift_102 : decode cX12_shift 102 = .ok (.l2i, 1) := by decide +kernel
theorem dX12_shift_103 : decode cX12_shift 103 = .ok (.sipush 255, 3) := by decide +kernel
theorem dX12_shift_106 : decode cX12_shift 106 = .ok (.iand, 1) := by decide +kernel
theorem dX12_shift_107 : decode cX12_shift 107 = .ok (.putfield 272, 3) := by decide +kernel
theorem dX12_shift_110 : decode cX12_shift 110 = .ok (.aload_n 0, 1) := by decide +kernel
theorem dX12_shift_111 : decode cX12_shift 111 = .ok (.dup, 1) := by decide +kernel
theorem dX12_shift_112 : decode cX12_shift 112 = .ok (.getfield 275, 3) := by decide +kernel
theorem dX12_shift_115 : decode cX12_shift 115 = .ok (.iconst 1, 1) := by decide +kernel
theorem dX12_shift_116 : decode cX12_shift 116 = .ok (.iadd, 1) := by decide +kernel
theorem dX12_shift_117 : decode cX12_shift 117 = .ok (.putfield 275, 3) := by decide +kernel
theorem dX12_shift_120 : decode cX12_shift 120 = .ok (.aload_n 0, 1) := by decide +kernel
theorem dX12_shift_121 : decode cX12_shift 121 = .ok (.aload_n 0, 1) := by decide +kernel
theorem dX12_shift_122 : decode cX12_shift 122 = .ok (.getfield 264, 3) := by decide +kernel
theorem dX12_shift_125 : decode cX12_shift 125 = .ok (.ldc2_w 282, 3) := by decide +kernel
theorem dX12_shift_128 : decode cX12_shift 128 = .ok (.land, 1) := by decide +kernel
theorem dX12_shift_129 : decode cX12_shift 129 = .ok (.bipush 8, 2) := by decide +kernel
theorem dX12_shift_131 : decode cX12_shift 131 = .ok (.lshl, 1) := by decide +kernel
theorem dX12_shift_132 : decode cX12_shift 132 = .ok (.putfield 264, 3) := by decide +kernel
theorem dX12_shift_135 : decode cX12_shift 135 = .ok (.return_, 1) := by decide +kernel
theorem dX12_endCoder_0 : decode cX12_endCoder 0 = .ok (.iconst 0, 1) := by decide +kernel
theorem dX12_endCoder_1 : decode cX12_endCoder 1 = .ok (.istore_n 1, 1) := by decide +kernel
theorem dX12_endCoder_2 : decode cX12_endCoder 2 = .ok (.iload_n 1, 1) := by decide +kernel
theorem dX12_endCoder_3 : decode cX12_endCoder 3 = .ok (.iconst 5, 1) := by decide +kernel
theorem dX12_endCoder_4 : decode cX12_endCoder 4 = .ok (.if_icmp .ge 13, 3) := by decide +kernel
theorem dX12_endCoder_7 : decode cX12_endCoder 7 = .ok (.aload_n 0, 1) := by decide +kernel
theorem dX12_endCoder_8 : decode cX12_endCoder 8 = .ok (.invokevirtual 286, 3) := by decide +kernel
theorem dX12_endCoder_11 : decode cX12_endCoder 11 = .ok (.iinc 1 1, 3) := by decide +kernel
theorem dX12_endCoder_14 : decode cX12_endCoder 14 = .ok (.goto (-12), 3) := by decide +kernel
theorem dX12_endCoder_17 : decode cX12_endCoder 17 = .ok (.return_, 1) := by decide +kernel
theorem dX12_plan_0 : decode cX12_plan 0 = .ok (.aload_n 0, 1) := by decide +kernel
theorem dX12_plan_1 : decode cX12_plan 1 = .ok (.getfield 89, 3) := by decide +kernel
theorem dX12_plan_4 : decode cX12_plan 4 = .ok (.aload_n 0, 1) := by decide +kernel
theorem dX12_plan_5 : decode cX12_plan 5 = .ok (.getfield 303, 3) := by decide +kernel
theorem dX12_plan_8 : decode cX12_plan 8 = .ok (.iconst 0, 1) := by decide +kernel
theorem dX12_plan_9 : decode cX12_plan 9 = .ok (.iastore, 1) := by decide +kernel
theorem dX12_plan_10 : decode cX12_plan 10 = .ok (.aload_n 0, 1) := by decide +kernel
theorem dX12_plan_11 : decode cX12_plan 11 = .ok (.getfield 303, 3) := by decide +kernel
theorem dX12_plan_14 : decode cX12_plan 14 = .ok (.iconst 1, 1) := by decide +kernel
theorem dX12_plan_15 : decode cX12_plan 15 = .ok (.isub, 1) := by decide +kernel
theorem dX12_plan_16 : decode cX12_plan 16 = .ok (.istore_n 2, 1) := by decide +kernel
theorem dX12_plan_17 : decode cX12_plan 17 = .ok (.iload_n 2, 1) := by decide +kernel
theorem dX12_plan_18 : decode cX12_plan 18 = .ok (.iload_n 1, 1) := by decide +kernel
theorem dX12_plan_19 : decode cX12_plan 19 = .ok (.if_icmp .lt 142, 3) := by decide +kernel
theorem dX12_plan_22 : decode cX12_plan 22 = .ok (.aload_n 0, 1) := by decide +kernel
theorem dX12_plan_23 : decode cX12_plan 23 = .ok (.iload_n 2, 1) := by decide +kernel
theorem dX12_plan_24 : decode cX12_plan 24 = .ok (.invokevirtual 315, 3) := by decide +kernel
theorem dX12_plan_27 : decode cX12_plan 27 = .ok (.aload_n 0, 1) := by decide +kernel
theorem dX12_plan_28 : decode cX12_plan 28 = .ok (.getfield 89, 3) := by decide +kernel
theorem dX12_plan_31 : decode cX12_plan 31 = .ok (.iload_n 2, 1) := by decide +kernel
theorem dX12_plan_32 : decode cX12_plan 32 = .ok (.bipush 9, 2) := by decide +kernel
theorem dX12_plan_34 : decode cX12_plan 34 = .ok (.aload_n 0, 1) := by decide +kernel
theorem dX12_plan_35 : decode cX12_plan 35 = .ok (.getfield 89, 3) := by decide +kernel
theorem dX12_plan_38 : decode cX12_plan 38 = .ok (.iload_n 2, 1) := by decide +kernel
theorem dX12_plan_39 : decode cX12_plan 39 = .ok (.iconst 1, 1) := by decide +kernel
theorem dX12_plan_40 : decode cX12_plan 40 = .ok (.iadd, 1) := by decide +kernel
theorem dX12_plan_41 : decode cX12_plan 41 = .ok (.iaload, 1) := by decide +kernel
theorem dX12_plan_42 : decode cX12_plan 42 = .ok (.iadd, 1) := by decide +kernel
theorem dX12_plan_43 : decode cX12_plan 43 = .ok (.iastore, 1) := by decide +kernel
theorem dX12_plan_44 : decode cX12_plan 44 = .ok (.aload_n 0, 1) := by decide +kernel
theorem dX12_plan_45 : decode cX12_plan 45 = .ok (.getfield 92, 3) := by decide +kernel
theorem dX12_plan_48 : decode cX12_plan 48 = .ok (.iload_n 2, 1) := by decide +kernel
theorem dX12_plan_49 : decode cX12_plan 49 = .ok (.iconst 1, 1) := by decide +kernel
theorem dX12_plan_50 : decode cX12_plan 50 = .ok (.iastore, 1) := by decide +kernel
theorem dX12_plan_51 : decode cX12_plan 51 = .ok (.aload_n 0, 1) := by decide +kernel
theorem dX12_plan_52 : decode cX12_plan 52 = .ok (.getfield 95, 3) := by decide +kernel
theorem dX12_plan_55 : decode cX12_plan 55 = .ok (.iload_n 2, 1) := by decide +kernel
theorem dX12_plan_56 : decode cX12_plan 56 = .ok (.iconst 0, 1) := by decide +kernel
theorem dX12_plan_57 : decode cX12_plan 57 = .ok (.iastore, 1) := by decide +kernel
theorem dX12_plan_58 : decode cX12_plan 58 = .ok (.iconst 2, 1) := by decide +kernel
theorem dX12_plan_59 : decode cX12_plan 59 = .ok (.istore_n 3, 1) := by decide +kernel
theorem dX12_plan_60 : decode cX12_plan 60 = .ok (.iload_n 3, 1) := by decide +kernel
theorem dX12_plan_61 : decode cX12_plan 61 = .ok (.aload_n 0, 1) := by decide +kernel
theorem dX12_plan_62 : decode cX12_plan 62 = .ok (.getfield 306, 3) := by decide +kernel
theorem dX12_plan_65 : decode cX12_plan 65 = .ok (.if_icmp .gt 90, 3) := by decide +kernel
theorem dX12_plan_68 : decode cX12_plan 68 = .ok (.bipush 7, 2) := by decide +kernel
theorem dX12_plan_70 : decode cX12_plan 70 = .ok (.iload_n 3, 1) := by decide +kernel
theorem dX12_plan_71 : decode cX12_plan 71 = .ok (.bipush 9, 2) := by decide +kernel
theorem dX12_plan_73 : decode cX12_plan 73 = .ok (.if_icmp .le 7, 3) := by decide +kernel
theorem dX12_plan_76 : decode cX12_plan 76 = .ok (.iconst 3, 1) := by decide +kernel
theorem dX12_plan_77 : decode cX12_plan 77 = .ok (.goto 4, 3) := by decide +kernel
theorem dX12_plan_80 : decode cX12_plan 80 = .ok (.iconst 0, 1) := by decide +kernel
theorem dX12_plan_81 : decode cX12_plan 81 = .ok (.iadd, 1) := by decide +kernel
theorem dX12_plan_82 : decode cX12_plan 82 = .ok (.iload_n 3, 1) := by decide +kernel
theorem dX12_plan_83 : decode cX12_plan 83 = .ok (.bipush 17, 2) := by decide +kernel
theorem dX12_plan_85 : decode cX12_plan 85 = .ok (.if_icmp .le 7, 3) := by decide +kernel
theorem dX12_plan_88 : decode cX12_plan 88 = .ok (.iconst 5, 1) := by decide +kernel
theorem dX12_plan_89 : decode cX12_plan 89 = .ok (.goto 4, 3) := by decide +kernel
theorem dX12_plan_92 : decode cX12_plan 92 = .ok (.iconst 0, 1) := by decide +kernel
theorem dX12_plan_93 : decode cX12_plan 93 = .ok (.iadd, 1) := by decide +kernel
theorem dX12_plan_94 : decode cX12_plan 94 = .ok (.aload_n 0, 1) := by decide +kernel
theorem dX12_plan_95 : decode cX12_plan 95 = .ok (.getfield 309, 3) := by decide +kernel
theorem dX12_plan_98 : decode cX12_plan 98 = .ok (.invokestatic 333, 3) := by decide +kernel
theorem dX12_plan_101 : decode cX12_plan 101 = .ok (.iadd, 1) := by decide +kernel
theorem dX12_plan_102 : decode cX12_plan 102 = .ok (.aload_n 0, 1) := by decide +kernel
theorem dX12_plan_103 : decode cX12_plan 103 = .ok (.getfield 89, 3) := by decide +kernel
theorem dX12_plan_106 : decode cX12_plan 106 = .ok (.iload_n 2, 1) := by decide +kernel
theorem dX12_plan_107 : decode cX12_plan 107 = .ok (.iload_n 3, 1) := by decide +kernel
theorem dX12_plan_108 : decode cX12_plan 108 = .ok (.iadd, 1) := by decide +kernel
theorem dX12_plan_109 : decode cX12_plan 109 = .ok (.iaload, 1) := by decide +kernel
theorem dX12_plan_110 : decode cX12_plan 110 = .ok (.iadd, 1) := by decide +kernel
theorem dX12_plan_111 : decode cX12_plan 111 = .ok (.istore 4, 2) := by decide +kernel
theorem dX12_plan_113 : decode cX12_plan 113 = .ok (.iload 4, 2) := by decide +kernel
theorem dX12_plan_115 : decode cX12_plan 115 = .ok (.aload_n 0, 1) := by decide +kernel
theorem dX12_plan_116 : decode cX12_plan 116 = .ok (.getfield 89, 3) := by decide +kernel
theorem dX12_plan_119 : decode cX12_plan 119 = .ok (.iload_n 2, 1) := by decide +kernel
theorem dX12_plan_120 : decode cX12_plan 120 = .ok (.iaload, 1) := by decide +kernel
theorem dX12_plan_121 : decode cX12_plan 121 = .ok (.if_icmp .gt 28, 3) := by decide +kernel
theorem dX12_plan_124 : decode cX12_plan 124 = .ok (.aload_n 0, 1) := by decide +kernel
theorem dX12_plan_125 : decode cX12_plan 125 = .ok (.getfield 89, 3) := by decide +kernel
theorem dX12_plan_128 : decode cX12_plan 128 = .ok (.iload_n 2, 1) := by decide +kernel
theorem dX12_plan_129 : decode cX12_plan 129 = .ok (.iload 4, 2) := by decide +kernel
theorem dX12_plan_131 : decode cX12_plan 131 = .ok (.iastore, 1) := by decide +kernel
theorem dX12_plan_132 : decode cX12_plan 132 = .ok (.aload_n 0, 1) := by decide +kernel
theorem dX12_plan_133 : decode cX12_plan 133 = .ok (.getfield 92, 3) := by decide +kernel
theorem dX12_plan_136 : decode cX12_plan 136 = .ok (.iload_n 2, 1) := by decide +kernel
theorem dX12_plan_137 : decode cX12_plan 137 = .ok (.iload_n 3, 1) := by decide +kernel
theorem dX12_plan_138 : decode cX12_plan 138 = .ok (.iastore, 1) := by decide +kernel
theorem dX12_plan_139 : decode cX12_plan 139 = .ok (.aload_n 0, 1) := by decide +kernel
theorem dX12_plan_140 : decode cX12_plan 140 = .ok (.getfield 95, 3) := by decide +kernel
theorem dX12_plan_143 : decode cX12_plan 143 = .ok (.iload_n 2, 1) := by decide +kernel
theorem dX12_plan_144 : decode cX12_plan 144 = .ok (.aload_n 0, 1) := by decide +kernel
theorem dX12_plan_145 : decode cX12_plan 145 = .ok (.getfield 309, 3) := by decide +kernel
theorem dX12_plan_148 : decode cX12_plan 148 = .ok (.iastore, 1) := by decide +kernel
theorem dX12_plan_149 : decode cX12_plan 149 = .ok (.iinc 3 1, 3) := by decide +kernel
theorem dX12_plan_152 : decode cX12_plan 152 = .ok (.goto (-92), 3) := by decide +kernel
theorem dX12_plan_155 : decode cX12_plan 155 = .ok (.iinc 2 (-1), 3) := by decide +kernel
theorem dX12_plan_158 : decode cX12_plan 158 = .ok (.goto (-141), 3) := by decide +kernel
theorem dX12_plan_161 : decode cX12_plan 161 = .ok (.return_, 1) := by decide +kernel
theorem dX12_putPart_0 : decode cX12_putPart 0 = .ok (.aload_n 0, 1) := by decide +kernel
theorem dX12_putPart_1 : decode cX12_putPart 1 = .ok (.iload_n 2, 1) := by decide +kernel
theorem dX12_putPart_2 : decode cX12_putPart 2 = .ok (.putfield 303, 3) := by decide +kernel
theorem dX12_putPart_5 : decode cX12_putPart 5 = .ok (.aload_n 0, 1) := by decide +kernel
theorem dX12_putPart_6 : decode cX12_putPart 6 = .ok (.getfield 360, 3) := by decide +kernel
theorem dX12_putPart_9 : decode cX12_putPart 9 = .ok (.iconst 2, 1) := by decide +kernel
theorem dX12_putPart_10 : decode cX12_putPart 10 = .ok (.if_icmp .ne 8, 3) := by decide +kernel
theorem dX12_putPart_13 : decode cX12_putPart 13 = .ok (.aload_n 0, 1) := by decide +kernel
theorem dX12_putPart_14 : decode cX12_putPart 14 = .ok (.iload_n 1, 1) := by decide +kernel
theorem dX12_putPart_15 : decode cX12_putPart 15 = .ok (.invokevirtual 363, 3) := by decide +kernel
theorem dX12_putPart_18 : decode cX12_putPart 18 = .ok (.iload_n 1, 1) := by decide +kernel
theorem dX12_putPart_19 : decode cX12_putPart 19 = .ok (.istore_n 3, 1) := by decide +kernel
theorem dX12_putPart_20 : decode cX12_putPart 20 = .ok (.iload_n 3, 1) := by decide +kernel
theorem dX12_putPart_21 : decode cX12_putPart 21 = .ok (.iload_n 2, 1) := by decide +kernel
theorem dX12_putPart_22 : decode cX12_putPart 22 = .ok (.if_icmp .ge 161, 3) := by decide +kernel
theorem dX12_putPart_25 : decode cX12_putPart 25 = .ok (.aload_n 0, 1) := by decide +kernel
theorem dX12_putPart_26 : decode cX12_putPart 26 = .ok (.getfield 360, 3) := by decide +kernel
theorem dX12_putPart_29 : decode cX12_putPart 29 = .ok (.ifCond .ne 11, 3) := by decide +kernel
theorem dX12_putPart_32 : decode cX12_putPart 32 = .ok (.aload_n 0, 1) := by decide +kernel
theorem dX12_putPart_33 : decode cX12_putPart 33 = .ok (.iload_n 3, 1) := by decide +kernel
theorem dX12_putPart_34 : decode cX12_putPart 34 = .ok (.invokevirtual 330, 3) := by decide +kernel
theorem dX12_putPart_37 : decode cX12_putPart 37 = .ok (.goto 24, 3) := by decide +kernel
theorem dX12_putPart_40 : decode cX12_putPart 40 = .ok (.aload_n 0, 1) := by decide +kernel
theorem dX12_putPart_41 : decode cX12_putPart 41 = .ok (.getfield 360, 3) := by decide +kernel
theorem dX12_putPart_44 : decode cX12_putPart 44 = .ok (.iconst 1, 1) := by decide +kernel
theorem dX12_putPart_45 : decode cX12_putPart 45 = .ok (.if_icmp .ne 11, 3) := by decide +kernel
theorem dX12_putPart_48 : decode cX12_putPart 48 = .ok (.aload_n 0, 1) := by decide +kernel
theorem dX12_putPart_49 : decode cX12_putPart 49 = .ok (.iload_n 3, 1) := by decide +kernel
theorem dX12_putPart_50 : decode cX12_putPart 50 = .ok (.invokevirtual 366, 3) := by decide +kernel
theorem dX12_putPart_53 : decode cX12_putPart 53 = .ok (.goto 8, 3) := by decide +kernel
theorem dX12_putPart_56 : decode cX12_putPart 56 = .ok (.aload_n 0, 1) := by decide +kernel
theorem dX12_putPart_57 : decode cX12_putPart 57 = .ok (.iload_n 3, 1) := by decide +kernel
theorem dX12_putPart_58 : decode cX12_putPart 58 = .ok (.invokevirtual 369, 3) := by decide +kernel
theorem dX12_putPart_61 : decode cX12_putPart 61 = .ok (.aload_n 0, 1) := by decide +kernel
theorem dX12_putPart_62 : decode cX12_putPart 62 = .ok (.aload_n 0, 1) := by decide +kernel
theorem dX12_putPart_63 : decode cX12_putPart 63 = .ok (.getfield 321, 3) := by decide +kernel
theorem dX12_putPart_66 : decode cX12_putPart 66 = .ok (.aload_n 0, 1) := by decide +kernel
theorem dX12_putPart_67 : decode cX12_putPart 67 = .ok (.getfield 372, 3) := by decide +kernel
theorem dX12_putPart_70 : decode cX12_putPart 70 = .ok (.iload_n 3, 1) := by decide +kernel
theorem dX12_putPart_71 : decode cX12_putPart 71 = .ok (.iadd, 1) := by decide +kernel
theorem dX12_putPart_72 : decode cX12_putPart 72 = .ok (.aload_n 0, 1) := by decide +kernel
theorem dX12_putPart_73 : decode cX12_putPart 73 = .ok (.getfield 324, 3) := by decide +kernel
theorem dX12_putPart_76 : decode cX12_putPart 76 = .ok (.aload_n 0, 1) := by decide +kernel
theorem dX12_putPart_77 : decode cX12_putPart 77 = .ok (.getfield 327, 3) := by decide +kernel
theorem dX12_putPart_80 : decode cX12_putPart 80 = .ok (.invokevirtual 375, 3) := by decide +kernel
theorem dX12_putPart_83 : decode cX12_putPart 83 = .ok (.aload_n 0, 1) := by decide +kernel
theorem dX12_putPart_84 : decode cX12_putPart 84 = .ok (.getfield 324, 3) := by decide +kernel
theorem dX12_putPart_87 : decode cX12_putPart 87 = .ok (.istore 4, 2) := by decide +kernel
theorem dX12_putPart_89 : decode cX12_putPart 89 = .ok (.aload_n 0, 1) := by decide +kernel
theorem dX12_putPart_90 : decode cX12_putPart 90 = .ok (.getfield 321, 3) := by decide +kernel
theorem dX12_putPart_93 : decode cX12_putPart 93 = .ok (.ifCond .ne 11, 3) := by decide +kernel
theorem dX12_putPart_96 : decode cX12_putPart 96 = .ok (.aload_n 0, 1) := by decide +kernel
theorem dX12_putPart_97 : decode cX12_putPart 97 = .ok (.iload_n 3, 1) := by decide +kernel
theorem dX12_putPart_98 : decode cX12_putPart 98 = .ok (.invokevirtual 379, 3) := by decide +kernel
theorem dX12_putPart_101 : decode cX12_putPart 101 = .ok (.goto 63, 3) := by decide +kernel
theorem dX12_putPart_104 : decode cX12_putPart 104 = .ok (.aload_n 0, 1) := by decide +kernel
theorem dX12_putPart_105 : decode cX12_putPart 105 = .ok (.getfield 321, 3) := by decide +kernel
theorem dX12_putPart_108 : decode cX12_putPart 108 = .ok (.bipush 6, 2) := by decide +kernel
theorem dX12_putPart_110 : decode cX12_putPart 110 = .ok (.if_icmp .ne 12, 3) := by decide +kernel
theorem dX12_putPart_113 : decode cX12_putPart 113 = .ok (.aload_n 0, 1) := by decide +kernel
theorem dX12_putPart_114 : decode cX12_putPart 114 = .ok (.iconst 0, 1) := by decide +kernel
theorem dX12_putPart_115 : decode cX12_putPart 115 = .ok (.iconst 0, 1) := by decide +kernel
theorem dX12_putPart_116 : decode cX12_putPart 116 = .ok (.invokevirtual 382, 3) := by decide +kernel
theorem dX12_putPart_119 : decode cX12_putPart 119 = .ok (.goto 45, 3) := by decide +kernel
theorem dX12_putPart_122 : decode cX12_putPart 122 = .ok (.aload_n 0, 1) := by decide +kernel
theorem dX12_putPart_123 : decode cX12_putPart 123 = .ok (.getfield 321, 3) := by decide +kernel
theorem dX12_putPart_126 : decode cX12_putPart 126 = .ok (.iconst 1, 1) := by decide +kernel
theorem dX12_putPart_127 : decode cX12_putPart 127 = .ok (.if_icmp .ne 25, 3) := by decide +kernel
theorem dX12_putPart_130 : decode cX12_putPart 130 = .ok (.aload_n 0, 1) := by decide +kernel
theorem dX12_putPart_131 : decode cX12_putPart 131 = .ok (.iload 4, 2) := by decide +kernel
theorem dX12_putPart_133 : decode cX12_putPart 133 = .ok (.aload_n 0, 1) := by decide +kernel
theorem dX12_putPart_134 : decode cX12_putPart 134 = .ok (.getfield 327, 3) := by decide +kernel
theorem dX12_putPart_137 : decode cX12_putPart 137 = .ok (.i2l, 1) := by decide +kernel
theorem dX12_putPart_138 : decode cX12_putPart 138 = .ok (.invokevirtual 385, 3) := by decide +kernel
theorem dX12_putPart_141 : decode cX12_putPart 141 = .ok (.aload_n 0, 1) := by decide +kernel
theorem dX12_putPart_142 : decode cX12_putPart 142 = .ok (.aload_n 0, 1) := by decide +kernel
theorem dX12_putPart_143 : decode cX12_putPart 143 = .ok (.getfield 327, 3) := by decide +kernel
theorem dX12_putPart_146 : decode cX12_putPart 146 = .ok (.invokevirtual 388, 3) := by decide +kernel
theorem dX12_putPart_149 : decode cX12_putPart 149 = .ok (.goto 15, 3) := by decide +kernel
theorem dX12_putPart_152 : decode cX12_putPart 152 = .ok (.aload_n 0, 1) := by decide +kernel
theorem dX12_putPart_153 : decode cX12_putPart 153 = .ok (.aload_n 0, 1) := by decide +kernel
theorem dX12_putPart_154 : decode cX12_putPart 154 = .ok (.getfield 321, 3) := by decide +kernel
theorem dX12_putPart_157 : decode cX12_putPart 157 = .ok (.iconst 2, 1) := by decide +kernel
theorem dX12_putPart_158 : decode cX12_putPart 158 = .ok (.isub, 1) := by decide +kernel
theorem dX12_putPart_159 : decode cX12_putPart 159 = .ok (.iload 4, 2) := by decide +kernel
theorem dX12_putPart_161 : decode cX12_putPart 161 = .ok (.invokevirtual 382, 3) := by decide +kernel
theorem dX12_putPart_164 : decode cX12_putPart 164 = .ok (.aload_n 0, 1) := by decide +kernel
theorem dX12_putPart_165 : decode cX12_putPart 165 = .ok (.dup, 1) := by decide +kernel
theorem dX12_putPart_166 : decode cX12_putPart 166 = .ok (.getfield 249, 3) := by decide +kernel
theorem dX12_putPart_169 : decode cX12_putPart 169 = .ok (.iload 4, 2) := by decide +kernel
theorem dX12_putPart_171 : decode cX12_putPart 171 = .ok (.iadd, 1) := by decide +kernel
theorem dX12_putPart_172 : decode cX12_putPart 172 = .ok (.putfield 249, 3) := by decide +kernel
theorem dX12_putPart_175 : decode cX12_putPart 175 = .ok (.iload_n 3, 1) := by decide +kernel
theorem dX12_putPart_176 : decode cX12_putPart 176 = .ok (.iload 4, 2) := by decide +kernel
theorem dX12_putPart_178 : decode cX12_putPart 178 = .ok (.iadd, 1) := by decide +kernel
theorem dX12_putPart_179 : decode cX12_putPart 179 = .ok (.istore_n 3, 1) := by decide +kernel
theorem dX12_putPart_180 : decode cX12_putPart 180 = .ok (.goto (-160), 3) := by decide +kernel
theorem dX12_putPart_183 : decode cX12_putPart 183 = .ok (.return_, 1) := by decide +kernel
theorem dX12_put_0 : decode cX12_put 0 = .ok (.aload_n 0, 1) := by decide +kernel
theorem dX12_put_1 : decode cX12_put 1 = .ok (.getfield 391, 3) := by decide +kernel
theorem dX12_put_4 : decode cX12_put 4 = .ok (.sipush 20000, 3) := by decide +kernel
theorem dX12_put_7 : decode cX12_put 7 = .ok (.if_icmp .ge 17, 3) := by decide +kernel
theorem dX12_put_10 : decode cX12_put 10 = .ok (.aload_n 0, 1) := by decide +kernel
theorem dX12_put_11 : decode cX12_put 11 = .ok (.getfield 98, 3) := by decide +kernel
theorem dX12_put_14 : decode cX12_put 14 = .ok (.aload_n 0, 1) := by decide +kernel
theorem dX12_put_15 : decode cX12_put 15 = .ok (.getfield 391, 3) := by decide +kernel
theorem dX12_put_18 : decode cX12_put 18 = .ok (.iload_n 1, 1) := by decide +kernel
theorem dX12_put_19 : decode cX12_put 19 = .ok (.sipush 255, 3) := by decide +kernel
theorem dX12_put_22 : decode cX12_put 22 = .ok (.iand, 1) := by decide +kernel
theorem dX12_put_23 : decode cX12_put 23 = .ok (.iastore, 1) := by decide +kernel
theorem dX12_put_24 : decode cX12_put 24 = .ok (.aload_n 0, 1) := by decide +kernel
theorem dX12_put_25 : decode cX12_put 25 = .ok (.dup, 1) := by decide +kernel
theorem dX12_put_26 : decode cX12_put 26 = .ok (.getfield 391, 3) := by decide +kernel
theorem dX12_put_29 : decode cX12_put 29 = .ok (.iconst 1, 1) := by decide +kernel
theorem dX12_put_30 : decode cX12_put 30 = .ok (.iadd, 1) := by decide +kernel
theorem dX12_put_31 : decode cX12_put 31 = .ok (.putfield 391, 3) := by decide +kernel
theorem dX12_put_34 : decode cX12_put 34 = .ok (.return_, 1) := by decide +kernel
theorem dX12_putWide_0 : decode cX12_putWide 0 = .ok (.iconst 0, 1) := by decide +kernel
theorem dX12_putWide_1 : decode cX12_putWide 1 = .ok (.istore 4, 2) := by decide +kernel
theorem dX12_putWide_3 : decode cX12_putWide 3 = .ok (.iload 4, 2) := by decide +kernel
theorem dX12_putWide_5 : decode cX12_putWide 5 = .ok (.iload_n 3, 1) := by decide +kernel
theorem dX12_putWide_6 : decode cX12_putWide 6 = .ok (.if_icmp .ge 21, 3) := by decide +kernel
theorem dX12_putWide_9 : decode cX12_putWide 9 = .ok (.aload_n 0, 1) := by decide +kernel
theorem dX12_putWide_10 : decode cX12_putWide 10 = .ok (.lload_n 1, 1) := by decide +kernel
theorem dX12_putWide_11 : decode cX12_putWide 11 = .ok (.bipush 8, 2) := by decide +kernel
theorem dX12_putWide_13 : decode cX12_putWide 13 = .ok (.iload 4, 2) := by decide +kernel
theorem dX12_putWide_15 : decode cX12_putWide 15 = .ok (.imul, 1) := by decide +kernel
theorem dX12_putWide_16 : decode cX12_putWide 16 = .ok (.lshr, 1) := by decide +kernel
theorem dX12_putWide_17 : decode cX12_putWide 17 = .ok (.l2i, 1) := by decide +kernel
theorem dX12_putWide_18 : decode cX12_putWide 18 = .ok (.invokevirtual 394, 3) := by decide +kernel
theorem dX12_putWide_21 : decode cX12_putWide 21 = .ok (.iinc 4 1, 3) := by decide +kernel
theorem dX12_putWide_24 : decode cX12_putWide 24 = .ok (.goto (-21), 3) := by decide +kernel
theorem dX12_putWide_27 : decode cX12_putWide 27 = .ok (.return_, 1) := by decide +kernel
theorem dX12_takeProperties_0 : decode cX12_takeProperties 0 = .ok (.aload_n 0, 1) := by decide +kernel
theorem dX12_takeProperties_1 : decode cX12_takeProperties 1 = .ok (.aload_n 0, 1) := by decide +kernel
theorem dX12_takeProperties_2 : decode cX12_takeProperties 2 = .ok (.getfield 7, 3) := by decide +kernel
theorem dX12_takeProperties_5 : decode cX12_takeProperties 5 = .ok (.putfield 258, 3) := by decide +kernel
theorem dX12_takeProperties_8 : decode cX12_takeProperties 8 = .ok (.aload_n 0, 1) := by decide +kernel
theorem dX12_takeProperties_9 : decode cX12_takeProperties 9 = .ok (.aload_n 0, 1) := by decide +kernel
theorem dX12_takeProperties_10 : decode cX12_takeProperties 10 = .ok (.getfield 114, 3) := by decide +kernel
theorem dX12_takeProperties_13 : decode cX12_takeProperties 13 = .ok (.putfield 255, 3) := by decide +kernel
theorem dX12_takeProperties_16 : decode cX12_takeProperties 16 = .ok (.aload_n 0, 1) := by decide +kernel
theorem dX12_takeProperties_17 : decode cX12_takeProperties 17 = .ok (.aload_n 0, 1) := by decide +kernel
theorem dX12_takeProperties_18 : decode cX12_takeProperties 18 = .ok (.getfield 13, 3) := by decide +kernel
theorem dX12_takeProperties_21 : decode cX12_takeProperties 21 = .ok (.putfield 252, 3) := by decide +kernel
theorem dX12_takeProperties_24 : decode cX12_takeProperties 24 = .ok (.return_, 1) := by decide +kernel
theorem dX12_propertyByte_0 : decode cX12_propertyByte 0 = .ok (.aload_n 0, 1) := by decide +kernel
theorem dX12_propertyByte_1 : decode cX12_propertyByte 1 = .ok (.getfield 13, 3) := by decide +kernel
theorem dX12_propertyByte_4 : decode cX12_propertyByte 4 = .ok (.iconst 5, 1) := by decide +kernel
theorem dX12_propertyByte_5 : decode cX12_propertyByte 5 = .ok (.imul, 1) := by decide +kernel
theorem dX12_propertyByte_6 : decode cX12_propertyByte 6 = .ok (.aload_n 0, 1) := by decide +kernel
theorem dX12_propertyByte_7 : decode cX12_propertyByte 7 = .ok (.getfield 114, 3) := by decide +kernel
theorem dX12_propertyByte_10 : decode cX12_propertyByte 10 = .ok (.iadd, 1) := by decide +kernel
theorem dX12_propertyByte_11 : decode cX12_propertyByte 11 = .ok (.bipush 9, 2) := by decide +kernel
theorem dX12_propertyByte_13 : decode cX12_propertyByte 13 = .ok (.imul, 1) := by decide +kernel
theorem dX12_propertyByte_14 : decode cX12_propertyByte 14 = .ok (.aload_n 0, 1) := by decide +kernel
theorem dX12_propertyByte_15 : decode cX12_propertyByte 15 = .ok (.getfield 7, 3) := by decide +kernel
theorem dX12_propertyByte_18 : decode cX12_propertyByte 18 = .ok (.iadd, 1) := by decide +kernel
theorem dX12_propertyByte_19 : decode cX12_propertyByte 19 = .ok (.ireturn, 1) := by decide +kernel
theorem dX12_packPlain_0 : decode cX12_packPlain 0 = .ok (.aload_n 0, 1) := by decide +kernel
theorem dX12_packPlain_1 : decode cX12_packPlain 1 = .ok (.aload_n 0, 1) := by decide +kernel
theorem dX12_packPlain_2 : decode cX12_packPlain 2 = .ok (.invokevirtual 397, 3) := by decide +kernel
theorem dX12_packPlain_5 : decode cX12_packPlain 5 = .ok (.invokevirtual 394, 3) := by decide +kernel
theorem dX12_packPlain_8 : decode cX12_packPlain 8 = .ok (.aload_n 0, 1) := by decide +kernel
theorem dX12_packPlain_9 : decode cX12_packPlain 9 = .ok (.aload_n 0, 1) := by decide +kernel
theorem dX12_packPlain_10 : decode cX12_packPlain 10 = .ok (.getfield 16, 3) := by decide +kernel
theorem dX12_packPlain_13 : decode cX12_packPlain 13 = .ok (.i2l, 1) := by decide +kernel
theorem dX12_packPlain_14 : decode cX12_packPlain 14 = .ok (.iconst 4, 1) := by decide +kernel
theorem dX12_packPlain_15 : decode cX12_packPlain 15 = .ok (.invokevirtual 400, 3) := by decide +kernel
theorem dX12_packPlain_18 : decode cX12_packPlain 18 = .ok (.aload_n 0, 1) := by decide +kernel
theorem dX12_packPlain_19 : decode cX12_packPlain 19 = .ok (.aload_n 0, 1) := by decide +kernel
theorem dX12_packPlain_20 : decode cX12_packPlain 20 = .ok (.getfield 117, 3) := by decide +kernel
theorem dX12_packPlain_23 : decode cX12_packPlain 23 = .ok (.iconst 1, 1) := by decide +kernel
theorem dX12_packPlain_24 : decode cX12_packPlain 24 = .ok (.if_icmp .ne 9, 3) := by decide +kernel
theorem dX12_packPlain_27 : decode cX12_packPlain 27 = .ok (.ldc2_w 177, 3) := by decide +kernel
theorem dX12_packPlain_30 : decode cX12_packPlain 30 = .ok (.goto 8, 3) := by decide +kernel
theorem dX12_packPlain_33 : decode cX12_packPlain 33 = .ok (.aload_n 0, 1) := by decide +kernel
theorem dX12_packPlain_34 : decode cX12_packPlain 34 = .ok (.getfield 126, 3) := by decide +kernel
theorem dX12_packPlain_37 : decode cX12_packPlain 37 = .ok (.i2l, 1) := by decide +kernel
theorem dX12_packPlain_38 : decode cX12_packPlain 38 = .ok (.bipush 8, 2) := by decide +kernel
theorem dX12_packPlain_40 : decode cX12_packPlain 40 = .ok (.invokevirtual 400, 3) := by decide +kernel
theorem dX12_packPlain_43 : decode cX12_packPlain 43 = .ok (.aload_n 0, 1) := by decide +kernel
theorem dX12_packPlain_44 : decode cX12_packPlain 44 = .ok (.aload_n 0, 1) := by decide +kernel
theorem dX12_packPlain_45 : decode cX12_packPlain 45 = .ok (.getfield 126, 3) := by decide +kernel
theorem dX12_packPlain_48 : decode cX12_packPlain 48 = .ok (.putfield 208, 3) := by decide +kernel
theorem dX12_packPlain_51 : decode cX12_packPlain 51 = .ok (.iconst 0, 1) := by decide +kernel
theorem dX12_packPlain_52 : decode cX12_packPlain 52 = .ok (.istore_n 1, 1) := by decide +kernel
theorem dX12_packPlain_53 : decode cX12_packPlain 53 = .ok (.iload_n 1, 1) := by decide +kernel
theorem dX12_packPlain_54 : decode cX12_packPlain 54 = .ok (.aload_n 0, 1) := by decide +kernel
theorem dX12_packPlain_55 : decode cX12_packPlain 55 = .ok (.getfield 126, 3) := by decide +kernel
theorem dX12_packPlain_58 : decode cX12_packPlain 58 = .ok (.if_icmp .ge 21, 3) := by decide +kernel
theorem dX12_packPlain_61 : decode cX12_packPlain 61 = .ok (.aload_n 0, 1) := by decide +kernel
theorem dX12_packPlain_62 : decode cX12_packPlain 62 = .ok (.getfield 47, 3) := by decide +kernel
theorem dX12_packPlain_65 : decode cX12_packPlain 65 = .ok (.iload_n 1, 1) := by decide +kernel
theorem dX12_packPlain_66 : decode cX12_packPlain 66 = .ok (.aload_n 0, 1) := by decide +kernel
theorem dX12_packPlain_67 : decode cX12_packPlain 67 = .ok (.getfield 28, 3) := by decide +kernel
theorem dX12_packPlain_70 : decode cX12_packPlain 70 = .ok (.iload_n 1, 1) := by decide +kernel
theorem dX12_packPlain_71 : decode cX12_packPlain 71 = .ok (.iaload, 1) := by decide +kernel
theorem dX12_packPlain_72 : decode cX12_packPlain 72 = .ok (.iastore, 1) := by decide +kernel
theorem dX12_packPlain_73 : decode cX12_packPlain 73 = .ok (.iinc 1 1, 3) := by decide +kernel
theorem dX12_packPlain_76 : decode cX12_packPlain 76 = .ok (.goto (-23), 3) := by decide +kernel
theorem dX12_packPlain_79 : decode cX12_packPlain 79 = .ok (.aload_n 0, 1) := by decide +kernel
theorem dX12_packPlain_80 : decode cX12_packPlain 80 = .ok (.iconst 0, 1) := by decide +kernel
theorem dX12_packPlain_81 : decode cX12_packPlain 81 = .ok (.putfield 372, 3) := by decide +kernel
theorem dX12_packPlain_84 : decode cX12_packPlain 84 = .ok (.aload_n 0, 1) := by decide +kernel
theorem dX12_packPlain_85 : decode cX12_packPlain 85 = .ok (.invokevirtual 404, 3) := by decide +kernel
theorem dX12_packPlain_88 : decode cX12_packPlain 88 = .ok (.aload_n 0, 1) := by decide +kernel
theorem dX12_packPlain_89 : decode cX12_packPlain 89 = .ok (.invokevirtual 407, 3) := by decide +kernel
theorem dX12_packPlain_92 : decode cX12_packPlain 92 = .ok (.aload_n 0, 1) := by decide +kernel
theorem dX12_packPlain_93 : decode cX12_packPlain 93 = .ok (.iconst 0, 1) := by decide +kernel
theorem dX12_packPlain_94 : decode cX12_packPlain 94 = .ok (.putfield 249, 3) := by decide +kernel
theorem dX12_packPlain_97 : decode cX12_packPlain 97 = .ok (.aload_n 0, 1) := by decide +kernel
theorem dX12_packPlain_98 : decode cX12_packPlain 98 = .ok (.invokevirtual 410, 3) := by decide +kernel
theorem dX12_packPlain_101 : decode cX12_packPlain 101 = .ok (.aload_n 0, 1) := by decide +kernel
theorem dX12_packPlain_102 : decode cX12_packPlain 102 = .ok (.iconst 0, 1) := by decide +kernel
theorem dX12_packPlain_103 : decode cX12_packPlain 103 = .ok (.aload_n 0, 1) := by decide +kernel
theorem dX12_packPlain_104 : decode cX12_packPlain 104 = .ok (.getfield 208, 3) := by decide +kernel
theorem dX12_packPlain_107 : decode cX12_packPlain 107 = .ok (.invokevirtual 413, 3) := by decide +kernel
theorem dX12_packPlain_110 : decode cX12_packPlain 110 = .ok (.aload_n 0, 1) := by decide +kernel
theorem dX12_packPlain_111 : decode cX12_packPlain 111 = .ok (.getfield 117, 3) := by decide +kernel
theorem dX12_packPlain_114 : decode cX12_packPlain 114 = .ok (.iconst 1, 1) := by decide +kernel
theorem dX12_packPlain_115 : decode cX12_packPlain 115 = .ok (.if_icmp .ne 33, 3) := by decide +kernel
theorem dX12_packPlain_118 : decode cX12_packPlain 118 = .ok (.aload_n 0, 1) := by decide +kernel
theorem dX12_packPlain_119 : decode cX12_packPlain 119 = .ok (.bipush 7, 2) := by decide +kernel
theorem dX12_packPlain_121 : decode cX12_packPlain 121 = .ok (.aload_n 0, 1) := by decide +kernel
theorem dX12_packPlain_122 : decode cX12_packPlain 122 = .ok (.getfield 126, 3) := by decide +kernel
theorem dX12_packPlain_125 : decode cX12_packPlain 125 = .ok (.iconst 0, 1) := by decide +kernel
theorem dX12_packPlain_126 : decode cX12_packPlain 126 = .ok (.iconst 0, 1) := by decide +kernel
theorem dX12_packPlain_127 : decode cX12_packPlain 127 = .ok (.invokevirtual 375, 3) := by decide +kernel
theorem dX12_packPlain_130 : decode cX12_packPlain 130 = .ok (.aload_n 0, 1) := by decide +kernel
theorem dX12_packPlain_131 : decode cX12_packPlain 131 = .ok (.getfield 231, 3) := by decide +kernel
theorem dX12_packPlain_134 : decode cX12_packPlain 134 = .ok (.istore_n 1, 1) := by decide +kernel
theorem dX12_packPlain_135 : decode cX12_packPlain 135 = .ok (.aload_n 0, 1) := by decide +kernel
theorem dX12_packPlain_136 : decode cX12_packPlain 136 = .ok (.iconst 2, 1) := by decide +kernel
theorem dX12_packPlain_137 : decode cX12_packPlain 137 = .ok (.ldc2_w 280, 3) := by decide +kernel
theorem dX12_packPlain_140 : decode cX12_packPlain 140 = .ok (.invokevirtual 385, 3) := by decide +kernel
theorem dX12_packPlain_143 : decode cX12_packPlain 143 = .ok (.aload_n 0, 1) := by decide +kernel
theorem dX12_packPlain_144 : decode cX12_packPlain 144 = .ok (.iload_n 1, 1) := by decide +kernel
theorem dX12_packPlain_145 : decode cX12_packPlain 145 = .ok (.putfield 231, 3) := by decide +kernel
theorem dX12_packPlain_148 : decode cX12_packPlain 148 = .ok (.aload_n 0, 1) := by decide +kernel
theorem dX12_packPlain_149 : decode cX12_packPlain 149 = .ok (.invokevirtual 416, 3) := by decide +kernel
theorem dX12_packPlain_152 : decode cX12_packPlain 152 = .ok (.iconst 0, 1) := by decide +kernel
theorem dX12_packPlain_153 : decode cX12_packPlain 153 = .ok (.istore_n 1, 1) := by decide +kernel
theorem dX12_packPlain_154 : decode cX12_packPlain 154 = .ok (.iload_n 1, 1) := by decide +kernel
theorem dX12_packPlain_155 : decode cX12_packPlain 155 = .ok (.aload_n 0, 1) := by decide +kernel
theorem dX12_packPlain_156 : decode cX12_packPlain 156 = .ok (.getfield 261, 3) := by decide +kernel
theorem dX12_packPlain_159 : decode cX12_packPlain 159 = .ok (.if_icmp .ge 19, 3) := by decide +kernel
theorem dX12_packPlain_162 : decode cX12_packPlain 162 = .ok (.aload_n 0, 1) := by decide +kernel
theorem dX12_packPlain_163 : decode cX12_packPlain 163 = .ok (.aload_n 0, 1) := by decide +kernel
theorem dX12_packPlain_164 : decode cX12_packPlain 164 = .ok (.getfield 86, 3) := by decide +kernel
theorem dX12_packPlain_167 : decode cX12_packPlain 167 = .ok (.iload_n 1, 1) := by decide +kernel
theorem dX12_packPlain_168 : decode cX12_packPlain 168 = .ok (.iaload, 1) := by decide +kernel
theorem dX12_packPlain_169 : decode cX12_packPlain 169 = .ok (.invokevirtual 394, 3) := by decide +kernel
theorem dX12_packPlain_172 : decode cX12_packPlain 172 = .ok (.iinc 1 1, 3) := by decide +kernel
theorem dX12_packPlain_175 : decode cX12_packPlain 175 = .ok (.goto (-21), 3) := by decide +kernel
theorem dX12_packPlain_178 : decode cX12_packPlain 178 = .ok (.return_, 1) := by decide +kernel
theorem dX12_packChunks_0 : decode cX12_packChunks 0 = .ok (.aload_n 0, 1) := by decide +kernel
theorem dX12_packChunks_1 : decode cX12_packChunks 1 = .ok (.invokevirtual 404, 3) := by decide +kernel
theorem dX12_packChunks_4 : decode cX12_packChunks 4 = .ok (.aload_n 0, 1) := by decide +kernel
theorem dX12_packChunks_5 : decode cX12_packChunks 5 = .ok (.invokevirtual 407, 3) := by decide +kernel
theorem dX12_packChunks_8 : decode cX12_packChunks 8 = .ok (.aload_n 0, 1) := by decide +kernel
theorem dX12_packChunks_9 : decode cX12_packChunks 9 = .ok (.iconst 0, 1) := by decide +kernel
theorem dX12_packChunks_10 : decode cX12_packChunks 10 = .ok (.putfield 249, 3) := by decide +kernel
theorem dX12_packChunks_13 : decode cX12_packChunks 13 = .ok (.iconst 0, 1) := by decide +kernel
theorem dX12_packChunks_14 : decode cX12_packChunks 14 = .ok (.istore_n 1, 1) := by decide +kernel
theorem dX12_packChunks_15 : decode cX12_packChunks 15 = .ok (.iconst 0, 1) := by decide +kernel
theorem dX12_packChunks_16 : decode cX12_packChunks 16 = .ok (.istore_n 2, 1) := by decide +kernel
theorem dX12_packChunks_17 : decode cX12_packChunks 17 = .ok (.aload_n 0, 1) := by decide +kernel
theorem dX12_packChunks_18 : decode cX12_packChunks 18 = .ok (.iconst 0, 1) := by decide +kernel
theorem dX12_packChunks_19 : decode cX12_packChunks 19 = .ok (.putfield 434, 3) := by decide +kernel
theorem dX12_packChunks_22 : decode cX12_packChunks 22 = .ok (.iconst 0, 1) := by decide +kernel
theorem dX12_packChunks_23 : decode cX12_packChunks 23 = .ok (.istore_n 3, 1) := by decide +kernel
theorem dX12_packChunks_24 : decode cX12_packChunks 24 = .ok (.iload_n 3, 1) := by decide +kernel
theorem dX12_packChunks_25 : decode cX12_packChunks 25 = .ok (.aload_n 0, 1) := by decide +kernel
theorem dX12_packChunks_26 : decode cX12_packChunks 26 = .ok (.getfield 208, 3) := by decide +kernel
theorem dX12_packChunks_29 : decode cX12_packChunks 29 = .ok (.if_icmp .ge 325, 3) := by decide +kernel
theorem dX12_packChunks_32 : decode cX12_packChunks 32 = .ok (.iload_n 3, 1) := by decide +kernel
theorem dX12_packChunks_33 : decode cX12_packChunks 33 = .ok (.aload_n 0, 1) := by decide +kernel
theorem dX12_packChunks_34 : decode cX12_packChunks 34 = .ok (.getfield 19, 3) := by decide +kernel
theorem dX12_packChunks_37 : decode cX12_packChunks 37 = .ok (.iadd, 1) := by decide +kernel
theorem dX12_packChunks_38 : decode cX12_packChunks 38 = .ok (.aload_n 0, 1) := by decide +kernel
theorem dX12_packChunks_39 : decode cX12_packChunks 39 = .ok (.getfield 208, 3) := by decide +kernel
theorem dX12_packChunks_42 : decode cX12_packChunks 42 = .ok (.if_icmp .ge 12, 3) := by decide +kernel
theorem dX12_packChunks_45 : decode cX12_packChunks 45 = .ok (.iload_n 3, 1) := by decide +kernel
theorem dX12_packChunks_46 : decode cX12_packChunks 46 = .ok (.aload_n 0, 1) := by decide +kernel
theorem dX12_packChunks_47 : decode cX12_packChunks 47 = .ok (.getfield 19, 3) := by decide +kernel
theorem dX12_packChunks_50 : decode cX12_packChunks 50 = .ok (.iadd, 1) := by decide +kernel
theorem dX12_packChunks_51 : decode cX12_packChunks 51 = .ok (.goto 7, 3) := by decide +kernel
theorem dX12_packChunks_54 : decode cX12_packChunks 54 = .ok (.aload_n 0, 1) := by decide +kernel
theorem dX12_packChunks_55 : decode cX12_packChunks 55 = .ok (.getfield 208, 3) := by decide +kernel
theorem dX12_packChunks_58 : decode cX12_packChunks 58 = .ok (.istore 4, 2) := by decide +kernel
theorem dX12_packChunks_60 : decode cX12_packChunks 60 = .ok (.iload 4, 2) := by decide +kernel
theorem dX12_packChunks_62 : decode cX12_packChunks 62 = .ok (.iload_n 3, 1) := by decide +kernel
theorem dX12_packChunks_63 : decode cX12_packChunks 63 = .ok (.isub, 1) := by decide +kernel
theorem dX12_packChunks_64 : decode cX12_packChunks 64 = .ok (.istore 5, 2) := by decide +kernel
theorem dX12_packChunks_66 : decode cX12_packChunks 66 = .ok (.iload_n 3, 1) := by decide +kernel
theorem dX12_packChunks_67 : decode cX12_packChunks 67 = .ok (.ifCond .ne 7, 3) := by decide +kernel
theorem dX12_packChunks_70 : decode cX12_packChunks 70 = .ok (.iconst 3, 1) := by decide +kernel
theorem dX12_packChunks_71 : decode cX12_packChunks 71 = .ok (.goto 20, 3) := by decide +kernel
theorem dX12_packChunks_74 : decode cX12_packChunks 74 = .ok (.iload_n 1, 1) := by decide +kernel
theorem dX12_packChunks_75 : decode cX12_packChunks 75 = .ok (.ifCond .ne 7, 3) := by decide +kernel
theorem dX12_packChunks_78 : decode cX12_packChunks 78 = .ok (.iconst 2, 1) := by decide +kernel
theorem dX12_packChunks_79 : decode cX12_packChunks 79 = .ok (.goto 12, 3) := by decide +kernel
theorem dX12_packChunks_82 : decode cX12_packChunks 82 = .ok (.iload_n 2, 1) := by decide +kernel
theorem dX12_packChunks_83 : decode cX12_packChunks 83 = .ok (.ifCond .eq 7, 3) := by decide +kernel
theorem dX12_packChunks_86 : decode cX12_packChunks 86 = .ok (.iconst 1, 1) := by decide +kernel
theorem dX12_packChunks_87 : decode cX12_packChunks 87 = .ok (.goto 4, 3) := by decide +kernel
theorem dX12_packChunks_90 : decode cX12_packChunks 90 = .ok (.iconst 0, 1) := by decide +kernel
theorem dX12_packChunks_91 : decode cX12_packChunks 91 = .ok (.istore 6, 2) := by decide +kernel
theorem dX12_packChunks_93 : decode cX12_packChunks 93 = .ok (.aload_n 0, 1) := by decide +kernel
theorem dX12_packChunks_94 : decode cX12_packChunks 94 = .ok (.invokevirtual 437, 3) := by decide +kernel
theorem dX12_packChunks_97 : decode cX12_packChunks 97 = .ok (.iload 6, 2) := by decide +kernel
theorem dX12_packChunks_99 : decode cX12_packChunks 99 = .ok (.ifCond .le 7, 3) := by decide +kernel
theorem dX12_packChunks_102 : decode cX12_packChunks 102 = .ok (.aload_n 0, 1) := by decide +kernel
theorem dX12_packChunks_103 : decode cX12_packChunks 103 = .ok (.invokevirtual 407, 3) := by decide +kernel
theorem dX12_packChunks_106 : decode cX12_packChunks 106 = .ok (.aload_n 0, 1) := by decide +kernel
theorem dX12_packChunks_107 : decode cX12_packChunks 107 = .ok (.getfield 222, 3) := by decide +kernel
theorem dX12_packChunks_110 : decode cX12_packChunks 110 = .ok (.istore 7, 2) := by decide +kernel
theorem dX12_packChunks_112 : decode cX12_packChunks 112 = .ok (.aload_n 0, 1) := by decide +kernel
theorem dX12_packChunks_113 : decode cX12_packChunks 113 = .ok (.getfield 249, 3) := by decide +kernel
theorem dX12_packChunks_116 : decode cX12_packChunks 116 = .ok (.istore 8, 2) := by decide +kernel
theorem dX12_packChunks_118 : decode cX12_packChunks 118 = .ok (.aload_n 0, 1) := by decide +kernel
theorem dX12_packChunks_119 : decode cX12_packChunks 119 = .ok (.invokevirtual 410, 3) := by decide +kernel
theorem dX12_packChunks_122 : decode cX12_packChunks 122 = .ok (.aload_n 0, 1) := by decide +kernel
theorem dX12_packChunks_123 : decode cX12_packChunks 123 = .ok (.iload_n 3, 1) := by decide +kernel
theorem dX12_packChunks_124 : decode cX12_packChunks 124 = .ok (.iload 4, 2) := by decide +kernel
theorem dX12_packChunks_126 : decode cX12_packChunks 126 = .ok (.invokevirtual 413, 3) := by decide +kernel
theorem dX12_packChunks_129 : decode cX12_packChunks 129 = .ok (.aload_n 0, 1) := by decide +kernel
theorem dX12_packChunks_130 : decode cX12_packChunks 130 = .ok (.invokevirtual 416, 3) := by decide +kernel
theorem dX12_packChunks_133 : decode cX12_packChunks 133 = .ok (.aload_n 0, 1) := by decide +kernel
theorem dX12_packChunks_134 : decode cX12_packChunks 134 = .ok (.dup, 1) := by decide +kernel
theorem dX12_packChunks_135 : decode cX12_packChunks 135 = .ok (.getfield 434, 3) := by decide +kernel
theorem dX12_packChunks_138 : decode cX12_packChunks 138 = .ok (.iconst 1, 1) := by decide +kernel
theorem dX12_packChunks_139 : decode cX12_packChunks 139 = .ok (.iadd, 1) := by decide +kernel
theorem dX12_packChunks_140 : decode cX12_packChunks 140 = .ok (.putfield 434, 3) := by decide +kernel
theorem dX12_packChunks_143 : decode cX12_packChunks 143 = .ok (.aload_n 0, 1) := by decide +kernel
theorem dX12_packChunks_144 : decode cX12_packChunks 144 = .ok (.getfield 261, 3) := by decide +kernel
theorem dX12_packChunks_147 : decode cX12_packChunks 147 = .ok (.iload 5, 2) := by decide +kernel
theorem dX12_packChunks_149 : decode cX12_packChunks 149 = .ok (.if_icmp .ge 115, 3) := by decide +kernel
theorem dX12_packChunks_152 : decode cX12_packChunks 152 = .ok (.aload_n 0, 1) := by decide +kernel
theorem dX12_packChunks_153 : decode cX12_packChunks 153 = .ok (.sipush 128, 3) := by decide +kernel
theorem dX12_packChunks_156 : decode cX12_packChunks 156 = .ok (.iload 6, 2) := by decide +kernel
theorem dX12_packChunks_158 : decode cX12_packChunks 158 = .ok (.iconst 5, 1) := by decide +kernel
theorem dX12_packChunks_159 : decode cX12_packChunks 159 = .ok (.ishl, 1) := by decide +kernel
theorem dX12_packChunks_160 : decode cX12_packChunks 160 = .ok (.ior, 1) := by decide +kernel
theorem dX12_packChunks_161 : decode cX12_packChunks 161 = .ok (.iload 5, 2) := by decide +kernel
theorem dX12_packChunks_163 : decode cX12_packChunks 163 = .ok (.iconst 1, 1) := by decide +kernel
theorem dX12_packChunks_164 : decode cX12_packChunks 164 = .ok (.isub, 1) := by decide +kernel
theorem dX12_packChunks_165 : decode cX12_packChunks 165 = .ok (.bipush 16, 2) := by decide +kernel
theorem dX12_packChunks_167 : decode cX12_packChunks 167 = .ok (.ishr, 1) := by decide +kernel
theorem dX12_packChunks_168 : decode cX12_packChunks 168 = .ok (.ior, 1) := by decide +kernel
theorem dX12_packChunks_169 : decode cX12_packChunks 169 = .ok (.invokevirtual 394, 3) := by decide +kernel
theorem dX12_packChunks_172 : decode cX12_packChunks 172 = .ok (.aload_n 0, 1) := by decide +kernel
theorem dX12_packChunks_173 : decode cX12_packChunks 173 = .ok (.iload 5, 2) := by decide +kernel
theorem dX12_packChunks_175 : decode cX12_packChunks 175 = .ok (.iconst 1, 1) := by decide +kernel
theorem dX12_packChunks_176 : decode cX12_packChunks 176 = .ok (.isub, 1) := by decide +kernel
theorem dX12_packChunks_177 : decode cX12_packChunks 177 = .ok (.bipush 8, 2) := by decide +kernel
theorem dX12_packChunks_179 : decode cX12_packChunks 179 = .ok (.ishr, 1) := by decide +kernel
theorem dX12_packChunks_180 : decode cX12_packChunks 180 = .ok (.invokevirtual 394, 3) := by decide +kernel
theorem dX12_packChunks_183 : decode cX12_packChunks 183 = .ok (.aload_n 0, 1) := by decide +kernel
theorem dX12_packChunks_184 : decode cX12_packChunks 184 = .ok (.iload 5, 2) := by decide +kernel
theorem dX12_packChunks_186 : decode cX12_packChunks 186 = .ok (.iconst 1, 1) := by decide +kernel
theorem dX12_packChunks_187 : decode cX12_packChunks 187 = .ok (.isub, 1) := by decide +kernel
theorem dX12_packChunks_188 : decode cX12_packChunks 188 = .ok (.invokevirtual 394, 3) := by decide +kernel
theorem dX12_packChunks_191 : decode cX12_packChunks 191 = .ok (.aload_n 0, 1) := by decide +kernel
theorem dX12_packChunks_192 : decode cX12_packChunks 192 = .ok (.aload_n 0, 1) := by decide +kernel
theorem dX12_packChunks_193 : decode cX12_packChunks 193 = .ok (.getfield 261, 3) := by decide +kernel
theorem dX12_packChunks_196 : decode cX12_packChunks 196 = .ok (.iconst 1, 1) := by decide +kernel
theorem dX12_packChunks_197 : decode cX12_packChunks 197 = .ok (.isub, 1) := by decide +kernel
theorem dX12_packChunks_198 : decode cX12_packChunks 198 = .ok (.bipush 8, 2) := by decide +kernel
theorem dX12_packChunks_200 : decode cX12_packChunks 200 = .ok (.ishr, 1) := by decide +kernel
theorem dX12_packChunks_201 : decode cX12_packChunks 201 = .ok (.invokevirtual 394, 3) := by decide +kernel
theorem dX12_packChunks_204 : decode cX12_packChunks 204 = .ok (.aload_n 0, 1) := by decide +kernel
theorem dX12_packChunks_205 : decode cX12_packChunks 205 = .ok (.aload_n 0, 1) := by decide +kernel
theorem dX12_packChunks_206 : decode cX12_packChunks 206 = .ok (.getfield 261, 3) := by decide +kernel
theorem dX12_packChunks_209 : decode cX12_packChunks 209 = .ok (.iconst 1, 1) := by decide +kernel
theorem dX12_packChunks_210 : decode cX12_packChunks 210 = .ok (.isub, 1) := by decide +kernel
theorem dX12_packChunks_211 : decode cX12_packChunks 211 = .ok (.invokevirtual 394, 3) := by decide +kernel
theorem dX12_packChunks_214 : decode cX12_packChunks 214 = .ok (.iload 6, 2) := by decide +kernel
theorem dX12_packChunks_216 : decode cX12_packChunks 216 = .ok (.iconst 1, 1) := by decide +kernel
theorem dX12_packChunks_217 : decode cX12_packChunks 217 = .ok (.if_icmp .le 11, 3) := by decide +kernel
theorem dX12_packChunks_220 : decode cX12_packChunks 220 = .ok (.aload_n 0, 1) := by decide +kernel
theorem dX12_packChunks_221 : decode cX12_packChunks 221 = .ok (.aload_n 0, 1) := by decide +kernel
theorem dX12_packChunks_222 : decode cX12_packChunks 222 = .ok (.invokevirtual 397, 3) := by decide +kernel
theorem dX12_packChunks_225 : decode cX12_packChunks 225 = .ok (.invokevirtual 394, 3) := by decide +kernel
theorem dX12_packChunks_228 : decode cX12_packChunks 228 = .ok (.iconst 0, 1) := by decide +kernel
theorem dX12_packChunks_229 : decode cX12_packChunks 229 = .ok (.istore 9, 2) := by decide +kernel
theorem dX12_packChunks_231 : decode cX12_packChunks 231 = .ok (.iload 9, 2) := by decide +kernel
theorem dX12_packChunks_233 : decode cX12_packChunks 233 = .ok (.aload_n 0, 1) := by decide +kernel
theorem dX12_packChunks_234 : decode cX12_packChunks 234 = .ok (.getfield 261, 3) := by decide +kernel
theorem dX12_packChunks_237 : decode cX12_packChunks 237 = .ok (.if_icmp .ge 20, 3) := by decide +kernel
theorem dX12_packChunks_240 : decode cX12_packChunks 240 = .ok (.aload_n 0, 1) := by decide +kernel
theorem dX12_packChunks_241 : decode cX12_packChunks 241 = .ok (.aload_n 0, 1) := by decide +kernel
theorem dX12_packChunks_242 : decode cX12_packChunks 242 = .ok (.getfield 86, 3) := by decide +kernel
theorem dX12_packChunks_245 : decode cX12_packChunks 245 = .ok (.iload 9, 2) := by decide +kernel
theorem dX12_packChunks_247 : decode cX12_packChunks 247 = .ok (.iaload, 1) := by decide +kernel
theorem dX12_packChunks_248 : decode cX12_packChunks 248 = .ok (.invokevirtual 394, 3) := by decide +kernel
theorem dX12_packChunks_251 : decode cX12_packChunks 251 = .ok (.iinc 9 1, 3) := by decide +kernel
theorem dX12_packChunks_254 : decode cX12_packChunks 254 = .ok (.goto (-23), 3) := by decide +kernel
theorem dX12_packChunks_257 : decode cX12_packChunks 257 = .ok (.iconst 1, 1) := by decide +kernel
theorem dX12_packChunks_258 : decode cX12_packChunks 258 = .ok (.istore_n 1, 1) := by decide +kernel
theorem dX12_packChunks_259 : decode cX12_packChunks 259 = .ok (.iconst 0, 1) := by decide +kernel
theorem dX12_packChunks_260 : decode cX12_packChunks 260 = .ok (.istore_n 2, 1) := by decide +kernel
theorem dX12_packChunks_261 : decode cX12_packChunks 261 = .ok (.goto 83, 3) := by decide +kernel
theorem dX12_packChunks_264 : decode cX12_packChunks 264 = .ok (.aload_n 0, 1) := by decide +kernel
theorem dX12_packChunks_265 : decode cX12_packChunks 265 = .ok (.invokevirtual 440, 3) := by decide +kernel
theorem dX12_packChunks_268 : decode cX12_packChunks 268 = .ok (.aload_n 0, 1) := by decide +kernel
theorem dX12_packChunks_269 : decode cX12_packChunks 269 = .ok (.iload 7, 2) := by decide +kernel
theorem dX12_packChunks_271 : decode cX12_packChunks 271 = .ok (.putfield 222, 3) := by decide +kernel
theorem dX12_packChunks_274 : decode cX12_packChunks 274 = .ok (.aload_n 0, 1) := by decide +kernel
theorem dX12_packChunks_275 : decode cX12_packChunks 275 = .ok (.iload 8, 2) := by decide +kernel
theorem dX12_packChunks_277 : decode cX12_packChunks 277 = .ok (.iload 5, 2) := by decide +kernel
theorem dX12_packChunks_279 : decode cX12_packChunks 279 = .ok (.iadd, 1) := by decide +kernel
theorem dX12_packChunks_280 : decode cX12_packChunks 280 = .ok (.putfield 249, 3) := by decide +kernel
theorem dX12_packChunks_283 : decode cX12_packChunks 283 = .ok (.aload_n 0, 1) := by decide +kernel
theorem dX12_packChunks_284 : decode cX12_packChunks 284 = .ok (.iload_n 3, 1) := by decide +kernel
theorem dX12_packChunks_285 : decode cX12_packChunks 285 = .ok (.ifCond .ne 7, 3) := by decide +kernel
theorem dX12_packChunks_288 : decode cX12_packChunks 288 = .ok (.iconst 1, 1) := by decide +kernel
theorem dX12_packChunks_289 : decode cX12_packChunks 289 = .ok (.goto 4, 3) := by decide +kernel
theorem dX12_packChunks_292 : decode cX12_packChunks 292 = .ok (.iconst 2, 1) := by decide +kernel
theorem dX12_packChunks_293 : decode cX12_packChunks 293 = .ok (.invokevirtual 394, 3) := by decide +kernel
theorem dX12_packChunks_296 : decode cX12_packChunks 296 = .ok (.aload_n 0, 1) := by decide +kernel
theorem dX12_packChunks_297 : decode cX12_packChunks 297 = .ok (.iload 5, 2) := by decide +kernel
theorem dX12_packChunks_299 : decode cX12_packChunks 299 = .ok (.iconst 1, 1) := by decide +kernel
theorem dX12_packChunks_300 : decode cX12_packChunks 300 = .ok (.isub, 1) := by decide +kernel
theorem dX12_packChunks_301 : decode cX12_packChunks 301 = .ok (.bipush 8, 2) := by decide +kernel
theorem dX12_packChunks_303 : decode cX12_packChunks 303 = .ok (.ishr, 1) := by decide +kernel
theorem dX12_packChunks_304 : decode cX12_packChunks 304 = .ok (.invokevirtual 394, 3) := by decide +kernel
theorem dX12_packChunks_307 : decode cX12_packChunks 307 = .ok (.aload_n 0, 1) := by decide +kernel
theorem dX12_packChunks_308 : decode cX12_packChunks 308 = .ok (.iload 5, 2) := by decide +kernel
theorem dX12_packChunks_310 : decode cX12_packChunks 310 = .ok (.iconst 1, 1) := by decide +kernel
theorem dX12_packChunks_311 : decode cX12_packChunks 311 = .ok (.isub, 1) := by decide +kernel
theorem dX12_packChunks_312 : decode cX12_packChunks 312 = .ok (.invokevirtual 394, 3) := by decide +kernel
theorem dX12_packChunks_315 : decode cX12_packChunks 315 = .ok (.iload_n 3, 1) := by decide +kernel
theorem dX12_packChunks_316 : decode cX12_packChunks 316 = .ok (.istore 9, 2) := by decide +kernel
theorem dX12_packChunks_318 : decode cX12_packChunks 318 = .ok (.iload 9, 2) := by decide +kernel
theorem dX12_packChunks_320 : decode cX12_packChunks 320 = .ok (.iload 4, 2) := by decide +kernel
theorem dX12_packChunks_322 : decode cX12_packChunks 322 = .ok (.if_icmp .ge 20, 3) := by decide +kernel
theorem dX12_packChunks_325 : decode cX12_packChunks 325 = .ok (.aload_n 0, 1) := by decide +kernel
theorem dX12_packChunks_326 : decode cX12_packChunks 326 = .ok (.aload_n 0, 1) := by decide +kernel
theorem dX12_packChunks_327 : decode cX12_packChunks 327 = .ok (.getfield 47, 3) := by decide +kernel
theorem dX12_packChunks_330 : decode cX12_packChunks 330 = .ok (.iload 9, 2) := by decide +kernel
theorem dX12_packChunks_332 : decode cX12_packChunks 332 = .ok (.iaload, 1) := by decide +kernel
theorem dX12_packChunks_333 : decode cX12_packChunks 333 = .ok (.invokevirtual 394, 3) := by decide +kernel
theorem dX12_packChunks_336 : decode cX12_packChunks 336 = .ok (.iinc 9 1, 3) := by decide +kernel
theorem dX12_packChunks_339 : decode cX12_packChunks 339 = .ok (.goto (-21), 3) := by decide +kernel
theorem dX12_packChunks_342 : decode cX12_packChunks 342 = .ok (.iconst 1, 1) := by decide +kernel
theorem dX12_packChunks_343 : decode cX12_packChunks 343 = .ok (.istore_n 2, 1) := by decide +kernel
theorem dX12_packChunks_344 : decode cX12_packChunks 344 = .ok (.iload_n 3, 1) := by decide +kernel
theorem dX12_packChunks_345 : decode cX12_packChunks 345 = .ok (.aload_n 0, 1) := by decide +kernel
theorem dX12_packChunks_346 : decode cX12_packChunks 346 = .ok (.getfield 19, 3) := by decide +kernel
theorem dX12_packChunks_349 : decode cX12_packChunks 349 = .ok (.iadd, 1) := by decide +kernel
theorem dX12_packChunks_350 : decode cX12_packChunks 350 = .ok (.istore_n 3, 1) := by decide +kernel
theorem dX12_packChunks_351 : decode cX12_packChunks 351 = .ok (.goto (-327), 3) := by decide +kernel
theorem dX12_packChunks_354 : decode cX12_packChunks 354 = .ok (.aload_n 0, 1) := by decide +kernel
theorem dX12_packChunks_355 : decode cX12_packChunks 355 = .ok (.iconst 0, 1) := by decide +kernel
theorem dX12_packChunks_356 : decode cX12_packChunks 356 = .ok (.invokevirtual 394, 3) := by decide +kernel
theorem dX12_packChunks_359 : decode cX12_packChunks 359 = .ok (.return_, 1) := by decide +kernel
theorem dX12_check32_0 : decode cX12_check32 0 = .ok (.aload_n 0, 1) := by decide +kernel
theorem dX12_check32_1 : decode cX12_check32 1 = .ok (.invokevirtual 174, 3) := by decide +kernel
theorem dX12_check32_4 : decode cX12_check32 4 = .ok (.iload_n 1, 1) := by decide +kernel
theorem dX12_check32_5 : decode cX12_check32 5 = .ok (.istore_n 3, 1) := by decide +kernel
theorem dX12_check32_6 : decode cX12_check32 6 = .ok (.iload_n 3, 1) := by decide +kernel
theorem dX12_check32_7 : decode cX12_check32 7 = .ok (.iload_n 2, 1) := by decide +kernel
theorem dX12_check32_8 : decode cX12_check32 8 = .ok (.if_icmp .ge 19, 3) := by decide +kernel
theorem dX12_check32_11 : decode cX12_check32 11 = .ok (.aload_n 0, 1) := by decide +kernel
theorem dX12_check32_12 : decode cX12_check32 12 = .ok (.aload_n 0, 1) := by decide +kernel
theorem dX12_check32_13 : decode cX12_check32 13 = .ok (.getfield 98, 3) := by decide +kernel
theorem dX12_check32_16 : decode cX12_check32 16 = .ok (.iload_n 3, 1) := by decide +kernel
theorem dX12_check32_17 : decode cX12_check32 17 = .ok (.iaload, 1) := by decide +kernel
theorem dX12_check32_18 : decode cX12_check32 18 = .ok (.invokevirtual 182, 3) := by decide +kernel
theorem dX12_check32_21 : decode cX12_check32 21 = .ok (.iinc 3 1, 3) := by decide +kernel
theorem dX12_check32_24 : decode cX12_check32 24 = .ok (.goto (-18), 3) := by decide +kernel
theorem dX12_check32_27 : decode cX12_check32 27 = .ok (.aload_n 0, 1) := by decide +kernel
theorem dX12_check32_28 : decode cX12_check32 28 = .ok (.invokevirtual 195, 3) := by decide +kernel
theorem dX12_check32_31 : decode cX12_check32 31 = .ok (.ireturn, 1) := by decide +kernel
theorem dX12_putV_0 : decode cX12_putV 0 = .ok (.lload_n 1, 1) := by decide +kernel
theorem dX12_putV_1 : decode cX12_putV 1 = .ok (.lstore_n 3, 1) := by decide +kernel
theorem dX12_putV_2 : decode cX12_putV 2 = .ok (.lload_n 3, 1) := by decide +kernel
theorem dX12_putV_3 : decode cX12_putV 3 = .ok (.ldc2_w 443, 3) := by decide +kernel
theorem dX12_putV_6 : decode cX12_putV 6 = .ok (.lcmp, 1) := by decide +kernel
theorem dX12_putV_7 : decode cX12_putV 7 = .ok (.ifCond .lt 24, 3) := by decide +kernel
theorem dX12_putV_10 : decode cX12_putV 10 = .ok (.aload_n 0, 1) := by decide +kernel
theorem dX12_putV_11 : decode cX12_putV 11 = .ok (.lload_n 3, 1) := by decide +kernel
theorem dX12_putV_12 : decode cX12_putV 12 = .ok (.l2i, 1) := by decide +kernel
theorem dX12_putV_13 : decode cX12_putV 13 = .ok (.bipush 127, 2) := by decide +kernel
theorem dX12_putV_15 : decode cX12_putV 15 = .ok (.iand, 1) := by decide +kernel
theorem dX12_putV_16 : decode cX12_putV 16 = .ok (.sipush 128, 3) := by decide +kernel
theorem dX12_putV_19 : decode cX12_putV 19 = .ok (.ior, 1) := by decide +kernel
theorem dX12_putV_20 : decode cX12_putV 20 = .ok (.invokevirtual 394, 3) := by decide +kernel
theorem dX12_putV_23 : decode cX12_putV 23 = .ok (.lload_n 3, 1) := by decide +kernel
theorem dX12_putV_24 : decode cX12_putV 24 = .ok (.bipush 7, 2) := by decide +kernel
theorem dX12_putV_26 : decode cX12_putV 26 = .ok (.lushr, 1) := by decide +kernel
theorem dX12_putV_27 : decode cX12_putV 27 = .ok (.lstore_n 3, 1) := by decide +kernel
theorem dX12_putV_28 : decode cX12_putV 28 = .ok (.goto (-26), 3) := by decide +kernel
theorem dX12_putV_31 : decode cX12_putV 31 = .ok (.aload_n 0, 1) := by decide +kernel
theorem dX12_putV_32 : decode cX12_putV 32 = .ok (.lload_n 3, 1) := by decide +kernel
theorem dX12_putV_33 : decode cX12_putV 33 = .ok (.l2i, 1) := by decide +kernel
theorem dX12_putV_34 : decode cX12_putV 34 = .ok (.invokevirtual 394, 3) := by decide +kernel
theorem dX12_putV_37 : decode cX12_putV 37 = .ok (.return_, 1) := by decide +kernel
theorem dX12_packBox_0 : decode cX12_packBox 0 = .ok (.aload_n 0, 1) := by decide +kernel
theorem dX12_packBox_1 : decode cX12_packBox 1 = .ok (.invokevirtual 451, 3) := by decide +kernel
theorem dX12_packBox_4 : decode cX12_packBox 4 = .ok (.aload_n 0, 1) := by decide +kernel
theorem dX12_packBox_5 : decode cX12_packBox 5 = .ok (.iconst 0, 1) := by decide +kernel
theorem dX12_packBox_6 : decode cX12_packBox 6 = .ok (.invokevirtual 394, 3) := by decide +kernel
theorem dX12_packBox_9 : decode cX12_packBox 9 = .ok (.aload_n 0, 1) := by decide +kernel
theorem dX12_packBox_10 : decode cX12_packBox 10 = .ok (.aload_n 0, 1) := by decide +kernel
theorem dX12_packBox_11 : decode cX12_packBox 11 = .ok (.getfield 25, 3) := by decide +kernel
theorem dX12_packBox_14 : decode cX12_packBox 14 = .ok (.invokevirtual 394, 3) := by decide +kernel
theorem dX12_packBox_17 : decode cX12_packBox 17 = .ok (.aload_n 0, 1) := by decide +kernel
theorem dX12_packBox_18 : decode cX12_packBox 18 = .ok (.aload_n 0, 1) := by decide +kernel
theorem dX12_packBox_19 : decode cX12_packBox 19 = .ok (.bipush 6, 2) := by decide +kernel
theorem dX12_packBox_21 : decode cX12_packBox 21 = .ok (.bipush 8, 2) := by decide +kernel
theorem dX12_packBox_23 : decode cX12_packBox 23 = .ok (.invokevirtual 445, 3) := by decide +kernel
theorem dX12_packBox_26 : decode cX12_packBox 26 = .ok (.i2l, 1) := by decide +kernel
theorem dX12_packBox_27 : decode cX12_packBox 27 = .ok (.iconst 4, 1) := by decide +kernel
theorem dX12_packBox_28 : decode cX12_packBox 28 = .ok (.invokevirtual 400, 3) := by decide +kernel
theorem dX12_packBox_31 : decode cX12_packBox 31 = .ok (.iconst 0, 1) := by decide +kernel
theorem dX12_packBox_32 : decode cX12_packBox 32 = .ok (.istore_n 1, 1) := by decide +kernel
theorem dX12_packBox_33 : decode cX12_packBox 33 = .ok (.iload_n 1, 1) := by decide +kernel
theorem dX12_packBox_34 : decode cX12_packBox 34 = .ok (.aload_n 0, 1) := by decide +kernel
theorem dX12_packBox_35 : decode cX12_packBox 35 = .ok (.getfield 126, 3) := by decide +kernel
theorem dX12_packBox_38 : decode cX12_packBox 38 = .ok (.if_icmp .ge 54, 3) := by decide +kernel
theorem dX12_packBox_41 : decode cX12_packBox 41 = .ok (.aload_n 0, 1) := by decide +kernel
theorem dX12_packBox_42 : decode cX12_packBox 42 = .ok (.getfield 391, 3) := by decide +kernel
theorem dX12_packBox_45 : decode cX12_packBox 45 = .ok (.sipush 3000, 3) := by decide +kernel
theorem dX12_packBox_48 : decode cX12_packBox 48 = .ok (.if_icmp .gt 44, 3) := by decide +kernel
theorem dX12_packBox_51 : decode cX12_packBox 51 = .ok (.aload_n 0, 1) := by decide +kernel
theorem dX12_packBox_52 : decode cX12_packBox 52 = .ok (.iload_n 1, 1) := by decide +kernel
theorem dX12_packBox_53 : decode cX12_packBox 53 = .ok (.iload_n 1, 1) := by decide +kernel
theorem dX12_packBox_54 : decode cX12_packBox 54 = .ok (.aload_n 0, 1) := by decide +kernel
theorem dX12_packBox_55 : decode cX12_packBox 55 = .ok (.getfield 22, 3) := by decide +kernel
theorem dX12_packBox_58 : decode cX12_packBox 58 = .ok (.iadd, 1) := by decide +kernel
theorem dX12_packBox_59 : decode cX12_packBox 59 = .ok (.aload_n 0, 1) := by decide +kernel
theorem dX12_packBox_60 : decode cX12_packBox 60 = .ok (.getfield 126, 3) := by decide +kernel
theorem dX12_packBox_63 : decode cX12_packBox 63 = .ok (.if_icmp .ge 12, 3) := by decide +kernel
theorem dX12_packBox_66 : decode cX12_packBox 66 = .ok (.iload_n 1, 1) := by decide +kernel
theorem dX12_packBox_67 : decode cX12_packBox 67 = .ok (.aload_n 0, 1) := by decide +kernel
theorem dX12_packBox_68 : decode cX12_packBox 68 = .ok (.getfield 22, 3) := by decide +kernel
theorem dX12_packBox_71 : decode cX12_packBox 71 = .ok (.iadd, 1) := by decide +kernel
theorem dX12_packBox_72 : decode cX12_packBox 72 = .ok (.goto 7, 3) := by decide +kernel
theorem dX12_packBox_75 : decode cX12_packBox 75 = .ok (.aload_n 0, 1) := by decide +kernel
theorem dX12_packBox_76 : decode cX12_packBox 76 = .ok (.getfield 126, 3) := by decide +kernel
theorem dX12_packBox_79 : decode cX12_packBox 79 = .ok (.invokevirtual 454, 3) := by decide +kernel
theorem dX12_packBox_82 : decode cX12_packBox 82 = .ok (.iload_n 1, 1) := by decide +kernel
theorem dX12_packBox_83 : decode cX12_packBox 83 = .ok (.aload_n 0, 1) := by decide +kernel
theorem dX12_packBox_84 : decode cX12_packBox 84 = .ok (.getfield 22, 3) := by decide +kernel
theorem dX12_packBox_87 : decode cX12_packBox 87 = .ok (.iadd, 1) := by decide +kernel
theorem dX12_packBox_88 : decode cX12_packBox 88 = .ok (.istore_n 1, 1) := by decide +kernel
theorem dX12_packBox_89 : decode cX12_packBox 89 = .ok (.goto (-56), 3) := by decide +kernel
theorem dX12_packBox_92 : decode cX12_packBox 92 = .ok (.aload_n 0, 1) := by decide +kernel
theorem dX12_packBox_93 : decode cX12_packBox 93 = .ok (.getfield 391, 3) := by decide +kernel
theorem dX12_packBox_96 : decode cX12_packBox 96 = .ok (.sipush 3000, 3) := by decide +kernel
theorem dX12_packBox_99 : decode cX12_packBox 99 = .ok (.if_icmp .le 4, 3) := by decide +kernel
theorem dX12_packBox_102 : decode cX12_packBox 102 = .ok (.return_, 1) := by decide +kernel
theorem dX12_packBox_103 : decode cX12_packBox 103 = .ok (.aload_n 0, 1) := by decide +kernel
theorem dX12_packBox_104 : decode cX12_packBox 104 = .ok (.getfield 391, 3) := by decide +kernel
theorem dX12_packBox_107 : decode cX12_packBox 107 = .ok (.istore_n 1, 1) := by decide +kernel
theorem dX12_packBox_108 : decode cX12_packBox 108 = .ok (.aload_n 0, 1) := by decide +kernel
theorem dX12_packBox_109 : decode cX12_packBox 109 = .ok (.iconst 0, 1) := by decide +kernel
theorem dX12_packBox_110 : decode cX12_packBox 110 = .ok (.invokevirtual 394, 3) := by decide +kernel
theorem dX12_packBox_113 : decode cX12_packBox 113 = .ok (.aload_n 0, 1) := by decide +kernel
theorem dX12_packBox_114 : decode cX12_packBox 114 = .ok (.aload_n 0, 1) := by decide +kernel
theorem dX12_packBox_115 : decode cX12_packBox 115 = .ok (.getfield 228, 3) := by decide +kernel
theorem dX12_packBox_118 : decode cX12_packBox 118 = .ok (.i2l, 1) := by decide +kernel
theorem dX12_packBox_119 : decode cX12_packBox 119 = .ok (.invokevirtual 457, 3) := by decide +kernel
theorem dX12_packBox_122 : decode cX12_packBox 122 = .ok (.iconst 0, 1) := by decide +kernel
theorem dX12_packBox_123 : decode cX12_packBox 123 = .ok (.istore_n 2, 1) := by decide +kernel
theorem dX12_packBox_124 : decode cX12_packBox 124 = .ok (.iload_n 2, 1) := by decide +kernel
theorem dX12_packBox_125 : decode cX12_packBox 125 = .ok (.aload_n 0, 1) := by decide +kernel
theorem dX12_packBox_126 : decode cX12_packBox 126 = .ok (.getfield 228, 3) := by decide +kernel
theorem dX12_packBox_129 : decode cX12_packBox 129 = .ok (.if_icmp .ge 46, 3) := by decide +kernel
theorem dX12_packBox_132 : decode cX12_packBox 132 = .ok (.aload_n 0, 1) := by decide +kernel
theorem dX12_packBox_133 : decode cX12_packBox 133 = .ok (.aload_n 0, 1) := by decide +kernel
theorem dX12_packBox_134 : decode cX12_packBox 134 = .ok (.getfield 65, 3) := by decide +kernel
theorem dX12_packBox_137 : decode cX12_packBox 137 = .ok (.iload_n 2, 1) := by decide +kernel
theorem dX12_packBox_138 : decode cX12_packBox 138 = .ok (.iaload, 1) := by decide +kernel
theorem dX12_packBox_139 : decode cX12_packBox 139 = .ok (.aload_n 0, 1) := by decide +kernel
theorem dX12_packBox_140 : decode cX12_packBox 140 = .ok (.getfield 68, 3) := by decide +kernel
theorem dX12_packBox_143 : decode cX12_packBox 143 = .ok (.iload_n 2, 1) := by decide +kernel
theorem dX12_packBox_144 : decode cX12_packBox 144 = .ok (.iaload, 1) := by decide +kernel
theorem dX12_packBox_145 : decode cX12_packBox 145 = .ok (.iadd, 1) := by decide +kernel
theorem dX12_packBox_146 : decode cX12_packBox 146 = .ok (.aload_n 0, 1) := by decide +kernel
theorem dX12_packBox_147 : decode cX12_packBox 147 = .ok (.getfield 25, 3) := by decide +kernel
theorem dX12_packBox_150 : decode cX12_packBox 150 = .ok (.invokestatic 191, 3) := by decide +kernel
theorem dX12_packBox_153 : decode cX12_packBox 153 = .ok (.iadd, 1) := by decide +kernel
theorem dX12_packBox_154 : decode cX12_packBox 154 = .ok (.i2l, 1) := by decide +kernel
theorem dX12_packBox_155 : decode cX12_packBox 155 = .ok (.invokevirtual 457, 3) := by decide +kernel
theorem dX12_packBox_158 : decode cX12_packBox 158 = .ok (.aload_n 0, 1) := by decide +kernel
theorem dX12_packBox_159 : decode cX12_packBox 159 = .ok (.aload_n 0, 1) := by decide +kernel
theorem dX12_packBox_160 : decode cX12_packBox 160 = .ok (.getfield 71, 3) := by decide +kernel
theorem dX12_packBox_163 : decode cX12_packBox 163 = .ok (.iload_n 2, 1) := by decide +kernel
theorem dX12_packBox_164 : decode cX12_packBox 164 = .ok (.iaload, 1) := by decide +kernel
theorem dX12_packBox_165 : decode cX12_packBox 165 = .ok (.i2l, 1) := by decide +kernel
theorem dX12_packBox_166 : decode cX12_packBox 166 = .ok (.invokevirtual 457, 3) := by decide +kernel
theorem dX12_packBox_169 : decode cX12_packBox 169 = .ok (.iinc 2 1, 3) := by decide +kernel
theorem dX12_packBox_172 : decode cX12_packBox 172 = .ok (.goto (-48), 3) := by decide +kernel
theorem dX12_packBox_175 : decode cX12_packBox 175 = .ok (.aload_n 0, 1) := by decide +kernel
theorem dX12_packBox_176 : decode cX12_packBox 176 = .ok (.getfield 391, 3) := by decide +kernel
theorem dX12_packBox_179 : decode cX12_packBox 179 = .ok (.iload_n 1, 1) := by decide +kernel
theorem dX12_packBox_180 : decode cX12_packBox 180 = .ok (.isub, 1) := by decide +kernel
theorem dX12_packBox_181 : decode cX12_packBox 181 = .ok (.iconst 4, 1) := by decide +kernel
theorem dX12_packBox_182 : decode cX12_packBox 182 = .ok (.irem, 1) := by decide +kernel
theorem dX12_packBox_183 : decode cX12_packBox 183 = .ok (.ifCond .eq 11, 3) := by decide +kernel
theorem dX12_packBox_186 : decode cX12_packBox 186 = .ok (.aload_n 0, 1) := by decide +kernel
theorem dX12_packBox_187 : decode cX12_packBox 187 = .ok (.iconst 0, 1) := by decide +kernel
theorem dX12_packBox_188 : decode cX12_packBox 188 = .ok (.invokevirtual 394, 3) := by decide +kernel
theorem dX12_packBox_191 : decode cX12_packBox 191 = .ok (.goto (-16), 3) := by decide +kernel
theorem dX12_packBox_194 : decode cX12_packBox 194 = .ok (.aload_n 0, 1) := by decide +kernel
theorem dX12_packBox_195 : decode cX12_packBox 195 = .ok (.aload_n 0, 1) := by decide +kernel
theorem dX12_packBox_196 : decode cX12_packBox 196 = .ok (.iload_n 1, 1) := by decide +kernel
theorem dX12_packBox_197 : decode cX12_packBox 197 = .ok (.aload_n 0, 1) := by decide +kernel
theorem dX12_packBox_198 : decode cX12_packBox 198 = .ok (.getfield 391, 3) := by decide +kernel
theorem dX12_packBox_201 : decode cX12_packBox 201 = .ok (.invokevirtual 445, 3) := by decide +kernel
theorem dX12_packBox_204 : decode cX12_packBox 204 = .ok (.i2l, 1) := by decide +kernel
theorem dX12_packBox_205 : decode cX12_packBox 205 = .ok (.iconst 4, 1) := by decide +kernel
theorem dX12_packBox_206 : decode cX12_packBox 206 = .ok (.invokevirtual 400, 3) := by decide +kernel
theorem dX12_packBox_209 : decode cX12_packBox 209 = .ok (.aload_n 0, 1) := by decide +kernel
theorem dX12_packBox_210 : decode cX12_packBox 210 = .ok (.getfield 391, 3) := by decide +kernel
theorem dX12_packBox_213 : decode cX12_packBox 213 = .ok (.iload_n 1, 1) := by decide +kernel
theorem dX12_packBox_214 : decode cX12_packBox 214 = .ok (.isub, 1) := by decide +kernel
theorem dX12_packBox_215 : decode cX12_packBox 215 = .ok (.istore_n 2, 1) := by decide +kernel
theorem dX12_packBox_216 : decode cX12_packBox 216 = .ok (.aload_n 0, 1) := by decide +kernel
theorem dX12_packBox_217 : decode cX12_packBox 217 = .ok (.getfield 391, 3) := by decide +kernel
theorem dX12_packBox_220 : decode cX12_packBox 220 = .ok (.istore_n 3, 1) := by decide +kernel
theorem dX12_packBox_221 : decode cX12_packBox 221 = .ok (.aload_n 0, 1) := by decide +kernel
theorem dX12_packBox_222 : decode cX12_packBox 222 = .ok (.lconst 0, 1) := by decide +kernel
theorem dX12_packBox_223 : decode cX12_packBox 223 = .ok (.iconst 4, 1) := by decide +kernel
theorem dX12_packBox_224 : decode cX12_packBox 224 = .ok (.invokevirtual 400, 3) := by decide +kernel
theorem dX12_packBox_227 : decode cX12_packBox 227 = .ok (.aload_n 0, 1) := by decide +kernel
theorem dX12_packBox_228 : decode cX12_packBox 228 = .ok (.iload_n 2, 1) := by decide +kernel
theorem dX12_packBox_229 : decode cX12_packBox 229 = .ok (.iconst 4, 1) := by decide +kernel
theorem dX12_packBox_230 : decode cX12_packBox 230 = .ok (.idiv, 1) := by decide +kernel
theorem dX12_packBox_231 : decode cX12_packBox 231 = .ok (.iconst 1, 1) := by decide +kernel
theorem dX12_packBox_232 : decode cX12_packBox 232 = .ok (.isub, 1) := by decide +kernel
theorem dX12_packBox_233 : decode cX12_packBox 233 = .ok (.i2l, 1) := by decide +kernel
theorem dX12_packBox_234 : decode cX12_packBox 234 = .ok (.iconst 4, 1) := by decide +kernel
theorem dX12_packBox_235 : decode cX12_packBox 235 = .ok (.invokevirtual 400, 3) := by decide +kernel
theorem dX12_packBox_238 : decode cX12_packBox 238 = .ok (.aload_n 0, 1) := by decide +kernel
theorem dX12_packBox_239 : decode cX12_packBox 239 = .ok (.iconst 0, 1) := by decide +kernel
theorem dX12_packBox_240 : decode cX12_packBox 240 = .ok (.invokevirtual 394, 3) := by decide +kernel
theorem dX12_packBox_243 : decode cX12_packBox 243 = .ok (.aload_n 0, 1) := by decide +kernel
theorem dX12_packBox_244 : decode cX12_packBox 244 = .ok (.aload_n 0, 1) := by decide +kernel
theorem dX12_packBox_245 : decode cX12_packBox 245 = .ok (.getfield 25, 3) := by decide +kernel
theorem dX12_packBox_248 : decode cX12_packBox 248 = .ok (.invokevirtual 394, 3) := by decide +kernel
theorem dX12_packBox_251 : decode cX12_packBox 251 = .ok (.aload_n 0, 1) := by decide +kernel
theorem dX12_packBox_252 : decode cX12_packBox 252 = .ok (.iload_n 3, 1) := by decide +kernel
theorem dX12_packBox_253 : decode cX12_packBox 253 = .ok (.iconst 4, 1) := by decide +kernel
theorem dX12_packBox_254 : decode cX12_packBox 254 = .ok (.iadd, 1) := by decide +kernel
theorem dX12_packBox_255 : decode cX12_packBox 255 = .ok (.iload_n 3, 1) := by decide +kernel
theorem dX12_packBox_256 : decode cX12_packBox 256 = .ok (.bipush 10, 2) := by decide +kernel
theorem dX12_packBox_258 : decode cX12_packBox 258 = .ok (.iadd, 1) := by decide +kernel
theorem dX12_packBox_259 : decode cX12_packBox 259 = .ok (.invokevirtual 445, 3) := by decide +kernel
theorem dX12_packBox_262 : decode cX12_packBox 262 = .ok (.istore 4, 2) := by decide +kernel
theorem dX12_packBox_264 : decode cX12_packBox 264 = .ok (.iconst 0, 1) := by decide +kernel
theorem dX12_packBox_265 : decode cX12_packBox 265 = .ok (.istore 5, 2) := by decide +kernel
theorem dX12_packBox_267 : decode cX12_packBox 267 = .ok (.iload 5, 2) := by decide +kernel
theorem dX12_packBox_269 : decode cX12_packBox 269 = .ok (.iconst 4, 1) := by decide +kernel
theorem dX12_packBox_270 : decode cX12_packBox 270 = .ok (.if_icmp .ge 30, 3) := by decide +kernel
theorem dX12_packBox_273 : decode cX12_packBox 273 = .ok (.aload_n 0, 1) := by decide +kernel
theorem dX12_packBox_274 : decode cX12_packBox 274 = .ok (.getfield 98, 3) := by decide +kernel
theorem dX12_packBox_277 : decode cX12_packBox 277 = .ok (.iload_n 3, 1) := by decide +kernel
theorem dX12_packBox_278 : decode cX12_packBox 278 = .ok (.iload 5, 2) := by decide +kernel
theorem dX12_packBox_280 : decode cX12_packBox 280 = .ok (.iadd, 1) := by decide +kernel
theorem dX12_packBox_281 : decode cX12_packBox 281 = .ok (.iload 4, 2) := by decide +kernel
theorem dX12_packBox_283 : decode cX12_packBox 283 = .ok (.bipush 8, 2) := by decide +kernel
theorem dX12_packBox_285 : decode cX12_packBox 285 = .ok (.iload 5, 2) := by decide +kernel
theorem dX12_packBox_287 : decode cX12_packBox 287 = .ok (.imul, 1) := by decide +kernel
theorem dX12_packBox_288 : decode cX12_packBox 288 = .ok (.ishr, 1) := by decide +kernel
theorem dX12_packBox_289 : decode cX12_packBox 289 = .ok (.sipush 255, 3) := by decide +kernel
theorem dX12_packBox_292 : decode cX12_packBox 292 = .ok (.iand, 1) := by decide +kernel
theorem dX12_packBox_293 : decode cX12_packBox 293 = .ok (.iastore, 1) := by decide +kernel
theorem dX12_packBox_294 : decode cX12_packBox 294 = .ok (.iinc 5 1, 3) := by decide +kernel
theorem dX12_packBox_297 : decode cX12_packBox 297 = .ok (.goto (-30), 3) := by decide +kernel
theorem dX12_packBox_300 : decode cX12_packBox 300 = .ok (.aload_n 0, 1) := by decide +kernel
theorem dX12_packBox_301 : decode cX12_packBox 301 = .ok (.bipush 89, 2) := by decide +kernel
theorem dX12_packBox_303 : decode cX12_packBox 303 = .ok (.invokevirtual 394, 3) := by decide +kernel
theorem dX12_packBox_306 : decode cX12_packBox 306 = .ok (.aload_n 0, 1) := by decide +kernel
theorem dX12_packBox_307 : decode cX12_packBox 307 = .ok (.bipush 90, 2) := by decide +kernel
theorem dX12_packBox_309 : decode cX12_packBox 309 = .ok (.invokevirtual 394, 3) := by decide +kernel
theorem dX12_packBox_312 : decode cX12_packBox 312 = .ok (.return_, 1) := by decide +kernel
theorem dX12_putMagic_0 : decode cX12_putMagic 0 = .ok (.aload_n 0, 1) := by decide +kernel
theorem dX12_putMagic_1 : decode cX12_putMagic 1 = .ok (.sipush 253, 3) := by decide +kernel
theorem dX12_putMagic_4 : decode cX12_putMagic 4 = .ok (.invokevirtual 394, 3) := by decide +kernel
theorem dX12_putMagic_7 : decode cX12_putMagic 7 = .ok (.aload_n 0, 1) := by decide +kernel
theorem dX12_putMagic_8 : decode cX12_putMagic 8 = .ok (.bipush 55, 2) := by decide +kernel
theorem dX12_putMagic_10 : decode cX12_putMagic 10 = .ok (.invokevirtual 394, 3) := by decide +kernel
theorem dX12_putMagic_13 : decode cX12_putMagic 13 = .ok (.aload_n 0, 1) := by decide +kernel
theorem dX12_putMagic_14 : decode cX12_putMagic 14 = .ok (.bipush 122, 2) := by decide +kernel
theorem dX12_putMagic_16 : decode cX12_putMagic 16 = .ok (.invokevirtual 394, 3) := by decide +kernel
theorem dX12_putMagic_19 : decode cX12_putMagic 19 = .ok (.aload_n 0, 1) := by decide +kernel
theorem dX12_putMagic_20 : decode cX12_putMagic 20 = .ok (.bipush 88, 2) := by decide +kernel
theorem dX12_putMagic_22 : decode cX12_putMagic 22 = .ok (.invokevirtual 394, 3) := by decide +kernel
theorem dX12_putMagic_25 : decode cX12_putMagic 25 = .ok (.aload_n 0, 1) := by decide +kernel
theorem dX12_putMagic_26 : decode cX12_putMagic 26 = .ok (.bipush 90, 2) := by decide +kernel
theorem dX12_putMagic_28 : decode cX12_putMagic 28 = .ok (.invokevirtual 394, 3) := by decide +kernel
theorem dX12_putMagic_31 : decode cX12_putMagic 31 = .ok (.aload_n 0, 1) := by decide +kernel
theorem dX12_putMagic_32 : decode cX12_putMagic 32 = .ok (.iconst 0, 1) := by decide +kernel
theorem dX12_putMagic_33 : decode cX12_putMagic 33 = .ok (.invokevirtual 394, 3) := by decide +kernel
theorem dX12_putMagic_36 : decode cX12_putMagic 36 = .ok (.return_, 1) := by decide +kernel
theorem dX12_clearTold_0 : decode cX12_clearTold 0 = .ok (.aload_n 0, 1) := by decide +kernel
theorem dX12_clearTold_1 : decode cX12_clearTold 1 = .ok (.iconst 0, 1) := by decide +kernel
theorem dX12_clearTold_2 : decode cX12_clearTold 2 = .ok (.putfield 222, 3) := by decide +kernel
theorem dX12_clearTold_5 : decode cX12_clearTold 5 = .ok (.aload_n 0, 1) := by decide +kernel
theorem dX12_clearTold_6 : decode cX12_clearTold 6 = .ok (.iconst 0, 1) := by decide +kernel
theorem dX12_clearTold_7 : decode cX12_clearTold 7 = .ok (.putfield 228, 3) := by decide +kernel
theorem dX12_clearTold_10 : decode cX12_clearTold 10 = .ok (.aload_n 0, 1) := by decide +kernel
theorem dX12_clearTold_11 : decode cX12_clearTold 11 = .ok (.iconst 0, 1) := by decide +kernel
theorem dX12_clearTold_12 : decode cX12_clearTold 12 = .ok (.putfield 372, 3) := by decide +kernel
theorem dX12_clearTold_15 : decode cX12_clearTold 15 = .ok (.aload_n 0, 1) := by decide +kernel
theorem dX12_clearTold_16 : decode cX12_clearTold 16 = .ok (.iconst 0, 1) := by decide +kernel
theorem dX12_clearTold_17 : decode cX12_clearTold 17 = .ok (.putfield 129, 3) := by decide +kernel
theorem dX12_clearTold_20 : decode cX12_clearTold 20 = .ok (.return_, 1) := by decide +kernel
theorem dX12_pack_0 : decode cX12_pack 0 = .ok (.aload_n 0, 1) := by decide +kernel
theorem dX12_pack_1 : decode cX12_pack 1 = .ok (.iconst 0, 1) := by decide +kernel
theorem dX12_pack_2 : decode cX12_pack 2 = .ok (.putfield 111, 3) := by decide +kernel
theorem dX12_pack_5 : decode cX12_pack 5 = .ok (.iload_n 1, 1) := by decide +kernel
theorem dX12_pack_6 : decode cX12_pack 6 = .ok (.ifCond .lt 8, 3) := by decide +kernel
theorem dX12_pack_9 : decode cX12_pack 9 = .ok (.iload_n 1, 1) := by decide +kernel
theorem dX12_pack_10 : decode cX12_pack 10 = .ok (.iconst 2, 1) := by decide +kernel
theorem dX12_pack_11 : decode cX12_pack 11 = .ok (.if_icmp .le 5, 3) := by decide +kernel
theorem dX12_pack_14 : decode cX12_pack 14 = .ok (.iconst (-1), 1) := by decide +kernel
theorem dX12_pack_15 : decode cX12_pack 15 = .ok (.ireturn, 1) := by decide +kernel
theorem dX12_pack_16 : decode cX12_pack 16 = .ok (.aload_n 0, 1) := by decide +kernel
theorem dX12_pack_17 : decode cX12_pack 17 = .ok (.iload_n 1, 1) := by decide +kernel
theorem dX12_pack_18 : decode cX12_pack 18 = .ok (.putfield 360, 3) := by decide +kernel
theorem dX12_pack_21 : decode cX12_pack 21 = .ok (.aload_n 0, 1) := by decide +kernel
theorem dX12_pack_22 : decode cX12_pack 22 = .ok (.iconst 0, 1) := by decide +kernel
theorem dX12_pack_23 : decode cX12_pack 23 = .ok (.putfield 225, 3) := by decide +kernel
theorem dX12_pack_26 : decode cX12_pack 26 = .ok (.aload_n 0, 1) := by decide +kernel
theorem dX12_pack_27 : decode cX12_pack 27 = .ok (.invokevirtual 461, 3) := by decide +kernel
theorem dX12_pack_30 : decode cX12_pack 30 = .ok (.aload_n 0, 1) := by decide +kernel
theorem dX12_pack_31 : decode cX12_pack 31 = .ok (.iconst 0, 1) := by decide +kernel
theorem dX12_pack_32 : decode cX12_pack 32 = .ok (.putfield 391, 3) := by decide +kernel
theorem dX12_pack_35 : decode cX12_pack 35 = .ok (.aload_n 0, 1) := by decide +kernel
theorem dX12_pack_36 : decode cX12_pack 36 = .ok (.invokevirtual 407, 3) := by decide +kernel
theorem dX12_pack_39 : decode cX12_pack 39 = .ok (.aload_n 0, 1) := by decide +kernel
theorem dX12_pack_40 : decode cX12_pack 40 = .ok (.getfield 107, 3) := by decide +kernel
theorem dX12_pack_43 : decode cX12_pack 43 = .ok (.ifCond .ne 10, 3) := by decide +kernel
theorem dX12_pack_46 : decode cX12_pack 46 = .ok (.aload_n 0, 1) := by decide +kernel
theorem dX12_pack_47 : decode cX12_pack 47 = .ok (.invokevirtual 464, 3) := by decide +kernel
theorem dX12_pack_50 : decode cX12_pack 50 = .ok (.goto 107, 3) := by decide +kernel
theorem dX12_pack_53 : decode cX12_pack 53 = .ok (.aload_n 0, 1) := by decide +kernel
theorem dX12_pack_54 : decode cX12_pack 54 = .ok (.getfield 107, 3) := by decide +kernel
theorem dX12_pack_57 : decode cX12_pack 57 = .ok (.iconst 1, 1) := by decide +kernel
theorem dX12_pack_58 : decode cX12_pack 58 = .ok (.if_icmp .ne 95, 3) := by decide +kernel
theorem dX12_pack_61 : decode cX12_pack 61 = .ok (.aload_n 0, 1) := by decide +kernel
theorem dX12_pack_62 : decode cX12_pack 62 = .ok (.aload_n 0, 1) := by decide +kernel
theorem dX12_pack_63 : decode cX12_pack 63 = .ok (.getfield 126, 3) := by decide +kernel
theorem dX12_pack_66 : decode cX12_pack 66 = .ok (.putfield 208, 3) := by decide +kernel
theorem dX12_pack_69 : decode cX12_pack 69 = .ok (.iconst 0, 1) := by decide +kernel
theorem dX12_pack_70 : decode cX12_pack 70 = .ok (.istore_n 2, 1) := by decide +kernel
theorem dX12_pack_71 : decode cX12_pack 71 = .ok (.iload_n 2, 1) := by decide +kernel
theorem dX12_pack_72 : decode cX12_pack 72 = .ok (.aload_n 0, 1) := by decide +kernel
theorem dX12_pack_73 : decode cX12_pack 73 = .ok (.getfield 126, 3) := by decide +kernel
theorem dX12_pack_76 : decode cX12_pack 76 = .ok (.if_icmp .ge 21, 3) := by decide +kernel
theorem dX12_pack_79 : decode cX12_pack 79 = .ok (.aload_n 0, 1) := by decide +kernel
theorem dX12_pack_80 : decode cX12_pack 80 = .ok (.getfield 47, 3) := by decide +kernel
theorem dX12_pack_83 : decode cX12_pack 83 = .ok (.iload_n 2, 1) := by decide +kernel
theorem dX12_pack_84 : decode cX12_pack 84 = .ok (.aload_n 0, 1) := by decide +kernel
theorem dX12_pack_85 : decode cX12_pack 85 = .ok (.getfield 28, 3) := by decide +kernel
theorem dX12_pack_88 : decode cX12_pack 88 = .ok (.iload_n 2, 1) := by decide +kernel
theorem dX12_pack_89 : decode cX12_pack 89 = .ok (.iaload, 1) := by decide +kernel
theorem dX12_pack_90 : decode cX12_pack 90 = .ok (.iastore, 1) := by decide +kernel
theorem dX12_pack_91 : decode cX12_pack 91 = .ok (.iinc 2 1, 3) := by decide +kernel
theorem dX12_pack_94 : decode cX12_pack 94 = .ok (.goto (-23), 3) := by decide +kernel
theorem dX12_pack_97 : decode cX12_pack 97 = .ok (.aload_n 0, 1) := by decide +kernel
theorem dX12_pack_98 : decode cX12_pack 98 = .ok (.invokevirtual 448, 3) := by decide +kernel
theorem dX12_pack_101 : decode cX12_pack 101 = .ok (.aload_n 0, 1) := by decide +kernel
theorem dX12_pack_102 : decode cX12_pack 102 = .ok (.getfield 62, 3) := by decide +kernel
theorem dX12_pack_105 : decode cX12_pack 105 = .ok (.iconst 0, 1) := by decide +kernel
theorem dX12_pack_106 : decode cX12_pack 106 = .ok (.iconst 0, 1) := by decide +kernel
theorem dX12_pack_107 : decode cX12_pack 107 = .ok (.iastore, 1) := by decide +kernel
theorem dX12_pack_108 : decode cX12_pack 108 = .ok (.aload_n 0, 1) := by decide +kernel
theorem dX12_pack_109 : decode cX12_pack 109 = .ok (.getfield 65, 3) := by decide +kernel
theorem dX12_pack_112 : decode cX12_pack 112 = .ok (.iconst 0, 1) := by decide +kernel
theorem dX12_pack_113 : decode cX12_pack 113 = .ok (.iconst 0, 1) := by decide +kernel
theorem dX12_pack_114 : decode cX12_pack 114 = .ok (.iastore, 1) := by decide +kernel
theorem dX12_pack_115 : decode cX12_pack 115 = .ok (.aload_n 0, 1) := by decide +kernel
theorem dX12_pack_116 : decode cX12_pack 116 = .ok (.getfield 68, 3) := by decide +kernel
theorem dX12_pack_119 : decode cX12_pack 119 = .ok (.iconst 0, 1) := by decide +kernel
theorem dX12_pack_120 : decode cX12_pack 120 = .ok (.aload_n 0, 1) := by decide +kernel
theorem dX12_pack_121 : decode cX12_pack 121 = .ok (.getfield 391, 3) := by decide +kernel
theorem dX12_pack_124 : decode cX12_pack 124 = .ok (.iastore, 1) := by decide +kernel
theorem dX12_pack_125 : decode cX12_pack 125 = .ok (.aload_n 0, 1) := by decide +kernel
theorem dX12_pack_126 : decode cX12_pack 126 = .ok (.getfield 71, 3) := by decide +kernel
theorem dX12_pack_129 : decode cX12_pack 129 = .ok (.iconst 0, 1) := by decide +kernel
theorem dX12_pack_130 : decode cX12_pack 130 = .ok (.aload_n 0, 1) := by decide +kernel
theorem dX12_pack_131 : decode cX12_pack 131 = .ok (.getfield 126, 3) := by decide +kernel
theorem dX12_pack_134 : decode cX12_pack 134 = .ok (.iastore, 1) := by decide +kernel
theorem dX12_pack_135 : decode cX12_pack 135 = .ok (.aload_n 0, 1) := by decide +kernel
theorem dX12_pack_136 : decode cX12_pack 136 = .ok (.getfield 74, 3) := by decide +kernel
theorem dX12_pack_139 : decode cX12_pack 139 = .ok (.iconst 0, 1) := by decide +kernel
theorem dX12_pack_140 : decode cX12_pack 140 = .ok (.aload_n 0, 1) := by decide +kernel
theorem dX12_pack_141 : decode cX12_pack 141 = .ok (.getfield 434, 3) := by decide +kernel
theorem dX12_pack_144 : decode cX12_pack 144 = .ok (.iastore, 1) := by decide +kernel
theorem dX12_pack_145 : decode cX12_pack 145 = .ok (.aload_n 0, 1) := by decide +kernel
theorem dX12_pack_146 : decode cX12_pack 146 = .ok (.iconst 1, 1) := by decide +kernel
theorem dX12_pack_147 : decode cX12_pack 147 = .ok (.putfield 228, 3) := by decide +kernel
theorem dX12_pack_150 : decode cX12_pack 150 = .ok (.goto 7, 3) := by decide +kernel
theorem dX12_pack_153 : decode cX12_pack 153 = .ok (.aload_n 0, 1) := by decide +kernel
theorem dX12_pack_154 : decode cX12_pack 154 = .ok (.invokevirtual 467, 3) := by decide +kernel
theorem dX12_pack_157 : decode cX12_pack 157 = .ok (.aload_n 0, 1) := by decide +kernel
theorem dX12_pack_158 : decode cX12_pack 158 = .ok (.aload_n 0, 1) := by decide +kernel
theorem dX12_pack_159 : decode cX12_pack 159 = .ok (.getfield 231, 3) := by decide +kernel
theorem dX12_pack_162 : decode cX12_pack 162 = .ok (.putfield 77, 3) := by decide +kernel
theorem dX12_pack_165 : decode cX12_pack 165 = .ok (.aload_n 0, 1) := by decide +kernel
theorem dX12_pack_166 : decode cX12_pack 166 = .ok (.iconst 0, 1) := by decide +kernel
theorem dX12_pack_167 : decode cX12_pack 167 = .ok (.putfield 126, 3) := by decide +kernel
theorem dX12_pack_170 : decode cX12_pack 170 = .ok (.aload_n 0, 1) := by decide +kernel
theorem dX12_pack_171 : decode cX12_pack 171 = .ok (.getfield 391, 3) := by decide +kernel
theorem dX12_pack_174 : decode cX12_pack 174 = .ok (.sipush 3000, 3) := by decide +kernel
theorem dX12_pack_177 : decode cX12_pack 177 = .ok (.if_icmp .le 21, 3) := by decide +kernel
theorem dX12_pack_180 : decode cX12_pack 180 = .ok (.aload_n 0, 1) := by decide +kernel
theorem dX12_pack_181 : decode cX12_pack 181 = .ok (.iconst 0, 1) := by decide +kernel
theorem dX12_pack_182 : decode cX12_pack 182 = .ok (.putfield 222, 3) := by decide +kernel
theorem dX12_pack_185 : decode cX12_pack 185 = .ok (.aload_n 0, 1) := by decide +kernel
theorem dX12_pack_186 : decode cX12_pack 186 = .ok (.iconst 0, 1) := by decide +kernel
theorem dX12_pack_187 : decode cX12_pack 187 = .ok (.putfield 228, 3) := by decide +kernel
theorem dX12_pack_190 : decode cX12_pack 190 = .ok (.aload_n 0, 1) := by decide +kernel
theorem dX12_pack_191 : decode cX12_pack 191 = .ok (.iconst (-1), 1) := by decide +kernel
theorem dX12_pack_192 : decode cX12_pack 192 = .ok (.putfield 77, 3) := by decide +kernel
theorem dX12_pack_195 : decode cX12_pack 195 = .ok (.bipush (-3), 2) := by decide +kernel
theorem dX12_pack_197 : decode cX12_pack 197 = .ok (.ireturn, 1) := by decide +kernel
theorem dX12_pack_198 : decode cX12_pack 198 = .ok (.aload_n 0, 1) := by decide +kernel
theorem dX12_pack_199 : decode cX12_pack 199 = .ok (.aload_n 0, 1) := by decide +kernel
theorem dX12_pack_200 : decode cX12_pack 200 = .ok (.getfield 391, 3) := by decide +kernel
theorem dX12_pack_203 : decode cX12_pack 203 = .ok (.putfield 129, 3) := by decide +kernel
theorem dX12_pack_206 : decode cX12_pack 206 = .ok (.iconst 0, 1) := by decide +kernel
theorem dX12_pack_207 : decode cX12_pack 207 = .ok (.istore_n 2, 1) := by decide +kernel
theorem dX12_pack_208 : decode cX12_pack 208 = .ok (.iload_n 2, 1) := by decide +kernel
theorem dX12_pack_209 : decode cX12_pack 209 = .ok (.aload_n 0, 1) := by decide +kernel
theorem dX12_pack_210 : decode cX12_pack 210 = .ok (.getfield 391, 3) := by decide +kernel
theorem dX12_pack_213 : decode cX12_pack 213 = .ok (.if_icmp .ge 21, 3) := by decide +kernel
theorem dX12_pack_216 : decode cX12_pack 216 = .ok (.aload_n 0, 1) := by decide +kernel
theorem dX12_pack_217 : decode cX12_pack 217 = .ok (.getfield 32, 3) := by decide +kernel
theorem dX12_pack_220 : decode cX12_pack 220 = .ok (.iload_n 2, 1) := by decide +kernel
theorem dX12_pack_221 : decode cX12_pack 221 = .ok (.aload_n 0, 1) := by decide +kernel
theorem dX12_pack_222 : decode cX12_pack 222 = .ok (.getfield 98, 3) := by decide +kernel
theorem dX12_pack_225 : decode cX12_pack 225 = .ok (.iload_n 2, 1) := by decide +kernel
theorem dX12_pack_226 : decode cX12_pack 226 = .ok (.iaload, 1) := by decide +kernel
theorem dX12_pack_227 : decode cX12_pack 227 = .ok (.iastore, 1) := by decide +kernel
theorem dX12_pack_228 : decode cX12_pack 228 = .ok (.iinc 2 1, 3) := by decide +kernel
theorem dX12_pack_231 : decode cX12_pack 231 = .ok (.goto (-23), 3) := by decide +kernel
theorem dX12_pack_234 : decode cX12_pack 234 = .ok (.aload_n 0, 1) := by decide +kernel
theorem dX12_pack_235 : decode cX12_pack 235 = .ok (.getfield 129, 3) := by decide +kernel
theorem dX12_pack_238 : decode cX12_pack 238 = .ok (.ireturn, 1) := by decide +kernel
theorem dX12_fail_0 : decode cX12_fail 0 = .ok (.aload_n 0, 1) := by decide +kernel
theorem dX12_fail_1 : decode cX12_fail 1 = .ok (.getfield 470, 3) := by decide +kernel
theorem dX12_fail_4 : decode cX12_fail 4 = .ok (.ifCond .ne 8, 3) := by decide +kernel
theorem dX12_fail_7 : decode cX12_fail 7 = .ok (.aload_n 0, 1) := by decide +kernel
theorem dX12_fail_8 : decode cX12_fail 8 = .ok (.iload_n 1, 1) := by decide +kernel
theorem dX12_fail_9 : decode cX12_fail 9 = .ok (.putfield 470, 3) := by decide +kernel
theorem dX12_fail_12 : decode cX12_fail 12 = .ok (.return_, 1) := by decide +kernel
theorem dX12_next_0 : decode cX12_next 0 = .ok (.aload_n 0, 1) := by decide +kernel
theorem dX12_next_1 : decode cX12_next 1 = .ok (.getfield 470, 3) := by decide +kernel
theorem dX12_next_4 : decode cX12_next 4 = .ok (.ifCond .le 5, 3) := by decide +kernel
theorem dX12_next_7 : decode cX12_next 7 = .ok (.iconst 0, 1) := by decide +kernel
theorem dX12_next_8 : decode cX12_next 8 = .ok (.ireturn, 1) := by decide +kernel
theorem dX12_next_9 : decode cX12_next 9 = .ok (.aload_n 0, 1) := by decide +kernel
theorem dX12_next_10 : decode cX12_next 10 = .ok (.getfield 473, 3) := by decide +kernel
theorem dX12_next_13 : decode cX12_next 13 = .ok (.aload_n 0, 1) := by decide +kernel
theorem dX12_next_14 : decode cX12_next 14 = .ok (.getfield 476, 3) := by decide +kernel
theorem dX12_next_17 : decode cX12_next 17 = .ok (.if_icmp .ge 14, 3) := by decide +kernel
theorem dX12_next_20 : decode cX12_next 20 = .ok (.aload_n 0, 1) := by decide +kernel
theorem dX12_next_21 : decode cX12_next 21 = .ok (.getfield 473, 3) := by decide +kernel
theorem dX12_next_24 : decode cX12_next 24 = .ok (.aload_n 0, 1) := by decide +kernel
theorem dX12_next_25 : decode cX12_next 25 = .ok (.getfield 126, 3) := by decide +kernel
theorem dX12_next_28 : decode cX12_next 28 = .ok (.if_icmp .lt 10, 3) := by decide +kernel
theorem dX12_next_31 : decode cX12_next 31 = .ok (.aload_n 0, 1) := by decide +kernel
theorem dX12_next_32 : decode cX12_next 32 = .ok (.iconst 1, 1) := by decide +kernel
theorem dX12_next_33 : decode cX12_next 33 = .ok (.invokevirtual 479, 3) := by decide +kernel
theorem dX12_next_36 : decode cX12_next 36 = .ok (.iconst 0, 1) := by decide +kernel
theorem dX12_next_37 : decode cX12_next 37 = .ok (.ireturn, 1) := by decide +kernel
theorem dX12_next_38 : decode cX12_next 38 = .ok (.aload_n 0, 1) := by decide +kernel
theorem dX12_next_39 : decode cX12_next 39 = .ok (.dup, 1) := by decide +kernel
theorem dX12_next_40 : decode cX12_next 40 = .ok (.getfield 473, 3) := by decide +kernel
theorem dX12_next_43 : decode cX12_next 43 = .ok (.iconst 1, 1) := by decide +kernel
theorem dX12_next_44 : decode cX12_next 44 = .ok (.iadd, 1) := by decide +kernel
theorem dX12_next_45 : decode cX12_next 45 = .ok (.putfield 473, 3) := by decide +kernel
theorem dX12_next_48 : decode cX12_next 48 = .ok (.aload_n 0, 1) := by decide +kernel
theorem dX12_next_49 : decode cX12_next 49 = .ok (.getfield 28, 3) := by decide +kernel
theorem dX12_next_52 : decode cX12_next 52 = .ok (.aload_n 0, 1) := by decide +kernel
theorem dX12_next_53 : decode cX12_next 53 = .ok (.getfield 473, 3) := by decide +kernel
theorem dX12_next_56 : decode cX12_next 56 = .ok (.iconst 1, 1) := by decide +kernel
theorem dX12_next_57 : decode cX12_next 57 = .ok (.isub, 1) := by decide +kernel
theorem dX12_next_58 : decode cX12_next 58 = .ok (.iaload, 1) := by decide +kernel
theorem dX12_next_59 : decode cX12_next 59 = .ok (.ireturn, 1) := by decide +kernel
theorem dX12_nextWide_0 : decode cX12_nextWide 0 = .ok (.lconst 0, 1) := by decide +kernel
theorem dX12_nextWide_1 : decode cX12_nextWide 1 = .ok (.lstore_n 2, 1) := by decide +kernel
theorem dX12_nextWide_2 : decode cX12_nextWide 2 = .ok (.iconst 0, 1) := by decide +kernel
theorem dX12_nextWide_3 : decode cX12_nextWide 3 = .ok (.istore 4, 2) := by decide +kernel
theorem dX12_nextWide_5 : decode cX12_nextWide 5 = .ok (.iload 4, 2) := by decide +kernel
theorem dX12_nextWide_7 : decode cX12_nextWide 7 = .ok (.iload_n 1, 1) := by decide +kernel
theorem dX12_nextWide_8 : decode cX12_nextWide 8 = .ok (.if_icmp .ge 23, 3) := by decide +kernel
theorem dX12_nextWide_11 : decode cX12_nextWide 11 = .ok (.lload_n 2, 1) := by decide +kernel
theorem dX12_nextWide_12 : decode cX12_nextWide 12 = .ok (.aload_n 0, 1) := by decide +kernel
theorem dX12_nextWide_13 : decode cX12_nextWide 13 = .ok (.invokevirtual 482, 3) := by decide +kernel
theorem dX12_nextWide_16 : decode cX12_nextWide 16 = .ok (.i2l, 1) := by decide +kernel
theorem dX12_nextWide_17 : decode cX12_nextWide 17 = .ok (.bipush 8, 2) := by decide +kernel
theorem dX12_nextWide_19 : decode cX12_nextWide 19 = .ok (.iload 4, 2) := by decide +kernel
theorem dX12_nextWide_21 : decode cX12_nextWide 21 = .ok (.imul, 1) := by decide +kernel
theorem dX12_nextWide_22 : decode cX12_nextWide 22 = .ok (.lshl, 1) := by decide +kernel
theorem dX12_nextWide_23 : decode cX12_nextWide 23 = .ok (.lor, 1) := by decide +kernel
theorem dX12_nextWide_24 : decode cX12_nextWide 24 = .ok (.lstore_n 2, 1) := by decide +kernel
theorem dX12_nextWide_25 : decode cX12_nextWide 25 = .ok (.iinc 4 1, 3) := by decide +kernel
theorem dX12_nextWide_28 : decode cX12_nextWide 28 = .ok (.goto (-23), 3) := by decide +kernel
theorem dX12_nextWide_31 : decode cX12_nextWide 31 = .ok (.lload_n 2, 1) := by decide +kernel
theorem dX12_nextWide_32 : decode cX12_nextWide 32 = .ok (.lreturn, 1) := by decide +kernel
theorem dX12_readProperty_0 : decode cX12_readProperty 0 = .ok (.aload_n 0, 1) := by decide +kernel
theorem dX12_readProperty_1 : decode cX12_readProperty 1 = .ok (.invokevirtual 482, 3) := by decide +kernel
theorem dX12_readProperty_4 : decode cX12_readProperty 4 = .ok (.istore_n 1, 1) := by decide +kernel
theorem dX12_readProperty_5 : decode cX12_readProperty 5 = .ok (.aload_n 0, 1) := by decide +kernel
theorem dX12_readProperty_6 : decode cX12_readProperty 6 = .ok (.getfield 470, 3) := by decide +kernel
theorem dX12_readProperty_9 : decode cX12_readProperty 9 = .ok (.ifCond .le 5, 3) := by decide +kernel
theorem dX12_readProperty_12 : decode cX12_readProperty 12 = .ok (.iconst 0, 1) := by decide +kernel
theorem dX12_readProperty_13 : decode cX12_readProperty 13 = .ok (.ireturn, 1) := by decide +kernel
theorem dX12_readProperty_14 : decode cX12_readProperty 14 = .ok (.aload_n 0, 1) := by decide +kernel
theorem dX12_readProperty_15 : decode cX12_readProperty 15 = .ok (.iload_n 1, 1) := by decide +kernel
theorem dX12_readProperty_16 : decode cX12_readProperty 16 = .ok (.bipush 9, 2) := by decide +kernel
theorem dX12_readProperty_18 : decode cX12_readProperty 18 = .ok (.irem, 1) := by decide +kernel
theorem dX12_readProperty_19 : decode cX12_readProperty 19 = .ok (.putfield 258, 3) := by decide +kernel
theorem dX12_readProperty_22 : decode cX12_readProperty 22 = .ok (.aload_n 0, 1) := by decide +kernel
theorem dX12_readProperty_23 : decode cX12_readProperty 23 = .ok (.iload_n 1, 1) := by decide +kernel
theorem dX12_readProperty_24 : decode cX12_readProperty 24 = .ok (.bipush 9, 2) := by decide +kernel
theorem dX12_readProperty_26 : decode cX12_readProperty 26 = .ok (.idiv, 1) := by decide +kernel
theorem dX12_readProperty_27 : decode cX12_readProperty 27 = .ok (.iconst 5, 1) := by decide +kernel
