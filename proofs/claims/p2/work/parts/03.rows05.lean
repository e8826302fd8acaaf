theorem dX12_deltaAway_1 : decode cX12_deltaAway 1 = .ok (.getfield 208, 3) := by decide +kernel
theorem dX12_deltaAway_4 : decode cX12_deltaAway 4 = .ok (.iconst 1, 1) := by decide +kernel
theorem dX12_deltaAway_5 : decode cX12_deltaAway 5 = .ok (.isub, 1) := by decide +kernel
theorem dX12_deltaAway_6 : decode cX12_deltaAway 6 = .ok (.istore_n 2, 1) := by decide +kernel
theorem dX12_deltaAway_7 : decode cX12_deltaAway 7 = .ok (.iload_n 2, 1) := by decide +kernel
theorem dX12_deltaAway_8 : decode cX12_deltaAway 8 = .ok (.iload_n 1, 1) := by decide +kernel
theorem dX12_deltaAway_9 : decode cX12_deltaAway 9 = .ok (.if_icmp .lt 34, 3) := by decide +kernel
theorem dX12_deltaAway_12 : decode cX12_deltaAway 12 = .ok (.aload_n 0, 1) := by decide +kernel
theorem dX12_deltaAway_13 : decode cX12_deltaAway 13 = .ok (.getfield 47, 3) := by decide +kernel
theorem dX12_deltaAway_16 : decode cX12_deltaAway 16 = .ok (.iload_n 2, 1) := by decide +kernel
theorem dX12_deltaAway_17 : decode cX12_deltaAway 17 = .ok (.aload_n 0, 1) := by decide +kernel
theorem dX12_deltaAway_18 : decode cX12_deltaAway 18 = .ok (.getfield 47, 3) := by decide +kernel
theorem dX12_deltaAway_21 : decode cX12_deltaAway 21 = .ok (.iload_n 2, 1) := by decide +kernel
theorem dX12_deltaAway_22 : decode cX12_deltaAway 22 = .ok (.iaload, 1) := by decide +kernel
theorem dX12_deltaAway_23 : decode cX12_deltaAway 23 = .ok (.aload_n 0, 1) := by decide +kernel
theorem dX12_deltaAway_24 : decode cX12_deltaAway 24 = .ok (.getfield 47, 3) := by decide +kernel
theorem dX12_deltaAway_27 : decode cX12_deltaAway 27 = .ok (.iload_n 2, 1) := by decide +kernel
theorem dX12_deltaAway_28 : decode cX12_deltaAway 28 = .ok (.iload_n 1, 1) := by decide +kernel
theorem dX12_deltaAway_29 : decode cX12_deltaAway 29 = .ok (.isub, 1) := by decide +kernel
theorem dX12_deltaAway_30 : decode cX12_deltaAway 30 = .ok (.iaload, 1) := by decide +kernel
theorem dX12_deltaAway_31 : decode cX12_deltaAway 31 = .ok (.isub, 1) := by decide +kernel
theorem dX12_deltaAway_32 : decode cX12_deltaAway 32 = .ok (.sipush 255, 3) := by decide +kernel
theorem dX12_deltaAway_35 : decode cX12_deltaAway 35 = .ok (.iand, 1) := by decide +kernel
theorem dX12_deltaAway_36 : decode cX12_deltaAway 36 = .ok (.iastore, 1) := by decide +kernel
theorem dX12_deltaAway_37 : decode cX12_deltaAway 37 = .ok (.iinc 2 (-1), 3) := by decide +kernel
theorem dX12_deltaAway_40 : decode cX12_deltaAway 40 = .ok (.goto (-33), 3) := by decide +kernel
theorem dX12_deltaAway_43 : decode cX12_deltaAway 43 = .ok (.return_, 1) := by decide +kernel
theorem dX12_deltaBack_0 : decode cX12_deltaBack 0 = .ok (.iload_n 1, 1) := by decide +kernel
theorem dX12_deltaBack_1 : decode cX12_deltaBack 1 = .ok (.istore_n 2, 1) := by decide +kernel
theorem dX12_deltaBack_2 : decode cX12_deltaBack 2 = .ok (.iload_n 2, 1) := by decide +kernel
theorem dX12_deltaBack_3 : decode cX12_deltaBack 3 = .ok (.aload_n 0, 1) := by decide +kernel
theorem dX12_deltaBack_4 : decode cX12_deltaBack 4 = .ok (.getfield 208, 3) := by decide +kernel
theorem dX12_deltaBack_7 : decode cX12_deltaBack 7 = .ok (.if_icmp .ge 34, 3) := by decide +kernel
theorem dX12_deltaBack_10 : decode cX12_deltaBack 10 = .ok (.aload_n 0, 1) := by decide +kernel
theorem dX12_deltaBack_11 : decode cX12_deltaBack 11 = .ok (.getfield 47, 3) := by decide +kernel
theorem dX12_deltaBack_14 : decode cX12_deltaBack 14 = .ok (.iload_n 2, 1) := by decide +kernel
theorem dX12_deltaBack_15 : decode cX12_deltaBack 15 = .ok (.aload_n 0, 1) := by decide +kernel
theorem dX12_deltaBack_16 : decode cX12_deltaBack 16 = .ok (.getfield 47, 3) := by decide +kernel
theorem dX12_deltaBack_19 : decode cX12_deltaBack 19 = .ok (.iload_n 2, 1) := by decide +kernel
theorem dX12_deltaBack_20 : decode cX12_deltaBack 20 = .ok (.iaload, 1) := by decide +kernel
theorem dX12_deltaBack_21 : decode cX12_deltaBack 21 = .ok (.aload_n 0, 1) := by decide +kernel
theorem dX12_deltaBack_22 : decode cX12_deltaBack 22 = .ok (.getfield 47, 3) := by decide +kernel
theorem dX12_deltaBack_25 : decode cX12_deltaBack 25 = .ok (.iload_n 2, 1) := by decide +kernel
theorem dX12_deltaBack_26 : decode cX12_deltaBack 26 = .ok (.iload_n 1, 1) := by decide +kernel
theorem dX12_deltaBack_27 : decode cX12_deltaBack 27 = .ok (.isub, 1) := by decide +kernel
theorem dX12_deltaBack_28 : decode cX12_deltaBack 28 = .ok (.iaload, 1) := by decide +kernel
theorem dX12_deltaBack_29 : decode cX12_deltaBack 29 = .ok (.iadd, 1) := by decide +kernel
theorem dX12_deltaBack_30 : decode cX12_deltaBack 30 = .ok (.sipush 255, 3) := by decide +kernel
theorem dX12_deltaBack_33 : decode cX12_deltaBack 33 = .ok (.iand, 1) := by decide +kernel
theorem dX12_deltaBack_34 : decode cX12_deltaBack 34 = .ok (.iastore, 1) := by decide +kernel
theorem dX12_deltaBack_35 : decode cX12_deltaBack 35 = .ok (.iinc 2 1, 3) := by decide +kernel
theorem dX12_deltaBack_38 : decode cX12_deltaBack 38 = .ok (.goto (-36), 3) := by decide +kernel
theorem dX12_deltaBack_41 : decode cX12_deltaBack 41 = .ok (.return_, 1) := by decide +kernel
theorem dX12_branchTurn_0 : decode cX12_branchTurn 0 = .ok (.iconst 0, 1) := by decide +kernel
theorem dX12_branchTurn_1 : decode cX12_branchTurn 1 = .ok (.istore_n 2, 1) := by decide +kernel
theorem dX12_branchTurn_2 : decode cX12_branchTurn 2 = .ok (.iload_n 2, 1) := by decide +kernel
theorem dX12_branchTurn_3 : decode cX12_branchTurn 3 = .ok (.iconst 4, 1) := by decide +kernel
theorem dX12_branchTurn_4 : decode cX12_branchTurn 4 = .ok (.iadd, 1) := by decide +kernel
theorem dX12_branchTurn_5 : decode cX12_branchTurn 5 = .ok (.aload_n 0, 1) := by decide +kernel
theorem dX12_branchTurn_6 : decode cX12_branchTurn 6 = .ok (.getfield 208, 3) := by decide +kernel
theorem dX12_branchTurn_9 : decode cX12_branchTurn 9 = .ok (.if_icmp .gt 132, 3) := by decide +kernel
theorem dX12_branchTurn_12 : decode cX12_branchTurn 12 = .ok (.aload_n 0, 1) := by decide +kernel
theorem dX12_branchTurn_13 : decode cX12_branchTurn 13 = .ok (.getfield 47, 3) := by decide +kernel
theorem dX12_branchTurn_16 : decode cX12_branchTurn 16 = .ok (.iload_n 2, 1) := by decide +kernel
theorem dX12_branchTurn_17 : decode cX12_branchTurn 17 = .ok (.iconst 3, 1) := by decide +kernel
theorem dX12_branchTurn_18 : decode cX12_branchTurn 18 = .ok (.iadd, 1) := by decide +kernel
theorem dX12_branchTurn_19 : decode cX12_branchTurn 19 = .ok (.iaload, 1) := by decide +kernel
theorem dX12_branchTurn_20 : decode cX12_branchTurn 20 = .ok (.sipush 235, 3) := by decide +kernel
theorem dX12_branchTurn_23 : decode cX12_branchTurn 23 = .ok (.if_icmp .ne 112, 3) := by decide +kernel
theorem dX12_branchTurn_26 : decode cX12_branchTurn 26 = .ok (.aload_n 0, 1) := by decide +kernel
theorem dX12_branchTurn_27 : decode cX12_branchTurn 27 = .ok (.getfield 47, 3) := by decide +kernel
theorem dX12_branchTurn_30 : decode cX12_branchTurn 30 = .ok (.iload_n 2, 1) := by decide +kernel
theorem dX12_branchTurn_31 : decode cX12_branchTurn 31 = .ok (.iaload, 1) := by decide +kernel
theorem dX12_branchTurn_32 : decode cX12_branchTurn 32 = .ok (.aload_n 0, 1) := by decide +kernel
theorem dX12_branchTurn_33 : decode cX12_branchTurn 33 = .ok (.getfield 47, 3) := by decide +kernel
theorem dX12_branchTurn_36 : decode cX12_branchTurn 36 = .ok (.iload_n 2, 1) := by decide +kernel
theorem dX12_branchTurn_37 : decode cX12_branchTurn 37 = .ok (.iconst 1, 1) := by decide +kernel
theorem dX12_branchTurn_38 : decode cX12_branchTurn 38 = .ok (.iadd, 1) := by decide +kernel
theorem dX12_branchTurn_39 : decode cX12_branchTurn 39 = .ok (.iaload, 1) := by decide +kernel
theorem dX12_branchTurn_40 : decode cX12_branchTurn 40 = .ok (.bipush 8, 2) := by decide +kernel
theorem dX12_branchTurn_42 : decode cX12_branchTurn 42 = .ok (.ishl, 1) := by decide +kernel
theorem dX12_branchTurn_43 : decode cX12_branchTurn 43 = .ok (.ior, 1) := by decide +kernel
theorem dX12_branchTurn_44 : decode cX12_branchTurn 44 = .ok (.aload_n 0, 1) := by decide +kernel
theorem dX12_branchTurn_45 : decode cX12_branchTurn 45 = .ok (.getfield 47, 3) := by decide +kernel
theorem dX12_branchTurn_48 : decode cX12_branchTurn 48 = .ok (.iload_n 2, 1) := by decide +kernel
theorem dX12_branchTurn_49 : decode cX12_branchTurn 49 = .ok (.iconst 2, 1) := by decide +kernel
theorem dX12_branchTurn_50 : decode cX12_branchTurn 50 = .ok (.iadd, 1) := by decide +kernel
theorem dX12_branchTurn_51 : decode cX12_branchTurn 51 = .ok (.iaload, 1) := by decide +kernel
theorem dX12_branchTurn_52 : decode cX12_branchTurn 52 = .ok (.bipush 16, 2) := by decide +kernel
theorem dX12_branchTurn_54 : decode cX12_branchTurn 54 = .ok (.ishl, 1) := by decide +kernel
theorem dX12_branchTurn_55 : decode cX12_branchTurn 55 = .ok (.ior, 1) := by decide +kernel
theorem dX12_branchTurn_56 : decode cX12_branchTurn 56 = .ok (.istore_n 3, 1) := by decide +kernel
theorem dX12_branchTurn_57 : decode cX12_branchTurn 57 = .ok (.iload_n 2, 1) := by decide +kernel
theorem dX12_branchTurn_58 : decode cX12_branchTurn 58 = .ok (.bipush 8, 2) := by decide +kernel
theorem dX12_branchTurn_60 : decode cX12_branchTurn 60 = .ok (.iadd, 1) := by decide +kernel
theorem dX12_branchTurn_61 : decode cX12_branchTurn 61 = .ok (.istore 4, 2) := by decide +kernel
theorem dX12_branchTurn_63 : decode cX12_branchTurn 63 = .ok (.iload_n 1, 1) := by decide +kernel
theorem dX12_branchTurn_64 : decode cX12_branchTurn 64 = .ok (.ifCond .eq 12, 3) := by decide +kernel
theorem dX12_branchTurn_67 : decode cX12_branchTurn 67 = .ok (.iconst 4, 1) := by decide +kernel
theorem dX12_branchTurn_68 : decode cX12_branchTurn 68 = .ok (.iload_n 3, 1) := by decide +kernel
theorem dX12_branchTurn_69 : decode cX12_branchTurn 69 = .ok (.imul, 1) := by decide +kernel
theorem dX12_branchTurn_70 : decode cX12_branchTurn 70 = .ok (.iload 4, 2) := by decide +kernel
theorem dX12_branchTurn_72 : decode cX12_branchTurn 72 = .ok (.isub, 1) := by decide +kernel
theorem dX12_branchTurn_73 : decode cX12_branchTurn 73 = .ok (.goto 9, 3) := by decide +kernel
theorem dX12_branchTurn_76 : decode cX12_branchTurn 76 = .ok (.iconst 4, 1) := by decide +kernel
theorem dX12_branchTurn_77 : decode cX12_branchTurn 77 = .ok (.iload_n 3, 1) := by decide +kernel
theorem dX12_branchTurn_78 : decode cX12_branchTurn 78 = .ok (.imul, 1) := by decide +kernel
theorem dX12_branchTurn_79 : decode cX12_branchTurn 79 = .ok (.iload 4, 2) := by decide +kernel
theorem dX12_branchTurn_81 : decode cX12_branchTurn 81 = .ok (.iadd, 1) := by decide +kernel
theorem dX12_branchTurn_82 : decode cX12_branchTurn 82 = .ok (.istore 5, 2) := by decide +kernel
theorem dX12_branchTurn_84 : decode cX12_branchTurn 84 = .ok (.iload 5, 2) := by decide +kernel
theorem dX12_branchTurn_86 : decode cX12_branchTurn 86 = .ok (.iconst 2, 1) := by decide +kernel
theorem dX12_branchTurn_87 : decode cX12_branchTurn 87 = .ok (.ishr, 1) := by decide +kernel
theorem dX12_branchTurn_88 : decode cX12_branchTurn 88 = .ok (.ldc 211, 2) := by decide +kernel
theorem dX12_branchTurn_90 : decode cX12_branchTurn 90 = .ok (.iand, 1) := by decide +kernel
theorem dX12_branchTurn_91 : decode cX12_branchTurn 91 = .ok (.istore 5, 2) := by decide +kernel
theorem dX12_branchTurn_93 : decode cX12_branchTurn 93 = .ok (.aload_n 0, 1) := by decide +kernel
theorem dX12_branchTurn_94 : decode cX12_branchTurn 94 = .ok (.getfield 47, 3) := by decide +kernel
theorem dX12_branchTurn_97 : decode cX12_branchTurn 97 = .ok (.iload_n 2, 1) := by decide +kernel
theorem dX12_branchTurn_98 : decode cX12_branchTurn 98 = .ok (.iload 5, 2) := by decide +kernel
theorem dX12_branchTurn_100 : decode cX12_branchTurn 100 = .ok (.sipush 255, 3) := by decide +kernel
theorem dX12_branchTurn_103 : decode cX12_branchTurn 103 = .ok (.iand, 1) := by decide +kernel
theorem dX12_branchTurn_104 : decode cX12_branchTurn 104 = .ok (.iastore, 1) := by decide +kernel
theorem dX12_branchTurn_105 : decode cX12_branchTurn 105 = .ok (.aload_n 0, 1) := by decide +kernel
theorem dX12_branchTurn_106 : decode cX12_branchTurn 106 = .ok (.getfield 47, 3) := by decide +kernel
theorem dX12_branchTurn_109 : decode cX12_branchTurn 109 = .ok (.iload_n 2, 1) := by decide +kernel
theorem dX12_branchTurn_110 : decode cX12_branchTurn 110 = .ok (.iconst 1, 1) := by decide +kernel
theorem dX12_branchTurn_111 : decode cX12_branchTurn 111 = .ok (.iadd, 1) := by decide +kernel
theorem dX12_branchTurn_112 : decode cX12_branchTurn 112 = .ok (.iload 5, 2) := by decide +kernel
theorem dX12_branchTurn_114 : decode cX12_branchTurn 114 = .ok (.bipush 8, 2) := by decide +kernel
theorem dX12_branchTurn_116 : decode cX12_branchTurn 116 = .ok (.ishr, 1) := by decide +kernel
theorem dX12_branchTurn_117 : decode cX12_branchTurn 117 = .ok (.sipush 255, 3) := by decide +kernel
theorem dX12_branchTurn_120 : decode cX12_branchTurn 120 = .ok (.iand, 1) := by decide +kernel
theorem dX12_branchTurn_121 : decode cX12_branchTurn 121 = .ok (.iastore, 1) := by decide +kernel
theorem dX12_branchTurn_122 : decode cX12_branchTurn 122 = .ok (.aload_n 0, 1) := by decide +kernel
theorem dX12_branchTurn_123 : decode cX12_branchTurn 123 = .ok (.getfield 47, 3) := by decide +kernel
theorem dX12_branchTurn_126 : decode cX12_branchTurn 126 = .ok (.iload_n 2, 1) := by decide +kernel
theorem dX12_branchTurn_127 : decode cX12_branchTurn 127 = .ok (.iconst 2, 1) := by decide +kernel
theorem dX12_branchTurn_128 : decode cX12_branchTurn 128 = .ok (.iadd, 1) := by decide +kernel
theorem dX12_branchTurn_129 : decode cX12_branchTurn 129 = .ok (.iload 5, 2) := by decide +kernel
theorem dX12_branchTurn_131 : decode cX12_branchTurn 131 = .ok (.bipush 16, 2) := by decide +kernel
theorem dX12_branchTurn_133 : decode cX12_branchTurn 133 = .ok (.ishr, 1) := by decide +kernel
theorem dX12_branchTurn_134 : decode cX12_branchTurn 134 = .ok (.iastore, 1) := by decide +kernel
theorem dX12_branchTurn_135 : decode cX12_branchTurn 135 = .ok (.iinc 2 4, 3) := by decide +kernel
theorem dX12_branchTurn_138 : decode cX12_branchTurn 138 = .ok (.goto (-136), 3) := by decide +kernel
theorem dX12_branchTurn_141 : decode cX12_branchTurn 141 = .ok (.return_, 1) := by decide +kernel
theorem dX12_turn_0 : decode cX12_turn 0 = .ok (.aload_n 0, 1) := by decide +kernel
theorem dX12_turn_1 : decode cX12_turn 1 = .ok (.iconst 0, 1) := by decide +kernel
theorem dX12_turn_2 : decode cX12_turn 2 = .ok (.putfield 111, 3) := by decide +kernel
theorem dX12_turn_5 : decode cX12_turn 5 = .ok (.iload_n 1, 1) := by decide +kernel
theorem dX12_turn_6 : decode cX12_turn 6 = .ok (.ifCond .lt 24, 3) := by decide +kernel
theorem dX12_turn_9 : decode cX12_turn 9 = .ok (.iload_n 1, 1) := by decide +kernel
theorem dX12_turn_10 : decode cX12_turn 10 = .ok (.iconst 1, 1) := by decide +kernel
theorem dX12_turn_11 : decode cX12_turn 11 = .ok (.if_icmp .gt 19, 3) := by decide +kernel
theorem dX12_turn_14 : decode cX12_turn 14 = .ok (.iload_n 1, 1) := by decide +kernel
theorem dX12_turn_15 : decode cX12_turn 15 = .ok (.ifCond .ne 17, 3) := by decide +kernel
theorem dX12_turn_18 : decode cX12_turn 18 = .ok (.iload_n 2, 1) := by decide +kernel
theorem dX12_turn_19 : decode cX12_turn 19 = .ok (.iconst 1, 1) := by decide +kernel
theorem dX12_turn_20 : decode cX12_turn 20 = .ok (.if_icmp .lt 10, 3) := by decide +kernel
theorem dX12_turn_23 : decode cX12_turn 23 = .ok (.iload_n 2, 1) := by decide +kernel
theorem dX12_turn_24 : decode cX12_turn 24 = .ok (.sipush 256, 3) := by decide +kernel
theorem dX12_turn_27 : decode cX12_turn 27 = .ok (.if_icmp .le 5, 3) := by decide +kernel
theorem dX12_turn_30 : decode cX12_turn 30 = .ok (.iconst (-1), 1) := by decide +kernel
theorem dX12_turn_31 : decode cX12_turn 31 = .ok (.ireturn, 1) := by decide +kernel
theorem dX12_turn_32 : decode cX12_turn 32 = .ok (.aload_n 0, 1) := by decide +kernel
theorem dX12_turn_33 : decode cX12_turn 33 = .ok (.aload_n 0, 1) := by decide +kernel
theorem dX12_turn_34 : decode cX12_turn 34 = .ok (.getfield 129, 3) := by decide +kernel
theorem dX12_turn_37 : decode cX12_turn 37 = .ok (.putfield 208, 3) := by decide +kernel
theorem dX12_turn_40 : decode cX12_turn 40 = .ok (.iconst 0, 1) := by decide +kernel
theorem dX12_turn_41 : decode cX12_turn 41 = .ok (.istore 4, 2) := by decide +kernel
theorem dX12_turn_43 : decode cX12_turn 43 = .ok (.iload 4, 2) := by decide +kernel
theorem dX12_turn_45 : decode cX12_turn 45 = .ok (.aload_n 0, 1) := by decide +kernel
theorem dX12_turn_46 : decode cX12_turn 46 = .ok (.getfield 129, 3) := by decide +kernel
theorem dX12_turn_49 : decode cX12_turn 49 = .ok (.if_icmp .ge 23, 3) := by decide +kernel
theorem dX12_turn_52 : decode cX12_turn 52 = .ok (.aload_n 0, 1) := by decide +kernel
theorem dX12_turn_53 : decode cX12_turn 53 = .ok (.getfield 47, 3) := by decide +kernel
theorem dX12_turn_56 : decode cX12_turn 56 = .ok (.iload 4, 2) := by decide +kernel
theorem dX12_turn_58 : decode cX12_turn 58 = .ok (.aload_n 0, 1) := by decide +kernel
theorem dX12_turn_59 : decode cX12_turn 59 = .ok (.getfield 32, 3) := by decide +kernel
theorem dX12_turn_62 : decode cX12_turn 62 = .ok (.iload 4, 2) := by decide +kernel
theorem dX12_turn_64 : decode cX12_turn 64 = .ok (.iaload, 1) := by decide +kernel
theorem dX12_turn_65 : decode cX12_turn 65 = .ok (.iastore, 1) := by decide +kernel
theorem dX12_turn_66 : decode cX12_turn 66 = .ok (.iinc 4 1, 3) := by decide +kernel
theorem dX12_turn_69 : decode cX12_turn 69 = .ok (.goto (-26), 3) := by decide +kernel
theorem dX12_turn_72 : decode cX12_turn 72 = .ok (.iload_n 1, 1) := by decide +kernel
theorem dX12_turn_73 : decode cX12_turn 73 = .ok (.iconst 1, 1) := by decide +kernel
theorem dX12_turn_74 : decode cX12_turn 74 = .ok (.if_icmp .ne 11, 3) := by decide +kernel
theorem dX12_turn_77 : decode cX12_turn 77 = .ok (.aload_n 0, 1) := by decide +kernel
theorem dX12_turn_78 : decode cX12_turn 78 = .ok (.iload_n 3, 1) := by decide +kernel
theorem dX12_turn_79 : decode cX12_turn 79 = .ok (.invokevirtual 212, 3) := by decide +kernel
theorem dX12_turn_82 : decode cX12_turn 82 = .ok (.goto 20, 3) := by decide +kernel
theorem dX12_turn_85 : decode cX12_turn 85 = .ok (.iload_n 3, 1) := by decide +kernel
theorem dX12_turn_86 : decode cX12_turn 86 = .ok (.ifCond .eq 11, 3) := by decide +kernel
theorem dX12_turn_89 : decode cX12_turn 89 = .ok (.aload_n 0, 1) := by decide +kernel
theorem dX12_turn_90 : decode cX12_turn 90 = .ok (.iload_n 2, 1) := by decide +kernel
theorem dX12_turn_91 : decode cX12_turn 91 = .ok (.invokevirtual 216, 3) := by decide +kernel
theorem dX12_turn_94 : decode cX12_turn 94 = .ok (.goto 8, 3) := by decide +kernel
theorem dX12_turn_97 : decode cX12_turn 97 = .ok (.aload_n 0, 1) := by decide +kernel
theorem dX12_turn_98 : decode cX12_turn 98 = .ok (.iload_n 2, 1) := by decide +kernel
theorem dX12_turn_99 : decode cX12_turn 99 = .ok (.invokevirtual 219, 3) := by decide +kernel
theorem dX12_turn_102 : decode cX12_turn 102 = .ok (.iconst 0, 1) := by decide +kernel
theorem dX12_turn_103 : decode cX12_turn 103 = .ok (.istore 4, 2) := by decide +kernel
theorem dX12_turn_105 : decode cX12_turn 105 = .ok (.iload 4, 2) := by decide +kernel
theorem dX12_turn_107 : decode cX12_turn 107 = .ok (.aload_n 0, 1) := by decide +kernel
theorem dX12_turn_108 : decode cX12_turn 108 = .ok (.getfield 129, 3) := by decide +kernel
theorem dX12_turn_111 : decode cX12_turn 111 = .ok (.if_icmp .ge 23, 3) := by decide +kernel
theorem dX12_turn_114 : decode cX12_turn 114 = .ok (.aload_n 0, 1) := by decide +kernel
theorem dX12_turn_115 : decode cX12_turn 115 = .ok (.getfield 32, 3) := by decide +kernel
theorem dX12_turn_118 : decode cX12_turn 118 = .ok (.iload 4, 2) := by decide +kernel
theorem dX12_turn_120 : decode cX12_turn 120 = .ok (.aload_n 0, 1) := by decide +kernel
theorem dX12_turn_121 : decode cX12_turn 121 = .ok (.getfield 47, 3) := by decide +kernel
theorem dX12_turn_124 : decode cX12_turn 124 = .ok (.iload 4, 2) := by decide +kernel
theorem dX12_turn_126 : decode cX12_turn 126 = .ok (.iaload, 1) := by decide +kernel
theorem dX12_turn_127 : decode cX12_turn 127 = .ok (.iastore, 1) := by decide +kernel
theorem dX12_turn_128 : decode cX12_turn 128 = .ok (.iinc 4 1, 3) := by decide +kernel
theorem dX12_turn_131 : decode cX12_turn 131 = .ok (.goto (-26), 3) := by decide +kernel
theorem dX12_turn_134 : decode cX12_turn 134 = .ok (.aload_n 0, 1) := by decide +kernel
theorem dX12_turn_135 : decode cX12_turn 135 = .ok (.getfield 129, 3) := by decide +kernel
theorem dX12_turn_138 : decode cX12_turn 138 = .ok (.ireturn, 1) := by decide +kernel
theorem dX12_addStep_0 : decode cX12_addStep 0 = .ok (.aload_n 0, 1) := by decide +kernel
theorem dX12_addStep_1 : decode cX12_addStep 1 = .ok (.getfield 222, 3) := by decide +kernel
theorem dX12_addStep_4 : decode cX12_addStep 4 = .ok (.sipush 2000, 3) := by decide +kernel
theorem dX12_addStep_7 : decode cX12_addStep 7 = .ok (.if_icmp .ge 44, 3) := by decide +kernel
theorem dX12_addStep_10 : decode cX12_addStep 10 = .ok (.aload_n 0, 1) := by decide +kernel
theorem dX12_addStep_11 : decode cX12_addStep 11 = .ok (.getfield 50, 3) := by decide +kernel
theorem dX12_addStep_14 : decode cX12_addStep 14 = .ok (.aload_n 0, 1) := by decide +kernel
theorem dX12_addStep_15 : decode cX12_addStep 15 = .ok (.getfield 222, 3) := by decide +kernel
theorem dX12_addStep_18 : decode cX12_addStep 18 = .ok (.iload_n 1, 1) := by decide +kernel
theorem dX12_addStep_19 : decode cX12_addStep 19 = .ok (.iastore, 1) := by decide +kernel
theorem dX12_addStep_20 : decode cX12_addStep 20 = .ok (.aload_n 0, 1) := by decide +kernel
theorem dX12_addStep_21 : decode cX12_addStep 21 = .ok (.getfield 53, 3) := by decide +kernel
theorem dX12_addStep_24 : decode cX12_addStep 24 = .ok (.aload_n 0, 1) := by decide +kernel
theorem dX12_addStep_25 : decode cX12_addStep 25 = .ok (.getfield 222, 3) := by decide +kernel
theorem dX12_addStep_28 : decode cX12_addStep 28 = .ok (.iload_n 2, 1) := by decide +kernel
theorem dX12_addStep_29 : decode cX12_addStep 29 = .ok (.iastore, 1) := by decide +kernel
theorem dX12_addStep_30 : decode cX12_addStep 30 = .ok (.aload_n 0, 1) := by decide +kernel
theorem dX12_addStep_31 : decode cX12_addStep 31 = .ok (.getfield 56, 3) := by decide +kernel
theorem dX12_addStep_34 : decode cX12_addStep 34 = .ok (.aload_n 0, 1) := by decide +kernel
theorem dX12_addStep_35 : decode cX12_addStep 35 = .ok (.getfield 222, 3) := by decide +kernel
theorem dX12_addStep_38 : decode cX12_addStep 38 = .ok (.iload_n 3, 1) := by decide +kernel
theorem dX12_addStep_39 : decode cX12_addStep 39 = .ok (.iastore, 1) := by decide +kernel
theorem dX12_addStep_40 : decode cX12_addStep 40 = .ok (.aload_n 0, 1) := by decide +kernel
theorem dX12_addStep_41 : decode cX12_addStep 41 = .ok (.getfield 59, 3) := by decide +kernel
theorem dX12_addStep_44 : decode cX12_addStep 44 = .ok (.aload_n 0, 1) := by decide +kernel
theorem dX12_addStep_45 : decode cX12_addStep 45 = .ok (.getfield 222, 3) := by decide +kernel
theorem dX12_addStep_48 : decode cX12_addStep 48 = .ok (.iload 4, 2) := by decide +kernel
theorem dX12_addStep_50 : decode cX12_addStep 50 = .ok (.iastore, 1) := by decide +kernel
theorem dX12_addStep_51 : decode cX12_addStep 51 = .ok (.aload_n 0, 1) := by decide +kernel
theorem dX12_addStep_52 : decode cX12_addStep 52 = .ok (.dup, 1) := by decide +kernel
theorem dX12_addStep_53 : decode cX12_addStep 53 = .ok (.getfield 222, 3) := by decide +kernel
theorem dX12_addStep_56 : decode cX12_addStep 56 = .ok (.iconst 1, 1) := by decide +kernel
theorem dX12_addStep_57 : decode cX12_addStep 57 = .ok (.iadd, 1) := by decide +kernel
theorem dX12_addStep_58 : decode cX12_addStep 58 = .ok (.putfield 222, 3) := by decide +kernel
theorem dX12_addStep_61 : decode cX12_addStep 61 = .ok (.return_, 1) := by decide +kernel
theorem dX12_step_0 : decode cX12_step 0 = .ok (.aload_n 0, 1) := by decide +kernel
theorem dX12_step_1 : decode cX12_step 1 = .ok (.iconst 0, 1) := by decide +kernel
theorem dX12_step_2 : decode cX12_step 2 = .ok (.putfield 111, 3) := by decide +kernel
theorem dX12_step_5 : decode cX12_step 5 = .ok (.iload_n 1, 1) := by decide +kernel
theorem dX12_step_6 : decode cX12_step 6 = .ok (.iconst (-1), 1) := by decide +kernel
theorem dX12_step_7 : decode cX12_step 7 = .ok (.if_icmp .ne 12, 3) := by decide +kernel
theorem dX12_step_10 : decode cX12_step 10 = .ok (.iload_n 2, 1) := by decide +kernel
theorem dX12_step_11 : decode cX12_step 11 = .ok (.ifCond .ne 8, 3) := by decide +kernel
theorem dX12_step_14 : decode cX12_step 14 = .ok (.aload_n 0, 1) := by decide +kernel
theorem dX12_step_15 : decode cX12_step 15 = .ok (.getfield 222, 3) := by decide +kernel
theorem dX12_step_18 : decode cX12_step 18 = .ok (.ireturn, 1) := by decide +kernel
theorem dX12_step_19 : decode cX12_step 19 = .ok (.iload_n 1, 1) := by decide +kernel
theorem dX12_step_20 : decode cX12_step 20 = .ok (.ifCond .lt 27, 3) := by decide +kernel
theorem dX12_step_23 : decode cX12_step 23 = .ok (.iload_n 1, 1) := by decide +kernel
theorem dX12_step_24 : decode cX12_step 24 = .ok (.aload_n 0, 1) := by decide +kernel
theorem dX12_step_25 : decode cX12_step 25 = .ok (.getfield 222, 3) := by decide +kernel
theorem dX12_step_28 : decode cX12_step 28 = .ok (.if_icmp .ge 19, 3) := by decide +kernel
theorem dX12_step_31 : decode cX12_step 31 = .ok (.iload_n 1, 1) := by decide +kernel
theorem dX12_step_32 : decode cX12_step 32 = .ok (.sipush 2000, 3) := by decide +kernel
theorem dX12_step_35 : decode cX12_step 35 = .ok (.if_icmp .ge 12, 3) := by decide +kernel
theorem dX12_step_38 : decode cX12_step 38 = .ok (.iload_n 2, 1) := by decide +kernel
theorem dX12_step_39 : decode cX12_step 39 = .ok (.ifCond .lt 8, 3) := by decide +kernel
theorem dX12_step_42 : decode cX12_step 42 = .ok (.iload_n 2, 1) := by decide +kernel
theorem dX12_step_43 : decode cX12_step 43 = .ok (.iconst 3, 1) := by decide +kernel
theorem dX12_step_44 : decode cX12_step 44 = .ok (.if_icmp .le 5, 3) := by decide +kernel
theorem dX12_step_47 : decode cX12_step 47 = .ok (.iconst (-1), 1) := by decide +kernel
theorem dX12_step_48 : decode cX12_step 48 = .ok (.ireturn, 1) := by decide +kernel
theorem dX12_step_49 : decode cX12_step 49 = .ok (.iload_n 2, 1) := by decide +kernel
theorem dX12_step_50 : decode cX12_step 50 = .ok (.ifCond .ne 12, 3) := by decide +kernel
theorem dX12_step_53 : decode cX12_step 53 = .ok (.aload_n 0, 1) := by decide +kernel
theorem dX12_step_54 : decode cX12_step 54 = .ok (.getfield 50, 3) := by decide +kernel
theorem dX12_step_57 : decode cX12_step 57 = .ok (.iload_n 1, 1) := by decide +kernel
theorem dX12_step_58 : decode cX12_step 58 = .ok (.iaload, 1) := by decide +kernel
theorem dX12_step_59 : decode cX12_step 59 = .ok (.goto 37, 3) := by decide +kernel
theorem dX12_step_62 : decode cX12_step 62 = .ok (.iload_n 2, 1) := by decide +kernel
theorem dX12_step_63 : decode cX12_step 63 = .ok (.iconst 1, 1) := by decide +kernel
theorem dX12_step_64 : decode cX12_step 64 = .ok (.if_icmp .ne 12, 3) := by decide +kernel
theorem dX12_step_67 : decode cX12_step 67 = .ok (.aload_n 0, 1) := by decide +kernel
theorem dX12_step_68 : decode cX12_step 68 = .ok (.getfield 53, 3) := by decide +kernel
theorem dX12_step_71 : decode cX12_step 71 = .ok (.iload_n 1, 1) := by decide +kernel
theorem dX12_step_72 : decode cX12_step 72 = .ok (.iaload, 1) := by decide +kernel
theorem dX12_step_73 : decode cX12_step 73 = .ok (.goto 23, 3) := by decide +kernel
theorem dX12_step_76 : decode cX12_step 76 = .ok (.iload_n 2, 1) := by decide +kernel
theorem dX12_step_77 : decode cX12_step 77 = .ok (.iconst 2, 1) := by decide +kernel
theorem dX12_step_78 : decode cX12_step 78 = .ok (.if_icmp .ne 12, 3) := by decide +kernel
theorem dX12_step_81 : decode cX12_step 81 = .ok (.aload_n 0, 1) := by decide +kernel
theorem dX12_step_82 : decode cX12_step 82 = .ok (.getfield 56, 3) := by decide +kernel
theorem dX12_step_85 : decode cX12_step 85 = .ok (.iload_n 1, 1) := by decide +kernel
theorem dX12_step_86 : decode cX12_step 86 = .ok (.iaload, 1) := by decide +kernel
theorem dX12_step_87 : decode cX12_step 87 = .ok (.goto 9, 3) := by decide +kernel
theorem dX12_step_90 : decode cX12_step 90 = .ok (.aload_n 0, 1) := by decide +kernel
theorem dX12_step_91 : decode cX12_step 91 = .ok (.getfield 59, 3) := by decide +kernel
theorem dX12_step_94 : decode cX12_step 94 = .ok (.iload_n 1, 1) := by decide +kernel
theorem dX12_step_95 : decode cX12_step 95 = .ok (.iaload, 1) := by decide +kernel
theorem dX12_step_96 : decode cX12_step 96 = .ok (.ireturn, 1) := by decide +kernel
theorem dX12_state_0 : decode cX12_state 0 = .ok (.aload_n 0, 1) := by decide +kernel
theorem dX12_state_1 : decode cX12_state 1 = .ok (.iconst 0, 1) := by decide +kernel
theorem dX12_state_2 : decode cX12_state 2 = .ok (.putfield 111, 3) := by decide +kernel
theorem dX12_state_5 : decode cX12_state 5 = .ok (.aload_n 0, 1) := by decide +kernel
theorem dX12_state_6 : decode cX12_state 6 = .ok (.getfield 77, 3) := by decide +kernel
theorem dX12_state_9 : decode cX12_state 9 = .ok (.ireturn, 1) := by decide +kernel
theorem dX12_rule_0 : decode cX12_rule 0 = .ok (.aload_n 0, 1) := by decide +kernel
theorem dX12_rule_1 : decode cX12_rule 1 = .ok (.iconst 0, 1) := by decide +kernel
theorem dX12_rule_2 : decode cX12_rule 2 = .ok (.putfield 111, 3) := by decide +kernel
theorem dX12_rule_5 : decode cX12_rule 5 = .ok (.aload_n 0, 1) := by decide +kernel
theorem dX12_rule_6 : decode cX12_rule 6 = .ok (.getfield 225, 3) := by decide +kernel
theorem dX12_rule_9 : decode cX12_rule 9 = .ok (.ireturn, 1) := by decide +kernel
theorem dX12_block_0 : decode cX12_block 0 = .ok (.aload_n 0, 1) := by decide +kernel
theorem dX12_block_1 : decode cX12_block 1 = .ok (.iconst 0, 1) := by decide +kernel
theorem dX12_block_2 : decode cX12_block 2 = .ok (.putfield 111, 3) := by decide +kernel
theorem dX12_block_5 : decode cX12_block 5 = .ok (.iload_n 1, 1) := by decide +kernel
theorem dX12_block_6 : decode cX12_block 6 = .ok (.iconst (-1), 1) := by decide +kernel
theorem dX12_block_7 : decode cX12_block 7 = .ok (.if_icmp .ne 12, 3) := by decide +kernel
theorem dX12_block_10 : decode cX12_block 10 = .ok (.iload_n 2, 1) := by decide +kernel
theorem dX12_block_11 : decode cX12_block 11 = .ok (.ifCond .ne 8, 3) := by decide +kernel
theorem dX12_block_14 : decode cX12_block 14 = .ok (.aload_n 0, 1) := by decide +kernel
theorem dX12_block_15 : decode cX12_block 15 = .ok (.getfield 228, 3) := by decide +kernel
theorem dX12_block_18 : decode cX12_block 18 = .ok (.ireturn, 1) := by decide +kernel
theorem dX12_block_19 : decode cX12_block 19 = .ok (.iload_n 1, 1) := by decide +kernel
theorem dX12_block_20 : decode cX12_block 20 = .ok (.ifCond .lt 20, 3) := by decide +kernel
theorem dX12_block_23 : decode cX12_block 23 = .ok (.iload_n 1, 1) := by decide +kernel
theorem dX12_block_24 : decode cX12_block 24 = .ok (.aload_n 0, 1) := by decide +kernel
theorem dX12_block_25 : decode cX12_block 25 = .ok (.getfield 228, 3) := by decide +kernel
theorem dX12_block_28 : decode cX12_block 28 = .ok (.if_icmp .ge 12, 3) := by decide +kernel
theorem dX12_block_31 : decode cX12_block 31 = .ok (.iload_n 2, 1) := by decide +kernel
theorem dX12_block_32 : decode cX12_block 32 = .ok (.ifCond .lt 8, 3) := by decide +kernel
theorem dX12_block_35 : decode cX12_block 35 = .ok (.iload_n 2, 1) := by decide +kernel
theorem dX12_block_36 : decode cX12_block 36 = .ok (.iconst 4, 1) := by decide +kernel
theorem dX12_block_37 : decode cX12_block 37 = .ok (.if_icmp .le 5, 3) := by decide +kernel
theorem dX12_block_40 : decode cX12_block 40 = .ok (.iconst (-1), 1) := by decide +kernel
theorem dX12_block_41 : decode cX12_block 41 = .ok (.ireturn, 1) := by decide +kernel
theorem dX12_block_42 : decode cX12_block 42 = .ok (.iload_n 2, 1) := by decide +kernel
theorem dX12_block_43 : decode cX12_block 43 = .ok (.ifCond .ne 12, 3) := by decide +kernel
theorem dX12_block_46 : decode cX12_block 46 = .ok (.aload_n 0, 1) := by decide +kernel
theorem dX12_block_47 : decode cX12_block 47 = .ok (.getfield 62, 3) := by decide +kernel
theorem dX12_block_50 : decode cX12_block 50 = .ok (.iload_n 1, 1) := by decide +kernel
theorem dX12_block_51 : decode cX12_block 51 = .ok (.iaload, 1) := by decide +kernel
theorem dX12_block_52 : decode cX12_block 52 = .ok (.goto 51, 3) := by decide +kernel
theorem dX12_block_55 : decode cX12_block 55 = .ok (.iload_n 2, 1) := by decide +kernel
theorem dX12_block_56 : decode cX12_block 56 = .ok (.iconst 1, 1) := by decide +kernel
theorem dX12_block_57 : decode cX12_block 57 = .ok (.if_icmp .ne 12, 3) := by decide +kernel
theorem dX12_block_60 : decode cX12_block 60 = .ok (.aload_n 0, 1) := by decide +kernel
theorem dX12_block_61 : decode cX12_block 61 = .ok (.getfield 65, 3) := by decide +kernel
theorem dX12_block_64 : decode cX12_block 64 = .ok (.iload_n 1, 1) := by decide +kernel
theorem dX12_block_65 : decode cX12_block 65 = .ok (.iaload, 1) := by decide +kernel
theorem dX12_block_66 : decode cX12_block 66 = .ok (.goto 37, 3) := by decide +kernel
theorem dX12_block_69 : decode cX12_block 69 = .ok (.iload_n 2, 1) := by decide +kernel
theorem dX12_block_70 : decode cX12_block 70 = .ok (.iconst 2, 1) := by decide +kernel
theorem dX12_block_71 : decode cX12_block 71 = .ok (.if_icmp .ne 12, 3) := by decide +kernel
theorem dX12_block_74 : decode cX12_block 74 = .ok (.aload_n 0, 1) := by decide +kernel
theorem dX12_block_75 : decode cX12_block 75 = .ok (.getfield 68, 3) := by decide +kernel
theorem dX12_block_78 : decode cX12_block 78 = .ok (.iload_n 1, 1) := by decide +kernel
theorem dX12_block_79 : decode cX12_block 79 = .ok (.iaload, 1) := by decide +kernel
theorem dX12_block_80 : decode cX12_block 80 = .ok (.goto 23, 3) := by decide +kernel
theorem dX12_block_83 : decode cX12_block 83 = .ok (.iload_n 2, 1) := by decide +kernel
theorem dX12_block_84 : decode cX12_block 84 = .ok (.iconst 3, 1) := by decide +kernel
theorem dX12_block_85 : decode cX12_block 85 = .ok (.if_icmp .ne 12, 3) := by decide +kernel
theorem dX12_block_88 : decode cX12_block 88 = .ok (.aload_n 0, 1) := by decide +kernel
theorem dX12_block_89 : decode cX12_block 89 = .ok (.getfield 71, 3) := by decide +kernel
theorem dX12_block_92 : decode cX12_block 92 = .ok (.iload_n 1, 1) := by decide +kernel
theorem dX12_block_93 : decode cX12_block 93 = .ok (.iaload, 1) := by decide +kernel
theorem dX12_block_94 : decode cX12_block 94 = .ok (.goto 9, 3) := by decide +kernel
theorem dX12_block_97 : decode cX12_block 97 = .ok (.aload_n 0, 1) := by decide +kernel
theorem dX12_block_98 : decode cX12_block 98 = .ok (.getfield 74, 3) := by decide +kernel
theorem dX12_block_101 : decode cX12_block 101 = .ok (.iload_n 1, 1) := by decide +kernel
theorem dX12_block_102 : decode cX12_block 102 = .ok (.iaload, 1) := by decide +kernel
theorem dX12_block_103 : decode cX12_block 103 = .ok (.ireturn, 1) := by decide +kernel
theorem dX12_freshState_0 : decode cX12_freshState 0 = .ok (.iconst 0, 1) := by decide +kernel
theorem dX12_freshState_1 : decode cX12_freshState 1 = .ok (.istore_n 1, 1) := by decide +kernel
theorem dX12_freshState_2 : decode cX12_freshState 2 = .ok (.iload_n 1, 1) := by decide +kernel
theorem dX12_freshState_3 : decode cX12_freshState 3 = .ok (.sipush 14344, 3) := by decide +kernel
theorem dX12_freshState_6 : decode cX12_freshState 6 = .ok (.if_icmp .ge 18, 3) := by decide +kernel
theorem dX12_freshState_9 : decode cX12_freshState 9 = .ok (.aload_n 0, 1) := by decide +kernel
theorem dX12_freshState_10 : decode cX12_freshState 10 = .ok (.getfield 80, 3) := by decide +kernel
theorem dX12_freshState_13 : decode cX12_freshState 13 = .ok (.iload_n 1, 1) := by decide +kernel
theorem dX12_freshState_14 : decode cX12_freshState 14 = .ok (.sipush 1024, 3) := by decide +kernel
theorem dX12_freshState_17 : decode cX12_freshState 17 = .ok (.iastore, 1) := by decide +kernel
theorem dX12_freshState_18 : decode cX12_freshState 18 = .ok (.iinc 1 1, 3) := by decide +kernel
theorem dX12_freshState_21 : decode cX12_freshState 21 = .ok (.goto (-19), 3) := by decide +kernel
theorem dX12_freshState_24 : decode cX12_freshState 24 = .ok (.aload_n 0, 1) := by decide +kernel
theorem dX12_freshState_25 : decode cX12_freshState 25 = .ok (.iconst 0, 1) := by decide +kernel
theorem dX12_freshState_26 : decode cX12_freshState 26 = .ok (.putfield 231, 3) := by decide +kernel
theorem dX12_freshState_29 : decode cX12_freshState 29 = .ok (.aload_n 0, 1) := by decide +kernel
theorem dX12_freshState_30 : decode cX12_freshState 30 = .ok (.iconst 1, 1) := by decide +kernel
theorem dX12_freshState_31 : decode cX12_freshState 31 = .ok (.putfield 234, 3) := by decide +kernel
theorem dX12_freshState_34 : decode cX12_freshState 34 = .ok (.aload_n 0, 1) := by decide +kernel
theorem dX12_freshState_35 : decode cX12_freshState 35 = .ok (.iconst 1, 1) := by decide +kernel
theorem dX12_freshState_36 : decode cX12_freshState 36 = .ok (.putfield 237, 3) := by decide +kernel
theorem dX12_freshState_39 : decode cX12_freshState 39 = .ok (.aload_n 0, 1) := by decide +kernel
theorem dX12_freshState_40 : decode cX12_freshState 40 = .ok (.iconst 1, 1) := by decide +kernel
theorem dX12_freshState_41 : decode cX12_freshState 41 = .ok (.putfield 240, 3) := by decide +kernel
theorem dX12_freshState_44 : decode cX12_freshState 44 = .ok (.aload_n 0, 1) := by decide +kernel
theorem dX12_freshState_45 : decode cX12_freshState 45 = .ok (.iconst 1, 1) := by decide +kernel
theorem dX12_freshState_46 : decode cX12_freshState 46 = .ok (.putfield 243, 3) := by decide +kernel
theorem dX12_freshState_49 : decode cX12_freshState 49 = .ok (.return_, 1) := by decide +kernel
theorem dX12_backOf_0 : decode cX12_backOf 0 = .ok (.iload_n 1, 1) := by decide +kernel
theorem dX12_backOf_1 : decode cX12_backOf 1 = .ok (.ifCond .ne 10, 3) := by decide +kernel
theorem dX12_backOf_4 : decode cX12_backOf 4 = .ok (.aload_n 0, 1) := by decide +kernel
theorem dX12_backOf_5 : decode cX12_backOf 5 = .ok (.getfield 234, 3) := by decide +kernel
theorem dX12_backOf_8 : decode cX12_backOf 8 = .ok (.goto 31, 3) := by decide +kernel
theorem dX12_backOf_11 : decode cX12_backOf 11 = .ok (.iload_n 1, 1) := by decide +kernel
theorem dX12_backOf_12 : decode cX12_backOf 12 = .ok (.iconst 1, 1) := by decide +kernel
theorem dX12_backOf_13 : decode cX12_backOf 13 = .ok (.if_icmp .ne 10, 3) := by decide +kernel
theorem dX12_backOf_16 : decode cX12_backOf 16 = .ok (.aload_n 0, 1) := by decide +kernel
theorem dX12_backOf_17 : decode cX12_backOf 17 = .ok (.getfield 237, 3) := by decide +kernel
theorem dX12_backOf_20 : decode cX12_backOf 20 = .ok (.goto 19, 3) := by decide +kernel
theorem dX12_backOf_23 : decode cX12_backOf 23 = .ok (.iload_n 1, 1) := by decide +kernel
theorem dX12_backOf_24 : decode cX12_backOf 24 = .ok (.iconst 2, 1) := by decide +kernel
theorem dX12_backOf_25 : decode cX12_backOf 25 = .ok (.if_icmp .ne 10, 3) := by decide +kernel
theorem dX12_backOf_28 : decode cX12_backOf 28 = .ok (.aload_n 0, 1) := by decide +kernel
theorem dX12_backOf_29 : decode cX12_backOf 29 = .ok (.getfield 240, 3) := by decide +kernel
theorem dX12_backOf_32 : decode cX12_backOf 32 = .ok (.goto 7, 3) := by decide +kernel
theorem dX12_backOf_35 : decode cX12_backOf 35 = .ok (.aload_n 0, 1) := by decide +kernel
theorem dX12_backOf_36 : decode cX12_backOf 36 = .ok (.getfield 243, 3) := by decide +kernel
theorem dX12_backOf_39 : decode cX12_backOf 39 = .ok (.ireturn, 1) := by decide +kernel
theorem dX12_toFront_0 : decode cX12_toFront 0 = .ok (.aload_n 0, 1) := by decide +kernel
theorem dX12_toFront_1 : decode cX12_toFront 1 = .ok (.iload_n 1, 1) := by decide +kernel
theorem dX12_toFront_2 : decode cX12_toFront 2 = .ok (.invokevirtual 246, 3) := by decide +kernel
theorem dX12_toFront_5 : decode cX12_toFront 5 = .ok (.istore_n 2, 1) := by decide +kernel
theorem dX12_toFront_6 : decode cX12_toFront 6 = .ok (.aload_n 0, 1) := by decide +kernel
theorem dX12_toFront_7 : decode cX12_toFront 7 = .ok (.iload_n 1, 1) := by decide +kernel
theorem dX12_toFront_8 : decode cX12_toFront 8 = .ok (.iconst 2, 1) := by decide +kernel
theorem dX12_toFront_9 : decode cX12_toFront 9 = .ok (.if_icmp .le 10, 3) := by decide +kernel
theorem dX12_toFront_12 : decode cX12_toFront 12 = .ok (.aload_n 0, 1) := by decide +kernel
theorem dX12_toFront_13 : decode cX12_toFront 13 = .ok (.getfield 240, 3) := by decide +kernel
theorem dX12_toFront_16 : decode cX12_toFront 16 = .ok (.goto 7, 3) := by decide +kernel
theorem dX12_toFront_19 : decode cX12_toFront 19 = .ok (.aload_n 0, 1) := by decide +kernel
theorem dX12_toFront_20 : decode cX12_toFront 20 = .ok (.getfield 243, 3) := by decide +kernel
theorem dX12_toFront_23 : decode cX12_toFront 23 = .ok (.putfield 243, 3) := by decide +kernel
theorem dX12_toFront_26 : decode cX12_toFront 26 = .ok (.aload_n 0, 1) := by decide +kernel
theorem dX12_toFront_27 : decode cX12_toFront 27 = .ok (.iload_n 1, 1) := by decide +kernel
theorem dX12_toFront_28 : decode cX12_toFront 28 = .ok (.iconst 1, 1) := by decide +kernel
theorem dX12_toFront_29 : decode cX12_toFront 29 = .ok (.if_icmp .le 10, 3) := by decide +kernel
theorem dX12_toFront_32 : decode cX12_toFront 32 = .ok (.aload_n 0, 1) := by decide +kernel
theorem dX12_toFront_33 : decode cX12_toFront 33 = .ok (.getfield 237, 3) := by decide +kernel
theorem dX12_toFront_36 : decode cX12_toFront 36 = .ok (.goto 7, 3) := by decide +kernel
theorem dX12_toFront_39 : decode cX12_toFront 39 = .ok (.aload_n 0, 1) := by decide +kernel
theorem dX12_toFront_40 : decode cX12_toFront 40 = .ok (.getfield 240, 3) := by decide +kernel
theorem dX12_toFront_43 : decode cX12_toFront 43 = .ok (.putfield 240, 3) := by decide +kernel
theorem dX12_toFront_46 : decode cX12_toFront 46 = .ok (.aload_n 0, 1) := by decide +kernel
theorem dX12_toFront_47 : decode cX12_toFront 47 = .ok (.iload_n 1, 1) := by decide +kernel
theorem dX12_toFront_48 : decode cX12_toFront 48 = .ok (.ifCond .le 10, 3) := by decide +kernel
theorem dX12_toFront_51 : decode cX12_toFront 51 = .ok (.aload_n 0, 1) := by decide +kernel
theorem dX12_toFront_52 : decode cX12_toFront 52 = .ok (.getfield 234, 3) := by decide +kernel
theorem dX12_toFront_55 : decode cX12_toFront 55 = .ok (.goto 7, 3) := by decide +kernel
theorem dX12_toFront_58 : decode cX12_toFront 58 = .ok (.aload_n 0, 1) := by decide +kernel
theorem dX12_toFront_59 : decode cX12_toFront 59 = .ok (.getfield 237, 3) := by decide +kernel
theorem dX12_toFront_62 : decode cX12_toFront 62 = .ok (.putfield 237, 3) := by decide +kernel
theorem dX12_toFront_65 : decode cX12_toFront 65 = .ok (.aload_n 0, 1) := by decide +kernel
theorem dX12_toFront_66 : decode cX12_toFront 66 = .ok (.iload_n 2, 1) := by decide +kernel
theorem dX12_toFront_67 : decode cX12_toFront 67 = .ok (.putfield 234, 3) := by decide +kernel
theorem dX12_toFront_70 : decode cX12_toFront 70 = .ok (.return_, 1) := by decide +kernel
theorem dX12_newBack_0 : decode cX12_newBack 0 = .ok (.aload_n 0, 1) := by decide +kernel
theorem dX12_newBack_1 : decode cX12_newBack 1 = .ok (.aload_n 0, 1) := by decide +kernel
theorem dX12_newBack_2 : decode cX12_newBack 2 = .ok (.getfield 240, 3) := by decide +kernel
theorem dX12_newBack_5 : decode cX12_newBack 5 = .ok (.putfield 243, 3) := by decide +kernel
theorem dX12_newBack_8 : decode cX12_newBack 8 = .ok (.aload_n 0, 1) := by decide +kernel
theorem dX12_newBack_9 : decode cX12_newBack 9 = .ok (.aload_n 0, 1) := by decide +kernel
theorem dX12_newBack_10 : decode cX12_newBack 10 = .ok (.getfield 237, 3) := by decide +kernel
theorem dX12_newBack_13 : decode cX12_newBack 13 = .ok (.putfield 240, 3) := by decide +kernel
theorem dX12_newBack_16 : decode cX12_newBack 16 = .ok (.aload_n 0, 1) := by decide +kernel
theorem dX12_newBack_17 : decode cX12_newBack 17 = .ok (.aload_n 0, 1) := by decide +kernel
theorem dX12_newBack_18 : decode cX12_newBack 18 = .ok (.getfield 234, 3) := by decide +kernel
theorem dX12_newBack_21 : decode cX12_newBack 21 = .ok (.putfield 237, 3) := by decide +kernel
theorem dX12_newBack_24 : decode cX12_newBack 24 = .ok (.aload_n 0, 1) := by decide +kernel
theorem dX12_newBack_25 : decode cX12_newBack 25 = .ok (.iload_n 1, 1) := by decide +kernel
theorem dX12_newBack_26 : decode cX12_newBack 26 = .ok (.putfield 234, 3) := by decide +kernel
theorem dX12_newBack_29 : decode cX12_newBack 29 = .ok (.return_, 1) := by decide +kernel
theorem dX12_part_0 : decode cX12_part 0 = .ok (.aload_n 0, 1) := by decide +kernel
theorem dX12_part_1 : decode cX12_part 1 = .ok (.getfield 249, 3) := by decide +kernel
theorem dX12_part_4 : decode cX12_part 4 = .ok (.iconst 1, 1) := by decide +kernel
theorem dX12_part_5 : decode cX12_part 5 = .ok (.aload_n 0, 1) := by decide +kernel
theorem dX12_part_6 : decode cX12_part 6 = .ok (.getfield 252, 3) := by decide +kernel
theorem dX12_part_9 : decode cX12_part 9 = .ok (.ishl, 1) := by decide +kernel
theorem dX12_part_10 : decode cX12_part 10 = .ok (.iconst 1, 1) := by decide +kernel
theorem dX12_part_11 : decode cX12_part 11 = .ok (.isub, 1) := by decide +kernel
theorem dX12_part_12 : decode cX12_part 12 = .ok (.iand, 1) := by decide +kernel
theorem dX12_part_13 : decode cX12_part 13 = .ok (.ireturn, 1) := by decide +kernel
theorem dX12_afterLiteral_0 : decode cX12_afterLiteral 0 = .ok (.aload_n 0, 1) := by decide +kernel
theorem dX12_afterLiteral_1 : decode cX12_afterLiteral 1 = .ok (.aload_n 0, 1) := by decide +kernel
theorem dX12_afterLiteral_2 : decode cX12_afterLiteral 2 = .ok (.getfield 231, 3) := by decide +kernel
theorem dX12_afterLiteral_5 : decode cX12_afterLiteral 5 = .ok (.iconst 4, 1) := by decide +kernel
theorem dX12_afterLiteral_6 : decode cX12_afterLiteral 6 = .ok (.if_icmp .ge 7, 3) := by decide +kernel
theorem dX12_afterLiteral_9 : decode cX12_afterLiteral 9 = .ok (.iconst 0, 1) := by decide +kernel
theorem dX12_afterLiteral_10 : decode cX12_afterLiteral 10 = .ok (.goto 28, 3) := by decide +kernel
theorem dX12_afterLiteral_13 : decode cX12_afterLiteral 13 = .ok (.aload_n 0, 1) := by decide +kernel
theorem dX12_afterLiteral_14 : decode cX12_afterLiteral 14 = .ok (.getfield 231, 3) := by decide +kernel
theorem dX12_afterLiteral_17 : decode cX12_afterLiteral 17 = .ok (.bipush 10, 2) := by decide +kernel
theorem dX12_afterLiteral_19 : decode cX12_afterLiteral 19 = .ok (.if_icmp .ge 12, 3) := by decide +kernel
theorem dX12_afterLiteral_22 : decode cX12_afterLiteral 22 = .ok (.aload_n 0, 1) := by decide +kernel
theorem dX12_afterLiteral_23 : decode cX12_afterLiteral 23 = .ok (.getfield 231, 3) := by decide +kernel
theorem dX12_afterLiteral_26 : decode cX12_afterLiteral 26 = .ok (.iconst 3, 1) := by decide +kernel
theorem dX12_afterLiteral_27 : decode cX12_afterLiteral 27 = .ok (.isub, 1) := by decide +kernel
theorem dX12_afterLiteral_28 : decode cX12_afterLiteral 28 = .ok (.goto 10, 3) := by decide +kernel
theorem dX12_afterLiteral_31 : decode cX12_afterLiteral 31 = .ok (.aload_n 0, 1) := by decide +kernel
theorem dX12_afterLiteral_32 : decode cX12_afterLiteral 32 = .ok (.getfield 231, 3) := by decide +kernel
theorem dX12_afterLiteral_35 : decode cX12_afterLiteral 35 = .ok (.bipush 6, 2) := by decide +kernel
theorem dX12_afterLiteral_37 : decode cX12_afterLiteral 37 = .ok (.isub, 1) := by decide +kernel
theorem dX12_afterLiteral_38 : decode cX12_afterLiteral 38 = .ok (.putfield 231, 3) := by decide +kernel
theorem dX12_afterLiteral_41 : decode cX12_afterLiteral 41 = .ok (.return_, 1) := by decide +kernel
theorem dX12_literalAt_0 : decode cX12_literalAt 0 = .ok (.sipush 2056, 3) := by decide +kernel
theorem dX12_literalAt_3 : decode cX12_literalAt 3 = .ok (.sipush 768, 3) := by decide +kernel
theorem dX12_literalAt_6 : decode cX12_literalAt 6 = .ok (.aload_n 0, 1) := by decide +kernel
theorem dX12_literalAt_7 : decode cX12_literalAt 7 = .ok (.getfield 249, 3) := by decide +kernel
theorem dX12_literalAt_10 : decode cX12_literalAt 10 = .ok (.iconst 1, 1) := by decide +kernel
theorem dX12_literalAt_11 : decode cX12_literalAt 11 = .ok (.aload_n 0, 1) := by decide +kernel
theorem dX12_literalAt_12 : decode cX12_literalAt 12 = .ok (.getfield 255, 3) := by decide +kernel
theorem dX12_literalAt_15 : decode cX12_literalAt 15 = .ok (.ishl, 1) := by decide +kernel
theorem dX12_literalAt_16 : decode cX12_literalAt 16 = .ok (.iconst 1, 1) := by decide +kernel
theorem dX12_literalAt_17 : decode cX12_literalAt 17 = .ok (.isub, 1) := by decide +kernel
theorem dX12_literalAt_18 : decode cX12_literalAt 18 = .ok (.iand, 1) := by decide +kernel
theorem dX12_literalAt_19 : decode cX12_literalAt 19 = .ok (.aload_n 0, 1) := by decide +kernel
theorem dX12_literalAt_20 : decode cX12_literalAt 20 = .ok (.getfield 258, 3) := by decide +kernel
theorem dX12_literalAt_23 : decode cX12_literalAt 23 = .ok (.ishl, 1) := by decide +kernel
theorem dX12_literalAt_24 : decode cX12_literalAt 24 = .ok (.iload_n 1, 1) := by decide +kernel
theorem dX12_literalAt_25 : decode cX12_literalAt 25 = .ok (.bipush 8, 2) := by decide +kernel
theorem dX12_literalAt_27 : decode cX12_literalAt 27 = .ok (.aload_n 0, 1) := by decide +kernel
theorem dX12_literalAt_28 : decode cX12_literalAt 28 = .ok (.getfield 258, 3) := by decide +kernel
theorem dX12_literalAt_31 : decode cX12_literalAt 31 = .ok (.isub, 1) := by decide +kernel
theorem dX12_literalAt_32 : decode cX12_literalAt 32 = .ok (.ishr, 1) := by decide +kernel
theorem dX12_literalAt_33 : decode cX12_literalAt 33 = .ok (.iadd, 1) := by decide +kernel
theorem dX12_literalAt_34 : decode cX12_literalAt 34 = .ok (.imul, 1) := by decide +kernel
theorem dX12_literalAt_35 : decode cX12_literalAt 35 = .ok (.iadd, 1) := by decide +kernel
theorem dX12_literalAt_36 : decode cX12_literalAt 36 = .ok (.ireturn, 1) := by decide +kernel
theorem dX12_beginCoder_0 : decode cX12_beginCoder 0 = .ok (.aload_n 0, 1) := by decide +kernel
theorem dX12_beginCoder_1 : decode cX12_beginCoder 1 = .ok (.iconst 0, 1) := by decide +kernel
theorem dX12_beginCoder_2 : decode cX12_beginCoder 2 = .ok (.putfield 261, 3) := by decide +kernel
theorem dX12_beginCoder_5 : decode cX12_beginCoder 5 = .ok (.aload_n 0, 1) := by decide +kernel
theorem dX12_beginCoder_6 : decode cX12_beginCoder 6 = .ok (.lconst 0, 1) := by decide +kernel
theorem dX12_beginCoder_7 : decode cX12_beginCoder 7 = .ok (.putfield 264, 3) := by decide +kernel
theorem dX12_beginCoder_10 : decode cX12_beginCoder 10 = .ok (.aload_n 0, 1) := by decide +kernel
theorem dX12_beginCoder_11 : decode cX12_beginCoder 11 = .ok (.ldc2_w 267, 3) := by decide +kernel
theorem dX12_beginCoder_14 : decode cX12_beginCoder 14 = .ok (.putfield 269, 3) := by decide +kernel
theorem dX12_beginCoder_17 : decode cX12_beginCoder 17 = .ok (.aload_n 0, 1) := by decide +kernel
theorem dX12_beginCoder_18 : decode cX12_beginCoder 18 = .ok (.iconst 0, 1) := by decide +kernel
theorem dX12_beginCoder_19 : decode cX12_beginCoder 19 = .ok (.putfield 272, 3) := by decide +kernel
theorem dX12_beginCoder_22 : decode cX12_beginCoder 22 = .ok (.aload_n 0, 1) := by decide +kernel
theorem dX12_beginCoder_23 : decode cX12_beginCoder 23 = .ok (.iconst 1, 1) := by decide +kernel
theorem dX12_beginCoder_24 : decode cX12_beginCoder 24 = .ok (.putfield 275, 3) := by decide +kernel
theorem dX12_beginCoder_27 : decode cX12_beginCoder 27 = .ok (.return_, 1) := by decide +kernel
theorem dX12_shift_0 : decode cX12_shift 0 = .ok (.aload_n 0, 1) := by decide +kernel
theorem dX12_shift_1 : decode cX12_shift 1 = .ok (.getfield 264, 3) := by decide +kernel
theorem dX12_shift_4 : decode cX12_shift 4 = .ok (.ldc2_w 278, 3) := by decide +kernel
theorem dX12_shift_7 : decode cX12_shift 7 = .ok (.lcmp, 1) := by decide +kernel
theorem dX12_shift_8 : decode cX12_shift 8 = .ok (.ifCond .lt 14, 3) := by decide +kernel
theorem dX12_shift_11 : decode cX12_shift 11 = .ok (.aload_n 0, 1) := by decide +kernel
theorem dX12_shift_12 : decode cX12_shift 12 = .ok (.getfield 264, 3) := by decide +kernel
theorem dX12_shift_15 : decode cX12_shift 15 = .ok (.ldc2_w 280, 3) := by decide +kernel
theorem dX12_shift_18 : decode cX12_shift 18 = .ok (.lcmp, 1) := by decide +kernel
theorem dX12_shift_19 : decode cX12_shift 19 = .ok (.ifCond .lt 91, 3) := by decide +kernel
theorem dX12_shift_22 : decode cX12_shift 22 = .ok (.aload_n 0, 1) := by decide +kernel
theorem dX12_shift_23 : decode cX12_shift 23 = .ok (.getfield 264, 3) := by decide +kernel
theorem dX12_shift_26 : decode cX12_shift 26 = .ok (.ldc2_w 280, 3) := by decide +kernel
theorem dX12_shift_29 : decode cX12_shift 29 = .ok (.lcmp, 1) := by decide +kernel
theorem dX12_shift_30 : decode cX12_shift 30 = .ok (.ifCond .lt 7, 3) := by decide +kernel
theorem dX12_shift_33 : decode cX12_shift 33 = .ok (.iconst 1, 1) := by decide +kernel
theorem dX12_shift_34 : decode cX12_shift 34 = .ok (.goto 4, 3) := by decide +kernel
theorem dX12_shift_37 : decode cX12_shift 37 = .ok (.iconst 0, 1) := by decide +kernel
theorem dX12_shift_38 : decode cX12_shift 38 = .ok (.istore_n 1, 1) := by decide +kernel
theorem dX12_shift_39 : decode cX12_shift 39 = .ok (.aload_n 0, 1) := by decide +kernel
theorem dX12_shift_40 : decode cX12_shift 40 = .ok (.getfield 272, 3) := by decide +kernel
theorem dX12_shift_43 : decode cX12_shift 43 = .ok (.istore_n 2, 1) := by decide +kernel
theorem dX12_shift_44 : decode cX12_shift 44 = .ok (.aload_n 0, 1) := by decide +kernel
theorem dX12_shift_45 : decode cX12_shift 45 = .ok (.getfield 275, 3) := by decide +kernel
theorem dX12_shift_48 : decode cX12_shift 48 = .ok (.ifCond .le 46, 3) := by decide +kernel
theorem dX12_shift_51 : decode cX12_shift 51 = .ok (.aload_n 0, 1) := by decide +kernel
theorem dX12_shift_52 : decode cX12_shift 52 = .ok (.getfield 86, 3) := by decide +kernel
theorem dX12_shift_55 : decode cX12_shift 55 = .ok (.aload_n 0, 1) := by decide +kernel
theorem dX12_shift_56 : decode cX12_shift 56 = .ok (.getfield 261, 3) := by decide +kernel
theorem dX12_shift_59 : decode cX12_shift 59 = .ok (.iload_n 2, 1) := by decide +kernel
theorem dX12_shift_60 : decode cX12_shift 60 = .ok (.iload_n 1, 1) := by decide +kernel
theorem dX12_shift_61 : decode cX12_shift 61 = .ok (.iadd, 1) := by decide +kernel
theorem dX12_shift_62 : decode cX12_shift 62 = .ok (.sipush 255, 3) := by decide +kernel
theorem dX12_shift_65 : decode cX12_shift 65 = .ok (.iand, 1) := by decide +kernel
theorem dX12_shift_66 : decode cX12_shift 66 = .ok (.iastore, 1) := by decide +kernel
theorem dX12_shift_67 : decode cX12_shift 67 = .ok (.aload_n 0, 1) := by decide +kernel
theorem dX12_shift_68 : decode cX12_shift 68 = .ok (.dup, 1) := by decide +kernel
theorem dX12_shift_69 : decode cX12_shift 69 = .ok (.getfield 261, 3) := by decide +kernel
theorem dX12_shift_72 : decode cX12_shift 72 = .ok (.iconst 1, 1) := by decide +kernel
theorem dX12_shift_73 : decode cX12_shift 73 = .ok (.iadd, 1) := by decide +kernel
theorem dX12_shift_74 : decode cX12_shift 74 = .ok (.putfield 261, 3) := by decide +kernel
theorem dX12_shift_77 : decode cX12_shift 77 = .ok (.sipush 255, 3) := by decide +kernel
theorem dX12_shift_80 : decode cX12_shift 80 = .ok (.istore_n 2, 1) := by decide +kernel
theorem dX12_shift_81 : decode cX12_shift 81 = .ok (.aload_n 0, 1) := by decide +kernel
theorem dX12_shift_82 : decode cX12_shift 82 = .ok (.dup, 1) := by decide +kernel
theorem dX12_shift_83 : decode cX12_shift 83 = .ok (.getfield 275, 3) := by decide +kernel
theorem dX12_shift_86 : decode cX12_shift 86 = .ok (.iconst 1, 1) := by decide +kernel
theorem dX12_shift_87 : decode cX12_shift 87 = .ok (.isub, 1) := by decide +kernel
theorem dX12_shift_88 : decode cX12_shift 88 = .ok (.putfield 275, 3) := by decide +kernel
theorem dX12_shift_91 : decode cX12_shift 91 = .ok (.goto (-47), 3) := by decide +kernel
theorem dX12_shift_94 : decode cX12_shift 94 = .ok (.aload_n 0, 1) := by decide +kernel
theorem dX12_shift_95 : decode cX12_shift 95 = .ok (.aload_n 0, 1) := by decide +kernel
theorem dX12_shift_96 : decode cX12_shift 96 = .ok (.getfield 264, 3) := by decide +kernel
theorem dX12_shift_99 : decode cX12_shift 99 = .ok (.bipush 24, 2) := by decide +kernel
theorem dX12_shift_101 : decode cX12_shift 101 = .ok (.lshr, 1) := by decide +kernel
theorem dX12_shift_102 : decode cX12_shift 102 = .ok (.l2i, 1) := by decide +kernel
theorem dX12_shift_103 : decode cX12_shift 103 = .ok (.sipush 255, 3) := by decide +kernel
theorem dX12_shift_106 : decode cX12_shift 106 = .ok (.iand, 1) := by decide +kernel
theorem dX12_shift_107 : decode cX12_shift 107 = .ok (.putfield 272, 3) := by decide +kernel
theorem dX12_shift_110 : decode cX12_shift 110 = .ok (.aload_n 0, 1) := by decide +kernel
theorem dX12_shift_111 : decode cX12_shift 111 = .ok (.dup, 1) := by decide +kernel
theorem dX12_shift_112 : decode cX12_shift 112 = .ok (.getfield 275, 3) := by decide +kernel
theorem dX12_shift_115 : decode cX12_shift 115 = .ok (.iconst 1, 1) := by decide +kernel
theorem dX12_shift_116 : decode cX12_shift 116 = .ok (.iadd, 1) := by decide +kernel
theorem dX12_shift_117 : decode cX12_shift 117 = .ok (.putfield 275, 3) := by decide +kernel
theorem dX12_shift_120 : decode cX12_shift 120 = .ok (.aload_n 0, 1) := by decide +kernel
theorem dX12_shift_121 : decode cX12_shift 121 = .ok (.aload_n 0, 1) := by decide +kernel
theorem dX12_shift_122 : decode cX12_shift 122 = .ok (.getfield 264, 3) := by decide +kernel
theorem dX12_shift_125 : decode cX12_shift 125 = .ok (.ldc2_w 282, 3) := by decide +kernel
theorem dX12_shift_128 : decode cX12_shift 128 = .ok (.land, 1) := by decide +kernel
theorem dX12_shift_129 : decode cX12_shift 129 = .ok (.bipush 8, 2) := by decide +kernel
theorem dX12_shift_131 : decode cX12_shift 131 = .ok (.lshl, 1) := by decide +kernel
theorem dX12_shift_132 : decode cX12_shift 132 = .ok (.putfield 264, 3) := by decide +kernel
theorem dX12_shift_135 : decode cX12_shift 135 = .ok (.return_, 1) := by decide +kernel
theorem dX12_normal_0 : decode cX12_normal 0 = .ok (.aload_n 0, 1) := by decide +kernel
theorem dX12_normal_1 : decode cX12_normal 1 = .ok (.getfield 269, 3) := by decide +kernel
theorem dX12_normal_4 : decode cX12_normal 4 = .ok (.ldc2_w 284, 3) := by decide +kernel
theorem dX12_normal_7 : decode cX12_normal 7 = .ok (.lcmp, 1) := by decide +kernel
theorem dX12_normal_8 : decode cX12_normal 8 = .ok (.ifCond .ge 21, 3) := by decide +kernel
theorem dX12_normal_11 : decode cX12_normal 11 = .ok (.aload_n 0, 1) := by decide +kernel
theorem dX12_normal_12 : decode cX12_normal 12 = .ok (.aload_n 0, 1) := by decide +kernel
theorem dX12_normal_13 : decode cX12_normal 13 = .ok (.getfield 269, 3) := by decide +kernel
theorem dX12_normal_16 : decode cX12_normal 16 = .ok (.bipush 8, 2) := by decide +kernel
theorem dX12_normal_18 : decode cX12_normal 18 = .ok (.lshl, 1) := by decide +kernel
theorem dX12_normal_19 : decode cX12_normal 19 = .ok (.putfield 269, 3) := by decide +kernel
theorem dX12_normal_22 : decode cX12_normal 22 = .ok (.aload_n 0, 1) := by decide +kernel
theorem dX12_normal_23 : decode cX12_normal 23 = .ok (.invokevirtual 286, 3) := by decide +kernel
theorem dX12_normal_26 : decode cX12_normal 26 = .ok (.goto (-26), 3) := by decide +kernel
theorem dX12_normal_29 : decode cX12_normal 29 = .ok (.return_, 1) := by decide +kernel
theorem dX12_putBit_0 : decode cX12_putBit 0 = .ok (.aload_n 0, 1) := by decide +kernel
theorem dX12_putBit_1 : decode cX12_putBit 1 = .ok (.getfield 269, 3) := by decide +kernel
theorem dX12_putBit_4 : decode cX12_putBit 4 = .ok (.bipush 11, 2) := by decide +kernel
theorem dX12_putBit_6 : decode cX12_putBit 6 = .ok (.lshr, 1) := by decide +kernel
theorem dX12_putBit_7 : decode cX12_putBit 7 = .ok (.aload_n 0, 1) := by decide +kernel
theorem dX12_putBit_8 : decode cX12_putBit 8 = .ok (.getfield 80, 3) := by decide +kernel
theorem dX12_putBit_11 : decode cX12_putBit 11 = .ok (.iload_n 1, 1) := by decide +kernel
theorem dX12_putBit_12 : decode cX12_putBit 12 = .ok (.iaload, 1) := by decide +kernel
theorem dX12_putBit_13 : decode cX12_putBit 13 = .ok (.i2l, 1) := by decide +kernel
theorem dX12_putBit_14 : decode cX12_putBit 14 = .ok (.lmul, 1) := by decide +kernel
theorem dX12_putBit_15 : decode cX12_putBit 15 = .ok (.lstore_n 3, 1) := by decide +kernel
theorem dX12_putBit_16 : decode cX12_putBit 16 = .ok (.iload_n 2, 1) := by decide +kernel
theorem dX12_putBit_17 : decode cX12_putBit 17 = .ok (.ifCond .ne 32, 3) := by decide +kernel
theorem dX12_putBit_20 : decode cX12_putBit 20 = .ok (.aload_n 0, 1) := by decide +kernel
theorem dX12_putBit_21 : decode cX12_putBit 21 = .ok (.lload_n 3, 1) := by decide +kernel
theorem dX12_putBit_22 : decode cX12_putBit 22 = .ok (.putfield 269, 3) := by decide +kernel
theorem dX12_putBit_25 : decode cX12_putBit 25 = .ok (.aload_n 0, 1) := by decide +kernel
theorem dX12_putBit_26 : decode cX12_putBit 26 = .ok (.getfield 80, 3) := by decide +kernel
theorem dX12_putBit_29 : decode cX12_putBit 29 = .ok (.iload_n 1, 1) := by decide +kernel
theorem dX12_putBit_30 : decode cX12_putBit 30 = .ok (.dup2, 1) := by decide +kernel
theorem dX12_putBit_31 : decode cX12_putBit 31 = .ok (.iaload, 1) := by decide +kernel
theorem dX12_putBit_32 : decode cX12_putBit 32 = .ok (.sipush 2048, 3) := by decide +kernel
theorem dX12_putBit_35 : decode cX12_putBit 35 = .ok (.aload_n 0, 1) := by decide +kernel
theorem dX12_putBit_36 : decode cX12_putBit 36 = .ok (.getfield 80, 3) := by decide +kernel
theorem dX12_putBit_39 : decode cX12_putBit 39 = .ok (.iload_n 1, 1) := by decide +kernel
theorem dX12_putBit_40 : decode cX12_putBit 40 = .ok (.iaload, 1) := by decide +kernel
theorem dX12_putBit_41 : decode cX12_putBit 41 = .ok (.isub, 1) := by decide +kernel
theorem dX12_putBit_42 : decode cX12_putBit 42 = .ok (.iconst 5, 1) := by decide +kernel
theorem dX12_putBit_43 : decode cX12_putBit 43 = .ok (.ishr, 1) := by decide +kernel
theorem dX12_putBit_44 : decode cX12_putBit 44 = .ok (.iadd, 1) := by decide +kernel
theorem dX12_putBit_45 : decode cX12_putBit 45 = .ok (.iastore, 1) := by decide +kernel
theorem dX12_putBit_46 : decode cX12_putBit 46 = .ok (.goto 40, 3) := by decide +kernel
theorem dX12_putBit_49 : decode cX12_putBit 49 = .ok (.aload_n 0, 1) := by decide +kernel
theorem dX12_putBit_50 : decode cX12_putBit 50 = .ok (.dup, 1) := by decide +kernel
theorem dX12_putBit_51 : decode cX12_putBit 51 = .ok (.getfield 264, 3) := by decide +kernel
theorem dX12_putBit_54 : decode cX12_putBit 54 = .ok (.lload_n 3, 1) := by decide +kernel
theorem dX12_putBit_55 : decode cX12_putBit 55 = .ok (.ladd, 1) := by decide +kernel
theorem dX12_putBit_56 : decode cX12_putBit 56 = .ok (.putfield 264, 3) := by decide +kernel
theorem dX12_putBit_59 : decode cX12_putBit 59 = .ok (.aload_n 0, 1) := by decide +kernel
theorem dX12_putBit_60 : decode cX12_putBit 60 = .ok (.dup, 1) := by decide +kernel
theorem dX12_putBit_61 : decode cX12_putBit 61 = .ok (.getfield 269, 3) := by decide +kernel
theorem dX12_putBit_64 : decode cX12_putBit 64 = .ok (.lload_n 3, 1) := by decide +kernel
theorem dX12_putBit_65 : decode cX12_putBit 65 = .ok (.lsub, 1) := by decide +kernel
theorem dX12_putBit_66 : decode cX12_putBit 66 = .ok (.putfield 269, 3) := by decide +kernel
theorem dX12_putBit_69 : decode cX12_putBit 69 = .ok (.aload_n 0, 1) := by decide +kernel
theorem dX12_putBit_70 : decode cX12_putBit 70 = .ok (.getfield 80, 3) := by decide +kernel
theorem dX12_putBit_73 : decode cX12_putBit 73 = .ok (.iload_n 1, 1) := by decide +kernel
theorem dX12_putBit_74 : decode cX12_putBit 74 = .ok (.dup2, 1) := by decide +kernel
theorem dX12_putBit_75 : decode cX12_putBit 75 = .ok (.iaload, 1) := by decide +kernel
theorem dX12_putBit_76 : decode cX12_putBit 76 = .ok (.aload_n 0, 1) := by decide +kernel
theorem dX12_putBit_77 : decode cX12_putBit 77 = .ok (.getfield 80, 3) := by decide +kernel
theorem dX12_putBit_80 : decode cX12_putBit 80 = .ok (.iload_n 1, 1) := by decide +kernel
theorem dX12_putBit_81 : decode cX12_putBit 81 = .ok (.iaload, 1) := by decide +kernel
theorem dX12_putBit_82 : decode cX12_putBit 82 = .ok (.iconst 5, 1) := by decide +kernel
theorem dX12_putBit_83 : decode cX12_putBit 83 = .ok (.ishr, 1) := by decide +kernel
theorem dX12_putBit_84 : decode cX12_putBit 84 = .ok (.isub, 1) := by decide +kernel
theorem dX12_putBit_85 : decode cX12_putBit 85 = .ok (.iastore, 1) := by decide +kernel
theorem dX12_putBit_86 : decode cX12_putBit 86 = .ok (.aload_n 0, 1) := by decide +kernel
theorem dX12_putBit_87 : decode cX12_putBit 87 = .ok (.invokevirtual 289, 3) := by decide +kernel
theorem dX12_putBit_90 : decode cX12_putBit 90 = .ok (.return_, 1) := by decide +kernel
theorem dX12_putPlain_0 : decode cX12_putPlain 0 = .ok (.aload_n 0, 1) := by decide +kernel
theorem dX12_putPlain_1 : decode cX12_putPlain 1 = .ok (.aload_n 0, 1) := by decide +kernel
theorem dX12_putPlain_2 : decode cX12_putPlain 2 = .ok (.getfield 269, 3) := by decide +kernel
theorem dX12_putPlain_5 : decode cX12_putPlain 5 = .ok (.iconst 1, 1) := by decide +kernel
theorem dX12_putPlain_6 : decode cX12_putPlain 6 = .ok (.lshr, 1) := by decide +kernel
theorem dX12_putPlain_7 : decode cX12_putPlain 7 = .ok (.putfield 269, 3) := by decide +kernel
theorem dX12_putPlain_10 : decode cX12_putPlain 10 = .ok (.aload_n 0, 1) := by decide +kernel
theorem dX12_putPlain_11 : decode cX12_putPlain 11 = .ok (.dup, 1) := by decide +kernel
theorem dX12_putPlain_12 : decode cX12_putPlain 12 = .ok (.getfield 264, 3) := by decide +kernel
theorem dX12_putPlain_15 : decode cX12_putPlain 15 = .ok (.iload_n 1, 1) := by decide +kernel
theorem dX12_putPlain_16 : decode cX12_putPlain 16 = .ok (.iconst 1, 1) := by decide +kernel
theorem dX12_putPlain_17 : decode cX12_putPlain 17 = .ok (.if_icmp .ne 10, 3) := by decide +kernel
theorem dX12_putPlain_20 : decode cX12_putPlain 20 = .ok (.aload_n 0, 1) := by decide +kernel
theorem dX12_putPlain_21 : decode cX12_putPlain 21 = .ok (.getfield 269, 3) := by decide +kernel
theorem dX12_putPlain_24 : decode cX12_putPlain 24 = .ok (.goto 4, 3) := by decide +kernel
theorem dX12_putPlain_27 : decode cX12_putPlain 27 = .ok (.lconst 0, 1) := by decide +kernel
theorem dX12_putPlain_28 : decode cX12_putPlain 28 = .ok (.ladd, 1) := by decide +kernel
theorem dX12_putPlain_29 : decode cX12_putPlain 29 = .ok (.putfield 264, 3) := by decide +kernel
theorem dX12_putPlain_32 : decode cX12_putPlain 32 = .ok (.aload_n 0, 1) := by decide +kernel
theorem dX12_putPlain_33 : decode cX12_putPlain 33 = .ok (.invokevirtual 289, 3) := by decide +kernel
theorem dX12_putPlain_36 : decode cX12_putPlain 36 = .ok (.return_, 1) := by decide +kernel
theorem dX12_endCoder_0 : decode cX12_endCoder 0 = .ok (.iconst 0, 1) := by decide +kernel
theorem dX12_endCoder_1 : decode cX12_endCoder 1 = .ok (.istore_n 1, 1) := by decide +kernel
theorem dX12_endCoder_2 : decode cX12_endCoder 2 = .ok (.iload_n 1, 1) := by decide +kernel
theorem dX12_endCoder_3 : decode cX12_endCoder 3 = .ok (.iconst 5, 1) := by decide +kernel
theorem dX12_endCoder_4 : decode cX12_endCoder 4 = .ok (.if_icmp .ge 13, 3) := by decide +kernel
theorem dX12_endCoder_7 : decode cX12_endCoder 7 = .ok (.aload_n 0, 1) := by decide +kernel
theorem dX12_endCoder_8 : decode cX12_endCoder 8 = .ok (.invokevirtual 286, 3) := by decide +kernel
theorem dX12_endCoder_11 : decode cX12_endCoder 11 = .ok (.iinc 1 1, 3) := by decide +kernel
theorem dX12_endCoder_14 : decode cX12_endCoder 14 = .ok (.goto (-12), 3) := by decide +kernel
theorem dX12_endCoder_17 : decode cX12_endCoder 17 = .ok (.return_, 1) := by decide +kernel
theorem dX12_putTree_0 : decode cX12_putTree 0 = .ok (.iconst 1, 1) := by decide +kernel
theorem dX12_putTree_1 : decode cX12_putTree 1 = .ok (.istore 4, 2) := by decide +kernel
theorem dX12_putTree_3 : decode cX12_putTree 3 = .ok (.iload_n 2, 1) := by decide +kernel
theorem dX12_putTree_4 : decode cX12_putTree 4 = .ok (.iconst 1, 1) := by decide +kernel
theorem dX12_putTree_5 : decode cX12_putTree 5 = .ok (.isub, 1) := by decide +kernel
theorem dX12_putTree_6 : decode cX12_putTree 6 = .ok (.istore 5, 2) := by decide +kernel
theorem dX12_putTree_8 : decode cX12_putTree 8 = .ok (.iload 5, 2) := by decide +kernel
theorem dX12_putTree_10 : decode cX12_putTree 10 = .ok (.ifCond .lt 36, 3) := by decide +kernel
theorem dX12_putTree_13 : decode cX12_putTree 13 = .ok (.iload_n 3, 1) := by decide +kernel
theorem dX12_putTree_14 : decode cX12_putTree 14 = .ok (.iload 5, 2) := by decide +kernel
theorem dX12_putTree_16 : decode cX12_putTree 16 = .ok (.ishr, 1) := by decide +kernel
theorem dX12_putTree_17 : decode cX12_putTree 17 = .ok (.iconst 1, 1) := by decide +kernel
theorem dX12_putTree_18 : decode cX12_putTree 18 = .ok (.iand, 1) := by decide +kernel
theorem dX12_putTree_19 : decode cX12_putTree 19 = .ok (.istore 6, 2) := by decide +kernel
theorem dX12_putTree_21 : decode cX12_putTree 21 = .ok (.aload_n 0, 1) := by decide +kernel
theorem dX12_putTree_22 : decode cX12_putTree 22 = .ok (.iload_n 1, 1) := by decide +kernel
theorem dX12_putTree_23 : decode cX12_putTree 23 = .ok (.iload 4, 2) := by decide +kernel
theorem dX12_putTree_25 : decode cX12_putTree 25 = .ok (.iadd, 1) := by decide +kernel
theorem dX12_putTree_26 : decode cX12_putTree 26 = .ok (.iload 6, 2) := by decide +kernel
theorem dX12_putTree_28 : decode cX12_putTree 28 = .ok (.invokevirtual 292, 3) := by decide +kernel
theorem dX12_putTree_31 : decode cX12_putTree 31 = .ok (.iconst 2, 1) := by decide +kernel
theorem dX12_putTree_32 : decode cX12_putTree 32 = .ok (.iload 4, 2) := by decide +kernel
theorem dX12_putTree_34 : decode cX12_putTree 34 = .ok (.imul, 1) := by decide +kernel
theorem dX12_putTree_35 : decode cX12_putTree 35 = .ok (.iload 6, 2) := by decide +kernel
theorem dX12_putTree_37 : decode cX12_putTree 37 = .ok (.iadd, 1) := by decide +kernel
theorem dX12_putTree_38 : decode cX12_putTree 38 = .ok (.istore 4, 2) := by decide +kernel
theorem dX12_putTree_40 : decode cX12_putTree 40 = .ok (.iinc 5 (-1), 3) := by decide +kernel
theorem dX12_putTree_43 : decode cX12_putTree 43 = .ok (.goto (-35), 3) := by decide +kernel
theorem dX12_putTree_46 : decode cX12_putTree 46 = .ok (.return_, 1) := by decide +kernel
theorem dX12_putTurned_0 : decode cX12_putTurned 0 = .ok (.iconst 1, 1) := by decide +kernel
theorem dX12_putTurned_1 : decode cX12_putTurned 1 = .ok (.istore 4, 2) := by decide +kernel
theorem dX12_putTurned_3 : decode cX12_putTurned 3 = .ok (.iconst 0, 1) := by decide +kernel
theorem dX12_putTurned_4 : decode cX12_putTurned 4 = .ok (.istore 5, 2) := by decide +kernel
theorem dX12_putTurned_6 : decode cX12_putTurned 6 = .ok (.iload 5, 2) := by decide +kernel
theorem dX12_putTurned_8 : decode cX12_putTurned 8 = .ok (.iload_n 2, 1) := by decide +kernel
theorem dX12_putTurned_9 : decode cX12_putTurned 9 = .ok (.if_icmp .ge 36, 3) := by decide +kernel
theorem dX12_putTurned_12 : decode cX12_putTurned 12 = .ok (.iload_n 3, 1) := by decide +kernel
theorem dX12_putTurned_13 : decode cX12_putTurned 13 = .ok (.iload 5, 2) := by decide +kernel
theorem dX12_putTurned_15 : decode cX12_putTurned 15 = .ok (.ishr, 1) := by decide +kernel
theorem dX12_putTurned_16 : decode cX12_putTurned 16 = .ok (.iconst 1, 1) := by decide +kernel
theorem dX12_putTurned_17 : decode cX12_putTurned 17 = .ok (.iand, 1) := by decide +kernel
theorem dX12_putTurned_18 : decode cX12_putTurned 18 = .ok (.istore 6, 2) := by decide +kernel
theorem dX12_putTurned_20 : decode cX12_putTurned 20 = .ok (.aload_n 0, 1) := by decide +kernel
theorem dX12_putTurned_21 : decode cX12_putTurned 21 = .ok (.iload_n 1, 1) := by decide +kernel
theorem dX12_putTurned_22 : decode cX12_putTurned 22 = .ok (.iload 4, 2) := by decide +kernel
theorem dX12_putTurned_24 : decode cX12_putTurned 24 = .ok (.iadd, 1) := by decide +kernel
theorem dX12_putTurned_25 : decode cX12_putTurned 25 = .ok (.iload 6, 2) := by decide +kernel
theorem dX12_putTurned_27 : decode cX12_putTurned 27 = .ok (.invokevirtual 292, 3) := by decide +kernel
theorem dX12_putTurned_30 : decode cX12_putTurned 30 = .ok (.iconst 2, 1) := by decide +kernel
theorem dX12_putTurned_31 : decode cX12_putTurned 31 = .ok (.iload 4, 2) := by decide +kernel
theorem dX12_putTurned_33 : decode cX12_putTurned 33 = .ok (.imul, 1) := by decide +kernel
theorem dX12_putTurned_34 : decode cX12_putTurned 34 = .ok (.iload 6, 2) := by decide +kernel
theorem dX12_putTurned_36 : decode cX12_putTurned 36 = .ok (.iadd, 1) := by decide +kernel
theorem dX12_putTurned_37 : decode cX12_putTurned 37 = .ok (.istore 4, 2) := by decide +kernel
theorem dX12_putTurned_39 : decode cX12_putTurned 39 = .ok (.iinc 5 1, 3) := by decide +kernel
theorem dX12_putTurned_42 : decode cX12_putTurned 42 = .ok (.goto (-36), 3) := by decide +kernel
theorem dX12_putTurned_45 : decode cX12_putTurned 45 = .ok (.return_, 1) := by decide +kernel
theorem dX12_putLength_0 : decode cX12_putLength 0 = .ok (.aload_n 0, 1) := by decide +kernel
theorem dX12_putLength_1 : decode cX12_putLength 1 = .ok (.invokevirtual 296, 3) := by decide +kernel
theorem dX12_putLength_4 : decode cX12_putLength 4 = .ok (.istore_n 3, 1) := by decide +kernel
theorem dX12_putLength_5 : decode cX12_putLength 5 = .ok (.iload_n 2, 1) := by decide +kernel
theorem dX12_putLength_6 : decode cX12_putLength 6 = .ok (.bipush 10, 2) := by decide +kernel
theorem dX12_putLength_8 : decode cX12_putLength 8 = .ok (.if_icmp .ge 28, 3) := by decide +kernel
theorem dX12_putLength_11 : decode cX12_putLength 11 = .ok (.aload_n 0, 1) := by decide +kernel
theorem dX12_putLength_12 : decode cX12_putLength 12 = .ok (.iload_n 1, 1) := by decide +kernel
theorem dX12_putLength_13 : decode cX12_putLength 13 = .ok (.iconst 0, 1) := by decide +kernel
theorem dX12_putLength_14 : decode cX12_putLength 14 = .ok (.invokevirtual 292, 3) := by decide +kernel
theorem dX12_putLength_17 : decode cX12_putLength 17 = .ok (.aload_n 0, 1) := by decide +kernel
theorem dX12_putLength_18 : decode cX12_putLength 18 = .ok (.iload_n 1, 1) := by decide +kernel
theorem dX12_putLength_19 : decode cX12_putLength 19 = .ok (.iconst 4, 1) := by decide +kernel
theorem dX12_putLength_20 : decode cX12_putLength 20 = .ok (.iadd, 1) := by decide +kernel
theorem dX12_putLength_21 : decode cX12_putLength 21 = .ok (.bipush 8, 2) := by decide +kernel
theorem dX12_putLength_23 : decode cX12_putLength 23 = .ok (.iload_n 3, 1) := by decide +kernel
theorem dX12_putLength_24 : decode cX12_putLength 24 = .ok (.imul, 1) := by decide +kernel
theorem dX12_putLength_25 : decode cX12_putLength 25 = .ok (.iadd, 1) := by decide +kernel
theorem dX12_putLength_26 : decode cX12_putLength 26 = .ok (.iconst 3, 1) := by decide +kernel
theorem dX12_putLength_27 : decode cX12_putLength 27 = .ok (.iload_n 2, 1) := by decide +kernel
theorem dX12_putLength_28 : decode cX12_putLength 28 = .ok (.iconst 2, 1) := by decide +kernel
theorem dX12_putLength_29 : decode cX12_putLength 29 = .ok (.isub, 1) := by decide +kernel
theorem dX12_putLength_30 : decode cX12_putLength 30 = .ok (.invokevirtual 299, 3) := by decide +kernel
theorem dX12_putLength_33 : decode cX12_putLength 33 = .ok (.goto 74, 3) := by decide +kernel
theorem dX12_putLength_36 : decode cX12_putLength 36 = .ok (.iload_n 2, 1) := by decide +kernel
theorem dX12_putLength_37 : decode cX12_putLength 37 = .ok (.bipush 18, 2) := by decide +kernel
theorem dX12_putLength_39 : decode cX12_putLength 39 = .ok (.if_icmp .ge 39, 3) := by decide +kernel
theorem dX12_putLength_42 : decode cX12_putLength 42 = .ok (.aload_n 0, 1) := by decide +kernel
theorem dX12_putLength_43 : decode cX12_putLength 43 = .ok (.iload_n 1, 1) := by decide +kernel
theorem dX12_putLength_44 : decode cX12_putLength 44 = .ok (.iconst 1, 1) := by decide +kernel
theorem dX12_putLength_45 : decode cX12_putLength 45 = .ok (.invokevirtual 292, 3) := by decide +kernel
theorem dX12_putLength_48 : decode cX12_putLength 48 = .ok (.aload_n 0, 1) := by decide +kernel
theorem dX12_putLength_49 : decode cX12_putLength 49 = .ok (.iload_n 1, 1) := by decide +kernel
theorem dX12_putLength_50 : decode cX12_putLength 50 = .ok (.iconst 1, 1) := by decide +kernel
theorem dX12_putLength_51 : decode cX12_putLength 51 = .ok (.iadd, 1) := by decide +kernel
theorem dX12_putLength_52 : decode cX12_putLength 52 = .ok (.iconst 0, 1) := by decide +kernel
theorem dX12_putLength_53 : decode cX12_putLength 53 = .ok (.invokevirtual 292, 3) := by decide +kernel
theorem dX12_putLength_56 : decode cX12_putLength 56 = .ok (.aload_n 0, 1) := by decide +kernel
theorem dX12_putLength_57 : decode cX12_putLength 57 = .ok (.iload_n 1, 1) := by decide +kernel
theorem dX12_putLength_58 : decode cX12_putLength 58 = .ok (.sipush 132, 3) := by decide +kernel
theorem dX12_putLength_61 : decode cX12_putLength 61 = .ok (.iadd, 1) := by decide +kernel
theorem dX12_putLength_62 : decode cX12_putLength 62 = .ok (.bipush 8, 2) := by decide +kernel
theorem dX12_putLength_64 : decode cX12_putLength 64 = .ok (.iload_n 3, 1) := by decide +kernel
theorem dX12_putLength_65 : decode cX12_putLength 65 = .ok (.imul, 1) := by decide +kernel
theorem dX12_putLength_66 : decode cX12_putLength 66 = .ok (.iadd, 1) := by decide +kernel
theorem dX12_putLength_67 : decode cX12_putLength 67 = .ok (.iconst 3, 1) := by decide +kernel
theorem dX12_putLength_68 : decode cX12_putLength 68 = .ok (.iload_n 2, 1) := by decide +kernel
theorem dX12_putLength_69 : decode cX12_putLength 69 = .ok (.bipush 10, 2) := by decide +kernel
theorem dX12_putLength_71 : decode cX12_putLength 71 = .ok (.isub, 1) := by decide +kernel
theorem dX12_putLength_72 : decode cX12_putLength 72 = .ok (.invokevirtual 299, 3) := by decide +kernel
theorem dX12_putLength_75 : decode cX12_putLength 75 = .ok (.goto 32, 3) := by decide +kernel
theorem dX12_putLength_78 : decode cX12_putLength 78 = .ok (.aload_n 0, 1) := by decide +kernel
theorem dX12_putLength_79 : decode cX12_putLength 79 = .ok (.iload_n 1, 1) := by decide +kernel
theorem dX12_putLength_80 : decode cX12_putLength 80 = .ok (.iconst 1, 1) := by decide +kernel
theorem dX12_putLength_81 : decode cX12_putLength 81 = .ok (.invokevirtual 292, 3) := by decide +kernel
theorem dX12_putLength_84 : decode cX12_putLength 84 = .ok (.aload_n 0, 1) := by decide +kernel
theorem dX12_putLength_85 : decode cX12_putLength 85 = .ok (.iload_n 1, 1) := by decide +kernel
theorem dX12_putLength_86 : decode cX12_putLength 86 = .ok (.iconst 1, 1) := by decide +kernel
theorem dX12_putLength_87 : decode cX12_putLength 87 = .ok (.iadd, 1) := by decide +kernel
theorem dX12_putLength_88 : decode cX12_putLength 88 = .ok (.iconst 1, 1) := by decide +kernel
theorem dX12_putLength_89 : decode cX12_putLength 89 = .ok (.invokevirtual 292, 3) := by decide +kernel
theorem dX12_putLength_92 : decode cX12_putLength 92 = .ok (.aload_n 0, 1) := by decide +kernel
theorem dX12_putLength_93 : decode cX12_putLength 93 = .ok (.iload_n 1, 1) := by decide +kernel
theorem dX12_putLength_94 : decode cX12_putLength 94 = .ok (.sipush 260, 3) := by decide +kernel
theorem dX12_putLength_97 : decode cX12_putLength 97 = .ok (.iadd, 1) := by decide +kernel
theorem dX12_putLength_98 : decode cX12_putLength 98 = .ok (.bipush 8, 2) := by decide +kernel
theorem dX12_putLength_100 : decode cX12_putLength 100 = .ok (.iload_n 2, 1) := by decide +kernel
theorem dX12_putLength_101 : decode cX12_putLength 101 = .ok (.bipush 18, 2) := by decide +kernel
theorem dX12_putLength_103 : decode cX12_putLength 103 = .ok (.isub, 1) := by decide +kernel
theorem dX12_putLength_104 : decode cX12_putLength 104 = .ok (.invokevirtual 299, 3) := by decide +kernel
theorem dX12_putLength_107 : decode cX12_putLength 107 = .ok (.return_, 1) := by decide +kernel
theorem dX12_sameFrom_0 : decode cX12_sameFrom 0 = .ok (.aload_n 0, 1) := by decide +kernel
theorem dX12_sameFrom_1 : decode cX12_sameFrom 1 = .ok (.getfield 303, 3) := by decide +kernel
theorem dX12_sameFrom_4 : decode cX12_sameFrom 4 = .ok (.iload_n 1, 1) := by decide +kernel
theorem dX12_sameFrom_5 : decode cX12_sameFrom 5 = .ok (.isub, 1) := by decide +kernel
theorem dX12_sameFrom_6 : decode cX12_sameFrom 6 = .ok (.sipush 273, 3) := by decide +kernel
theorem dX12_sameFrom_9 : decode cX12_sameFrom 9 = .ok (.if_icmp .ge 12, 3) := by decide +kernel
theorem dX12_sameFrom_12 : decode cX12_sameFrom 12 = .ok (.aload_n 0, 1) := by decide +kernel
theorem dX12_sameFrom_13 : decode cX12_sameFrom 13 = .ok (.getfield 303, 3) := by decide +kernel
theorem dX12_sameFrom_16 : decode cX12_sameFrom 16 = .ok (.iload_n 1, 1) := by decide +kernel
theorem dX12_sameFrom_17 : decode cX12_sameFrom 17 = .ok (.isub, 1) := by decide +kernel
theorem dX12_sameFrom_18 : decode cX12_sameFrom 18 = .ok (.goto 6, 3) := by decide +kernel
theorem dX12_sameFrom_21 : decode cX12_sameFrom 21 = .ok (.sipush 273, 3) := by decide +kernel
theorem dX12_sameFrom_24 : decode cX12_sameFrom 24 = .ok (.istore_n 3, 1) := by decide +kernel
theorem dX12_sameFrom_25 : decode cX12_sameFrom 25 = .ok (.iconst 0, 1) := by decide +kernel
theorem dX12_sameFrom_26 : decode cX12_sameFrom 26 = .ok (.istore 4, 2) := by decide +kernel
theorem dX12_sameFrom_28 : decode cX12_sameFrom 28 = .ok (.iload 4, 2) := by decide +kernel
theorem dX12_sameFrom_30 : decode cX12_sameFrom 30 = .ok (.iload_n 3, 1) := by decide +kernel
theorem dX12_sameFrom_31 : decode cX12_sameFrom 31 = .ok (.if_icmp .ge 32, 3) := by decide +kernel
theorem dX12_sameFrom_34 : decode cX12_sameFrom 34 = .ok (.aload_n 0, 1) := by decide +kernel
theorem dX12_sameFrom_35 : decode cX12_sameFrom 35 = .ok (.getfield 47, 3) := by decide +kernel
theorem dX12_sameFrom_38 : decode cX12_sameFrom 38 = .ok (.iload_n 1, 1) := by decide +kernel
theorem dX12_sameFrom_39 : decode cX12_sameFrom 39 = .ok (.iload 4, 2) := by decide +kernel
theorem dX12_sameFrom_41 : decode cX12_sameFrom 41 = .ok (.iadd, 1) := by decide +kernel
theorem dX12_sameFrom_42 : decode cX12_sameFrom 42 = .ok (.iaload, 1) := by decide +kernel
theorem dX12_sameFrom_43 : decode cX12_sameFrom 43 = .ok (.aload_n 0, 1) := by decide +kernel
theorem dX12_sameFrom_44 : decode cX12_sameFrom 44 = .ok (.getfield 47, 3) := by decide +kernel
theorem dX12_sameFrom_47 : decode cX12_sameFrom 47 = .ok (.iload_n 1, 1) := by decide +kernel
theorem dX12_sameFrom_48 : decode cX12_sameFrom 48 = .ok (.iload 4, 2) := by decide +kernel
theorem dX12_sameFrom_50 : decode cX12_sameFrom 50 = .ok (.iadd, 1) := by decide +kernel
theorem dX12_sameFrom_51 : decode cX12_sameFrom 51 = .ok (.iload_n 2, 1) := by decide +kernel
theorem dX12_sameFrom_52 : decode cX12_sameFrom 52 = .ok (.isub, 1) := by decide +kernel
theorem dX12_sameFrom_53 : decode cX12_sameFrom 53 = .ok (.iaload, 1) := by decide +kernel
theorem dX12_sameFrom_54 : decode cX12_sameFrom 54 = .ok (.if_icmp .ne 9, 3) := by decide +kernel
theorem dX12_sameFrom_57 : decode cX12_sameFrom 57 = .ok (.iinc 4 1, 3) := by decide +kernel
theorem dX12_sameFrom_60 : decode cX12_sameFrom 60 = .ok (.goto (-32), 3) := by decide +kernel
theorem dX12_sameFrom_63 : decode cX12_sameFrom 63 = .ok (.iload 4, 2) := by decide +kernel
theorem dX12_sameFrom_65 : decode cX12_sameFrom 65 = .ok (.ireturn, 1) := by decide +kernel
theorem dX12_findLongest_0 : decode cX12_findLongest 0 = .ok (.aload_n 0, 1) := by decide +kernel
theorem dX12_findLongest_1 : decode cX12_findLongest 1 = .ok (.iconst 0, 1) := by decide +kernel
theorem dX12_findLongest_2 : decode cX12_findLongest 2 = .ok (.putfield 306, 3) := by decide +kernel
theorem dX12_findLongest_5 : decode cX12_findLongest 5 = .ok (.aload_n 0, 1) := by decide +kernel
theorem dX12_findLongest_6 : decode cX12_findLongest 6 = .ok (.iconst 0, 1) := by decide +kernel
theorem dX12_findLongest_7 : decode cX12_findLongest 7 = .ok (.putfield 309, 3) := by decide +kernel
theorem dX12_findLongest_10 : decode cX12_findLongest 10 = .ok (.aload_n 0, 1) := by decide +kernel
theorem dX12_findLongest_11 : decode cX12_findLongest 11 = .ok (.getfield 16, 3) := by decide +kernel
theorem dX12_findLongest_14 : decode cX12_findLongest 14 = .ok (.iload_n 1, 1) := by decide +kernel
theorem dX12_findLongest_15 : decode cX12_findLongest 15 = .ok (.if_icmp .ge 10, 3) := by decide +kernel
theorem dX12_findLongest_18 : decode cX12_findLongest 18 = .ok (.aload_n 0, 1) := by decide +kernel
theorem dX12_findLongest_19 : decode cX12_findLongest 19 = .ok (.getfield 16, 3) := by decide +kernel
theorem dX12_findLongest_22 : decode cX12_findLongest 22 = .ok (.goto 4, 3) := by decide +kernel
theorem dX12_findLongest_25 : decode cX12_findLongest 25 = .ok (.iload_n 1, 1) := by decide +kernel
theorem dX12_findLongest_26 : decode cX12_findLongest 26 = .ok (.istore_n 2, 1) := by decide +kernel
theorem dX12_findLongest_27 : decode cX12_findLongest 27 = .ok (.iconst 1, 1) := by decide +kernel
theorem dX12_findLongest_28 : decode cX12_findLongest 28 = .ok (.istore_n 3, 1) := by decide +kernel
theorem dX12_findLongest_29 : decode cX12_findLongest 29 = .ok (.iload_n 3, 1) := by decide +kernel
theorem dX12_findLongest_30 : decode cX12_findLongest 30 = .ok (.iload_n 2, 1) := by decide +kernel
theorem dX12_findLongest_31 : decode cX12_findLongest 31 = .ok (.if_icmp .gt 37, 3) := by decide +kernel
theorem dX12_findLongest_34 : decode cX12_findLongest 34 = .ok (.aload_n 0, 1) := by decide +kernel
theorem dX12_findLongest_35 : decode cX12_findLongest 35 = .ok (.iload_n 1, 1) := by decide +kernel
theorem dX12_findLongest_36 : decode cX12_findLongest 36 = .ok (.iload_n 3, 1) := by decide +kernel
theorem dX12_findLongest_37 : decode cX12_findLongest 37 = .ok (.invokevirtual 312, 3) := by decide +kernel
theorem dX12_findLongest_40 : decode cX12_findLongest 40 = .ok (.istore 4, 2) := by decide +kernel
theorem dX12_findLongest_42 : decode cX12_findLongest 42 = .ok (.iload 4, 2) := by decide +kernel
theorem dX12_findLongest_44 : decode cX12_findLongest 44 = .ok (.aload_n 0, 1) := by decide +kernel
theorem dX12_findLongest_45 : decode cX12_findLongest 45 = .ok (.getfield 306, 3) := by decide +kernel
theorem dX12_findLongest_48 : decode cX12_findLongest 48 = .ok (.if_icmp .le 14, 3) := by decide +kernel
theorem dX12_findLongest_51 : decode cX12_findLongest 51 = .ok (.aload_n 0, 1) := by decide +kernel
theorem dX12_findLongest_52 : decode cX12_findLongest 52 = .ok (.iload 4, 2) := by decide +kernel
theorem dX12_findLongest_54 : decode cX12_findLongest 54 = .ok (.putfield 306, 3) := by decide +kernel
theorem dX12_findLongest_57 : decode cX12_findLongest 57 = .ok (.aload_n 0, 1) := by decide +kernel
theorem dX12_findLongest_58 : decode cX12_findLongest 58 = .ok (.iload_n 3, 1) := by decide +kernel
theorem dX12_findLongest_59 : decode cX12_findLongest 59 = .ok (.putfield 309, 3) := by decide +kernel
theorem dX12_findLongest_62 : decode cX12_findLongest 62 = .ok (.iinc 3 1, 3) := by decide +kernel
theorem dX12_findLongest_65 : decode cX12_findLongest 65 = .ok (.goto (-36), 3) := by decide +kernel
theorem dX12_findLongest_68 : decode cX12_findLongest 68 = .ok (.return_, 1) := by decide +kernel
theorem dX12_again_0 : decode cX12_again 0 = .ok (.aload_n 0, 1) := by decide +kernel
theorem dX12_again_1 : decode cX12_again 1 = .ok (.iload_n 1, 1) := by decide +kernel
theorem dX12_again_2 : decode cX12_again 2 = .ok (.invokevirtual 246, 3) := by decide +kernel
theorem dX12_again_5 : decode cX12_again 5 = .ok (.iload_n 2, 1) := by decide +kernel
theorem dX12_again_6 : decode cX12_again 6 = .ok (.if_icmp .le 7, 3) := by decide +kernel
theorem dX12_again_9 : decode cX12_again 9 = .ok (.iconst 0, 1) := by decide +kernel
theorem dX12_again_10 : decode cX12_again 10 = .ok (.goto 13, 3) := by decide +kernel
theorem dX12_again_13 : decode cX12_again 13 = .ok (.aload_n 0, 1) := by decide +kernel
theorem dX12_again_14 : decode cX12_again 14 = .ok (.iload_n 2, 1) := by decide +kernel
theorem dX12_again_15 : decode cX12_again 15 = .ok (.aload_n 0, 1) := by decide +kernel
theorem dX12_again_16 : decode cX12_again 16 = .ok (.iload_n 1, 1) := by decide +kernel
theorem dX12_again_17 : decode cX12_again 17 = .ok (.invokevirtual 246, 3) := by decide +kernel
theorem dX12_again_20 : decode cX12_again 20 = .ok (.invokevirtual 312, 3) := by decide +kernel
theorem dX12_again_23 : decode cX12_again 23 = .ok (.ireturn, 1) := by decide +kernel
theorem dX12_choose0_0 : decode cX12_choose0 0 = .ok (.aload_n 0, 1) := by decide +kernel
theorem dX12_choose0_1 : decode cX12_choose0 1 = .ok (.iload_n 1, 1) := by decide +kernel
theorem dX12_choose0_2 : decode cX12_choose0 2 = .ok (.invokevirtual 315, 3) := by decide +kernel
theorem dX12_choose0_5 : decode cX12_choose0 5 = .ok (.iconst 0, 1) := by decide +kernel
theorem dX12_choose0_6 : decode cX12_choose0 6 = .ok (.istore_n 2, 1) := by decide +kernel
theorem dX12_choose0_7 : decode cX12_choose0 7 = .ok (.iconst 1, 1) := by decide +kernel
theorem dX12_choose0_8 : decode cX12_choose0 8 = .ok (.istore_n 3, 1) := by decide +kernel
theorem dX12_choose0_9 : decode cX12_choose0 9 = .ok (.iload_n 3, 1) := by decide +kernel
theorem dX12_choose0_10 : decode cX12_choose0 10 = .ok (.iconst 4, 1) := by decide +kernel
theorem dX12_choose0_11 : decode cX12_choose0 11 = .ok (.if_icmp .ge 30, 3) := by decide +kernel
theorem dX12_choose0_14 : decode cX12_choose0 14 = .ok (.aload_n 0, 1) := by decide +kernel
theorem dX12_choose0_15 : decode cX12_choose0 15 = .ok (.iload_n 3, 1) := by decide +kernel
theorem dX12_choose0_16 : decode cX12_choose0 16 = .ok (.iload_n 1, 1) := by decide +kernel
theorem dX12_choose0_17 : decode cX12_choose0 17 = .ok (.invokevirtual 318, 3) := by decide +kernel
theorem dX12_choose0_20 : decode cX12_choose0 20 = .ok (.aload_n 0, 1) := by decide +kernel
theorem dX12_choose0_21 : decode cX12_choose0 21 = .ok (.iload_n 2, 1) := by decide +kernel
theorem dX12_choose0_22 : decode cX12_choose0 22 = .ok (.iload_n 1, 1) := by decide +kernel
theorem dX12_choose0_23 : decode cX12_choose0 23 = .ok (.invokevirtual 318, 3) := by decide +kernel
theorem dX12_choose0_26 : decode cX12_choose0 26 = .ok (.if_icmp .le 7, 3) := by decide +kernel
theorem dX12_choose0_29 : decode cX12_choose0 29 = .ok (.iload_n 3, 1) := by decide +kernel
theorem dX12_choose0_30 : decode cX12_choose0 30 = .ok (.goto 4, 3) := by decide +kernel
theorem dX12_choose0_33 : decode cX12_choose0 33 = .ok (.iload_n 2, 1) := by decide +kernel
theorem dX12_choose0_34 : decode cX12_choose0 34 = .ok (.istore_n 2, 1) := by decide +kernel
theorem dX12_choose0_35 : decode cX12_choose0 35 = .ok (.iinc 3 1, 3) := by decide +kernel
theorem dX12_choose0_38 : decode cX12_choose0 38 = .ok (.goto (-29), 3) := by decide +kernel
theorem dX12_choose0_41 : decode cX12_choose0 41 = .ok (.aload_n 0, 1) := by decide +kernel
theorem dX12_choose0_42 : decode cX12_choose0 42 = .ok (.iload_n 2, 1) := by decide +kernel
theorem dX12_choose0_43 : decode cX12_choose0 43 = .ok (.iload_n 1, 1) := by decide +kernel
theorem dX12_choose0_44 : decode cX12_choose0 44 = .ok (.invokevirtual 318, 3) := by decide +kernel
theorem dX12_choose0_47 : decode cX12_choose0 47 = .ok (.istore_n 3, 1) := by decide +kernel
theorem dX12_choose0_48 : decode cX12_choose0 48 = .ok (.iload_n 3, 1) := by decide +kernel
theorem dX12_choose0_49 : decode cX12_choose0 49 = .ok (.iconst 2, 1) := by decide +kernel
theorem dX12_choose0_50 : decode cX12_choose0 50 = .ok (.if_icmp .lt 37, 3) := by decide +kernel
theorem dX12_choose0_53 : decode cX12_choose0 53 = .ok (.iload_n 3, 1) := by decide +kernel
theorem dX12_choose0_54 : decode cX12_choose0 54 = .ok (.aload_n 0, 1) := by decide +kernel
theorem dX12_choose0_55 : decode cX12_choose0 55 = .ok (.getfield 306, 3) := by decide +kernel
theorem dX12_choose0_58 : decode cX12_choose0 58 = .ok (.iconst 1, 1) := by decide +kernel
theorem dX12_choose0_59 : decode cX12_choose0 59 = .ok (.isub, 1) := by decide +kernel
theorem dX12_choose0_60 : decode cX12_choose0 60 = .ok (.if_icmp .lt 27, 3) := by decide +kernel
theorem dX12_choose0_63 : decode cX12_choose0 63 = .ok (.aload_n 0, 1) := by decide +kernel
theorem dX12_choose0_64 : decode cX12_choose0 64 = .ok (.iconst 2, 1) := by decide +kernel
theorem dX12_choose0_65 : decode cX12_choose0 65 = .ok (.iload_n 2, 1) := by decide +kernel
theorem dX12_choose0_66 : decode cX12_choose0 66 = .ok (.iadd, 1) := by decide +kernel
theorem dX12_choose0_67 : decode cX12_choose0 67 = .ok (.putfield 321, 3) := by decide +kernel
theorem dX12_choose0_70 : decode cX12_choose0 70 = .ok (.aload_n 0, 1) := by decide +kernel
theorem dX12_choose0_71 : decode cX12_choose0 71 = .ok (.iload_n 3, 1) := by decide +kernel
theorem dX12_choose0_72 : decode cX12_choose0 72 = .ok (.putfield 324, 3) := by decide +kernel
theorem dX12_choose0_75 : decode cX12_choose0 75 = .ok (.aload_n 0, 1) := by decide +kernel
theorem dX12_choose0_76 : decode cX12_choose0 76 = .ok (.aload_n 0, 1) := by decide +kernel
theorem dX12_choose0_77 : decode cX12_choose0 77 = .ok (.iload_n 2, 1) := by decide +kernel
theorem dX12_choose0_78 : decode cX12_choose0 78 = .ok (.invokevirtual 246, 3) := by decide +kernel
theorem dX12_choose0_81 : decode cX12_choose0 81 = .ok (.putfield 327, 3) := by decide +kernel
theorem dX12_choose0_84 : decode cX12_choose0 84 = .ok (.goto 100, 3) := by decide +kernel
theorem dX12_choose0_87 : decode cX12_choose0 87 = .ok (.aload_n 0, 1) := by decide +kernel
theorem dX12_choose0_88 : decode cX12_choose0 88 = .ok (.getfield 306, 3) := by decide +kernel
theorem dX12_choose0_91 : decode cX12_choose0 91 = .ok (.iconst 3, 1) := by decide +kernel
theorem dX12_choose0_92 : decode cX12_choose0 92 = .ok (.if_icmp .ge 21, 3) := by decide +kernel
theorem dX12_choose0_95 : decode cX12_choose0 95 = .ok (.aload_n 0, 1) := by decide +kernel
theorem dX12_choose0_96 : decode cX12_choose0 96 = .ok (.getfield 306, 3) := by decide +kernel
theorem dX12_choose0_99 : decode cX12_choose0 99 = .ok (.iconst 2, 1) := by decide +kernel
theorem dX12_choose0_100 : decode cX12_choose0 100 = .ok (.if_icmp .ne 37, 3) := by decide +kernel
theorem dX12_choose0_103 : decode cX12_choose0 103 = .ok (.aload_n 0, 1) := by decide +kernel
theorem dX12_choose0_104 : decode cX12_choose0 104 = .ok (.getfield 309, 3) := by decide +kernel
theorem dX12_choose0_107 : decode cX12_choose0 107 = .ok (.sipush 128, 3) := by decide +kernel
theorem dX12_choose0_110 : decode cX12_choose0 110 = .ok (.if_icmp .gt 27, 3) := by decide +kernel
theorem dX12_choose0_113 : decode cX12_choose0 113 = .ok (.aload_n 0, 1) := by decide +kernel
theorem dX12_choose0_114 : decode cX12_choose0 114 = .ok (.iconst 1, 1) := by decide +kernel
theorem dX12_choose0_115 : decode cX12_choose0 115 = .ok (.putfield 321, 3) := by decide +kernel
theorem dX12_choose0_118 : decode cX12_choose0 118 = .ok (.aload_n 0, 1) := by decide +kernel
theorem dX12_choose0_119 : decode cX12_choose0 119 = .ok (.aload_n 0, 1) := by decide +kernel
theorem dX12_choose0_120 : decode cX12_choose0 120 = .ok (.getfield 306, 3) := by decide +kernel
theorem dX12_choose0_123 : decode cX12_choose0 123 = .ok (.putfield 324, 3) := by decide +kernel
theorem dX12_choose0_126 : decode cX12_choose0 126 = .ok (.aload_n 0, 1) := by decide +kernel
theorem dX12_choose0_127 : decode cX12_choose0 127 = .ok (.aload_n 0, 1) := by decide +kernel
theorem dX12_choose0_128 : decode cX12_choose0 128 = .ok (.getfield 309, 3) := by decide +kernel
theorem dX12_choose0_131 : decode cX12_choose0 131 = .ok (.putfield 327, 3) := by decide +kernel
theorem dX12_choose0_134 : decode cX12_choose0 134 = .ok (.goto 50, 3) := by decide +kernel
theorem dX12_choose0_137 : decode cX12_choose0 137 = .ok (.aload_n 0, 1) := by decide +kernel
theorem dX12_choose0_138 : decode cX12_choose0 138 = .ok (.iconst 0, 1) := by decide +kernel
theorem dX12_choose0_139 : decode cX12_choose0 139 = .ok (.iload_n 1, 1) := by decide +kernel
theorem dX12_choose0_140 : decode cX12_choose0 140 = .ok (.invokevirtual 318, 3) := by decide +kernel
theorem dX12_choose0_143 : decode cX12_choose0 143 = .ok (.iconst 1, 1) := by decide +kernel
theorem dX12_choose0_144 : decode cX12_choose0 144 = .ok (.if_icmp .ne 25, 3) := by decide +kernel
theorem dX12_choose0_147 : decode cX12_choose0 147 = .ok (.aload_n 0, 1) := by decide +kernel
theorem dX12_choose0_148 : decode cX12_choose0 148 = .ok (.bipush 6, 2) := by decide +kernel
theorem dX12_choose0_150 : decode cX12_choose0 150 = .ok (.putfield 321, 3) := by decide +kernel
theorem dX12_choose0_153 : decode cX12_choose0 153 = .ok (.aload_n 0, 1) := by decide +kernel
theorem dX12_choose0_154 : decode cX12_choose0 154 = .ok (.iconst 1, 1) := by decide +kernel
theorem dX12_choose0_155 : decode cX12_choose0 155 = .ok (.putfield 324, 3) := by decide +kernel
theorem dX12_choose0_158 : decode cX12_choose0 158 = .ok (.aload_n 0, 1) := by decide +kernel
theorem dX12_choose0_159 : decode cX12_choose0 159 = .ok (.aload_n 0, 1) := by decide +kernel
theorem dX12_choose0_160 : decode cX12_choose0 160 = .ok (.getfield 234, 3) := by decide +kernel
theorem dX12_choose0_163 : decode cX12_choose0 163 = .ok (.putfield 327, 3) := by decide +kernel
theorem dX12_choose0_166 : decode cX12_choose0 166 = .ok (.goto 18, 3) := by decide +kernel
theorem dX12_choose0_169 : decode cX12_choose0 169 = .ok (.aload_n 0, 1) := by decide +kernel
theorem dX12_choose0_170 : decode cX12_choose0 170 = .ok (.iconst 0, 1) := by decide +kernel
theorem dX12_choose0_171 : decode cX12_choose0 171 = .ok (.putfield 321, 3) := by decide +kernel
theorem dX12_choose0_174 : decode cX12_choose0 174 = .ok (.aload_n 0, 1) := by decide +kernel
theorem dX12_choose0_175 : decode cX12_choose0 175 = .ok (.iconst 1, 1) := by decide +kernel
theorem dX12_choose0_176 : decode cX12_choose0 176 = .ok (.putfield 324, 3) := by decide +kernel
theorem dX12_choose0_179 : decode cX12_choose0 179 = .ok (.aload_n 0, 1) := by decide +kernel
theorem dX12_choose0_180 : decode cX12_choose0 180 = .ok (.iconst 0, 1) := by decide +kernel
theorem dX12_choose0_181 : decode cX12_choose0 181 = .ok (.putfield 327, 3) := by decide +kernel
theorem dX12_choose0_184 : decode cX12_choose0 184 = .ok (.return_, 1) := by decide +kernel
theorem dX12_choose1_0 : decode cX12_choose1 0 = .ok (.aload_n 0, 1) := by decide +kernel
theorem dX12_choose1_1 : decode cX12_choose1 1 = .ok (.iload_n 1, 1) := by decide +kernel
theorem dX12_choose1_2 : decode cX12_choose1 2 = .ok (.invokevirtual 330, 3) := by decide +kernel
theorem dX12_choose1_5 : decode cX12_choose1 5 = .ok (.aload_n 0, 1) := by decide +kernel
theorem dX12_choose1_6 : decode cX12_choose1 6 = .ok (.getfield 321, 3) := by decide +kernel
theorem dX12_choose1_9 : decode cX12_choose1 9 = .ok (.ifCond .eq 25, 3) := by decide +kernel
theorem dX12_choose1_12 : decode cX12_choose1 12 = .ok (.aload_n 0, 1) := by decide +kernel
theorem dX12_choose1_13 : decode cX12_choose1 13 = .ok (.getfield 321, 3) := by decide +kernel
theorem dX12_choose1_16 : decode cX12_choose1 16 = .ok (.bipush 6, 2) := by decide +kernel
theorem dX12_choose1_18 : decode cX12_choose1 18 = .ok (.if_icmp .eq 16, 3) := by decide +kernel
theorem dX12_choose1_21 : decode cX12_choose1 21 = .ok (.aload_n 0, 1) := by decide +kernel
theorem dX12_choose1_22 : decode cX12_choose1 22 = .ok (.getfield 324, 3) := by decide +kernel
theorem dX12_choose1_25 : decode cX12_choose1 25 = .ok (.bipush 32, 2) := by decide +kernel
theorem dX12_choose1_27 : decode cX12_choose1 27 = .ok (.if_icmp .ge 7, 3) := by decide +kernel
theorem dX12_choose1_30 : decode cX12_choose1 30 = .ok (.iconst 1, 1) := by decide +kernel
theorem dX12_choose1_31 : decode cX12_choose1 31 = .ok (.goto 4, 3) := by decide +kernel
theorem dX12_choose1_34 : decode cX12_choose1 34 = .ok (.iconst 0, 1) := by decide +kernel
theorem dX12_choose1_35 : decode cX12_choose1 35 = .ok (.istore_n 2, 1) := by decide +kernel
theorem dX12_choose1_36 : decode cX12_choose1 36 = .ok (.iload_n 2, 1) := by decide +kernel
theorem dX12_choose1_37 : decode cX12_choose1 37 = .ok (.ifCond .eq 13, 3) := by decide +kernel
theorem dX12_choose1_40 : decode cX12_choose1 40 = .ok (.iload_n 1, 1) := by decide +kernel
theorem dX12_choose1_41 : decode cX12_choose1 41 = .ok (.iconst 1, 1) := by decide +kernel
theorem dX12_choose1_42 : decode cX12_choose1 42 = .ok (.iadd, 1) := by decide +kernel
theorem dX12_choose1_43 : decode cX12_choose1 43 = .ok (.aload_n 0, 1) := by decide +kernel
theorem dX12_choose1_44 : decode cX12_choose1 44 = .ok (.getfield 303, 3) := by decide +kernel
theorem dX12_choose1_47 : decode cX12_choose1 47 = .ok (.if_icmp .lt 4, 3) := by decide +kernel
theorem dX12_choose1_50 : decode cX12_choose1 50 = .ok (.return_, 1) := by decide +kernel
theorem dX12_choose1_51 : decode cX12_choose1 51 = .ok (.aload_n 0, 1) := by decide +kernel
theorem dX12_choose1_52 : decode cX12_choose1 52 = .ok (.getfield 321, 3) := by decide +kernel
theorem dX12_choose1_55 : decode cX12_choose1 55 = .ok (.istore_n 3, 1) := by decide +kernel
theorem dX12_choose1_56 : decode cX12_choose1 56 = .ok (.aload_n 0, 1) := by decide +kernel
theorem dX12_choose1_57 : decode cX12_choose1 57 = .ok (.getfield 324, 3) := by decide +kernel
theorem dX12_choose1_60 : decode cX12_choose1 60 = .ok (.istore 4, 2) := by decide +kernel
theorem dX12_choose1_62 : decode cX12_choose1 62 = .ok (.aload_n 0, 1) := by decide +kernel
theorem dX12_choose1_63 : decode cX12_choose1 63 = .ok (.getfield 327, 3) := by decide +kernel
theorem dX12_choose1_66 : decode cX12_choose1 66 = .ok (.istore 5, 2) := by decide +kernel
theorem dX12_choose1_68 : decode cX12_choose1 68 = .ok (.aload_n 0, 1) := by decide +kernel
theorem dX12_choose1_69 : decode cX12_choose1 69 = .ok (.iload_n 1, 1) := by decide +kernel
theorem dX12_choose1_70 : decode cX12_choose1 70 = .ok (.iconst 1, 1) := by decide +kernel
theorem dX12_choose1_71 : decode cX12_choose1 71 = .ok (.iadd, 1) := by decide +kernel
theorem dX12_choose1_72 : decode cX12_choose1 72 = .ok (.invokevirtual 330, 3) := by decide +kernel
theorem dX12_choose1_75 : decode cX12_choose1 75 = .ok (.aload_n 0, 1) := by decide +kernel
theorem dX12_choose1_76 : decode cX12_choose1 76 = .ok (.getfield 324, 3) := by decide +kernel
theorem dX12_choose1_79 : decode cX12_choose1 79 = .ok (.iload 4, 2) := by decide +kernel
theorem dX12_choose1_81 : decode cX12_choose1 81 = .ok (.iconst 2, 1) := by decide +kernel
theorem dX12_choose1_82 : decode cX12_choose1 82 = .ok (.iadd, 1) := by decide +kernel
theorem dX12_choose1_83 : decode cX12_choose1 83 = .ok (.if_icmp .lt 21, 3) := by decide +kernel
theorem dX12_choose1_86 : decode cX12_choose1 86 = .ok (.aload_n 0, 1) := by decide +kernel
theorem dX12_choose1_87 : decode cX12_choose1 87 = .ok (.iconst 0, 1) := by decide +kernel
theorem dX12_choose1_88 : decode cX12_choose1 88 = .ok (.putfield 321, 3) := by decide +kernel
theorem dX12_choose1_91 : decode cX12_choose1 91 = .ok (.aload_n 0, 1) := by decide +kernel
theorem dX12_choose1_92 : decode cX12_choose1 92 = .ok (.iconst 1, 1) := by decide +kernel
theorem dX12_choose1_93 : decode cX12_choose1 93 = .ok (.putfield 324, 3) := by decide +kernel
theorem dX12_choose1_96 : decode cX12_choose1 96 = .ok (.aload_n 0, 1) := by decide +kernel
theorem dX12_choose1_97 : decode cX12_choose1 97 = .ok (.iconst 0, 1) := by decide +kernel
theorem dX12_choose1_98 : decode cX12_choose1 98 = .ok (.putfield 327, 3) := by decide +kernel
theorem dX12_choose1_101 : decode cX12_choose1 101 = .ok (.goto 20, 3) := by decide +kernel
theorem dX12_choose1_104 : decode cX12_choose1 104 = .ok (.aload_n 0, 1) := by decide +kernel
theorem dX12_choose1_105 : decode cX12_choose1 105 = .ok (.iload_n 3, 1) := by decide +kernel
theorem dX12_choose1_106 : decode cX12_choose1 106 = .ok (.putfield 321, 3) := by decide +kernel
theorem dX12_choose1_109 : decode cX12_choose1 109 = .ok (.aload_n 0, 1) := by decide +kernel
theorem dX12_choose1_110 : decode cX12_choose1 110 = .ok (.iload 4, 2) := by decide +kernel
theorem dX12_choose1_112 : decode cX12_choose1 112 = .ok (.putfield 324, 3) := by decide +kernel
theorem dX12_choose1_115 : decode cX12_choose1 115 = .ok (.aload_n 0, 1) := by decide +kernel
theorem dX12_choose1_116 : decode cX12_choose1 116 = .ok (.iload 5, 2) := by decide +kernel
theorem dX12_choose1_118 : decode cX12_choose1 118 = .ok (.putfield 327, 3) := by decide +kernel
theorem dX12_choose1_121 : decode cX12_choose1 121 = .ok (.return_, 1) := by decide +kernel
theorem dX12_bitsOf_0 : decode cX12_bitsOf 0 = .ok (.iconst 0, 1) := by decide +kernel
theorem dX12_bitsOf_1 : decode cX12_bitsOf 1 = .ok (.istore_n 1, 1) := by decide +kernel
theorem dX12_bitsOf_2 : decode cX12_bitsOf 2 = .ok (.iload_n 0, 1) := by decide +kernel
theorem dX12_bitsOf_3 : decode cX12_bitsOf 3 = .ok (.istore_n 2, 1) := by decide +kernel
theorem dX12_bitsOf_4 : decode cX12_bitsOf 4 = .ok (.iload_n 2, 1) := by decide +kernel
theorem dX12_bitsOf_5 : decode cX12_bitsOf 5 = .ok (.ifCond .le 13, 3) := by decide +kernel
theorem dX12_bitsOf_8 : decode cX12_bitsOf 8 = .ok (.iinc 1 1, 3) := by decide +kernel
theorem dX12_bitsOf_11 : decode cX12_bitsOf 11 = .ok (.iload_n 2, 1) := by decide +kernel
theorem dX12_bitsOf_12 : decode cX12_bitsOf 12 = .ok (.iconst 1, 1) := by decide +kernel
theorem dX12_bitsOf_13 : decode cX12_bitsOf 13 = .ok (.ishr, 1) := by decide +kernel
theorem dX12_bitsOf_14 : decode cX12_bitsOf 14 = .ok (.istore_n 2, 1) := by decide +kernel
theorem dX12_bitsOf_15 : decode cX12_bitsOf 15 = .ok (.goto (-11), 3) := by decide +kernel
theorem dX12_bitsOf_18 : decode cX12_bitsOf 18 = .ok (.iload_n 1, 1) := by decide +kernel
theorem dX12_bitsOf_19 : decode cX12_bitsOf 19 = .ok (.ireturn, 1) := by decide +kernel
theorem dX12_plan_0 : decode cX12_plan 0 = .ok (.aload_n 0, 1) := by decide +kernel
theorem dX12_plan_1 : decode cX12_plan 1 = .ok (.getfield 89, 3) := by decide +kernel
theorem dX12_plan_4 : decode cX12_plan 4 = .ok (.aload_n 0, 1) := by decide +kernel
theorem dX12_plan_5 : decode cX12_plan 5 = .ok (.getfield 303, 3) := by decide +kernel
theorem dX12_plan_8 : decode cX12_plan 8 = .ok (.iconst 0, 1) := by decide +kernel
theorem dX12_plan_9 : decode cX12_plan 9 = .ok (.iastore, 1) := by decide +kernel
theorem dX12_plan_10 : decode cX12_plan 10 = .ok (.aload_n 0, 1) := by decide +kernel
theorem dX12_plan_11 : decode cX12_plan 11 = .ok (.getfield 303, 3) := by decide +kernel
theorem dX12_plan_14 : decode cX12_plan 14 = .ok (.iconst 1, 1) := by decide +kernel
theorem dX12_plan_15 : decode cX12_plan 15 = .ok (.isub, 1) := by decide +kernel
theorem dX12_plan_16 : decode cX12_plan 16 = .ok (.istore_n 2, 1) := by decide +kernel
theorem dX12_plan_17 : decode cX12_plan 17 = .ok (.iload_n 2, 1) := by decide +kernel
theorem dX12_plan_18 : decode cX12_plan 18 = .ok (.iload_n 1, 1) := by decide +kernel
theorem dX12_plan_19 : decode cX12_plan 19 = .ok (.if_icmp .lt 142, 3) := by decide +kernel
theorem dX12_plan_22 : decode cX12_plan 22 = .ok (.aload_n 0, 1) := by decide +kernel
theorem dX12_plan_23 : decode cX12_plan 23 = .ok (.iload_n 2, 1) := by decide +kernel
theorem dX12_plan_24 : decode cX12_plan 24 = .ok (.invokevirtual 315, 3) := by decide +kernel
theorem dX12_plan_27 : decode cX12_plan 27 = .ok (.aload_n 0, 1) := by decide +kernel
theorem dX12_plan_28 : decode cX12_plan 28 = .ok (.getfield 89, 3) := by decide +kernel
theorem dX12_plan_31 : decode cX12_plan 31 = .ok (.iload_n 2, 1) := by decide +kernel
theorem dX12_plan_32 : decode cX12_plan 32 = .ok (.bipush 9, 2) := by decide +kernel
theorem dX12_plan_34 : decode cX12_plan 34 = .ok (.aload_n 0, 1) := by decide +kernel
theorem dX12_plan_35 : decode cX12_plan 35 = .ok (.getfield 89, 3) := by decide +kernel
theorem dX12_plan_38 : decode cX12_plan 38 = .ok (.iload_n 2, 1) := by decide +kernel
theorem dX12_plan_39 : decode cX12_plan 39 = .ok (.iconst 1, 1) := by decide +kernel
theorem dX12_plan_40 : decode cX12_plan 40 = .ok (.iadd, 1) := by decide +kernel
theorem dX12_plan_41 : decode cX12_plan 41 = .ok (.iaload, 1) := by decide +kernel
theorem dX12_plan_42 : decode cX12_plan 42 = .ok (.iadd, 1) := by decide +kernel
theorem dX12_plan_43 : decode cX12_plan 43 = .ok (.iastore, 1) := by decide +kernel
theorem dX12_plan_44 : decode cX12_plan 44 = .ok (.aload_n 0, 1) := by decide +kernel
theorem dX12_plan_45 : decode cX12_plan 45 = .ok (.getfield 92, 3) := by decide +kernel
theorem dX12_plan_48 : decode cX12_plan 48 = .ok (.iload_n 2, 1) := by decide +kernel
theorem dX12_plan_49 : decode cX12_plan 49 = .ok (.iconst 1, 1) := by decide +kernel
theorem dX12_plan_50 : decode cX12_plan 50 = .ok (.iastore, 1) := by decide +kernel
theorem dX12_plan_51 : decode cX12_plan 51 = .ok (.aload_n 0, 1) := by decide +kernel
theorem dX12_plan_52 : decode cX12_plan 52 = .ok (.getfield 95, 3) := by decide +kernel
theorem dX12_plan_55 : decode cX12_plan 55 = .ok (.iload_n 2, 1) := by decide +kernel
theorem dX12_plan_56 : decode cX12_plan 56 = .ok (.iconst 0, 1) := by decide +kernel
theorem dX12_plan_57 : decode cX12_plan 57 = .ok (.iastore, 1) := by decide +kernel
theorem dX12_plan_58 : decode cX12_plan 58 = .ok (.iconst 2, 1) := by decide +kernel
theorem dX12_plan_59 : decode cX12_plan 59 = .ok (.istore_n 3, 1) := by decide +kernel
theorem dX12_plan_60 : decode cX12_plan 60 = .ok (.iload_n 3, 1) := by decide +kernel
theorem dX12_plan_61 : decode cX12_plan 61 = .ok (.aload_n 0, 1) := by decide +kernel
theorem dX12_plan_62 : decode cX12_plan 62 = .ok (.getfield 306, 3) := by decide +kernel
theorem dX12_plan_65 : decode cX12_plan 65 = .ok (.if_icmp .gt 90, 3) := by decide +kernel
theorem dX12_plan_68 : decode cX12_plan 68 = .ok (.bipush 7, 2) := by decide +kernel
theorem dX12_plan_70 : decode cX12_plan 70 = .ok (.iload_n 3, 1) := by decide +kernel
theorem dX12_plan_71 : decode cX12_plan 71 = .ok (.bipush 9, 2) := by decide +kernel
theorem dX12_plan_73 : decode cX12_plan 73 = .ok (.if_icmp .le 7, 3) := by decide +kernel
theorem dX12_plan_76 : decode cX12_plan 76 = .ok (.iconst 3, 1) := by decide +kernel
theorem dX12_plan_77 : decode cX12_plan 77 = .ok (.goto 4, 3) := by decide +kernel
theorem dX12_plan_80 : decode cX12_plan 80 = .ok (.iconst 0, 1) := by decide +kernel
theorem dX12_plan_81 : decode cX12_plan 81 = .ok (.iadd, 1) := by decide +kernel
theorem dX12_plan_82 : decode cX12_plan 82 = .ok (.iload_n 3, 1) := by decide +kernel
theorem dX12_plan_83 : decode cX12_plan 83 = .ok (.bipush 17, 2) := by decide +kernel
theorem dX12_plan_85 : decode cX12_plan 85 = .ok (.if_icmp .le 7, 3) := by decide +kernel
theorem dX12_plan_88 : decode cX12_plan 88 = .ok (.iconst 5, 1) := by decide +kernel
theorem dX12_plan_89 : decode cX12_plan 89 = .ok (.goto 4, 3) := by decide +kernel
theorem dX12_plan_92 : decode cX12_plan 92 = .ok (.iconst 0, 1) := by decide +kernel
theorem dX12_plan_93 : decode cX12_plan 93 = .ok (.iadd, 1) := by decide +kernel
theorem dX12_plan_94 : decode cX12_plan 94 = .ok (.aload_n 0, 1) := by decide +kernel
theorem dX12_plan_95 : decode cX12_plan 95 = .ok (.getfield 309, 3) := by decide +kernel
theorem dX12_plan_98 : decode cX12_plan 98 = .ok (.invokestatic 333, 3) := by decide +kernel
theorem dX12_plan_101 : decode cX12_plan 101 = .ok (.iadd, 1) := by decide +kernel
theorem dX12_plan_102 : decode cX12_plan 102 = .ok (.aload_n 0, 1) := by decide +kernel
theorem dX12_plan_103 : decode cX12_plan 103 = .ok (.getfield 89, 3) := by decide +kernel
theorem dX12_plan_106 : decode cX12_plan 106 = .ok (.iload_n 2, 1) := by decide +kernel
theorem dX12_plan_107 : decode cX12_plan 107 = .ok (.iload_n 3, 1) := by decide +kernel
theorem dX12_plan_108 : decode cX12_plan 108 = .ok (.iadd, 1) := by decide +kernel
theorem dX12_plan_109 : decode cX12_plan 109 = .ok (.iaload, 1) := by decide +kernel
theorem dX12_plan_110 : decode cX12_plan 110 = .ok (.iadd, 1) := by decide +kernel
theorem dX12_plan_111 : decode cX12_plan 111 = .ok (.istore 4, 2) := by decide +kernel
theorem dX12_plan_113 : decode cX12_plan 113 = .ok (.iload 4, 2) := by decide +kernel
theorem dX12_plan_115 : decode cX12_plan 115 = .ok (.aload_n 0, 1) := by decide +kernel
theorem dX12_plan_116 : decode cX12_plan 116 = .ok (.getfield 89, 3) := by decide +kernel
theorem dX12_plan_119 : decode cX12_plan 119 = .ok (.iload_n 2, 1) := by decide +kernel
theorem dX12_plan_120 : decode cX12_plan 120 = .ok (.iaload, 1) := by decide +kernel
theorem dX12_plan_121 : decode cX12_plan 121 = .ok (.if_icmp .gt 28, 3) := by decide +kernel
theorem dX12_plan_124 : decode cX12_plan 124 = .ok (.aload_n 0, 1) := by decide +kernel
theorem dX12_plan_125 : decode cX12_plan 125 = .ok (.getfield 89, 3) := by decide +kernel
theorem dX12_plan_128 : decode cX12_plan 128 = .ok (.iload_n 2, 1) := by decide +kernel
theorem dX12_plan_129 : decode cX12_plan 129 = .ok (.iload 4, 2) := by decide +kernel
theorem dX12_plan_131 : decode cX12_plan 131 = .ok (.iastore, 1) := by decide +kernel
theorem dX12_plan_132 : decode cX12_plan 132 = .ok (.aload_n 0, 1) := by decide +kernel
theorem dX12_plan_133 : decode cX12_plan 133 = .ok (.getfield 92, 3) := by decide +kernel
theorem dX12_plan_136 : decode cX12_plan 136 = .ok (.iload_n 2, 1) := by decide +kernel
theorem dX12_plan_137 : decode cX12_plan 137 = .ok (.iload_n 3, 1) := by decide +kernel
theorem dX12_plan_138 : decode cX12_plan 138 = .ok (.iastore, 1) := by decide +kernel
theorem dX12_plan_139 : decode cX12_plan 139 = .ok (.aload_n 0, 1) := by decide +kernel
theorem dX12_plan_140 : decode cX12_plan 140 = .ok (.getfield 95, 3) := by decide +kernel
theorem dX12_plan_143 : decode cX12_plan 143 = .ok (.iload_n 2, 1) := by decide +kernel
theorem dX12_plan_144 : decode cX12_plan 144 = .ok (.aload_n 0, 1) := by decide +kernel
theorem dX12_plan_145 : decode cX12_plan 145 = .ok (.getfield 309, 3) := by decide +kernel
theorem dX12_plan_148 : decode cX12_plan 148 = .ok (.iastore, 1) := by decide +kernel
theorem dX12_plan_149 : decode cX12_plan 149 = .ok (.iinc 3 1, 3) := by decide +kernel
theorem dX12_plan_152 : decode cX12_plan 152 = .ok (.goto (-92), 3) := by decide +kernel
theorem dX12_plan_155 : decode cX12_plan 155 = .ok (.iinc 2 (-1), 3) := by decide +kernel
theorem dX12_plan_158 : decode cX12_plan 158 = .ok (.goto (-141), 3) := by decide +kernel
theorem dX12_plan_161 : decode cX12_plan 161 = .ok (.return_, 1) := by decide +kernel
theorem dX12_choose2_0 : decode cX12_choose2 0 = .ok (.aload_n 0, 1) := by decide +kernel
theorem dX12_choose2_1 : decode cX12_choose2 1 = .ok (.aload_n 0, 1) := by decide +kernel
theorem dX12_choose2_2 : decode cX12_choose2 2 = .ok (.getfield 92, 3) := by decide +kernel
theorem dX12_choose2_5 : decode cX12_choose2 5 = .ok (.iload_n 1, 1) := by decide +kernel
theorem dX12_choose2_6 : decode cX12_choose2 6 = .ok (.iaload, 1) := by decide +kernel
theorem dX12_choose2_7 : decode cX12_choose2 7 = .ok (.putfield 324, 3) := by decide +kernel
theorem dX12_choose2_10 : decode cX12_choose2 10 = .ok (.aload_n 0, 1) := by decide +kernel
theorem dX12_choose2_11 : decode cX12_choose2 11 = .ok (.aload_n 0, 1) := by decide +kernel
theorem dX12_choose2_12 : decode cX12_choose2 12 = .ok (.getfield 95, 3) := by decide +kernel
theorem dX12_choose2_15 : decode cX12_choose2 15 = .ok (.iload_n 1, 1) := by decide +kernel
theorem dX12_choose2_16 : decode cX12_choose2 16 = .ok (.iaload, 1) := by decide +kernel
theorem dX12_choose2_17 : decode cX12_choose2 17 = .ok (.putfield 327, 3) := by decide +kernel
theorem dX12_choose2_20 : decode cX12_choose2 20 = .ok (.aload_n 0, 1) := by decide +kernel
theorem dX12_choose2_21 : decode cX12_choose2 21 = .ok (.getfield 324, 3) := by decide +kernel
theorem dX12_choose2_24 : decode cX12_choose2 24 = .ok (.iconst 1, 1) := by decide +kernel
theorem dX12_choose2_25 : decode cX12_choose2 25 = .ok (.if_icmp .ne 59, 3) := by decide +kernel
theorem dX12_choose2_28 : decode cX12_choose2 28 = .ok (.aload_n 0, 1) := by decide +kernel
theorem dX12_choose2_29 : decode cX12_choose2 29 = .ok (.iconst 0, 1) := by decide +kernel
theorem dX12_choose2_30 : decode cX12_choose2 30 = .ok (.iload_n 1, 1) := by decide +kernel
theorem dX12_choose2_31 : decode cX12_choose2 31 = .ok (.invokevirtual 318, 3) := by decide +kernel
theorem dX12_choose2_34 : decode cX12_choose2 34 = .ok (.iconst 1, 1) := by decide +kernel
theorem dX12_choose2_35 : decode cX12_choose2 35 = .ok (.if_icmp .lt 16, 3) := by decide +kernel
theorem dX12_choose2_38 : decode cX12_choose2 38 = .ok (.aload_n 0, 1) := by decide +kernel
theorem dX12_choose2_39 : decode cX12_choose2 39 = .ok (.getfield 231, 3) := by decide +kernel
theorem dX12_choose2_42 : decode cX12_choose2 42 = .ok (.bipush 7, 2) := by decide +kernel
theorem dX12_choose2_44 : decode cX12_choose2 44 = .ok (.if_icmp .lt 7, 3) := by decide +kernel
theorem dX12_choose2_47 : decode cX12_choose2 47 = .ok (.iconst 1, 1) := by decide +kernel
theorem dX12_choose2_48 : decode cX12_choose2 48 = .ok (.goto 4, 3) := by decide +kernel
theorem dX12_choose2_51 : decode cX12_choose2 51 = .ok (.iconst 0, 1) := by decide +kernel
theorem dX12_choose2_52 : decode cX12_choose2 52 = .ok (.istore_n 2, 1) := by decide +kernel
theorem dX12_choose2_53 : decode cX12_choose2 53 = .ok (.aload_n 0, 1) := by decide +kernel
theorem dX12_choose2_54 : decode cX12_choose2 54 = .ok (.iload_n 2, 1) := by decide +kernel
theorem dX12_choose2_55 : decode cX12_choose2 55 = .ok (.ifCond .eq 8, 3) := by decide +kernel
theorem dX12_choose2_58 : decode cX12_choose2 58 = .ok (.bipush 6, 2) := by decide +kernel
theorem dX12_choose2_60 : decode cX12_choose2 60 = .ok (.goto 4, 3) := by decide +kernel
theorem dX12_choose2_63 : decode cX12_choose2 63 = .ok (.iconst 0, 1) := by decide +kernel
theorem dX12_choose2_64 : decode cX12_choose2 64 = .ok (.putfield 321, 3) := by decide +kernel
theorem dX12_choose2_67 : decode cX12_choose2 67 = .ok (.aload_n 0, 1) := by decide +kernel
theorem dX12_choose2_68 : decode cX12_choose2 68 = .ok (.iload_n 2, 1) := by decide +kernel
theorem dX12_choose2_69 : decode cX12_choose2 69 = .ok (.ifCond .eq 10, 3) := by decide +kernel
theorem dX12_choose2_72 : decode cX12_choose2 72 = .ok (.aload_n 0, 1) := by decide +kernel
theorem dX12_choose2_73 : decode cX12_choose2 73 = .ok (.getfield 234, 3) := by decide +kernel
theorem dX12_choose2_76 : decode cX12_choose2 76 = .ok (.goto 4, 3) := by decide +kernel
theorem dX12_choose2_79 : decode cX12_choose2 79 = .ok (.iconst 0, 1) := by decide +kernel
theorem dX12_choose2_80 : decode cX12_choose2 80 = .ok (.putfield 327, 3) := by decide +kernel
theorem dX12_choose2_83 : decode cX12_choose2 83 = .ok (.return_, 1) := by decide +kernel
theorem dX12_choose2_84 : decode cX12_choose2 84 = .ok (.aload_n 0, 1) := by decide +kernel
theorem dX12_choose2_85 : decode cX12_choose2 85 = .ok (.iconst 1, 1) := by decide +kernel
theorem dX12_choose2_86 : decode cX12_choose2 86 = .ok (.putfield 321, 3) := by decide +kernel
theorem dX12_choose2_89 : decode cX12_choose2 89 = .ok (.iconst 3, 1) := by decide +kernel
theorem dX12_choose2_90 : decode cX12_choose2 90 = .ok (.istore_n 2, 1) := by decide +kernel
theorem dX12_choose2_91 : decode cX12_choose2 91 = .ok (.iload_n 2, 1) := by decide +kernel
theorem dX12_choose2_92 : decode cX12_choose2 92 = .ok (.ifCond .lt 35, 3) := by decide +kernel
theorem dX12_choose2_95 : decode cX12_choose2 95 = .ok (.aload_n 0, 1) := by decide +kernel
theorem dX12_choose2_96 : decode cX12_choose2 96 = .ok (.aload_n 0, 1) := by decide +kernel
theorem dX12_choose2_97 : decode cX12_choose2 97 = .ok (.iload_n 2, 1) := by decide +kernel
theorem dX12_choose2_98 : decode cX12_choose2 98 = .ok (.invokevirtual 246, 3) := by decide +kernel
theorem dX12_choose2_101 : decode cX12_choose2 101 = .ok (.aload_n 0, 1) := by decide +kernel
theorem dX12_choose2_102 : decode cX12_choose2 102 = .ok (.getfield 327, 3) := by decide +kernel
theorem dX12_choose2_105 : decode cX12_choose2 105 = .ok (.if_icmp .ne 9, 3) := by decide +kernel
theorem dX12_choose2_108 : decode cX12_choose2 108 = .ok (.iconst 2, 1) := by decide +kernel
theorem dX12_choose2_109 : decode cX12_choose2 109 = .ok (.iload_n 2, 1) := by decide +kernel
theorem dX12_choose2_110 : decode cX12_choose2 110 = .ok (.iadd, 1) := by decide +kernel
theorem dX12_choose2_111 : decode cX12_choose2 111 = .ok (.goto 7, 3) := by decide +kernel
theorem dX12_choose2_114 : decode cX12_choose2 114 = .ok (.aload_n 0, 1) := by decide +kernel
theorem dX12_choose2_115 : decode cX12_choose2 115 = .ok (.getfield 321, 3) := by decide +kernel
theorem dX12_choose2_118 : decode cX12_choose2 118 = .ok (.putfield 321, 3) := by decide +kernel
theorem dX12_choose2_121 : decode cX12_choose2 121 = .ok (.iinc 2 (-1), 3) := by decide +kernel
theorem dX12_choose2_124 : decode cX12_choose2 124 = .ok (.goto (-33), 3) := by decide +kernel
theorem dX12_choose2_127 : decode cX12_choose2 127 = .ok (.return_, 1) := by decide +kernel
theorem dX12_putLiteral_0 : decode cX12_putLiteral 0 = .ok (.aload_n 0, 1) := by decide +kernel
theorem dX12_putLiteral_1 : decode cX12_putLiteral 1 = .ok (.iconst 0, 1) := by decide +kernel
theorem dX12_putLiteral_2 : decode cX12_putLiteral 2 = .ok (.bipush 16, 2) := by decide +kernel
theorem dX12_putLiteral_4 : decode cX12_putLiteral 4 = .ok (.aload_n 0, 1) := by decide +kernel
theorem dX12_putLiteral_5 : decode cX12_putLiteral 5 = .ok (.getfield 231, 3) := by decide +kernel
theorem dX12_putLiteral_8 : decode cX12_putLiteral 8 = .ok (.imul, 1) := by decide +kernel
theorem dX12_putLiteral_9 : decode cX12_putLiteral 9 = .ok (.iadd, 1) := by decide +kernel
theorem dX12_putLiteral_10 : decode cX12_putLiteral 10 = .ok (.aload_n 0, 1) := by decide +kernel
theorem dX12_putLiteral_11 : decode cX12_putLiteral 11 = .ok (.invokevirtual 296, 3) := by decide +kernel
theorem dX12_putLiteral_14 : decode cX12_putLiteral 14 = .ok (.iadd, 1) := by decide +kernel
theorem dX12_putLiteral_15 : decode cX12_putLiteral 15 = .ok (.iconst 0, 1) := by decide +kernel
theorem dX12_putLiteral_16 : decode cX12_putLiteral 16 = .ok (.invokevirtual 292, 3) := by decide +kernel
theorem dX12_putLiteral_19 : decode cX12_putLiteral 19 = .ok (.aload_n 0, 1) := by decide +kernel
theorem dX12_putLiteral_20 : decode cX12_putLiteral 20 = .ok (.iload_n 1, 1) := by decide +kernel
theorem dX12_putLiteral_21 : decode cX12_putLiteral 21 = .ok (.ifCond .le 14, 3) := by decide +kernel
theorem dX12_putLiteral_24 : decode cX12_putLiteral 24 = .ok (.aload_n 0, 1) := by decide +kernel
theorem dX12_putLiteral_25 : decode cX12_putLiteral 25 = .ok (.getfield 47, 3) := by decide +kernel
theorem dX12_putLiteral_28 : decode cX12_putLiteral 28 = .ok (.iload_n 1, 1) := by decide +kernel
theorem dX12_putLiteral_29 : decode cX12_putLiteral 29 = .ok (.iconst 1, 1) := by decide +kernel
theorem dX12_putLiteral_30 : decode cX12_putLiteral 30 = .ok (.isub, 1) := by decide +kernel
theorem dX12_putLiteral_31 : decode cX12_putLiteral 31 = .ok (.iaload, 1) := by decide +kernel
theorem dX12_putLiteral_32 : decode cX12_putLiteral 32 = .ok (.goto 4, 3) := by decide +kernel
theorem dX12_putLiteral_35 : decode cX12_putLiteral 35 = .ok (.iconst 0, 1) := by decide +kernel
theorem dX12_putLiteral_36 : decode cX12_putLiteral 36 = .ok (.invokevirtual 336, 3) := by decide +kernel
theorem dX12_putLiteral_39 : decode cX12_putLiteral 39 = .ok (.istore_n 2, 1) := by decide +kernel
theorem dX12_putLiteral_40 : decode cX12_putLiteral 40 = .ok (.aload_n 0, 1) := by decide +kernel
theorem dX12_putLiteral_41 : decode cX12_putLiteral 41 = .ok (.getfield 47, 3) := by decide +kernel
theorem dX12_putLiteral_44 : decode cX12_putLiteral 44 = .ok (.iload_n 1, 1) := by decide +kernel
theorem dX12_putLiteral_45 : decode cX12_putLiteral 45 = .ok (.iaload, 1) := by decide +kernel
theorem dX12_putLiteral_46 : decode cX12_putLiteral 46 = .ok (.istore_n 3, 1) := by decide +kernel
theorem dX12_putLiteral_47 : decode cX12_putLiteral 47 = .ok (.iconst 1, 1) := by decide +kernel
theorem dX12_putLiteral_48 : decode cX12_putLiteral 48 = .ok (.istore 4, 2) := by decide +kernel
theorem dX12_putLiteral_50 : decode cX12_putLiteral 50 = .ok (.aload_n 0, 1) := by decide +kernel
theorem dX12_putLiteral_51 : decode cX12_putLiteral 51 = .ok (.getfield 231, 3) := by decide +kernel
theorem dX12_putLiteral_54 : decode cX12_putLiteral 54 = .ok (.bipush 7, 2) := by decide +kernel
theorem dX12_putLiteral_56 : decode cX12_putLiteral 56 = .ok (.if_icmp .lt 7, 3) := by decide +kernel
theorem dX12_putLiteral_59 : decode cX12_putLiteral 59 = .ok (.iconst 1, 1) := by decide +kernel
theorem dX12_putLiteral_60 : decode cX12_putLiteral 60 = .ok (.goto 4, 3) := by decide +kernel
theorem dX12_putLiteral_63 : decode cX12_putLiteral 63 = .ok (.iconst 0, 1) := by decide +kernel
theorem dX12_putLiteral_64 : decode cX12_putLiteral 64 = .ok (.istore 5, 2) := by decide +kernel
theorem dX12_putLiteral_66 : decode cX12_putLiteral 66 = .ok (.iload 5, 2) := by decide +kernel
theorem dX12_putLiteral_68 : decode cX12_putLiteral 68 = .ok (.ifCond .eq 17, 3) := by decide +kernel
theorem dX12_putLiteral_71 : decode cX12_putLiteral 71 = .ok (.aload_n 0, 1) := by decide +kernel
theorem dX12_putLiteral_72 : decode cX12_putLiteral 72 = .ok (.getfield 47, 3) := by decide +kernel
theorem dX12_putLiteral_75 : decode cX12_putLiteral 75 = .ok (.iload_n 1, 1) := by decide +kernel
theorem dX12_putLiteral_76 : decode cX12_putLiteral 76 = .ok (.aload_n 0, 1) := by decide +kernel
theorem dX12_putLiteral_77 : decode cX12_putLiteral 77 = .ok (.getfield 234, 3) := by decide +kernel
theorem dX12_putLiteral_80 : decode cX12_putLiteral 80 = .ok (.isub, 1) := by decide +kernel
theorem dX12_putLiteral_81 : decode cX12_putLiteral 81 = .ok (.iaload, 1) := by decide +kernel
theorem dX12_putLiteral_82 : decode cX12_putLiteral 82 = .ok (.goto 4, 3) := by decide +kernel
theorem dX12_putLiteral_85 : decode cX12_putLiteral 85 = .ok (.iconst 0, 1) := by decide +kernel
theorem dX12_putLiteral_86 : decode cX12_putLiteral 86 = .ok (.istore 6, 2) := by decide +kernel
theorem dX12_putLiteral_88 : decode cX12_putLiteral 88 = .ok (.bipush 7, 2) := by decide +kernel
theorem dX12_putLiteral_90 : decode cX12_putLiteral 90 = .ok (.istore 7, 2) := by decide +kernel
theorem dX12_putLiteral_92 : decode cX12_putLiteral 92 = .ok (.iload 7, 2) := by decide +kernel
theorem dX12_putLiteral_94 : decode cX12_putLiteral 94 = .ok (.ifCond .lt 87, 3) := by decide +kernel
theorem dX12_putLiteral_97 : decode cX12_putLiteral 97 = .ok (.iload_n 3, 1) := by decide +kernel
theorem dX12_putLiteral_98 : decode cX12_putLiteral 98 = .ok (.iload 7, 2) := by decide +kernel
theorem dX12_putLiteral_100 : decode cX12_putLiteral 100 = .ok (.ishr, 1) := by decide +kernel
theorem dX12_putLiteral_101 : decode cX12_putLiteral 101 = .ok (.iconst 1, 1) := by decide +kernel
theorem dX12_putLiteral_102 : decode cX12_putLiteral 102 = .ok (.iand, 1) := by decide +kernel
theorem dX12_putLiteral_103 : decode cX12_putLiteral 103 = .ok (.istore 8, 2) := by decide +kernel
theorem dX12_putLiteral_105 : decode cX12_putLiteral 105 = .ok (.iload 6, 2) := by decide +kernel
theorem dX12_putLiteral_107 : decode cX12_putLiteral 107 = .ok (.iload 7, 2) := by decide +kernel
theorem dX12_putLiteral_109 : decode cX12_putLiteral 109 = .ok (.ishr, 1) := by decide +kernel
theorem dX12_putLiteral_110 : decode cX12_putLiteral 110 = .ok (.iconst 1, 1) := by decide +kernel
theorem dX12_putLiteral_111 : decode cX12_putLiteral 111 = .ok (.iand, 1) := by decide +kernel
theorem dX12_putLiteral_112 : decode cX12_putLiteral 112 = .ok (.istore 9, 2) := by decide +kernel
theorem dX12_putLiteral_114 : decode cX12_putLiteral 114 = .ok (.aload_n 0, 1) := by decide +kernel
theorem dX12_putLiteral_115 : decode cX12_putLiteral 115 = .ok (.iload 5, 2) := by decide +kernel
theorem dX12_putLiteral_117 : decode cX12_putLiteral 117 = .ok (.ifCond .eq 21, 3) := by decide +kernel
theorem dX12_putLiteral_120 : decode cX12_putLiteral 120 = .ok (.iload_n 2, 1) := by decide +kernel
theorem dX12_putLiteral_121 : decode cX12_putLiteral 121 = .ok (.sipush 256, 3) := by decide +kernel
theorem dX12_putLiteral_124 : decode cX12_putLiteral 124 = .ok (.iadd, 1) := by decide +kernel
theorem dX12_putLiteral_125 : decode cX12_putLiteral 125 = .ok (.sipush 256, 3) := by decide +kernel
theorem dX12_putLiteral_128 : decode cX12_putLiteral 128 = .ok (.iload 9, 2) := by decide +kernel
theorem dX12_putLiteral_130 : decode cX12_putLiteral 130 = .ok (.imul, 1) := by decide +kernel
theorem dX12_putLiteral_131 : decode cX12_putLiteral 131 = .ok (.iadd, 1) := by decide +kernel
theorem dX12_putLiteral_132 : decode cX12_putLiteral 132 = .ok (.iload 4, 2) := by decide +kernel
theorem dX12_putLiteral_134 : decode cX12_putLiteral 134 = .ok (.iadd, 1) := by decide +kernel
theorem dX12_putLiteral_135 : decode cX12_putLiteral 135 = .ok (.goto 7, 3) := by decide +kernel
theorem dX12_putLiteral_138 : decode cX12_putLiteral 138 = .ok (.iload_n 2, 1) := by decide +kernel
theorem dX12_putLiteral_139 : decode cX12_putLiteral 139 = .ok (.iload 4, 2) := by decide +kernel
theorem dX12_putLiteral_141 : decode cX12_putLiteral 141 = .ok (.iadd, 1) := by decide +kernel
theorem dX12_putLiteral_142 : decode cX12_putLiteral 142 = .ok (.iload 8, 2) := by decide +kernel
theorem dX12_putLiteral_144 : decode cX12_putLiteral 144 = .ok (.invokevirtual 292, 3) := by decide +kernel
theorem dX12_putLiteral_147 : decode cX12_putLiteral 147 = .ok (.iload 5, 2) := by decide +kernel
theorem dX12_putLiteral_149 : decode cX12_putLiteral 149 = .ok (.ifCond .eq 14, 3) := by decide +kernel
theorem dX12_putLiteral_152 : decode cX12_putLiteral 152 = .ok (.iload 8, 2) := by decide +kernel
theorem dX12_putLiteral_154 : decode cX12_putLiteral 154 = .ok (.iload 9, 2) := by decide +kernel
theorem dX12_putLiteral_156 : decode cX12_putLiteral 156 = .ok (.if_icmp .ne 7, 3) := by decide +kernel
theorem dX12_putLiteral_159 : decode cX12_putLiteral 159 = .ok (.iconst 1, 1) := by decide +kernel
theorem dX12_putLiteral_160 : decode cX12_putLiteral 160 = .ok (.goto 4, 3) := by decide +kernel
theorem dX12_putLiteral_163 : decode cX12_putLiteral 163 = .ok (.iconst 0, 1) := by decide +kernel
theorem dX12_putLiteral_164 : decode cX12_putLiteral 164 = .ok (.istore 5, 2) := by decide +kernel
theorem dX12_putLiteral_166 : decode cX12_putLiteral 166 = .ok (.iconst 2, 1) := by decide +kernel
