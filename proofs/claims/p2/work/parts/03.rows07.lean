theorem dX12_pack_221 : decode cX12_pack 221 = .ok (.aload_n 0, 1) := by decide +kernel
theorem dX12_pack_222 : decode cX12_pack 222 = .ok (.getfield 98, 3) := by decide +kernel
theorem dX12_pack_225 : decode cX12_pack 225 = .ok (.iload_n 2, 1) := by decide +kernel
theorem dX12_pack_226 : decode cX12_pack 226 = .ok (.iaload, 1) := by decide +kernel
theorem dX12_pack_227 : decode cX12_pack 227 = .ok (.iastore, 1) := by decide +kernel
theorem dX12_pack_228 : decode cX12_pack 228 = .ok (.iinc 2 1, 3) := by decide +kernel
theorem dX12_pack_231 : decode cX12_pack 231 = .ok (.goto (-23), 3) := by decide +kernel
theorem dX12_pack_234 : decode cX12_pack 234 = .ok (.aload_n 0, 1) := by decide +kernel
theorem dX12_pack_235 : decode cX12_pack 235 = .ok (.getfield 129, 3) := by decide +kernel
theorem dX12_pack_238 : decode cX12_pack 238 = .ok (.ireturn, 1) := by decide +kernel
theorem dX12_fail_0 : decode cX12_fail 0 = .ok (.aload_n 0, 1) := by decide +kernel
theorem dX12_fail_1 : decode cX12_fail 1 = .ok (.getfield 470, 3) := by decide +kernel
theorem dX12_fail_4 : decode cX12_fail 4 = .ok (.ifCond .ne 8, 3) := by decide +kernel
theorem dX12_fail_7 : decode cX12_fail 7 = .ok (.aload_n 0, 1) := by decide +kernel
theorem dX12_fail_8 : decode cX12_fail 8 = .ok (.iload_n 1, 1) := by decide +kernel
theorem dX12_fail_9 : decode cX12_fail 9 = .ok (.putfield 470, 3) := by decide +kernel
theorem dX12_fail_12 : decode cX12_fail 12 = .ok (.return_, 1) := by decide +kernel
theorem dX12_next_0 : decode cX12_next 0 = .ok (.aload_n 0, 1) := by decide +kernel
theorem dX12_next_1 : decode cX12_next 1 = .ok (.getfield 470, 3) := by decide +kernel
theorem dX12_next_4 : decode cX12_next 4 = .ok (.ifCond .le 5, 3) := by decide +kernel
theorem dX12_next_7 : decode cX12_next 7 = .ok (.iconst 0, 1) := by decide +kernel
theorem dX12_next_8 : decode cX12_next 8 = .ok (.ireturn, 1) := by decide +kernel
theorem dX12_next_9 : decode cX12_next 9 = .ok (.aload_n 0, 1) := by decide +kernel
theorem dX12_next_10 : decode cX12_next 10 = .ok (.getfield 473, 3) := by decide +kernel
theorem dX12_next_13 : decode cX12_next 13 = .ok (.aload_n 0, 1) := by decide +kernel
theorem dX12_next_14 : decode cX12_next 14 = .ok (.getfield 476, 3) := by decide +kernel
theorem dX12_next_17 : decode cX12_next 17 = .ok (.if_icmp .ge 14, 3) := by decide +kernel
theorem dX12_next_20 : decode cX12_next 20 = .ok (.aload_n 0, 1) := by decide +kernel
theorem dX12_next_21 : decode cX12_next 21 = .ok (.getfield 473, 3) := by decide +kernel
theorem dX12_next_24 : decode cX12_next 24 = .ok (.aload_n 0, 1) := by decide +kernel
theorem dX12_next_25 : decode cX12_next 25 = .ok (.getfield 126, 3) := by decide +kernel
theorem dX12_next_28 : decode cX12_next 28 = .ok (.if_icmp .lt 10, 3) := by decide +kernel
theorem dX12_next_31 : decode cX12_next 31 = .ok (.aload_n 0, 1) := by decide +kernel
theorem dX12_next_32 : decode cX12_next 32 = .ok (.iconst 1, 1) := by decide +kernel
theorem dX12_next_33 : decode cX12_next 33 = .ok (.invokevirtual 479, 3) := by decide +kernel
theorem dX12_next_36 : decode cX12_next 36 = .ok (.iconst 0, 1) := by decide +kernel
theorem dX12_next_37 : decode cX12_next 37 = .ok (.ireturn, 1) := by decide +kernel
theorem dX12_next_38 : decode cX12_next 38 = .ok (.aload_n 0, 1) := by decide +kernel
theorem dX12_next_39 : decode cX12_next 39 = .ok (.dup, 1) := by decide +kernel
theorem dX12_next_40 : decode cX12_next 40 = .ok (.getfield 473, 3) := by decide +kernel
theorem dX12_next_43 : decode cX12_next 43 = .ok (.iconst 1, 1) := by decide +kernel
theorem dX12_next_44 : decode cX12_next 44 = .ok (.iadd, 1) := by decide +kernel
theorem dX12_next_45 : decode cX12_next 45 = .ok (.putfield 473, 3) := by decide +kernel
theorem dX12_next_48 : decode cX12_next 48 = .ok (.aload_n 0, 1) := by decide +kernel
theorem dX12_next_49 : decode cX12_next 49 = .ok (.getfield 28, 3) := by decide +kernel
theorem dX12_next_52 : decode cX12_next 52 = .ok (.aload_n 0, 1) := by decide +kernel
theorem dX12_next_53 : decode cX12_next 53 = .ok (.getfield 473, 3) := by decide +kernel
theorem dX12_next_56 : decode cX12_next 56 = .ok (.iconst 1, 1) := by decide +kernel
theorem dX12_next_57 : decode cX12_next 57 = .ok (.isub, 1) := by decide +kernel
theorem dX12_next_58 : decode cX12_next 58 = .ok (.iaload, 1) := by decide +kernel
theorem dX12_next_59 : decode cX12_next 59 = .ok (.ireturn, 1) := by decide +kernel
theorem dX12_nextWide_0 : decode cX12_nextWide 0 = .ok (.lconst 0, 1) := by decide +kernel
theorem dX12_nextWide_1 : decode cX12_nextWide 1 = .ok (.lstore_n 2, 1) := by decide +kernel
theorem dX12_nextWide_2 : decode cX12_nextWide 2 = .ok (.iconst 0, 1) := by decide +kernel
theorem dX12_nextWide_3 : decode cX12_nextWide 3 = .ok (.istore 4, 2) := by decide +kernel
theorem dX12_nextWide_5 : decode cX12_nextWide 5 = .ok (.iload 4, 2) := by decide +kernel
theorem dX12_nextWide_7 : decode cX12_nextWide 7 = .ok (.iload_n 1, 1) := by decide +kernel
theorem dX12_nextWide_8 : decode cX12_nextWide 8 = .ok (.if_icmp .ge 23, 3) := by decide +kernel
theorem dX12_nextWide_11 : decode cX12_nextWide 11 = .ok (.lload_n 2, 1) := by decide +kernel
theorem dX12_nextWide_12 : decode cX12_nextWide 12 = .ok (.aload_n 0, 1) := by decide +kernel
theorem dX12_nextWide_13 : decode cX12_nextWide 13 = .ok (.invokevirtual 482, 3) := by decide +kernel
theorem dX12_nextWide_16 : decode cX12_nextWide 16 = .ok (.i2l, 1) := by decide +kernel
theorem dX12_nextWide_17 : decode cX12_nextWide 17 = .ok (.bipush 8, 2) := by decide +kernel
theorem dX12_nextWide_19 : decode cX12_nextWide 19 = .ok (.iload 4, 2) := by decide +kernel
theorem dX12_nextWide_21 : decode cX12_nextWide 21 = .ok (.imul, 1) := by decide +kernel
theorem dX12_nextWide_22 : decode cX12_nextWide 22 = .ok (.lshl, 1) := by decide +kernel
theorem dX12_nextWide_23 : decode cX12_nextWide 23 = .ok (.lor, 1) := by decide +kernel
theorem dX12_nextWide_24 : decode cX12_nextWide 24 = .ok (.lstore_n 2, 1) := by decide +kernel
theorem dX12_nextWide_25 : decode cX12_nextWide 25 = .ok (.iinc 4 1, 3) := by decide +kernel
theorem dX12_nextWide_28 : decode cX12_nextWide 28 = .ok (.goto (-23), 3) := by decide +kernel
theorem dX12_nextWide_31 : decode cX12_nextWide 31 = .ok (.lload_n 2, 1) := by decide +kernel
theorem dX12_nextWide_32 : decode cX12_nextWide 32 = .ok (.lreturn, 1) := by decide +kernel
theorem dX12_beginOpening_0 : decode cX12_beginOpening 0 = .ok (.aload_n 0, 1) := by decide +kernel
theorem dX12_beginOpening_1 : decode cX12_beginOpening 1 = .ok (.invokevirtual 482, 3) := by decide +kernel
theorem dX12_beginOpening_4 : decode cX12_beginOpening 4 = .ok (.istore_n 1, 1) := by decide +kernel
theorem dX12_beginOpening_5 : decode cX12_beginOpening 5 = .ok (.aload_n 0, 1) := by decide +kernel
theorem dX12_beginOpening_6 : decode cX12_beginOpening 6 = .ok (.getfield 470, 3) := by decide +kernel
theorem dX12_beginOpening_9 : decode cX12_beginOpening 9 = .ok (.ifCond .ne 12, 3) := by decide +kernel
theorem dX12_beginOpening_12 : decode cX12_beginOpening 12 = .ok (.iload_n 1, 1) := by decide +kernel
theorem dX12_beginOpening_13 : decode cX12_beginOpening 13 = .ok (.ifCond .eq 8, 3) := by decide +kernel
theorem dX12_beginOpening_16 : decode cX12_beginOpening 16 = .ok (.aload_n 0, 1) := by decide +kernel
theorem dX12_beginOpening_17 : decode cX12_beginOpening 17 = .ok (.iconst 2, 1) := by decide +kernel
theorem dX12_beginOpening_18 : decode cX12_beginOpening 18 = .ok (.invokevirtual 479, 3) := by decide +kernel
theorem dX12_beginOpening_21 : decode cX12_beginOpening 21 = .ok (.aload_n 0, 1) := by decide +kernel
theorem dX12_beginOpening_22 : decode cX12_beginOpening 22 = .ok (.lconst 0, 1) := by decide +kernel
theorem dX12_beginOpening_23 : decode cX12_beginOpening 23 = .ok (.putfield 485, 3) := by decide +kernel
theorem dX12_beginOpening_26 : decode cX12_beginOpening 26 = .ok (.iconst 0, 1) := by decide +kernel
theorem dX12_beginOpening_27 : decode cX12_beginOpening 27 = .ok (.istore_n 2, 1) := by decide +kernel
theorem dX12_beginOpening_28 : decode cX12_beginOpening 28 = .ok (.iload_n 2, 1) := by decide +kernel
theorem dX12_beginOpening_29 : decode cX12_beginOpening 29 = .ok (.iconst 4, 1) := by decide +kernel
theorem dX12_beginOpening_30 : decode cX12_beginOpening 30 = .ok (.if_icmp .ge 26, 3) := by decide +kernel
theorem dX12_beginOpening_33 : decode cX12_beginOpening 33 = .ok (.aload_n 0, 1) := by decide +kernel
theorem dX12_beginOpening_34 : decode cX12_beginOpening 34 = .ok (.aload_n 0, 1) := by decide +kernel
theorem dX12_beginOpening_35 : decode cX12_beginOpening 35 = .ok (.getfield 485, 3) := by decide +kernel
theorem dX12_beginOpening_38 : decode cX12_beginOpening 38 = .ok (.bipush 8, 2) := by decide +kernel
theorem dX12_beginOpening_40 : decode cX12_beginOpening 40 = .ok (.lshl, 1) := by decide +kernel
theorem dX12_beginOpening_41 : decode cX12_beginOpening 41 = .ok (.aload_n 0, 1) := by decide +kernel
theorem dX12_beginOpening_42 : decode cX12_beginOpening 42 = .ok (.invokevirtual 482, 3) := by decide +kernel
theorem dX12_beginOpening_45 : decode cX12_beginOpening 45 = .ok (.i2l, 1) := by decide +kernel
theorem dX12_beginOpening_46 : decode cX12_beginOpening 46 = .ok (.lor, 1) := by decide +kernel
theorem dX12_beginOpening_47 : decode cX12_beginOpening 47 = .ok (.putfield 485, 3) := by decide +kernel
theorem dX12_beginOpening_50 : decode cX12_beginOpening 50 = .ok (.iinc 2 1, 3) := by decide +kernel
theorem dX12_beginOpening_53 : decode cX12_beginOpening 53 = .ok (.goto (-25), 3) := by decide +kernel
theorem dX12_beginOpening_56 : decode cX12_beginOpening 56 = .ok (.aload_n 0, 1) := by decide +kernel
theorem dX12_beginOpening_57 : decode cX12_beginOpening 57 = .ok (.ldc2_w 267, 3) := by decide +kernel
theorem dX12_beginOpening_60 : decode cX12_beginOpening 60 = .ok (.putfield 269, 3) := by decide +kernel
theorem dX12_beginOpening_63 : decode cX12_beginOpening 63 = .ok (.return_, 1) := by decide +kernel
theorem dX12_readOn_0 : decode cX12_readOn 0 = .ok (.aload_n 0, 1) := by decide +kernel
theorem dX12_readOn_1 : decode cX12_readOn 1 = .ok (.getfield 269, 3) := by decide +kernel
theorem dX12_readOn_4 : decode cX12_readOn 4 = .ok (.ldc2_w 284, 3) := by decide +kernel
theorem dX12_readOn_7 : decode cX12_readOn 7 = .ok (.lcmp, 1) := by decide +kernel
theorem dX12_readOn_8 : decode cX12_readOn 8 = .ok (.ifCond .ge 41, 3) := by decide +kernel
theorem dX12_readOn_11 : decode cX12_readOn 11 = .ok (.aload_n 0, 1) := by decide +kernel
theorem dX12_readOn_12 : decode cX12_readOn 12 = .ok (.getfield 470, 3) := by decide +kernel
theorem dX12_readOn_15 : decode cX12_readOn 15 = .ok (.ifCond .ne 34, 3) := by decide +kernel
theorem dX12_readOn_18 : decode cX12_readOn 18 = .ok (.aload_n 0, 1) := by decide +kernel
theorem dX12_readOn_19 : decode cX12_readOn 19 = .ok (.aload_n 0, 1) := by decide +kernel
theorem dX12_readOn_20 : decode cX12_readOn 20 = .ok (.getfield 269, 3) := by decide +kernel
theorem dX12_readOn_23 : decode cX12_readOn 23 = .ok (.bipush 8, 2) := by decide +kernel
theorem dX12_readOn_25 : decode cX12_readOn 25 = .ok (.lshl, 1) := by decide +kernel
theorem dX12_readOn_26 : decode cX12_readOn 26 = .ok (.putfield 269, 3) := by decide +kernel
theorem dX12_readOn_29 : decode cX12_readOn 29 = .ok (.aload_n 0, 1) := by decide +kernel
theorem dX12_readOn_30 : decode cX12_readOn 30 = .ok (.aload_n 0, 1) := by decide +kernel
theorem dX12_readOn_31 : decode cX12_readOn 31 = .ok (.getfield 485, 3) := by decide +kernel
theorem dX12_readOn_34 : decode cX12_readOn 34 = .ok (.bipush 8, 2) := by decide +kernel
theorem dX12_readOn_36 : decode cX12_readOn 36 = .ok (.lshl, 1) := by decide +kernel
theorem dX12_readOn_37 : decode cX12_readOn 37 = .ok (.aload_n 0, 1) := by decide +kernel
theorem dX12_readOn_38 : decode cX12_readOn 38 = .ok (.invokevirtual 482, 3) := by decide +kernel
theorem dX12_readOn_41 : decode cX12_readOn 41 = .ok (.i2l, 1) := by decide +kernel
theorem dX12_readOn_42 : decode cX12_readOn 42 = .ok (.lor, 1) := by decide +kernel
theorem dX12_readOn_43 : decode cX12_readOn 43 = .ok (.putfield 485, 3) := by decide +kernel
theorem dX12_readOn_46 : decode cX12_readOn 46 = .ok (.goto (-46), 3) := by decide +kernel
theorem dX12_readOn_49 : decode cX12_readOn 49 = .ok (.return_, 1) := by decide +kernel
theorem dX12_getBit_0 : decode cX12_getBit 0 = .ok (.aload_n 0, 1) := by decide +kernel
theorem dX12_getBit_1 : decode cX12_getBit 1 = .ok (.getfield 470, 3) := by decide +kernel
theorem dX12_getBit_4 : decode cX12_getBit 4 = .ok (.ifCond .le 5, 3) := by decide +kernel
theorem dX12_getBit_7 : decode cX12_getBit 7 = .ok (.iconst 0, 1) := by decide +kernel
theorem dX12_getBit_8 : decode cX12_getBit 8 = .ok (.ireturn, 1) := by decide +kernel
theorem dX12_getBit_9 : decode cX12_getBit 9 = .ok (.aload_n 0, 1) := by decide +kernel
theorem dX12_getBit_10 : decode cX12_getBit 10 = .ok (.getfield 269, 3) := by decide +kernel
theorem dX12_getBit_13 : decode cX12_getBit 13 = .ok (.bipush 11, 2) := by decide +kernel
theorem dX12_getBit_15 : decode cX12_getBit 15 = .ok (.lshr, 1) := by decide +kernel
theorem dX12_getBit_16 : decode cX12_getBit 16 = .ok (.aload_n 0, 1) := by decide +kernel
theorem dX12_getBit_17 : decode cX12_getBit 17 = .ok (.getfield 80, 3) := by decide +kernel
theorem dX12_getBit_20 : decode cX12_getBit 20 = .ok (.iload_n 1, 1) := by decide +kernel
theorem dX12_getBit_21 : decode cX12_getBit 21 = .ok (.iaload, 1) := by decide +kernel
theorem dX12_getBit_22 : decode cX12_getBit 22 = .ok (.i2l, 1) := by decide +kernel
theorem dX12_getBit_23 : decode cX12_getBit 23 = .ok (.lmul, 1) := by decide +kernel
theorem dX12_getBit_24 : decode cX12_getBit 24 = .ok (.lstore_n 2, 1) := by decide +kernel
theorem dX12_getBit_25 : decode cX12_getBit 25 = .ok (.aload_n 0, 1) := by decide +kernel
theorem dX12_getBit_26 : decode cX12_getBit 26 = .ok (.getfield 485, 3) := by decide +kernel
theorem dX12_getBit_29 : decode cX12_getBit 29 = .ok (.lload_n 2, 1) := by decide +kernel
theorem dX12_getBit_30 : decode cX12_getBit 30 = .ok (.lcmp, 1) := by decide +kernel
theorem dX12_getBit_31 : decode cX12_getBit 31 = .ok (.ifCond .ge 7, 3) := by decide +kernel
theorem dX12_getBit_34 : decode cX12_getBit 34 = .ok (.iconst 0, 1) := by decide +kernel
theorem dX12_getBit_35 : decode cX12_getBit 35 = .ok (.goto 4, 3) := by decide +kernel
theorem dX12_getBit_38 : decode cX12_getBit 38 = .ok (.iconst 1, 1) := by decide +kernel
theorem dX12_getBit_39 : decode cX12_getBit 39 = .ok (.istore 4, 2) := by decide +kernel
theorem dX12_getBit_41 : decode cX12_getBit 41 = .ok (.iload 4, 2) := by decide +kernel
theorem dX12_getBit_43 : decode cX12_getBit 43 = .ok (.ifCond .ne 32, 3) := by decide +kernel
theorem dX12_getBit_46 : decode cX12_getBit 46 = .ok (.aload_n 0, 1) := by decide +kernel
theorem dX12_getBit_47 : decode cX12_getBit 47 = .ok (.lload_n 2, 1) := by decide +kernel
theorem dX12_getBit_48 : decode cX12_getBit 48 = .ok (.putfield 269, 3) := by decide +kernel
theorem dX12_getBit_51 : decode cX12_getBit 51 = .ok (.aload_n 0, 1) := by decide +kernel
theorem dX12_getBit_52 : decode cX12_getBit 52 = .ok (.getfield 80, 3) := by decide +kernel
theorem dX12_getBit_55 : decode cX12_getBit 55 = .ok (.iload_n 1, 1) := by decide +kernel
theorem dX12_getBit_56 : decode cX12_getBit 56 = .ok (.dup2, 1) := by decide +kernel
theorem dX12_getBit_57 : decode cX12_getBit 57 = .ok (.iaload, 1) := by decide +kernel
theorem dX12_getBit_58 : decode cX12_getBit 58 = .ok (.sipush 2048, 3) := by decide +kernel
theorem dX12_getBit_61 : decode cX12_getBit 61 = .ok (.aload_n 0, 1) := by decide +kernel
theorem dX12_getBit_62 : decode cX12_getBit 62 = .ok (.getfield 80, 3) := by decide +kernel
theorem dX12_getBit_65 : decode cX12_getBit 65 = .ok (.iload_n 1, 1) := by decide +kernel
theorem dX12_getBit_66 : decode cX12_getBit 66 = .ok (.iaload, 1) := by decide +kernel
theorem dX12_getBit_67 : decode cX12_getBit 67 = .ok (.isub, 1) := by decide +kernel
theorem dX12_getBit_68 : decode cX12_getBit 68 = .ok (.iconst 5, 1) := by decide +kernel
theorem dX12_getBit_69 : decode cX12_getBit 69 = .ok (.ishr, 1) := by decide +kernel
theorem dX12_getBit_70 : decode cX12_getBit 70 = .ok (.iadd, 1) := by decide +kernel
theorem dX12_getBit_71 : decode cX12_getBit 71 = .ok (.iastore, 1) := by decide +kernel
theorem dX12_getBit_72 : decode cX12_getBit 72 = .ok (.goto 40, 3) := by decide +kernel
theorem dX12_getBit_75 : decode cX12_getBit 75 = .ok (.aload_n 0, 1) := by decide +kernel
theorem dX12_getBit_76 : decode cX12_getBit 76 = .ok (.dup, 1) := by decide +kernel
theorem dX12_getBit_77 : decode cX12_getBit 77 = .ok (.getfield 485, 3) := by decide +kernel
theorem dX12_getBit_80 : decode cX12_getBit 80 = .ok (.lload_n 2, 1) := by decide +kernel
theorem dX12_getBit_81 : decode cX12_getBit 81 = .ok (.lsub, 1) := by decide +kernel
theorem dX12_getBit_82 : decode cX12_getBit 82 = .ok (.putfield 485, 3) := by decide +kernel
theorem dX12_getBit_85 : decode cX12_getBit 85 = .ok (.aload_n 0, 1) := by decide +kernel
theorem dX12_getBit_86 : decode cX12_getBit 86 = .ok (.dup, 1) := by decide +kernel
theorem dX12_getBit_87 : decode cX12_getBit 87 = .ok (.getfield 269, 3) := by decide +kernel
theorem dX12_getBit_90 : decode cX12_getBit 90 = .ok (.lload_n 2, 1) := by decide +kernel
theorem dX12_getBit_91 : decode cX12_getBit 91 = .ok (.lsub, 1) := by decide +kernel
theorem dX12_getBit_92 : decode cX12_getBit 92 = .ok (.putfield 269, 3) := by decide +kernel
theorem dX12_getBit_95 : decode cX12_getBit 95 = .ok (.aload_n 0, 1) := by decide +kernel
theorem dX12_getBit_96 : decode cX12_getBit 96 = .ok (.getfield 80, 3) := by decide +kernel
theorem dX12_getBit_99 : decode cX12_getBit 99 = .ok (.iload_n 1, 1) := by decide +kernel
theorem dX12_getBit_100 : decode cX12_getBit 100 = .ok (.dup2, 1) := by decide +kernel
theorem dX12_getBit_101 : decode cX12_getBit 101 = .ok (.iaload, 1) := by decide +kernel
theorem dX12_getBit_102 : decode cX12_getBit 102 = .ok (.aload_n 0, 1) := by decide +kernel
theorem dX12_getBit_103 : decode cX12_getBit 103 = .ok (.getfield 80, 3) := by decide +kernel
theorem dX12_getBit_106 : decode cX12_getBit 106 = .ok (.iload_n 1, 1) := by decide +kernel
theorem dX12_getBit_107 : decode cX12_getBit 107 = .ok (.iaload, 1) := by decide +kernel
theorem dX12_getBit_108 : decode cX12_getBit 108 = .ok (.iconst 5, 1) := by decide +kernel
theorem dX12_getBit_109 : decode cX12_getBit 109 = .ok (.ishr, 1) := by decide +kernel
theorem dX12_getBit_110 : decode cX12_getBit 110 = .ok (.isub, 1) := by decide +kernel
theorem dX12_getBit_111 : decode cX12_getBit 111 = .ok (.iastore, 1) := by decide +kernel
theorem dX12_getBit_112 : decode cX12_getBit 112 = .ok (.aload_n 0, 1) := by decide +kernel
theorem dX12_getBit_113 : decode cX12_getBit 113 = .ok (.invokevirtual 488, 3) := by decide +kernel
theorem dX12_getBit_116 : decode cX12_getBit 116 = .ok (.iload 4, 2) := by decide +kernel
theorem dX12_getBit_118 : decode cX12_getBit 118 = .ok (.ireturn, 1) := by decide +kernel
theorem dX12_getPlain_0 : decode cX12_getPlain 0 = .ok (.aload_n 0, 1) := by decide +kernel
theorem dX12_getPlain_1 : decode cX12_getPlain 1 = .ok (.getfield 470, 3) := by decide +kernel
theorem dX12_getPlain_4 : decode cX12_getPlain 4 = .ok (.ifCond .le 5, 3) := by decide +kernel
theorem dX12_getPlain_7 : decode cX12_getPlain 7 = .ok (.iconst 0, 1) := by decide +kernel
theorem dX12_getPlain_8 : decode cX12_getPlain 8 = .ok (.ireturn, 1) := by decide +kernel
theorem dX12_getPlain_9 : decode cX12_getPlain 9 = .ok (.aload_n 0, 1) := by decide +kernel
theorem dX12_getPlain_10 : decode cX12_getPlain 10 = .ok (.aload_n 0, 1) := by decide +kernel
theorem dX12_getPlain_11 : decode cX12_getPlain 11 = .ok (.getfield 269, 3) := by decide +kernel
theorem dX12_getPlain_14 : decode cX12_getPlain 14 = .ok (.iconst 1, 1) := by decide +kernel
theorem dX12_getPlain_15 : decode cX12_getPlain 15 = .ok (.lshr, 1) := by decide +kernel
theorem dX12_getPlain_16 : decode cX12_getPlain 16 = .ok (.putfield 269, 3) := by decide +kernel
theorem dX12_getPlain_19 : decode cX12_getPlain 19 = .ok (.aload_n 0, 1) := by decide +kernel
theorem dX12_getPlain_20 : decode cX12_getPlain 20 = .ok (.getfield 485, 3) := by decide +kernel
theorem dX12_getPlain_23 : decode cX12_getPlain 23 = .ok (.aload_n 0, 1) := by decide +kernel
theorem dX12_getPlain_24 : decode cX12_getPlain 24 = .ok (.getfield 269, 3) := by decide +kernel
theorem dX12_getPlain_27 : decode cX12_getPlain 27 = .ok (.lcmp, 1) := by decide +kernel
theorem dX12_getPlain_28 : decode cX12_getPlain 28 = .ok (.ifCond .lt 7, 3) := by decide +kernel
theorem dX12_getPlain_31 : decode cX12_getPlain 31 = .ok (.iconst 1, 1) := by decide +kernel
theorem dX12_getPlain_32 : decode cX12_getPlain 32 = .ok (.goto 4, 3) := by decide +kernel
theorem dX12_getPlain_35 : decode cX12_getPlain 35 = .ok (.iconst 0, 1) := by decide +kernel
theorem dX12_getPlain_36 : decode cX12_getPlain 36 = .ok (.istore_n 1, 1) := by decide +kernel
theorem dX12_getPlain_37 : decode cX12_getPlain 37 = .ok (.aload_n 0, 1) := by decide +kernel
theorem dX12_getPlain_38 : decode cX12_getPlain 38 = .ok (.dup, 1) := by decide +kernel
theorem dX12_getPlain_39 : decode cX12_getPlain 39 = .ok (.getfield 485, 3) := by decide +kernel
theorem dX12_getPlain_42 : decode cX12_getPlain 42 = .ok (.iload_n 1, 1) := by decide +kernel
theorem dX12_getPlain_43 : decode cX12_getPlain 43 = .ok (.iconst 1, 1) := by decide +kernel
theorem dX12_getPlain_44 : decode cX12_getPlain 44 = .ok (.if_icmp .ne 10, 3) := by decide +kernel
theorem dX12_getPlain_47 : decode cX12_getPlain 47 = .ok (.aload_n 0, 1) := by decide +kernel
theorem dX12_getPlain_48 : decode cX12_getPlain 48 = .ok (.getfield 269, 3) := by decide +kernel
theorem dX12_getPlain_51 : decode cX12_getPlain 51 = .ok (.goto 4, 3) := by decide +kernel
theorem dX12_getPlain_54 : decode cX12_getPlain 54 = .ok (.lconst 0, 1) := by decide +kernel
theorem dX12_getPlain_55 : decode cX12_getPlain 55 = .ok (.lsub, 1) := by decide +kernel
theorem dX12_getPlain_56 : decode cX12_getPlain 56 = .ok (.putfield 485, 3) := by decide +kernel
theorem dX12_getPlain_59 : decode cX12_getPlain 59 = .ok (.aload_n 0, 1) := by decide +kernel
theorem dX12_getPlain_60 : decode cX12_getPlain 60 = .ok (.invokevirtual 488, 3) := by decide +kernel
theorem dX12_getPlain_63 : decode cX12_getPlain 63 = .ok (.iload_n 1, 1) := by decide +kernel
theorem dX12_getPlain_64 : decode cX12_getPlain 64 = .ok (.ireturn, 1) := by decide +kernel
theorem dX12_getTree_0 : decode cX12_getTree 0 = .ok (.iconst 1, 1) := by decide +kernel
theorem dX12_getTree_1 : decode cX12_getTree 1 = .ok (.istore_n 3, 1) := by decide +kernel
theorem dX12_getTree_2 : decode cX12_getTree 2 = .ok (.iconst 0, 1) := by decide +kernel
theorem dX12_getTree_3 : decode cX12_getTree 3 = .ok (.istore 4, 2) := by decide +kernel
theorem dX12_getTree_5 : decode cX12_getTree 5 = .ok (.iload 4, 2) := by decide +kernel
theorem dX12_getTree_7 : decode cX12_getTree 7 = .ok (.iload_n 2, 1) := by decide +kernel
theorem dX12_getTree_8 : decode cX12_getTree 8 = .ok (.if_icmp .ge 21, 3) := by decide +kernel
theorem dX12_getTree_11 : decode cX12_getTree 11 = .ok (.iconst 2, 1) := by decide +kernel
theorem dX12_getTree_12 : decode cX12_getTree 12 = .ok (.iload_n 3, 1) := by decide +kernel
theorem dX12_getTree_13 : decode cX12_getTree 13 = .ok (.imul, 1) := by decide +kernel
theorem dX12_getTree_14 : decode cX12_getTree 14 = .ok (.aload_n 0, 1) := by decide +kernel
theorem dX12_getTree_15 : decode cX12_getTree 15 = .ok (.iload_n 1, 1) := by decide +kernel
theorem dX12_getTree_16 : decode cX12_getTree 16 = .ok (.iload_n 3, 1) := by decide +kernel
theorem dX12_getTree_17 : decode cX12_getTree 17 = .ok (.iadd, 1) := by decide +kernel
theorem dX12_getTree_18 : decode cX12_getTree 18 = .ok (.invokevirtual 491, 3) := by decide +kernel
theorem dX12_getTree_21 : decode cX12_getTree 21 = .ok (.iadd, 1) := by decide +kernel
theorem dX12_getTree_22 : decode cX12_getTree 22 = .ok (.istore_n 3, 1) := by decide +kernel
theorem dX12_getTree_23 : decode cX12_getTree 23 = .ok (.iinc 4 1, 3) := by decide +kernel
theorem dX12_getTree_26 : decode cX12_getTree 26 = .ok (.goto (-21), 3) := by decide +kernel
theorem dX12_getTree_29 : decode cX12_getTree 29 = .ok (.iload_n 3, 1) := by decide +kernel
theorem dX12_getTree_30 : decode cX12_getTree 30 = .ok (.iconst 1, 1) := by decide +kernel
theorem dX12_getTree_31 : decode cX12_getTree 31 = .ok (.iload_n 2, 1) := by decide +kernel
theorem dX12_getTree_32 : decode cX12_getTree 32 = .ok (.ishl, 1) := by decide +kernel
theorem dX12_getTree_33 : decode cX12_getTree 33 = .ok (.isub, 1) := by decide +kernel
theorem dX12_getTree_34 : decode cX12_getTree 34 = .ok (.ireturn, 1) := by decide +kernel
theorem dX12_getTurned_0 : decode cX12_getTurned 0 = .ok (.iconst 1, 1) := by decide +kernel
theorem dX12_getTurned_1 : decode cX12_getTurned 1 = .ok (.istore_n 3, 1) := by decide +kernel
theorem dX12_getTurned_2 : decode cX12_getTurned 2 = .ok (.iconst 0, 1) := by decide +kernel
theorem dX12_getTurned_3 : decode cX12_getTurned 3 = .ok (.istore 4, 2) := by decide +kernel
theorem dX12_getTurned_5 : decode cX12_getTurned 5 = .ok (.iconst 0, 1) := by decide +kernel
theorem dX12_getTurned_6 : decode cX12_getTurned 6 = .ok (.istore 5, 2) := by decide +kernel
theorem dX12_getTurned_8 : decode cX12_getTurned 8 = .ok (.iload 5, 2) := by decide +kernel
theorem dX12_getTurned_10 : decode cX12_getTurned 10 = .ok (.iload_n 2, 1) := by decide +kernel
theorem dX12_getTurned_11 : decode cX12_getTurned 11 = .ok (.if_icmp .ge 35, 3) := by decide +kernel
theorem dX12_getTurned_14 : decode cX12_getTurned 14 = .ok (.aload_n 0, 1) := by decide +kernel
theorem dX12_getTurned_15 : decode cX12_getTurned 15 = .ok (.iload_n 1, 1) := by decide +kernel
theorem dX12_getTurned_16 : decode cX12_getTurned 16 = .ok (.iload_n 3, 1) := by decide +kernel
theorem dX12_getTurned_17 : decode cX12_getTurned 17 = .ok (.iadd, 1) := by decide +kernel
theorem dX12_getTurned_18 : decode cX12_getTurned 18 = .ok (.invokevirtual 491, 3) := by decide +kernel
theorem dX12_getTurned_21 : decode cX12_getTurned 21 = .ok (.istore 6, 2) := by decide +kernel
theorem dX12_getTurned_23 : decode cX12_getTurned 23 = .ok (.iconst 2, 1) := by decide +kernel
theorem dX12_getTurned_24 : decode cX12_getTurned 24 = .ok (.iload_n 3, 1) := by decide +kernel
theorem dX12_getTurned_25 : decode cX12_getTurned 25 = .ok (.imul, 1) := by decide +kernel
theorem dX12_getTurned_26 : decode cX12_getTurned 26 = .ok (.iload 6, 2) := by decide +kernel
theorem dX12_getTurned_28 : decode cX12_getTurned 28 = .ok (.iadd, 1) := by decide +kernel
theorem dX12_getTurned_29 : decode cX12_getTurned 29 = .ok (.istore_n 3, 1) := by decide +kernel
theorem dX12_getTurned_30 : decode cX12_getTurned 30 = .ok (.iload 4, 2) := by decide +kernel
theorem dX12_getTurned_32 : decode cX12_getTurned 32 = .ok (.iload 6, 2) := by decide +kernel
theorem dX12_getTurned_34 : decode cX12_getTurned 34 = .ok (.iload 5, 2) := by decide +kernel
theorem dX12_getTurned_36 : decode cX12_getTurned 36 = .ok (.ishl, 1) := by decide +kernel
theorem dX12_getTurned_37 : decode cX12_getTurned 37 = .ok (.ior, 1) := by decide +kernel
theorem dX12_getTurned_38 : decode cX12_getTurned 38 = .ok (.istore 4, 2) := by decide +kernel
theorem dX12_getTurned_40 : decode cX12_getTurned 40 = .ok (.iinc 5 1, 3) := by decide +kernel
theorem dX12_getTurned_43 : decode cX12_getTurned 43 = .ok (.goto (-35), 3) := by decide +kernel
theorem dX12_getTurned_46 : decode cX12_getTurned 46 = .ok (.iload 4, 2) := by decide +kernel
theorem dX12_getTurned_48 : decode cX12_getTurned 48 = .ok (.ireturn, 1) := by decide +kernel
theorem dX12_getLength_0 : decode cX12_getLength 0 = .ok (.aload_n 0, 1) := by decide +kernel
theorem dX12_getLength_1 : decode cX12_getLength 1 = .ok (.invokevirtual 296, 3) := by decide +kernel
theorem dX12_getLength_4 : decode cX12_getLength 4 = .ok (.istore_n 2, 1) := by decide +kernel
theorem dX12_getLength_5 : decode cX12_getLength 5 = .ok (.aload_n 0, 1) := by decide +kernel
theorem dX12_getLength_6 : decode cX12_getLength 6 = .ok (.iload_n 1, 1) := by decide +kernel
theorem dX12_getLength_7 : decode cX12_getLength 7 = .ok (.invokevirtual 491, 3) := by decide +kernel
theorem dX12_getLength_10 : decode cX12_getLength 10 = .ok (.ifCond .ne 19, 3) := by decide +kernel
theorem dX12_getLength_13 : decode cX12_getLength 13 = .ok (.iconst 2, 1) := by decide +kernel
theorem dX12_getLength_14 : decode cX12_getLength 14 = .ok (.aload_n 0, 1) := by decide +kernel
theorem dX12_getLength_15 : decode cX12_getLength 15 = .ok (.iload_n 1, 1) := by decide +kernel
theorem dX12_getLength_16 : decode cX12_getLength 16 = .ok (.iconst 4, 1) := by decide +kernel
theorem dX12_getLength_17 : decode cX12_getLength 17 = .ok (.iadd, 1) := by decide +kernel
theorem dX12_getLength_18 : decode cX12_getLength 18 = .ok (.bipush 8, 2) := by decide +kernel
theorem dX12_getLength_20 : decode cX12_getLength 20 = .ok (.iload_n 2, 1) := by decide +kernel
theorem dX12_getLength_21 : decode cX12_getLength 21 = .ok (.imul, 1) := by decide +kernel
theorem dX12_getLength_22 : decode cX12_getLength 22 = .ok (.iadd, 1) := by decide +kernel
theorem dX12_getLength_23 : decode cX12_getLength 23 = .ok (.iconst 3, 1) := by decide +kernel
theorem dX12_getLength_24 : decode cX12_getLength 24 = .ok (.invokevirtual 494, 3) := by decide +kernel
theorem dX12_getLength_27 : decode cX12_getLength 27 = .ok (.iadd, 1) := by decide +kernel
theorem dX12_getLength_28 : decode cX12_getLength 28 = .ok (.ireturn, 1) := by decide +kernel
theorem dX12_getLength_29 : decode cX12_getLength 29 = .ok (.aload_n 0, 1) := by decide +kernel
theorem dX12_getLength_30 : decode cX12_getLength 30 = .ok (.iload_n 1, 1) := by decide +kernel
theorem dX12_getLength_31 : decode cX12_getLength 31 = .ok (.iconst 1, 1) := by decide +kernel
theorem dX12_getLength_32 : decode cX12_getLength 32 = .ok (.iadd, 1) := by decide +kernel
theorem dX12_getLength_33 : decode cX12_getLength 33 = .ok (.invokevirtual 491, 3) := by decide +kernel
theorem dX12_getLength_36 : decode cX12_getLength 36 = .ok (.ifCond .ne 22, 3) := by decide +kernel
theorem dX12_getLength_39 : decode cX12_getLength 39 = .ok (.bipush 10, 2) := by decide +kernel
theorem dX12_getLength_41 : decode cX12_getLength 41 = .ok (.aload_n 0, 1) := by decide +kernel
theorem dX12_getLength_42 : decode cX12_getLength 42 = .ok (.iload_n 1, 1) := by decide +kernel
theorem dX12_getLength_43 : decode cX12_getLength 43 = .ok (.sipush 132, 3) := by decide +kernel
theorem dX12_getLength_46 : decode cX12_getLength 46 = .ok (.iadd, 1) := by decide +kernel
theorem dX12_getLength_47 : decode cX12_getLength 47 = .ok (.bipush 8, 2) := by decide +kernel
theorem dX12_getLength_49 : decode cX12_getLength 49 = .ok (.iload_n 2, 1) := by decide +kernel
theorem dX12_getLength_50 : decode cX12_getLength 50 = .ok (.imul, 1) := by decide +kernel
theorem dX12_getLength_51 : decode cX12_getLength 51 = .ok (.iadd, 1) := by decide +kernel
theorem dX12_getLength_52 : decode cX12_getLength 52 = .ok (.iconst 3, 1) := by decide +kernel
theorem dX12_getLength_53 : decode cX12_getLength 53 = .ok (.invokevirtual 494, 3) := by decide +kernel
theorem dX12_getLength_56 : decode cX12_getLength 56 = .ok (.iadd, 1) := by decide +kernel
theorem dX12_getLength_57 : decode cX12_getLength 57 = .ok (.ireturn, 1) := by decide +kernel
theorem dX12_getLength_58 : decode cX12_getLength 58 = .ok (.bipush 18, 2) := by decide +kernel
theorem dX12_getLength_60 : decode cX12_getLength 60 = .ok (.aload_n 0, 1) := by decide +kernel
theorem dX12_getLength_61 : decode cX12_getLength 61 = .ok (.iload_n 1, 1) := by decide +kernel
theorem dX12_getLength_62 : decode cX12_getLength 62 = .ok (.sipush 260, 3) := by decide +kernel
theorem dX12_getLength_65 : decode cX12_getLength 65 = .ok (.iadd, 1) := by decide +kernel
theorem dX12_getLength_66 : decode cX12_getLength 66 = .ok (.bipush 8, 2) := by decide +kernel
theorem dX12_getLength_68 : decode cX12_getLength 68 = .ok (.invokevirtual 494, 3) := by decide +kernel
theorem dX12_getLength_71 : decode cX12_getLength 71 = .ok (.iadd, 1) := by decide +kernel
theorem dX12_getLength_72 : decode cX12_getLength 72 = .ok (.ireturn, 1) := by decide +kernel
theorem dX12_getFar_0 : decode cX12_getFar 0 = .ok (.iload_n 1, 1) := by decide +kernel
theorem dX12_getFar_1 : decode cX12_getFar 1 = .ok (.iconst 2, 1) := by decide +kernel
theorem dX12_getFar_2 : decode cX12_getFar 2 = .ok (.isub, 1) := by decide +kernel
theorem dX12_getFar_3 : decode cX12_getFar 3 = .ok (.iconst 3, 1) := by decide +kernel
theorem dX12_getFar_4 : decode cX12_getFar 4 = .ok (.if_icmp .ge 9, 3) := by decide +kernel
theorem dX12_getFar_7 : decode cX12_getFar 7 = .ok (.iload_n 1, 1) := by decide +kernel
theorem dX12_getFar_8 : decode cX12_getFar 8 = .ok (.iconst 2, 1) := by decide +kernel
theorem dX12_getFar_9 : decode cX12_getFar 9 = .ok (.isub, 1) := by decide +kernel
theorem dX12_getFar_10 : decode cX12_getFar 10 = .ok (.goto 4, 3) := by decide +kernel
theorem dX12_getFar_13 : decode cX12_getFar 13 = .ok (.iconst 3, 1) := by decide +kernel
theorem dX12_getFar_14 : decode cX12_getFar 14 = .ok (.istore_n 2, 1) := by decide +kernel
theorem dX12_getFar_15 : decode cX12_getFar 15 = .ok (.aload_n 0, 1) := by decide +kernel
theorem dX12_getFar_16 : decode cX12_getFar 16 = .ok (.sipush 432, 3) := by decide +kernel
theorem dX12_getFar_19 : decode cX12_getFar 19 = .ok (.bipush 64, 2) := by decide +kernel
theorem dX12_getFar_21 : decode cX12_getFar 21 = .ok (.iload_n 2, 1) := by decide +kernel
theorem dX12_getFar_22 : decode cX12_getFar 22 = .ok (.imul, 1) := by decide +kernel
theorem dX12_getFar_23 : decode cX12_getFar 23 = .ok (.iadd, 1) := by decide +kernel
theorem dX12_getFar_24 : decode cX12_getFar 24 = .ok (.bipush 6, 2) := by decide +kernel
theorem dX12_getFar_26 : decode cX12_getFar 26 = .ok (.invokevirtual 494, 3) := by decide +kernel
theorem dX12_getFar_29 : decode cX12_getFar 29 = .ok (.istore_n 3, 1) := by decide +kernel
theorem dX12_getFar_30 : decode cX12_getFar 30 = .ok (.iload_n 3, 1) := by decide +kernel
theorem dX12_getFar_31 : decode cX12_getFar 31 = .ok (.iconst 4, 1) := by decide +kernel
theorem dX12_getFar_32 : decode cX12_getFar 32 = .ok (.if_icmp .ge 8, 3) := by decide +kernel
theorem dX12_getFar_35 : decode cX12_getFar 35 = .ok (.iload_n 3, 1) := by decide +kernel
theorem dX12_getFar_36 : decode cX12_getFar 36 = .ok (.i2l, 1) := by decide +kernel
theorem dX12_getFar_37 : decode cX12_getFar 37 = .ok (.lconst 1, 1) := by decide +kernel
theorem dX12_getFar_38 : decode cX12_getFar 38 = .ok (.ladd, 1) := by decide +kernel
theorem dX12_getFar_39 : decode cX12_getFar 39 = .ok (.lreturn, 1) := by decide +kernel
theorem dX12_getFar_40 : decode cX12_getFar 40 = .ok (.iload_n 3, 1) := by decide +kernel
theorem dX12_getFar_41 : decode cX12_getFar 41 = .ok (.iconst 2, 1) := by decide +kernel
theorem dX12_getFar_42 : decode cX12_getFar 42 = .ok (.idiv, 1) := by decide +kernel
theorem dX12_getFar_43 : decode cX12_getFar 43 = .ok (.iconst 1, 1) := by decide +kernel
theorem dX12_getFar_44 : decode cX12_getFar 44 = .ok (.isub, 1) := by decide +kernel
theorem dX12_getFar_45 : decode cX12_getFar 45 = .ok (.istore 4, 2) := by decide +kernel
theorem dX12_getFar_47 : decode cX12_getFar 47 = .ok (.ldc2_w 497, 3) := by decide +kernel
theorem dX12_getFar_50 : decode cX12_getFar 50 = .ok (.iload_n 3, 1) := by decide +kernel
theorem dX12_getFar_51 : decode cX12_getFar 51 = .ok (.iconst 2, 1) := by decide +kernel
theorem dX12_getFar_52 : decode cX12_getFar 52 = .ok (.irem, 1) := by decide +kernel
theorem dX12_getFar_53 : decode cX12_getFar 53 = .ok (.i2l, 1) := by decide +kernel
theorem dX12_getFar_54 : decode cX12_getFar 54 = .ok (.ladd, 1) := by decide +kernel
theorem dX12_getFar_55 : decode cX12_getFar 55 = .ok (.iload 4, 2) := by decide +kernel
theorem dX12_getFar_57 : decode cX12_getFar 57 = .ok (.lshl, 1) := by decide +kernel
theorem dX12_getFar_58 : decode cX12_getFar 58 = .ok (.lstore 5, 2) := by decide +kernel
theorem dX12_getFar_60 : decode cX12_getFar 60 = .ok (.iload_n 3, 1) := by decide +kernel
theorem dX12_getFar_61 : decode cX12_getFar 61 = .ok (.bipush 14, 2) := by decide +kernel
theorem dX12_getFar_63 : decode cX12_getFar 63 = .ok (.if_icmp .ge 26, 3) := by decide +kernel
theorem dX12_getFar_66 : decode cX12_getFar 66 = .ok (.lload 5, 2) := by decide +kernel
theorem dX12_getFar_68 : decode cX12_getFar 68 = .ok (.aload_n 0, 1) := by decide +kernel
theorem dX12_getFar_69 : decode cX12_getFar 69 = .ok (.sipush 688, 3) := by decide +kernel
theorem dX12_getFar_72 : decode cX12_getFar 72 = .ok (.bipush 32, 2) := by decide +kernel
theorem dX12_getFar_74 : decode cX12_getFar 74 = .ok (.iload_n 3, 1) := by decide +kernel
theorem dX12_getFar_75 : decode cX12_getFar 75 = .ok (.iconst 4, 1) := by decide +kernel
theorem dX12_getFar_76 : decode cX12_getFar 76 = .ok (.isub, 1) := by decide +kernel
theorem dX12_getFar_77 : decode cX12_getFar 77 = .ok (.imul, 1) := by decide +kernel
theorem dX12_getFar_78 : decode cX12_getFar 78 = .ok (.iadd, 1) := by decide +kernel
theorem dX12_getFar_79 : decode cX12_getFar 79 = .ok (.iload 4, 2) := by decide +kernel
theorem dX12_getFar_81 : decode cX12_getFar 81 = .ok (.invokevirtual 499, 3) := by decide +kernel
theorem dX12_getFar_84 : decode cX12_getFar 84 = .ok (.i2l, 1) := by decide +kernel
theorem dX12_getFar_85 : decode cX12_getFar 85 = .ok (.ladd, 1) := by decide +kernel
theorem dX12_getFar_86 : decode cX12_getFar 86 = .ok (.lconst 1, 1) := by decide +kernel
theorem dX12_getFar_87 : decode cX12_getFar 87 = .ok (.ladd, 1) := by decide +kernel
theorem dX12_getFar_88 : decode cX12_getFar 88 = .ok (.lreturn, 1) := by decide +kernel
theorem dX12_getFar_89 : decode cX12_getFar 89 = .ok (.iload 4, 2) := by decide +kernel
theorem dX12_getFar_91 : decode cX12_getFar 91 = .ok (.iconst 1, 1) := by decide +kernel
theorem dX12_getFar_92 : decode cX12_getFar 92 = .ok (.isub, 1) := by decide +kernel
theorem dX12_getFar_93 : decode cX12_getFar 93 = .ok (.istore 7, 2) := by decide +kernel
theorem dX12_getFar_95 : decode cX12_getFar 95 = .ok (.iload 7, 2) := by decide +kernel
theorem dX12_getFar_97 : decode cX12_getFar 97 = .ok (.iconst 4, 1) := by decide +kernel
theorem dX12_getFar_98 : decode cX12_getFar 98 = .ok (.if_icmp .lt 22, 3) := by decide +kernel
theorem dX12_getFar_101 : decode cX12_getFar 101 = .ok (.lload 5, 2) := by decide +kernel
theorem dX12_getFar_103 : decode cX12_getFar 103 = .ok (.aload_n 0, 1) := by decide +kernel
theorem dX12_getFar_104 : decode cX12_getFar 104 = .ok (.invokevirtual 502, 3) := by decide +kernel
theorem dX12_getFar_107 : decode cX12_getFar 107 = .ok (.i2l, 1) := by decide +kernel
theorem dX12_getFar_108 : decode cX12_getFar 108 = .ok (.iload 7, 2) := by decide +kernel
theorem dX12_getFar_110 : decode cX12_getFar 110 = .ok (.lshl, 1) := by decide +kernel
theorem dX12_getFar_111 : decode cX12_getFar 111 = .ok (.ladd, 1) := by decide +kernel
theorem dX12_getFar_112 : decode cX12_getFar 112 = .ok (.lstore 5, 2) := by decide +kernel
theorem dX12_getFar_114 : decode cX12_getFar 114 = .ok (.iinc 7 (-1), 3) := by decide +kernel
theorem dX12_getFar_117 : decode cX12_getFar 117 = .ok (.goto (-22), 3) := by decide +kernel
theorem dX12_getFar_120 : decode cX12_getFar 120 = .ok (.lload 5, 2) := by decide +kernel
theorem dX12_getFar_122 : decode cX12_getFar 122 = .ok (.aload_n 0, 1) := by decide +kernel
theorem dX12_getFar_123 : decode cX12_getFar 123 = .ok (.sipush 1008, 3) := by decide +kernel
theorem dX12_getFar_126 : decode cX12_getFar 126 = .ok (.iconst 4, 1) := by decide +kernel
theorem dX12_getFar_127 : decode cX12_getFar 127 = .ok (.invokevirtual 499, 3) := by decide +kernel
theorem dX12_getFar_130 : decode cX12_getFar 130 = .ok (.i2l, 1) := by decide +kernel
theorem dX12_getFar_131 : decode cX12_getFar 131 = .ok (.ladd, 1) := by decide +kernel
theorem dX12_getFar_132 : decode cX12_getFar 132 = .ok (.lconst 1, 1) := by decide +kernel
theorem dX12_getFar_133 : decode cX12_getFar 133 = .ok (.ladd, 1) := by decide +kernel
theorem dX12_getFar_134 : decode cX12_getFar 134 = .ok (.lreturn, 1) := by decide +kernel
theorem dX12_isFull_0 : decode cX12_isFull 0 = .ok (.aload_n 0, 1) := by decide +kernel
theorem dX12_isFull_1 : decode cX12_isFull 1 = .ok (.getfield 505, 3) := by decide +kernel
theorem dX12_isFull_4 : decode cX12_isFull 4 = .ok (.aload_n 0, 1) := by decide +kernel
theorem dX12_isFull_5 : decode cX12_isFull 5 = .ok (.getfield 208, 3) := by decide +kernel
theorem dX12_isFull_8 : decode cX12_isFull 8 = .ok (.iadd, 1) := by decide +kernel
theorem dX12_isFull_9 : decode cX12_isFull 9 = .ok (.iload_n 1, 1) := by decide +kernel
theorem dX12_isFull_10 : decode cX12_isFull 10 = .ok (.iadd, 1) := by decide +kernel
theorem dX12_isFull_11 : decode cX12_isFull 11 = .ok (.sipush 3000, 3) := by decide +kernel
theorem dX12_isFull_14 : decode cX12_isFull 14 = .ok (.if_icmp .le 7, 3) := by decide +kernel
theorem dX12_isFull_17 : decode cX12_isFull 17 = .ok (.iconst 1, 1) := by decide +kernel
theorem dX12_isFull_18 : decode cX12_isFull 18 = .ok (.goto 4, 3) := by decide +kernel
theorem dX12_isFull_21 : decode cX12_isFull 21 = .ok (.iconst 0, 1) := by decide +kernel
theorem dX12_isFull_22 : decode cX12_isFull 22 = .ok (.ireturn, 1) := by decide +kernel
theorem dX12_literal_0 : decode cX12_literal 0 = .ok (.aload_n 0, 1) := by decide +kernel
theorem dX12_literal_1 : decode cX12_literal 1 = .ok (.getfield 208, 3) := by decide +kernel
theorem dX12_literal_4 : decode cX12_literal 4 = .ok (.aload_n 0, 1) := by decide +kernel
theorem dX12_literal_5 : decode cX12_literal 5 = .ok (.getfield 508, 3) := by decide +kernel
theorem dX12_literal_8 : decode cX12_literal 8 = .ok (.if_icmp .le 17, 3) := by decide +kernel
theorem dX12_literal_11 : decode cX12_literal 11 = .ok (.aload_n 0, 1) := by decide +kernel
theorem dX12_literal_12 : decode cX12_literal 12 = .ok (.getfield 47, 3) := by decide +kernel
theorem dX12_literal_15 : decode cX12_literal 15 = .ok (.aload_n 0, 1) := by decide +kernel
theorem dX12_literal_16 : decode cX12_literal 16 = .ok (.getfield 208, 3) := by decide +kernel
theorem dX12_literal_19 : decode cX12_literal 19 = .ok (.iconst 1, 1) := by decide +kernel
theorem dX12_literal_20 : decode cX12_literal 20 = .ok (.isub, 1) := by decide +kernel
theorem dX12_literal_21 : decode cX12_literal 21 = .ok (.iaload, 1) := by decide +kernel
theorem dX12_literal_22 : decode cX12_literal 22 = .ok (.goto 4, 3) := by decide +kernel
theorem dX12_literal_25 : decode cX12_literal 25 = .ok (.iconst 0, 1) := by decide +kernel
theorem dX12_literal_26 : decode cX12_literal 26 = .ok (.istore_n 1, 1) := by decide +kernel
theorem dX12_literal_27 : decode cX12_literal 27 = .ok (.aload_n 0, 1) := by decide +kernel
theorem dX12_literal_28 : decode cX12_literal 28 = .ok (.iload_n 1, 1) := by decide +kernel
theorem dX12_literal_29 : decode cX12_literal 29 = .ok (.invokevirtual 336, 3) := by decide +kernel
theorem dX12_literal_32 : decode cX12_literal 32 = .ok (.istore_n 2, 1) := by decide +kernel
theorem dX12_literal_33 : decode cX12_literal 33 = .ok (.aload_n 0, 1) := by decide +kernel
theorem dX12_literal_34 : decode cX12_literal 34 = .ok (.getfield 231, 3) := by decide +kernel
theorem dX12_literal_37 : decode cX12_literal 37 = .ok (.bipush 7, 2) := by decide +kernel
theorem dX12_literal_39 : decode cX12_literal 39 = .ok (.if_icmp .lt 7, 3) := by decide +kernel
theorem dX12_literal_42 : decode cX12_literal 42 = .ok (.iconst 1, 1) := by decide +kernel
theorem dX12_literal_43 : decode cX12_literal 43 = .ok (.goto 4, 3) := by decide +kernel
theorem dX12_literal_46 : decode cX12_literal 46 = .ok (.iconst 0, 1) := by decide +kernel
theorem dX12_literal_47 : decode cX12_literal 47 = .ok (.istore_n 3, 1) := by decide +kernel
theorem dX12_literal_48 : decode cX12_literal 48 = .ok (.iload_n 3, 1) := by decide +kernel
theorem dX12_literal_49 : decode cX12_literal 49 = .ok (.ifCond .eq 36, 3) := by decide +kernel
theorem dX12_literal_52 : decode cX12_literal 52 = .ok (.aload_n 0, 1) := by decide +kernel
theorem dX12_literal_53 : decode cX12_literal 53 = .ok (.getfield 234, 3) := by decide +kernel
theorem dX12_literal_56 : decode cX12_literal 56 = .ok (.aload_n 0, 1) := by decide +kernel
theorem dX12_literal_57 : decode cX12_literal 57 = .ok (.getfield 208, 3) := by decide +kernel
theorem dX12_literal_60 : decode cX12_literal 60 = .ok (.aload_n 0, 1) := by decide +kernel
theorem dX12_literal_61 : decode cX12_literal 61 = .ok (.getfield 508, 3) := by decide +kernel
theorem dX12_literal_64 : decode cX12_literal 64 = .ok (.isub, 1) := by decide +kernel
theorem dX12_literal_65 : decode cX12_literal 65 = .ok (.if_icmp .gt 20, 3) := by decide +kernel
theorem dX12_literal_68 : decode cX12_literal 68 = .ok (.aload_n 0, 1) := by decide +kernel
theorem dX12_literal_69 : decode cX12_literal 69 = .ok (.getfield 47, 3) := by decide +kernel
theorem dX12_literal_72 : decode cX12_literal 72 = .ok (.aload_n 0, 1) := by decide +kernel
theorem dX12_literal_73 : decode cX12_literal 73 = .ok (.getfield 208, 3) := by decide +kernel
theorem dX12_literal_76 : decode cX12_literal 76 = .ok (.aload_n 0, 1) := by decide +kernel
theorem dX12_literal_77 : decode cX12_literal 77 = .ok (.getfield 234, 3) := by decide +kernel
theorem dX12_literal_80 : decode cX12_literal 80 = .ok (.isub, 1) := by decide +kernel
theorem dX12_literal_81 : decode cX12_literal 81 = .ok (.iaload, 1) := by decide +kernel
theorem dX12_literal_82 : decode cX12_literal 82 = .ok (.goto 4, 3) := by decide +kernel
theorem dX12_literal_85 : decode cX12_literal 85 = .ok (.iconst 0, 1) := by decide +kernel
theorem dX12_literal_86 : decode cX12_literal 86 = .ok (.istore 4, 2) := by decide +kernel
theorem dX12_literal_88 : decode cX12_literal 88 = .ok (.iconst 1, 1) := by decide +kernel
theorem dX12_literal_89 : decode cX12_literal 89 = .ok (.istore 5, 2) := by decide +kernel
theorem dX12_literal_91 : decode cX12_literal 91 = .ok (.bipush 7, 2) := by decide +kernel
theorem dX12_literal_93 : decode cX12_literal 93 = .ok (.istore 6, 2) := by decide +kernel
theorem dX12_literal_95 : decode cX12_literal 95 = .ok (.iload 6, 2) := by decide +kernel
theorem dX12_literal_97 : decode cX12_literal 97 = .ok (.ifCond .lt 76, 3) := by decide +kernel
theorem dX12_literal_100 : decode cX12_literal 100 = .ok (.iload 4, 2) := by decide +kernel
theorem dX12_literal_102 : decode cX12_literal 102 = .ok (.iload 6, 2) := by decide +kernel
theorem dX12_literal_104 : decode cX12_literal 104 = .ok (.ishr, 1) := by decide +kernel
theorem dX12_literal_105 : decode cX12_literal 105 = .ok (.iconst 1, 1) := by decide +kernel
theorem dX12_literal_106 : decode cX12_literal 106 = .ok (.iand, 1) := by decide +kernel
theorem dX12_literal_107 : decode cX12_literal 107 = .ok (.istore 7, 2) := by decide +kernel
theorem dX12_literal_109 : decode cX12_literal 109 = .ok (.aload_n 0, 1) := by decide +kernel
theorem dX12_literal_110 : decode cX12_literal 110 = .ok (.iload_n 3, 1) := by decide +kernel
theorem dX12_literal_111 : decode cX12_literal 111 = .ok (.ifCond .eq 21, 3) := by decide +kernel
theorem dX12_literal_114 : decode cX12_literal 114 = .ok (.iload_n 2, 1) := by decide +kernel
theorem dX12_literal_115 : decode cX12_literal 115 = .ok (.sipush 256, 3) := by decide +kernel
theorem dX12_literal_118 : decode cX12_literal 118 = .ok (.iadd, 1) := by decide +kernel
theorem dX12_literal_119 : decode cX12_literal 119 = .ok (.sipush 256, 3) := by decide +kernel
theorem dX12_literal_122 : decode cX12_literal 122 = .ok (.iload 7, 2) := by decide +kernel
theorem dX12_literal_124 : decode cX12_literal 124 = .ok (.imul, 1) := by decide +kernel
theorem dX12_literal_125 : decode cX12_literal 125 = .ok (.iadd, 1) := by decide +kernel
theorem dX12_literal_126 : decode cX12_literal 126 = .ok (.iload 5, 2) := by decide +kernel
theorem dX12_literal_128 : decode cX12_literal 128 = .ok (.iadd, 1) := by decide +kernel
theorem dX12_literal_129 : decode cX12_literal 129 = .ok (.goto 7, 3) := by decide +kernel
theorem dX12_literal_132 : decode cX12_literal 132 = .ok (.iload_n 2, 1) := by decide +kernel
theorem dX12_literal_133 : decode cX12_literal 133 = .ok (.iload 5, 2) := by decide +kernel
theorem dX12_literal_135 : decode cX12_literal 135 = .ok (.iadd, 1) := by decide +kernel
theorem dX12_literal_136 : decode cX12_literal 136 = .ok (.invokevirtual 491, 3) := by decide +kernel
theorem dX12_literal_139 : decode cX12_literal 139 = .ok (.istore 8, 2) := by decide +kernel
theorem dX12_literal_141 : decode cX12_literal 141 = .ok (.iload_n 3, 1) := by decide +kernel
theorem dX12_literal_142 : decode cX12_literal 142 = .ok (.ifCond .eq 14, 3) := by decide +kernel
theorem dX12_literal_145 : decode cX12_literal 145 = .ok (.iload 8, 2) := by decide +kernel
theorem dX12_literal_147 : decode cX12_literal 147 = .ok (.iload 7, 2) := by decide +kernel
theorem dX12_literal_149 : decode cX12_literal 149 = .ok (.if_icmp .ne 7, 3) := by decide +kernel
theorem dX12_literal_152 : decode cX12_literal 152 = .ok (.iconst 1, 1) := by decide +kernel
theorem dX12_literal_153 : decode cX12_literal 153 = .ok (.goto 4, 3) := by decide +kernel
theorem dX12_literal_156 : decode cX12_literal 156 = .ok (.iconst 0, 1) := by decide +kernel
theorem dX12_literal_157 : decode cX12_literal 157 = .ok (.istore_n 3, 1) := by decide +kernel
theorem dX12_literal_158 : decode cX12_literal 158 = .ok (.iconst 2, 1) := by decide +kernel
theorem dX12_literal_159 : decode cX12_literal 159 = .ok (.iload 5, 2) := by decide +kernel
theorem dX12_literal_161 : decode cX12_literal 161 = .ok (.imul, 1) := by decide +kernel
theorem dX12_literal_162 : decode cX12_literal 162 = .ok (.iload 8, 2) := by decide +kernel
theorem dX12_literal_164 : decode cX12_literal 164 = .ok (.iadd, 1) := by decide +kernel
theorem dX12_literal_165 : decode cX12_literal 165 = .ok (.istore 5, 2) := by decide +kernel
theorem dX12_literal_167 : decode cX12_literal 167 = .ok (.iinc 6 (-1), 3) := by decide +kernel
theorem dX12_literal_170 : decode cX12_literal 170 = .ok (.goto (-75), 3) := by decide +kernel
theorem dX12_literal_173 : decode cX12_literal 173 = .ok (.aload_n 0, 1) := by decide +kernel
theorem dX12_literal_174 : decode cX12_literal 174 = .ok (.getfield 470, 3) := by decide +kernel
theorem dX12_literal_177 : decode cX12_literal 177 = .ok (.ifCond .le 4, 3) := by decide +kernel
theorem dX12_literal_180 : decode cX12_literal 180 = .ok (.return_, 1) := by decide +kernel
theorem dX12_literal_181 : decode cX12_literal 181 = .ok (.aload_n 0, 1) := by decide +kernel
theorem dX12_literal_182 : decode cX12_literal 182 = .ok (.iconst 1, 1) := by decide +kernel
theorem dX12_literal_183 : decode cX12_literal 183 = .ok (.invokevirtual 511, 3) := by decide +kernel
theorem dX12_literal_186 : decode cX12_literal 186 = .ok (.ifCond .eq 10, 3) := by decide +kernel
theorem dX12_literal_189 : decode cX12_literal 189 = .ok (.aload_n 0, 1) := by decide +kernel
theorem dX12_literal_190 : decode cX12_literal 190 = .ok (.bipush 13, 2) := by decide +kernel
theorem dX12_literal_192 : decode cX12_literal 192 = .ok (.invokevirtual 479, 3) := by decide +kernel
theorem dX12_literal_195 : decode cX12_literal 195 = .ok (.return_, 1) := by decide +kernel
theorem dX12_literal_196 : decode cX12_literal 196 = .ok (.aload_n 0, 1) := by decide +kernel
theorem dX12_literal_197 : decode cX12_literal 197 = .ok (.iconst 0, 1) := by decide +kernel
theorem dX12_literal_198 : decode cX12_literal 198 = .ok (.aload_n 0, 1) := by decide +kernel
theorem dX12_literal_199 : decode cX12_literal 199 = .ok (.getfield 505, 3) := by decide +kernel
theorem dX12_literal_202 : decode cX12_literal 202 = .ok (.aload_n 0, 1) := by decide +kernel
theorem dX12_literal_203 : decode cX12_literal 203 = .ok (.getfield 208, 3) := by decide +kernel
theorem dX12_literal_206 : decode cX12_literal 206 = .ok (.iadd, 1) := by decide +kernel
theorem dX12_literal_207 : decode cX12_literal 207 = .ok (.iconst 1, 1) := by decide +kernel
theorem dX12_literal_208 : decode cX12_literal 208 = .ok (.iconst 0, 1) := by decide +kernel
theorem dX12_literal_209 : decode cX12_literal 209 = .ok (.invokevirtual 375, 3) := by decide +kernel
theorem dX12_literal_212 : decode cX12_literal 212 = .ok (.aload_n 0, 1) := by decide +kernel
theorem dX12_literal_213 : decode cX12_literal 213 = .ok (.getfield 47, 3) := by decide +kernel
theorem dX12_literal_216 : decode cX12_literal 216 = .ok (.aload_n 0, 1) := by decide +kernel
theorem dX12_literal_217 : decode cX12_literal 217 = .ok (.getfield 208, 3) := by decide +kernel
theorem dX12_literal_220 : decode cX12_literal 220 = .ok (.iload 5, 2) := by decide +kernel
theorem dX12_literal_222 : decode cX12_literal 222 = .ok (.sipush 255, 3) := by decide +kernel
theorem dX12_literal_225 : decode cX12_literal 225 = .ok (.iand, 1) := by decide +kernel
theorem dX12_literal_226 : decode cX12_literal 226 = .ok (.iastore, 1) := by decide +kernel
theorem dX12_literal_227 : decode cX12_literal 227 = .ok (.aload_n 0, 1) := by decide +kernel
theorem dX12_literal_228 : decode cX12_literal 228 = .ok (.dup, 1) := by decide +kernel
theorem dX12_literal_229 : decode cX12_literal 229 = .ok (.getfield 208, 3) := by decide +kernel
theorem dX12_literal_232 : decode cX12_literal 232 = .ok (.iconst 1, 1) := by decide +kernel
theorem dX12_literal_233 : decode cX12_literal 233 = .ok (.iadd, 1) := by decide +kernel
theorem dX12_literal_234 : decode cX12_literal 234 = .ok (.putfield 208, 3) := by decide +kernel
theorem dX12_literal_237 : decode cX12_literal 237 = .ok (.aload_n 0, 1) := by decide +kernel
theorem dX12_literal_238 : decode cX12_literal 238 = .ok (.dup, 1) := by decide +kernel
theorem dX12_literal_239 : decode cX12_literal 239 = .ok (.getfield 249, 3) := by decide +kernel
theorem dX12_literal_242 : decode cX12_literal 242 = .ok (.iconst 1, 1) := by decide +kernel
theorem dX12_literal_243 : decode cX12_literal 243 = .ok (.iadd, 1) := by decide +kernel
theorem dX12_literal_244 : decode cX12_literal 244 = .ok (.putfield 249, 3) := by decide +kernel
theorem dX12_literal_247 : decode cX12_literal 247 = .ok (.aload_n 0, 1) := by decide +kernel
theorem dX12_literal_248 : decode cX12_literal 248 = .ok (.invokevirtual 339, 3) := by decide +kernel
theorem dX12_literal_251 : decode cX12_literal 251 = .ok (.return_, 1) := by decide +kernel
theorem dX12_copies_0 : decode cX12_copies 0 = .ok (.aload_n 0, 1) := by decide +kernel
theorem dX12_copies_1 : decode cX12_copies 1 = .ok (.getfield 470, 3) := by decide +kernel
theorem dX12_copies_4 : decode cX12_copies 4 = .ok (.ifCond .le 5, 3) := by decide +kernel
theorem dX12_copies_7 : decode cX12_copies 7 = .ok (.iconst 0, 1) := by decide +kernel
theorem dX12_copies_8 : decode cX12_copies 8 = .ok (.ireturn, 1) := by decide +kernel
theorem dX12_copies_9 : decode cX12_copies 9 = .ok (.lload_n 3, 1) := by decide +kernel
theorem dX12_copies_10 : decode cX12_copies 10 = .ok (.aload_n 0, 1) := by decide +kernel
theorem dX12_copies_11 : decode cX12_copies 11 = .ok (.getfield 515, 3) := by decide +kernel
theorem dX12_copies_14 : decode cX12_copies 14 = .ok (.lcmp, 1) := by decide +kernel
theorem dX12_copies_15 : decode cX12_copies 15 = .ok (.ifCond .gt 18, 3) := by decide +kernel
theorem dX12_copies_18 : decode cX12_copies 18 = .ok (.lload_n 3, 1) := by decide +kernel
theorem dX12_copies_19 : decode cX12_copies 19 = .ok (.aload_n 0, 1) := by decide +kernel
theorem dX12_copies_20 : decode cX12_copies 20 = .ok (.getfield 208, 3) := by decide +kernel
theorem dX12_copies_23 : decode cX12_copies 23 = .ok (.aload_n 0, 1) := by decide +kernel
theorem dX12_copies_24 : decode cX12_copies 24 = .ok (.getfield 508, 3) := by decide +kernel
theorem dX12_copies_27 : decode cX12_copies 27 = .ok (.isub, 1) := by decide +kernel
theorem dX12_copies_28 : decode cX12_copies 28 = .ok (.i2l, 1) := by decide +kernel
theorem dX12_copies_29 : decode cX12_copies 29 = .ok (.lcmp, 1) := by decide +kernel
theorem dX12_copies_30 : decode cX12_copies 30 = .ok (.ifCond .le 10, 3) := by decide +kernel
theorem dX12_copies_33 : decode cX12_copies 33 = .ok (.aload_n 0, 1) := by decide +kernel
theorem dX12_copies_34 : decode cX12_copies 34 = .ok (.iconst 4, 1) := by decide +kernel
theorem dX12_copies_35 : decode cX12_copies 35 = .ok (.invokevirtual 479, 3) := by decide +kernel
theorem dX12_copies_38 : decode cX12_copies 38 = .ok (.iconst 0, 1) := by decide +kernel
theorem dX12_copies_39 : decode cX12_copies 39 = .ok (.ireturn, 1) := by decide +kernel
theorem dX12_copies_40 : decode cX12_copies 40 = .ok (.aload_n 0, 1) := by decide +kernel
theorem dX12_copies_41 : decode cX12_copies 41 = .ok (.getfield 518, 3) := by decide +kernel
theorem dX12_copies_44 : decode cX12_copies 44 = .ok (.ifCond .lt 24, 3) := by decide +kernel
theorem dX12_copies_47 : decode cX12_copies 47 = .ok (.aload_n 0, 1) := by decide +kernel
theorem dX12_copies_48 : decode cX12_copies 48 = .ok (.getfield 208, 3) := by decide +kernel
theorem dX12_copies_51 : decode cX12_copies 51 = .ok (.iload_n 2, 1) := by decide +kernel
theorem dX12_copies_52 : decode cX12_copies 52 = .ok (.iadd, 1) := by decide +kernel
theorem dX12_copies_53 : decode cX12_copies 53 = .ok (.aload_n 0, 1) := by decide +kernel
theorem dX12_copies_54 : decode cX12_copies 54 = .ok (.getfield 518, 3) := by decide +kernel
theorem dX12_copies_57 : decode cX12_copies 57 = .ok (.if_icmp .le 11, 3) := by decide +kernel
theorem dX12_copies_60 : decode cX12_copies 60 = .ok (.aload_n 0, 1) := by decide +kernel
theorem dX12_copies_61 : decode cX12_copies 61 = .ok (.bipush 6, 2) := by decide +kernel
theorem dX12_copies_63 : decode cX12_copies 63 = .ok (.invokevirtual 479, 3) := by decide +kernel
theorem dX12_copies_66 : decode cX12_copies 66 = .ok (.iconst 0, 1) := by decide +kernel
theorem dX12_copies_67 : decode cX12_copies 67 = .ok (.ireturn, 1) := by decide +kernel
theorem dX12_copies_68 : decode cX12_copies 68 = .ok (.aload_n 0, 1) := by decide +kernel
theorem dX12_copies_69 : decode cX12_copies 69 = .ok (.iload_n 2, 1) := by decide +kernel
theorem dX12_copies_70 : decode cX12_copies 70 = .ok (.invokevirtual 511, 3) := by decide +kernel
theorem dX12_copies_73 : decode cX12_copies 73 = .ok (.ifCond .eq 11, 3) := by decide +kernel
theorem dX12_copies_76 : decode cX12_copies 76 = .ok (.aload_n 0, 1) := by decide +kernel
theorem dX12_copies_77 : decode cX12_copies 77 = .ok (.bipush 13, 2) := by decide +kernel
theorem dX12_copies_79 : decode cX12_copies 79 = .ok (.invokevirtual 479, 3) := by decide +kernel
theorem dX12_copies_82 : decode cX12_copies 82 = .ok (.iconst 0, 1) := by decide +kernel
theorem dX12_copies_83 : decode cX12_copies 83 = .ok (.ireturn, 1) := by decide +kernel
theorem dX12_copies_84 : decode cX12_copies 84 = .ok (.aload_n 0, 1) := by decide +kernel
theorem dX12_copies_85 : decode cX12_copies 85 = .ok (.iload_n 1, 1) := by decide +kernel
theorem dX12_copies_86 : decode cX12_copies 86 = .ok (.aload_n 0, 1) := by decide +kernel
theorem dX12_copies_87 : decode cX12_copies 87 = .ok (.getfield 505, 3) := by decide +kernel
theorem dX12_copies_90 : decode cX12_copies 90 = .ok (.aload_n 0, 1) := by decide +kernel
theorem dX12_copies_91 : decode cX12_copies 91 = .ok (.getfield 208, 3) := by decide +kernel
theorem dX12_copies_94 : decode cX12_copies 94 = .ok (.iadd, 1) := by decide +kernel
theorem dX12_copies_95 : decode cX12_copies 95 = .ok (.iload_n 2, 1) := by decide +kernel
theorem dX12_copies_96 : decode cX12_copies 96 = .ok (.lload_n 3, 1) := by decide +kernel
theorem dX12_copies_97 : decode cX12_copies 97 = .ok (.l2i, 1) := by decide +kernel
theorem dX12_copies_98 : decode cX12_copies 98 = .ok (.invokevirtual 375, 3) := by decide +kernel
theorem dX12_copies_101 : decode cX12_copies 101 = .ok (.iconst 0, 1) := by decide +kernel
theorem dX12_copies_102 : decode cX12_copies 102 = .ok (.istore 5, 2) := by decide +kernel
theorem dX12_copies_104 : decode cX12_copies 104 = .ok (.iload 5, 2) := by decide +kernel
theorem dX12_copies_106 : decode cX12_copies 106 = .ok (.iload_n 2, 1) := by decide +kernel
theorem dX12_copies_107 : decode cX12_copies 107 = .ok (.if_icmp .ge 40, 3) := by decide +kernel
theorem dX12_copies_110 : decode cX12_copies 110 = .ok (.aload_n 0, 1) := by decide +kernel
theorem dX12_copies_111 : decode cX12_copies 111 = .ok (.getfield 47, 3) := by decide +kernel
theorem dX12_copies_114 : decode cX12_copies 114 = .ok (.aload_n 0, 1) := by decide +kernel
theorem dX12_copies_115 : decode cX12_copies 115 = .ok (.getfield 208, 3) := by decide +kernel
theorem dX12_copies_118 : decode cX12_copies 118 = .ok (.aload_n 0, 1) := by decide +kernel
theorem dX12_copies_119 : decode cX12_copies 119 = .ok (.getfield 47, 3) := by decide +kernel
theorem dX12_copies_122 : decode cX12_copies 122 = .ok (.aload_n 0, 1) := by decide +kernel
theorem dX12_copies_123 : decode cX12_copies 123 = .ok (.getfield 208, 3) := by decide +kernel
theorem dX12_copies_126 : decode cX12_copies 126 = .ok (.lload_n 3, 1) := by decide +kernel
theorem dX12_copies_127 : decode cX12_copies 127 = .ok (.l2i, 1) := by decide +kernel
theorem dX12_copies_128 : decode cX12_copies 128 = .ok (.isub, 1) := by decide +kernel
theorem dX12_copies_129 : decode cX12_copies 129 = .ok (.iaload, 1) := by decide +kernel
theorem dX12_copies_130 : decode cX12_copies 130 = .ok (.iastore, 1) := by decide +kernel
theorem dX12_copies_131 : decode cX12_copies 131 = .ok (.aload_n 0, 1) := by decide +kernel
theorem dX12_copies_132 : decode cX12_copies 132 = .ok (.dup, 1) := by decide +kernel
theorem dX12_copies_133 : decode cX12_copies 133 = .ok (.getfield 208, 3) := by decide +kernel
theorem dX12_copies_136 : decode cX12_copies 136 = .ok (.iconst 1, 1) := by decide +kernel
theorem dX12_copies_137 : decode cX12_copies 137 = .ok (.iadd, 1) := by decide +kernel
theorem dX12_copies_138 : decode cX12_copies 138 = .ok (.putfield 208, 3) := by decide +kernel
theorem dX12_copies_141 : decode cX12_copies 141 = .ok (.iinc 5 1, 3) := by decide +kernel
theorem dX12_copies_144 : decode cX12_copies 144 = .ok (.goto (-40), 3) := by decide +kernel
theorem dX12_copies_147 : decode cX12_copies 147 = .ok (.aload_n 0, 1) := by decide +kernel
theorem dX12_copies_148 : decode cX12_copies 148 = .ok (.dup, 1) := by decide +kernel
theorem dX12_copies_149 : decode cX12_copies 149 = .ok (.getfield 249, 3) := by decide +kernel
theorem dX12_copies_152 : decode cX12_copies 152 = .ok (.iload_n 2, 1) := by decide +kernel
theorem dX12_copies_153 : decode cX12_copies 153 = .ok (.iadd, 1) := by decide +kernel
theorem dX12_copies_154 : decode cX12_copies 154 = .ok (.putfield 249, 3) := by decide +kernel
theorem dX12_copies_157 : decode cX12_copies 157 = .ok (.iconst 1, 1) := by decide +kernel
theorem dX12_copies_158 : decode cX12_copies 158 = .ok (.ireturn, 1) := by decide +kernel
theorem dX12_choiceNow_0 : decode cX12_choiceNow 0 = .ok (.aload_n 0, 1) := by decide +kernel
theorem dX12_choiceNow_1 : decode cX12_choiceNow 1 = .ok (.invokevirtual 296, 3) := by decide +kernel
theorem dX12_choiceNow_4 : decode cX12_choiceNow 4 = .ok (.istore_n 2, 1) := by decide +kernel
theorem dX12_choiceNow_5 : decode cX12_choiceNow 5 = .ok (.aload_n 0, 1) := by decide +kernel
theorem dX12_choiceNow_6 : decode cX12_choiceNow 6 = .ok (.iconst 0, 1) := by decide +kernel
theorem dX12_choiceNow_7 : decode cX12_choiceNow 7 = .ok (.bipush 16, 2) := by decide +kernel
theorem dX12_choiceNow_9 : decode cX12_choiceNow 9 = .ok (.aload_n 0, 1) := by decide +kernel
theorem dX12_choiceNow_10 : decode cX12_choiceNow 10 = .ok (.getfield 231, 3) := by decide +kernel
theorem dX12_choiceNow_13 : decode cX12_choiceNow 13 = .ok (.imul, 1) := by decide +kernel
theorem dX12_choiceNow_14 : decode cX12_choiceNow 14 = .ok (.iadd, 1) := by decide +kernel
theorem dX12_choiceNow_15 : decode cX12_choiceNow 15 = .ok (.iload_n 2, 1) := by decide +kernel
theorem dX12_choiceNow_16 : decode cX12_choiceNow 16 = .ok (.iadd, 1) := by decide +kernel
theorem dX12_choiceNow_17 : decode cX12_choiceNow 17 = .ok (.invokevirtual 491, 3) := by decide +kernel
theorem dX12_choiceNow_20 : decode cX12_choiceNow 20 = .ok (.ifCond .ne 19, 3) := by decide +kernel
theorem dX12_choiceNow_23 : decode cX12_choiceNow 23 = .ok (.iload_n 1, 1) := by decide +kernel
theorem dX12_choiceNow_24 : decode cX12_choiceNow 24 = .ok (.ifCond .eq 10, 3) := by decide +kernel
theorem dX12_choiceNow_27 : decode cX12_choiceNow 27 = .ok (.aload_n 0, 1) := by decide +kernel
theorem dX12_choiceNow_28 : decode cX12_choiceNow 28 = .ok (.bipush 7, 2) := by decide +kernel
theorem dX12_choiceNow_30 : decode cX12_choiceNow 30 = .ok (.invokevirtual 479, 3) := by decide +kernel
theorem dX12_choiceNow_33 : decode cX12_choiceNow 33 = .ok (.return_, 1) := by decide +kernel
theorem dX12_choiceNow_34 : decode cX12_choiceNow 34 = .ok (.aload_n 0, 1) := by decide +kernel
theorem dX12_choiceNow_35 : decode cX12_choiceNow 35 = .ok (.invokevirtual 521, 3) := by decide +kernel
theorem dX12_choiceNow_38 : decode cX12_choiceNow 38 = .ok (.return_, 1) := by decide +kernel
theorem dX12_choiceNow_39 : decode cX12_choiceNow 39 = .ok (.aload_n 0, 1) := by decide +kernel
theorem dX12_choiceNow_40 : decode cX12_choiceNow 40 = .ok (.sipush 192, 3) := by decide +kernel
theorem dX12_choiceNow_43 : decode cX12_choiceNow 43 = .ok (.aload_n 0, 1) := by decide +kernel
theorem dX12_choiceNow_44 : decode cX12_choiceNow 44 = .ok (.getfield 231, 3) := by decide +kernel
theorem dX12_choiceNow_47 : decode cX12_choiceNow 47 = .ok (.iadd, 1) := by decide +kernel
theorem dX12_choiceNow_48 : decode cX12_choiceNow 48 = .ok (.invokevirtual 491, 3) := by decide +kernel
theorem dX12_choiceNow_51 : decode cX12_choiceNow 51 = .ok (.ifCond .ne 9, 3) := by decide +kernel
theorem dX12_choiceNow_54 : decode cX12_choiceNow 54 = .ok (.aload_n 0, 1) := by decide +kernel
theorem dX12_choiceNow_55 : decode cX12_choiceNow 55 = .ok (.iload_n 1, 1) := by decide +kernel
theorem dX12_choiceNow_56 : decode cX12_choiceNow 56 = .ok (.invokevirtual 524, 3) := by decide +kernel
theorem dX12_choiceNow_59 : decode cX12_choiceNow 59 = .ok (.return_, 1) := by decide +kernel
theorem dX12_choiceNow_60 : decode cX12_choiceNow 60 = .ok (.iload_n 1, 1) := by decide +kernel
theorem dX12_choiceNow_61 : decode cX12_choiceNow 61 = .ok (.ifCond .eq 10, 3) := by decide +kernel
theorem dX12_choiceNow_64 : decode cX12_choiceNow 64 = .ok (.aload_n 0, 1) := by decide +kernel
theorem dX12_choiceNow_65 : decode cX12_choiceNow 65 = .ok (.bipush 7, 2) := by decide +kernel
theorem dX12_choiceNow_67 : decode cX12_choiceNow 67 = .ok (.invokevirtual 479, 3) := by decide +kernel
theorem dX12_choiceNow_70 : decode cX12_choiceNow 70 = .ok (.return_, 1) := by decide +kernel
theorem dX12_choiceNow_71 : decode cX12_choiceNow 71 = .ok (.iconst 0, 1) := by decide +kernel
theorem dX12_choiceNow_72 : decode cX12_choiceNow 72 = .ok (.istore_n 3, 1) := by decide +kernel
theorem dX12_choiceNow_73 : decode cX12_choiceNow 73 = .ok (.aload_n 0, 1) := by decide +kernel
theorem dX12_choiceNow_74 : decode cX12_choiceNow 74 = .ok (.sipush 204, 3) := by decide +kernel
theorem dX12_choiceNow_77 : decode cX12_choiceNow 77 = .ok (.aload_n 0, 1) := by decide +kernel
theorem dX12_choiceNow_78 : decode cX12_choiceNow 78 = .ok (.getfield 231, 3) := by decide +kernel
theorem dX12_choiceNow_81 : decode cX12_choiceNow 81 = .ok (.iadd, 1) := by decide +kernel
theorem dX12_choiceNow_82 : decode cX12_choiceNow 82 = .ok (.invokevirtual 491, 3) := by decide +kernel
theorem dX12_choiceNow_85 : decode cX12_choiceNow 85 = .ok (.ifCond .ne 59, 3) := by decide +kernel
theorem dX12_choiceNow_88 : decode cX12_choiceNow 88 = .ok (.aload_n 0, 1) := by decide +kernel
theorem dX12_choiceNow_89 : decode cX12_choiceNow 89 = .ok (.sipush 240, 3) := by decide +kernel
theorem dX12_choiceNow_92 : decode cX12_choiceNow 92 = .ok (.bipush 16, 2) := by decide +kernel
theorem dX12_choiceNow_94 : decode cX12_choiceNow 94 = .ok (.aload_n 0, 1) := by decide +kernel
theorem dX12_choiceNow_95 : decode cX12_choiceNow 95 = .ok (.getfield 231, 3) := by decide +kernel
theorem dX12_choiceNow_98 : decode cX12_choiceNow 98 = .ok (.imul, 1) := by decide +kernel
theorem dX12_choiceNow_99 : decode cX12_choiceNow 99 = .ok (.iadd, 1) := by decide +kernel
theorem dX12_choiceNow_100 : decode cX12_choiceNow 100 = .ok (.iload_n 2, 1) := by decide +kernel
theorem dX12_choiceNow_101 : decode cX12_choiceNow 101 = .ok (.iadd, 1) := by decide +kernel
theorem dX12_choiceNow_102 : decode cX12_choiceNow 102 = .ok (.invokevirtual 491, 3) := by decide +kernel
theorem dX12_choiceNow_105 : decode cX12_choiceNow 105 = .ok (.ifCond .ne 79, 3) := by decide +kernel
theorem dX12_choiceNow_108 : decode cX12_choiceNow 108 = .ok (.aload_n 0, 1) := by decide +kernel
theorem dX12_choiceNow_109 : decode cX12_choiceNow 109 = .ok (.bipush 6, 2) := by decide +kernel
theorem dX12_choiceNow_111 : decode cX12_choiceNow 111 = .ok (.iconst 1, 1) := by decide +kernel
theorem dX12_choiceNow_112 : decode cX12_choiceNow 112 = .ok (.aload_n 0, 1) := by decide +kernel
theorem dX12_choiceNow_113 : decode cX12_choiceNow 113 = .ok (.getfield 234, 3) := by decide +kernel
theorem dX12_choiceNow_116 : decode cX12_choiceNow 116 = .ok (.i2l, 1) := by decide +kernel
theorem dX12_choiceNow_117 : decode cX12_choiceNow 117 = .ok (.invokevirtual 527, 3) := by decide +kernel
theorem dX12_choiceNow_120 : decode cX12_choiceNow 120 = .ok (.ifCond .eq 23, 3) := by decide +kernel
theorem dX12_choiceNow_123 : decode cX12_choiceNow 123 = .ok (.aload_n 0, 1) := by decide +kernel
theorem dX12_choiceNow_124 : decode cX12_choiceNow 124 = .ok (.aload_n 0, 1) := by decide +kernel
theorem dX12_choiceNow_125 : decode cX12_choiceNow 125 = .ok (.getfield 231, 3) := by decide +kernel
theorem dX12_choiceNow_128 : decode cX12_choiceNow 128 = .ok (.bipush 7, 2) := by decide +kernel
theorem dX12_choiceNow_130 : decode cX12_choiceNow 130 = .ok (.if_icmp .ge 8, 3) := by decide +kernel
theorem dX12_choiceNow_133 : decode cX12_choiceNow 133 = .ok (.bipush 9, 2) := by decide +kernel
theorem dX12_choiceNow_135 : decode cX12_choiceNow 135 = .ok (.goto 5, 3) := by decide +kernel
theorem dX12_choiceNow_138 : decode cX12_choiceNow 138 = .ok (.bipush 11, 2) := by decide +kernel
theorem dX12_choiceNow_140 : decode cX12_choiceNow 140 = .ok (.putfield 231, 3) := by decide +kernel
theorem dX12_choiceNow_143 : decode cX12_choiceNow 143 = .ok (.return_, 1) := by decide +kernel
theorem dX12_choiceNow_144 : decode cX12_choiceNow 144 = .ok (.aload_n 0, 1) := by decide +kernel
theorem dX12_choiceNow_145 : decode cX12_choiceNow 145 = .ok (.sipush 216, 3) := by decide +kernel
theorem dX12_choiceNow_148 : decode cX12_choiceNow 148 = .ok (.aload_n 0, 1) := by decide +kernel
theorem dX12_choiceNow_149 : decode cX12_choiceNow 149 = .ok (.getfield 231, 3) := by decide +kernel
theorem dX12_choiceNow_152 : decode cX12_choiceNow 152 = .ok (.iadd, 1) := by decide +kernel
theorem dX12_choiceNow_153 : decode cX12_choiceNow 153 = .ok (.invokevirtual 491, 3) := by decide +kernel
theorem dX12_choiceNow_156 : decode cX12_choiceNow 156 = .ok (.ifCond .ne 7, 3) := by decide +kernel
theorem dX12_choiceNow_159 : decode cX12_choiceNow 159 = .ok (.iconst 1, 1) := by decide +kernel
theorem dX12_choiceNow_160 : decode cX12_choiceNow 160 = .ok (.goto 23, 3) := by decide +kernel
theorem dX12_choiceNow_163 : decode cX12_choiceNow 163 = .ok (.aload_n 0, 1) := by decide +kernel
theorem dX12_choiceNow_164 : decode cX12_choiceNow 164 = .ok (.sipush 228, 3) := by decide +kernel
theorem dX12_choiceNow_167 : decode cX12_choiceNow 167 = .ok (.aload_n 0, 1) := by decide +kernel
theorem dX12_choiceNow_168 : decode cX12_choiceNow 168 = .ok (.getfield 231, 3) := by decide +kernel
theorem dX12_choiceNow_171 : decode cX12_choiceNow 171 = .ok (.iadd, 1) := by decide +kernel
theorem dX12_choiceNow_172 : decode cX12_choiceNow 172 = .ok (.invokevirtual 491, 3) := by decide +kernel
theorem dX12_choiceNow_175 : decode cX12_choiceNow 175 = .ok (.ifCond .ne 7, 3) := by decide +kernel
theorem dX12_choiceNow_178 : decode cX12_choiceNow 178 = .ok (.iconst 2, 1) := by decide +kernel
theorem dX12_choiceNow_179 : decode cX12_choiceNow 179 = .ok (.goto 4, 3) := by decide +kernel
theorem dX12_choiceNow_182 : decode cX12_choiceNow 182 = .ok (.iconst 3, 1) := by decide +kernel
theorem dX12_choiceNow_183 : decode cX12_choiceNow 183 = .ok (.istore_n 3, 1) := by decide +kernel
theorem dX12_choiceNow_184 : decode cX12_choiceNow 184 = .ok (.aload_n 0, 1) := by decide +kernel
theorem dX12_choiceNow_185 : decode cX12_choiceNow 185 = .ok (.sipush 1540, 3) := by decide +kernel
theorem dX12_choiceNow_188 : decode cX12_choiceNow 188 = .ok (.invokevirtual 531, 3) := by decide +kernel
theorem dX12_choiceNow_191 : decode cX12_choiceNow 191 = .ok (.istore 4, 2) := by decide +kernel
theorem dX12_choiceNow_193 : decode cX12_choiceNow 193 = .ok (.aload_n 0, 1) := by decide +kernel
theorem dX12_choiceNow_194 : decode cX12_choiceNow 194 = .ok (.iconst 2, 1) := by decide +kernel
theorem dX12_choiceNow_195 : decode cX12_choiceNow 195 = .ok (.iload_n 3, 1) := by decide +kernel
theorem dX12_choiceNow_196 : decode cX12_choiceNow 196 = .ok (.iadd, 1) := by decide +kernel
theorem dX12_choiceNow_197 : decode cX12_choiceNow 197 = .ok (.iload 4, 2) := by decide +kernel
theorem dX12_choiceNow_199 : decode cX12_choiceNow 199 = .ok (.aload_n 0, 1) := by decide +kernel
theorem dX12_choiceNow_200 : decode cX12_choiceNow 200 = .ok (.iload_n 3, 1) := by decide +kernel
theorem dX12_choiceNow_201 : decode cX12_choiceNow 201 = .ok (.invokevirtual 246, 3) := by decide +kernel
theorem dX12_choiceNow_204 : decode cX12_choiceNow 204 = .ok (.i2l, 1) := by decide +kernel
theorem dX12_choiceNow_205 : decode cX12_choiceNow 205 = .ok (.invokevirtual 527, 3) := by decide +kernel
theorem dX12_choiceNow_208 : decode cX12_choiceNow 208 = .ok (.ifCond .eq 28, 3) := by decide +kernel
theorem dX12_choiceNow_211 : decode cX12_choiceNow 211 = .ok (.aload_n 0, 1) := by decide +kernel
theorem dX12_choiceNow_212 : decode cX12_choiceNow 212 = .ok (.iload_n 3, 1) := by decide +kernel
theorem dX12_choiceNow_213 : decode cX12_choiceNow 213 = .ok (.invokevirtual 357, 3) := by decide +kernel
theorem dX12_choiceNow_216 : decode cX12_choiceNow 216 = .ok (.aload_n 0, 1) := by decide +kernel
theorem dX12_choiceNow_217 : decode cX12_choiceNow 217 = .ok (.aload_n 0, 1) := by decide +kernel
theorem dX12_choiceNow_218 : decode cX12_choiceNow 218 = .ok (.getfield 231, 3) := by decide +kernel
theorem dX12_choiceNow_221 : decode cX12_choiceNow 221 = .ok (.bipush 7, 2) := by decide +kernel
theorem dX12_choiceNow_223 : decode cX12_choiceNow 223 = .ok (.if_icmp .ge 8, 3) := by decide +kernel
theorem dX12_choiceNow_226 : decode cX12_choiceNow 226 = .ok (.bipush 8, 2) := by decide +kernel
theorem dX12_choiceNow_228 : decode cX12_choiceNow 228 = .ok (.goto 5, 3) := by decide +kernel
theorem dX12_choiceNow_231 : decode cX12_choiceNow 231 = .ok (.bipush 11, 2) := by decide +kernel
theorem dX12_choiceNow_233 : decode cX12_choiceNow 233 = .ok (.putfield 231, 3) := by decide +kernel
theorem dX12_choiceNow_236 : decode cX12_choiceNow 236 = .ok (.return_, 1) := by decide +kernel
theorem dX12_matchNow_0 : decode cX12_matchNow 0 = .ok (.aload_n 0, 1) := by decide +kernel
theorem dX12_matchNow_1 : decode cX12_matchNow 1 = .ok (.sipush 1024, 3) := by decide +kernel
theorem dX12_matchNow_4 : decode cX12_matchNow 4 = .ok (.invokevirtual 531, 3) := by decide +kernel
theorem dX12_matchNow_7 : decode cX12_matchNow 7 = .ok (.istore_n 2, 1) := by decide +kernel
theorem dX12_matchNow_8 : decode cX12_matchNow 8 = .ok (.aload_n 0, 1) := by decide +kernel
theorem dX12_matchNow_9 : decode cX12_matchNow 9 = .ok (.iload_n 2, 1) := by decide +kernel
theorem dX12_matchNow_10 : decode cX12_matchNow 10 = .ok (.invokevirtual 534, 3) := by decide +kernel
theorem dX12_matchNow_13 : decode cX12_matchNow 13 = .ok (.lstore_n 3, 1) := by decide +kernel
theorem dX12_matchNow_14 : decode cX12_matchNow 14 = .ok (.aload_n 0, 1) := by decide +kernel
theorem dX12_matchNow_15 : decode cX12_matchNow 15 = .ok (.getfield 470, 3) := by decide +kernel
theorem dX12_matchNow_18 : decode cX12_matchNow 18 = .ok (.ifCond .le 4, 3) := by decide +kernel
theorem dX12_matchNow_21 : decode cX12_matchNow 21 = .ok (.return_, 1) := by decide +kernel
theorem dX12_matchNow_22 : decode cX12_matchNow 22 = .ok (.lload_n 3, 1) := by decide +kernel
theorem dX12_matchNow_23 : decode cX12_matchNow 23 = .ok (.ldc2_w 280, 3) := by decide +kernel
theorem dX12_matchNow_26 : decode cX12_matchNow 26 = .ok (.lcmp, 1) := by decide +kernel
theorem dX12_matchNow_27 : decode cX12_matchNow 27 = .ok (.ifCond .ne 26, 3) := by decide +kernel
theorem dX12_matchNow_30 : decode cX12_matchNow 30 = .ok (.aload_n 0, 1) := by decide +kernel
theorem dX12_matchNow_31 : decode cX12_matchNow 31 = .ok (.iconst 1, 1) := by decide +kernel
theorem dX12_matchNow_32 : decode cX12_matchNow 32 = .ok (.putfield 538, 3) := by decide +kernel
theorem dX12_matchNow_35 : decode cX12_matchNow 35 = .ok (.aload_n 0, 1) := by decide +kernel
theorem dX12_matchNow_36 : decode cX12_matchNow 36 = .ok (.bipush 7, 2) := by decide +kernel
theorem dX12_matchNow_38 : decode cX12_matchNow 38 = .ok (.aload_n 0, 1) := by decide +kernel
theorem dX12_matchNow_39 : decode cX12_matchNow 39 = .ok (.getfield 505, 3) := by decide +kernel
theorem dX12_matchNow_42 : decode cX12_matchNow 42 = .ok (.aload_n 0, 1) := by decide +kernel
theorem dX12_matchNow_43 : decode cX12_matchNow 43 = .ok (.getfield 208, 3) := by decide +kernel
theorem dX12_matchNow_46 : decode cX12_matchNow 46 = .ok (.iadd, 1) := by decide +kernel
theorem dX12_matchNow_47 : decode cX12_matchNow 47 = .ok (.iconst 0, 1) := by decide +kernel
theorem dX12_matchNow_48 : decode cX12_matchNow 48 = .ok (.iconst 0, 1) := by decide +kernel
theorem dX12_matchNow_49 : decode cX12_matchNow 49 = .ok (.invokevirtual 375, 3) := by decide +kernel
theorem dX12_matchNow_52 : decode cX12_matchNow 52 = .ok (.return_, 1) := by decide +kernel
theorem dX12_matchNow_53 : decode cX12_matchNow 53 = .ok (.iload_n 1, 1) := by decide +kernel
theorem dX12_matchNow_54 : decode cX12_matchNow 54 = .ok (.ifCond .eq 10, 3) := by decide +kernel
theorem dX12_matchNow_57 : decode cX12_matchNow 57 = .ok (.aload_n 0, 1) := by decide +kernel
theorem dX12_matchNow_58 : decode cX12_matchNow 58 = .ok (.bipush 7, 2) := by decide +kernel
theorem dX12_matchNow_60 : decode cX12_matchNow 60 = .ok (.invokevirtual 479, 3) := by decide +kernel
theorem dX12_matchNow_63 : decode cX12_matchNow 63 = .ok (.return_, 1) := by decide +kernel
theorem dX12_matchNow_64 : decode cX12_matchNow 64 = .ok (.aload_n 0, 1) := by decide +kernel
theorem dX12_matchNow_65 : decode cX12_matchNow 65 = .ok (.iconst 1, 1) := by decide +kernel
theorem dX12_matchNow_66 : decode cX12_matchNow 66 = .ok (.iload_n 2, 1) := by decide +kernel
theorem dX12_matchNow_67 : decode cX12_matchNow 67 = .ok (.lload_n 3, 1) := by decide +kernel
theorem dX12_matchNow_68 : decode cX12_matchNow 68 = .ok (.invokevirtual 527, 3) := by decide +kernel
theorem dX12_matchNow_71 : decode cX12_matchNow 71 = .ok (.ifCond .eq 29, 3) := by decide +kernel
theorem dX12_matchNow_74 : decode cX12_matchNow 74 = .ok (.aload_n 0, 1) := by decide +kernel
theorem dX12_matchNow_75 : decode cX12_matchNow 75 = .ok (.lload_n 3, 1) := by decide +kernel
theorem dX12_matchNow_76 : decode cX12_matchNow 76 = .ok (.l2i, 1) := by decide +kernel
theorem dX12_matchNow_77 : decode cX12_matchNow 77 = .ok (.invokevirtual 388, 3) := by decide +kernel
theorem dX12_matchNow_80 : decode cX12_matchNow 80 = .ok (.aload_n 0, 1) := by decide +kernel
theorem dX12_matchNow_81 : decode cX12_matchNow 81 = .ok (.aload_n 0, 1) := by decide +kernel
theorem dX12_matchNow_82 : decode cX12_matchNow 82 = .ok (.getfield 231, 3) := by decide +kernel
theorem dX12_matchNow_85 : decode cX12_matchNow 85 = .ok (.bipush 7, 2) := by decide +kernel
theorem dX12_matchNow_87 : decode cX12_matchNow 87 = .ok (.if_icmp .ge 8, 3) := by decide +kernel
theorem dX12_matchNow_90 : decode cX12_matchNow 90 = .ok (.bipush 7, 2) := by decide +kernel
theorem dX12_matchNow_92 : decode cX12_matchNow 92 = .ok (.goto 5, 3) := by decide +kernel
theorem dX12_matchNow_95 : decode cX12_matchNow 95 = .ok (.bipush 10, 2) := by decide +kernel
theorem dX12_matchNow_97 : decode cX12_matchNow 97 = .ok (.putfield 231, 3) := by decide +kernel
theorem dX12_matchNow_100 : decode cX12_matchNow 100 = .ok (.return_, 1) := by decide +kernel
theorem dX12_readProperty_0 : decode cX12_readProperty 0 = .ok (.aload_n 0, 1) := by decide +kernel
theorem dX12_readProperty_1 : decode cX12_readProperty 1 = .ok (.invokevirtual 482, 3) := by decide +kernel
theorem dX12_readProperty_4 : decode cX12_readProperty 4 = .ok (.istore_n 1, 1) := by decide +kernel
theorem dX12_readProperty_5 : decode cX12_readProperty 5 = .ok (.aload_n 0, 1) := by decide +kernel
theorem dX12_readProperty_6 : decode cX12_readProperty 6 = .ok (.getfield 470, 3) := by decide +kernel
theorem dX12_readProperty_9 : decode cX12_readProperty 9 = .ok (.ifCond .le 5, 3) := by decide +kernel
theorem dX12_readProperty_12 : decode cX12_readProperty 12 = .ok (.iconst 0, 1) := by decide +kernel
theorem dX12_readProperty_13 : decode cX12_readProperty 13 = .ok (.ireturn, 1) := by decide +kernel
theorem dX12_readProperty_14 : decode cX12_readProperty 14 = .ok (.aload_n 0, 1) := by decide +kernel
theorem dX12_readProperty_15 : decode cX12_readProperty 15 = .ok (.iload_n 1, 1) := by decide +kernel
theorem dX12_readProperty_16 : decode cX12_readProperty 16 = .ok (.bipush 9, 2) := by decide +kernel
theorem dX12_readProperty_18 : decode cX12_readProperty 18 = .ok (.irem, 1) := by decide +kernel
theorem dX12_readProperty_19 : decode cX12_readProperty 19 = .ok (.putfield 258, 3) := by decide +kernel
theorem dX12_readProperty_22 : decode cX12_readProperty 22 = .ok (.aload_n 0, 1) := by decide +kernel
theorem dX12_readProperty_23 : decode cX12_readProperty 23 = .ok (.iload_n 1, 1) := by decide +kernel
theorem dX12_readProperty_24 : decode cX12_readProperty 24 = .ok (.bipush 9, 2) := by decide +kernel
theorem dX12_readProperty_26 : decode cX12_readProperty 26 = .ok (.idiv, 1) := by decide +kernel
theorem dX12_readProperty_27 : decode cX12_readProperty 27 = .ok (.iconst 5, 1) := by decide +kernel
theorem dX12_readProperty_28 : decode cX12_readProperty 28 = .ok (.irem, 1) := by decide +kernel
theorem dX12_readProperty_29 : decode cX12_readProperty 29 = .ok (.putfield 255, 3) := by decide +kernel
theorem dX12_readProperty_32 : decode cX12_readProperty 32 = .ok (.aload_n 0, 1) := by decide +kernel
theorem dX12_readProperty_33 : decode cX12_readProperty 33 = .ok (.iload_n 1, 1) := by decide +kernel
theorem dX12_readProperty_34 : decode cX12_readProperty 34 = .ok (.bipush 45, 2) := by decide +kernel
theorem dX12_readProperty_36 : decode cX12_readProperty 36 = .ok (.idiv, 1) := by decide +kernel
theorem dX12_readProperty_37 : decode cX12_readProperty 37 = .ok (.putfield 252, 3) := by decide +kernel
theorem dX12_readProperty_40 : decode cX12_readProperty 40 = .ok (.iload_n 1, 1) := by decide +kernel
theorem dX12_readProperty_41 : decode cX12_readProperty 41 = .ok (.sipush 225, 3) := by decide +kernel
theorem dX12_readProperty_44 : decode cX12_readProperty 44 = .ok (.if_icmp .ge 16, 3) := by decide +kernel
theorem dX12_readProperty_47 : decode cX12_readProperty 47 = .ok (.aload_n 0, 1) := by decide +kernel
theorem dX12_readProperty_48 : decode cX12_readProperty 48 = .ok (.getfield 258, 3) := by decide +kernel
theorem dX12_readProperty_51 : decode cX12_readProperty 51 = .ok (.aload_n 0, 1) := by decide +kernel
theorem dX12_readProperty_52 : decode cX12_readProperty 52 = .ok (.getfield 255, 3) := by decide +kernel
theorem dX12_readProperty_55 : decode cX12_readProperty 55 = .ok (.iadd, 1) := by decide +kernel
theorem dX12_readProperty_56 : decode cX12_readProperty 56 = .ok (.iconst 4, 1) := by decide +kernel
theorem dX12_readProperty_57 : decode cX12_readProperty 57 = .ok (.if_icmp .le 10, 3) := by decide +kernel
theorem dX12_readProperty_60 : decode cX12_readProperty 60 = .ok (.aload_n 0, 1) := by decide +kernel
theorem dX12_readProperty_61 : decode cX12_readProperty 61 = .ok (.iconst 3, 1) := by decide +kernel
theorem dX12_readProperty_62 : decode cX12_readProperty 62 = .ok (.invokevirtual 479, 3) := by decide +kernel
theorem dX12_readProperty_65 : decode cX12_readProperty 65 = .ok (.iconst 0, 1) := by decide +kernel
theorem dX12_readProperty_66 : decode cX12_readProperty 66 = .ok (.ireturn, 1) := by decide +kernel
theorem dX12_readProperty_67 : decode cX12_readProperty 67 = .ok (.iconst 1, 1) := by decide +kernel
theorem dX12_readProperty_68 : decode cX12_readProperty 68 = .ok (.ireturn, 1) := by decide +kernel
theorem dX12_openPlain_0 : decode cX12_openPlain 0 = .ok (.aload_n 0, 1) := by decide +kernel
theorem dX12_openPlain_1 : decode cX12_openPlain 1 = .ok (.invokevirtual 542, 3) := by decide +kernel
theorem dX12_openPlain_4 : decode cX12_openPlain 4 = .ok (.ifCond .ne 4, 3) := by decide +kernel
theorem dX12_openPlain_7 : decode cX12_openPlain 7 = .ok (.return_, 1) := by decide +kernel
theorem dX12_openPlain_8 : decode cX12_openPlain 8 = .ok (.aload_n 0, 1) := by decide +kernel
theorem dX12_openPlain_9 : decode cX12_openPlain 9 = .ok (.aload_n 0, 1) := by decide +kernel
theorem dX12_openPlain_10 : decode cX12_openPlain 10 = .ok (.iconst 4, 1) := by decide +kernel
theorem dX12_openPlain_11 : decode cX12_openPlain 11 = .ok (.invokevirtual 546, 3) := by decide +kernel
theorem dX12_openPlain_14 : decode cX12_openPlain 14 = .ok (.putfield 515, 3) := by decide +kernel
theorem dX12_openPlain_17 : decode cX12_openPlain 17 = .ok (.aload_n 0, 1) := by decide +kernel
theorem dX12_openPlain_18 : decode cX12_openPlain 18 = .ok (.getfield 470, 3) := by decide +kernel
theorem dX12_openPlain_21 : decode cX12_openPlain 21 = .ok (.ifCond .ne 19, 3) := by decide +kernel
theorem dX12_openPlain_24 : decode cX12_openPlain 24 = .ok (.aload_n 0, 1) := by decide +kernel
theorem dX12_openPlain_25 : decode cX12_openPlain 25 = .ok (.getfield 515, 3) := by decide +kernel
theorem dX12_openPlain_28 : decode cX12_openPlain 28 = .ok (.iload_n 1, 1) := by decide +kernel
theorem dX12_openPlain_29 : decode cX12_openPlain 29 = .ok (.i2l, 1) := by decide +kernel
theorem dX12_openPlain_30 : decode cX12_openPlain 30 = .ok (.lcmp, 1) := by decide +kernel
theorem dX12_openPlain_31 : decode cX12_openPlain 31 = .ok (.ifCond .le 9, 3) := by decide +kernel
theorem dX12_openPlain_34 : decode cX12_openPlain 34 = .ok (.aload_n 0, 1) := by decide +kernel
theorem dX12_openPlain_35 : decode cX12_openPlain 35 = .ok (.bipush 15, 2) := by decide +kernel
theorem dX12_openPlain_37 : decode cX12_openPlain 37 = .ok (.invokevirtual 479, 3) := by decide +kernel
theorem dX12_openPlain_40 : decode cX12_openPlain 40 = .ok (.aload_n 0, 1) := by decide +kernel
theorem dX12_openPlain_41 : decode cX12_openPlain 41 = .ok (.bipush 8, 2) := by decide +kernel
theorem dX12_openPlain_43 : decode cX12_openPlain 43 = .ok (.invokevirtual 546, 3) := by decide +kernel
theorem dX12_openPlain_46 : decode cX12_openPlain 46 = .ok (.lstore_n 2, 1) := by decide +kernel
theorem dX12_openPlain_47 : decode cX12_openPlain 47 = .ok (.aload_n 0, 1) := by decide +kernel
theorem dX12_openPlain_48 : decode cX12_openPlain 48 = .ok (.getfield 470, 3) := by decide +kernel
theorem dX12_openPlain_51 : decode cX12_openPlain 51 = .ok (.ifCond .ne 31, 3) := by decide +kernel
theorem dX12_openPlain_54 : decode cX12_openPlain 54 = .ok (.lload_n 2, 1) := by decide +kernel
theorem dX12_openPlain_55 : decode cX12_openPlain 55 = .ok (.ldc2_w 177, 3) := by decide +kernel
theorem dX12_openPlain_58 : decode cX12_openPlain 58 = .ok (.lcmp, 1) := by decide +kernel
theorem dX12_openPlain_59 : decode cX12_openPlain 59 = .ok (.ifCond .eq 23, 3) := by decide +kernel
theorem dX12_openPlain_62 : decode cX12_openPlain 62 = .ok (.lload_n 2, 1) := by decide +kernel
theorem dX12_openPlain_63 : decode cX12_openPlain 63 = .ok (.lconst 0, 1) := by decide +kernel
theorem dX12_openPlain_64 : decode cX12_openPlain 64 = .ok (.lcmp, 1) := by decide +kernel
theorem dX12_openPlain_65 : decode cX12_openPlain 65 = .ok (.ifCond .lt 11, 3) := by decide +kernel
theorem dX12_openPlain_68 : decode cX12_openPlain 68 = .ok (.lload_n 2, 1) := by decide +kernel
theorem dX12_openPlain_69 : decode cX12_openPlain 69 = .ok (.ldc2_w 549, 3) := by decide +kernel
theorem dX12_openPlain_72 : decode cX12_openPlain 72 = .ok (.lcmp, 1) := by decide +kernel
theorem dX12_openPlain_73 : decode cX12_openPlain 73 = .ok (.ifCond .le 9, 3) := by decide +kernel
theorem dX12_openPlain_76 : decode cX12_openPlain 76 = .ok (.aload_n 0, 1) := by decide +kernel
theorem dX12_openPlain_77 : decode cX12_openPlain 77 = .ok (.bipush 13, 2) := by decide +kernel
theorem dX12_openPlain_79 : decode cX12_openPlain 79 = .ok (.invokevirtual 479, 3) := by decide +kernel
theorem dX12_openPlain_82 : decode cX12_openPlain 82 = .ok (.aload_n 0, 1) := by decide +kernel
theorem dX12_openPlain_83 : decode cX12_openPlain 83 = .ok (.invokevirtual 551, 3) := by decide +kernel
theorem dX12_openPlain_86 : decode cX12_openPlain 86 = .ok (.aload_n 0, 1) := by decide +kernel
theorem dX12_openPlain_87 : decode cX12_openPlain 87 = .ok (.invokevirtual 407, 3) := by decide +kernel
theorem dX12_openPlain_90 : decode cX12_openPlain 90 = .ok (.aload_n 0, 1) := by decide +kernel
theorem dX12_openPlain_91 : decode cX12_openPlain 91 = .ok (.lload_n 2, 1) := by decide +kernel
theorem dX12_openPlain_92 : decode cX12_openPlain 92 = .ok (.ldc2_w 177, 3) := by decide +kernel
theorem dX12_openPlain_95 : decode cX12_openPlain 95 = .ok (.lcmp, 1) := by decide +kernel
theorem dX12_openPlain_96 : decode cX12_openPlain 96 = .ok (.ifCond .ne 7, 3) := by decide +kernel
theorem dX12_openPlain_99 : decode cX12_openPlain 99 = .ok (.iconst (-1), 1) := by decide +kernel
theorem dX12_openPlain_100 : decode cX12_openPlain 100 = .ok (.goto 5, 3) := by decide +kernel
theorem dX12_openPlain_103 : decode cX12_openPlain 103 = .ok (.lload_n 2, 1) := by decide +kernel
theorem dX12_openPlain_104 : decode cX12_openPlain 104 = .ok (.l2i, 1) := by decide +kernel
theorem dX12_openPlain_105 : decode cX12_openPlain 105 = .ok (.putfield 518, 3) := by decide +kernel
theorem dX12_openPlain_108 : decode cX12_openPlain 108 = .ok (.aload_n 0, 1) := by decide +kernel
theorem dX12_openPlain_109 : decode cX12_openPlain 109 = .ok (.getfield 470, 3) := by decide +kernel
theorem dX12_openPlain_112 : decode cX12_openPlain 112 = .ok (.ifCond .ne 36, 3) := by decide +kernel
theorem dX12_openPlain_115 : decode cX12_openPlain 115 = .ok (.aload_n 0, 1) := by decide +kernel
theorem dX12_openPlain_116 : decode cX12_openPlain 116 = .ok (.getfield 538, 3) := by decide +kernel
theorem dX12_openPlain_119 : decode cX12_openPlain 119 = .ok (.ifCond .ne 29, 3) := by decide +kernel
theorem dX12_openPlain_122 : decode cX12_openPlain 122 = .ok (.aload_n 0, 1) := by decide +kernel
theorem dX12_openPlain_123 : decode cX12_openPlain 123 = .ok (.getfield 518, 3) := by decide +kernel
theorem dX12_openPlain_126 : decode cX12_openPlain 126 = .ok (.ifCond .lt 14, 3) := by decide +kernel
theorem dX12_openPlain_129 : decode cX12_openPlain 129 = .ok (.aload_n 0, 1) := by decide +kernel
theorem dX12_openPlain_130 : decode cX12_openPlain 130 = .ok (.getfield 208, 3) := by decide +kernel
theorem dX12_openPlain_133 : decode cX12_openPlain 133 = .ok (.aload_n 0, 1) := by decide +kernel
theorem dX12_openPlain_134 : decode cX12_openPlain 134 = .ok (.getfield 518, 3) := by decide +kernel
theorem dX12_openPlain_137 : decode cX12_openPlain 137 = .ok (.if_icmp .ge 11, 3) := by decide +kernel
theorem dX12_openPlain_140 : decode cX12_openPlain 140 = .ok (.aload_n 0, 1) := by decide +kernel
theorem dX12_openPlain_141 : decode cX12_openPlain 141 = .ok (.iconst 0, 1) := by decide +kernel
theorem dX12_openPlain_142 : decode cX12_openPlain 142 = .ok (.invokevirtual 554, 3) := by decide +kernel
theorem dX12_openPlain_145 : decode cX12_openPlain 145 = .ok (.goto (-37), 3) := by decide +kernel
theorem dX12_openPlain_148 : decode cX12_openPlain 148 = .ok (.aload_n 0, 1) := by decide +kernel
theorem dX12_openPlain_149 : decode cX12_openPlain 149 = .ok (.getfield 470, 3) := by decide +kernel
theorem dX12_openPlain_152 : decode cX12_openPlain 152 = .ok (.ifCond .le 4, 3) := by decide +kernel
theorem dX12_openPlain_155 : decode cX12_openPlain 155 = .ok (.return_, 1) := by decide +kernel
theorem dX12_openPlain_156 : decode cX12_openPlain 156 = .ok (.aload_n 0, 1) := by decide +kernel
theorem dX12_openPlain_157 : decode cX12_openPlain 157 = .ok (.getfield 518, 3) := by decide +kernel
theorem dX12_openPlain_160 : decode cX12_openPlain 160 = .ok (.ifCond .lt 17, 3) := by decide +kernel
theorem dX12_openPlain_163 : decode cX12_openPlain 163 = .ok (.aload_n 0, 1) := by decide +kernel
theorem dX12_openPlain_164 : decode cX12_openPlain 164 = .ok (.getfield 538, 3) := by decide +kernel
theorem dX12_openPlain_167 : decode cX12_openPlain 167 = .ok (.ifCond .eq 10, 3) := by decide +kernel
theorem dX12_openPlain_170 : decode cX12_openPlain 170 = .ok (.aload_n 0, 1) := by decide +kernel
theorem dX12_openPlain_171 : decode cX12_openPlain 171 = .ok (.bipush 7, 2) := by decide +kernel
theorem dX12_openPlain_173 : decode cX12_openPlain 173 = .ok (.invokevirtual 479, 3) := by decide +kernel
theorem dX12_openPlain_176 : decode cX12_openPlain 176 = .ok (.return_, 1) := by decide +kernel
theorem dX12_openPlain_177 : decode cX12_openPlain 177 = .ok (.aload_n 0, 1) := by decide +kernel
theorem dX12_openPlain_178 : decode cX12_openPlain 178 = .ok (.getfield 518, 3) := by decide +kernel
theorem dX12_openPlain_181 : decode cX12_openPlain 181 = .ok (.ifCond .lt 17, 3) := by decide +kernel
theorem dX12_openPlain_184 : decode cX12_openPlain 184 = .ok (.aload_n 0, 1) := by decide +kernel
theorem dX12_openPlain_185 : decode cX12_openPlain 185 = .ok (.getfield 485, 3) := by decide +kernel
theorem dX12_openPlain_188 : decode cX12_openPlain 188 = .ok (.lconst 0, 1) := by decide +kernel
theorem dX12_openPlain_189 : decode cX12_openPlain 189 = .ok (.lcmp, 1) := by decide +kernel
theorem dX12_openPlain_190 : decode cX12_openPlain 190 = .ok (.ifCond .eq 8, 3) := by decide +kernel
theorem dX12_openPlain_193 : decode cX12_openPlain 193 = .ok (.aload_n 0, 1) := by decide +kernel
theorem dX12_openPlain_194 : decode cX12_openPlain 194 = .ok (.iconst 1, 1) := by decide +kernel
theorem dX12_openPlain_195 : decode cX12_openPlain 195 = .ok (.invokevirtual 554, 3) := by decide +kernel
theorem dX12_openPlain_198 : decode cX12_openPlain 198 = .ok (.aload_n 0, 1) := by decide +kernel
theorem dX12_openPlain_199 : decode cX12_openPlain 199 = .ok (.getfield 470, 3) := by decide +kernel
theorem dX12_openPlain_202 : decode cX12_openPlain 202 = .ok (.ifCond .ne 18, 3) := by decide +kernel
theorem dX12_openPlain_205 : decode cX12_openPlain 205 = .ok (.aload_n 0, 1) := by decide +kernel
theorem dX12_openPlain_206 : decode cX12_openPlain 206 = .ok (.getfield 485, 3) := by decide +kernel
theorem dX12_openPlain_209 : decode cX12_openPlain 209 = .ok (.lconst 0, 1) := by decide +kernel
theorem dX12_openPlain_210 : decode cX12_openPlain 210 = .ok (.lcmp, 1) := by decide +kernel
theorem dX12_openPlain_211 : decode cX12_openPlain 211 = .ok (.ifCond .eq 9, 3) := by decide +kernel
theorem dX12_openPlain_214 : decode cX12_openPlain 214 = .ok (.aload_n 0, 1) := by decide +kernel
theorem dX12_openPlain_215 : decode cX12_openPlain 215 = .ok (.bipush 7, 2) := by decide +kernel
theorem dX12_openPlain_217 : decode cX12_openPlain 217 = .ok (.invokevirtual 479, 3) := by decide +kernel
theorem dX12_openPlain_220 : decode cX12_openPlain 220 = .ok (.return_, 1) := by decide +kernel
theorem dX12_openChunks_0 : decode cX12_openChunks 0 = .ok (.aload_n 0, 1) := by decide +kernel
theorem dX12_openChunks_1 : decode cX12_openChunks 1 = .ok (.iconst 3, 1) := by decide +kernel
theorem dX12_openChunks_2 : decode cX12_openChunks 2 = .ok (.putfield 557, 3) := by decide +kernel
theorem dX12_openChunks_5 : decode cX12_openChunks 5 = .ok (.aload_n 0, 1) := by decide +kernel
theorem dX12_openChunks_6 : decode cX12_openChunks 6 = .ok (.iconst 0, 1) := by decide +kernel
theorem dX12_openChunks_7 : decode cX12_openChunks 7 = .ok (.putfield 434, 3) := by decide +kernel
theorem dX12_openChunks_10 : decode cX12_openChunks 10 = .ok (.aload_n 0, 1) := by decide +kernel
theorem dX12_openChunks_11 : decode cX12_openChunks 11 = .ok (.aload_n 0, 1) := by decide +kernel
theorem dX12_openChunks_12 : decode cX12_openChunks 12 = .ok (.getfield 208, 3) := by decide +kernel
theorem dX12_openChunks_15 : decode cX12_openChunks 15 = .ok (.putfield 508, 3) := by decide +kernel
theorem dX12_openChunks_18 : decode cX12_openChunks 18 = .ok (.iconst 1, 1) := by decide +kernel
theorem dX12_openChunks_19 : decode cX12_openChunks 19 = .ok (.istore_n 1, 1) := by decide +kernel
theorem dX12_openChunks_20 : decode cX12_openChunks 20 = .ok (.iconst 0, 1) := by decide +kernel
theorem dX12_openChunks_21 : decode cX12_openChunks 21 = .ok (.istore_n 2, 1) := by decide +kernel
theorem dX12_openChunks_22 : decode cX12_openChunks 22 = .ok (.aload_n 0, 1) := by decide +kernel
theorem dX12_openChunks_23 : decode cX12_openChunks 23 = .ok (.invokevirtual 407, 3) := by decide +kernel
theorem dX12_openChunks_26 : decode cX12_openChunks 26 = .ok (.iload_n 1, 1) := by decide +kernel
theorem dX12_openChunks_27 : decode cX12_openChunks 27 = .ok (.ifCond .eq 105, 3) := by decide +kernel
theorem dX12_openChunks_30 : decode cX12_openChunks 30 = .ok (.aload_n 0, 1) := by decide +kernel
theorem dX12_openChunks_31 : decode cX12_openChunks 31 = .ok (.getfield 470, 3) := by decide +kernel
theorem dX12_openChunks_34 : decode cX12_openChunks 34 = .ok (.ifCond .ne 98, 3) := by decide +kernel
theorem dX12_openChunks_37 : decode cX12_openChunks 37 = .ok (.aload_n 0, 1) := by decide +kernel
theorem dX12_openChunks_38 : decode cX12_openChunks 38 = .ok (.invokevirtual 482, 3) := by decide +kernel
theorem dX12_openChunks_41 : decode cX12_openChunks 41 = .ok (.istore_n 3, 1) := by decide +kernel
theorem dX12_openChunks_42 : decode cX12_openChunks 42 = .ok (.aload_n 0, 1) := by decide +kernel
theorem dX12_openChunks_43 : decode cX12_openChunks 43 = .ok (.getfield 470, 3) := by decide +kernel
theorem dX12_openChunks_46 : decode cX12_openChunks 46 = .ok (.ifCond .gt 7, 3) := by decide +kernel
theorem dX12_openChunks_49 : decode cX12_openChunks 49 = .ok (.iload_n 3, 1) := by decide +kernel
theorem dX12_openChunks_50 : decode cX12_openChunks 50 = .ok (.ifCond .ne 8, 3) := by decide +kernel
theorem dX12_openChunks_53 : decode cX12_openChunks 53 = .ok (.iconst 0, 1) := by decide +kernel
theorem dX12_openChunks_54 : decode cX12_openChunks 54 = .ok (.istore_n 1, 1) := by decide +kernel
theorem dX12_openChunks_55 : decode cX12_openChunks 55 = .ok (.goto 74, 3) := by decide +kernel
theorem dX12_openChunks_58 : decode cX12_openChunks 58 = .ok (.iload_n 3, 1) := by decide +kernel
theorem dX12_openChunks_59 : decode cX12_openChunks 59 = .ok (.iconst 3, 1) := by decide +kernel
theorem dX12_openChunks_60 : decode cX12_openChunks 60 = .ok (.if_icmp .ge 30, 3) := by decide +kernel
theorem dX12_openChunks_63 : decode cX12_openChunks 63 = .ok (.iload_n 3, 1) := by decide +kernel
theorem dX12_openChunks_64 : decode cX12_openChunks 64 = .ok (.iconst 2, 1) := by decide +kernel
theorem dX12_openChunks_65 : decode cX12_openChunks 65 = .ok (.if_icmp .ne 15, 3) := by decide +kernel
theorem dX12_openChunks_68 : decode cX12_openChunks 68 = .ok (.iload_n 2, 1) := by decide +kernel
theorem dX12_openChunks_69 : decode cX12_openChunks 69 = .ok (.ifCond .ne 11, 3) := by decide +kernel
theorem dX12_openChunks_72 : decode cX12_openChunks 72 = .ok (.aload_n 0, 1) := by decide +kernel
theorem dX12_openChunks_73 : decode cX12_openChunks 73 = .ok (.iconst 5, 1) := by decide +kernel
theorem dX12_openChunks_74 : decode cX12_openChunks 74 = .ok (.invokevirtual 479, 3) := by decide +kernel
theorem dX12_openChunks_77 : decode cX12_openChunks 77 = .ok (.goto 52, 3) := by decide +kernel
theorem dX12_openChunks_80 : decode cX12_openChunks 80 = .ok (.iconst 1, 1) := by decide +kernel
theorem dX12_openChunks_81 : decode cX12_openChunks 81 = .ok (.istore_n 2, 1) := by decide +kernel
theorem dX12_openChunks_82 : decode cX12_openChunks 82 = .ok (.aload_n 0, 1) := by decide +kernel
theorem dX12_openChunks_83 : decode cX12_openChunks 83 = .ok (.iload_n 3, 1) := by decide +kernel
theorem dX12_openChunks_84 : decode cX12_openChunks 84 = .ok (.invokevirtual 560, 3) := by decide +kernel
theorem dX12_openChunks_87 : decode cX12_openChunks 87 = .ok (.goto 42, 3) := by decide +kernel
theorem dX12_openChunks_90 : decode cX12_openChunks 90 = .ok (.iload_n 3, 1) := by decide +kernel
theorem dX12_openChunks_91 : decode cX12_openChunks 91 = .ok (.sipush 128, 3) := by decide +kernel
theorem dX12_openChunks_94 : decode cX12_openChunks 94 = .ok (.if_icmp .lt 15, 3) := by decide +kernel
theorem dX12_openChunks_97 : decode cX12_openChunks 97 = .ok (.iload_n 3, 1) := by decide +kernel
theorem dX12_openChunks_98 : decode cX12_openChunks 98 = .ok (.iconst 5, 1) := by decide +kernel
theorem dX12_openChunks_99 : decode cX12_openChunks 99 = .ok (.ishr, 1) := by decide +kernel
theorem dX12_openChunks_100 : decode cX12_openChunks 100 = .ok (.iconst 3, 1) := by decide +kernel
theorem dX12_openChunks_101 : decode cX12_openChunks 101 = .ok (.iand, 1) := by decide +kernel
theorem dX12_openChunks_102 : decode cX12_openChunks 102 = .ok (.aload_n 0, 1) := by decide +kernel
theorem dX12_openChunks_103 : decode cX12_openChunks 103 = .ok (.getfield 557, 3) := by decide +kernel
theorem dX12_openChunks_106 : decode cX12_openChunks 106 = .ok (.if_icmp .ge 11, 3) := by decide +kernel
theorem dX12_openChunks_109 : decode cX12_openChunks 109 = .ok (.aload_n 0, 1) := by decide +kernel
theorem dX12_openChunks_110 : decode cX12_openChunks 110 = .ok (.iconst 5, 1) := by decide +kernel
theorem dX12_openChunks_111 : decode cX12_openChunks 111 = .ok (.invokevirtual 479, 3) := by decide +kernel
theorem dX12_openChunks_114 : decode cX12_openChunks 114 = .ok (.goto 15, 3) := by decide +kernel
theorem dX12_openChunks_117 : decode cX12_openChunks 117 = .ok (.iconst 1, 1) := by decide +kernel
theorem dX12_openChunks_118 : decode cX12_openChunks 118 = .ok (.istore_n 2, 1) := by decide +kernel
theorem dX12_openChunks_119 : decode cX12_openChunks 119 = .ok (.aload_n 0, 1) := by decide +kernel
theorem dX12_openChunks_120 : decode cX12_openChunks 120 = .ok (.iload_n 3, 1) := by decide +kernel
theorem dX12_openChunks_121 : decode cX12_openChunks 121 = .ok (.iload_n 3, 1) := by decide +kernel
theorem dX12_openChunks_122 : decode cX12_openChunks 122 = .ok (.iconst 5, 1) := by decide +kernel
theorem dX12_openChunks_123 : decode cX12_openChunks 123 = .ok (.ishr, 1) := by decide +kernel
theorem dX12_openChunks_124 : decode cX12_openChunks 124 = .ok (.iconst 3, 1) := by decide +kernel
theorem dX12_openChunks_125 : decode cX12_openChunks 125 = .ok (.iand, 1) := by decide +kernel
theorem dX12_openChunks_126 : decode cX12_openChunks 126 = .ok (.invokevirtual 563, 3) := by decide +kernel
theorem dX12_openChunks_129 : decode cX12_openChunks 129 = .ok (.goto (-103), 3) := by decide +kernel
theorem dX12_openChunks_132 : decode cX12_openChunks 132 = .ok (.return_, 1) := by decide +kernel
theorem dX12_plainChunk_0 : decode cX12_plainChunk 0 = .ok (.iload_n 1, 1) := by decide +kernel
theorem dX12_plainChunk_1 : decode cX12_plainChunk 1 = .ok (.iconst 1, 1) := by decide +kernel
theorem dX12_plainChunk_2 : decode cX12_plainChunk 2 = .ok (.if_icmp .ne 24, 3) := by decide +kernel
theorem dX12_plainChunk_5 : decode cX12_plainChunk 5 = .ok (.aload_n 0, 1) := by decide +kernel
theorem dX12_plainChunk_6 : decode cX12_plainChunk 6 = .ok (.aload_n 0, 1) := by decide +kernel
theorem dX12_plainChunk_7 : decode cX12_plainChunk 7 = .ok (.getfield 208, 3) := by decide +kernel
theorem dX12_plainChunk_10 : decode cX12_plainChunk 10 = .ok (.putfield 508, 3) := by decide +kernel
theorem dX12_plainChunk_13 : decode cX12_plainChunk 13 = .ok (.aload_n 0, 1) := by decide +kernel
theorem dX12_plainChunk_14 : decode cX12_plainChunk 14 = .ok (.iconst 0, 1) := by decide +kernel
theorem dX12_plainChunk_15 : decode cX12_plainChunk 15 = .ok (.putfield 249, 3) := by decide +kernel
theorem dX12_plainChunk_18 : decode cX12_plainChunk 18 = .ok (.aload_n 0, 1) := by decide +kernel
theorem dX12_plainChunk_19 : decode cX12_plainChunk 19 = .ok (.iconst 2, 1) := by decide +kernel
theorem dX12_plainChunk_20 : decode cX12_plainChunk 20 = .ok (.putfield 557, 3) := by decide +kernel
theorem dX12_plainChunk_23 : decode cX12_plainChunk 23 = .ok (.goto 23, 3) := by decide +kernel
theorem dX12_plainChunk_26 : decode cX12_plainChunk 26 = .ok (.aload_n 0, 1) := by decide +kernel
theorem dX12_plainChunk_27 : decode cX12_plainChunk 27 = .ok (.aload_n 0, 1) := by decide +kernel
theorem dX12_plainChunk_28 : decode cX12_plainChunk 28 = .ok (.getfield 557, 3) := by decide +kernel
theorem dX12_plainChunk_31 : decode cX12_plainChunk 31 = .ok (.iconst 1, 1) := by decide +kernel
theorem dX12_plainChunk_32 : decode cX12_plainChunk 32 = .ok (.if_icmp .ge 7, 3) := by decide +kernel
theorem dX12_plainChunk_35 : decode cX12_plainChunk 35 = .ok (.iconst 1, 1) := by decide +kernel
theorem dX12_plainChunk_36 : decode cX12_plainChunk 36 = .ok (.goto 7, 3) := by decide +kernel
theorem dX12_plainChunk_39 : decode cX12_plainChunk 39 = .ok (.aload_n 0, 1) := by decide +kernel
theorem dX12_plainChunk_40 : decode cX12_plainChunk 40 = .ok (.getfield 557, 3) := by decide +kernel
theorem dX12_plainChunk_43 : decode cX12_plainChunk 43 = .ok (.putfield 557, 3) := by decide +kernel
theorem dX12_plainChunk_46 : decode cX12_plainChunk 46 = .ok (.aload_n 0, 1) := by decide +kernel
theorem dX12_plainChunk_47 : decode cX12_plainChunk 47 = .ok (.invokevirtual 482, 3) := by decide +kernel
theorem dX12_plainChunk_50 : decode cX12_plainChunk 50 = .ok (.bipush 8, 2) := by decide +kernel
theorem dX12_plainChunk_52 : decode cX12_plainChunk 52 = .ok (.ishl, 1) := by decide +kernel
theorem dX12_plainChunk_53 : decode cX12_plainChunk 53 = .ok (.istore_n 2, 1) := by decide +kernel
theorem dX12_plainChunk_54 : decode cX12_plainChunk 54 = .ok (.iload_n 2, 1) := by decide +kernel
theorem dX12_plainChunk_55 : decode cX12_plainChunk 55 = .ok (.aload_n 0, 1) := by decide +kernel
theorem dX12_plainChunk_56 : decode cX12_plainChunk 56 = .ok (.invokevirtual 482, 3) := by decide +kernel
theorem dX12_plainChunk_59 : decode cX12_plainChunk 59 = .ok (.ior, 1) := by decide +kernel
theorem dX12_plainChunk_60 : decode cX12_plainChunk 60 = .ok (.iconst 1, 1) := by decide +kernel
theorem dX12_plainChunk_61 : decode cX12_plainChunk 61 = .ok (.iadd, 1) := by decide +kernel
theorem dX12_plainChunk_62 : decode cX12_plainChunk 62 = .ok (.istore_n 2, 1) := by decide +kernel
theorem dX12_plainChunk_63 : decode cX12_plainChunk 63 = .ok (.aload_n 0, 1) := by decide +kernel
theorem dX12_plainChunk_64 : decode cX12_plainChunk 64 = .ok (.getfield 470, 3) := by decide +kernel
theorem dX12_plainChunk_67 : decode cX12_plainChunk 67 = .ok (.ifCond .le 4, 3) := by decide +kernel
theorem dX12_plainChunk_70 : decode cX12_plainChunk 70 = .ok (.return_, 1) := by decide +kernel
theorem dX12_plainChunk_71 : decode cX12_plainChunk 71 = .ok (.aload_n 0, 1) := by decide +kernel
theorem dX12_plainChunk_72 : decode cX12_plainChunk 72 = .ok (.dup, 1) := by decide +kernel
theorem dX12_plainChunk_73 : decode cX12_plainChunk 73 = .ok (.getfield 434, 3) := by decide +kernel
theorem dX12_plainChunk_76 : decode cX12_plainChunk 76 = .ok (.iconst 1, 1) := by decide +kernel
theorem dX12_plainChunk_77 : decode cX12_plainChunk 77 = .ok (.iadd, 1) := by decide +kernel
theorem dX12_plainChunk_78 : decode cX12_plainChunk 78 = .ok (.putfield 434, 3) := by decide +kernel
theorem dX12_plainChunk_81 : decode cX12_plainChunk 81 = .ok (.iconst 0, 1) := by decide +kernel
theorem dX12_plainChunk_82 : decode cX12_plainChunk 82 = .ok (.istore_n 3, 1) := by decide +kernel
theorem dX12_plainChunk_83 : decode cX12_plainChunk 83 = .ok (.iload_n 3, 1) := by decide +kernel
theorem dX12_plainChunk_84 : decode cX12_plainChunk 84 = .ok (.iload_n 2, 1) := by decide +kernel
theorem dX12_plainChunk_85 : decode cX12_plainChunk 85 = .ok (.if_icmp .ge 81, 3) := by decide +kernel
theorem dX12_plainChunk_88 : decode cX12_plainChunk 88 = .ok (.aload_n 0, 1) := by decide +kernel
theorem dX12_plainChunk_89 : decode cX12_plainChunk 89 = .ok (.getfield 470, 3) := by decide +kernel
theorem dX12_plainChunk_92 : decode cX12_plainChunk 92 = .ok (.ifCond .ne 74, 3) := by decide +kernel
theorem dX12_plainChunk_95 : decode cX12_plainChunk 95 = .ok (.aload_n 0, 1) := by decide +kernel
theorem dX12_plainChunk_96 : decode cX12_plainChunk 96 = .ok (.invokevirtual 482, 3) := by decide +kernel
theorem dX12_plainChunk_99 : decode cX12_plainChunk 99 = .ok (.istore 4, 2) := by decide +kernel
theorem dX12_plainChunk_101 : decode cX12_plainChunk 101 = .ok (.aload_n 0, 1) := by decide +kernel
theorem dX12_plainChunk_102 : decode cX12_plainChunk 102 = .ok (.getfield 470, 3) := by decide +kernel
theorem dX12_plainChunk_105 : decode cX12_plainChunk 105 = .ok (.ifCond .ne 17, 3) := by decide +kernel
theorem dX12_plainChunk_108 : decode cX12_plainChunk 108 = .ok (.aload_n 0, 1) := by decide +kernel
theorem dX12_plainChunk_109 : decode cX12_plainChunk 109 = .ok (.iconst 1, 1) := by decide +kernel
theorem dX12_plainChunk_110 : decode cX12_plainChunk 110 = .ok (.invokevirtual 511, 3) := by decide +kernel
theorem dX12_plainChunk_113 : decode cX12_plainChunk 113 = .ok (.ifCond .eq 9, 3) := by decide +kernel
theorem dX12_plainChunk_116 : decode cX12_plainChunk 116 = .ok (.aload_n 0, 1) := by decide +kernel
theorem dX12_plainChunk_117 : decode cX12_plainChunk 117 = .ok (.bipush 13, 2) := by decide +kernel
theorem dX12_plainChunk_119 : decode cX12_plainChunk 119 = .ok (.invokevirtual 479, 3) := by decide +kernel
theorem dX12_plainChunk_122 : decode cX12_plainChunk 122 = .ok (.aload_n 0, 1) := by decide +kernel
theorem dX12_plainChunk_123 : decode cX12_plainChunk 123 = .ok (.getfield 470, 3) := by decide +kernel
theorem dX12_plainChunk_126 : decode cX12_plainChunk 126 = .ok (.ifCond .ne 34, 3) := by decide +kernel
theorem dX12_plainChunk_129 : decode cX12_plainChunk 129 = .ok (.aload_n 0, 1) := by decide +kernel
theorem dX12_plainChunk_130 : decode cX12_plainChunk 130 = .ok (.getfield 47, 3) := by decide +kernel
theorem dX12_plainChunk_133 : decode cX12_plainChunk 133 = .ok (.aload_n 0, 1) := by decide +kernel
theorem dX12_plainChunk_134 : decode cX12_plainChunk 134 = .ok (.getfield 208, 3) := by decide +kernel
theorem dX12_plainChunk_137 : decode cX12_plainChunk 137 = .ok (.iload 4, 2) := by decide +kernel
theorem dX12_plainChunk_139 : decode cX12_plainChunk 139 = .ok (.iastore, 1) := by decide +kernel
theorem dX12_plainChunk_140 : decode cX12_plainChunk 140 = .ok (.aload_n 0, 1) := by decide +kernel
theorem dX12_plainChunk_141 : decode cX12_plainChunk 141 = .ok (.dup, 1) := by decide +kernel
theorem dX12_plainChunk_142 : decode cX12_plainChunk 142 = .ok (.getfield 208, 3) := by decide +kernel
theorem dX12_plainChunk_145 : decode cX12_plainChunk 145 = .ok (.iconst 1, 1) := by decide +kernel
theorem dX12_plainChunk_146 : decode cX12_plainChunk 146 = .ok (.iadd, 1) := by decide +kernel
theorem dX12_plainChunk_147 : decode cX12_plainChunk 147 = .ok (.putfield 208, 3) := by decide +kernel
theorem dX12_plainChunk_150 : decode cX12_plainChunk 150 = .ok (.aload_n 0, 1) := by decide +kernel
theorem dX12_plainChunk_151 : decode cX12_plainChunk 151 = .ok (.dup, 1) := by decide +kernel
theorem dX12_plainChunk_152 : decode cX12_plainChunk 152 = .ok (.getfield 249, 3) := by decide +kernel
theorem dX12_plainChunk_155 : decode cX12_plainChunk 155 = .ok (.iconst 1, 1) := by decide +kernel
theorem dX12_plainChunk_156 : decode cX12_plainChunk 156 = .ok (.iadd, 1) := by decide +kernel
theorem dX12_plainChunk_157 : decode cX12_plainChunk 157 = .ok (.putfield 249, 3) := by decide +kernel
theorem dX12_plainChunk_160 : decode cX12_plainChunk 160 = .ok (.iinc 3 1, 3) := by decide +kernel
theorem dX12_plainChunk_163 : decode cX12_plainChunk 163 = .ok (.goto (-80), 3) := by decide +kernel
theorem dX12_plainChunk_166 : decode cX12_plainChunk 166 = .ok (.return_, 1) := by decide +kernel
theorem dX12_bitsChunk_0 : decode cX12_bitsChunk 0 = .ok (.iload_n 1, 1) := by decide +kernel
theorem dX12_bitsChunk_1 : decode cX12_bitsChunk 1 = .ok (.bipush 31, 2) := by decide +kernel
theorem dX12_bitsChunk_3 : decode cX12_bitsChunk 3 = .ok (.iand, 1) := by decide +kernel
theorem dX12_bitsChunk_4 : decode cX12_bitsChunk 4 = .ok (.bipush 16, 2) := by decide +kernel
theorem dX12_bitsChunk_6 : decode cX12_bitsChunk 6 = .ok (.ishl, 1) := by decide +kernel
theorem dX12_bitsChunk_7 : decode cX12_bitsChunk 7 = .ok (.istore_n 3, 1) := by decide +kernel
theorem dX12_bitsChunk_8 : decode cX12_bitsChunk 8 = .ok (.iload_n 3, 1) := by decide +kernel
theorem dX12_bitsChunk_9 : decode cX12_bitsChunk 9 = .ok (.aload_n 0, 1) := by decide +kernel
theorem dX12_bitsChunk_10 : decode cX12_bitsChunk 10 = .ok (.invokevirtual 482, 3) := by decide +kernel
theorem dX12_bitsChunk_13 : decode cX12_bitsChunk 13 = .ok (.bipush 8, 2) := by decide +kernel
theorem dX12_bitsChunk_15 : decode cX12_bitsChunk 15 = .ok (.ishl, 1) := by decide +kernel
theorem dX12_bitsChunk_16 : decode cX12_bitsChunk 16 = .ok (.ior, 1) := by decide +kernel
theorem dX12_bitsChunk_17 : decode cX12_bitsChunk 17 = .ok (.istore_n 3, 1) := by decide +kernel
theorem dX12_bitsChunk_18 : decode cX12_bitsChunk 18 = .ok (.iload_n 3, 1) := by decide +kernel
theorem dX12_bitsChunk_19 : decode cX12_bitsChunk 19 = .ok (.aload_n 0, 1) := by decide +kernel
theorem dX12_bitsChunk_20 : decode cX12_bitsChunk 20 = .ok (.invokevirtual 482, 3) := by decide +kernel
theorem dX12_bitsChunk_23 : decode cX12_bitsChunk 23 = .ok (.ior, 1) := by decide +kernel
theorem dX12_bitsChunk_24 : decode cX12_bitsChunk 24 = .ok (.iconst 1, 1) := by decide +kernel
theorem dX12_bitsChunk_25 : decode cX12_bitsChunk 25 = .ok (.iadd, 1) := by decide +kernel
theorem dX12_bitsChunk_26 : decode cX12_bitsChunk 26 = .ok (.istore_n 3, 1) := by decide +kernel
theorem dX12_bitsChunk_27 : decode cX12_bitsChunk 27 = .ok (.aload_n 0, 1) := by decide +kernel
theorem dX12_bitsChunk_28 : decode cX12_bitsChunk 28 = .ok (.invokevirtual 482, 3) := by decide +kernel
theorem dX12_bitsChunk_31 : decode cX12_bitsChunk 31 = .ok (.bipush 8, 2) := by decide +kernel
theorem dX12_bitsChunk_33 : decode cX12_bitsChunk 33 = .ok (.ishl, 1) := by decide +kernel
theorem dX12_bitsChunk_34 : decode cX12_bitsChunk 34 = .ok (.istore 4, 2) := by decide +kernel
theorem dX12_bitsChunk_36 : decode cX12_bitsChunk 36 = .ok (.iload 4, 2) := by decide +kernel
theorem dX12_bitsChunk_38 : decode cX12_bitsChunk 38 = .ok (.aload_n 0, 1) := by decide +kernel
theorem dX12_bitsChunk_39 : decode cX12_bitsChunk 39 = .ok (.invokevirtual 482, 3) := by decide +kernel
theorem dX12_bitsChunk_42 : decode cX12_bitsChunk 42 = .ok (.ior, 1) := by decide +kernel
theorem dX12_bitsChunk_43 : decode cX12_bitsChunk 43 = .ok (.iconst 1, 1) := by decide +kernel
theorem dX12_bitsChunk_44 : decode cX12_bitsChunk 44 = .ok (.iadd, 1) := by decide +kernel
theorem dX12_bitsChunk_45 : decode cX12_bitsChunk 45 = .ok (.istore 4, 2) := by decide +kernel
theorem dX12_bitsChunk_47 : decode cX12_bitsChunk 47 = .ok (.iload_n 2, 1) := by decide +kernel
theorem dX12_bitsChunk_48 : decode cX12_bitsChunk 48 = .ok (.iconst 1, 1) := by decide +kernel
theorem dX12_bitsChunk_49 : decode cX12_bitsChunk 49 = .ok (.if_icmp .le 11, 3) := by decide +kernel
theorem dX12_bitsChunk_52 : decode cX12_bitsChunk 52 = .ok (.aload_n 0, 1) := by decide +kernel
theorem dX12_bitsChunk_53 : decode cX12_bitsChunk 53 = .ok (.invokevirtual 542, 3) := by decide +kernel
theorem dX12_bitsChunk_56 : decode cX12_bitsChunk 56 = .ok (.ifCond .ne 4, 3) := by decide +kernel
theorem dX12_bitsChunk_59 : decode cX12_bitsChunk 59 = .ok (.return_, 1) := by decide +kernel
theorem dX12_bitsChunk_60 : decode cX12_bitsChunk 60 = .ok (.aload_n 0, 1) := by decide +kernel
theorem dX12_bitsChunk_61 : decode cX12_bitsChunk 61 = .ok (.getfield 470, 3) := by decide +kernel
theorem dX12_bitsChunk_64 : decode cX12_bitsChunk 64 = .ok (.ifCond .le 4, 3) := by decide +kernel
theorem dX12_bitsChunk_67 : decode cX12_bitsChunk 67 = .ok (.return_, 1) := by decide +kernel
theorem dX12_bitsChunk_68 : decode cX12_bitsChunk 68 = .ok (.iload_n 2, 1) := by decide +kernel
theorem dX12_bitsChunk_69 : decode cX12_bitsChunk 69 = .ok (.iconst 3, 1) := by decide +kernel
theorem dX12_bitsChunk_70 : decode cX12_bitsChunk 70 = .ok (.if_icmp .ne 16, 3) := by decide +kernel
theorem dX12_bitsChunk_73 : decode cX12_bitsChunk 73 = .ok (.aload_n 0, 1) := by decide +kernel
theorem dX12_bitsChunk_74 : decode cX12_bitsChunk 74 = .ok (.aload_n 0, 1) := by decide +kernel
theorem dX12_bitsChunk_75 : decode cX12_bitsChunk 75 = .ok (.getfield 208, 3) := by decide +kernel
theorem dX12_bitsChunk_78 : decode cX12_bitsChunk 78 = .ok (.putfield 508, 3) := by decide +kernel
theorem dX12_bitsChunk_81 : decode cX12_bitsChunk 81 = .ok (.aload_n 0, 1) := by decide +kernel
theorem dX12_bitsChunk_82 : decode cX12_bitsChunk 82 = .ok (.iconst 0, 1) := by decide +kernel
theorem dX12_bitsChunk_83 : decode cX12_bitsChunk 83 = .ok (.putfield 249, 3) := by decide +kernel
theorem dX12_bitsChunk_86 : decode cX12_bitsChunk 86 = .ok (.iload_n 2, 1) := by decide +kernel
theorem dX12_bitsChunk_87 : decode cX12_bitsChunk 87 = .ok (.ifCond .le 7, 3) := by decide +kernel
theorem dX12_bitsChunk_90 : decode cX12_bitsChunk 90 = .ok (.aload_n 0, 1) := by decide +kernel
theorem dX12_bitsChunk_91 : decode cX12_bitsChunk 91 = .ok (.invokevirtual 407, 3) := by decide +kernel
theorem dX12_bitsChunk_94 : decode cX12_bitsChunk 94 = .ok (.aload_n 0, 1) := by decide +kernel
theorem dX12_bitsChunk_95 : decode cX12_bitsChunk 95 = .ok (.iconst 0, 1) := by decide +kernel
theorem dX12_bitsChunk_96 : decode cX12_bitsChunk 96 = .ok (.putfield 557, 3) := by decide +kernel
theorem dX12_bitsChunk_99 : decode cX12_bitsChunk 99 = .ok (.aload_n 0, 1) := by decide +kernel
theorem dX12_bitsChunk_100 : decode cX12_bitsChunk 100 = .ok (.dup, 1) := by decide +kernel
theorem dX12_bitsChunk_101 : decode cX12_bitsChunk 101 = .ok (.getfield 434, 3) := by decide +kernel
theorem dX12_bitsChunk_104 : decode cX12_bitsChunk 104 = .ok (.iconst 1, 1) := by decide +kernel
theorem dX12_bitsChunk_105 : decode cX12_bitsChunk 105 = .ok (.iadd, 1) := by decide +kernel
theorem dX12_bitsChunk_106 : decode cX12_bitsChunk 106 = .ok (.putfield 434, 3) := by decide +kernel
theorem dX12_bitsChunk_109 : decode cX12_bitsChunk 109 = .ok (.aload_n 0, 1) := by decide +kernel
theorem dX12_bitsChunk_110 : decode cX12_bitsChunk 110 = .ok (.getfield 476, 3) := by decide +kernel
theorem dX12_bitsChunk_113 : decode cX12_bitsChunk 113 = .ok (.istore 5, 2) := by decide +kernel
theorem dX12_bitsChunk_115 : decode cX12_bitsChunk 115 = .ok (.aload_n 0, 1) := by decide +kernel
theorem dX12_bitsChunk_116 : decode cX12_bitsChunk 116 = .ok (.getfield 473, 3) := by decide +kernel
theorem dX12_bitsChunk_119 : decode cX12_bitsChunk 119 = .ok (.iload 4, 2) := by decide +kernel
theorem dX12_bitsChunk_121 : decode cX12_bitsChunk 121 = .ok (.iadd, 1) := by decide +kernel
theorem dX12_bitsChunk_122 : decode cX12_bitsChunk 122 = .ok (.istore 6, 2) := by decide +kernel
theorem dX12_bitsChunk_124 : decode cX12_bitsChunk 124 = .ok (.aload_n 0, 1) := by decide +kernel
theorem dX12_bitsChunk_125 : decode cX12_bitsChunk 125 = .ok (.iload 6, 2) := by decide +kernel
theorem dX12_bitsChunk_127 : decode cX12_bitsChunk 127 = .ok (.iload 5, 2) := by decide +kernel
theorem dX12_bitsChunk_129 : decode cX12_bitsChunk 129 = .ok (.if_icmp .ge 8, 3) := by decide +kernel
theorem dX12_bitsChunk_132 : decode cX12_bitsChunk 132 = .ok (.iload 6, 2) := by decide +kernel
theorem dX12_bitsChunk_134 : decode cX12_bitsChunk 134 = .ok (.goto 5, 3) := by decide +kernel
theorem dX12_bitsChunk_137 : decode cX12_bitsChunk 137 = .ok (.iload 5, 2) := by decide +kernel
theorem dX12_bitsChunk_139 : decode cX12_bitsChunk 139 = .ok (.putfield 476, 3) := by decide +kernel
theorem dX12_bitsChunk_142 : decode cX12_bitsChunk 142 = .ok (.aload_n 0, 1) := by decide +kernel
theorem dX12_bitsChunk_143 : decode cX12_bitsChunk 143 = .ok (.aload_n 0, 1) := by decide +kernel
theorem dX12_bitsChunk_144 : decode cX12_bitsChunk 144 = .ok (.getfield 208, 3) := by decide +kernel
theorem dX12_bitsChunk_147 : decode cX12_bitsChunk 147 = .ok (.iload_n 3, 1) := by decide +kernel
theorem dX12_bitsChunk_148 : decode cX12_bitsChunk 148 = .ok (.iadd, 1) := by decide +kernel
theorem dX12_bitsChunk_149 : decode cX12_bitsChunk 149 = .ok (.putfield 518, 3) := by decide +kernel
theorem dX12_bitsChunk_152 : decode cX12_bitsChunk 152 = .ok (.aload_n 0, 1) := by decide +kernel
theorem dX12_bitsChunk_153 : decode cX12_bitsChunk 153 = .ok (.invokevirtual 551, 3) := by decide +kernel
theorem dX12_bitsChunk_156 : decode cX12_bitsChunk 156 = .ok (.aload_n 0, 1) := by decide +kernel
theorem dX12_bitsChunk_157 : decode cX12_bitsChunk 157 = .ok (.getfield 470, 3) := by decide +kernel
theorem dX12_bitsChunk_160 : decode cX12_bitsChunk 160 = .ok (.ifCond .ne 29, 3) := by decide +kernel
theorem dX12_bitsChunk_163 : decode cX12_bitsChunk 163 = .ok (.aload_n 0, 1) := by decide +kernel
theorem dX12_bitsChunk_164 : decode cX12_bitsChunk 164 = .ok (.getfield 538, 3) := by decide +kernel
theorem dX12_bitsChunk_167 : decode cX12_bitsChunk 167 = .ok (.ifCond .ne 22, 3) := by decide +kernel
theorem dX12_bitsChunk_170 : decode cX12_bitsChunk 170 = .ok (.aload_n 0, 1) := by decide +kernel
theorem dX12_bitsChunk_171 : decode cX12_bitsChunk 171 = .ok (.getfield 208, 3) := by decide +kernel
theorem dX12_bitsChunk_174 : decode cX12_bitsChunk 174 = .ok (.aload_n 0, 1) := by decide +kernel
theorem dX12_bitsChunk_175 : decode cX12_bitsChunk 175 = .ok (.getfield 518, 3) := by decide +kernel
theorem dX12_bitsChunk_178 : decode cX12_bitsChunk 178 = .ok (.if_icmp .ge 11, 3) := by decide +kernel
theorem dX12_bitsChunk_181 : decode cX12_bitsChunk 181 = .ok (.aload_n 0, 1) := by decide +kernel
theorem dX12_bitsChunk_182 : decode cX12_bitsChunk 182 = .ok (.iconst 0, 1) := by decide +kernel
theorem dX12_bitsChunk_183 : decode cX12_bitsChunk 183 = .ok (.invokevirtual 554, 3) := by decide +kernel
theorem dX12_bitsChunk_186 : decode cX12_bitsChunk 186 = .ok (.goto (-30), 3) := by decide +kernel
theorem dX12_bitsChunk_189 : decode cX12_bitsChunk 189 = .ok (.aload_n 0, 1) := by decide +kernel
theorem dX12_bitsChunk_190 : decode cX12_bitsChunk 190 = .ok (.iload 5, 2) := by decide +kernel
theorem dX12_bitsChunk_192 : decode cX12_bitsChunk 192 = .ok (.putfield 476, 3) := by decide +kernel
theorem dX12_bitsChunk_195 : decode cX12_bitsChunk 195 = .ok (.aload_n 0, 1) := by decide +kernel
theorem dX12_bitsChunk_196 : decode cX12_bitsChunk 196 = .ok (.getfield 470, 3) := by decide +kernel
theorem dX12_bitsChunk_199 : decode cX12_bitsChunk 199 = .ok (.ifCond .le 4, 3) := by decide +kernel
theorem dX12_bitsChunk_202 : decode cX12_bitsChunk 202 = .ok (.return_, 1) := by decide +kernel
theorem dX12_bitsChunk_203 : decode cX12_bitsChunk 203 = .ok (.aload_n 0, 1) := by decide +kernel
theorem dX12_bitsChunk_204 : decode cX12_bitsChunk 204 = .ok (.getfield 538, 3) := by decide +kernel
theorem dX12_bitsChunk_207 : decode cX12_bitsChunk 207 = .ok (.ifCond .ne 12, 3) := by decide +kernel
theorem dX12_bitsChunk_210 : decode cX12_bitsChunk 210 = .ok (.aload_n 0, 1) := by decide +kernel
theorem dX12_bitsChunk_211 : decode cX12_bitsChunk 211 = .ok (.getfield 485, 3) := by decide +kernel
theorem dX12_bitsChunk_214 : decode cX12_bitsChunk 214 = .ok (.lconst 0, 1) := by decide +kernel
theorem dX12_bitsChunk_215 : decode cX12_bitsChunk 215 = .ok (.lcmp, 1) := by decide +kernel
theorem dX12_bitsChunk_216 : decode cX12_bitsChunk 216 = .ok (.ifCond .eq 12, 3) := by decide +kernel
theorem dX12_bitsChunk_219 : decode cX12_bitsChunk 219 = .ok (.aload_n 0, 1) := by decide +kernel
theorem dX12_bitsChunk_220 : decode cX12_bitsChunk 220 = .ok (.bipush 7, 2) := by decide +kernel
theorem dX12_bitsChunk_222 : decode cX12_bitsChunk 222 = .ok (.invokevirtual 479, 3) := by decide +kernel
theorem dX12_bitsChunk_225 : decode cX12_bitsChunk 225 = .ok (.goto 17, 3) := by decide +kernel
theorem dX12_bitsChunk_228 : decode cX12_bitsChunk 228 = .ok (.aload_n 0, 1) := by decide +kernel
theorem dX12_bitsChunk_229 : decode cX12_bitsChunk 229 = .ok (.getfield 473, 3) := by decide +kernel
theorem dX12_bitsChunk_232 : decode cX12_bitsChunk 232 = .ok (.iload 6, 2) := by decide +kernel
theorem dX12_bitsChunk_234 : decode cX12_bitsChunk 234 = .ok (.if_icmp .eq 8, 3) := by decide +kernel
theorem dX12_bitsChunk_237 : decode cX12_bitsChunk 237 = .ok (.aload_n 0, 1) := by decide +kernel
theorem dX12_bitsChunk_238 : decode cX12_bitsChunk 238 = .ok (.iconst 5, 1) := by decide +kernel
theorem dX12_bitsChunk_239 : decode cX12_bitsChunk 239 = .ok (.invokevirtual 479, 3) := by decide +kernel
theorem dX12_bitsChunk_242 : decode cX12_bitsChunk 242 = .ok (.return_, 1) := by decide +kernel
theorem dX12_sum_0 : decode cX12_sum 0 = .ok (.aload_n 0, 1) := by decide +kernel
theorem dX12_sum_1 : decode cX12_sum 1 = .ok (.invokevirtual 174, 3) := by decide +kernel
theorem dX12_sum_4 : decode cX12_sum 4 = .ok (.iload_n 1, 1) := by decide +kernel
theorem dX12_sum_5 : decode cX12_sum 5 = .ok (.istore_n 3, 1) := by decide +kernel
theorem dX12_sum_6 : decode cX12_sum 6 = .ok (.iload_n 3, 1) := by decide +kernel
theorem dX12_sum_7 : decode cX12_sum 7 = .ok (.iload_n 2, 1) := by decide +kernel
theorem dX12_sum_8 : decode cX12_sum 8 = .ok (.if_icmp .ge 19, 3) := by decide +kernel
theorem dX12_sum_11 : decode cX12_sum 11 = .ok (.aload_n 0, 1) := by decide +kernel
theorem dX12_sum_12 : decode cX12_sum 12 = .ok (.aload_n 0, 1) := by decide +kernel
theorem dX12_sum_13 : decode cX12_sum 13 = .ok (.getfield 28, 3) := by decide +kernel
theorem dX12_sum_16 : decode cX12_sum 16 = .ok (.iload_n 3, 1) := by decide +kernel
theorem dX12_sum_17 : decode cX12_sum 17 = .ok (.iaload, 1) := by decide +kernel
theorem dX12_sum_18 : decode cX12_sum 18 = .ok (.invokevirtual 182, 3) := by decide +kernel
theorem dX12_sum_21 : decode cX12_sum 21 = .ok (.iinc 3 1, 3) := by decide +kernel
theorem dX12_sum_24 : decode cX12_sum 24 = .ok (.goto (-18), 3) := by decide +kernel
theorem dX12_sum_27 : decode cX12_sum 27 = .ok (.aload_n 0, 1) := by decide +kernel
theorem dX12_sum_28 : decode cX12_sum 28 = .ok (.invokevirtual 195, 3) := by decide +kernel
theorem dX12_sum_31 : decode cX12_sum 31 = .ok (.ireturn, 1) := by decide +kernel
theorem dX12_wantByte_0 : decode cX12_wantByte 0 = .ok (.aload_n 0, 1) := by decide +kernel
theorem dX12_wantByte_1 : decode cX12_wantByte 1 = .ok (.invokevirtual 482, 3) := by decide +kernel
theorem dX12_wantByte_4 : decode cX12_wantByte 4 = .ok (.istore_n 3, 1) := by decide +kernel
theorem dX12_wantByte_5 : decode cX12_wantByte 5 = .ok (.aload_n 0, 1) := by decide +kernel
theorem dX12_wantByte_6 : decode cX12_wantByte 6 = .ok (.getfield 470, 3) := by decide +kernel
theorem dX12_wantByte_9 : decode cX12_wantByte 9 = .ok (.ifCond .ne 13, 3) := by decide +kernel
theorem dX12_wantByte_12 : decode cX12_wantByte 12 = .ok (.iload_n 3, 1) := by decide +kernel
theorem dX12_wantByte_13 : decode cX12_wantByte 13 = .ok (.iload_n 1, 1) := by decide +kernel
theorem dX12_wantByte_14 : decode cX12_wantByte 14 = .ok (.if_icmp .eq 8, 3) := by decide +kernel
theorem dX12_wantByte_17 : decode cX12_wantByte 17 = .ok (.aload_n 0, 1) := by decide +kernel
theorem dX12_wantByte_18 : decode cX12_wantByte 18 = .ok (.iload_n 2, 1) := by decide +kernel
theorem dX12_wantByte_19 : decode cX12_wantByte 19 = .ok (.invokevirtual 479, 3) := by decide +kernel
theorem dX12_wantByte_22 : decode cX12_wantByte 22 = .ok (.return_, 1) := by decide +kernel
theorem dX12_wantSum_0 : decode cX12_wantSum 0 = .ok (.aload_n 0, 1) := by decide +kernel
theorem dX12_wantSum_1 : decode cX12_wantSum 1 = .ok (.iconst 4, 1) := by decide +kernel
theorem dX12_wantSum_2 : decode cX12_wantSum 2 = .ok (.invokevirtual 546, 3) := by decide +kernel
theorem dX12_wantSum_5 : decode cX12_wantSum 5 = .ok (.l2i, 1) := by decide +kernel
theorem dX12_wantSum_6 : decode cX12_wantSum 6 = .ok (.istore_n 2, 1) := by decide +kernel
theorem dX12_wantSum_7 : decode cX12_wantSum 7 = .ok (.aload_n 0, 1) := by decide +kernel
theorem dX12_wantSum_8 : decode cX12_wantSum 8 = .ok (.getfield 470, 3) := by decide +kernel
theorem dX12_wantSum_11 : decode cX12_wantSum 11 = .ok (.ifCond .ne 14, 3) := by decide +kernel
theorem dX12_wantSum_14 : decode cX12_wantSum 14 = .ok (.iload_n 2, 1) := by decide +kernel
theorem dX12_wantSum_15 : decode cX12_wantSum 15 = .ok (.iload_n 1, 1) := by decide +kernel
theorem dX12_wantSum_16 : decode cX12_wantSum 16 = .ok (.if_icmp .eq 9, 3) := by decide +kernel
theorem dX12_wantSum_19 : decode cX12_wantSum 19 = .ok (.aload_n 0, 1) := by decide +kernel
theorem dX12_wantSum_20 : decode cX12_wantSum 20 = .ok (.bipush 9, 2) := by decide +kernel
theorem dX12_wantSum_22 : decode cX12_wantSum 22 = .ok (.invokevirtual 479, 3) := by decide +kernel
theorem dX12_wantSum_25 : decode cX12_wantSum 25 = .ok (.return_, 1) := by decide +kernel
theorem dX12_readV_0 : decode cX12_readV 0 = .ok (.lconst 0, 1) := by decide +kernel
theorem dX12_readV_1 : decode cX12_readV 1 = .ok (.lstore_n 2, 1) := by decide +kernel
theorem dX12_readV_2 : decode cX12_readV 2 = .ok (.iconst 0, 1) := by decide +kernel
theorem dX12_readV_3 : decode cX12_readV 3 = .ok (.istore 4, 2) := by decide +kernel
theorem dX12_readV_5 : decode cX12_readV 5 = .ok (.iload 4, 2) := by decide +kernel
theorem dX12_readV_7 : decode cX12_readV 7 = .ok (.bipush 9, 2) := by decide +kernel
theorem dX12_readV_9 : decode cX12_readV 9 = .ok (.if_icmp .ge 64, 3) := by decide +kernel
theorem dX12_readV_12 : decode cX12_readV 12 = .ok (.aload_n 0, 1) := by decide +kernel
theorem dX12_readV_13 : decode cX12_readV 13 = .ok (.invokevirtual 482, 3) := by decide +kernel
theorem dX12_readV_16 : decode cX12_readV 16 = .ok (.istore 5, 2) := by decide +kernel
theorem dX12_readV_18 : decode cX12_readV 18 = .ok (.aload_n 0, 1) := by decide +kernel
theorem dX12_readV_19 : decode cX12_readV 19 = .ok (.getfield 470, 3) := by decide +kernel
theorem dX12_readV_22 : decode cX12_readV 22 = .ok (.ifCond .le 5, 3) := by decide +kernel
theorem dX12_readV_25 : decode cX12_readV 25 = .ok (.lconst 0, 1) := by decide +kernel
theorem dX12_readV_26 : decode cX12_readV 26 = .ok (.lreturn, 1) := by decide +kernel
theorem dX12_readV_27 : decode cX12_readV 27 = .ok (.lload_n 2, 1) := by decide +kernel
theorem dX12_readV_28 : decode cX12_readV 28 = .ok (.iload 5, 2) := by decide +kernel
theorem dX12_readV_30 : decode cX12_readV 30 = .ok (.bipush 127, 2) := by decide +kernel
theorem dX12_readV_32 : decode cX12_readV 32 = .ok (.iand, 1) := by decide +kernel
theorem dX12_readV_33 : decode cX12_readV 33 = .ok (.i2l, 1) := by decide +kernel
theorem dX12_readV_34 : decode cX12_readV 34 = .ok (.bipush 7, 2) := by decide +kernel
theorem dX12_readV_36 : decode cX12_readV 36 = .ok (.iload 4, 2) := by decide +kernel
theorem dX12_readV_38 : decode cX12_readV 38 = .ok (.imul, 1) := by decide +kernel
theorem dX12_readV_39 : decode cX12_readV 39 = .ok (.lshl, 1) := by decide +kernel
theorem dX12_readV_40 : decode cX12_readV 40 = .ok (.lor, 1) := by decide +kernel
theorem dX12_readV_41 : decode cX12_readV 41 = .ok (.lstore_n 2, 1) := by decide +kernel
theorem dX12_readV_42 : decode cX12_readV 42 = .ok (.iload 5, 2) := by decide +kernel
theorem dX12_readV_44 : decode cX12_readV 44 = .ok (.sipush 128, 3) := by decide +kernel
theorem dX12_readV_47 : decode cX12_readV 47 = .ok (.if_icmp .ge 20, 3) := by decide +kernel
theorem dX12_readV_50 : decode cX12_readV 50 = .ok (.iload 5, 2) := by decide +kernel
theorem dX12_readV_52 : decode cX12_readV 52 = .ok (.ifCond .ne 13, 3) := by decide +kernel
theorem dX12_readV_55 : decode cX12_readV 55 = .ok (.iload 4, 2) := by decide +kernel
theorem dX12_readV_57 : decode cX12_readV 57 = .ok (.ifCond .le 8, 3) := by decide +kernel
theorem dX12_readV_60 : decode cX12_readV 60 = .ok (.aload_n 0, 1) := by decide +kernel
theorem dX12_readV_61 : decode cX12_readV 61 = .ok (.iload_n 1, 1) := by decide +kernel
