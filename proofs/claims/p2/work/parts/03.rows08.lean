theorem dX12_readV_62 : decode cX12_readV 62 = .ok (.invokevirtual 479, 3) := by decide +kernel
theorem dX12_readV_65 : decode cX12_readV 65 = .ok (.lload_n 2, 1) := by decide +kernel
theorem dX12_readV_66 : decode cX12_readV 66 = .ok (.lreturn, 1) := by decide +kernel
theorem dX12_readV_67 : decode cX12_readV 67 = .ok (.iinc 4 1, 3) := by decide +kernel
theorem dX12_readV_70 : decode cX12_readV 70 = .ok (.goto (-65), 3) := by decide +kernel
theorem dX12_readV_73 : decode cX12_readV 73 = .ok (.aload_n 0, 1) := by decide +kernel
theorem dX12_readV_74 : decode cX12_readV 74 = .ok (.iload_n 1, 1) := by decide +kernel
theorem dX12_readV_75 : decode cX12_readV 75 = .ok (.invokevirtual 479, 3) := by decide +kernel
theorem dX12_readV_78 : decode cX12_readV 78 = .ok (.lconst 0, 1) := by decide +kernel
theorem dX12_readV_79 : decode cX12_readV 79 = .ok (.lreturn, 1) := by decide +kernel
theorem dX12_magic_0 : decode cX12_magic 0 = .ok (.iload_n 0, 1) := by decide +kernel
theorem dX12_magic_1 : decode cX12_magic 1 = .ok (.ifCond .ne 9, 3) := by decide +kernel
theorem dX12_magic_4 : decode cX12_magic 4 = .ok (.sipush 253, 3) := by decide +kernel
theorem dX12_magic_7 : decode cX12_magic 7 = .ok (.goto 44, 3) := by decide +kernel
theorem dX12_magic_10 : decode cX12_magic 10 = .ok (.iload_n 0, 1) := by decide +kernel
theorem dX12_magic_11 : decode cX12_magic 11 = .ok (.iconst 1, 1) := by decide +kernel
theorem dX12_magic_12 : decode cX12_magic 12 = .ok (.if_icmp .ne 8, 3) := by decide +kernel
theorem dX12_magic_15 : decode cX12_magic 15 = .ok (.bipush 55, 2) := by decide +kernel
theorem dX12_magic_17 : decode cX12_magic 17 = .ok (.goto 34, 3) := by decide +kernel
theorem dX12_magic_20 : decode cX12_magic 20 = .ok (.iload_n 0, 1) := by decide +kernel
theorem dX12_magic_21 : decode cX12_magic 21 = .ok (.iconst 2, 1) := by decide +kernel
theorem dX12_magic_22 : decode cX12_magic 22 = .ok (.if_icmp .ne 8, 3) := by decide +kernel
theorem dX12_magic_25 : decode cX12_magic 25 = .ok (.bipush 122, 2) := by decide +kernel
theorem dX12_magic_27 : decode cX12_magic 27 = .ok (.goto 24, 3) := by decide +kernel
theorem dX12_magic_30 : decode cX12_magic 30 = .ok (.iload_n 0, 1) := by decide +kernel
theorem dX12_magic_31 : decode cX12_magic 31 = .ok (.iconst 3, 1) := by decide +kernel
theorem dX12_magic_32 : decode cX12_magic 32 = .ok (.if_icmp .ne 8, 3) := by decide +kernel
theorem dX12_magic_35 : decode cX12_magic 35 = .ok (.bipush 88, 2) := by decide +kernel
theorem dX12_magic_37 : decode cX12_magic 37 = .ok (.goto 14, 3) := by decide +kernel
theorem dX12_magic_40 : decode cX12_magic 40 = .ok (.iload_n 0, 1) := by decide +kernel
theorem dX12_magic_41 : decode cX12_magic 41 = .ok (.iconst 4, 1) := by decide +kernel
theorem dX12_magic_42 : decode cX12_magic 42 = .ok (.if_icmp .ne 8, 3) := by decide +kernel
theorem dX12_magic_45 : decode cX12_magic 45 = .ok (.bipush 90, 2) := by decide +kernel
theorem dX12_magic_47 : decode cX12_magic 47 = .ok (.goto 4, 3) := by decide +kernel
theorem dX12_magic_50 : decode cX12_magic 50 = .ok (.iconst 0, 1) := by decide +kernel
theorem dX12_magic_51 : decode cX12_magic 51 = .ok (.ireturn, 1) := by decide +kernel
theorem dX12_openBox_0 : decode cX12_openBox 0 = .ok (.iconst 0, 1) := by decide +kernel
theorem dX12_openBox_1 : decode cX12_openBox 1 = .ok (.istore_n 2, 1) := by decide +kernel
theorem dX12_openBox_2 : decode cX12_openBox 2 = .ok (.iload_n 2, 1) := by decide +kernel
theorem dX12_openBox_3 : decode cX12_openBox 3 = .ok (.bipush 6, 2) := by decide +kernel
theorem dX12_openBox_5 : decode cX12_openBox 5 = .ok (.if_icmp .ge 18, 3) := by decide +kernel
theorem dX12_openBox_8 : decode cX12_openBox 8 = .ok (.aload_n 0, 1) := by decide +kernel
theorem dX12_openBox_9 : decode cX12_openBox 9 = .ok (.iload_n 2, 1) := by decide +kernel
theorem dX12_openBox_10 : decode cX12_openBox 10 = .ok (.invokestatic 566, 3) := by decide +kernel
theorem dX12_openBox_13 : decode cX12_openBox 13 = .ok (.iconst 2, 1) := by decide +kernel
theorem dX12_openBox_14 : decode cX12_openBox 14 = .ok (.invokevirtual 569, 3) := by decide +kernel
theorem dX12_openBox_17 : decode cX12_openBox 17 = .ok (.iinc 2 1, 3) := by decide +kernel
theorem dX12_openBox_20 : decode cX12_openBox 20 = .ok (.goto (-18), 3) := by decide +kernel
theorem dX12_openBox_23 : decode cX12_openBox 23 = .ok (.aload_n 0, 1) := by decide +kernel
theorem dX12_openBox_24 : decode cX12_openBox 24 = .ok (.iconst 0, 1) := by decide +kernel
theorem dX12_openBox_25 : decode cX12_openBox 25 = .ok (.bipush 8, 2) := by decide +kernel
theorem dX12_openBox_27 : decode cX12_openBox 27 = .ok (.invokevirtual 569, 3) := by decide +kernel
theorem dX12_openBox_30 : decode cX12_openBox 30 = .ok (.aload_n 0, 1) := by decide +kernel
theorem dX12_openBox_31 : decode cX12_openBox 31 = .ok (.aload_n 0, 1) := by decide +kernel
theorem dX12_openBox_32 : decode cX12_openBox 32 = .ok (.invokevirtual 482, 3) := by decide +kernel
theorem dX12_openBox_35 : decode cX12_openBox 35 = .ok (.putfield 572, 3) := by decide +kernel
theorem dX12_openBox_38 : decode cX12_openBox 38 = .ok (.aload_n 0, 1) := by decide +kernel
theorem dX12_openBox_39 : decode cX12_openBox 39 = .ok (.getfield 470, 3) := by decide +kernel
theorem dX12_openBox_42 : decode cX12_openBox 42 = .ok (.ifCond .ne 26, 3) := by decide +kernel
theorem dX12_openBox_45 : decode cX12_openBox 45 = .ok (.aload_n 0, 1) := by decide +kernel
theorem dX12_openBox_46 : decode cX12_openBox 46 = .ok (.getfield 572, 3) := by decide +kernel
theorem dX12_openBox_49 : decode cX12_openBox 49 = .ok (.ifCond .eq 19, 3) := by decide +kernel
theorem dX12_openBox_52 : decode cX12_openBox 52 = .ok (.aload_n 0, 1) := by decide +kernel
theorem dX12_openBox_53 : decode cX12_openBox 53 = .ok (.getfield 572, 3) := by decide +kernel
theorem dX12_openBox_56 : decode cX12_openBox 56 = .ok (.invokestatic 191, 3) := by decide +kernel
theorem dX12_openBox_59 : decode cX12_openBox 59 = .ok (.ifCond .ne 9, 3) := by decide +kernel
theorem dX12_openBox_62 : decode cX12_openBox 62 = .ok (.aload_n 0, 1) := by decide +kernel
theorem dX12_openBox_63 : decode cX12_openBox 63 = .ok (.bipush 14, 2) := by decide +kernel
theorem dX12_openBox_65 : decode cX12_openBox 65 = .ok (.invokevirtual 479, 3) := by decide +kernel
theorem dX12_openBox_68 : decode cX12_openBox 68 = .ok (.aload_n 0, 1) := by decide +kernel
theorem dX12_openBox_69 : decode cX12_openBox 69 = .ok (.aload_n 0, 1) := by decide +kernel
theorem dX12_openBox_70 : decode cX12_openBox 70 = .ok (.bipush 6, 2) := by decide +kernel
theorem dX12_openBox_72 : decode cX12_openBox 72 = .ok (.bipush 8, 2) := by decide +kernel
theorem dX12_openBox_74 : decode cX12_openBox 74 = .ok (.invokevirtual 575, 3) := by decide +kernel
theorem dX12_openBox_77 : decode cX12_openBox 77 = .ok (.invokevirtual 578, 3) := by decide +kernel
theorem dX12_openBox_80 : decode cX12_openBox 80 = .ok (.aload_n 0, 1) := by decide +kernel
theorem dX12_openBox_81 : decode cX12_openBox 81 = .ok (.getfield 470, 3) := by decide +kernel
theorem dX12_openBox_84 : decode cX12_openBox 84 = .ok (.ifCond .ne 7, 3) := by decide +kernel
theorem dX12_openBox_87 : decode cX12_openBox 87 = .ok (.iconst 1, 1) := by decide +kernel
theorem dX12_openBox_88 : decode cX12_openBox 88 = .ok (.goto 4, 3) := by decide +kernel
theorem dX12_openBox_91 : decode cX12_openBox 91 = .ok (.iconst 0, 1) := by decide +kernel
theorem dX12_openBox_92 : decode cX12_openBox 92 = .ok (.istore_n 2, 1) := by decide +kernel
theorem dX12_openBox_93 : decode cX12_openBox 93 = .ok (.iload_n 2, 1) := by decide +kernel
theorem dX12_openBox_94 : decode cX12_openBox 94 = .ok (.ifCond .eq 61, 3) := by decide +kernel
theorem dX12_openBox_97 : decode cX12_openBox 97 = .ok (.aload_n 0, 1) := by decide +kernel
theorem dX12_openBox_98 : decode cX12_openBox 98 = .ok (.getfield 473, 3) := by decide +kernel
theorem dX12_openBox_101 : decode cX12_openBox 101 = .ok (.istore_n 3, 1) := by decide +kernel
theorem dX12_openBox_102 : decode cX12_openBox 102 = .ok (.aload_n 0, 1) := by decide +kernel
theorem dX12_openBox_103 : decode cX12_openBox 103 = .ok (.invokevirtual 482, 3) := by decide +kernel
theorem dX12_openBox_106 : decode cX12_openBox 106 = .ok (.istore 4, 2) := by decide +kernel
theorem dX12_openBox_108 : decode cX12_openBox 108 = .ok (.aload_n 0, 1) := by decide +kernel
theorem dX12_openBox_109 : decode cX12_openBox 109 = .ok (.getfield 470, 3) := by decide +kernel
theorem dX12_openBox_112 : decode cX12_openBox 112 = .ok (.ifCond .le 4, 3) := by decide +kernel
theorem dX12_openBox_115 : decode cX12_openBox 115 = .ok (.return_, 1) := by decide +kernel
theorem dX12_openBox_116 : decode cX12_openBox 116 = .ok (.iload 4, 2) := by decide +kernel
theorem dX12_openBox_118 : decode cX12_openBox 118 = .ok (.ifCond .ne 9, 3) := by decide +kernel
theorem dX12_openBox_121 : decode cX12_openBox 121 = .ok (.aload_n 0, 1) := by decide +kernel
theorem dX12_openBox_122 : decode cX12_openBox 122 = .ok (.iload_n 3, 1) := by decide +kernel
theorem dX12_openBox_123 : decode cX12_openBox 123 = .ok (.invokevirtual 581, 3) := by decide +kernel
theorem dX12_openBox_126 : decode cX12_openBox 126 = .ok (.return_, 1) := by decide +kernel
theorem dX12_openBox_127 : decode cX12_openBox 127 = .ok (.aload_n 0, 1) := by decide +kernel
theorem dX12_openBox_128 : decode cX12_openBox 128 = .ok (.iload_n 3, 1) := by decide +kernel
theorem dX12_openBox_129 : decode cX12_openBox 129 = .ok (.iconst 4, 1) := by decide +kernel
theorem dX12_openBox_130 : decode cX12_openBox 130 = .ok (.iload 4, 2) := by decide +kernel
theorem dX12_openBox_132 : decode cX12_openBox 132 = .ok (.imul, 1) := by decide +kernel
theorem dX12_openBox_133 : decode cX12_openBox 133 = .ok (.iconst 4, 1) := by decide +kernel
theorem dX12_openBox_134 : decode cX12_openBox 134 = .ok (.iadd, 1) := by decide +kernel
theorem dX12_openBox_135 : decode cX12_openBox 135 = .ok (.iload_n 1, 1) := by decide +kernel
theorem dX12_openBox_136 : decode cX12_openBox 136 = .ok (.invokevirtual 584, 3) := by decide +kernel
theorem dX12_openBox_139 : decode cX12_openBox 139 = .ok (.aload_n 0, 1) := by decide +kernel
theorem dX12_openBox_140 : decode cX12_openBox 140 = .ok (.getfield 470, 3) := by decide +kernel
theorem dX12_openBox_143 : decode cX12_openBox 143 = .ok (.ifCond .ne 7, 3) := by decide +kernel
theorem dX12_openBox_146 : decode cX12_openBox 146 = .ok (.iconst 1, 1) := by decide +kernel
theorem dX12_openBox_147 : decode cX12_openBox 147 = .ok (.goto 4, 3) := by decide +kernel
theorem dX12_openBox_150 : decode cX12_openBox 150 = .ok (.iconst 0, 1) := by decide +kernel
theorem dX12_openBox_151 : decode cX12_openBox 151 = .ok (.istore_n 2, 1) := by decide +kernel
theorem dX12_openBox_152 : decode cX12_openBox 152 = .ok (.goto (-59), 3) := by decide +kernel
theorem dX12_openBox_155 : decode cX12_openBox 155 = .ok (.return_, 1) := by decide +kernel
theorem dX12_openHead_0 : decode cX12_openHead 0 = .ok (.aload_n 0, 1) := by decide +kernel
theorem dX12_openHead_1 : decode cX12_openHead 1 = .ok (.invokevirtual 482, 3) := by decide +kernel
theorem dX12_openHead_4 : decode cX12_openHead 4 = .ok (.istore 4, 2) := by decide +kernel
theorem dX12_openHead_6 : decode cX12_openHead 6 = .ok (.aload_n 0, 1) := by decide +kernel
theorem dX12_openHead_7 : decode cX12_openHead 7 = .ok (.getfield 470, 3) := by decide +kernel
theorem dX12_openHead_10 : decode cX12_openHead 10 = .ok (.ifCond .ne 17, 3) := by decide +kernel
theorem dX12_openHead_13 : decode cX12_openHead 13 = .ok (.iload 4, 2) := by decide +kernel
theorem dX12_openHead_15 : decode cX12_openHead 15 = .ok (.bipush 60, 2) := by decide +kernel
theorem dX12_openHead_17 : decode cX12_openHead 17 = .ok (.iand, 1) := by decide +kernel
theorem dX12_openHead_18 : decode cX12_openHead 18 = .ok (.ifCond .eq 9, 3) := by decide +kernel
theorem dX12_openHead_21 : decode cX12_openHead 21 = .ok (.aload_n 0, 1) := by decide +kernel
theorem dX12_openHead_22 : decode cX12_openHead 22 = .ok (.bipush 8, 2) := by decide +kernel
theorem dX12_openHead_24 : decode cX12_openHead 24 = .ok (.invokevirtual 479, 3) := by decide +kernel
theorem dX12_openHead_27 : decode cX12_openHead 27 = .ok (.aload_n 0, 1) := by decide +kernel
theorem dX12_openHead_28 : decode cX12_openHead 28 = .ok (.iload 4, 2) := by decide +kernel
theorem dX12_openHead_30 : decode cX12_openHead 30 = .ok (.iconst 3, 1) := by decide +kernel
theorem dX12_openHead_31 : decode cX12_openHead 31 = .ok (.iand, 1) := by decide +kernel
theorem dX12_openHead_32 : decode cX12_openHead 32 = .ok (.iconst 1, 1) := by decide +kernel
theorem dX12_openHead_33 : decode cX12_openHead 33 = .ok (.iadd, 1) := by decide +kernel
theorem dX12_openHead_34 : decode cX12_openHead 34 = .ok (.putfield 587, 3) := by decide +kernel
theorem dX12_openHead_37 : decode cX12_openHead 37 = .ok (.aload_n 0, 1) := by decide +kernel
theorem dX12_openHead_38 : decode cX12_openHead 38 = .ok (.aload_n 0, 1) := by decide +kernel
theorem dX12_openHead_39 : decode cX12_openHead 39 = .ok (.getfield 470, 3) := by decide +kernel
theorem dX12_openHead_42 : decode cX12_openHead 42 = .ok (.ifCond .ne 20, 3) := by decide +kernel
theorem dX12_openHead_45 : decode cX12_openHead 45 = .ok (.iload 4, 2) := by decide +kernel
theorem dX12_openHead_47 : decode cX12_openHead 47 = .ok (.bipush 64, 2) := by decide +kernel
theorem dX12_openHead_49 : decode cX12_openHead 49 = .ok (.iand, 1) := by decide +kernel
theorem dX12_openHead_50 : decode cX12_openHead 50 = .ok (.ifCond .eq 12, 3) := by decide +kernel
theorem dX12_openHead_53 : decode cX12_openHead 53 = .ok (.aload_n 0, 1) := by decide +kernel
theorem dX12_openHead_54 : decode cX12_openHead 54 = .ok (.bipush 8, 2) := by decide +kernel
theorem dX12_openHead_56 : decode cX12_openHead 56 = .ok (.invokevirtual 590, 3) := by decide +kernel
theorem dX12_openHead_59 : decode cX12_openHead 59 = .ok (.goto 6, 3) := by decide +kernel
theorem dX12_openHead_62 : decode cX12_openHead 62 = .ok (.ldc2_w 177, 3) := by decide +kernel
theorem dX12_openHead_65 : decode cX12_openHead 65 = .ok (.putfield 593, 3) := by decide +kernel
theorem dX12_openHead_68 : decode cX12_openHead 68 = .ok (.aload_n 0, 1) := by decide +kernel
theorem dX12_openHead_69 : decode cX12_openHead 69 = .ok (.aload_n 0, 1) := by decide +kernel
theorem dX12_openHead_70 : decode cX12_openHead 70 = .ok (.getfield 470, 3) := by decide +kernel
theorem dX12_openHead_73 : decode cX12_openHead 73 = .ok (.ifCond .ne 21, 3) := by decide +kernel
theorem dX12_openHead_76 : decode cX12_openHead 76 = .ok (.iload 4, 2) := by decide +kernel
theorem dX12_openHead_78 : decode cX12_openHead 78 = .ok (.sipush 128, 3) := by decide +kernel
theorem dX12_openHead_81 : decode cX12_openHead 81 = .ok (.iand, 1) := by decide +kernel
theorem dX12_openHead_82 : decode cX12_openHead 82 = .ok (.ifCond .eq 12, 3) := by decide +kernel
theorem dX12_openHead_85 : decode cX12_openHead 85 = .ok (.aload_n 0, 1) := by decide +kernel
theorem dX12_openHead_86 : decode cX12_openHead 86 = .ok (.bipush 8, 2) := by decide +kernel
theorem dX12_openHead_88 : decode cX12_openHead 88 = .ok (.invokevirtual 590, 3) := by decide +kernel
theorem dX12_openHead_91 : decode cX12_openHead 91 = .ok (.goto 6, 3) := by decide +kernel
theorem dX12_openHead_94 : decode cX12_openHead 94 = .ok (.ldc2_w 177, 3) := by decide +kernel
theorem dX12_openHead_97 : decode cX12_openHead 97 = .ok (.putfield 596, 3) := by decide +kernel
theorem dX12_openHead_100 : decode cX12_openHead 100 = .ok (.iconst 0, 1) := by decide +kernel
theorem dX12_openHead_101 : decode cX12_openHead 101 = .ok (.istore 5, 2) := by decide +kernel
theorem dX12_openHead_103 : decode cX12_openHead 103 = .ok (.iload 5, 2) := by decide +kernel
theorem dX12_openHead_105 : decode cX12_openHead 105 = .ok (.aload_n 0, 1) := by decide +kernel
theorem dX12_openHead_106 : decode cX12_openHead 106 = .ok (.getfield 587, 3) := by decide +kernel
theorem dX12_openHead_109 : decode cX12_openHead 109 = .ok (.if_icmp .ge 204, 3) := by decide +kernel
theorem dX12_openHead_112 : decode cX12_openHead 112 = .ok (.aload_n 0, 1) := by decide +kernel
theorem dX12_openHead_113 : decode cX12_openHead 113 = .ok (.getfield 470, 3) := by decide +kernel
theorem dX12_openHead_116 : decode cX12_openHead 116 = .ok (.ifCond .ne 197, 3) := by decide +kernel
theorem dX12_openHead_119 : decode cX12_openHead 119 = .ok (.aload_n 0, 1) := by decide +kernel
theorem dX12_openHead_120 : decode cX12_openHead 120 = .ok (.bipush 8, 2) := by decide +kernel
theorem dX12_openHead_122 : decode cX12_openHead 122 = .ok (.invokevirtual 590, 3) := by decide +kernel
theorem dX12_openHead_125 : decode cX12_openHead 125 = .ok (.lstore 6, 2) := by decide +kernel
theorem dX12_openHead_127 : decode cX12_openHead 127 = .ok (.iload 5, 2) := by decide +kernel
theorem dX12_openHead_129 : decode cX12_openHead 129 = .ok (.aload_n 0, 1) := by decide +kernel
theorem dX12_openHead_130 : decode cX12_openHead 130 = .ok (.getfield 587, 3) := by decide +kernel
theorem dX12_openHead_133 : decode cX12_openHead 133 = .ok (.iconst 1, 1) := by decide +kernel
theorem dX12_openHead_134 : decode cX12_openHead 134 = .ok (.isub, 1) := by decide +kernel
theorem dX12_openHead_135 : decode cX12_openHead 135 = .ok (.if_icmp .ne 7, 3) := by decide +kernel
theorem dX12_openHead_138 : decode cX12_openHead 138 = .ok (.iconst 1, 1) := by decide +kernel
theorem dX12_openHead_139 : decode cX12_openHead 139 = .ok (.goto 4, 3) := by decide +kernel
theorem dX12_openHead_142 : decode cX12_openHead 142 = .ok (.iconst 0, 1) := by decide +kernel
theorem dX12_openHead_143 : decode cX12_openHead 143 = .ok (.istore 8, 2) := by decide +kernel
theorem dX12_openHead_145 : decode cX12_openHead 145 = .ok (.iload 8, 2) := by decide +kernel
theorem dX12_openHead_147 : decode cX12_openHead 147 = .ok (.ifCond .eq 20, 3) := by decide +kernel
theorem dX12_openHead_150 : decode cX12_openHead 150 = .ok (.lload 6, 2) := by decide +kernel
theorem dX12_openHead_152 : decode cX12_openHead 152 = .ok (.ldc2_w 599, 3) := by decide +kernel
theorem dX12_openHead_155 : decode cX12_openHead 155 = .ok (.lcmp, 1) := by decide +kernel
theorem dX12_openHead_156 : decode cX12_openHead 156 = .ok (.ifCond .ne 7, 3) := by decide +kernel
theorem dX12_openHead_159 : decode cX12_openHead 159 = .ok (.iconst 1, 1) := by decide +kernel
theorem dX12_openHead_160 : decode cX12_openHead 160 = .ok (.goto 30, 3) := by decide +kernel
theorem dX12_openHead_163 : decode cX12_openHead 163 = .ok (.iconst 0, 1) := by decide +kernel
theorem dX12_openHead_164 : decode cX12_openHead 164 = .ok (.goto 26, 3) := by decide +kernel
theorem dX12_openHead_167 : decode cX12_openHead 167 = .ok (.lload 6, 2) := by decide +kernel
theorem dX12_openHead_169 : decode cX12_openHead 169 = .ok (.ldc2_w 601, 3) := by decide +kernel
theorem dX12_openHead_172 : decode cX12_openHead 172 = .ok (.lcmp, 1) := by decide +kernel
theorem dX12_openHead_173 : decode cX12_openHead 173 = .ok (.ifCond .eq 12, 3) := by decide +kernel
theorem dX12_openHead_176 : decode cX12_openHead 176 = .ok (.lload 6, 2) := by decide +kernel
theorem dX12_openHead_178 : decode cX12_openHead 178 = .ok (.ldc2_w 603, 3) := by decide +kernel
theorem dX12_openHead_181 : decode cX12_openHead 181 = .ok (.lcmp, 1) := by decide +kernel
theorem dX12_openHead_182 : decode cX12_openHead 182 = .ok (.ifCond .ne 7, 3) := by decide +kernel
theorem dX12_openHead_185 : decode cX12_openHead 185 = .ok (.iconst 1, 1) := by decide +kernel
theorem dX12_openHead_186 : decode cX12_openHead 186 = .ok (.goto 4, 3) := by decide +kernel
theorem dX12_openHead_189 : decode cX12_openHead 189 = .ok (.iconst 0, 1) := by decide +kernel
theorem dX12_openHead_190 : decode cX12_openHead 190 = .ok (.istore 9, 2) := by decide +kernel
theorem dX12_openHead_192 : decode cX12_openHead 192 = .ok (.aload_n 0, 1) := by decide +kernel
theorem dX12_openHead_193 : decode cX12_openHead 193 = .ok (.getfield 470, 3) := by decide +kernel
theorem dX12_openHead_196 : decode cX12_openHead 196 = .ok (.ifCond .ne 14, 3) := by decide +kernel
theorem dX12_openHead_199 : decode cX12_openHead 199 = .ok (.iload 9, 2) := by decide +kernel
theorem dX12_openHead_201 : decode cX12_openHead 201 = .ok (.ifCond .ne 9, 3) := by decide +kernel
theorem dX12_openHead_204 : decode cX12_openHead 204 = .ok (.aload_n 0, 1) := by decide +kernel
theorem dX12_openHead_205 : decode cX12_openHead 205 = .ok (.bipush 8, 2) := by decide +kernel
theorem dX12_openHead_207 : decode cX12_openHead 207 = .ok (.invokevirtual 479, 3) := by decide +kernel
theorem dX12_openHead_210 : decode cX12_openHead 210 = .ok (.aload_n 0, 1) := by decide +kernel
theorem dX12_openHead_211 : decode cX12_openHead 211 = .ok (.bipush 8, 2) := by decide +kernel
theorem dX12_openHead_213 : decode cX12_openHead 213 = .ok (.invokevirtual 590, 3) := by decide +kernel
theorem dX12_openHead_216 : decode cX12_openHead 216 = .ok (.lstore 10, 2) := by decide +kernel
theorem dX12_openHead_218 : decode cX12_openHead 218 = .ok (.aload_n 0, 1) := by decide +kernel
theorem dX12_openHead_219 : decode cX12_openHead 219 = .ok (.getfield 470, 3) := by decide +kernel
theorem dX12_openHead_222 : decode cX12_openHead 222 = .ok (.ifCond .ne 29, 3) := by decide +kernel
theorem dX12_openHead_225 : decode cX12_openHead 225 = .ok (.lload 10, 2) := by decide +kernel
theorem dX12_openHead_227 : decode cX12_openHead 227 = .ok (.lload 6, 2) := by decide +kernel
theorem dX12_openHead_229 : decode cX12_openHead 229 = .ok (.ldc2_w 603, 3) := by decide +kernel
theorem dX12_openHead_232 : decode cX12_openHead 232 = .ok (.lcmp, 1) := by decide +kernel
theorem dX12_openHead_233 : decode cX12_openHead 233 = .ok (.ifCond .ne 7, 3) := by decide +kernel
theorem dX12_openHead_236 : decode cX12_openHead 236 = .ok (.lconst 0, 1) := by decide +kernel
theorem dX12_openHead_237 : decode cX12_openHead 237 = .ok (.goto 4, 3) := by decide +kernel
theorem dX12_openHead_240 : decode cX12_openHead 240 = .ok (.lconst 1, 1) := by decide +kernel
theorem dX12_openHead_241 : decode cX12_openHead 241 = .ok (.lcmp, 1) := by decide +kernel
theorem dX12_openHead_242 : decode cX12_openHead 242 = .ok (.ifCond .eq 9, 3) := by decide +kernel
theorem dX12_openHead_245 : decode cX12_openHead 245 = .ok (.aload_n 0, 1) := by decide +kernel
theorem dX12_openHead_246 : decode cX12_openHead 246 = .ok (.bipush 8, 2) := by decide +kernel
theorem dX12_openHead_248 : decode cX12_openHead 248 = .ok (.invokevirtual 479, 3) := by decide +kernel
theorem dX12_openHead_251 : decode cX12_openHead 251 = .ok (.aload_n 0, 1) := by decide +kernel
theorem dX12_openHead_252 : decode cX12_openHead 252 = .ok (.getfield 101, 3) := by decide +kernel
theorem dX12_openHead_255 : decode cX12_openHead 255 = .ok (.iload 5, 2) := by decide +kernel
theorem dX12_openHead_257 : decode cX12_openHead 257 = .ok (.lload 6, 2) := by decide +kernel
theorem dX12_openHead_259 : decode cX12_openHead 259 = .ok (.l2i, 1) := by decide +kernel
theorem dX12_openHead_260 : decode cX12_openHead 260 = .ok (.iastore, 1) := by decide +kernel
theorem dX12_openHead_261 : decode cX12_openHead 261 = .ok (.aload_n 0, 1) := by decide +kernel
theorem dX12_openHead_262 : decode cX12_openHead 262 = .ok (.getfield 104, 3) := by decide +kernel
theorem dX12_openHead_265 : decode cX12_openHead 265 = .ok (.iload 5, 2) := by decide +kernel
theorem dX12_openHead_267 : decode cX12_openHead 267 = .ok (.lload 10, 2) := by decide +kernel
theorem dX12_openHead_269 : decode cX12_openHead 269 = .ok (.lconst 1, 1) := by decide +kernel
theorem dX12_openHead_270 : decode cX12_openHead 270 = .ok (.lcmp, 1) := by decide +kernel
theorem dX12_openHead_271 : decode cX12_openHead 271 = .ok (.ifCond .ne 10, 3) := by decide +kernel
theorem dX12_openHead_274 : decode cX12_openHead 274 = .ok (.aload_n 0, 1) := by decide +kernel
theorem dX12_openHead_275 : decode cX12_openHead 275 = .ok (.invokevirtual 482, 3) := by decide +kernel
theorem dX12_openHead_278 : decode cX12_openHead 278 = .ok (.goto 4, 3) := by decide +kernel
theorem dX12_openHead_281 : decode cX12_openHead 281 = .ok (.iconst 0, 1) := by decide +kernel
theorem dX12_openHead_282 : decode cX12_openHead 282 = .ok (.iastore, 1) := by decide +kernel
theorem dX12_openHead_283 : decode cX12_openHead 283 = .ok (.iload 8, 2) := by decide +kernel
theorem dX12_openHead_285 : decode cX12_openHead 285 = .ok (.ifCond .eq 22, 3) := by decide +kernel
theorem dX12_openHead_288 : decode cX12_openHead 288 = .ok (.aload_n 0, 1) := by decide +kernel
theorem dX12_openHead_289 : decode cX12_openHead 289 = .ok (.getfield 470, 3) := by decide +kernel
theorem dX12_openHead_292 : decode cX12_openHead 292 = .ok (.ifCond .ne 15, 3) := by decide +kernel
theorem dX12_openHead_295 : decode cX12_openHead 295 = .ok (.aload_n 0, 1) := by decide +kernel
theorem dX12_openHead_296 : decode cX12_openHead 296 = .ok (.aload_n 0, 1) := by decide +kernel
theorem dX12_openHead_297 : decode cX12_openHead 297 = .ok (.getfield 104, 3) := by decide +kernel
theorem dX12_openHead_300 : decode cX12_openHead 300 = .ok (.iload 5, 2) := by decide +kernel
theorem dX12_openHead_302 : decode cX12_openHead 302 = .ok (.iaload, 1) := by decide +kernel
theorem dX12_openHead_303 : decode cX12_openHead 303 = .ok (.iload_n 3, 1) := by decide +kernel
theorem dX12_openHead_304 : decode cX12_openHead 304 = .ok (.invokevirtual 605, 3) := by decide +kernel
theorem dX12_openHead_307 : decode cX12_openHead 307 = .ok (.iinc 5 1, 3) := by decide +kernel
theorem dX12_openHead_310 : decode cX12_openHead 310 = .ok (.goto (-207), 3) := by decide +kernel
theorem dX12_openHead_313 : decode cX12_openHead 313 = .ok (.return_, 1) := by decide +kernel
theorem dX12_readDictionary_0 : decode cX12_readDictionary 0 = .ok (.iload_n 1, 1) := by decide +kernel
theorem dX12_readDictionary_1 : decode cX12_readDictionary 1 = .ok (.bipush 40, 2) := by decide +kernel
theorem dX12_readDictionary_3 : decode cX12_readDictionary 3 = .ok (.if_icmp .le 10, 3) := by decide +kernel
theorem dX12_readDictionary_6 : decode cX12_readDictionary 6 = .ok (.aload_n 0, 1) := by decide +kernel
theorem dX12_readDictionary_7 : decode cX12_readDictionary 7 = .ok (.bipush 8, 2) := by decide +kernel
theorem dX12_readDictionary_9 : decode cX12_readDictionary 9 = .ok (.invokevirtual 479, 3) := by decide +kernel
theorem dX12_readDictionary_12 : decode cX12_readDictionary 12 = .ok (.return_, 1) := by decide +kernel
theorem dX12_readDictionary_13 : decode cX12_readDictionary 13 = .ok (.aload_n 0, 1) := by decide +kernel
theorem dX12_readDictionary_14 : decode cX12_readDictionary 14 = .ok (.iload_n 1, 1) := by decide +kernel
theorem dX12_readDictionary_15 : decode cX12_readDictionary 15 = .ok (.bipush 40, 2) := by decide +kernel
theorem dX12_readDictionary_17 : decode cX12_readDictionary 17 = .ok (.if_icmp .ne 9, 3) := by decide +kernel
theorem dX12_readDictionary_20 : decode cX12_readDictionary 20 = .ok (.ldc2_w 267, 3) := by decide +kernel
theorem dX12_readDictionary_23 : decode cX12_readDictionary 23 = .ok (.goto 18, 3) := by decide +kernel
theorem dX12_readDictionary_26 : decode cX12_readDictionary 26 = .ok (.ldc2_w 497, 3) := by decide +kernel
theorem dX12_readDictionary_29 : decode cX12_readDictionary 29 = .ok (.iload_n 1, 1) := by decide +kernel
theorem dX12_readDictionary_30 : decode cX12_readDictionary 30 = .ok (.iconst 2, 1) := by decide +kernel
theorem dX12_readDictionary_31 : decode cX12_readDictionary 31 = .ok (.irem, 1) := by decide +kernel
theorem dX12_readDictionary_32 : decode cX12_readDictionary 32 = .ok (.i2l, 1) := by decide +kernel
theorem dX12_readDictionary_33 : decode cX12_readDictionary 33 = .ok (.ladd, 1) := by decide +kernel
theorem dX12_readDictionary_34 : decode cX12_readDictionary 34 = .ok (.iload_n 1, 1) := by decide +kernel
theorem dX12_readDictionary_35 : decode cX12_readDictionary 35 = .ok (.iconst 2, 1) := by decide +kernel
theorem dX12_readDictionary_36 : decode cX12_readDictionary 36 = .ok (.idiv, 1) := by decide +kernel
theorem dX12_readDictionary_37 : decode cX12_readDictionary 37 = .ok (.bipush 11, 2) := by decide +kernel
theorem dX12_readDictionary_39 : decode cX12_readDictionary 39 = .ok (.iadd, 1) := by decide +kernel
theorem dX12_readDictionary_40 : decode cX12_readDictionary 40 = .ok (.lshl, 1) := by decide +kernel
theorem dX12_readDictionary_41 : decode cX12_readDictionary 41 = .ok (.putfield 515, 3) := by decide +kernel
theorem dX12_readDictionary_44 : decode cX12_readDictionary 44 = .ok (.aload_n 0, 1) := by decide +kernel
theorem dX12_readDictionary_45 : decode cX12_readDictionary 45 = .ok (.getfield 515, 3) := by decide +kernel
theorem dX12_readDictionary_48 : decode cX12_readDictionary 48 = .ok (.iload_n 2, 1) := by decide +kernel
theorem dX12_readDictionary_49 : decode cX12_readDictionary 49 = .ok (.i2l, 1) := by decide +kernel
theorem dX12_readDictionary_50 : decode cX12_readDictionary 50 = .ok (.lcmp, 1) := by decide +kernel
theorem dX12_readDictionary_51 : decode cX12_readDictionary 51 = .ok (.ifCond .le 9, 3) := by decide +kernel
theorem dX12_readDictionary_54 : decode cX12_readDictionary 54 = .ok (.aload_n 0, 1) := by decide +kernel
theorem dX12_readDictionary_55 : decode cX12_readDictionary 55 = .ok (.bipush 15, 2) := by decide +kernel
theorem dX12_readDictionary_57 : decode cX12_readDictionary 57 = .ok (.invokevirtual 479, 3) := by decide +kernel
theorem dX12_readDictionary_60 : decode cX12_readDictionary 60 = .ok (.return_, 1) := by decide +kernel
theorem dX12_openBlock_0 : decode cX12_openBlock 0 = .ok (.aload_n 0, 1) := by decide +kernel
theorem dX12_openBlock_1 : decode cX12_openBlock 1 = .ok (.getfield 476, 3) := by decide +kernel
theorem dX12_openBlock_4 : decode cX12_openBlock 4 = .ok (.istore 4, 2) := by decide +kernel
theorem dX12_openBlock_6 : decode cX12_openBlock 6 = .ok (.iload_n 1, 1) := by decide +kernel
theorem dX12_openBlock_7 : decode cX12_openBlock 7 = .ok (.iload_n 2, 1) := by decide +kernel
theorem dX12_openBlock_8 : decode cX12_openBlock 8 = .ok (.iadd, 1) := by decide +kernel
theorem dX12_openBlock_9 : decode cX12_openBlock 9 = .ok (.iconst 4, 1) := by decide +kernel
theorem dX12_openBlock_10 : decode cX12_openBlock 10 = .ok (.isub, 1) := by decide +kernel
theorem dX12_openBlock_11 : decode cX12_openBlock 11 = .ok (.istore 5, 2) := by decide +kernel
theorem dX12_openBlock_13 : decode cX12_openBlock 13 = .ok (.aload_n 0, 1) := by decide +kernel
theorem dX12_openBlock_14 : decode cX12_openBlock 14 = .ok (.iload 5, 2) := by decide +kernel
theorem dX12_openBlock_16 : decode cX12_openBlock 16 = .ok (.iload 4, 2) := by decide +kernel
theorem dX12_openBlock_18 : decode cX12_openBlock 18 = .ok (.if_icmp .ge 8, 3) := by decide +kernel
theorem dX12_openBlock_21 : decode cX12_openBlock 21 = .ok (.iload 5, 2) := by decide +kernel
theorem dX12_openBlock_23 : decode cX12_openBlock 23 = .ok (.goto 5, 3) := by decide +kernel
theorem dX12_openBlock_26 : decode cX12_openBlock 26 = .ok (.iload 4, 2) := by decide +kernel
theorem dX12_openBlock_28 : decode cX12_openBlock 28 = .ok (.putfield 476, 3) := by decide +kernel
theorem dX12_openBlock_31 : decode cX12_openBlock 31 = .ok (.aload_n 0, 1) := by decide +kernel
theorem dX12_openBlock_32 : decode cX12_openBlock 32 = .ok (.iload_n 1, 1) := by decide +kernel
theorem dX12_openBlock_33 : decode cX12_openBlock 33 = .ok (.iload_n 2, 1) := by decide +kernel
theorem dX12_openBlock_34 : decode cX12_openBlock 34 = .ok (.iload_n 3, 1) := by decide +kernel
theorem dX12_openBlock_35 : decode cX12_openBlock 35 = .ok (.invokevirtual 608, 3) := by decide +kernel
theorem dX12_openBlock_38 : decode cX12_openBlock 38 = .ok (.aload_n 0, 1) := by decide +kernel
theorem dX12_openBlock_39 : decode cX12_openBlock 39 = .ok (.getfield 470, 3) := by decide +kernel
theorem dX12_openBlock_42 : decode cX12_openBlock 42 = .ok (.iconst 1, 1) := by decide +kernel
theorem dX12_openBlock_43 : decode cX12_openBlock 43 = .ok (.if_icmp .ne 18, 3) := by decide +kernel
theorem dX12_openBlock_46 : decode cX12_openBlock 46 = .ok (.aload_n 0, 1) := by decide +kernel
theorem dX12_openBlock_47 : decode cX12_openBlock 47 = .ok (.getfield 473, 3) := by decide +kernel
theorem dX12_openBlock_50 : decode cX12_openBlock 50 = .ok (.iload 5, 2) := by decide +kernel
theorem dX12_openBlock_52 : decode cX12_openBlock 52 = .ok (.if_icmp .lt 9, 3) := by decide +kernel
theorem dX12_openBlock_55 : decode cX12_openBlock 55 = .ok (.aload_n 0, 1) := by decide +kernel
theorem dX12_openBlock_56 : decode cX12_openBlock 56 = .ok (.bipush 8, 2) := by decide +kernel
theorem dX12_openBlock_58 : decode cX12_openBlock 58 = .ok (.putfield 470, 3) := by decide +kernel
theorem dX12_openBlock_61 : decode cX12_openBlock 61 = .ok (.aload_n 0, 1) := by decide +kernel
theorem dX12_openBlock_62 : decode cX12_openBlock 62 = .ok (.getfield 470, 3) := by decide +kernel
theorem dX12_openBlock_65 : decode cX12_openBlock 65 = .ok (.ifCond .ne 22, 3) := by decide +kernel
theorem dX12_openBlock_68 : decode cX12_openBlock 68 = .ok (.aload_n 0, 1) := by decide +kernel
theorem dX12_openBlock_69 : decode cX12_openBlock 69 = .ok (.getfield 473, 3) := by decide +kernel
theorem dX12_openBlock_72 : decode cX12_openBlock 72 = .ok (.iload 5, 2) := by decide +kernel
theorem dX12_openBlock_74 : decode cX12_openBlock 74 = .ok (.if_icmp .ge 13, 3) := by decide +kernel
theorem dX12_openBlock_77 : decode cX12_openBlock 77 = .ok (.aload_n 0, 1) := by decide +kernel
theorem dX12_openBlock_78 : decode cX12_openBlock 78 = .ok (.iconst 0, 1) := by decide +kernel
theorem dX12_openBlock_79 : decode cX12_openBlock 79 = .ok (.bipush 8, 2) := by decide +kernel
theorem dX12_openBlock_81 : decode cX12_openBlock 81 = .ok (.invokevirtual 569, 3) := by decide +kernel
theorem dX12_openBlock_84 : decode cX12_openBlock 84 = .ok (.goto (-23), 3) := by decide +kernel
theorem dX12_openBlock_87 : decode cX12_openBlock 87 = .ok (.aload_n 0, 1) := by decide +kernel
theorem dX12_openBlock_88 : decode cX12_openBlock 88 = .ok (.iload 4, 2) := by decide +kernel
theorem dX12_openBlock_90 : decode cX12_openBlock 90 = .ok (.putfield 476, 3) := by decide +kernel
theorem dX12_openBlock_93 : decode cX12_openBlock 93 = .ok (.aload_n 0, 1) := by decide +kernel
theorem dX12_openBlock_94 : decode cX12_openBlock 94 = .ok (.getfield 470, 3) := by decide +kernel
theorem dX12_openBlock_97 : decode cX12_openBlock 97 = .ok (.ifCond .le 4, 3) := by decide +kernel
theorem dX12_openBlock_100 : decode cX12_openBlock 100 = .ok (.return_, 1) := by decide +kernel
theorem dX12_openBlock_101 : decode cX12_openBlock 101 = .ok (.aload_n 0, 1) := by decide +kernel
theorem dX12_openBlock_102 : decode cX12_openBlock 102 = .ok (.aload_n 0, 1) := by decide +kernel
theorem dX12_openBlock_103 : decode cX12_openBlock 103 = .ok (.iload_n 1, 1) := by decide +kernel
theorem dX12_openBlock_104 : decode cX12_openBlock 104 = .ok (.iload 5, 2) := by decide +kernel
theorem dX12_openBlock_106 : decode cX12_openBlock 106 = .ok (.invokevirtual 575, 3) := by decide +kernel
theorem dX12_openBlock_109 : decode cX12_openBlock 109 = .ok (.invokevirtual 578, 3) := by decide +kernel
theorem dX12_openBlock_112 : decode cX12_openBlock 112 = .ok (.aload_n 0, 1) := by decide +kernel
theorem dX12_openBlock_113 : decode cX12_openBlock 113 = .ok (.getfield 470, 3) := by decide +kernel
theorem dX12_openBlock_116 : decode cX12_openBlock 116 = .ok (.ifCond .le 4, 3) := by decide +kernel
theorem dX12_openBlock_119 : decode cX12_openBlock 119 = .ok (.return_, 1) := by decide +kernel
theorem dX12_openBlock_120 : decode cX12_openBlock 120 = .ok (.aload_n 0, 1) := by decide +kernel
theorem dX12_openBlock_121 : decode cX12_openBlock 121 = .ok (.iconst 0, 1) := by decide +kernel
theorem dX12_openBlock_122 : decode cX12_openBlock 122 = .ok (.putfield 208, 3) := by decide +kernel
theorem dX12_openBlock_125 : decode cX12_openBlock 125 = .ok (.aload_n 0, 1) := by decide +kernel
theorem dX12_openBlock_126 : decode cX12_openBlock 126 = .ok (.iconst 0, 1) := by decide +kernel
theorem dX12_openBlock_127 : decode cX12_openBlock 127 = .ok (.putfield 249, 3) := by decide +kernel
theorem dX12_openBlock_130 : decode cX12_openBlock 130 = .ok (.aload_n 0, 1) := by decide +kernel
theorem dX12_openBlock_131 : decode cX12_openBlock 131 = .ok (.aload_n 0, 1) := by decide +kernel
theorem dX12_openBlock_132 : decode cX12_openBlock 132 = .ok (.getfield 129, 3) := by decide +kernel
theorem dX12_openBlock_135 : decode cX12_openBlock 135 = .ok (.putfield 505, 3) := by decide +kernel
theorem dX12_openBlock_138 : decode cX12_openBlock 138 = .ok (.aload_n 0, 1) := by decide +kernel
theorem dX12_openBlock_139 : decode cX12_openBlock 139 = .ok (.getfield 473, 3) := by decide +kernel
theorem dX12_openBlock_142 : decode cX12_openBlock 142 = .ok (.istore 6, 2) := by decide +kernel
theorem dX12_openBlock_144 : decode cX12_openBlock 144 = .ok (.aload_n 0, 1) := by decide +kernel
theorem dX12_openBlock_145 : decode cX12_openBlock 145 = .ok (.invokevirtual 611, 3) := by decide +kernel
theorem dX12_openBlock_148 : decode cX12_openBlock 148 = .ok (.aload_n 0, 1) := by decide +kernel
theorem dX12_openBlock_149 : decode cX12_openBlock 149 = .ok (.getfield 470, 3) := by decide +kernel
theorem dX12_openBlock_152 : decode cX12_openBlock 152 = .ok (.ifCond .le 4, 3) := by decide +kernel
theorem dX12_openBlock_155 : decode cX12_openBlock 155 = .ok (.return_, 1) := by decide +kernel
theorem dX12_openBlock_156 : decode cX12_openBlock 156 = .ok (.aload_n 0, 1) := by decide +kernel
theorem dX12_openBlock_157 : decode cX12_openBlock 157 = .ok (.getfield 473, 3) := by decide +kernel
theorem dX12_openBlock_160 : decode cX12_openBlock 160 = .ok (.iload 6, 2) := by decide +kernel
theorem dX12_openBlock_162 : decode cX12_openBlock 162 = .ok (.isub, 1) := by decide +kernel
theorem dX12_openBlock_163 : decode cX12_openBlock 163 = .ok (.istore 7, 2) := by decide +kernel
theorem dX12_openBlock_165 : decode cX12_openBlock 165 = .ok (.aload_n 0, 1) := by decide +kernel
theorem dX12_openBlock_166 : decode cX12_openBlock 166 = .ok (.getfield 593, 3) := by decide +kernel
theorem dX12_openBlock_169 : decode cX12_openBlock 169 = .ok (.lconst 0, 1) := by decide +kernel
theorem dX12_openBlock_170 : decode cX12_openBlock 170 = .ok (.lcmp, 1) := by decide +kernel
theorem dX12_openBlock_171 : decode cX12_openBlock 171 = .ok (.ifCond .lt 14, 3) := by decide +kernel
theorem dX12_openBlock_174 : decode cX12_openBlock 174 = .ok (.aload_n 0, 1) := by decide +kernel
theorem dX12_openBlock_175 : decode cX12_openBlock 175 = .ok (.getfield 593, 3) := by decide +kernel
theorem dX12_openBlock_178 : decode cX12_openBlock 178 = .ok (.iload 7, 2) := by decide +kernel
theorem dX12_openBlock_180 : decode cX12_openBlock 180 = .ok (.i2l, 1) := by decide +kernel
theorem dX12_openBlock_181 : decode cX12_openBlock 181 = .ok (.lcmp, 1) := by decide +kernel
theorem dX12_openBlock_182 : decode cX12_openBlock 182 = .ok (.ifCond .ne 25, 3) := by decide +kernel
theorem dX12_openBlock_185 : decode cX12_openBlock 185 = .ok (.aload_n 0, 1) := by decide +kernel
theorem dX12_openBlock_186 : decode cX12_openBlock 186 = .ok (.getfield 596, 3) := by decide +kernel
theorem dX12_openBlock_189 : decode cX12_openBlock 189 = .ok (.lconst 0, 1) := by decide +kernel
theorem dX12_openBlock_190 : decode cX12_openBlock 190 = .ok (.lcmp, 1) := by decide +kernel
theorem dX12_openBlock_191 : decode cX12_openBlock 191 = .ok (.ifCond .lt 23, 3) := by decide +kernel
theorem dX12_openBlock_194 : decode cX12_openBlock 194 = .ok (.aload_n 0, 1) := by decide +kernel
theorem dX12_openBlock_195 : decode cX12_openBlock 195 = .ok (.getfield 596, 3) := by decide +kernel
theorem dX12_openBlock_198 : decode cX12_openBlock 198 = .ok (.aload_n 0, 1) := by decide +kernel
theorem dX12_openBlock_199 : decode cX12_openBlock 199 = .ok (.getfield 208, 3) := by decide +kernel
theorem dX12_openBlock_202 : decode cX12_openBlock 202 = .ok (.i2l, 1) := by decide +kernel
theorem dX12_openBlock_203 : decode cX12_openBlock 203 = .ok (.lcmp, 1) := by decide +kernel
theorem dX12_openBlock_204 : decode cX12_openBlock 204 = .ok (.ifCond .eq 10, 3) := by decide +kernel
theorem dX12_openBlock_207 : decode cX12_openBlock 207 = .ok (.aload_n 0, 1) := by decide +kernel
theorem dX12_openBlock_208 : decode cX12_openBlock 208 = .ok (.bipush 8, 2) := by decide +kernel
theorem dX12_openBlock_210 : decode cX12_openBlock 210 = .ok (.invokevirtual 479, 3) := by decide +kernel
theorem dX12_openBlock_213 : decode cX12_openBlock 213 = .ok (.return_, 1) := by decide +kernel
theorem dX12_openBlock_214 : decode cX12_openBlock 214 = .ok (.aload_n 0, 1) := by decide +kernel
theorem dX12_openBlock_215 : decode cX12_openBlock 215 = .ok (.getfield 470, 3) := by decide +kernel
theorem dX12_openBlock_218 : decode cX12_openBlock 218 = .ok (.ifCond .ne 24, 3) := by decide +kernel
theorem dX12_openBlock_221 : decode cX12_openBlock 221 = .ok (.aload_n 0, 1) := by decide +kernel
theorem dX12_openBlock_222 : decode cX12_openBlock 222 = .ok (.getfield 473, 3) := by decide +kernel
theorem dX12_openBlock_225 : decode cX12_openBlock 225 = .ok (.iload_n 1, 1) := by decide +kernel
theorem dX12_openBlock_226 : decode cX12_openBlock 226 = .ok (.isub, 1) := by decide +kernel
theorem dX12_openBlock_227 : decode cX12_openBlock 227 = .ok (.iconst 4, 1) := by decide +kernel
theorem dX12_openBlock_228 : decode cX12_openBlock 228 = .ok (.irem, 1) := by decide +kernel
theorem dX12_openBlock_229 : decode cX12_openBlock 229 = .ok (.ifCond .eq 13, 3) := by decide +kernel
theorem dX12_openBlock_232 : decode cX12_openBlock 232 = .ok (.aload_n 0, 1) := by decide +kernel
theorem dX12_openBlock_233 : decode cX12_openBlock 233 = .ok (.iconst 0, 1) := by decide +kernel
theorem dX12_openBlock_234 : decode cX12_openBlock 234 = .ok (.bipush 8, 2) := by decide +kernel
theorem dX12_openBlock_236 : decode cX12_openBlock 236 = .ok (.invokevirtual 569, 3) := by decide +kernel
theorem dX12_openBlock_239 : decode cX12_openBlock 239 = .ok (.goto (-25), 3) := by decide +kernel
theorem dX12_openBlock_242 : decode cX12_openBlock 242 = .ok (.aload_n 0, 1) := by decide +kernel
theorem dX12_openBlock_243 : decode cX12_openBlock 243 = .ok (.getfield 470, 3) := by decide +kernel
theorem dX12_openBlock_246 : decode cX12_openBlock 246 = .ok (.ifCond .le 4, 3) := by decide +kernel
theorem dX12_openBlock_249 : decode cX12_openBlock 249 = .ok (.return_, 1) := by decide +kernel
theorem dX12_openBlock_250 : decode cX12_openBlock 250 = .ok (.aload_n 0, 1) := by decide +kernel
theorem dX12_openBlock_251 : decode cX12_openBlock 251 = .ok (.getfield 587, 3) := by decide +kernel
theorem dX12_openBlock_254 : decode cX12_openBlock 254 = .ok (.iconst 2, 1) := by decide +kernel
theorem dX12_openBlock_255 : decode cX12_openBlock 255 = .ok (.isub, 1) := by decide +kernel
theorem dX12_openBlock_256 : decode cX12_openBlock 256 = .ok (.istore 8, 2) := by decide +kernel
theorem dX12_openBlock_258 : decode cX12_openBlock 258 = .ok (.iload 8, 2) := by decide +kernel
theorem dX12_openBlock_260 : decode cX12_openBlock 260 = .ok (.ifCond .lt 41, 3) := by decide +kernel
theorem dX12_openBlock_263 : decode cX12_openBlock 263 = .ok (.aload_n 0, 1) := by decide +kernel
theorem dX12_openBlock_264 : decode cX12_openBlock 264 = .ok (.getfield 101, 3) := by decide +kernel
theorem dX12_openBlock_267 : decode cX12_openBlock 267 = .ok (.iload 8, 2) := by decide +kernel
theorem dX12_openBlock_269 : decode cX12_openBlock 269 = .ok (.iaload, 1) := by decide +kernel
theorem dX12_openBlock_270 : decode cX12_openBlock 270 = .ok (.iconst 3, 1) := by decide +kernel
theorem dX12_openBlock_271 : decode cX12_openBlock 271 = .ok (.if_icmp .ne 19, 3) := by decide +kernel
theorem dX12_openBlock_274 : decode cX12_openBlock 274 = .ok (.aload_n 0, 1) := by decide +kernel
theorem dX12_openBlock_275 : decode cX12_openBlock 275 = .ok (.aload_n 0, 1) := by decide +kernel
theorem dX12_openBlock_276 : decode cX12_openBlock 276 = .ok (.getfield 104, 3) := by decide +kernel
theorem dX12_openBlock_279 : decode cX12_openBlock 279 = .ok (.iload 8, 2) := by decide +kernel
theorem dX12_openBlock_281 : decode cX12_openBlock 281 = .ok (.iaload, 1) := by decide +kernel
theorem dX12_openBlock_282 : decode cX12_openBlock 282 = .ok (.iconst 1, 1) := by decide +kernel
theorem dX12_openBlock_283 : decode cX12_openBlock 283 = .ok (.iadd, 1) := by decide +kernel
theorem dX12_openBlock_284 : decode cX12_openBlock 284 = .ok (.invokevirtual 216, 3) := by decide +kernel
theorem dX12_openBlock_287 : decode cX12_openBlock 287 = .ok (.goto 8, 3) := by decide +kernel
theorem dX12_openBlock_290 : decode cX12_openBlock 290 = .ok (.aload_n 0, 1) := by decide +kernel
theorem dX12_openBlock_291 : decode cX12_openBlock 291 = .ok (.iconst 1, 1) := by decide +kernel
theorem dX12_openBlock_292 : decode cX12_openBlock 292 = .ok (.invokevirtual 212, 3) := by decide +kernel
theorem dX12_openBlock_295 : decode cX12_openBlock 295 = .ok (.iinc 8 (-1), 3) := by decide +kernel
theorem dX12_openBlock_298 : decode cX12_openBlock 298 = .ok (.goto (-40), 3) := by decide +kernel
theorem dX12_openBlock_301 : decode cX12_openBlock 301 = .ok (.aload_n 0, 1) := by decide +kernel
theorem dX12_openBlock_302 : decode cX12_openBlock 302 = .ok (.aload_n 0, 1) := by decide +kernel
theorem dX12_openBlock_303 : decode cX12_openBlock 303 = .ok (.getfield 572, 3) := by decide +kernel
theorem dX12_openBlock_306 : decode cX12_openBlock 306 = .ok (.invokevirtual 199, 3) := by decide +kernel
theorem dX12_openBlock_309 : decode cX12_openBlock 309 = .ok (.iconst 0, 1) := by decide +kernel
theorem dX12_openBlock_310 : decode cX12_openBlock 310 = .ok (.istore 8, 2) := by decide +kernel
theorem dX12_openBlock_312 : decode cX12_openBlock 312 = .ok (.iload 8, 2) := by decide +kernel
theorem dX12_openBlock_314 : decode cX12_openBlock 314 = .ok (.aload_n 0, 1) := by decide +kernel
theorem dX12_openBlock_315 : decode cX12_openBlock 315 = .ok (.getfield 208, 3) := by decide +kernel
theorem dX12_openBlock_318 : decode cX12_openBlock 318 = .ok (.if_icmp .ge 20, 3) := by decide +kernel
theorem dX12_openBlock_321 : decode cX12_openBlock 321 = .ok (.aload_n 0, 1) := by decide +kernel
theorem dX12_openBlock_322 : decode cX12_openBlock 322 = .ok (.aload_n 0, 1) := by decide +kernel
theorem dX12_openBlock_323 : decode cX12_openBlock 323 = .ok (.getfield 47, 3) := by decide +kernel
theorem dX12_openBlock_326 : decode cX12_openBlock 326 = .ok (.iload 8, 2) := by decide +kernel
theorem dX12_openBlock_328 : decode cX12_openBlock 328 = .ok (.iaload, 1) := by decide +kernel
theorem dX12_openBlock_329 : decode cX12_openBlock 329 = .ok (.invokevirtual 202, 3) := by decide +kernel
theorem dX12_openBlock_332 : decode cX12_openBlock 332 = .ok (.iinc 8 1, 3) := by decide +kernel
theorem dX12_openBlock_335 : decode cX12_openBlock 335 = .ok (.goto (-23), 3) := by decide +kernel
theorem dX12_openBlock_338 : decode cX12_openBlock 338 = .ok (.aload_n 0, 1) := by decide +kernel
theorem dX12_openBlock_339 : decode cX12_openBlock 339 = .ok (.invokevirtual 205, 3) := by decide +kernel
theorem dX12_openBlock_342 : decode cX12_openBlock 342 = .ok (.iconst 1, 1) := by decide +kernel
theorem dX12_openBlock_343 : decode cX12_openBlock 343 = .ok (.istore 8, 2) := by decide +kernel
theorem dX12_openBlock_345 : decode cX12_openBlock 345 = .ok (.iconst 0, 1) := by decide +kernel
theorem dX12_openBlock_346 : decode cX12_openBlock 346 = .ok (.istore 9, 2) := by decide +kernel
theorem dX12_openBlock_348 : decode cX12_openBlock 348 = .ok (.iload 9, 2) := by decide +kernel
theorem dX12_openBlock_350 : decode cX12_openBlock 350 = .ok (.aload_n 0, 1) := by decide +kernel
theorem dX12_openBlock_351 : decode cX12_openBlock 351 = .ok (.getfield 572, 3) := by decide +kernel
theorem dX12_openBlock_354 : decode cX12_openBlock 354 = .ok (.invokestatic 191, 3) := by decide +kernel
theorem dX12_openBlock_357 : decode cX12_openBlock 357 = .ok (.if_icmp .ge 35, 3) := by decide +kernel
theorem dX12_openBlock_360 : decode cX12_openBlock 360 = .ok (.aload_n 0, 1) := by decide +kernel
theorem dX12_openBlock_361 : decode cX12_openBlock 361 = .ok (.invokevirtual 482, 3) := by decide +kernel
theorem dX12_openBlock_364 : decode cX12_openBlock 364 = .ok (.aload_n 0, 1) := by decide +kernel
theorem dX12_openBlock_365 : decode cX12_openBlock 365 = .ok (.getfield 44, 3) := by decide +kernel
theorem dX12_openBlock_368 : decode cX12_openBlock 368 = .ok (.iload 9, 2) := by decide +kernel
theorem dX12_openBlock_370 : decode cX12_openBlock 370 = .ok (.iaload, 1) := by decide +kernel
theorem dX12_openBlock_371 : decode cX12_openBlock 371 = .ok (.if_icmp .ne 12, 3) := by decide +kernel
theorem dX12_openBlock_374 : decode cX12_openBlock 374 = .ok (.iload 8, 2) := by decide +kernel
theorem dX12_openBlock_376 : decode cX12_openBlock 376 = .ok (.ifCond .eq 7, 3) := by decide +kernel
theorem dX12_openBlock_379 : decode cX12_openBlock 379 = .ok (.iconst 1, 1) := by decide +kernel
theorem dX12_openBlock_380 : decode cX12_openBlock 380 = .ok (.goto 4, 3) := by decide +kernel
theorem dX12_openBlock_383 : decode cX12_openBlock 383 = .ok (.iconst 0, 1) := by decide +kernel
theorem dX12_openBlock_384 : decode cX12_openBlock 384 = .ok (.istore 8, 2) := by decide +kernel
theorem dX12_openBlock_386 : decode cX12_openBlock 386 = .ok (.iinc 9 1, 3) := by decide +kernel
theorem dX12_openBlock_389 : decode cX12_openBlock 389 = .ok (.goto (-41), 3) := by decide +kernel
theorem dX12_openBlock_392 : decode cX12_openBlock 392 = .ok (.aload_n 0, 1) := by decide +kernel
theorem dX12_openBlock_393 : decode cX12_openBlock 393 = .ok (.getfield 470, 3) := by decide +kernel
theorem dX12_openBlock_396 : decode cX12_openBlock 396 = .ok (.ifCond .ne 14, 3) := by decide +kernel
theorem dX12_openBlock_399 : decode cX12_openBlock 399 = .ok (.iload 8, 2) := by decide +kernel
theorem dX12_openBlock_401 : decode cX12_openBlock 401 = .ok (.ifCond .ne 9, 3) := by decide +kernel
theorem dX12_openBlock_404 : decode cX12_openBlock 404 = .ok (.aload_n 0, 1) := by decide +kernel
theorem dX12_openBlock_405 : decode cX12_openBlock 405 = .ok (.bipush 10, 2) := by decide +kernel
theorem dX12_openBlock_407 : decode cX12_openBlock 407 = .ok (.invokevirtual 479, 3) := by decide +kernel
theorem dX12_openBlock_410 : decode cX12_openBlock 410 = .ok (.aload_n 0, 1) := by decide +kernel
theorem dX12_openBlock_411 : decode cX12_openBlock 411 = .ok (.getfield 470, 3) := by decide +kernel
theorem dX12_openBlock_414 : decode cX12_openBlock 414 = .ok (.ifCond .le 4, 3) := by decide +kernel
theorem dX12_openBlock_417 : decode cX12_openBlock 417 = .ok (.return_, 1) := by decide +kernel
theorem dX12_openBlock_418 : decode cX12_openBlock 418 = .ok (.iconst 0, 1) := by decide +kernel
theorem dX12_openBlock_419 : decode cX12_openBlock 419 = .ok (.istore 9, 2) := by decide +kernel
theorem dX12_openBlock_421 : decode cX12_openBlock 421 = .ok (.iload 9, 2) := by decide +kernel
theorem dX12_openBlock_423 : decode cX12_openBlock 423 = .ok (.aload_n 0, 1) := by decide +kernel
theorem dX12_openBlock_424 : decode cX12_openBlock 424 = .ok (.getfield 208, 3) := by decide +kernel
theorem dX12_openBlock_427 : decode cX12_openBlock 427 = .ok (.if_icmp .ge 35, 3) := by decide +kernel
theorem dX12_openBlock_430 : decode cX12_openBlock 430 = .ok (.aload_n 0, 1) := by decide +kernel
theorem dX12_openBlock_431 : decode cX12_openBlock 431 = .ok (.getfield 32, 3) := by decide +kernel
theorem dX12_openBlock_434 : decode cX12_openBlock 434 = .ok (.aload_n 0, 1) := by decide +kernel
theorem dX12_openBlock_435 : decode cX12_openBlock 435 = .ok (.getfield 129, 3) := by decide +kernel
theorem dX12_openBlock_438 : decode cX12_openBlock 438 = .ok (.aload_n 0, 1) := by decide +kernel
theorem dX12_openBlock_439 : decode cX12_openBlock 439 = .ok (.getfield 47, 3) := by decide +kernel
theorem dX12_openBlock_442 : decode cX12_openBlock 442 = .ok (.iload 9, 2) := by decide +kernel
theorem dX12_openBlock_444 : decode cX12_openBlock 444 = .ok (.iaload, 1) := by decide +kernel
theorem dX12_openBlock_445 : decode cX12_openBlock 445 = .ok (.iastore, 1) := by decide +kernel
theorem dX12_openBlock_446 : decode cX12_openBlock 446 = .ok (.aload_n 0, 1) := by decide +kernel
theorem dX12_openBlock_447 : decode cX12_openBlock 447 = .ok (.dup, 1) := by decide +kernel
theorem dX12_openBlock_448 : decode cX12_openBlock 448 = .ok (.getfield 129, 3) := by decide +kernel
theorem dX12_openBlock_451 : decode cX12_openBlock 451 = .ok (.iconst 1, 1) := by decide +kernel
theorem dX12_openBlock_452 : decode cX12_openBlock 452 = .ok (.iadd, 1) := by decide +kernel
theorem dX12_openBlock_453 : decode cX12_openBlock 453 = .ok (.putfield 129, 3) := by decide +kernel
theorem dX12_openBlock_456 : decode cX12_openBlock 456 = .ok (.iinc 9 1, 3) := by decide +kernel
theorem dX12_openBlock_459 : decode cX12_openBlock 459 = .ok (.goto (-38), 3) := by decide +kernel
theorem dX12_openBlock_462 : decode cX12_openBlock 462 = .ok (.aload_n 0, 1) := by decide +kernel
theorem dX12_openBlock_463 : decode cX12_openBlock 463 = .ok (.getfield 62, 3) := by decide +kernel
theorem dX12_openBlock_466 : decode cX12_openBlock 466 = .ok (.aload_n 0, 1) := by decide +kernel
theorem dX12_openBlock_467 : decode cX12_openBlock 467 = .ok (.getfield 228, 3) := by decide +kernel
theorem dX12_openBlock_470 : decode cX12_openBlock 470 = .ok (.iload_n 1, 1) := by decide +kernel
theorem dX12_openBlock_471 : decode cX12_openBlock 471 = .ok (.iastore, 1) := by decide +kernel
theorem dX12_openBlock_472 : decode cX12_openBlock 472 = .ok (.aload_n 0, 1) := by decide +kernel
theorem dX12_openBlock_473 : decode cX12_openBlock 473 = .ok (.getfield 65, 3) := by decide +kernel
theorem dX12_openBlock_476 : decode cX12_openBlock 476 = .ok (.aload_n 0, 1) := by decide +kernel
theorem dX12_openBlock_477 : decode cX12_openBlock 477 = .ok (.getfield 228, 3) := by decide +kernel
theorem dX12_openBlock_480 : decode cX12_openBlock 480 = .ok (.iload_n 2, 1) := by decide +kernel
theorem dX12_openBlock_481 : decode cX12_openBlock 481 = .ok (.iastore, 1) := by decide +kernel
theorem dX12_openBlock_482 : decode cX12_openBlock 482 = .ok (.aload_n 0, 1) := by decide +kernel
theorem dX12_openBlock_483 : decode cX12_openBlock 483 = .ok (.getfield 68, 3) := by decide +kernel
theorem dX12_openBlock_486 : decode cX12_openBlock 486 = .ok (.aload_n 0, 1) := by decide +kernel
theorem dX12_openBlock_487 : decode cX12_openBlock 487 = .ok (.getfield 228, 3) := by decide +kernel
theorem dX12_openBlock_490 : decode cX12_openBlock 490 = .ok (.iload 7, 2) := by decide +kernel
theorem dX12_openBlock_492 : decode cX12_openBlock 492 = .ok (.iastore, 1) := by decide +kernel
theorem dX12_openBlock_493 : decode cX12_openBlock 493 = .ok (.aload_n 0, 1) := by decide +kernel
theorem dX12_openBlock_494 : decode cX12_openBlock 494 = .ok (.getfield 71, 3) := by decide +kernel
theorem dX12_openBlock_497 : decode cX12_openBlock 497 = .ok (.aload_n 0, 1) := by decide +kernel
theorem dX12_openBlock_498 : decode cX12_openBlock 498 = .ok (.getfield 228, 3) := by decide +kernel
theorem dX12_openBlock_501 : decode cX12_openBlock 501 = .ok (.aload_n 0, 1) := by decide +kernel
theorem dX12_openBlock_502 : decode cX12_openBlock 502 = .ok (.getfield 208, 3) := by decide +kernel
theorem dX12_openBlock_505 : decode cX12_openBlock 505 = .ok (.iastore, 1) := by decide +kernel
theorem dX12_openBlock_506 : decode cX12_openBlock 506 = .ok (.aload_n 0, 1) := by decide +kernel
theorem dX12_openBlock_507 : decode cX12_openBlock 507 = .ok (.getfield 74, 3) := by decide +kernel
theorem dX12_openBlock_510 : decode cX12_openBlock 510 = .ok (.aload_n 0, 1) := by decide +kernel
theorem dX12_openBlock_511 : decode cX12_openBlock 511 = .ok (.getfield 228, 3) := by decide +kernel
theorem dX12_openBlock_514 : decode cX12_openBlock 514 = .ok (.aload_n 0, 1) := by decide +kernel
theorem dX12_openBlock_515 : decode cX12_openBlock 515 = .ok (.getfield 434, 3) := by decide +kernel
theorem dX12_openBlock_518 : decode cX12_openBlock 518 = .ok (.iastore, 1) := by decide +kernel
theorem dX12_openBlock_519 : decode cX12_openBlock 519 = .ok (.aload_n 0, 1) := by decide +kernel
theorem dX12_openBlock_520 : decode cX12_openBlock 520 = .ok (.dup, 1) := by decide +kernel
theorem dX12_openBlock_521 : decode cX12_openBlock 521 = .ok (.getfield 228, 3) := by decide +kernel
theorem dX12_openBlock_524 : decode cX12_openBlock 524 = .ok (.iconst 1, 1) := by decide +kernel
theorem dX12_openBlock_525 : decode cX12_openBlock 525 = .ok (.iadd, 1) := by decide +kernel
theorem dX12_openBlock_526 : decode cX12_openBlock 526 = .ok (.putfield 228, 3) := by decide +kernel
theorem dX12_openBlock_529 : decode cX12_openBlock 529 = .ok (.return_, 1) := by decide +kernel
theorem dX12_wantV_0 : decode cX12_wantV 0 = .ok (.aload_n 0, 1) := by decide +kernel
theorem dX12_wantV_1 : decode cX12_wantV 1 = .ok (.bipush 11, 2) := by decide +kernel
theorem dX12_wantV_3 : decode cX12_wantV 3 = .ok (.invokevirtual 590, 3) := by decide +kernel
theorem dX12_wantV_6 : decode cX12_wantV 6 = .ok (.lstore_n 3, 1) := by decide +kernel
theorem dX12_wantV_7 : decode cX12_wantV 7 = .ok (.aload_n 0, 1) := by decide +kernel
theorem dX12_wantV_8 : decode cX12_wantV 8 = .ok (.getfield 470, 3) := by decide +kernel
theorem dX12_wantV_11 : decode cX12_wantV 11 = .ok (.ifCond .ne 15, 3) := by decide +kernel
theorem dX12_wantV_14 : decode cX12_wantV 14 = .ok (.lload_n 3, 1) := by decide +kernel
theorem dX12_wantV_15 : decode cX12_wantV 15 = .ok (.lload_n 1, 1) := by decide +kernel
theorem dX12_wantV_16 : decode cX12_wantV 16 = .ok (.lcmp, 1) := by decide +kernel
theorem dX12_wantV_17 : decode cX12_wantV 17 = .ok (.ifCond .eq 9, 3) := by decide +kernel
theorem dX12_wantV_20 : decode cX12_wantV 20 = .ok (.aload_n 0, 1) := by decide +kernel
theorem dX12_wantV_21 : decode cX12_wantV 21 = .ok (.bipush 11, 2) := by decide +kernel
theorem dX12_wantV_23 : decode cX12_wantV 23 = .ok (.invokevirtual 479, 3) := by decide +kernel
theorem dX12_wantV_26 : decode cX12_wantV 26 = .ok (.return_, 1) := by decide +kernel
theorem dX12_openIndex_0 : decode cX12_openIndex 0 = .ok (.aload_n 0, 1) := by decide +kernel
theorem dX12_openIndex_1 : decode cX12_openIndex 1 = .ok (.aload_n 0, 1) := by decide +kernel
theorem dX12_openIndex_2 : decode cX12_openIndex 2 = .ok (.getfield 228, 3) := by decide +kernel
theorem dX12_openIndex_5 : decode cX12_openIndex 5 = .ok (.i2l, 1) := by decide +kernel
theorem dX12_openIndex_6 : decode cX12_openIndex 6 = .ok (.invokevirtual 614, 3) := by decide +kernel
theorem dX12_openIndex_9 : decode cX12_openIndex 9 = .ok (.iconst 0, 1) := by decide +kernel
theorem dX12_openIndex_10 : decode cX12_openIndex 10 = .ok (.istore_n 2, 1) := by decide +kernel
theorem dX12_openIndex_11 : decode cX12_openIndex 11 = .ok (.iload_n 2, 1) := by decide +kernel
theorem dX12_openIndex_12 : decode cX12_openIndex 12 = .ok (.aload_n 0, 1) := by decide +kernel
theorem dX12_openIndex_13 : decode cX12_openIndex 13 = .ok (.getfield 228, 3) := by decide +kernel
theorem dX12_openIndex_16 : decode cX12_openIndex 16 = .ok (.if_icmp .ge 53, 3) := by decide +kernel
theorem dX12_openIndex_19 : decode cX12_openIndex 19 = .ok (.aload_n 0, 1) := by decide +kernel
theorem dX12_openIndex_20 : decode cX12_openIndex 20 = .ok (.getfield 470, 3) := by decide +kernel
theorem dX12_openIndex_23 : decode cX12_openIndex 23 = .ok (.ifCond .ne 46, 3) := by decide +kernel
theorem dX12_openIndex_26 : decode cX12_openIndex 26 = .ok (.aload_n 0, 1) := by decide +kernel
theorem dX12_openIndex_27 : decode cX12_openIndex 27 = .ok (.aload_n 0, 1) := by decide +kernel
theorem dX12_openIndex_28 : decode cX12_openIndex 28 = .ok (.getfield 65, 3) := by decide +kernel
theorem dX12_openIndex_31 : decode cX12_openIndex 31 = .ok (.iload_n 2, 1) := by decide +kernel
theorem dX12_openIndex_32 : decode cX12_openIndex 32 = .ok (.iaload, 1) := by decide +kernel
theorem dX12_openIndex_33 : decode cX12_openIndex 33 = .ok (.aload_n 0, 1) := by decide +kernel
theorem dX12_openIndex_34 : decode cX12_openIndex 34 = .ok (.getfield 68, 3) := by decide +kernel
theorem dX12_openIndex_37 : decode cX12_openIndex 37 = .ok (.iload_n 2, 1) := by decide +kernel
theorem dX12_openIndex_38 : decode cX12_openIndex 38 = .ok (.iaload, 1) := by decide +kernel
theorem dX12_openIndex_39 : decode cX12_openIndex 39 = .ok (.iadd, 1) := by decide +kernel
theorem dX12_openIndex_40 : decode cX12_openIndex 40 = .ok (.aload_n 0, 1) := by decide +kernel
theorem dX12_openIndex_41 : decode cX12_openIndex 41 = .ok (.getfield 572, 3) := by decide +kernel
theorem dX12_openIndex_44 : decode cX12_openIndex 44 = .ok (.invokestatic 191, 3) := by decide +kernel
theorem dX12_openIndex_47 : decode cX12_openIndex 47 = .ok (.iadd, 1) := by decide +kernel
theorem dX12_openIndex_48 : decode cX12_openIndex 48 = .ok (.i2l, 1) := by decide +kernel
theorem dX12_openIndex_49 : decode cX12_openIndex 49 = .ok (.invokevirtual 614, 3) := by decide +kernel
theorem dX12_openIndex_52 : decode cX12_openIndex 52 = .ok (.aload_n 0, 1) := by decide +kernel
theorem dX12_openIndex_53 : decode cX12_openIndex 53 = .ok (.aload_n 0, 1) := by decide +kernel
theorem dX12_openIndex_54 : decode cX12_openIndex 54 = .ok (.getfield 71, 3) := by decide +kernel
theorem dX12_openIndex_57 : decode cX12_openIndex 57 = .ok (.iload_n 2, 1) := by decide +kernel
theorem dX12_openIndex_58 : decode cX12_openIndex 58 = .ok (.iaload, 1) := by decide +kernel
theorem dX12_openIndex_59 : decode cX12_openIndex 59 = .ok (.i2l, 1) := by decide +kernel
theorem dX12_openIndex_60 : decode cX12_openIndex 60 = .ok (.invokevirtual 614, 3) := by decide +kernel
theorem dX12_openIndex_63 : decode cX12_openIndex 63 = .ok (.iinc 2 1, 3) := by decide +kernel
theorem dX12_openIndex_66 : decode cX12_openIndex 66 = .ok (.goto (-55), 3) := by decide +kernel
theorem dX12_openIndex_69 : decode cX12_openIndex 69 = .ok (.aload_n 0, 1) := by decide +kernel
theorem dX12_openIndex_70 : decode cX12_openIndex 70 = .ok (.getfield 470, 3) := by decide +kernel
theorem dX12_openIndex_73 : decode cX12_openIndex 73 = .ok (.ifCond .ne 24, 3) := by decide +kernel
theorem dX12_openIndex_76 : decode cX12_openIndex 76 = .ok (.aload_n 0, 1) := by decide +kernel
theorem dX12_openIndex_77 : decode cX12_openIndex 77 = .ok (.getfield 473, 3) := by decide +kernel
theorem dX12_openIndex_80 : decode cX12_openIndex 80 = .ok (.iload_n 1, 1) := by decide +kernel
theorem dX12_openIndex_81 : decode cX12_openIndex 81 = .ok (.isub, 1) := by decide +kernel
theorem dX12_openIndex_82 : decode cX12_openIndex 82 = .ok (.iconst 4, 1) := by decide +kernel
theorem dX12_openIndex_83 : decode cX12_openIndex 83 = .ok (.irem, 1) := by decide +kernel
theorem dX12_openIndex_84 : decode cX12_openIndex 84 = .ok (.ifCond .eq 13, 3) := by decide +kernel
theorem dX12_openIndex_87 : decode cX12_openIndex 87 = .ok (.aload_n 0, 1) := by decide +kernel
theorem dX12_openIndex_88 : decode cX12_openIndex 88 = .ok (.iconst 0, 1) := by decide +kernel
theorem dX12_openIndex_89 : decode cX12_openIndex 89 = .ok (.bipush 11, 2) := by decide +kernel
theorem dX12_openIndex_91 : decode cX12_openIndex 91 = .ok (.invokevirtual 569, 3) := by decide +kernel
theorem dX12_openIndex_94 : decode cX12_openIndex 94 = .ok (.goto (-25), 3) := by decide +kernel
theorem dX12_openIndex_97 : decode cX12_openIndex 97 = .ok (.aload_n 0, 1) := by decide +kernel
theorem dX12_openIndex_98 : decode cX12_openIndex 98 = .ok (.getfield 470, 3) := by decide +kernel
theorem dX12_openIndex_101 : decode cX12_openIndex 101 = .ok (.ifCond .le 4, 3) := by decide +kernel
theorem dX12_openIndex_104 : decode cX12_openIndex 104 = .ok (.return_, 1) := by decide +kernel
theorem dX12_openIndex_105 : decode cX12_openIndex 105 = .ok (.aload_n 0, 1) := by decide +kernel
theorem dX12_openIndex_106 : decode cX12_openIndex 106 = .ok (.aload_n 0, 1) := by decide +kernel
theorem dX12_openIndex_107 : decode cX12_openIndex 107 = .ok (.iload_n 1, 1) := by decide +kernel
theorem dX12_openIndex_108 : decode cX12_openIndex 108 = .ok (.aload_n 0, 1) := by decide +kernel
theorem dX12_openIndex_109 : decode cX12_openIndex 109 = .ok (.getfield 473, 3) := by decide +kernel
theorem dX12_openIndex_112 : decode cX12_openIndex 112 = .ok (.invokevirtual 575, 3) := by decide +kernel
theorem dX12_openIndex_115 : decode cX12_openIndex 115 = .ok (.invokevirtual 578, 3) := by decide +kernel
theorem dX12_openIndex_118 : decode cX12_openIndex 118 = .ok (.aload_n 0, 1) := by decide +kernel
theorem dX12_openIndex_119 : decode cX12_openIndex 119 = .ok (.getfield 470, 3) := by decide +kernel
theorem dX12_openIndex_122 : decode cX12_openIndex 122 = .ok (.ifCond .le 4, 3) := by decide +kernel
theorem dX12_openIndex_125 : decode cX12_openIndex 125 = .ok (.return_, 1) := by decide +kernel
theorem dX12_openIndex_126 : decode cX12_openIndex 126 = .ok (.aload_n 0, 1) := by decide +kernel
theorem dX12_openIndex_127 : decode cX12_openIndex 127 = .ok (.getfield 473, 3) := by decide +kernel
theorem dX12_openIndex_130 : decode cX12_openIndex 130 = .ok (.iload_n 1, 1) := by decide +kernel
theorem dX12_openIndex_131 : decode cX12_openIndex 131 = .ok (.isub, 1) := by decide +kernel
theorem dX12_openIndex_132 : decode cX12_openIndex 132 = .ok (.iconst 4, 1) := by decide +kernel
theorem dX12_openIndex_133 : decode cX12_openIndex 133 = .ok (.idiv, 1) := by decide +kernel
theorem dX12_openIndex_134 : decode cX12_openIndex 134 = .ok (.iconst 1, 1) := by decide +kernel
theorem dX12_openIndex_135 : decode cX12_openIndex 135 = .ok (.isub, 1) := by decide +kernel
theorem dX12_openIndex_136 : decode cX12_openIndex 136 = .ok (.istore_n 2, 1) := by decide +kernel
theorem dX12_openIndex_137 : decode cX12_openIndex 137 = .ok (.aload_n 0, 1) := by decide +kernel
theorem dX12_openIndex_138 : decode cX12_openIndex 138 = .ok (.iconst 4, 1) := by decide +kernel
theorem dX12_openIndex_139 : decode cX12_openIndex 139 = .ok (.invokevirtual 546, 3) := by decide +kernel
theorem dX12_openIndex_142 : decode cX12_openIndex 142 = .ok (.l2i, 1) := by decide +kernel
theorem dX12_openIndex_143 : decode cX12_openIndex 143 = .ok (.istore_n 3, 1) := by decide +kernel
theorem dX12_openIndex_144 : decode cX12_openIndex 144 = .ok (.aload_n 0, 1) := by decide +kernel
theorem dX12_openIndex_145 : decode cX12_openIndex 145 = .ok (.getfield 473, 3) := by decide +kernel
theorem dX12_openIndex_148 : decode cX12_openIndex 148 = .ok (.istore 4, 2) := by decide +kernel
theorem dX12_openIndex_150 : decode cX12_openIndex 150 = .ok (.aload_n 0, 1) := by decide +kernel
theorem dX12_openIndex_151 : decode cX12_openIndex 151 = .ok (.iconst 4, 1) := by decide +kernel
theorem dX12_openIndex_152 : decode cX12_openIndex 152 = .ok (.invokevirtual 546, 3) := by decide +kernel
theorem dX12_openIndex_155 : decode cX12_openIndex 155 = .ok (.lstore 5, 2) := by decide +kernel
theorem dX12_openIndex_157 : decode cX12_openIndex 157 = .ok (.aload_n 0, 1) := by decide +kernel
theorem dX12_openIndex_158 : decode cX12_openIndex 158 = .ok (.invokevirtual 482, 3) := by decide +kernel
theorem dX12_openIndex_161 : decode cX12_openIndex 161 = .ok (.istore 7, 2) := by decide +kernel
theorem dX12_openIndex_163 : decode cX12_openIndex 163 = .ok (.aload_n 0, 1) := by decide +kernel
theorem dX12_openIndex_164 : decode cX12_openIndex 164 = .ok (.invokevirtual 482, 3) := by decide +kernel
theorem dX12_openIndex_167 : decode cX12_openIndex 167 = .ok (.istore 8, 2) := by decide +kernel
theorem dX12_openIndex_169 : decode cX12_openIndex 169 = .ok (.aload_n 0, 1) := by decide +kernel
theorem dX12_openIndex_170 : decode cX12_openIndex 170 = .ok (.getfield 470, 3) := by decide +kernel
theorem dX12_openIndex_173 : decode cX12_openIndex 173 = .ok (.ifCond .ne 23, 3) := by decide +kernel
theorem dX12_openIndex_176 : decode cX12_openIndex 176 = .ok (.aload_n 0, 1) := by decide +kernel
theorem dX12_openIndex_177 : decode cX12_openIndex 177 = .ok (.iload 4, 2) := by decide +kernel
theorem dX12_openIndex_179 : decode cX12_openIndex 179 = .ok (.aload_n 0, 1) := by decide +kernel
theorem dX12_openIndex_180 : decode cX12_openIndex 180 = .ok (.getfield 473, 3) := by decide +kernel
theorem dX12_openIndex_183 : decode cX12_openIndex 183 = .ok (.invokevirtual 575, 3) := by decide +kernel
theorem dX12_openIndex_186 : decode cX12_openIndex 186 = .ok (.iload_n 3, 1) := by decide +kernel
theorem dX12_openIndex_187 : decode cX12_openIndex 187 = .ok (.if_icmp .eq 9, 3) := by decide +kernel
theorem dX12_openIndex_190 : decode cX12_openIndex 190 = .ok (.aload_n 0, 1) := by decide +kernel
theorem dX12_openIndex_191 : decode cX12_openIndex 191 = .ok (.bipush 9, 2) := by decide +kernel
theorem dX12_openIndex_193 : decode cX12_openIndex 193 = .ok (.invokevirtual 479, 3) := by decide +kernel
theorem dX12_openIndex_196 : decode cX12_openIndex 196 = .ok (.aload_n 0, 1) := by decide +kernel
theorem dX12_openIndex_197 : decode cX12_openIndex 197 = .ok (.getfield 470, 3) := by decide +kernel
theorem dX12_openIndex_200 : decode cX12_openIndex 200 = .ok (.ifCond .ne 31, 3) := by decide +kernel
theorem dX12_openIndex_203 : decode cX12_openIndex 203 = .ok (.lload 5, 2) := by decide +kernel
theorem dX12_openIndex_205 : decode cX12_openIndex 205 = .ok (.iload_n 2, 1) := by decide +kernel
theorem dX12_openIndex_206 : decode cX12_openIndex 206 = .ok (.i2l, 1) := by decide +kernel
theorem dX12_openIndex_207 : decode cX12_openIndex 207 = .ok (.lcmp, 1) := by decide +kernel
theorem dX12_openIndex_208 : decode cX12_openIndex 208 = .ok (.ifCond .ne 17, 3) := by decide +kernel
theorem dX12_openIndex_211 : decode cX12_openIndex 211 = .ok (.iload 7, 2) := by decide +kernel
theorem dX12_openIndex_213 : decode cX12_openIndex 213 = .ok (.ifCond .ne 12, 3) := by decide +kernel
theorem dX12_openIndex_216 : decode cX12_openIndex 216 = .ok (.iload 8, 2) := by decide +kernel
theorem dX12_openIndex_218 : decode cX12_openIndex 218 = .ok (.aload_n 0, 1) := by decide +kernel
theorem dX12_openIndex_219 : decode cX12_openIndex 219 = .ok (.getfield 572, 3) := by decide +kernel
theorem dX12_openIndex_222 : decode cX12_openIndex 222 = .ok (.if_icmp .eq 9, 3) := by decide +kernel
theorem dX12_openIndex_225 : decode cX12_openIndex 225 = .ok (.aload_n 0, 1) := by decide +kernel
theorem dX12_openIndex_226 : decode cX12_openIndex 226 = .ok (.bipush 11, 2) := by decide +kernel
theorem dX12_openIndex_228 : decode cX12_openIndex 228 = .ok (.invokevirtual 479, 3) := by decide +kernel
theorem dX12_openIndex_231 : decode cX12_openIndex 231 = .ok (.aload_n 0, 1) := by decide +kernel
theorem dX12_openIndex_232 : decode cX12_openIndex 232 = .ok (.bipush 89, 2) := by decide +kernel
theorem dX12_openIndex_234 : decode cX12_openIndex 234 = .ok (.bipush 11, 2) := by decide +kernel
theorem dX12_openIndex_236 : decode cX12_openIndex 236 = .ok (.invokevirtual 569, 3) := by decide +kernel
theorem dX12_openIndex_239 : decode cX12_openIndex 239 = .ok (.aload_n 0, 1) := by decide +kernel
theorem dX12_openIndex_240 : decode cX12_openIndex 240 = .ok (.bipush 90, 2) := by decide +kernel
theorem dX12_openIndex_242 : decode cX12_openIndex 242 = .ok (.bipush 11, 2) := by decide +kernel
theorem dX12_openIndex_244 : decode cX12_openIndex 244 = .ok (.invokevirtual 569, 3) := by decide +kernel
theorem dX12_openIndex_247 : decode cX12_openIndex 247 = .ok (.return_, 1) := by decide +kernel
theorem dX12_open_0 : decode cX12_open 0 = .ok (.aload_n 0, 1) := by decide +kernel
theorem dX12_open_1 : decode cX12_open 1 = .ok (.iconst 0, 1) := by decide +kernel
theorem dX12_open_2 : decode cX12_open 2 = .ok (.putfield 111, 3) := by decide +kernel
theorem dX12_open_5 : decode cX12_open 5 = .ok (.aload_n 0, 1) := by decide +kernel
theorem dX12_open_6 : decode cX12_open 6 = .ok (.invokevirtual 461, 3) := by decide +kernel
theorem dX12_open_9 : decode cX12_open 9 = .ok (.aload_n 0, 1) := by decide +kernel
theorem dX12_open_10 : decode cX12_open 10 = .ok (.iconst 0, 1) := by decide +kernel
theorem dX12_open_11 : decode cX12_open 11 = .ok (.putfield 225, 3) := by decide +kernel
theorem dX12_open_14 : decode cX12_open 14 = .ok (.aload_n 0, 1) := by decide +kernel
theorem dX12_open_15 : decode cX12_open 15 = .ok (.iconst 0, 1) := by decide +kernel
theorem dX12_open_16 : decode cX12_open 16 = .ok (.putfield 473, 3) := by decide +kernel
theorem dX12_open_19 : decode cX12_open 19 = .ok (.aload_n 0, 1) := by decide +kernel
theorem dX12_open_20 : decode cX12_open 20 = .ok (.aload_n 0, 1) := by decide +kernel
theorem dX12_open_21 : decode cX12_open 21 = .ok (.getfield 126, 3) := by decide +kernel
theorem dX12_open_24 : decode cX12_open 24 = .ok (.putfield 476, 3) := by decide +kernel
theorem dX12_open_27 : decode cX12_open 27 = .ok (.aload_n 0, 1) := by decide +kernel
theorem dX12_open_28 : decode cX12_open 28 = .ok (.iconst 0, 1) := by decide +kernel
theorem dX12_open_29 : decode cX12_open 29 = .ok (.putfield 470, 3) := by decide +kernel
theorem dX12_open_32 : decode cX12_open 32 = .ok (.aload_n 0, 1) := by decide +kernel
theorem dX12_open_33 : decode cX12_open 33 = .ok (.iconst 0, 1) := by decide +kernel
theorem dX12_open_34 : decode cX12_open 34 = .ok (.putfield 208, 3) := by decide +kernel
theorem dX12_open_37 : decode cX12_open 37 = .ok (.aload_n 0, 1) := by decide +kernel
theorem dX12_open_38 : decode cX12_open 38 = .ok (.iconst 0, 1) := by decide +kernel
theorem dX12_open_39 : decode cX12_open 39 = .ok (.putfield 249, 3) := by decide +kernel
theorem dX12_open_42 : decode cX12_open 42 = .ok (.aload_n 0, 1) := by decide +kernel
theorem dX12_open_43 : decode cX12_open 43 = .ok (.iconst 0, 1) := by decide +kernel
theorem dX12_open_44 : decode cX12_open 44 = .ok (.putfield 505, 3) := by decide +kernel
theorem dX12_open_47 : decode cX12_open 47 = .ok (.aload_n 0, 1) := by decide +kernel
theorem dX12_open_48 : decode cX12_open 48 = .ok (.iconst 0, 1) := by decide +kernel
theorem dX12_open_49 : decode cX12_open 49 = .ok (.putfield 508, 3) := by decide +kernel
theorem dX12_open_52 : decode cX12_open 52 = .ok (.aload_n 0, 1) := by decide +kernel
theorem dX12_open_53 : decode cX12_open 53 = .ok (.iconst 0, 1) := by decide +kernel
theorem dX12_open_54 : decode cX12_open 54 = .ok (.putfield 538, 3) := by decide +kernel
theorem dX12_open_57 : decode cX12_open 57 = .ok (.aload_n 0, 1) := by decide +kernel
theorem dX12_open_58 : decode cX12_open 58 = .ok (.iconst (-1), 1) := by decide +kernel
theorem dX12_open_59 : decode cX12_open 59 = .ok (.putfield 518, 3) := by decide +kernel
theorem dX12_open_62 : decode cX12_open 62 = .ok (.aload_n 0, 1) := by decide +kernel
theorem dX12_open_63 : decode cX12_open 63 = .ok (.invokevirtual 407, 3) := by decide +kernel
theorem dX12_open_66 : decode cX12_open 66 = .ok (.aload_n 0, 1) := by decide +kernel
theorem dX12_open_67 : decode cX12_open 67 = .ok (.getfield 107, 3) := by decide +kernel
theorem dX12_open_70 : decode cX12_open 70 = .ok (.ifCond .ne 11, 3) := by decide +kernel
theorem dX12_open_73 : decode cX12_open 73 = .ok (.aload_n 0, 1) := by decide +kernel
theorem dX12_open_74 : decode cX12_open 74 = .ok (.iload_n 1, 1) := by decide +kernel
theorem dX12_open_75 : decode cX12_open 75 = .ok (.invokevirtual 617, 3) := by decide +kernel
theorem dX12_open_78 : decode cX12_open 78 = .ok (.goto 111, 3) := by decide +kernel
theorem dX12_open_81 : decode cX12_open 81 = .ok (.aload_n 0, 1) := by decide +kernel
theorem dX12_open_82 : decode cX12_open 82 = .ok (.getfield 107, 3) := by decide +kernel
theorem dX12_open_85 : decode cX12_open 85 = .ok (.iconst 1, 1) := by decide +kernel
theorem dX12_open_86 : decode cX12_open 86 = .ok (.if_icmp .ne 98, 3) := by decide +kernel
theorem dX12_open_89 : decode cX12_open 89 = .ok (.aload_n 0, 1) := by decide +kernel
theorem dX12_open_90 : decode cX12_open 90 = .ok (.aload_n 0, 1) := by decide +kernel
theorem dX12_open_91 : decode cX12_open 91 = .ok (.getfield 16, 3) := by decide +kernel
theorem dX12_open_94 : decode cX12_open 94 = .ok (.i2l, 1) := by decide +kernel
theorem dX12_open_95 : decode cX12_open 95 = .ok (.putfield 515, 3) := by decide +kernel
theorem dX12_open_98 : decode cX12_open 98 = .ok (.aload_n 0, 1) := by decide +kernel
theorem dX12_open_99 : decode cX12_open 99 = .ok (.getfield 515, 3) := by decide +kernel
theorem dX12_open_102 : decode cX12_open 102 = .ok (.iload_n 1, 1) := by decide +kernel
theorem dX12_open_103 : decode cX12_open 103 = .ok (.i2l, 1) := by decide +kernel
theorem dX12_open_104 : decode cX12_open 104 = .ok (.lcmp, 1) := by decide +kernel
theorem dX12_open_105 : decode cX12_open 105 = .ok (.ifCond .le 12, 3) := by decide +kernel
theorem dX12_open_108 : decode cX12_open 108 = .ok (.aload_n 0, 1) := by decide +kernel
theorem dX12_open_109 : decode cX12_open 109 = .ok (.bipush 15, 2) := by decide +kernel
theorem dX12_open_111 : decode cX12_open 111 = .ok (.invokevirtual 479, 3) := by decide +kernel
theorem dX12_open_114 : decode cX12_open 114 = .ok (.goto 7, 3) := by decide +kernel
theorem dX12_open_117 : decode cX12_open 117 = .ok (.aload_n 0, 1) := by decide +kernel
theorem dX12_open_118 : decode cX12_open 118 = .ok (.invokevirtual 611, 3) := by decide +kernel
theorem dX12_open_121 : decode cX12_open 121 = .ok (.aload_n 0, 1) := by decide +kernel
theorem dX12_open_122 : decode cX12_open 122 = .ok (.getfield 62, 3) := by decide +kernel
theorem dX12_open_125 : decode cX12_open 125 = .ok (.iconst 0, 1) := by decide +kernel
theorem dX12_open_126 : decode cX12_open 126 = .ok (.iconst 0, 1) := by decide +kernel
theorem dX12_open_127 : decode cX12_open 127 = .ok (.iastore, 1) := by decide +kernel
theorem dX12_open_128 : decode cX12_open 128 = .ok (.aload_n 0, 1) := by decide +kernel
theorem dX12_open_129 : decode cX12_open 129 = .ok (.getfield 65, 3) := by decide +kernel
theorem dX12_open_132 : decode cX12_open 132 = .ok (.iconst 0, 1) := by decide +kernel
theorem dX12_open_133 : decode cX12_open 133 = .ok (.iconst 0, 1) := by decide +kernel
theorem dX12_open_134 : decode cX12_open 134 = .ok (.iastore, 1) := by decide +kernel
theorem dX12_open_135 : decode cX12_open 135 = .ok (.aload_n 0, 1) := by decide +kernel
theorem dX12_open_136 : decode cX12_open 136 = .ok (.getfield 68, 3) := by decide +kernel
theorem dX12_open_139 : decode cX12_open 139 = .ok (.iconst 0, 1) := by decide +kernel
theorem dX12_open_140 : decode cX12_open 140 = .ok (.aload_n 0, 1) := by decide +kernel
theorem dX12_open_141 : decode cX12_open 141 = .ok (.getfield 473, 3) := by decide +kernel
theorem dX12_open_144 : decode cX12_open 144 = .ok (.iastore, 1) := by decide +kernel
theorem dX12_open_145 : decode cX12_open 145 = .ok (.aload_n 0, 1) := by decide +kernel
theorem dX12_open_146 : decode cX12_open 146 = .ok (.getfield 71, 3) := by decide +kernel
theorem dX12_open_149 : decode cX12_open 149 = .ok (.iconst 0, 1) := by decide +kernel
theorem dX12_open_150 : decode cX12_open 150 = .ok (.aload_n 0, 1) := by decide +kernel
theorem dX12_open_151 : decode cX12_open 151 = .ok (.getfield 208, 3) := by decide +kernel
theorem dX12_open_154 : decode cX12_open 154 = .ok (.iastore, 1) := by decide +kernel
theorem dX12_open_155 : decode cX12_open 155 = .ok (.aload_n 0, 1) := by decide +kernel
theorem dX12_open_156 : decode cX12_open 156 = .ok (.getfield 74, 3) := by decide +kernel
theorem dX12_open_159 : decode cX12_open 159 = .ok (.iconst 0, 1) := by decide +kernel
theorem dX12_open_160 : decode cX12_open 160 = .ok (.aload_n 0, 1) := by decide +kernel
theorem dX12_open_161 : decode cX12_open 161 = .ok (.getfield 434, 3) := by decide +kernel
theorem dX12_open_164 : decode cX12_open 164 = .ok (.iastore, 1) := by decide +kernel
theorem dX12_open_165 : decode cX12_open 165 = .ok (.aload_n 0, 1) := by decide +kernel
theorem dX12_open_166 : decode cX12_open 166 = .ok (.aload_n 0, 1) := by decide +kernel
theorem dX12_open_167 : decode cX12_open 167 = .ok (.getfield 470, 3) := by decide +kernel
theorem dX12_open_170 : decode cX12_open 170 = .ok (.ifCond .ne 7, 3) := by decide +kernel
theorem dX12_open_173 : decode cX12_open 173 = .ok (.iconst 1, 1) := by decide +kernel
theorem dX12_open_174 : decode cX12_open 174 = .ok (.goto 4, 3) := by decide +kernel
theorem dX12_open_177 : decode cX12_open 177 = .ok (.iconst 0, 1) := by decide +kernel
theorem dX12_open_178 : decode cX12_open 178 = .ok (.putfield 228, 3) := by decide +kernel
theorem dX12_open_181 : decode cX12_open 181 = .ok (.goto 8, 3) := by decide +kernel
theorem dX12_open_184 : decode cX12_open 184 = .ok (.aload_n 0, 1) := by decide +kernel
theorem dX12_open_185 : decode cX12_open 185 = .ok (.iload_n 1, 1) := by decide +kernel
theorem dX12_open_186 : decode cX12_open 186 = .ok (.invokevirtual 620, 3) := by decide +kernel
theorem dX12_open_189 : decode cX12_open 189 = .ok (.aload_n 0, 1) := by decide +kernel
theorem dX12_open_190 : decode cX12_open 190 = .ok (.getfield 470, 3) := by decide +kernel
theorem dX12_open_193 : decode cX12_open 193 = .ok (.ifCond .ne 20, 3) := by decide +kernel
theorem dX12_open_196 : decode cX12_open 196 = .ok (.aload_n 0, 1) := by decide +kernel
theorem dX12_open_197 : decode cX12_open 197 = .ok (.getfield 473, 3) := by decide +kernel
theorem dX12_open_200 : decode cX12_open 200 = .ok (.aload_n 0, 1) := by decide +kernel
theorem dX12_open_201 : decode cX12_open 201 = .ok (.getfield 126, 3) := by decide +kernel
theorem dX12_open_204 : decode cX12_open 204 = .ok (.if_icmp .ge 9, 3) := by decide +kernel
theorem dX12_open_207 : decode cX12_open 207 = .ok (.aload_n 0, 1) := by decide +kernel
theorem dX12_open_208 : decode cX12_open 208 = .ok (.bipush 12, 2) := by decide +kernel
theorem dX12_open_210 : decode cX12_open 210 = .ok (.invokevirtual 479, 3) := by decide +kernel
theorem dX12_open_213 : decode cX12_open 213 = .ok (.aload_n 0, 1) := by decide +kernel
theorem dX12_open_214 : decode cX12_open 214 = .ok (.getfield 107, 3) := by decide +kernel
theorem dX12_open_217 : decode cX12_open 217 = .ok (.iconst 2, 1) := by decide +kernel
theorem dX12_open_218 : decode cX12_open 218 = .ok (.if_icmp .ge 39, 3) := by decide +kernel
theorem dX12_open_221 : decode cX12_open 221 = .ok (.aload_n 0, 1) := by decide +kernel
theorem dX12_open_222 : decode cX12_open 222 = .ok (.aload_n 0, 1) := by decide +kernel
theorem dX12_open_223 : decode cX12_open 223 = .ok (.getfield 208, 3) := by decide +kernel
theorem dX12_open_226 : decode cX12_open 226 = .ok (.putfield 129, 3) := by decide +kernel
theorem dX12_open_229 : decode cX12_open 229 = .ok (.iconst 0, 1) := by decide +kernel
theorem dX12_open_230 : decode cX12_open 230 = .ok (.istore_n 2, 1) := by decide +kernel
theorem dX12_open_231 : decode cX12_open 231 = .ok (.iload_n 2, 1) := by decide +kernel
theorem dX12_open_232 : decode cX12_open 232 = .ok (.aload_n 0, 1) := by decide +kernel
theorem dX12_open_233 : decode cX12_open 233 = .ok (.getfield 208, 3) := by decide +kernel
theorem dX12_open_236 : decode cX12_open 236 = .ok (.if_icmp .ge 21, 3) := by decide +kernel
theorem dX12_open_239 : decode cX12_open 239 = .ok (.aload_n 0, 1) := by decide +kernel
theorem dX12_open_240 : decode cX12_open 240 = .ok (.getfield 32, 3) := by decide +kernel
theorem dX12_open_243 : decode cX12_open 243 = .ok (.iload_n 2, 1) := by decide +kernel
theorem dX12_open_244 : decode cX12_open 244 = .ok (.aload_n 0, 1) := by decide +kernel
theorem dX12_open_245 : decode cX12_open 245 = .ok (.getfield 47, 3) := by decide +kernel
theorem dX12_open_248 : decode cX12_open 248 = .ok (.iload_n 2, 1) := by decide +kernel
theorem dX12_open_249 : decode cX12_open 249 = .ok (.iaload, 1) := by decide +kernel
theorem dX12_open_250 : decode cX12_open 250 = .ok (.iastore, 1) := by decide +kernel
theorem dX12_open_251 : decode cX12_open 251 = .ok (.iinc 2 1, 3) := by decide +kernel
theorem dX12_open_254 : decode cX12_open 254 = .ok (.goto (-23), 3) := by decide +kernel
theorem dX12_open_257 : decode cX12_open 257 = .ok (.aload_n 0, 1) := by decide +kernel
theorem dX12_open_258 : decode cX12_open 258 = .ok (.iconst 0, 1) := by decide +kernel
theorem dX12_open_259 : decode cX12_open 259 = .ok (.putfield 126, 3) := by decide +kernel
theorem dX12_open_262 : decode cX12_open 262 = .ok (.aload_n 0, 1) := by decide +kernel
theorem dX12_open_263 : decode cX12_open 263 = .ok (.aload_n 0, 1) := by decide +kernel
theorem dX12_open_264 : decode cX12_open 264 = .ok (.getfield 231, 3) := by decide +kernel
theorem dX12_open_267 : decode cX12_open 267 = .ok (.putfield 77, 3) := by decide +kernel
theorem dX12_open_270 : decode cX12_open 270 = .ok (.aload_n 0, 1) := by decide +kernel
theorem dX12_open_271 : decode cX12_open 271 = .ok (.aload_n 0, 1) := by decide +kernel
theorem dX12_open_272 : decode cX12_open 272 = .ok (.getfield 470, 3) := by decide +kernel
theorem dX12_open_275 : decode cX12_open 275 = .ok (.putfield 225, 3) := by decide +kernel
theorem dX12_open_278 : decode cX12_open 278 = .ok (.aload_n 0, 1) := by decide +kernel
theorem dX12_open_279 : decode cX12_open 279 = .ok (.getfield 470, 3) := by decide +kernel
theorem dX12_open_282 : decode cX12_open 282 = .ok (.ifCond .le 13, 3) := by decide +kernel
theorem dX12_open_285 : decode cX12_open 285 = .ok (.bipush (-10), 2) := by decide +kernel
theorem dX12_open_287 : decode cX12_open 287 = .ok (.aload_n 0, 1) := by decide +kernel
theorem dX12_open_288 : decode cX12_open 288 = .ok (.getfield 473, 3) := by decide +kernel
theorem dX12_open_291 : decode cX12_open 291 = .ok (.isub, 1) := by decide +kernel
theorem dX12_open_292 : decode cX12_open 292 = .ok (.goto 7, 3) := by decide +kernel
theorem dX12_open_295 : decode cX12_open 295 = .ok (.aload_n 0, 1) := by decide +kernel
theorem dX12_open_296 : decode cX12_open 296 = .ok (.getfield 129, 3) := by decide +kernel
theorem dX12_open_299 : decode cX12_open 299 = .ok (.ireturn, 1) := by decide +kernel
theorem dJ6_numberOfLeadingZeros_0f7a4_0 : decode cJ6_numberOfLeadingZeros_0f7a4 0 = .ok (.iload_n 0, 1) := by decide +kernel
theorem dJ6_numberOfLeadingZeros_0f7a4_1 : decode cJ6_numberOfLeadingZeros_0f7a4 1 = .ok (.ifCond .gt 14, 3) := by decide +kernel
theorem dJ6_numberOfLeadingZeros_0f7a4_4 : decode cJ6_numberOfLeadingZeros_0f7a4 4 = .ok (.iload_n 0, 1) := by decide +kernel
theorem dJ6_numberOfLeadingZeros_0f7a4_5 : decode cJ6_numberOfLeadingZeros_0f7a4 5 = .ok (.ifCond .ne 8, 3) := by decide +kernel
theorem dJ6_numberOfLeadingZeros_0f7a4_8 : decode cJ6_numberOfLeadingZeros_0f7a4 8 = .ok (.bipush 32, 2) := by decide +kernel
theorem dJ6_numberOfLeadingZeros_0f7a4_10 : decode cJ6_numberOfLeadingZeros_0f7a4 10 = .ok (.goto 4, 3) := by decide +kernel
theorem dJ6_numberOfLeadingZeros_0f7a4_13 : decode cJ6_numberOfLeadingZeros_0f7a4 13 = .ok (.iconst 0, 1) := by decide +kernel
theorem dJ6_numberOfLeadingZeros_0f7a4_14 : decode cJ6_numberOfLeadingZeros_0f7a4 14 = .ok (.ireturn, 1) := by decide +kernel
theorem dJ6_numberOfLeadingZeros_0f7a4_15 : decode cJ6_numberOfLeadingZeros_0f7a4 15 = .ok (.bipush 31, 2) := by decide +kernel
theorem dJ6_numberOfLeadingZeros_0f7a4_17 : decode cJ6_numberOfLeadingZeros_0f7a4 17 = .ok (.istore_n 1, 1) := by decide +kernel
theorem dJ6_numberOfLeadingZeros_0f7a4_18 : decode cJ6_numberOfLeadingZeros_0f7a4 18 = .ok (.iload_n 0, 1) := by decide +kernel
theorem dJ6_numberOfLeadingZeros_0f7a4_19 : decode cJ6_numberOfLeadingZeros_0f7a4 19 = .ok (.ldc_w 264, 3) := by decide +kernel
theorem dJ6_numberOfLeadingZeros_0f7a4_22 : decode cJ6_numberOfLeadingZeros_0f7a4 22 = .ok (.if_icmp .lt 11, 3) := by decide +kernel
theorem dJ6_numberOfLeadingZeros_0f7a4_25 : decode cJ6_numberOfLeadingZeros_0f7a4 25 = .ok (.iinc 1 (-16), 3) := by decide +kernel
theorem dJ6_numberOfLeadingZeros_0f7a4_28 : decode cJ6_numberOfLeadingZeros_0f7a4 28 = .ok (.iload_n 0, 1) := by decide +kernel
theorem dJ6_numberOfLeadingZeros_0f7a4_29 : decode cJ6_numberOfLeadingZeros_0f7a4 29 = .ok (.bipush 16, 2) := by decide +kernel
theorem dJ6_numberOfLeadingZeros_0f7a4_31 : decode cJ6_numberOfLeadingZeros_0f7a4 31 = .ok (.iushr, 1) := by decide +kernel
theorem dJ6_numberOfLeadingZeros_0f7a4_32 : decode cJ6_numberOfLeadingZeros_0f7a4 32 = .ok (.istore_n 0, 1) := by decide +kernel
theorem dJ6_numberOfLeadingZeros_0f7a4_33 : decode cJ6_numberOfLeadingZeros_0f7a4 33 = .ok (.iload_n 0, 1) := by decide +kernel
theorem dJ6_numberOfLeadingZeros_0f7a4_34 : decode cJ6_numberOfLeadingZeros_0f7a4 34 = .ok (.sipush 256, 3) := by decide +kernel
theorem dJ6_numberOfLeadingZeros_0f7a4_37 : decode cJ6_numberOfLeadingZeros_0f7a4 37 = .ok (.if_icmp .lt 11, 3) := by decide +kernel
theorem dJ6_numberOfLeadingZeros_0f7a4_40 : decode cJ6_numberOfLeadingZeros_0f7a4 40 = .ok (.iinc 1 (-8), 3) := by decide +kernel
theorem dJ6_numberOfLeadingZeros_0f7a4_43 : decode cJ6_numberOfLeadingZeros_0f7a4 43 = .ok (.iload_n 0, 1) := by decide +kernel
theorem dJ6_numberOfLeadingZeros_0f7a4_44 : decode cJ6_numberOfLeadingZeros_0f7a4 44 = .ok (.bipush 8, 2) := by decide +kernel
theorem dJ6_numberOfLeadingZeros_0f7a4_46 : decode cJ6_numberOfLeadingZeros_0f7a4 46 = .ok (.iushr, 1) := by decide +kernel
theorem dJ6_numberOfLeadingZeros_0f7a4_47 : decode cJ6_numberOfLeadingZeros_0f7a4 47 = .ok (.istore_n 0, 1) := by decide +kernel
theorem dJ6_numberOfLeadingZeros_0f7a4_48 : decode cJ6_numberOfLeadingZeros_0f7a4 48 = .ok (.iload_n 0, 1) := by decide +kernel
theorem dJ6_numberOfLeadingZeros_0f7a4_49 : decode cJ6_numberOfLeadingZeros_0f7a4 49 = .ok (.bipush 16, 2) := by decide +kernel
theorem dJ6_numberOfLeadingZeros_0f7a4_51 : decode cJ6_numberOfLeadingZeros_0f7a4 51 = .ok (.if_icmp .lt 10, 3) := by decide +kernel
theorem dJ6_numberOfLeadingZeros_0f7a4_54 : decode cJ6_numberOfLeadingZeros_0f7a4 54 = .ok (.iinc 1 (-4), 3) := by decide +kernel
theorem dJ6_numberOfLeadingZeros_0f7a4_57 : decode cJ6_numberOfLeadingZeros_0f7a4 57 = .ok (.iload_n 0, 1) := by decide +kernel
theorem dJ6_numberOfLeadingZeros_0f7a4_58 : decode cJ6_numberOfLeadingZeros_0f7a4 58 = .ok (.iconst 4, 1) := by decide +kernel
theorem dJ6_numberOfLeadingZeros_0f7a4_59 : decode cJ6_numberOfLeadingZeros_0f7a4 59 = .ok (.iushr, 1) := by decide +kernel
theorem dJ6_numberOfLeadingZeros_0f7a4_60 : decode cJ6_numberOfLeadingZeros_0f7a4 60 = .ok (.istore_n 0, 1) := by decide +kernel
theorem dJ6_numberOfLeadingZeros_0f7a4_61 : decode cJ6_numberOfLeadingZeros_0f7a4 61 = .ok (.iload_n 0, 1) := by decide +kernel
theorem dJ6_numberOfLeadingZeros_0f7a4_62 : decode cJ6_numberOfLeadingZeros_0f7a4 62 = .ok (.iconst 4, 1) := by decide +kernel
theorem dJ6_numberOfLeadingZeros_0f7a4_63 : decode cJ6_numberOfLeadingZeros_0f7a4 63 = .ok (.if_icmp .lt 10, 3) := by decide +kernel
theorem dJ6_numberOfLeadingZeros_0f7a4_66 : decode cJ6_numberOfLeadingZeros_0f7a4 66 = .ok (.iinc 1 (-2), 3) := by decide +kernel
theorem dJ6_numberOfLeadingZeros_0f7a4_69 : decode cJ6_numberOfLeadingZeros_0f7a4 69 = .ok (.iload_n 0, 1) := by decide +kernel
theorem dJ6_numberOfLeadingZeros_0f7a4_70 : decode cJ6_numberOfLeadingZeros_0f7a4 70 = .ok (.iconst 2, 1) := by decide +kernel
theorem dJ6_numberOfLeadingZeros_0f7a4_71 : decode cJ6_numberOfLeadingZeros_0f7a4 71 = .ok (.iushr, 1) := by decide +kernel
theorem dJ6_numberOfLeadingZeros_0f7a4_72 : decode cJ6_numberOfLeadingZeros_0f7a4 72 = .ok (.istore_n 0, 1) := by decide +kernel
theorem dJ6_numberOfLeadingZeros_0f7a4_73 : decode cJ6_numberOfLeadingZeros_0f7a4 73 = .ok (.iload_n 1, 1) := by decide +kernel
theorem dJ6_numberOfLeadingZeros_0f7a4_74 : decode cJ6_numberOfLeadingZeros_0f7a4 74 = .ok (.iload_n 0, 1) := by decide +kernel
theorem dJ6_numberOfLeadingZeros_0f7a4_75 : decode cJ6_numberOfLeadingZeros_0f7a4 75 = .ok (.iconst 1, 1) := by decide +kernel
theorem dJ6_numberOfLeadingZeros_0f7a4_76 : decode cJ6_numberOfLeadingZeros_0f7a4 76 = .ok (.iushr, 1) := by decide +kernel
theorem dJ6_numberOfLeadingZeros_0f7a4_77 : decode cJ6_numberOfLeadingZeros_0f7a4 77 = .ok (.isub, 1) := by decide +kernel
theorem dJ6_numberOfLeadingZeros_0f7a4_78 : decode cJ6_numberOfLeadingZeros_0f7a4 78 = .ok (.ireturn, 1) := by decide +kernel
theorem dJ6_rotateRight_7cf53_0 : decode cJ6_rotateRight_7cf53 0 = .ok (.iload_n 0, 1) := by decide +kernel
theorem dJ6_rotateRight_7cf53_1 : decode cJ6_rotateRight_7cf53 1 = .ok (.iload_n 1, 1) := by decide +kernel
theorem dJ6_rotateRight_7cf53_2 : decode cJ6_rotateRight_7cf53 2 = .ok (.iushr, 1) := by decide +kernel
theorem dJ6_rotateRight_7cf53_3 : decode cJ6_rotateRight_7cf53 3 = .ok (.iload_n 0, 1) := by decide +kernel
theorem dJ6_rotateRight_7cf53_4 : decode cJ6_rotateRight_7cf53 4 = .ok (.iload_n 1, 1) := by decide +kernel
theorem dJ6_rotateRight_7cf53_5 : decode cJ6_rotateRight_7cf53 5 = .ok (.ineg, 1) := by decide +kernel
theorem dJ6_rotateRight_7cf53_6 : decode cJ6_rotateRight_7cf53 6 = .ok (.ishl, 1) := by decide +kernel
theorem dJ6_rotateRight_7cf53_7 : decode cJ6_rotateRight_7cf53 7 = .ok (.ior, 1) := by decide +kernel
theorem dJ6_rotateRight_7cf53_8 : decode cJ6_rotateRight_7cf53 8 = .ok (.ireturn, 1) := by decide +kernel
theorem dJ13_numberOfLeadingZeros_95d88_0 : decode cJ13_numberOfLeadingZeros_95d88 0 = .ok (.lload_n 0, 1) := by decide +kernel
theorem dJ13_numberOfLeadingZeros_95d88_1 : decode cJ13_numberOfLeadingZeros_95d88 1 = .ok (.bipush 32, 2) := by decide +kernel
theorem dJ13_numberOfLeadingZeros_95d88_3 : decode cJ13_numberOfLeadingZeros_95d88 3 = .ok (.lushr, 1) := by decide +kernel
theorem dJ13_numberOfLeadingZeros_95d88_4 : decode cJ13_numberOfLeadingZeros_95d88 4 = .ok (.l2i, 1) := by decide +kernel
theorem dJ13_numberOfLeadingZeros_95d88_5 : decode cJ13_numberOfLeadingZeros_95d88 5 = .ok (.istore_n 2, 1) := by decide +kernel
theorem dJ13_numberOfLeadingZeros_95d88_6 : decode cJ13_numberOfLeadingZeros_95d88 6 = .ok (.iload_n 2, 1) := by decide +kernel
theorem dJ13_numberOfLeadingZeros_95d88_7 : decode cJ13_numberOfLeadingZeros_95d88 7 = .ok (.ifCond .ne 14, 3) := by decide +kernel
theorem dJ13_numberOfLeadingZeros_95d88_10 : decode cJ13_numberOfLeadingZeros_95d88 10 = .ok (.bipush 32, 2) := by decide +kernel
theorem dJ13_numberOfLeadingZeros_95d88_12 : decode cJ13_numberOfLeadingZeros_95d88 12 = .ok (.lload_n 0, 1) := by decide +kernel
theorem dJ13_numberOfLeadingZeros_95d88_13 : decode cJ13_numberOfLeadingZeros_95d88 13 = .ok (.l2i, 1) := by decide +kernel
theorem dJ13_numberOfLeadingZeros_95d88_14 : decode cJ13_numberOfLeadingZeros_95d88 14 = .ok (.invokestatic 308, 3) := by decide +kernel
theorem dJ13_numberOfLeadingZeros_95d88_17 : decode cJ13_numberOfLeadingZeros_95d88 17 = .ok (.iadd, 1) := by decide +kernel
theorem dJ13_numberOfLeadingZeros_95d88_18 : decode cJ13_numberOfLeadingZeros_95d88 18 = .ok (.goto 7, 3) := by decide +kernel
theorem dJ13_numberOfLeadingZeros_95d88_21 : decode cJ13_numberOfLeadingZeros_95d88 21 = .ok (.iload_n 2, 1) := by decide +kernel
theorem dJ13_numberOfLeadingZeros_95d88_22 : decode cJ13_numberOfLeadingZeros_95d88 22 = .ok (.invokestatic 308, 3) := by decide +kernel
theorem dJ13_numberOfLeadingZeros_95d88_25 : decode cJ13_numberOfLeadingZeros_95d88 25 = .ok (.ireturn, 1) := by decide +kernel
theorem dJ9_max_7cf53_0 : decode cJ9_max_7cf53 0 = .ok (.iload_n 0, 1) := by decide +kernel
theorem dJ9_max_7cf53_1 : decode cJ9_max_7cf53 1 = .ok (.iload_n 1, 1) := by decide +kernel
theorem dJ9_max_7cf53_2 : decode cJ9_max_7cf53 2 = .ok (.if_icmp .lt 7, 3) := by decide +kernel
theorem dJ9_max_7cf53_5 : decode cJ9_max_7cf53 5 = .ok (.iload_n 0, 1) := by decide +kernel
theorem dJ9_max_7cf53_6 : decode cJ9_max_7cf53 6 = .ok (.goto 4, 3) := by decide +kernel
theorem dJ9_max_7cf53_9 : decode cJ9_max_7cf53 9 = .ok (.iload_n 1, 1) := by decide +kernel
theorem dJ9_max_7cf53_10 : decode cJ9_max_7cf53 10 = .ok (.ireturn, 1) := by decide +kernel
theorem dJ9_min_7cf53_0 : decode cJ9_min_7cf53 0 = .ok (.iload_n 0, 1) := by decide +kernel
theorem dJ9_min_7cf53_1 : decode cJ9_min_7cf53 1 = .ok (.iload_n 1, 1) := by decide +kernel
theorem dJ9_min_7cf53_2 : decode cJ9_min_7cf53 2 = .ok (.if_icmp .gt 7, 3) := by decide +kernel
theorem dJ9_min_7cf53_5 : decode cJ9_min_7cf53 5 = .ok (.iload_n 0, 1) := by decide +kernel
theorem dJ9_min_7cf53_6 : decode cJ9_min_7cf53 6 = .ok (.goto 4, 3) := by decide +kernel
theorem dJ9_min_7cf53_9 : decode cJ9_min_7cf53 9 = .ok (.iload_n 1, 1) := by decide +kernel
theorem dJ9_min_7cf53_10 : decode cJ9_min_7cf53 10 = .ok (.ireturn, 1) := by decide +kernel
theorem dJ9_min_f86c9_0 : decode cJ9_min_f86c9 0 = .ok (.lload_n 0, 1) := by decide +kernel
theorem dJ9_min_f86c9_1 : decode cJ9_min_f86c9 1 = .ok (.lload_n 2, 1) := by decide +kernel
theorem dJ9_min_f86c9_2 : decode cJ9_min_f86c9 2 = .ok (.lcmp, 1) := by decide +kernel
theorem dJ9_min_f86c9_3 : decode cJ9_min_f86c9 3 = .ok (.ifCond .gt 7, 3) := by decide +kernel
theorem dJ9_min_f86c9_6 : decode cJ9_min_f86c9 6 = .ok (.lload_n 0, 1) := by decide +kernel
theorem dJ9_min_f86c9_7 : decode cJ9_min_f86c9 7 = .ok (.goto 4, 3) := by decide +kernel
theorem dJ9_min_f86c9_10 : decode cJ9_min_f86c9 10 = .ok (.lload_n 2, 1) := by decide +kernel
theorem dJ9_min_f86c9_11 : decode cJ9_min_f86c9 11 = .ok (.lreturn, 1) := by decide +kernel
theorem dJ7_rangeCheck_23922_0 : decode cJ7_rangeCheck_23922 0 = .ok (.iload_n 1, 1) := by decide +kernel
theorem dJ7_rangeCheck_23922_1 : decode cJ7_rangeCheck_23922 1 = .ok (.iload_n 2, 1) := by decide +kernel
theorem dJ7_rangeCheck_23922_2 : decode cJ7_rangeCheck_23922 2 = .ok (.if_icmp .le 44, 3) := by decide +kernel
theorem dJ7_rangeCheck_23922_5 : decode cJ7_rangeCheck_23922 5 = .ok (.new 43, 3) := by decide +kernel
theorem dJ7_rangeCheck_23922_8 : decode cJ7_rangeCheck_23922 8 = .ok (.dup, 1) := by decide +kernel
theorem dJ7_rangeCheck_23922_9 : decode cJ7_rangeCheck_23922 9 = .ok (.new 45, 3) := by decide +kernel
theorem dJ7_rangeCheck_23922_12 : decode cJ7_rangeCheck_23922 12 = .ok (.dup, 1) := by decide +kernel
theorem dJ7_rangeCheck_23922_13 : decode cJ7_rangeCheck_23922 13 = .ok (.invokespecial 47, 3) := by decide +kernel
theorem dJ7_rangeCheck_23922_16 : decode cJ7_rangeCheck_23922 16 = .ok (.ldc 48, 2) := by decide +kernel
theorem dJ7_rangeCheck_23922_18 : decode cJ7_rangeCheck_23922 18 = .ok (.invokevirtual 50, 3) := by decide +kernel
theorem dJ7_rangeCheck_23922_21 : decode cJ7_rangeCheck_23922 21 = .ok (.iload_n 1, 1) := by decide +kernel
theorem dJ7_rangeCheck_23922_22 : decode cJ7_rangeCheck_23922 22 = .ok (.invokevirtual 54, 3) := by decide +kernel
theorem dJ7_rangeCheck_23922_25 : decode cJ7_rangeCheck_23922 25 = .ok (.ldc 57, 2) := by decide +kernel
theorem dJ7_rangeCheck_23922_27 : decode cJ7_rangeCheck_23922 27 = .ok (.invokevirtual 50, 3) := by decide +kernel
theorem dJ7_rangeCheck_23922_30 : decode cJ7_rangeCheck_23922 30 = .ok (.iload_n 2, 1) := by decide +kernel
theorem dJ7_rangeCheck_23922_31 : decode cJ7_rangeCheck_23922 31 = .ok (.invokevirtual 54, 3) := by decide +kernel
theorem dJ7_rangeCheck_23922_34 : decode cJ7_rangeCheck_23922 34 = .ok (.ldc 59, 2) := by decide +kernel
theorem dJ7_rangeCheck_23922_36 : decode cJ7_rangeCheck_23922 36 = .ok (.invokevirtual 50, 3) := by decide +kernel
theorem dJ7_rangeCheck_23922_39 : decode cJ7_rangeCheck_23922 39 = .ok (.invokevirtual 61, 3) := by decide +kernel
theorem dJ7_rangeCheck_23922_42 : decode cJ7_rangeCheck_23922 42 = .ok (.invokespecial 65, 3) := by decide +kernel
theorem dJ7_rangeCheck_23922_45 : decode cJ7_rangeCheck_23922 45 = .ok (.athrow, 1) := by decide +kernel
theorem dJ7_rangeCheck_23922_46 : decode cJ7_rangeCheck_23922 46 = .ok (.iload_n 1, 1) := by decide +kernel
theorem dJ7_rangeCheck_23922_47 : decode cJ7_rangeCheck_23922 47 = .ok (.ifCond .ge 12, 3) := by decide +kernel
theorem dJ7_rangeCheck_23922_50 : decode cJ7_rangeCheck_23922 50 = .ok (.new 68, 3) := by decide +kernel
theorem dJ7_rangeCheck_23922_53 : decode cJ7_rangeCheck_23922 53 = .ok (.dup, 1) := by decide +kernel
theorem dJ7_rangeCheck_23922_54 : decode cJ7_rangeCheck_23922 54 = .ok (.iload_n 1, 1) := by decide +kernel
theorem dJ7_rangeCheck_23922_55 : decode cJ7_rangeCheck_23922 55 = .ok (.invokespecial 70, 3) := by decide +kernel
theorem dJ7_rangeCheck_23922_58 : decode cJ7_rangeCheck_23922 58 = .ok (.athrow, 1) := by decide +kernel
theorem dJ7_rangeCheck_23922_59 : decode cJ7_rangeCheck_23922 59 = .ok (.iload_n 2, 1) := by decide +kernel
theorem dJ7_rangeCheck_23922_60 : decode cJ7_rangeCheck_23922 60 = .ok (.iload_n 0, 1) := by decide +kernel
theorem dJ7_rangeCheck_23922_61 : decode cJ7_rangeCheck_23922 61 = .ok (.if_icmp .le 12, 3) := by decide +kernel
theorem dJ7_rangeCheck_23922_64 : decode cJ7_rangeCheck_23922 64 = .ok (.new 68, 3) := by decide +kernel
theorem dJ7_rangeCheck_23922_67 : decode cJ7_rangeCheck_23922 67 = .ok (.dup, 1) := by decide +kernel
theorem dJ7_rangeCheck_23922_68 : decode cJ7_rangeCheck_23922 68 = .ok (.iload_n 2, 1) := by decide +kernel
theorem dJ7_rangeCheck_23922_69 : decode cJ7_rangeCheck_23922 69 = .ok (.invokespecial 70, 3) := by decide +kernel
theorem dJ7_rangeCheck_23922_72 : decode cJ7_rangeCheck_23922 72 = .ok (.athrow, 1) := by decide +kernel
theorem dJ7_rangeCheck_23922_73 : decode cJ7_rangeCheck_23922 73 = .ok (.return_, 1) := by decide +kernel
theorem dJ7_fill_d0a16_0 : decode cJ7_fill_d0a16 0 = .ok (.iconst 0, 1) := by decide +kernel
theorem dJ7_fill_d0a16_1 : decode cJ7_fill_d0a16 1 = .ok (.istore_n 3, 1) := by decide +kernel
theorem dJ7_fill_d0a16_2 : decode cJ7_fill_d0a16 2 = .ok (.aload_n 0, 1) := by decide +kernel
theorem dJ7_fill_d0a16_3 : decode cJ7_fill_d0a16 3 = .ok (.arraylength, 1) := by decide +kernel
theorem dJ7_fill_d0a16_4 : decode cJ7_fill_d0a16 4 = .ok (.istore 4, 2) := by decide +kernel
theorem dJ7_fill_d0a16_6 : decode cJ7_fill_d0a16 6 = .ok (.iload_n 3, 1) := by decide +kernel
theorem dJ7_fill_d0a16_7 : decode cJ7_fill_d0a16 7 = .ok (.iload 4, 2) := by decide +kernel
theorem dJ7_fill_d0a16_9 : decode cJ7_fill_d0a16 9 = .ok (.if_icmp .ge 13, 3) := by decide +kernel
theorem dJ7_fill_d0a16_12 : decode cJ7_fill_d0a16 12 = .ok (.aload_n 0, 1) := by decide +kernel
theorem dJ7_fill_d0a16_13 : decode cJ7_fill_d0a16 13 = .ok (.iload_n 3, 1) := by decide +kernel
theorem dJ7_fill_d0a16_14 : decode cJ7_fill_d0a16 14 = .ok (.lload_n 1, 1) := by decide +kernel
theorem dJ7_fill_d0a16_15 : decode cJ7_fill_d0a16 15 = .ok (.lastore, 1) := by decide +kernel
theorem dJ7_fill_d0a16_16 : decode cJ7_fill_d0a16 16 = .ok (.iinc 3 1, 3) := by decide +kernel
theorem dJ7_fill_d0a16_19 : decode cJ7_fill_d0a16 19 = .ok (.goto (-13), 3) := by decide +kernel
theorem dJ7_fill_d0a16_22 : decode cJ7_fill_d0a16 22 = .ok (.return_, 1) := by decide +kernel
theorem dJ7_fill_53178_0 : decode cJ7_fill_53178 0 = .ok (.iconst 0, 1) := by decide +kernel
theorem dJ7_fill_53178_1 : decode cJ7_fill_53178 1 = .ok (.istore_n 2, 1) := by decide +kernel
theorem dJ7_fill_53178_2 : decode cJ7_fill_53178 2 = .ok (.aload_n 0, 1) := by decide +kernel
theorem dJ7_fill_53178_3 : decode cJ7_fill_53178 3 = .ok (.arraylength, 1) := by decide +kernel
theorem dJ7_fill_53178_4 : decode cJ7_fill_53178 4 = .ok (.istore_n 3, 1) := by decide +kernel
theorem dJ7_fill_53178_5 : decode cJ7_fill_53178 5 = .ok (.iload_n 2, 1) := by decide +kernel
theorem dJ7_fill_53178_6 : decode cJ7_fill_53178 6 = .ok (.iload_n 3, 1) := by decide +kernel
theorem dJ7_fill_53178_7 : decode cJ7_fill_53178 7 = .ok (.if_icmp .ge 13, 3) := by decide +kernel
theorem dJ7_fill_53178_10 : decode cJ7_fill_53178 10 = .ok (.aload_n 0, 1) := by decide +kernel
theorem dJ7_fill_53178_11 : decode cJ7_fill_53178 11 = .ok (.iload_n 2, 1) := by decide +kernel
theorem dJ7_fill_53178_12 : decode cJ7_fill_53178 12 = .ok (.iload_n 1, 1) := by decide +kernel
theorem dJ7_fill_53178_13 : decode cJ7_fill_53178 13 = .ok (.iastore, 1) := by decide +kernel
theorem dJ7_fill_53178_14 : decode cJ7_fill_53178 14 = .ok (.iinc 2 1, 3) := by decide +kernel
theorem dJ7_fill_53178_17 : decode cJ7_fill_53178 17 = .ok (.goto (-12), 3) := by decide +kernel
theorem dJ7_fill_53178_20 : decode cJ7_fill_53178 20 = .ok (.return_, 1) := by decide +kernel
theorem dJ7_fill_fda19_0 : decode cJ7_fill_fda19 0 = .ok (.aload_n 0, 1) := by decide +kernel
theorem dJ7_fill_fda19_1 : decode cJ7_fill_fda19 1 = .ok (.arraylength, 1) := by decide +kernel
theorem dJ7_fill_fda19_2 : decode cJ7_fill_fda19 2 = .ok (.iload_n 1, 1) := by decide +kernel
theorem dJ7_fill_fda19_3 : decode cJ7_fill_fda19 3 = .ok (.iload_n 2, 1) := by decide +kernel
theorem dJ7_fill_fda19_4 : decode cJ7_fill_fda19 4 = .ok (.invokestatic 13, 3) := by decide +kernel
theorem dJ7_fill_fda19_7 : decode cJ7_fill_fda19 7 = .ok (.iload_n 1, 1) := by decide +kernel
theorem dJ7_fill_fda19_8 : decode cJ7_fill_fda19 8 = .ok (.istore 4, 2) := by decide +kernel
theorem dJ7_fill_fda19_10 : decode cJ7_fill_fda19 10 = .ok (.iload 4, 2) := by decide +kernel
theorem dJ7_fill_fda19_12 : decode cJ7_fill_fda19 12 = .ok (.iload_n 2, 1) := by decide +kernel
theorem dJ7_fill_fda19_13 : decode cJ7_fill_fda19 13 = .ok (.if_icmp .ge 14, 3) := by decide +kernel
theorem dJ7_fill_fda19_16 : decode cJ7_fill_fda19 16 = .ok (.aload_n 0, 1) := by decide +kernel
theorem dJ7_fill_fda19_17 : decode cJ7_fill_fda19 17 = .ok (.iload 4, 2) := by decide +kernel
theorem dJ7_fill_fda19_19 : decode cJ7_fill_fda19 19 = .ok (.iload_n 3, 1) := by decide +kernel
theorem dJ7_fill_fda19_20 : decode cJ7_fill_fda19 20 = .ok (.iastore, 1) := by decide +kernel
theorem dJ7_fill_fda19_21 : decode cJ7_fill_fda19 21 = .ok (.iinc 4 1, 3) := by decide +kernel
theorem dJ7_fill_fda19_24 : decode cJ7_fill_fda19 24 = .ok (.goto (-14), 3) := by decide +kernel
theorem dJ7_fill_fda19_27 : decode cJ7_fill_fda19 27 = .ok (.return_, 1) := by decide +kernel
theorem dL_cell_0 : decode cL_cell 0 = .ok (.iload_n 1, 1) := by decide +kernel
theorem dL_cell_1 : decode cL_cell 1 = .ok (.aload_n 0, 1) := by decide +kernel
theorem dL_cell_2 : decode cL_cell 2 = .ok (.arraylength, 1) := by decide +kernel
theorem dL_cell_3 : decode cL_cell 3 = .ok (.if_icmp .ge 9, 3) := by decide +kernel
theorem dL_cell_6 : decode cL_cell 6 = .ok (.aload_n 0, 1) := by decide +kernel
theorem dL_cell_7 : decode cL_cell 7 = .ok (.iload_n 1, 1) := by decide +kernel
theorem dL_cell_8 : decode cL_cell 8 = .ok (.iaload, 1) := by decide +kernel
theorem dL_cell_9 : decode cL_cell 9 = .ok (.goto 4, 3) := by decide +kernel
theorem dL_cell_12 : decode cL_cell 12 = .ok (.iconst 0, 1) := by decide +kernel
theorem dL_cell_13 : decode cL_cell 13 = .ok (.ireturn, 1) := by decide +kernel
theorem dL_out_0 : decode cL_out 0 = .ok (.aload_n 2, 1) := by decide +kernel
theorem dL_out_1 : decode cL_out 1 = .ok (.iconst 0, 1) := by decide +kernel
theorem dL_out_2 : decode cL_out 2 = .ok (.aload_n 0, 1) := by decide +kernel
theorem dL_out_3 : decode cL_out 3 = .ok (.iload_n 1, 1) := by decide +kernel
theorem dL_out_4 : decode cL_out 4 = .ok (.invokevirtual 7, 3) := by decide +kernel
theorem dL_out_7 : decode cL_out 7 = .ok (.i2l, 1) := by decide +kernel
theorem dL_out_8 : decode cL_out 8 = .ok (.lastore, 1) := by decide +kernel
theorem dL_out_9 : decode cL_out 9 = .ok (.goto 6, 3) := by decide +kernel
theorem dL_out_12 : decode cL_out 12 = .ok (.astore_n 3, 1) := by decide +kernel
theorem dL_out_13 : decode cL_out 13 = .ok (.iconst 1, 1) := by decide +kernel
theorem dL_out_14 : decode cL_out 14 = .ok (.ireturn, 1) := by decide +kernel
theorem dL_out_15 : decode cL_out 15 = .ok (.iconst 0, 1) := by decide +kernel
theorem dL_out_16 : decode cL_out 16 = .ok (.ireturn, 1) := by decide +kernel
theorem dL_law_0 : decode cL_law 0 = .ok (.new 8, 3) := by decide +kernel
theorem dL_law_3 : decode cL_law 3 = .ok (.dup, 1) := by decide +kernel
theorem dL_law_4 : decode cL_law 4 = .ok (.aload_n 0, 1) := by decide +kernel
theorem dL_law_5 : decode cL_law 5 = .ok (.iconst 0, 1) := by decide +kernel
theorem dL_law_6 : decode cL_law 6 = .ok (.invokestatic 15, 3) := by decide +kernel
theorem dL_law_9 : decode cL_law 9 = .ok (.invokespecial 21, 3) := by decide +kernel
theorem dL_law_12 : decode cL_law 12 = .ok (.astore_n 1, 1) := by decide +kernel
theorem dL_law_13 : decode cL_law 13 = .ok (.new 24, 3) := by decide +kernel
theorem dL_law_16 : decode cL_law 16 = .ok (.dup, 1) := by decide +kernel
theorem dL_law_17 : decode cL_law 17 = .ok (.aload_n 0, 1) := by decide +kernel
theorem dL_law_18 : decode cL_law 18 = .ok (.iconst 0, 1) := by decide +kernel
theorem dL_law_19 : decode cL_law 19 = .ok (.invokestatic 15, 3) := by decide +kernel
theorem dL_law_22 : decode cL_law 22 = .ok (.invokespecial 26, 3) := by decide +kernel
theorem dL_law_25 : decode cL_law 25 = .ok (.astore_n 2, 1) := by decide +kernel
theorem dL_law_26 : decode cL_law 26 = .ok (.iconst 1, 1) := by decide +kernel
theorem dL_law_27 : decode cL_law 27 = .ok (.newarray .long, 2) := by decide +kernel
theorem dL_law_29 : decode cL_law 29 = .ok (.astore_n 3, 1) := by decide +kernel
theorem dL_law_30 : decode cL_law 30 = .ok (.iconst 1, 1) := by decide +kernel
theorem dL_law_31 : decode cL_law 31 = .ok (.istore 4, 2) := by decide +kernel
theorem dL_law_33 : decode cL_law 33 = .ok (.iload 4, 2) := by decide +kernel
theorem dL_law_35 : decode cL_law 35 = .ok (.aload_n 0, 1) := by decide +kernel
theorem dL_law_36 : decode cL_law 36 = .ok (.arraylength, 1) := by decide +kernel
theorem dL_law_37 : decode cL_law 37 = .ok (.bipush 6, 2) := by decide +kernel
theorem dL_law_39 : decode cL_law 39 = .ok (.isub, 1) := by decide +kernel
theorem dL_law_40 : decode cL_law 40 = .ok (.if_icmp .gt 609, 3) := by decide +kernel
theorem dL_law_43 : decode cL_law 43 = .ok (.aload_n 0, 1) := by decide +kernel
theorem dL_law_44 : decode cL_law 44 = .ok (.iload 4, 2) := by decide +kernel
theorem dL_law_46 : decode cL_law 46 = .ok (.iaload, 1) := by decide +kernel
theorem dL_law_47 : decode cL_law 47 = .ok (.bipush 15, 2) := by decide +kernel
theorem dL_law_49 : decode cL_law 49 = .ok (.iand, 1) := by decide +kernel
theorem dL_law_50 : decode cL_law 50 = .ok (.tableswitch 593 0 15 #[78, 115, 152, 225, 250, 275, 300, 325, 338, 351, 379, 416, 429, 466, 503, 568], 78) := by decide +kernel
theorem dL_law_128 : decode cL_law 128 = .ok (.aload_n 1, 1) := by decide +kernel
theorem dL_law_129 : decode cL_law 129 = .ok (.aload_n 0, 1) := by decide +kernel
theorem dL_law_130 : decode cL_law 130 = .ok (.iload 4, 2) := by decide +kernel
theorem dL_law_132 : decode cL_law 132 = .ok (.iconst 1, 1) := by decide +kernel
theorem dL_law_133 : decode cL_law 133 = .ok (.iadd, 1) := by decide +kernel
theorem dL_law_134 : decode cL_law 134 = .ok (.iaload, 1) := by decide +kernel
theorem dL_law_135 : decode cL_law 135 = .ok (.aload_n 0, 1) := by decide +kernel
theorem dL_law_136 : decode cL_law 136 = .ok (.iload 4, 2) := by decide +kernel
theorem dL_law_138 : decode cL_law 138 = .ok (.iconst 2, 1) := by decide +kernel
theorem dL_law_139 : decode cL_law 139 = .ok (.iadd, 1) := by decide +kernel
theorem dL_law_140 : decode cL_law 140 = .ok (.iaload, 1) := by decide +kernel
theorem dL_law_141 : decode cL_law 141 = .ok (.invokevirtual 27, 3) := by decide +kernel
theorem dL_law_144 : decode cL_law 144 = .ok (.aload_n 2, 1) := by decide +kernel
theorem dL_law_145 : decode cL_law 145 = .ok (.aload_n 0, 1) := by decide +kernel
theorem dL_law_146 : decode cL_law 146 = .ok (.iload 4, 2) := by decide +kernel
theorem dL_law_148 : decode cL_law 148 = .ok (.iconst 1, 1) := by decide +kernel
theorem dL_law_149 : decode cL_law 149 = .ok (.iadd, 1) := by decide +kernel
theorem dL_law_150 : decode cL_law 150 = .ok (.iaload, 1) := by decide +kernel
theorem dL_law_151 : decode cL_law 151 = .ok (.aload_n 0, 1) := by decide +kernel
theorem dL_law_152 : decode cL_law 152 = .ok (.iload 4, 2) := by decide +kernel
theorem dL_law_154 : decode cL_law 154 = .ok (.iconst 2, 1) := by decide +kernel
theorem dL_law_155 : decode cL_law 155 = .ok (.iadd, 1) := by decide +kernel
theorem dL_law_156 : decode cL_law 156 = .ok (.iaload, 1) := by decide +kernel
theorem dL_law_157 : decode cL_law 157 = .ok (.invokevirtual 31, 3) := by decide +kernel
theorem dL_law_160 : decode cL_law 160 = .ok (.if_icmp .eq 483, 3) := by decide +kernel
theorem dL_law_163 : decode cL_law 163 = .ok (.iconst 0, 1) := by decide +kernel
theorem dL_law_164 : decode cL_law 164 = .ok (.ireturn, 1) := by decide +kernel
theorem dL_law_165 : decode cL_law 165 = .ok (.aload_n 1, 1) := by decide +kernel
theorem dL_law_166 : decode cL_law 166 = .ok (.aload_n 0, 1) := by decide +kernel
theorem dL_law_167 : decode cL_law 167 = .ok (.iload 4, 2) := by decide +kernel
theorem dL_law_169 : decode cL_law 169 = .ok (.iconst 1, 1) := by decide +kernel
theorem dL_law_170 : decode cL_law 170 = .ok (.iadd, 1) := by decide +kernel
theorem dL_law_171 : decode cL_law 171 = .ok (.iaload, 1) := by decide +kernel
theorem dL_law_172 : decode cL_law 172 = .ok (.aload_n 0, 1) := by decide +kernel
theorem dL_law_173 : decode cL_law 173 = .ok (.iload 4, 2) := by decide +kernel
theorem dL_law_175 : decode cL_law 175 = .ok (.iconst 2, 1) := by decide +kernel
theorem dL_law_176 : decode cL_law 176 = .ok (.iadd, 1) := by decide +kernel
theorem dL_law_177 : decode cL_law 177 = .ok (.iaload, 1) := by decide +kernel
theorem dL_law_178 : decode cL_law 178 = .ok (.invokevirtual 32, 3) := by decide +kernel
theorem dL_law_181 : decode cL_law 181 = .ok (.pop, 1) := by decide +kernel
theorem dL_law_182 : decode cL_law 182 = .ok (.aload_n 2, 1) := by decide +kernel
theorem dL_law_183 : decode cL_law 183 = .ok (.aload_n 0, 1) := by decide +kernel
theorem dL_law_184 : decode cL_law 184 = .ok (.iload 4, 2) := by decide +kernel
theorem dL_law_186 : decode cL_law 186 = .ok (.iconst 1, 1) := by decide +kernel
theorem dL_law_187 : decode cL_law 187 = .ok (.iadd, 1) := by decide +kernel
theorem dL_law_188 : decode cL_law 188 = .ok (.iaload, 1) := by decide +kernel
theorem dL_law_189 : decode cL_law 189 = .ok (.aload_n 0, 1) := by decide +kernel
theorem dL_law_190 : decode cL_law 190 = .ok (.iload 4, 2) := by decide +kernel
theorem dL_law_192 : decode cL_law 192 = .ok (.iconst 2, 1) := by decide +kernel
theorem dL_law_193 : decode cL_law 193 = .ok (.iadd, 1) := by decide +kernel
theorem dL_law_194 : decode cL_law 194 = .ok (.iaload, 1) := by decide +kernel
theorem dL_law_195 : decode cL_law 195 = .ok (.invokevirtual 35, 3) := by decide +kernel
theorem dL_law_198 : decode cL_law 198 = .ok (.pop, 1) := by decide +kernel
theorem dL_law_199 : decode cL_law 199 = .ok (.goto 444, 3) := by decide +kernel
theorem dL_law_202 : decode cL_law 202 = .ok (.aload_n 1, 1) := by decide +kernel
theorem dL_law_203 : decode cL_law 203 = .ok (.aload_n 0, 1) := by decide +kernel
theorem dL_law_204 : decode cL_law 204 = .ok (.iload 4, 2) := by decide +kernel
theorem dL_law_206 : decode cL_law 206 = .ok (.iconst 1, 1) := by decide +kernel
theorem dL_law_207 : decode cL_law 207 = .ok (.iadd, 1) := by decide +kernel
theorem dL_law_208 : decode cL_law 208 = .ok (.iaload, 1) := by decide +kernel
theorem dL_law_209 : decode cL_law 209 = .ok (.aload_n 0, 1) := by decide +kernel
theorem dL_law_210 : decode cL_law 210 = .ok (.iload 4, 2) := by decide +kernel
theorem dL_law_212 : decode cL_law 212 = .ok (.iconst 2, 1) := by decide +kernel
theorem dL_law_213 : decode cL_law 213 = .ok (.iadd, 1) := by decide +kernel
theorem dL_law_214 : decode cL_law 214 = .ok (.iaload, 1) := by decide +kernel
theorem dL_law_215 : decode cL_law 215 = .ok (.aload_n 0, 1) := by decide +kernel
theorem dL_law_216 : decode cL_law 216 = .ok (.iload 4, 2) := by decide +kernel
theorem dL_law_218 : decode cL_law 218 = .ok (.iconst 3, 1) := by decide +kernel
theorem dL_law_219 : decode cL_law 219 = .ok (.iadd, 1) := by decide +kernel
theorem dL_law_220 : decode cL_law 220 = .ok (.iaload, 1) := by decide +kernel
theorem dL_law_221 : decode cL_law 221 = .ok (.aload_n 0, 1) := by decide +kernel
theorem dL_law_222 : decode cL_law 222 = .ok (.iload 4, 2) := by decide +kernel
theorem dL_law_224 : decode cL_law 224 = .ok (.iconst 4, 1) := by decide +kernel
theorem dL_law_225 : decode cL_law 225 = .ok (.iadd, 1) := by decide +kernel
theorem dL_law_226 : decode cL_law 226 = .ok (.iaload, 1) := by decide +kernel
theorem dL_law_227 : decode cL_law 227 = .ok (.aload_n 0, 1) := by decide +kernel
theorem dL_law_228 : decode cL_law 228 = .ok (.iload 4, 2) := by decide +kernel
theorem dL_law_230 : decode cL_law 230 = .ok (.iconst 5, 1) := by decide +kernel
theorem dL_law_231 : decode cL_law 231 = .ok (.iadd, 1) := by decide +kernel
theorem dL_law_232 : decode cL_law 232 = .ok (.iaload, 1) := by decide +kernel
theorem dL_law_233 : decode cL_law 233 = .ok (.invokevirtual 36, 3) := by decide +kernel
theorem dL_law_236 : decode cL_law 236 = .ok (.pop, 1) := by decide +kernel
theorem dL_law_237 : decode cL_law 237 = .ok (.aload_n 2, 1) := by decide +kernel
theorem dL_law_238 : decode cL_law 238 = .ok (.aload_n 0, 1) := by decide +kernel
theorem dL_law_239 : decode cL_law 239 = .ok (.iload 4, 2) := by decide +kernel
theorem dL_law_241 : decode cL_law 241 = .ok (.iconst 1, 1) := by decide +kernel
theorem dL_law_242 : decode cL_law 242 = .ok (.iadd, 1) := by decide +kernel
theorem dL_law_243 : decode cL_law 243 = .ok (.iaload, 1) := by decide +kernel
theorem dL_law_244 : decode cL_law 244 = .ok (.aload_n 0, 1) := by decide +kernel
theorem dL_law_245 : decode cL_law 245 = .ok (.iload 4, 2) := by decide +kernel
theorem dL_law_247 : decode cL_law 247 = .ok (.iconst 2, 1) := by decide +kernel
theorem dL_law_248 : decode cL_law 248 = .ok (.iadd, 1) := by decide +kernel
theorem dL_law_249 : decode cL_law 249 = .ok (.iaload, 1) := by decide +kernel
theorem dL_law_250 : decode cL_law 250 = .ok (.aload_n 0, 1) := by decide +kernel
theorem dL_law_251 : decode cL_law 251 = .ok (.iload 4, 2) := by decide +kernel
theorem dL_law_253 : decode cL_law 253 = .ok (.iconst 3, 1) := by decide +kernel
theorem dL_law_254 : decode cL_law 254 = .ok (.iadd, 1) := by decide +kernel
theorem dL_law_255 : decode cL_law 255 = .ok (.iaload, 1) := by decide +kernel
theorem dL_law_256 : decode cL_law 256 = .ok (.aload_n 0, 1) := by decide +kernel
theorem dL_law_257 : decode cL_law 257 = .ok (.iload 4, 2) := by decide +kernel
theorem dL_law_259 : decode cL_law 259 = .ok (.iconst 4, 1) := by decide +kernel
theorem dL_law_260 : decode cL_law 260 = .ok (.iadd, 1) := by decide +kernel
theorem dL_law_261 : decode cL_law 261 = .ok (.iaload, 1) := by decide +kernel
theorem dL_law_262 : decode cL_law 262 = .ok (.aload_n 0, 1) := by decide +kernel
theorem dL_law_263 : decode cL_law 263 = .ok (.iload 4, 2) := by decide +kernel
theorem dL_law_265 : decode cL_law 265 = .ok (.iconst 5, 1) := by decide +kernel
theorem dL_law_266 : decode cL_law 266 = .ok (.iadd, 1) := by decide +kernel
theorem dL_law_267 : decode cL_law 267 = .ok (.iaload, 1) := by decide +kernel
theorem dL_law_268 : decode cL_law 268 = .ok (.invokevirtual 40, 3) := by decide +kernel
theorem dL_law_271 : decode cL_law 271 = .ok (.pop, 1) := by decide +kernel
theorem dL_law_272 : decode cL_law 272 = .ok (.goto 371, 3) := by decide +kernel
theorem dL_law_275 : decode cL_law 275 = .ok (.aload_n 1, 1) := by decide +kernel
theorem dL_law_276 : decode cL_law 276 = .ok (.aload_n 0, 1) := by decide +kernel
theorem dL_law_277 : decode cL_law 277 = .ok (.iload 4, 2) := by decide +kernel
theorem dL_law_279 : decode cL_law 279 = .ok (.iconst 1, 1) := by decide +kernel
theorem dL_law_280 : decode cL_law 280 = .ok (.iadd, 1) := by decide +kernel
theorem dL_law_281 : decode cL_law 281 = .ok (.iaload, 1) := by decide +kernel
theorem dL_law_282 : decode cL_law 282 = .ok (.invokevirtual 41, 3) := by decide +kernel
theorem dL_law_285 : decode cL_law 285 = .ok (.pop, 1) := by decide +kernel
theorem dL_law_286 : decode cL_law 286 = .ok (.aload_n 2, 1) := by decide +kernel
theorem dL_law_287 : decode cL_law 287 = .ok (.aload_n 0, 1) := by decide +kernel
theorem dL_law_288 : decode cL_law 288 = .ok (.iload 4, 2) := by decide +kernel
theorem dL_law_290 : decode cL_law 290 = .ok (.iconst 1, 1) := by decide +kernel
theorem dL_law_291 : decode cL_law 291 = .ok (.iadd, 1) := by decide +kernel
theorem dL_law_292 : decode cL_law 292 = .ok (.iaload, 1) := by decide +kernel
theorem dL_law_293 : decode cL_law 293 = .ok (.invokevirtual 44, 3) := by decide +kernel
theorem dL_law_296 : decode cL_law 296 = .ok (.pop, 1) := by decide +kernel
theorem dL_law_297 : decode cL_law 297 = .ok (.goto 346, 3) := by decide +kernel
theorem dL_law_300 : decode cL_law 300 = .ok (.aload_n 1, 1) := by decide +kernel
theorem dL_law_301 : decode cL_law 301 = .ok (.aload_n 0, 1) := by decide +kernel
theorem dL_law_302 : decode cL_law 302 = .ok (.iload 4, 2) := by decide +kernel
theorem dL_law_304 : decode cL_law 304 = .ok (.iconst 1, 1) := by decide +kernel
theorem dL_law_305 : decode cL_law 305 = .ok (.iadd, 1) := by decide +kernel
theorem dL_law_306 : decode cL_law 306 = .ok (.iaload, 1) := by decide +kernel
theorem dL_law_307 : decode cL_law 307 = .ok (.invokevirtual 45, 3) := by decide +kernel
theorem dL_law_310 : decode cL_law 310 = .ok (.pop, 1) := by decide +kernel
theorem dL_law_311 : decode cL_law 311 = .ok (.aload_n 2, 1) := by decide +kernel
theorem dL_law_312 : decode cL_law 312 = .ok (.aload_n 0, 1) := by decide +kernel
theorem dL_law_313 : decode cL_law 313 = .ok (.iload 4, 2) := by decide +kernel
theorem dL_law_315 : decode cL_law 315 = .ok (.iconst 1, 1) := by decide +kernel
theorem dL_law_316 : decode cL_law 316 = .ok (.iadd, 1) := by decide +kernel
theorem dL_law_317 : decode cL_law 317 = .ok (.iaload, 1) := by decide +kernel
theorem dL_law_318 : decode cL_law 318 = .ok (.invokevirtual 48, 3) := by decide +kernel
theorem dL_law_321 : decode cL_law 321 = .ok (.pop, 1) := by decide +kernel
theorem dL_law_322 : decode cL_law 322 = .ok (.goto 321, 3) := by decide +kernel
theorem dL_law_325 : decode cL_law 325 = .ok (.aload_n 1, 1) := by decide +kernel
theorem dL_law_326 : decode cL_law 326 = .ok (.aload_n 0, 1) := by decide +kernel
theorem dL_law_327 : decode cL_law 327 = .ok (.iload 4, 2) := by decide +kernel
theorem dL_law_329 : decode cL_law 329 = .ok (.iconst 1, 1) := by decide +kernel
theorem dL_law_330 : decode cL_law 330 = .ok (.iadd, 1) := by decide +kernel
theorem dL_law_331 : decode cL_law 331 = .ok (.iaload, 1) := by decide +kernel
theorem dL_law_332 : decode cL_law 332 = .ok (.invokevirtual 49, 3) := by decide +kernel
theorem dL_law_335 : decode cL_law 335 = .ok (.pop, 1) := by decide +kernel
theorem dL_law_336 : decode cL_law 336 = .ok (.aload_n 2, 1) := by decide +kernel
theorem dL_law_337 : decode cL_law 337 = .ok (.aload_n 0, 1) := by decide +kernel
theorem dL_law_338 : decode cL_law 338 = .ok (.iload 4, 2) := by decide +kernel
theorem dL_law_340 : decode cL_law 340 = .ok (.iconst 1, 1) := by decide +kernel
theorem dL_law_341 : decode cL_law 341 = .ok (.iadd, 1) := by decide +kernel
theorem dL_law_342 : decode cL_law 342 = .ok (.iaload, 1) := by decide +kernel
theorem dL_law_343 : decode cL_law 343 = .ok (.invokevirtual 52, 3) := by decide +kernel
theorem dL_law_346 : decode cL_law 346 = .ok (.pop, 1) := by decide +kernel
theorem dL_law_347 : decode cL_law 347 = .ok (.goto 296, 3) := by decide +kernel
theorem dL_law_350 : decode cL_law 350 = .ok (.aload_n 1, 1) := by decide +kernel
theorem dL_law_351 : decode cL_law 351 = .ok (.aload_n 0, 1) := by decide +kernel
theorem dL_law_352 : decode cL_law 352 = .ok (.iload 4, 2) := by decide +kernel
theorem dL_law_354 : decode cL_law 354 = .ok (.iconst 1, 1) := by decide +kernel
theorem dL_law_355 : decode cL_law 355 = .ok (.iadd, 1) := by decide +kernel
theorem dL_law_356 : decode cL_law 356 = .ok (.iaload, 1) := by decide +kernel
theorem dL_law_357 : decode cL_law 357 = .ok (.invokevirtual 53, 3) := by decide +kernel
theorem dL_law_360 : decode cL_law 360 = .ok (.pop, 1) := by decide +kernel
theorem dL_law_361 : decode cL_law 361 = .ok (.aload_n 2, 1) := by decide +kernel
theorem dL_law_362 : decode cL_law 362 = .ok (.aload_n 0, 1) := by decide +kernel
theorem dL_law_363 : decode cL_law 363 = .ok (.iload 4, 2) := by decide +kernel
theorem dL_law_365 : decode cL_law 365 = .ok (.iconst 1, 1) := by decide +kernel
theorem dL_law_366 : decode cL_law 366 = .ok (.iadd, 1) := by decide +kernel
theorem dL_law_367 : decode cL_law 367 = .ok (.iaload, 1) := by decide +kernel
theorem dL_law_368 : decode cL_law 368 = .ok (.invokevirtual 56, 3) := by decide +kernel
theorem dL_law_371 : decode cL_law 371 = .ok (.pop, 1) := by decide +kernel
theorem dL_law_372 : decode cL_law 372 = .ok (.goto 271, 3) := by decide +kernel
theorem dL_law_375 : decode cL_law 375 = .ok (.aload_n 1, 1) := by decide +kernel
theorem dL_law_376 : decode cL_law 376 = .ok (.invokevirtual 57, 3) := by decide +kernel
theorem dL_law_379 : decode cL_law 379 = .ok (.pop, 1) := by decide +kernel
theorem dL_law_380 : decode cL_law 380 = .ok (.aload_n 2, 1) := by decide +kernel
theorem dL_law_381 : decode cL_law 381 = .ok (.invokevirtual 61, 3) := by decide +kernel
theorem dL_law_384 : decode cL_law 384 = .ok (.pop, 1) := by decide +kernel
theorem dL_law_385 : decode cL_law 385 = .ok (.goto 258, 3) := by decide +kernel
theorem dL_law_388 : decode cL_law 388 = .ok (.aload_n 1, 1) := by decide +kernel
theorem dL_law_389 : decode cL_law 389 = .ok (.invokevirtual 62, 3) := by decide +kernel
theorem dL_law_392 : decode cL_law 392 = .ok (.pop, 1) := by decide +kernel
theorem dL_law_393 : decode cL_law 393 = .ok (.aload_n 2, 1) := by decide +kernel
theorem dL_law_394 : decode cL_law 394 = .ok (.invokevirtual 65, 3) := by decide +kernel
theorem dL_law_397 : decode cL_law 397 = .ok (.pop, 1) := by decide +kernel
theorem dL_law_398 : decode cL_law 398 = .ok (.goto 245, 3) := by decide +kernel
theorem dL_law_401 : decode cL_law 401 = .ok (.aload_n 1, 1) := by decide +kernel
theorem dL_law_402 : decode cL_law 402 = .ok (.aload_n 0, 1) := by decide +kernel
theorem dL_law_403 : decode cL_law 403 = .ok (.iload 4, 2) := by decide +kernel
theorem dL_law_405 : decode cL_law 405 = .ok (.iconst 1, 1) := by decide +kernel
theorem dL_law_406 : decode cL_law 406 = .ok (.iadd, 1) := by decide +kernel
theorem dL_law_407 : decode cL_law 407 = .ok (.iaload, 1) := by decide +kernel
theorem dL_law_408 : decode cL_law 408 = .ok (.aload_n 3, 1) := by decide +kernel
theorem dL_law_409 : decode cL_law 409 = .ok (.invokestatic 66, 3) := by decide +kernel
theorem dL_law_412 : decode cL_law 412 = .ok (.istore 5, 2) := by decide +kernel
theorem dL_law_414 : decode cL_law 414 = .ok (.aload_n 2, 1) := by decide +kernel
theorem dL_law_415 : decode cL_law 415 = .ok (.aload_n 0, 1) := by decide +kernel
theorem dL_law_416 : decode cL_law 416 = .ok (.iload 4, 2) := by decide +kernel
theorem dL_law_418 : decode cL_law 418 = .ok (.iconst 1, 1) := by decide +kernel
theorem dL_law_419 : decode cL_law 419 = .ok (.iadd, 1) := by decide +kernel
theorem dL_law_420 : decode cL_law 420 = .ok (.iaload, 1) := by decide +kernel
theorem dL_law_421 : decode cL_law 421 = .ok (.invokevirtual 69, 3) := by decide +kernel
theorem dL_law_424 : decode cL_law 424 = .ok (.istore 6, 2) := by decide +kernel
theorem dL_law_426 : decode cL_law 426 = .ok (.goto 217, 3) := by decide +kernel
theorem dL_law_429 : decode cL_law 429 = .ok (.aload_n 1, 1) := by decide +kernel
theorem dL_law_430 : decode cL_law 430 = .ok (.aload_n 0, 1) := by decide +kernel
theorem dL_law_431 : decode cL_law 431 = .ok (.iload 4, 2) := by decide +kernel
theorem dL_law_433 : decode cL_law 433 = .ok (.iconst 1, 1) := by decide +kernel
theorem dL_law_434 : decode cL_law 434 = .ok (.iadd, 1) := by decide +kernel
theorem dL_law_435 : decode cL_law 435 = .ok (.iaload, 1) := by decide +kernel
theorem dL_law_436 : decode cL_law 436 = .ok (.aload_n 0, 1) := by decide +kernel
theorem dL_law_437 : decode cL_law 437 = .ok (.iload 4, 2) := by decide +kernel
theorem dL_law_439 : decode cL_law 439 = .ok (.iconst 2, 1) := by decide +kernel
theorem dL_law_440 : decode cL_law 440 = .ok (.iadd, 1) := by decide +kernel
theorem dL_law_441 : decode cL_law 441 = .ok (.iaload, 1) := by decide +kernel
theorem dL_law_442 : decode cL_law 442 = .ok (.invokevirtual 70, 3) := by decide +kernel
theorem dL_law_445 : decode cL_law 445 = .ok (.pop, 1) := by decide +kernel
theorem dL_law_446 : decode cL_law 446 = .ok (.aload_n 2, 1) := by decide +kernel
theorem dL_law_447 : decode cL_law 447 = .ok (.aload_n 0, 1) := by decide +kernel
theorem dL_law_448 : decode cL_law 448 = .ok (.iload 4, 2) := by decide +kernel
theorem dL_law_450 : decode cL_law 450 = .ok (.iconst 1, 1) := by decide +kernel
theorem dL_law_451 : decode cL_law 451 = .ok (.iadd, 1) := by decide +kernel
theorem dL_law_452 : decode cL_law 452 = .ok (.iaload, 1) := by decide +kernel
theorem dL_law_453 : decode cL_law 453 = .ok (.aload_n 0, 1) := by decide +kernel
theorem dL_law_454 : decode cL_law 454 = .ok (.iload 4, 2) := by decide +kernel
theorem dL_law_456 : decode cL_law 456 = .ok (.iconst 2, 1) := by decide +kernel
theorem dL_law_457 : decode cL_law 457 = .ok (.iadd, 1) := by decide +kernel
theorem dL_law_458 : decode cL_law 458 = .ok (.iaload, 1) := by decide +kernel
theorem dL_law_459 : decode cL_law 459 = .ok (.invokevirtual 73, 3) := by decide +kernel
theorem dL_law_462 : decode cL_law 462 = .ok (.pop, 1) := by decide +kernel
theorem dL_law_463 : decode cL_law 463 = .ok (.goto 180, 3) := by decide +kernel
theorem dL_law_466 : decode cL_law 466 = .ok (.aload_n 1, 1) := by decide +kernel
theorem dL_law_467 : decode cL_law 467 = .ok (.invokevirtual 74, 3) := by decide +kernel
theorem dL_law_470 : decode cL_law 470 = .ok (.pop, 1) := by decide +kernel
theorem dL_law_471 : decode cL_law 471 = .ok (.aload_n 2, 1) := by decide +kernel
theorem dL_law_472 : decode cL_law 472 = .ok (.invokevirtual 77, 3) := by decide +kernel
theorem dL_law_475 : decode cL_law 475 = .ok (.pop, 1) := by decide +kernel
theorem dL_law_476 : decode cL_law 476 = .ok (.goto 167, 3) := by decide +kernel
theorem dL_law_479 : decode cL_law 479 = .ok (.aload_n 1, 1) := by decide +kernel
theorem dL_law_480 : decode cL_law 480 = .ok (.aload_n 0, 1) := by decide +kernel
theorem dL_law_481 : decode cL_law 481 = .ok (.iload 4, 2) := by decide +kernel
theorem dL_law_483 : decode cL_law 483 = .ok (.iconst 1, 1) := by decide +kernel
theorem dL_law_484 : decode cL_law 484 = .ok (.iadd, 1) := by decide +kernel
theorem dL_law_485 : decode cL_law 485 = .ok (.iaload, 1) := by decide +kernel
theorem dL_law_486 : decode cL_law 486 = .ok (.aload_n 0, 1) := by decide +kernel
theorem dL_law_487 : decode cL_law 487 = .ok (.iload 4, 2) := by decide +kernel
theorem dL_law_489 : decode cL_law 489 = .ok (.iconst 2, 1) := by decide +kernel
theorem dL_law_490 : decode cL_law 490 = .ok (.iadd, 1) := by decide +kernel
theorem dL_law_491 : decode cL_law 491 = .ok (.iaload, 1) := by decide +kernel
theorem dL_law_492 : decode cL_law 492 = .ok (.invokevirtual 78, 3) := by decide +kernel
theorem dL_law_495 : decode cL_law 495 = .ok (.pop, 1) := by decide +kernel
theorem dL_law_496 : decode cL_law 496 = .ok (.aload_n 2, 1) := by decide +kernel
theorem dL_law_497 : decode cL_law 497 = .ok (.aload_n 0, 1) := by decide +kernel
theorem dL_law_498 : decode cL_law 498 = .ok (.iload 4, 2) := by decide +kernel
theorem dL_law_500 : decode cL_law 500 = .ok (.iconst 1, 1) := by decide +kernel
theorem dL_law_501 : decode cL_law 501 = .ok (.iadd, 1) := by decide +kernel
theorem dL_law_502 : decode cL_law 502 = .ok (.iaload, 1) := by decide +kernel
theorem dL_law_503 : decode cL_law 503 = .ok (.aload_n 0, 1) := by decide +kernel
theorem dL_law_504 : decode cL_law 504 = .ok (.iload 4, 2) := by decide +kernel
theorem dL_law_506 : decode cL_law 506 = .ok (.iconst 2, 1) := by decide +kernel
theorem dL_law_507 : decode cL_law 507 = .ok (.iadd, 1) := by decide +kernel
theorem dL_law_508 : decode cL_law 508 = .ok (.iaload, 1) := by decide +kernel
theorem dL_law_509 : decode cL_law 509 = .ok (.invokevirtual 81, 3) := by decide +kernel
