theorem dX12_putLiteral_167 : decode cX12_putLiteral 167 = .ok (.iload 4, 2) := by decide +kernel
theorem dX12_putLiteral_169 : decode cX12_putLiteral 169 = .ok (.imul, 1) := by decide +kernel
theorem dX12_putLiteral_170 : decode cX12_putLiteral 170 = .ok (.iload 8, 2) := by decide +kernel
theorem dX12_putLiteral_172 : decode cX12_putLiteral 172 = .ok (.iadd, 1) := by decide +kernel
theorem dX12_putLiteral_173 : decode cX12_putLiteral 173 = .ok (.istore 4, 2) := by decide +kernel
theorem dX12_putLiteral_175 : decode cX12_putLiteral 175 = .ok (.iinc 7 (-1), 3) := by decide +kernel
theorem dX12_putLiteral_178 : decode cX12_putLiteral 178 = .ok (.goto (-86), 3) := by decide +kernel
theorem dX12_putLiteral_181 : decode cX12_putLiteral 181 = .ok (.aload_n 0, 1) := by decide +kernel
theorem dX12_putLiteral_182 : decode cX12_putLiteral 182 = .ok (.invokevirtual 339, 3) := by decide +kernel
theorem dX12_putLiteral_185 : decode cX12_putLiteral 185 = .ok (.return_, 1) := by decide +kernel
theorem dX12_putFar_0 : decode cX12_putFar 0 = .ok (.iload_n 1, 1) := by decide +kernel
theorem dX12_putFar_1 : decode cX12_putFar 1 = .ok (.iconst 2, 1) := by decide +kernel
theorem dX12_putFar_2 : decode cX12_putFar 2 = .ok (.isub, 1) := by decide +kernel
theorem dX12_putFar_3 : decode cX12_putFar 3 = .ok (.iconst 3, 1) := by decide +kernel
theorem dX12_putFar_4 : decode cX12_putFar 4 = .ok (.if_icmp .ge 9, 3) := by decide +kernel
theorem dX12_putFar_7 : decode cX12_putFar 7 = .ok (.iload_n 1, 1) := by decide +kernel
theorem dX12_putFar_8 : decode cX12_putFar 8 = .ok (.iconst 2, 1) := by decide +kernel
theorem dX12_putFar_9 : decode cX12_putFar 9 = .ok (.isub, 1) := by decide +kernel
theorem dX12_putFar_10 : decode cX12_putFar 10 = .ok (.goto 4, 3) := by decide +kernel
theorem dX12_putFar_13 : decode cX12_putFar 13 = .ok (.iconst 3, 1) := by decide +kernel
theorem dX12_putFar_14 : decode cX12_putFar 14 = .ok (.istore 4, 2) := by decide +kernel
theorem dX12_putFar_16 : decode cX12_putFar 16 = .ok (.lload_n 2, 1) := by decide +kernel
theorem dX12_putFar_17 : decode cX12_putFar 17 = .ok (.lconst 1, 1) := by decide +kernel
theorem dX12_putFar_18 : decode cX12_putFar 18 = .ok (.lsub, 1) := by decide +kernel
theorem dX12_putFar_19 : decode cX12_putFar 19 = .ok (.lstore 5, 2) := by decide +kernel
theorem dX12_putFar_21 : decode cX12_putFar 21 = .ok (.lload 5, 2) := by decide +kernel
theorem dX12_putFar_23 : decode cX12_putFar 23 = .ok (.ldc2_w 342, 3) := by decide +kernel
theorem dX12_putFar_26 : decode cX12_putFar 26 = .ok (.lcmp, 1) := by decide +kernel
theorem dX12_putFar_27 : decode cX12_putFar 27 = .ok (.ifCond .ge 22, 3) := by decide +kernel
theorem dX12_putFar_30 : decode cX12_putFar 30 = .ok (.aload_n 0, 1) := by decide +kernel
theorem dX12_putFar_31 : decode cX12_putFar 31 = .ok (.sipush 432, 3) := by decide +kernel
theorem dX12_putFar_34 : decode cX12_putFar 34 = .ok (.bipush 64, 2) := by decide +kernel
theorem dX12_putFar_36 : decode cX12_putFar 36 = .ok (.iload 4, 2) := by decide +kernel
theorem dX12_putFar_38 : decode cX12_putFar 38 = .ok (.imul, 1) := by decide +kernel
theorem dX12_putFar_39 : decode cX12_putFar 39 = .ok (.iadd, 1) := by decide +kernel
theorem dX12_putFar_40 : decode cX12_putFar 40 = .ok (.bipush 6, 2) := by decide +kernel
theorem dX12_putFar_42 : decode cX12_putFar 42 = .ok (.lload 5, 2) := by decide +kernel
theorem dX12_putFar_44 : decode cX12_putFar 44 = .ok (.l2i, 1) := by decide +kernel
theorem dX12_putFar_45 : decode cX12_putFar 45 = .ok (.invokevirtual 299, 3) := by decide +kernel
theorem dX12_putFar_48 : decode cX12_putFar 48 = .ok (.return_, 1) := by decide +kernel
theorem dX12_putFar_49 : decode cX12_putFar 49 = .ok (.iconst 0, 1) := by decide +kernel
theorem dX12_putFar_50 : decode cX12_putFar 50 = .ok (.istore 7, 2) := by decide +kernel
theorem dX12_putFar_52 : decode cX12_putFar 52 = .ok (.lload 5, 2) := by decide +kernel
theorem dX12_putFar_54 : decode cX12_putFar 54 = .ok (.iload 7, 2) := by decide +kernel
theorem dX12_putFar_56 : decode cX12_putFar 56 = .ok (.lshr, 1) := by decide +kernel
theorem dX12_putFar_57 : decode cX12_putFar 57 = .ok (.lconst 1, 1) := by decide +kernel
theorem dX12_putFar_58 : decode cX12_putFar 58 = .ok (.lcmp, 1) := by decide +kernel
theorem dX12_putFar_59 : decode cX12_putFar 59 = .ok (.ifCond .le 9, 3) := by decide +kernel
theorem dX12_putFar_62 : decode cX12_putFar 62 = .ok (.iinc 7 1, 3) := by decide +kernel
theorem dX12_putFar_65 : decode cX12_putFar 65 = .ok (.goto (-13), 3) := by decide +kernel
theorem dX12_putFar_68 : decode cX12_putFar 68 = .ok (.iconst 2, 1) := by decide +kernel
theorem dX12_putFar_69 : decode cX12_putFar 69 = .ok (.iload 7, 2) := by decide +kernel
theorem dX12_putFar_71 : decode cX12_putFar 71 = .ok (.imul, 1) := by decide +kernel
theorem dX12_putFar_72 : decode cX12_putFar 72 = .ok (.lload 5, 2) := by decide +kernel
theorem dX12_putFar_74 : decode cX12_putFar 74 = .ok (.iload 7, 2) := by decide +kernel
theorem dX12_putFar_76 : decode cX12_putFar 76 = .ok (.iconst 1, 1) := by decide +kernel
theorem dX12_putFar_77 : decode cX12_putFar 77 = .ok (.isub, 1) := by decide +kernel
theorem dX12_putFar_78 : decode cX12_putFar 78 = .ok (.lshr, 1) := by decide +kernel
theorem dX12_putFar_79 : decode cX12_putFar 79 = .ok (.lconst 1, 1) := by decide +kernel
theorem dX12_putFar_80 : decode cX12_putFar 80 = .ok (.land, 1) := by decide +kernel
theorem dX12_putFar_81 : decode cX12_putFar 81 = .ok (.l2i, 1) := by decide +kernel
theorem dX12_putFar_82 : decode cX12_putFar 82 = .ok (.iadd, 1) := by decide +kernel
theorem dX12_putFar_83 : decode cX12_putFar 83 = .ok (.istore 8, 2) := by decide +kernel
theorem dX12_putFar_85 : decode cX12_putFar 85 = .ok (.iload 7, 2) := by decide +kernel
theorem dX12_putFar_87 : decode cX12_putFar 87 = .ok (.iconst 1, 1) := by decide +kernel
theorem dX12_putFar_88 : decode cX12_putFar 88 = .ok (.isub, 1) := by decide +kernel
theorem dX12_putFar_89 : decode cX12_putFar 89 = .ok (.istore 9, 2) := by decide +kernel
theorem dX12_putFar_91 : decode cX12_putFar 91 = .ok (.aload_n 0, 1) := by decide +kernel
theorem dX12_putFar_92 : decode cX12_putFar 92 = .ok (.sipush 432, 3) := by decide +kernel
theorem dX12_putFar_95 : decode cX12_putFar 95 = .ok (.bipush 64, 2) := by decide +kernel
theorem dX12_putFar_97 : decode cX12_putFar 97 = .ok (.iload 4, 2) := by decide +kernel
theorem dX12_putFar_99 : decode cX12_putFar 99 = .ok (.imul, 1) := by decide +kernel
theorem dX12_putFar_100 : decode cX12_putFar 100 = .ok (.iadd, 1) := by decide +kernel
theorem dX12_putFar_101 : decode cX12_putFar 101 = .ok (.bipush 6, 2) := by decide +kernel
theorem dX12_putFar_103 : decode cX12_putFar 103 = .ok (.iload 8, 2) := by decide +kernel
theorem dX12_putFar_105 : decode cX12_putFar 105 = .ok (.invokevirtual 299, 3) := by decide +kernel
theorem dX12_putFar_108 : decode cX12_putFar 108 = .ok (.iload 8, 2) := by decide +kernel
theorem dX12_putFar_110 : decode cX12_putFar 110 = .ok (.bipush 14, 2) := by decide +kernel
theorem dX12_putFar_112 : decode cX12_putFar 112 = .ok (.if_icmp .ge 33, 3) := by decide +kernel
theorem dX12_putFar_115 : decode cX12_putFar 115 = .ok (.aload_n 0, 1) := by decide +kernel
theorem dX12_putFar_116 : decode cX12_putFar 116 = .ok (.sipush 688, 3) := by decide +kernel
theorem dX12_putFar_119 : decode cX12_putFar 119 = .ok (.bipush 32, 2) := by decide +kernel
theorem dX12_putFar_121 : decode cX12_putFar 121 = .ok (.iload 8, 2) := by decide +kernel
theorem dX12_putFar_123 : decode cX12_putFar 123 = .ok (.iconst 4, 1) := by decide +kernel
theorem dX12_putFar_124 : decode cX12_putFar 124 = .ok (.isub, 1) := by decide +kernel
theorem dX12_putFar_125 : decode cX12_putFar 125 = .ok (.imul, 1) := by decide +kernel
theorem dX12_putFar_126 : decode cX12_putFar 126 = .ok (.iadd, 1) := by decide +kernel
theorem dX12_putFar_127 : decode cX12_putFar 127 = .ok (.iload 9, 2) := by decide +kernel
theorem dX12_putFar_129 : decode cX12_putFar 129 = .ok (.lload 5, 2) := by decide +kernel
theorem dX12_putFar_131 : decode cX12_putFar 131 = .ok (.l2i, 1) := by decide +kernel
theorem dX12_putFar_132 : decode cX12_putFar 132 = .ok (.iconst 1, 1) := by decide +kernel
theorem dX12_putFar_133 : decode cX12_putFar 133 = .ok (.iload 9, 2) := by decide +kernel
theorem dX12_putFar_135 : decode cX12_putFar 135 = .ok (.ishl, 1) := by decide +kernel
theorem dX12_putFar_136 : decode cX12_putFar 136 = .ok (.iconst 1, 1) := by decide +kernel
theorem dX12_putFar_137 : decode cX12_putFar 137 = .ok (.isub, 1) := by decide +kernel
theorem dX12_putFar_138 : decode cX12_putFar 138 = .ok (.iand, 1) := by decide +kernel
theorem dX12_putFar_139 : decode cX12_putFar 139 = .ok (.invokevirtual 344, 3) := by decide +kernel
theorem dX12_putFar_142 : decode cX12_putFar 142 = .ok (.goto 47, 3) := by decide +kernel
theorem dX12_putFar_145 : decode cX12_putFar 145 = .ok (.iload 9, 2) := by decide +kernel
theorem dX12_putFar_147 : decode cX12_putFar 147 = .ok (.iconst 1, 1) := by decide +kernel
theorem dX12_putFar_148 : decode cX12_putFar 148 = .ok (.isub, 1) := by decide +kernel
theorem dX12_putFar_149 : decode cX12_putFar 149 = .ok (.istore 10, 2) := by decide +kernel
theorem dX12_putFar_151 : decode cX12_putFar 151 = .ok (.iload 10, 2) := by decide +kernel
theorem dX12_putFar_153 : decode cX12_putFar 153 = .ok (.iconst 4, 1) := by decide +kernel
theorem dX12_putFar_154 : decode cX12_putFar 154 = .ok (.if_icmp .lt 21, 3) := by decide +kernel
theorem dX12_putFar_157 : decode cX12_putFar 157 = .ok (.aload_n 0, 1) := by decide +kernel
theorem dX12_putFar_158 : decode cX12_putFar 158 = .ok (.lload 5, 2) := by decide +kernel
theorem dX12_putFar_160 : decode cX12_putFar 160 = .ok (.iload 10, 2) := by decide +kernel
theorem dX12_putFar_162 : decode cX12_putFar 162 = .ok (.lshr, 1) := by decide +kernel
theorem dX12_putFar_163 : decode cX12_putFar 163 = .ok (.l2i, 1) := by decide +kernel
theorem dX12_putFar_164 : decode cX12_putFar 164 = .ok (.iconst 1, 1) := by decide +kernel
theorem dX12_putFar_165 : decode cX12_putFar 165 = .ok (.iand, 1) := by decide +kernel
theorem dX12_putFar_166 : decode cX12_putFar 166 = .ok (.invokevirtual 347, 3) := by decide +kernel
theorem dX12_putFar_169 : decode cX12_putFar 169 = .ok (.iinc 10 (-1), 3) := by decide +kernel
theorem dX12_putFar_172 : decode cX12_putFar 172 = .ok (.goto (-21), 3) := by decide +kernel
theorem dX12_putFar_175 : decode cX12_putFar 175 = .ok (.aload_n 0, 1) := by decide +kernel
theorem dX12_putFar_176 : decode cX12_putFar 176 = .ok (.sipush 1008, 3) := by decide +kernel
theorem dX12_putFar_179 : decode cX12_putFar 179 = .ok (.iconst 4, 1) := by decide +kernel
theorem dX12_putFar_180 : decode cX12_putFar 180 = .ok (.lload 5, 2) := by decide +kernel
theorem dX12_putFar_182 : decode cX12_putFar 182 = .ok (.l2i, 1) := by decide +kernel
theorem dX12_putFar_183 : decode cX12_putFar 183 = .ok (.bipush 15, 2) := by decide +kernel
theorem dX12_putFar_185 : decode cX12_putFar 185 = .ok (.iand, 1) := by decide +kernel
theorem dX12_putFar_186 : decode cX12_putFar 186 = .ok (.invokevirtual 344, 3) := by decide +kernel
theorem dX12_putFar_189 : decode cX12_putFar 189 = .ok (.return_, 1) := by decide +kernel
theorem dX12_putMatch_0 : decode cX12_putMatch 0 = .ok (.aload_n 0, 1) := by decide +kernel
theorem dX12_putMatch_1 : decode cX12_putMatch 1 = .ok (.iconst 0, 1) := by decide +kernel
theorem dX12_putMatch_2 : decode cX12_putMatch 2 = .ok (.bipush 16, 2) := by decide +kernel
theorem dX12_putMatch_4 : decode cX12_putMatch 4 = .ok (.aload_n 0, 1) := by decide +kernel
theorem dX12_putMatch_5 : decode cX12_putMatch 5 = .ok (.getfield 231, 3) := by decide +kernel
theorem dX12_putMatch_8 : decode cX12_putMatch 8 = .ok (.imul, 1) := by decide +kernel
theorem dX12_putMatch_9 : decode cX12_putMatch 9 = .ok (.iadd, 1) := by decide +kernel
theorem dX12_putMatch_10 : decode cX12_putMatch 10 = .ok (.aload_n 0, 1) := by decide +kernel
theorem dX12_putMatch_11 : decode cX12_putMatch 11 = .ok (.invokevirtual 296, 3) := by decide +kernel
theorem dX12_putMatch_14 : decode cX12_putMatch 14 = .ok (.iadd, 1) := by decide +kernel
theorem dX12_putMatch_15 : decode cX12_putMatch 15 = .ok (.iconst 1, 1) := by decide +kernel
theorem dX12_putMatch_16 : decode cX12_putMatch 16 = .ok (.invokevirtual 292, 3) := by decide +kernel
theorem dX12_putMatch_19 : decode cX12_putMatch 19 = .ok (.aload_n 0, 1) := by decide +kernel
theorem dX12_putMatch_20 : decode cX12_putMatch 20 = .ok (.sipush 192, 3) := by decide +kernel
theorem dX12_putMatch_23 : decode cX12_putMatch 23 = .ok (.aload_n 0, 1) := by decide +kernel
theorem dX12_putMatch_24 : decode cX12_putMatch 24 = .ok (.getfield 231, 3) := by decide +kernel
theorem dX12_putMatch_27 : decode cX12_putMatch 27 = .ok (.iadd, 1) := by decide +kernel
theorem dX12_putMatch_28 : decode cX12_putMatch 28 = .ok (.iconst 0, 1) := by decide +kernel
theorem dX12_putMatch_29 : decode cX12_putMatch 29 = .ok (.invokevirtual 292, 3) := by decide +kernel
theorem dX12_putMatch_32 : decode cX12_putMatch 32 = .ok (.aload_n 0, 1) := by decide +kernel
theorem dX12_putMatch_33 : decode cX12_putMatch 33 = .ok (.sipush 1024, 3) := by decide +kernel
theorem dX12_putMatch_36 : decode cX12_putMatch 36 = .ok (.iload_n 1, 1) := by decide +kernel
theorem dX12_putMatch_37 : decode cX12_putMatch 37 = .ok (.invokevirtual 350, 3) := by decide +kernel
theorem dX12_putMatch_40 : decode cX12_putMatch 40 = .ok (.aload_n 0, 1) := by decide +kernel
theorem dX12_putMatch_41 : decode cX12_putMatch 41 = .ok (.iload_n 1, 1) := by decide +kernel
theorem dX12_putMatch_42 : decode cX12_putMatch 42 = .ok (.lload_n 2, 1) := by decide +kernel
theorem dX12_putMatch_43 : decode cX12_putMatch 43 = .ok (.invokevirtual 353, 3) := by decide +kernel
theorem dX12_putMatch_46 : decode cX12_putMatch 46 = .ok (.aload_n 0, 1) := by decide +kernel
theorem dX12_putMatch_47 : decode cX12_putMatch 47 = .ok (.aload_n 0, 1) := by decide +kernel
theorem dX12_putMatch_48 : decode cX12_putMatch 48 = .ok (.getfield 231, 3) := by decide +kernel
theorem dX12_putMatch_51 : decode cX12_putMatch 51 = .ok (.bipush 7, 2) := by decide +kernel
theorem dX12_putMatch_53 : decode cX12_putMatch 53 = .ok (.if_icmp .ge 8, 3) := by decide +kernel
theorem dX12_putMatch_56 : decode cX12_putMatch 56 = .ok (.bipush 7, 2) := by decide +kernel
theorem dX12_putMatch_58 : decode cX12_putMatch 58 = .ok (.goto 5, 3) := by decide +kernel
theorem dX12_putMatch_61 : decode cX12_putMatch 61 = .ok (.bipush 10, 2) := by decide +kernel
theorem dX12_putMatch_63 : decode cX12_putMatch 63 = .ok (.putfield 231, 3) := by decide +kernel
theorem dX12_putMatch_66 : decode cX12_putMatch 66 = .ok (.return_, 1) := by decide +kernel
theorem dX12_putRep_0 : decode cX12_putRep 0 = .ok (.aload_n 0, 1) := by decide +kernel
theorem dX12_putRep_1 : decode cX12_putRep 1 = .ok (.iconst 0, 1) := by decide +kernel
theorem dX12_putRep_2 : decode cX12_putRep 2 = .ok (.bipush 16, 2) := by decide +kernel
theorem dX12_putRep_4 : decode cX12_putRep 4 = .ok (.aload_n 0, 1) := by decide +kernel
theorem dX12_putRep_5 : decode cX12_putRep 5 = .ok (.getfield 231, 3) := by decide +kernel
theorem dX12_putRep_8 : decode cX12_putRep 8 = .ok (.imul, 1) := by decide +kernel
theorem dX12_putRep_9 : decode cX12_putRep 9 = .ok (.iadd, 1) := by decide +kernel
theorem dX12_putRep_10 : decode cX12_putRep 10 = .ok (.aload_n 0, 1) := by decide +kernel
theorem dX12_putRep_11 : decode cX12_putRep 11 = .ok (.invokevirtual 296, 3) := by decide +kernel
theorem dX12_putRep_14 : decode cX12_putRep 14 = .ok (.iadd, 1) := by decide +kernel
theorem dX12_putRep_15 : decode cX12_putRep 15 = .ok (.iconst 1, 1) := by decide +kernel
theorem dX12_putRep_16 : decode cX12_putRep 16 = .ok (.invokevirtual 292, 3) := by decide +kernel
theorem dX12_putRep_19 : decode cX12_putRep 19 = .ok (.aload_n 0, 1) := by decide +kernel
theorem dX12_putRep_20 : decode cX12_putRep 20 = .ok (.sipush 192, 3) := by decide +kernel
theorem dX12_putRep_23 : decode cX12_putRep 23 = .ok (.aload_n 0, 1) := by decide +kernel
theorem dX12_putRep_24 : decode cX12_putRep 24 = .ok (.getfield 231, 3) := by decide +kernel
theorem dX12_putRep_27 : decode cX12_putRep 27 = .ok (.iadd, 1) := by decide +kernel
theorem dX12_putRep_28 : decode cX12_putRep 28 = .ok (.iconst 1, 1) := by decide +kernel
theorem dX12_putRep_29 : decode cX12_putRep 29 = .ok (.invokevirtual 292, 3) := by decide +kernel
theorem dX12_putRep_32 : decode cX12_putRep 32 = .ok (.iload_n 1, 1) := by decide +kernel
theorem dX12_putRep_33 : decode cX12_putRep 33 = .ok (.ifCond .ne 48, 3) := by decide +kernel
theorem dX12_putRep_36 : decode cX12_putRep 36 = .ok (.aload_n 0, 1) := by decide +kernel
theorem dX12_putRep_37 : decode cX12_putRep 37 = .ok (.sipush 204, 3) := by decide +kernel
theorem dX12_putRep_40 : decode cX12_putRep 40 = .ok (.aload_n 0, 1) := by decide +kernel
theorem dX12_putRep_41 : decode cX12_putRep 41 = .ok (.getfield 231, 3) := by decide +kernel
theorem dX12_putRep_44 : decode cX12_putRep 44 = .ok (.iadd, 1) := by decide +kernel
theorem dX12_putRep_45 : decode cX12_putRep 45 = .ok (.iconst 0, 1) := by decide +kernel
theorem dX12_putRep_46 : decode cX12_putRep 46 = .ok (.invokevirtual 292, 3) := by decide +kernel
theorem dX12_putRep_49 : decode cX12_putRep 49 = .ok (.aload_n 0, 1) := by decide +kernel
theorem dX12_putRep_50 : decode cX12_putRep 50 = .ok (.sipush 240, 3) := by decide +kernel
theorem dX12_putRep_53 : decode cX12_putRep 53 = .ok (.bipush 16, 2) := by decide +kernel
theorem dX12_putRep_55 : decode cX12_putRep 55 = .ok (.aload_n 0, 1) := by decide +kernel
theorem dX12_putRep_56 : decode cX12_putRep 56 = .ok (.getfield 231, 3) := by decide +kernel
theorem dX12_putRep_59 : decode cX12_putRep 59 = .ok (.imul, 1) := by decide +kernel
theorem dX12_putRep_60 : decode cX12_putRep 60 = .ok (.iadd, 1) := by decide +kernel
theorem dX12_putRep_61 : decode cX12_putRep 61 = .ok (.aload_n 0, 1) := by decide +kernel
theorem dX12_putRep_62 : decode cX12_putRep 62 = .ok (.invokevirtual 296, 3) := by decide +kernel
theorem dX12_putRep_65 : decode cX12_putRep 65 = .ok (.iadd, 1) := by decide +kernel
theorem dX12_putRep_66 : decode cX12_putRep 66 = .ok (.iload_n 2, 1) := by decide +kernel
theorem dX12_putRep_67 : decode cX12_putRep 67 = .ok (.ifCond .ne 7, 3) := by decide +kernel
theorem dX12_putRep_70 : decode cX12_putRep 70 = .ok (.iconst 0, 1) := by decide +kernel
theorem dX12_putRep_71 : decode cX12_putRep 71 = .ok (.goto 4, 3) := by decide +kernel
theorem dX12_putRep_74 : decode cX12_putRep 74 = .ok (.iconst 1, 1) := by decide +kernel
theorem dX12_putRep_75 : decode cX12_putRep 75 = .ok (.invokevirtual 292, 3) := by decide +kernel
theorem dX12_putRep_78 : decode cX12_putRep 78 = .ok (.goto 65, 3) := by decide +kernel
theorem dX12_putRep_81 : decode cX12_putRep 81 = .ok (.aload_n 0, 1) := by decide +kernel
theorem dX12_putRep_82 : decode cX12_putRep 82 = .ok (.sipush 204, 3) := by decide +kernel
theorem dX12_putRep_85 : decode cX12_putRep 85 = .ok (.aload_n 0, 1) := by decide +kernel
theorem dX12_putRep_86 : decode cX12_putRep 86 = .ok (.getfield 231, 3) := by decide +kernel
theorem dX12_putRep_89 : decode cX12_putRep 89 = .ok (.iadd, 1) := by decide +kernel
theorem dX12_putRep_90 : decode cX12_putRep 90 = .ok (.iconst 1, 1) := by decide +kernel
theorem dX12_putRep_91 : decode cX12_putRep 91 = .ok (.invokevirtual 292, 3) := by decide +kernel
theorem dX12_putRep_94 : decode cX12_putRep 94 = .ok (.aload_n 0, 1) := by decide +kernel
theorem dX12_putRep_95 : decode cX12_putRep 95 = .ok (.sipush 216, 3) := by decide +kernel
theorem dX12_putRep_98 : decode cX12_putRep 98 = .ok (.aload_n 0, 1) := by decide +kernel
theorem dX12_putRep_99 : decode cX12_putRep 99 = .ok (.getfield 231, 3) := by decide +kernel
theorem dX12_putRep_102 : decode cX12_putRep 102 = .ok (.iadd, 1) := by decide +kernel
theorem dX12_putRep_103 : decode cX12_putRep 103 = .ok (.iload_n 1, 1) := by decide +kernel
theorem dX12_putRep_104 : decode cX12_putRep 104 = .ok (.iconst 1, 1) := by decide +kernel
theorem dX12_putRep_105 : decode cX12_putRep 105 = .ok (.if_icmp .ne 7, 3) := by decide +kernel
theorem dX12_putRep_108 : decode cX12_putRep 108 = .ok (.iconst 0, 1) := by decide +kernel
theorem dX12_putRep_109 : decode cX12_putRep 109 = .ok (.goto 4, 3) := by decide +kernel
theorem dX12_putRep_112 : decode cX12_putRep 112 = .ok (.iconst 1, 1) := by decide +kernel
theorem dX12_putRep_113 : decode cX12_putRep 113 = .ok (.invokevirtual 292, 3) := by decide +kernel
theorem dX12_putRep_116 : decode cX12_putRep 116 = .ok (.iload_n 1, 1) := by decide +kernel
theorem dX12_putRep_117 : decode cX12_putRep 117 = .ok (.iconst 1, 1) := by decide +kernel
theorem dX12_putRep_118 : decode cX12_putRep 118 = .ok (.if_icmp .le 25, 3) := by decide +kernel
theorem dX12_putRep_121 : decode cX12_putRep 121 = .ok (.aload_n 0, 1) := by decide +kernel
theorem dX12_putRep_122 : decode cX12_putRep 122 = .ok (.sipush 228, 3) := by decide +kernel
theorem dX12_putRep_125 : decode cX12_putRep 125 = .ok (.aload_n 0, 1) := by decide +kernel
theorem dX12_putRep_126 : decode cX12_putRep 126 = .ok (.getfield 231, 3) := by decide +kernel
theorem dX12_putRep_129 : decode cX12_putRep 129 = .ok (.iadd, 1) := by decide +kernel
theorem dX12_putRep_130 : decode cX12_putRep 130 = .ok (.iload_n 1, 1) := by decide +kernel
theorem dX12_putRep_131 : decode cX12_putRep 131 = .ok (.iconst 2, 1) := by decide +kernel
theorem dX12_putRep_132 : decode cX12_putRep 132 = .ok (.if_icmp .ne 7, 3) := by decide +kernel
theorem dX12_putRep_135 : decode cX12_putRep 135 = .ok (.iconst 0, 1) := by decide +kernel
theorem dX12_putRep_136 : decode cX12_putRep 136 = .ok (.goto 4, 3) := by decide +kernel
theorem dX12_putRep_139 : decode cX12_putRep 139 = .ok (.iconst 1, 1) := by decide +kernel
theorem dX12_putRep_140 : decode cX12_putRep 140 = .ok (.invokevirtual 292, 3) := by decide +kernel
theorem dX12_putRep_143 : decode cX12_putRep 143 = .ok (.iload_n 2, 1) := by decide +kernel
theorem dX12_putRep_144 : decode cX12_putRep 144 = .ok (.ifCond .ne 24, 3) := by decide +kernel
theorem dX12_putRep_147 : decode cX12_putRep 147 = .ok (.aload_n 0, 1) := by decide +kernel
theorem dX12_putRep_148 : decode cX12_putRep 148 = .ok (.aload_n 0, 1) := by decide +kernel
theorem dX12_putRep_149 : decode cX12_putRep 149 = .ok (.getfield 231, 3) := by decide +kernel
theorem dX12_putRep_152 : decode cX12_putRep 152 = .ok (.bipush 7, 2) := by decide +kernel
theorem dX12_putRep_154 : decode cX12_putRep 154 = .ok (.if_icmp .ge 8, 3) := by decide +kernel
theorem dX12_putRep_157 : decode cX12_putRep 157 = .ok (.bipush 9, 2) := by decide +kernel
theorem dX12_putRep_159 : decode cX12_putRep 159 = .ok (.goto 5, 3) := by decide +kernel
theorem dX12_putRep_162 : decode cX12_putRep 162 = .ok (.bipush 11, 2) := by decide +kernel
theorem dX12_putRep_164 : decode cX12_putRep 164 = .ok (.putfield 231, 3) := by decide +kernel
theorem dX12_putRep_167 : decode cX12_putRep 167 = .ok (.return_, 1) := by decide +kernel
theorem dX12_putRep_168 : decode cX12_putRep 168 = .ok (.aload_n 0, 1) := by decide +kernel
theorem dX12_putRep_169 : decode cX12_putRep 169 = .ok (.iload_n 1, 1) := by decide +kernel
theorem dX12_putRep_170 : decode cX12_putRep 170 = .ok (.invokevirtual 357, 3) := by decide +kernel
theorem dX12_putRep_173 : decode cX12_putRep 173 = .ok (.aload_n 0, 1) := by decide +kernel
theorem dX12_putRep_174 : decode cX12_putRep 174 = .ok (.sipush 1540, 3) := by decide +kernel
theorem dX12_putRep_177 : decode cX12_putRep 177 = .ok (.iload_n 2, 1) := by decide +kernel
theorem dX12_putRep_178 : decode cX12_putRep 178 = .ok (.invokevirtual 350, 3) := by decide +kernel
theorem dX12_putRep_181 : decode cX12_putRep 181 = .ok (.aload_n 0, 1) := by decide +kernel
theorem dX12_putRep_182 : decode cX12_putRep 182 = .ok (.aload_n 0, 1) := by decide +kernel
theorem dX12_putRep_183 : decode cX12_putRep 183 = .ok (.getfield 231, 3) := by decide +kernel
theorem dX12_putRep_186 : decode cX12_putRep 186 = .ok (.bipush 7, 2) := by decide +kernel
theorem dX12_putRep_188 : decode cX12_putRep 188 = .ok (.if_icmp .ge 8, 3) := by decide +kernel
theorem dX12_putRep_191 : decode cX12_putRep 191 = .ok (.bipush 8, 2) := by decide +kernel
theorem dX12_putRep_193 : decode cX12_putRep 193 = .ok (.goto 5, 3) := by decide +kernel
theorem dX12_putRep_196 : decode cX12_putRep 196 = .ok (.bipush 11, 2) := by decide +kernel
theorem dX12_putRep_198 : decode cX12_putRep 198 = .ok (.putfield 231, 3) := by decide +kernel
theorem dX12_putRep_201 : decode cX12_putRep 201 = .ok (.return_, 1) := by decide +kernel
theorem dX12_putPart_0 : decode cX12_putPart 0 = .ok (.aload_n 0, 1) := by decide +kernel
theorem dX12_putPart_1 : decode cX12_putPart 1 = .ok (.iload_n 2, 1) := by decide +kernel
theorem dX12_putPart_2 : decode cX12_putPart 2 = .ok (.putfield 303, 3) := by decide +kernel
theorem dX12_putPart_5 : decode cX12_putPart 5 = .ok (.aload_n 0, 1) := by decide +kernel
theorem dX12_putPart_6 : decode cX12_putPart 6 = .ok (.getfield 360, 3) := by decide +kernel
theorem dX12_putPart_9 : decode cX12_putPart 9 = .ok (.iconst 2, 1) := by decide +kernel
theorem dX12_putPart_10 : decode cX12_putPart 10 = .ok (.if_icmp .ne 8, 3) := by decide +kernel
theorem dX12_putPart_13 : decode cX12_putPart 13 = .ok (.aload_n 0, 1) := by decide +kernel
theorem dX12_putPart_14 : decode cX12_putPart 14 = .ok (.iload_n 1, 1) := by decide +kernel
theorem dX12_putPart_15 : decode cX12_putPart 15 = .ok (.invokevirtual 363, 3) := by decide +kernel
theorem dX12_putPart_18 : decode cX12_putPart 18 = .ok (.iload_n 1, 1) := by decide +kernel
theorem dX12_putPart_19 : decode cX12_putPart 19 = .ok (.istore_n 3, 1) := by decide +kernel
theorem dX12_putPart_20 : decode cX12_putPart 20 = .ok (.iload_n 3, 1) := by decide +kernel
theorem dX12_putPart_21 : decode cX12_putPart 21 = .ok (.iload_n 2, 1) := by decide +kernel
theorem dX12_putPart_22 : decode cX12_putPart 22 = .ok (.if_icmp .ge 161, 3) := by decide +kernel
theorem dX12_putPart_25 : decode cX12_putPart 25 = .ok (.aload_n 0, 1) := by decide +kernel
theorem dX12_putPart_26 : decode cX12_putPart 26 = .ok (.getfield 360, 3) := by decide +kernel
theorem dX12_putPart_29 : decode cX12_putPart 29 = .ok (.ifCond .ne 11, 3) := by decide +kernel
theorem dX12_putPart_32 : decode cX12_putPart 32 = .ok (.aload_n 0, 1) := by decide +kernel
theorem dX12_putPart_33 : decode cX12_putPart 33 = .ok (.iload_n 3, 1) := by decide +kernel
theorem dX12_putPart_34 : decode cX12_putPart 34 = .ok (.invokevirtual 330, 3) := by decide +kernel
theorem dX12_putPart_37 : decode cX12_putPart 37 = .ok (.goto 24, 3) := by decide +kernel
theorem dX12_putPart_40 : decode cX12_putPart 40 = .ok (.aload_n 0, 1) := by decide +kernel
theorem dX12_putPart_41 : decode cX12_putPart 41 = .ok (.getfield 360, 3) := by decide +kernel
theorem dX12_putPart_44 : decode cX12_putPart 44 = .ok (.iconst 1, 1) := by decide +kernel
theorem dX12_putPart_45 : decode cX12_putPart 45 = .ok (.if_icmp .ne 11, 3) := by decide +kernel
theorem dX12_putPart_48 : decode cX12_putPart 48 = .ok (.aload_n 0, 1) := by decide +kernel
theorem dX12_putPart_49 : decode cX12_putPart 49 = .ok (.iload_n 3, 1) := by decide +kernel
theorem dX12_putPart_50 : decode cX12_putPart 50 = .ok (.invokevirtual 366, 3) := by decide +kernel
theorem dX12_putPart_53 : decode cX12_putPart 53 = .ok (.goto 8, 3) := by decide +kernel
theorem dX12_putPart_56 : decode cX12_putPart 56 = .ok (.aload_n 0, 1) := by decide +kernel
theorem dX12_putPart_57 : decode cX12_putPart 57 = .ok (.iload_n 3, 1) := by decide +kernel
theorem dX12_putPart_58 : decode cX12_putPart 58 = .ok (.invokevirtual 369, 3) := by decide +kernel
theorem dX12_putPart_61 : decode cX12_putPart 61 = .ok (.aload_n 0, 1) := by decide +kernel
theorem dX12_putPart_62 : decode cX12_putPart 62 = .ok (.aload_n 0, 1) := by decide +kernel
theorem dX12_putPart_63 : decode cX12_putPart 63 = .ok (.getfield 321, 3) := by decide +kernel
theorem dX12_putPart_66 : decode cX12_putPart 66 = .ok (.aload_n 0, 1) := by decide +kernel
theorem dX12_putPart_67 : decode cX12_putPart 67 = .ok (.getfield 372, 3) := by decide +kernel
theorem dX12_putPart_70 : decode cX12_putPart 70 = .ok (.iload_n 3, 1) := by decide +kernel
theorem dX12_putPart_71 : decode cX12_putPart 71 = .ok (.iadd, 1) := by decide +kernel
theorem dX12_putPart_72 : decode cX12_putPart 72 = .ok (.aload_n 0, 1) := by decide +kernel
theorem dX12_putPart_73 : decode cX12_putPart 73 = .ok (.getfield 324, 3) := by decide +kernel
theorem dX12_putPart_76 : decode cX12_putPart 76 = .ok (.aload_n 0, 1) := by decide +kernel
theorem dX12_putPart_77 : decode cX12_putPart 77 = .ok (.getfield 327, 3) := by decide +kernel
theorem dX12_putPart_80 : decode cX12_putPart 80 = .ok (.invokevirtual 375, 3) := by decide +kernel
theorem dX12_putPart_83 : decode cX12_putPart 83 = .ok (.aload_n 0, 1) := by decide +kernel
theorem dX12_putPart_84 : decode cX12_putPart 84 = .ok (.getfield 324, 3) := by decide +kernel
theorem dX12_putPart_87 : decode cX12_putPart 87 = .ok (.istore 4, 2) := by decide +kernel
theorem dX12_putPart_89 : decode cX12_putPart 89 = .ok (.aload_n 0, 1) := by decide +kernel
theorem dX12_putPart_90 : decode cX12_putPart 90 = .ok (.getfield 321, 3) := by decide +kernel
theorem dX12_putPart_93 : decode cX12_putPart 93 = .ok (.ifCond .ne 11, 3) := by decide +kernel
theorem dX12_putPart_96 : decode cX12_putPart 96 = .ok (.aload_n 0, 1) := by decide +kernel
theorem dX12_putPart_97 : decode cX12_putPart 97 = .ok (.iload_n 3, 1) := by decide +kernel
theorem dX12_putPart_98 : decode cX12_putPart 98 = .ok (.invokevirtual 379, 3) := by decide +kernel
theorem dX12_putPart_101 : decode cX12_putPart 101 = .ok (.goto 63, 3) := by decide +kernel
theorem dX12_putPart_104 : decode cX12_putPart 104 = .ok (.aload_n 0, 1) := by decide +kernel
theorem dX12_putPart_105 : decode cX12_putPart 105 = .ok (.getfield 321, 3) := by decide +kernel
theorem dX12_putPart_108 : decode cX12_putPart 108 = .ok (.bipush 6, 2) := by decide +kernel
theorem dX12_putPart_110 : decode cX12_putPart 110 = .ok (.if_icmp .ne 12, 3) := by decide +kernel
theorem dX12_putPart_113 : decode cX12_putPart 113 = .ok (.aload_n 0, 1) := by decide +kernel
theorem dX12_putPart_114 : decode cX12_putPart 114 = .ok (.iconst 0, 1) := by decide +kernel
theorem dX12_putPart_115 : decode cX12_putPart 115 = .ok (.iconst 0, 1) := by decide +kernel
theorem dX12_putPart_116 : decode cX12_putPart 116 = .ok (.invokevirtual 382, 3) := by decide +kernel
theorem dX12_putPart_119 : decode cX12_putPart 119 = .ok (.goto 45, 3) := by decide +kernel
theorem dX12_putPart_122 : decode cX12_putPart 122 = .ok (.aload_n 0, 1) := by decide +kernel
theorem dX12_putPart_123 : decode cX12_putPart 123 = .ok (.getfield 321, 3) := by decide +kernel
theorem dX12_putPart_126 : decode cX12_putPart 126 = .ok (.iconst 1, 1) := by decide +kernel
theorem dX12_putPart_127 : decode cX12_putPart 127 = .ok (.if_icmp .ne 25, 3) := by decide +kernel
theorem dX12_putPart_130 : decode cX12_putPart 130 = .ok (.aload_n 0, 1) := by decide +kernel
theorem dX12_putPart_131 : decode cX12_putPart 131 = .ok (.iload 4, 2) := by decide +kernel
theorem dX12_putPart_133 : decode cX12_putPart 133 = .ok (.aload_n 0, 1) := by decide +kernel
theorem dX12_putPart_134 : decode cX12_putPart 134 = .ok (.getfield 327, 3) := by decide +kernel
theorem dX12_putPart_137 : decode cX12_putPart 137 = .ok (.i2l, 1) := by decide +kernel
theorem dX12_putPart_138 : decode cX12_putPart 138 = .ok (.invokevirtual 385, 3) := by decide +kernel
theorem dX12_putPart_141 : decode cX12_putPart 141 = .ok (.aload_n 0, 1) := by decide +kernel
theorem dX12_putPart_142 : decode cX12_putPart 142 = .ok (.aload_n 0, 1) := by decide +kernel
theorem dX12_putPart_143 : decode cX12_putPart 143 = .ok (.getfield 327, 3) := by decide +kernel
theorem dX12_putPart_146 : decode cX12_putPart 146 = .ok (.invokevirtual 388, 3) := by decide +kernel
theorem dX12_putPart_149 : decode cX12_putPart 149 = .ok (.goto 15, 3) := by decide +kernel
theorem dX12_putPart_152 : decode cX12_putPart 152 = .ok (.aload_n 0, 1) := by decide +kernel
theorem dX12_putPart_153 : decode cX12_putPart 153 = .ok (.aload_n 0, 1) := by decide +kernel
theorem dX12_putPart_154 : decode cX12_putPart 154 = .ok (.getfield 321, 3) := by decide +kernel
theorem dX12_putPart_157 : decode cX12_putPart 157 = .ok (.iconst 2, 1) := by decide +kernel
theorem dX12_putPart_158 : decode cX12_putPart 158 = .ok (.isub, 1) := by decide +kernel
theorem dX12_putPart_159 : decode cX12_putPart 159 = .ok (.iload 4, 2) := by decide +kernel
theorem dX12_putPart_161 : decode cX12_putPart 161 = .ok (.invokevirtual 382, 3) := by decide +kernel
theorem dX12_putPart_164 : decode cX12_putPart 164 = .ok (.aload_n 0, 1) := by decide +kernel
theorem dX12_putPart_165 : decode cX12_putPart 165 = .ok (.dup, 1) := by decide +kernel
theorem dX12_putPart_166 : decode cX12_putPart 166 = .ok (.getfield 249, 3) := by decide +kernel
theorem dX12_putPart_169 : decode cX12_putPart 169 = .ok (.iload 4, 2) := by decide +kernel
theorem dX12_putPart_171 : decode cX12_putPart 171 = .ok (.iadd, 1) := by decide +kernel
theorem dX12_putPart_172 : decode cX12_putPart 172 = .ok (.putfield 249, 3) := by decide +kernel
theorem dX12_putPart_175 : decode cX12_putPart 175 = .ok (.iload_n 3, 1) := by decide +kernel
theorem dX12_putPart_176 : decode cX12_putPart 176 = .ok (.iload 4, 2) := by decide +kernel
theorem dX12_putPart_178 : decode cX12_putPart 178 = .ok (.iadd, 1) := by decide +kernel
theorem dX12_putPart_179 : decode cX12_putPart 179 = .ok (.istore_n 3, 1) := by decide +kernel
theorem dX12_putPart_180 : decode cX12_putPart 180 = .ok (.goto (-160), 3) := by decide +kernel
theorem dX12_putPart_183 : decode cX12_putPart 183 = .ok (.return_, 1) := by decide +kernel
theorem dX12_put_0 : decode cX12_put 0 = .ok (.aload_n 0, 1) := by decide +kernel
theorem dX12_put_1 : decode cX12_put 1 = .ok (.getfield 391, 3) := by decide +kernel
theorem dX12_put_4 : decode cX12_put 4 = .ok (.sipush 20000, 3) := by decide +kernel
theorem dX12_put_7 : decode cX12_put 7 = .ok (.if_icmp .ge 17, 3) := by decide +kernel
theorem dX12_put_10 : decode cX12_put 10 = .ok (.aload_n 0, 1) := by decide +kernel
theorem dX12_put_11 : decode cX12_put 11 = .ok (.getfield 98, 3) := by decide +kernel
theorem dX12_put_14 : decode cX12_put 14 = .ok (.aload_n 0, 1) := by decide +kernel
theorem dX12_put_15 : decode cX12_put 15 = .ok (.getfield 391, 3) := by decide +kernel
theorem dX12_put_18 : decode cX12_put 18 = .ok (.iload_n 1, 1) := by decide +kernel
theorem dX12_put_19 : decode cX12_put 19 = .ok (.sipush 255, 3) := by decide +kernel
theorem dX12_put_22 : decode cX12_put 22 = .ok (.iand, 1) := by decide +kernel
theorem dX12_put_23 : decode cX12_put 23 = .ok (.iastore, 1) := by decide +kernel
theorem dX12_put_24 : decode cX12_put 24 = .ok (.aload_n 0, 1) := by decide +kernel
theorem dX12_put_25 : decode cX12_put 25 = .ok (.dup, 1) := by decide +kernel
theorem dX12_put_26 : decode cX12_put 26 = .ok (.getfield 391, 3) := by decide +kernel
theorem dX12_put_29 : decode cX12_put 29 = .ok (.iconst 1, 1) := by decide +kernel
theorem dX12_put_30 : decode cX12_put 30 = .ok (.iadd, 1) := by decide +kernel
theorem dX12_put_31 : decode cX12_put 31 = .ok (.putfield 391, 3) := by decide +kernel
theorem dX12_put_34 : decode cX12_put 34 = .ok (.return_, 1) := by decide +kernel
theorem dX12_putWide_0 : decode cX12_putWide 0 = .ok (.iconst 0, 1) := by decide +kernel
theorem dX12_putWide_1 : decode cX12_putWide 1 = .ok (.istore 4, 2) := by decide +kernel
theorem dX12_putWide_3 : decode cX12_putWide 3 = .ok (.iload 4, 2) := by decide +kernel
theorem dX12_putWide_5 : decode cX12_putWide 5 = .ok (.iload_n 3, 1) := by decide +kernel
theorem dX12_putWide_6 : decode cX12_putWide 6 = .ok (.if_icmp .ge 21, 3) := by decide +kernel
theorem dX12_putWide_9 : decode cX12_putWide 9 = .ok (.aload_n 0, 1) := by decide +kernel
theorem dX12_putWide_10 : decode cX12_putWide 10 = .ok (.lload_n 1, 1) := by decide +kernel
theorem dX12_putWide_11 : decode cX12_putWide 11 = .ok (.bipush 8, 2) := by decide +kernel
theorem dX12_putWide_13 : decode cX12_putWide 13 = .ok (.iload 4, 2) := by decide +kernel
theorem dX12_putWide_15 : decode cX12_putWide 15 = .ok (.imul, 1) := by decide +kernel
theorem dX12_putWide_16 : decode cX12_putWide 16 = .ok (.lshr, 1) := by decide +kernel
theorem dX12_putWide_17 : decode cX12_putWide 17 = .ok (.l2i, 1) := by decide +kernel
theorem dX12_putWide_18 : decode cX12_putWide 18 = .ok (.invokevirtual 394, 3) := by decide +kernel
theorem dX12_putWide_21 : decode cX12_putWide 21 = .ok (.iinc 4 1, 3) := by decide +kernel
theorem dX12_putWide_24 : decode cX12_putWide 24 = .ok (.goto (-21), 3) := by decide +kernel
theorem dX12_putWide_27 : decode cX12_putWide 27 = .ok (.return_, 1) := by decide +kernel
theorem dX12_takeProperties_0 : decode cX12_takeProperties 0 = .ok (.aload_n 0, 1) := by decide +kernel
theorem dX12_takeProperties_1 : decode cX12_takeProperties 1 = .ok (.aload_n 0, 1) := by decide +kernel
theorem dX12_takeProperties_2 : decode cX12_takeProperties 2 = .ok (.getfield 7, 3) := by decide +kernel
theorem dX12_takeProperties_5 : decode cX12_takeProperties 5 = .ok (.putfield 258, 3) := by decide +kernel
theorem dX12_takeProperties_8 : decode cX12_takeProperties 8 = .ok (.aload_n 0, 1) := by decide +kernel
theorem dX12_takeProperties_9 : decode cX12_takeProperties 9 = .ok (.aload_n 0, 1) := by decide +kernel
theorem dX12_takeProperties_10 : decode cX12_takeProperties 10 = .ok (.getfield 114, 3) := by decide +kernel
theorem dX12_takeProperties_13 : decode cX12_takeProperties 13 = .ok (.putfield 255, 3) := by decide +kernel
theorem dX12_takeProperties_16 : decode cX12_takeProperties 16 = .ok (.aload_n 0, 1) := by decide +kernel
theorem dX12_takeProperties_17 : decode cX12_takeProperties 17 = .ok (.aload_n 0, 1) := by decide +kernel
theorem dX12_takeProperties_18 : decode cX12_takeProperties 18 = .ok (.getfield 13, 3) := by decide +kernel
theorem dX12_takeProperties_21 : decode cX12_takeProperties 21 = .ok (.putfield 252, 3) := by decide +kernel
theorem dX12_takeProperties_24 : decode cX12_takeProperties 24 = .ok (.return_, 1) := by decide +kernel
theorem dX12_propertyByte_0 : decode cX12_propertyByte 0 = .ok (.aload_n 0, 1) := by decide +kernel
theorem dX12_propertyByte_1 : decode cX12_propertyByte 1 = .ok (.getfield 13, 3) := by decide +kernel
theorem dX12_propertyByte_4 : decode cX12_propertyByte 4 = .ok (.iconst 5, 1) := by decide +kernel
theorem dX12_propertyByte_5 : decode cX12_propertyByte 5 = .ok (.imul, 1) := by decide +kernel
theorem dX12_propertyByte_6 : decode cX12_propertyByte 6 = .ok (.aload_n 0, 1) := by decide +kernel
theorem dX12_propertyByte_7 : decode cX12_propertyByte 7 = .ok (.getfield 114, 3) := by decide +kernel
theorem dX12_propertyByte_10 : decode cX12_propertyByte 10 = .ok (.iadd, 1) := by decide +kernel
theorem dX12_propertyByte_11 : decode cX12_propertyByte 11 = .ok (.bipush 9, 2) := by decide +kernel
theorem dX12_propertyByte_13 : decode cX12_propertyByte 13 = .ok (.imul, 1) := by decide +kernel
theorem dX12_propertyByte_14 : decode cX12_propertyByte 14 = .ok (.aload_n 0, 1) := by decide +kernel
theorem dX12_propertyByte_15 : decode cX12_propertyByte 15 = .ok (.getfield 7, 3) := by decide +kernel
theorem dX12_propertyByte_18 : decode cX12_propertyByte 18 = .ok (.iadd, 1) := by decide +kernel
theorem dX12_propertyByte_19 : decode cX12_propertyByte 19 = .ok (.ireturn, 1) := by decide +kernel
theorem dX12_packPlain_0 : decode cX12_packPlain 0 = .ok (.aload_n 0, 1) := by decide +kernel
theorem dX12_packPlain_1 : decode cX12_packPlain 1 = .ok (.aload_n 0, 1) := by decide +kernel
theorem dX12_packPlain_2 : decode cX12_packPlain 2 = .ok (.invokevirtual 397, 3) := by decide +kernel
theorem dX12_packPlain_5 : decode cX12_packPlain 5 = .ok (.invokevirtual 394, 3) := by decide +kernel
theorem dX12_packPlain_8 : decode cX12_packPlain 8 = .ok (.aload_n 0, 1) := by decide +kernel
theorem dX12_packPlain_9 : decode cX12_packPlain 9 = .ok (.aload_n 0, 1) := by decide +kernel
theorem dX12_packPlain_10 : decode cX12_packPlain 10 = .ok (.getfield 16, 3) := by decide +kernel
theorem dX12_packPlain_13 : decode cX12_packPlain 13 = .ok (.i2l, 1) := by decide +kernel
theorem dX12_packPlain_14 : decode cX12_packPlain 14 = .ok (.iconst 4, 1) := by decide +kernel
theorem dX12_packPlain_15 : decode cX12_packPlain 15 = .ok (.invokevirtual 400, 3) := by decide +kernel
theorem dX12_packPlain_18 : decode cX12_packPlain 18 = .ok (.aload_n 0, 1) := by decide +kernel
theorem dX12_packPlain_19 : decode cX12_packPlain 19 = .ok (.aload_n 0, 1) := by decide +kernel
theorem dX12_packPlain_20 : decode cX12_packPlain 20 = .ok (.getfield 117, 3) := by decide +kernel
theorem dX12_packPlain_23 : decode cX12_packPlain 23 = .ok (.iconst 1, 1) := by decide +kernel
theorem dX12_packPlain_24 : decode cX12_packPlain 24 = .ok (.if_icmp .ne 9, 3) := by decide +kernel
theorem dX12_packPlain_27 : decode cX12_packPlain 27 = .ok (.ldc2_w 177, 3) := by decide +kernel
theorem dX12_packPlain_30 : decode cX12_packPlain 30 = .ok (.goto 8, 3) := by decide +kernel
theorem dX12_packPlain_33 : decode cX12_packPlain 33 = .ok (.aload_n 0, 1) := by decide +kernel
theorem dX12_packPlain_34 : decode cX12_packPlain 34 = .ok (.getfield 126, 3) := by decide +kernel
theorem dX12_packPlain_37 : decode cX12_packPlain 37 = .ok (.i2l, 1) := by decide +kernel
theorem dX12_packPlain_38 : decode cX12_packPlain 38 = .ok (.bipush 8, 2) := by decide +kernel
theorem dX12_packPlain_40 : decode cX12_packPlain 40 = .ok (.invokevirtual 400, 3) := by decide +kernel
theorem dX12_packPlain_43 : decode cX12_packPlain 43 = .ok (.aload_n 0, 1) := by decide +kernel
theorem dX12_packPlain_44 : decode cX12_packPlain 44 = .ok (.aload_n 0, 1) := by decide +kernel
theorem dX12_packPlain_45 : decode cX12_packPlain 45 = .ok (.getfield 126, 3) := by decide +kernel
theorem dX12_packPlain_48 : decode cX12_packPlain 48 = .ok (.putfield 208, 3) := by decide +kernel
theorem dX12_packPlain_51 : decode cX12_packPlain 51 = .ok (.iconst 0, 1) := by decide +kernel
theorem dX12_packPlain_52 : decode cX12_packPlain 52 = .ok (.istore_n 1, 1) := by decide +kernel
theorem dX12_packPlain_53 : decode cX12_packPlain 53 = .ok (.iload_n 1, 1) := by decide +kernel
theorem dX12_packPlain_54 : decode cX12_packPlain 54 = .ok (.aload_n 0, 1) := by decide +kernel
theorem dX12_packPlain_55 : decode cX12_packPlain 55 = .ok (.getfield 126, 3) := by decide +kernel
theorem dX12_packPlain_58 : decode cX12_packPlain 58 = .ok (.if_icmp .ge 21, 3) := by decide +kernel
theorem dX12_packPlain_61 : decode cX12_packPlain 61 = .ok (.aload_n 0, 1) := by decide +kernel
theorem dX12_packPlain_62 : decode cX12_packPlain 62 = .ok (.getfield 47, 3) := by decide +kernel
theorem dX12_packPlain_65 : decode cX12_packPlain 65 = .ok (.iload_n 1, 1) := by decide +kernel
theorem dX12_packPlain_66 : decode cX12_packPlain 66 = .ok (.aload_n 0, 1) := by decide +kernel
theorem dX12_packPlain_67 : decode cX12_packPlain 67 = .ok (.getfield 28, 3) := by decide +kernel
theorem dX12_packPlain_70 : decode cX12_packPlain 70 = .ok (.iload_n 1, 1) := by decide +kernel
theorem dX12_packPlain_71 : decode cX12_packPlain 71 = .ok (.iaload, 1) := by decide +kernel
theorem dX12_packPlain_72 : decode cX12_packPlain 72 = .ok (.iastore, 1) := by decide +kernel
theorem dX12_packPlain_73 : decode cX12_packPlain 73 = .ok (.iinc 1 1, 3) := by decide +kernel
theorem dX12_packPlain_76 : decode cX12_packPlain 76 = .ok (.goto (-23), 3) := by decide +kernel
theorem dX12_packPlain_79 : decode cX12_packPlain 79 = .ok (.aload_n 0, 1) := by decide +kernel
theorem dX12_packPlain_80 : decode cX12_packPlain 80 = .ok (.iconst 0, 1) := by decide +kernel
theorem dX12_packPlain_81 : decode cX12_packPlain 81 = .ok (.putfield 372, 3) := by decide +kernel
theorem dX12_packPlain_84 : decode cX12_packPlain 84 = .ok (.aload_n 0, 1) := by decide +kernel
theorem dX12_packPlain_85 : decode cX12_packPlain 85 = .ok (.invokevirtual 404, 3) := by decide +kernel
theorem dX12_packPlain_88 : decode cX12_packPlain 88 = .ok (.aload_n 0, 1) := by decide +kernel
theorem dX12_packPlain_89 : decode cX12_packPlain 89 = .ok (.invokevirtual 407, 3) := by decide +kernel
theorem dX12_packPlain_92 : decode cX12_packPlain 92 = .ok (.aload_n 0, 1) := by decide +kernel
theorem dX12_packPlain_93 : decode cX12_packPlain 93 = .ok (.iconst 0, 1) := by decide +kernel
theorem dX12_packPlain_94 : decode cX12_packPlain 94 = .ok (.putfield 249, 3) := by decide +kernel
theorem dX12_packPlain_97 : decode cX12_packPlain 97 = .ok (.aload_n 0, 1) := by decide +kernel
theorem dX12_packPlain_98 : decode cX12_packPlain 98 = .ok (.invokevirtual 410, 3) := by decide +kernel
theorem dX12_packPlain_101 : decode cX12_packPlain 101 = .ok (.aload_n 0, 1) := by decide +kernel
theorem dX12_packPlain_102 : decode cX12_packPlain 102 = .ok (.iconst 0, 1) := by decide +kernel
theorem dX12_packPlain_103 : decode cX12_packPlain 103 = .ok (.aload_n 0, 1) := by decide +kernel
theorem dX12_packPlain_104 : decode cX12_packPlain 104 = .ok (.getfield 208, 3) := by decide +kernel
theorem dX12_packPlain_107 : decode cX12_packPlain 107 = .ok (.invokevirtual 413, 3) := by decide +kernel
theorem dX12_packPlain_110 : decode cX12_packPlain 110 = .ok (.aload_n 0, 1) := by decide +kernel
theorem dX12_packPlain_111 : decode cX12_packPlain 111 = .ok (.getfield 117, 3) := by decide +kernel
theorem dX12_packPlain_114 : decode cX12_packPlain 114 = .ok (.iconst 1, 1) := by decide +kernel
theorem dX12_packPlain_115 : decode cX12_packPlain 115 = .ok (.if_icmp .ne 33, 3) := by decide +kernel
theorem dX12_packPlain_118 : decode cX12_packPlain 118 = .ok (.aload_n 0, 1) := by decide +kernel
theorem dX12_packPlain_119 : decode cX12_packPlain 119 = .ok (.bipush 7, 2) := by decide +kernel
theorem dX12_packPlain_121 : decode cX12_packPlain 121 = .ok (.aload_n 0, 1) := by decide +kernel
theorem dX12_packPlain_122 : decode cX12_packPlain 122 = .ok (.getfield 126, 3) := by decide +kernel
theorem dX12_packPlain_125 : decode cX12_packPlain 125 = .ok (.iconst 0, 1) := by decide +kernel
theorem dX12_packPlain_126 : decode cX12_packPlain 126 = .ok (.iconst 0, 1) := by decide +kernel
theorem dX12_packPlain_127 : decode cX12_packPlain 127 = .ok (.invokevirtual 375, 3) := by decide +kernel
theorem dX12_packPlain_130 : decode cX12_packPlain 130 = .ok (.aload_n 0, 1) := by decide +kernel
theorem dX12_packPlain_131 : decode cX12_packPlain 131 = .ok (.getfield 231, 3) := by decide +kernel
theorem dX12_packPlain_134 : decode cX12_packPlain 134 = .ok (.istore_n 1, 1) := by decide +kernel
theorem dX12_packPlain_135 : decode cX12_packPlain 135 = .ok (.aload_n 0, 1) := by decide +kernel
theorem dX12_packPlain_136 : decode cX12_packPlain 136 = .ok (.iconst 2, 1) := by decide +kernel
theorem dX12_packPlain_137 : decode cX12_packPlain 137 = .ok (.ldc2_w 280, 3) := by decide +kernel
theorem dX12_packPlain_140 : decode cX12_packPlain 140 = .ok (.invokevirtual 385, 3) := by decide +kernel
theorem dX12_packPlain_143 : decode cX12_packPlain 143 = .ok (.aload_n 0, 1) := by decide +kernel
theorem dX12_packPlain_144 : decode cX12_packPlain 144 = .ok (.iload_n 1, 1) := by decide +kernel
theorem dX12_packPlain_145 : decode cX12_packPlain 145 = .ok (.putfield 231, 3) := by decide +kernel
theorem dX12_packPlain_148 : decode cX12_packPlain 148 = .ok (.aload_n 0, 1) := by decide +kernel
theorem dX12_packPlain_149 : decode cX12_packPlain 149 = .ok (.invokevirtual 416, 3) := by decide +kernel
theorem dX12_packPlain_152 : decode cX12_packPlain 152 = .ok (.iconst 0, 1) := by decide +kernel
theorem dX12_packPlain_153 : decode cX12_packPlain 153 = .ok (.istore_n 1, 1) := by decide +kernel
theorem dX12_packPlain_154 : decode cX12_packPlain 154 = .ok (.iload_n 1, 1) := by decide +kernel
theorem dX12_packPlain_155 : decode cX12_packPlain 155 = .ok (.aload_n 0, 1) := by decide +kernel
theorem dX12_packPlain_156 : decode cX12_packPlain 156 = .ok (.getfield 261, 3) := by decide +kernel
theorem dX12_packPlain_159 : decode cX12_packPlain 159 = .ok (.if_icmp .ge 19, 3) := by decide +kernel
theorem dX12_packPlain_162 : decode cX12_packPlain 162 = .ok (.aload_n 0, 1) := by decide +kernel
theorem dX12_packPlain_163 : decode cX12_packPlain 163 = .ok (.aload_n 0, 1) := by decide +kernel
theorem dX12_packPlain_164 : decode cX12_packPlain 164 = .ok (.getfield 86, 3) := by decide +kernel
theorem dX12_packPlain_167 : decode cX12_packPlain 167 = .ok (.iload_n 1, 1) := by decide +kernel
theorem dX12_packPlain_168 : decode cX12_packPlain 168 = .ok (.iaload, 1) := by decide +kernel
theorem dX12_packPlain_169 : decode cX12_packPlain 169 = .ok (.invokevirtual 394, 3) := by decide +kernel
theorem dX12_packPlain_172 : decode cX12_packPlain 172 = .ok (.iinc 1 1, 3) := by decide +kernel
theorem dX12_packPlain_175 : decode cX12_packPlain 175 = .ok (.goto (-21), 3) := by decide +kernel
theorem dX12_packPlain_178 : decode cX12_packPlain 178 = .ok (.return_, 1) := by decide +kernel
theorem dX12_keepState_0 : decode cX12_keepState 0 = .ok (.iconst 0, 1) := by decide +kernel
theorem dX12_keepState_1 : decode cX12_keepState 1 = .ok (.istore_n 1, 1) := by decide +kernel
theorem dX12_keepState_2 : decode cX12_keepState 2 = .ok (.iload_n 1, 1) := by decide +kernel
theorem dX12_keepState_3 : decode cX12_keepState 3 = .ok (.sipush 14344, 3) := by decide +kernel
theorem dX12_keepState_6 : decode cX12_keepState 6 = .ok (.if_icmp .ge 21, 3) := by decide +kernel
theorem dX12_keepState_9 : decode cX12_keepState 9 = .ok (.aload_n 0, 1) := by decide +kernel
theorem dX12_keepState_10 : decode cX12_keepState 10 = .ok (.getfield 83, 3) := by decide +kernel
theorem dX12_keepState_13 : decode cX12_keepState 13 = .ok (.iload_n 1, 1) := by decide +kernel
theorem dX12_keepState_14 : decode cX12_keepState 14 = .ok (.aload_n 0, 1) := by decide +kernel
theorem dX12_keepState_15 : decode cX12_keepState 15 = .ok (.getfield 80, 3) := by decide +kernel
theorem dX12_keepState_18 : decode cX12_keepState 18 = .ok (.iload_n 1, 1) := by decide +kernel
theorem dX12_keepState_19 : decode cX12_keepState 19 = .ok (.iaload, 1) := by decide +kernel
theorem dX12_keepState_20 : decode cX12_keepState 20 = .ok (.iastore, 1) := by decide +kernel
theorem dX12_keepState_21 : decode cX12_keepState 21 = .ok (.iinc 1 1, 3) := by decide +kernel
theorem dX12_keepState_24 : decode cX12_keepState 24 = .ok (.goto (-22), 3) := by decide +kernel
theorem dX12_keepState_27 : decode cX12_keepState 27 = .ok (.aload_n 0, 1) := by decide +kernel
theorem dX12_keepState_28 : decode cX12_keepState 28 = .ok (.aload_n 0, 1) := by decide +kernel
theorem dX12_keepState_29 : decode cX12_keepState 29 = .ok (.getfield 231, 3) := by decide +kernel
theorem dX12_keepState_32 : decode cX12_keepState 32 = .ok (.putfield 419, 3) := by decide +kernel
theorem dX12_keepState_35 : decode cX12_keepState 35 = .ok (.aload_n 0, 1) := by decide +kernel
theorem dX12_keepState_36 : decode cX12_keepState 36 = .ok (.aload_n 0, 1) := by decide +kernel
theorem dX12_keepState_37 : decode cX12_keepState 37 = .ok (.getfield 234, 3) := by decide +kernel
theorem dX12_keepState_40 : decode cX12_keepState 40 = .ok (.putfield 422, 3) := by decide +kernel
theorem dX12_keepState_43 : decode cX12_keepState 43 = .ok (.aload_n 0, 1) := by decide +kernel
theorem dX12_keepState_44 : decode cX12_keepState 44 = .ok (.aload_n 0, 1) := by decide +kernel
theorem dX12_keepState_45 : decode cX12_keepState 45 = .ok (.getfield 237, 3) := by decide +kernel
theorem dX12_keepState_48 : decode cX12_keepState 48 = .ok (.putfield 425, 3) := by decide +kernel
theorem dX12_keepState_51 : decode cX12_keepState 51 = .ok (.aload_n 0, 1) := by decide +kernel
theorem dX12_keepState_52 : decode cX12_keepState 52 = .ok (.aload_n 0, 1) := by decide +kernel
theorem dX12_keepState_53 : decode cX12_keepState 53 = .ok (.getfield 240, 3) := by decide +kernel
theorem dX12_keepState_56 : decode cX12_keepState 56 = .ok (.putfield 428, 3) := by decide +kernel
theorem dX12_keepState_59 : decode cX12_keepState 59 = .ok (.aload_n 0, 1) := by decide +kernel
theorem dX12_keepState_60 : decode cX12_keepState 60 = .ok (.aload_n 0, 1) := by decide +kernel
theorem dX12_keepState_61 : decode cX12_keepState 61 = .ok (.getfield 243, 3) := by decide +kernel
theorem dX12_keepState_64 : decode cX12_keepState 64 = .ok (.putfield 431, 3) := by decide +kernel
theorem dX12_keepState_67 : decode cX12_keepState 67 = .ok (.return_, 1) := by decide +kernel
theorem dX12_takeState_0 : decode cX12_takeState 0 = .ok (.iconst 0, 1) := by decide +kernel
theorem dX12_takeState_1 : decode cX12_takeState 1 = .ok (.istore_n 1, 1) := by decide +kernel
theorem dX12_takeState_2 : decode cX12_takeState 2 = .ok (.iload_n 1, 1) := by decide +kernel
theorem dX12_takeState_3 : decode cX12_takeState 3 = .ok (.sipush 14344, 3) := by decide +kernel
theorem dX12_takeState_6 : decode cX12_takeState 6 = .ok (.if_icmp .ge 21, 3) := by decide +kernel
theorem dX12_takeState_9 : decode cX12_takeState 9 = .ok (.aload_n 0, 1) := by decide +kernel
theorem dX12_takeState_10 : decode cX12_takeState 10 = .ok (.getfield 80, 3) := by decide +kernel
theorem dX12_takeState_13 : decode cX12_takeState 13 = .ok (.iload_n 1, 1) := by decide +kernel
theorem dX12_takeState_14 : decode cX12_takeState 14 = .ok (.aload_n 0, 1) := by decide +kernel
theorem dX12_takeState_15 : decode cX12_takeState 15 = .ok (.getfield 83, 3) := by decide +kernel
theorem dX12_takeState_18 : decode cX12_takeState 18 = .ok (.iload_n 1, 1) := by decide +kernel
theorem dX12_takeState_19 : decode cX12_takeState 19 = .ok (.iaload, 1) := by decide +kernel
theorem dX12_takeState_20 : decode cX12_takeState 20 = .ok (.iastore, 1) := by decide +kernel
theorem dX12_takeState_21 : decode cX12_takeState 21 = .ok (.iinc 1 1, 3) := by decide +kernel
theorem dX12_takeState_24 : decode cX12_takeState 24 = .ok (.goto (-22), 3) := by decide +kernel
theorem dX12_takeState_27 : decode cX12_takeState 27 = .ok (.aload_n 0, 1) := by decide +kernel
theorem dX12_takeState_28 : decode cX12_takeState 28 = .ok (.aload_n 0, 1) := by decide +kernel
theorem dX12_takeState_29 : decode cX12_takeState 29 = .ok (.getfield 419, 3) := by decide +kernel
theorem dX12_takeState_32 : decode cX12_takeState 32 = .ok (.putfield 231, 3) := by decide +kernel
theorem dX12_takeState_35 : decode cX12_takeState 35 = .ok (.aload_n 0, 1) := by decide +kernel
theorem dX12_takeState_36 : decode cX12_takeState 36 = .ok (.aload_n 0, 1) := by decide +kernel
theorem dX12_takeState_37 : decode cX12_takeState 37 = .ok (.getfield 422, 3) := by decide +kernel
theorem dX12_takeState_40 : decode cX12_takeState 40 = .ok (.putfield 234, 3) := by decide +kernel
theorem dX12_takeState_43 : decode cX12_takeState 43 = .ok (.aload_n 0, 1) := by decide +kernel
theorem dX12_takeState_44 : decode cX12_takeState 44 = .ok (.aload_n 0, 1) := by decide +kernel
theorem dX12_takeState_45 : decode cX12_takeState 45 = .ok (.getfield 425, 3) := by decide +kernel
theorem dX12_takeState_48 : decode cX12_takeState 48 = .ok (.putfield 237, 3) := by decide +kernel
theorem dX12_takeState_51 : decode cX12_takeState 51 = .ok (.aload_n 0, 1) := by decide +kernel
theorem dX12_takeState_52 : decode cX12_takeState 52 = .ok (.aload_n 0, 1) := by decide +kernel
theorem dX12_takeState_53 : decode cX12_takeState 53 = .ok (.getfield 428, 3) := by decide +kernel
theorem dX12_takeState_56 : decode cX12_takeState 56 = .ok (.putfield 240, 3) := by decide +kernel
theorem dX12_takeState_59 : decode cX12_takeState 59 = .ok (.aload_n 0, 1) := by decide +kernel
theorem dX12_takeState_60 : decode cX12_takeState 60 = .ok (.aload_n 0, 1) := by decide +kernel
theorem dX12_takeState_61 : decode cX12_takeState 61 = .ok (.getfield 431, 3) := by decide +kernel
theorem dX12_takeState_64 : decode cX12_takeState 64 = .ok (.putfield 243, 3) := by decide +kernel
theorem dX12_takeState_67 : decode cX12_takeState 67 = .ok (.return_, 1) := by decide +kernel
theorem dX12_packChunks_0 : decode cX12_packChunks 0 = .ok (.aload_n 0, 1) := by decide +kernel
theorem dX12_packChunks_1 : decode cX12_packChunks 1 = .ok (.invokevirtual 404, 3) := by decide +kernel
theorem dX12_packChunks_4 : decode cX12_packChunks 4 = .ok (.aload_n 0, 1) := by decide +kernel
theorem dX12_packChunks_5 : decode cX12_packChunks 5 = .ok (.invokevirtual 407, 3) := by decide +kernel
theorem dX12_packChunks_8 : decode cX12_packChunks 8 = .ok (.aload_n 0, 1) := by decide +kernel
theorem dX12_packChunks_9 : decode cX12_packChunks 9 = .ok (.iconst 0, 1) := by decide +kernel
theorem dX12_packChunks_10 : decode cX12_packChunks 10 = .ok (.putfield 249, 3) := by decide +kernel
theorem dX12_packChunks_13 : decode cX12_packChunks 13 = .ok (.iconst 0, 1) := by decide +kernel
theorem dX12_packChunks_14 : decode cX12_packChunks 14 = .ok (.istore_n 1, 1) := by decide +kernel
theorem dX12_packChunks_15 : decode cX12_packChunks 15 = .ok (.iconst 0, 1) := by decide +kernel
theorem dX12_packChunks_16 : decode cX12_packChunks 16 = .ok (.istore_n 2, 1) := by decide +kernel
theorem dX12_packChunks_17 : decode cX12_packChunks 17 = .ok (.aload_n 0, 1) := by decide +kernel
theorem dX12_packChunks_18 : decode cX12_packChunks 18 = .ok (.iconst 0, 1) := by decide +kernel
theorem dX12_packChunks_19 : decode cX12_packChunks 19 = .ok (.putfield 434, 3) := by decide +kernel
theorem dX12_packChunks_22 : decode cX12_packChunks 22 = .ok (.iconst 0, 1) := by decide +kernel
theorem dX12_packChunks_23 : decode cX12_packChunks 23 = .ok (.istore_n 3, 1) := by decide +kernel
theorem dX12_packChunks_24 : decode cX12_packChunks 24 = .ok (.iload_n 3, 1) := by decide +kernel
theorem dX12_packChunks_25 : decode cX12_packChunks 25 = .ok (.aload_n 0, 1) := by decide +kernel
theorem dX12_packChunks_26 : decode cX12_packChunks 26 = .ok (.getfield 208, 3) := by decide +kernel
theorem dX12_packChunks_29 : decode cX12_packChunks 29 = .ok (.if_icmp .ge 325, 3) := by decide +kernel
theorem dX12_packChunks_32 : decode cX12_packChunks 32 = .ok (.iload_n 3, 1) := by decide +kernel
theorem dX12_packChunks_33 : decode cX12_packChunks 33 = .ok (.aload_n 0, 1) := by decide +kernel
theorem dX12_packChunks_34 : decode cX12_packChunks 34 = .ok (.getfield 19, 3) := by decide +kernel
theorem dX12_packChunks_37 : decode cX12_packChunks 37 = .ok (.iadd, 1) := by decide +kernel
theorem dX12_packChunks_38 : decode cX12_packChunks 38 = .ok (.aload_n 0, 1) := by decide +kernel
theorem dX12_packChunks_39 : decode cX12_packChunks 39 = .ok (.getfield 208, 3) := by decide +kernel
theorem dX12_packChunks_42 : decode cX12_packChunks 42 = .ok (.if_icmp .ge 12, 3) := by decide +kernel
theorem dX12_packChunks_45 : decode cX12_packChunks 45 = .ok (.iload_n 3, 1) := by decide +kernel
theorem dX12_packChunks_46 : decode cX12_packChunks 46 = .ok (.aload_n 0, 1) := by decide +kernel
theorem dX12_packChunks_47 : decode cX12_packChunks 47 = .ok (.getfield 19, 3) := by decide +kernel
theorem dX12_packChunks_50 : decode cX12_packChunks 50 = .ok (.iadd, 1) := by decide +kernel
theorem dX12_packChunks_51 : decode cX12_packChunks 51 = .ok (.goto 7, 3) := by decide +kernel
theorem dX12_packChunks_54 : decode cX12_packChunks 54 = .ok (.aload_n 0, 1) := by decide +kernel
theorem dX12_packChunks_55 : decode cX12_packChunks 55 = .ok (.getfield 208, 3) := by decide +kernel
theorem dX12_packChunks_58 : decode cX12_packChunks 58 = .ok (.istore 4, 2) := by decide +kernel
theorem dX12_packChunks_60 : decode cX12_packChunks 60 = .ok (.iload 4, 2) := by decide +kernel
theorem dX12_packChunks_62 : decode cX12_packChunks 62 = .ok (.iload_n 3, 1) := by decide +kernel
theorem dX12_packChunks_63 : decode cX12_packChunks 63 = .ok (.isub, 1) := by decide +kernel
theorem dX12_packChunks_64 : decode cX12_packChunks 64 = .ok (.istore 5, 2) := by decide +kernel
theorem dX12_packChunks_66 : decode cX12_packChunks 66 = .ok (.iload_n 3, 1) := by decide +kernel
theorem dX12_packChunks_67 : decode cX12_packChunks 67 = .ok (.ifCond .ne 7, 3) := by decide +kernel
theorem dX12_packChunks_70 : decode cX12_packChunks 70 = .ok (.iconst 3, 1) := by decide +kernel
theorem dX12_packChunks_71 : decode cX12_packChunks 71 = .ok (.goto 20, 3) := by decide +kernel
theorem dX12_packChunks_74 : decode cX12_packChunks 74 = .ok (.iload_n 1, 1) := by decide +kernel
theorem dX12_packChunks_75 : decode cX12_packChunks 75 = .ok (.ifCond .ne 7, 3) := by decide +kernel
theorem dX12_packChunks_78 : decode cX12_packChunks 78 = .ok (.iconst 2, 1) := by decide +kernel
theorem dX12_packChunks_79 : decode cX12_packChunks 79 = .ok (.goto 12, 3) := by decide +kernel
theorem dX12_packChunks_82 : decode cX12_packChunks 82 = .ok (.iload_n 2, 1) := by decide +kernel
theorem dX12_packChunks_83 : decode cX12_packChunks 83 = .ok (.ifCond .eq 7, 3) := by decide +kernel
theorem dX12_packChunks_86 : decode cX12_packChunks 86 = .ok (.iconst 1, 1) := by decide +kernel
theorem dX12_packChunks_87 : decode cX12_packChunks 87 = .ok (.goto 4, 3) := by decide +kernel
theorem dX12_packChunks_90 : decode cX12_packChunks 90 = .ok (.iconst 0, 1) := by decide +kernel
theorem dX12_packChunks_91 : decode cX12_packChunks 91 = .ok (.istore 6, 2) := by decide +kernel
theorem dX12_packChunks_93 : decode cX12_packChunks 93 = .ok (.aload_n 0, 1) := by decide +kernel
theorem dX12_packChunks_94 : decode cX12_packChunks 94 = .ok (.invokevirtual 437, 3) := by decide +kernel
theorem dX12_packChunks_97 : decode cX12_packChunks 97 = .ok (.iload 6, 2) := by decide +kernel
theorem dX12_packChunks_99 : decode cX12_packChunks 99 = .ok (.ifCond .le 7, 3) := by decide +kernel
theorem dX12_packChunks_102 : decode cX12_packChunks 102 = .ok (.aload_n 0, 1) := by decide +kernel
theorem dX12_packChunks_103 : decode cX12_packChunks 103 = .ok (.invokevirtual 407, 3) := by decide +kernel
theorem dX12_packChunks_106 : decode cX12_packChunks 106 = .ok (.aload_n 0, 1) := by decide +kernel
theorem dX12_packChunks_107 : decode cX12_packChunks 107 = .ok (.getfield 222, 3) := by decide +kernel
theorem dX12_packChunks_110 : decode cX12_packChunks 110 = .ok (.istore 7, 2) := by decide +kernel
theorem dX12_packChunks_112 : decode cX12_packChunks 112 = .ok (.aload_n 0, 1) := by decide +kernel
theorem dX12_packChunks_113 : decode cX12_packChunks 113 = .ok (.getfield 249, 3) := by decide +kernel
theorem dX12_packChunks_116 : decode cX12_packChunks 116 = .ok (.istore 8, 2) := by decide +kernel
theorem dX12_packChunks_118 : decode cX12_packChunks 118 = .ok (.aload_n 0, 1) := by decide +kernel
theorem dX12_packChunks_119 : decode cX12_packChunks 119 = .ok (.invokevirtual 410, 3) := by decide +kernel
theorem dX12_packChunks_122 : decode cX12_packChunks 122 = .ok (.aload_n 0, 1) := by decide +kernel
theorem dX12_packChunks_123 : decode cX12_packChunks 123 = .ok (.iload_n 3, 1) := by decide +kernel
theorem dX12_packChunks_124 : decode cX12_packChunks 124 = .ok (.iload 4, 2) := by decide +kernel
theorem dX12_packChunks_126 : decode cX12_packChunks 126 = .ok (.invokevirtual 413, 3) := by decide +kernel
theorem dX12_packChunks_129 : decode cX12_packChunks 129 = .ok (.aload_n 0, 1) := by decide +kernel
theorem dX12_packChunks_130 : decode cX12_packChunks 130 = .ok (.invokevirtual 416, 3) := by decide +kernel
theorem dX12_packChunks_133 : decode cX12_packChunks 133 = .ok (.aload_n 0, 1) := by decide +kernel
theorem dX12_packChunks_134 : decode cX12_packChunks 134 = .ok (.dup, 1) := by decide +kernel
theorem dX12_packChunks_135 : decode cX12_packChunks 135 = .ok (.getfield 434, 3) := by decide +kernel
theorem dX12_packChunks_138 : decode cX12_packChunks 138 = .ok (.iconst 1, 1) := by decide +kernel
theorem dX12_packChunks_139 : decode cX12_packChunks 139 = .ok (.iadd, 1) := by decide +kernel
theorem dX12_packChunks_140 : decode cX12_packChunks 140 = .ok (.putfield 434, 3) := by decide +kernel
theorem dX12_packChunks_143 : decode cX12_packChunks 143 = .ok (.aload_n 0, 1) := by decide +kernel
theorem dX12_packChunks_144 : decode cX12_packChunks 144 = .ok (.getfield 261, 3) := by decide +kernel
theorem dX12_packChunks_147 : decode cX12_packChunks 147 = .ok (.iload 5, 2) := by decide +kernel
theorem dX12_packChunks_149 : decode cX12_packChunks 149 = .ok (.if_icmp .ge 115, 3) := by decide +kernel
theorem dX12_packChunks_152 : decode cX12_packChunks 152 = .ok (.aload_n 0, 1) := by decide +kernel
theorem dX12_packChunks_153 : decode cX12_packChunks 153 = .ok (.sipush 128, 3) := by decide +kernel
theorem dX12_packChunks_156 : decode cX12_packChunks 156 = .ok (.iload 6, 2) := by decide +kernel
theorem dX12_packChunks_158 : decode cX12_packChunks 158 = .ok (.iconst 5, 1) := by decide +kernel
theorem dX12_packChunks_159 : decode cX12_packChunks 159 = .ok (.ishl, 1) := by decide +kernel
theorem dX12_packChunks_160 : decode cX12_packChunks 160 = .ok (.ior, 1) := by decide +kernel
theorem dX12_packChunks_161 : decode cX12_packChunks 161 = .ok (.iload 5, 2) := by decide +kernel
theorem dX12_packChunks_163 : decode cX12_packChunks 163 = .ok (.iconst 1, 1) := by decide +kernel
theorem dX12_packChunks_164 : decode cX12_packChunks 164 = .ok (.isub, 1) := by decide +kernel
theorem dX12_packChunks_165 : decode cX12_packChunks 165 = .ok (.bipush 16, 2) := by decide +kernel
theorem dX12_packChunks_167 : decode cX12_packChunks 167 = .ok (.ishr, 1) := by decide +kernel
theorem dX12_packChunks_168 : decode cX12_packChunks 168 = .ok (.ior, 1) := by decide +kernel
theorem dX12_packChunks_169 : decode cX12_packChunks 169 = .ok (.invokevirtual 394, 3) := by decide +kernel
theorem dX12_packChunks_172 : decode cX12_packChunks 172 = .ok (.aload_n 0, 1) := by decide +kernel
theorem dX12_packChunks_173 : decode cX12_packChunks 173 = .ok (.iload 5, 2) := by decide +kernel
theorem dX12_packChunks_175 : decode cX12_packChunks 175 = .ok (.iconst 1, 1) := by decide +kernel
theorem dX12_packChunks_176 : decode cX12_packChunks 176 = .ok (.isub, 1) := by decide +kernel
theorem dX12_packChunks_177 : decode cX12_packChunks 177 = .ok (.bipush 8, 2) := by decide +kernel
theorem dX12_packChunks_179 : decode cX12_packChunks 179 = .ok (.ishr, 1) := by decide +kernel
theorem dX12_packChunks_180 : decode cX12_packChunks 180 = .ok (.invokevirtual 394, 3) := by decide +kernel
theorem dX12_packChunks_183 : decode cX12_packChunks 183 = .ok (.aload_n 0, 1) := by decide +kernel
theorem dX12_packChunks_184 : decode cX12_packChunks 184 = .ok (.iload 5, 2) := by decide +kernel
theorem dX12_packChunks_186 : decode cX12_packChunks 186 = .ok (.iconst 1, 1) := by decide +kernel
theorem dX12_packChunks_187 : decode cX12_packChunks 187 = .ok (.isub, 1) := by decide +kernel
theorem dX12_packChunks_188 : decode cX12_packChunks 188 = .ok (.invokevirtual 394, 3) := by decide +kernel
theorem dX12_packChunks_191 : decode cX12_packChunks 191 = .ok (.aload_n 0, 1) := by decide +kernel
theorem dX12_packChunks_192 : decode cX12_packChunks 192 = .ok (.aload_n 0, 1) := by decide +kernel
theorem dX12_packChunks_193 : decode cX12_packChunks 193 = .ok (.getfield 261, 3) := by decide +kernel
theorem dX12_packChunks_196 : decode cX12_packChunks 196 = .ok (.iconst 1, 1) := by decide +kernel
theorem dX12_packChunks_197 : decode cX12_packChunks 197 = .ok (.isub, 1) := by decide +kernel
theorem dX12_packChunks_198 : decode cX12_packChunks 198 = .ok (.bipush 8, 2) := by decide +kernel
theorem dX12_packChunks_200 : decode cX12_packChunks 200 = .ok (.ishr, 1) := by decide +kernel
theorem dX12_packChunks_201 : decode cX12_packChunks 201 = .ok (.invokevirtual 394, 3) := by decide +kernel
theorem dX12_packChunks_204 : decode cX12_packChunks 204 = .ok (.aload_n 0, 1) := by decide +kernel
theorem dX12_packChunks_205 : decode cX12_packChunks 205 = .ok (.aload_n 0, 1) := by decide +kernel
theorem dX12_packChunks_206 : decode cX12_packChunks 206 = .ok (.getfield 261, 3) := by decide +kernel
theorem dX12_packChunks_209 : decode cX12_packChunks 209 = .ok (.iconst 1, 1) := by decide +kernel
theorem dX12_packChunks_210 : decode cX12_packChunks 210 = .ok (.isub, 1) := by decide +kernel
theorem dX12_packChunks_211 : decode cX12_packChunks 211 = .ok (.invokevirtual 394, 3) := by decide +kernel
theorem dX12_packChunks_214 : decode cX12_packChunks 214 = .ok (.iload 6, 2) := by decide +kernel
theorem dX12_packChunks_216 : decode cX12_packChunks 216 = .ok (.iconst 1, 1) := by decide +kernel
theorem dX12_packChunks_217 : decode cX12_packChunks 217 = .ok (.if_icmp .le 11, 3) := by decide +kernel
theorem dX12_packChunks_220 : decode cX12_packChunks 220 = .ok (.aload_n 0, 1) := by decide +kernel
theorem dX12_packChunks_221 : decode cX12_packChunks 221 = .ok (.aload_n 0, 1) := by decide +kernel
theorem dX12_packChunks_222 : decode cX12_packChunks 222 = .ok (.invokevirtual 397, 3) := by decide +kernel
theorem dX12_packChunks_225 : decode cX12_packChunks 225 = .ok (.invokevirtual 394, 3) := by decide +kernel
theorem dX12_packChunks_228 : decode cX12_packChunks 228 = .ok (.iconst 0, 1) := by decide +kernel
theorem dX12_packChunks_229 : decode cX12_packChunks 229 = .ok (.istore 9, 2) := by decide +kernel
theorem dX12_packChunks_231 : decode cX12_packChunks 231 = .ok (.iload 9, 2) := by decide +kernel
theorem dX12_packChunks_233 : decode cX12_packChunks 233 = .ok (.aload_n 0, 1) := by decide +kernel
theorem dX12_packChunks_234 : decode cX12_packChunks 234 = .ok (.getfield 261, 3) := by decide +kernel
theorem dX12_packChunks_237 : decode cX12_packChunks 237 = .ok (.if_icmp .ge 20, 3) := by decide +kernel
theorem dX12_packChunks_240 : decode cX12_packChunks 240 = .ok (.aload_n 0, 1) := by decide +kernel
theorem dX12_packChunks_241 : decode cX12_packChunks 241 = .ok (.aload_n 0, 1) := by decide +kernel
theorem dX12_packChunks_242 : decode cX12_packChunks 242 = .ok (.getfield 86, 3) := by decide +kernel
theorem dX12_packChunks_245 : decode cX12_packChunks 245 = .ok (.iload 9, 2) := by decide +kernel
theorem dX12_packChunks_247 : decode cX12_packChunks 247 = .ok (.iaload, 1) := by decide +kernel
theorem dX12_packChunks_248 : decode cX12_packChunks 248 = .ok (.invokevirtual 394, 3) := by decide +kernel
theorem dX12_packChunks_251 : decode cX12_packChunks 251 = .ok (.iinc 9 1, 3) := by decide +kernel
theorem dX12_packChunks_254 : decode cX12_packChunks 254 = .ok (.goto (-23), 3) := by decide +kernel
theorem dX12_packChunks_257 : decode cX12_packChunks 257 = .ok (.iconst 1, 1) := by decide +kernel
theorem dX12_packChunks_258 : decode cX12_packChunks 258 = .ok (.istore_n 1, 1) := by decide +kernel
theorem dX12_packChunks_259 : decode cX12_packChunks 259 = .ok (.iconst 0, 1) := by decide +kernel
theorem dX12_packChunks_260 : decode cX12_packChunks 260 = .ok (.istore_n 2, 1) := by decide +kernel
theorem dX12_packChunks_261 : decode cX12_packChunks 261 = .ok (.goto 83, 3) := by decide +kernel
theorem dX12_packChunks_264 : decode cX12_packChunks 264 = .ok (.aload_n 0, 1) := by decide +kernel
theorem dX12_packChunks_265 : decode cX12_packChunks 265 = .ok (.invokevirtual 440, 3) := by decide +kernel
theorem dX12_packChunks_268 : decode cX12_packChunks 268 = .ok (.aload_n 0, 1) := by decide +kernel
theorem dX12_packChunks_269 : decode cX12_packChunks 269 = .ok (.iload 7, 2) := by decide +kernel
theorem dX12_packChunks_271 : decode cX12_packChunks 271 = .ok (.putfield 222, 3) := by decide +kernel
theorem dX12_packChunks_274 : decode cX12_packChunks 274 = .ok (.aload_n 0, 1) := by decide +kernel
theorem dX12_packChunks_275 : decode cX12_packChunks 275 = .ok (.iload 8, 2) := by decide +kernel
theorem dX12_packChunks_277 : decode cX12_packChunks 277 = .ok (.iload 5, 2) := by decide +kernel
theorem dX12_packChunks_279 : decode cX12_packChunks 279 = .ok (.iadd, 1) := by decide +kernel
theorem dX12_packChunks_280 : decode cX12_packChunks 280 = .ok (.putfield 249, 3) := by decide +kernel
theorem dX12_packChunks_283 : decode cX12_packChunks 283 = .ok (.aload_n 0, 1) := by decide +kernel
theorem dX12_packChunks_284 : decode cX12_packChunks 284 = .ok (.iload_n 3, 1) := by decide +kernel
theorem dX12_packChunks_285 : decode cX12_packChunks 285 = .ok (.ifCond .ne 7, 3) := by decide +kernel
theorem dX12_packChunks_288 : decode cX12_packChunks 288 = .ok (.iconst 1, 1) := by decide +kernel
theorem dX12_packChunks_289 : decode cX12_packChunks 289 = .ok (.goto 4, 3) := by decide +kernel
theorem dX12_packChunks_292 : decode cX12_packChunks 292 = .ok (.iconst 2, 1) := by decide +kernel
theorem dX12_packChunks_293 : decode cX12_packChunks 293 = .ok (.invokevirtual 394, 3) := by decide +kernel
theorem dX12_packChunks_296 : decode cX12_packChunks 296 = .ok (.aload_n 0, 1) := by decide +kernel
theorem dX12_packChunks_297 : decode cX12_packChunks 297 = .ok (.iload 5, 2) := by decide +kernel
theorem dX12_packChunks_299 : decode cX12_packChunks 299 = .ok (.iconst 1, 1) := by decide +kernel
theorem dX12_packChunks_300 : decode cX12_packChunks 300 = .ok (.isub, 1) := by decide +kernel
theorem dX12_packChunks_301 : decode cX12_packChunks 301 = .ok (.bipush 8, 2) := by decide +kernel
theorem dX12_packChunks_303 : decode cX12_packChunks 303 = .ok (.ishr, 1) := by decide +kernel
theorem dX12_packChunks_304 : decode cX12_packChunks 304 = .ok (.invokevirtual 394, 3) := by decide +kernel
theorem dX12_packChunks_307 : decode cX12_packChunks 307 = .ok (.aload_n 0, 1) := by decide +kernel
theorem dX12_packChunks_308 : decode cX12_packChunks 308 = .ok (.iload 5, 2) := by decide +kernel
theorem dX12_packChunks_310 : decode cX12_packChunks 310 = .ok (.iconst 1, 1) := by decide +kernel
theorem dX12_packChunks_311 : decode cX12_packChunks 311 = .ok (.isub, 1) := by decide +kernel
theorem dX12_packChunks_312 : decode cX12_packChunks 312 = .ok (.invokevirtual 394, 3) := by decide +kernel
theorem dX12_packChunks_315 : decode cX12_packChunks 315 = .ok (.iload_n 3, 1) := by decide +kernel
theorem dX12_packChunks_316 : decode cX12_packChunks 316 = .ok (.istore 9, 2) := by decide +kernel
theorem dX12_packChunks_318 : decode cX12_packChunks 318 = .ok (.iload 9, 2) := by decide +kernel
theorem dX12_packChunks_320 : decode cX12_packChunks 320 = .ok (.iload 4, 2) := by decide +kernel
theorem dX12_packChunks_322 : decode cX12_packChunks 322 = .ok (.if_icmp .ge 20, 3) := by decide +kernel
theorem dX12_packChunks_325 : decode cX12_packChunks 325 = .ok (.aload_n 0, 1) := by decide +kernel
theorem dX12_packChunks_326 : decode cX12_packChunks 326 = .ok (.aload_n 0, 1) := by decide +kernel
theorem dX12_packChunks_327 : decode cX12_packChunks 327 = .ok (.getfield 47, 3) := by decide +kernel
theorem dX12_packChunks_330 : decode cX12_packChunks 330 = .ok (.iload 9, 2) := by decide +kernel
theorem dX12_packChunks_332 : decode cX12_packChunks 332 = .ok (.iaload, 1) := by decide +kernel
theorem dX12_packChunks_333 : decode cX12_packChunks 333 = .ok (.invokevirtual 394, 3) := by decide +kernel
theorem dX12_packChunks_336 : decode cX12_packChunks 336 = .ok (.iinc 9 1, 3) := by decide +kernel
theorem dX12_packChunks_339 : decode cX12_packChunks 339 = .ok (.goto (-21), 3) := by decide +kernel
theorem dX12_packChunks_342 : decode cX12_packChunks 342 = .ok (.iconst 1, 1) := by decide +kernel
theorem dX12_packChunks_343 : decode cX12_packChunks 343 = .ok (.istore_n 2, 1) := by decide +kernel
theorem dX12_packChunks_344 : decode cX12_packChunks 344 = .ok (.iload_n 3, 1) := by decide +kernel
theorem dX12_packChunks_345 : decode cX12_packChunks 345 = .ok (.aload_n 0, 1) := by decide +kernel
theorem dX12_packChunks_346 : decode cX12_packChunks 346 = .ok (.getfield 19, 3) := by decide +kernel
theorem dX12_packChunks_349 : decode cX12_packChunks 349 = .ok (.iadd, 1) := by decide +kernel
theorem dX12_packChunks_350 : decode cX12_packChunks 350 = .ok (.istore_n 3, 1) := by decide +kernel
theorem dX12_packChunks_351 : decode cX12_packChunks 351 = .ok (.goto (-327), 3) := by decide +kernel
theorem dX12_packChunks_354 : decode cX12_packChunks 354 = .ok (.aload_n 0, 1) := by decide +kernel
theorem dX12_packChunks_355 : decode cX12_packChunks 355 = .ok (.iconst 0, 1) := by decide +kernel
theorem dX12_packChunks_356 : decode cX12_packChunks 356 = .ok (.invokevirtual 394, 3) := by decide +kernel
theorem dX12_packChunks_359 : decode cX12_packChunks 359 = .ok (.return_, 1) := by decide +kernel
theorem dX12_check32_0 : decode cX12_check32 0 = .ok (.aload_n 0, 1) := by decide +kernel
theorem dX12_check32_1 : decode cX12_check32 1 = .ok (.invokevirtual 174, 3) := by decide +kernel
theorem dX12_check32_4 : decode cX12_check32 4 = .ok (.iload_n 1, 1) := by decide +kernel
theorem dX12_check32_5 : decode cX12_check32 5 = .ok (.istore_n 3, 1) := by decide +kernel
theorem dX12_check32_6 : decode cX12_check32 6 = .ok (.iload_n 3, 1) := by decide +kernel
theorem dX12_check32_7 : decode cX12_check32 7 = .ok (.iload_n 2, 1) := by decide +kernel
theorem dX12_check32_8 : decode cX12_check32 8 = .ok (.if_icmp .ge 19, 3) := by decide +kernel
theorem dX12_check32_11 : decode cX12_check32 11 = .ok (.aload_n 0, 1) := by decide +kernel
theorem dX12_check32_12 : decode cX12_check32 12 = .ok (.aload_n 0, 1) := by decide +kernel
theorem dX12_check32_13 : decode cX12_check32 13 = .ok (.getfield 98, 3) := by decide +kernel
theorem dX12_check32_16 : decode cX12_check32 16 = .ok (.iload_n 3, 1) := by decide +kernel
theorem dX12_check32_17 : decode cX12_check32 17 = .ok (.iaload, 1) := by decide +kernel
theorem dX12_check32_18 : decode cX12_check32 18 = .ok (.invokevirtual 182, 3) := by decide +kernel
theorem dX12_check32_21 : decode cX12_check32 21 = .ok (.iinc 3 1, 3) := by decide +kernel
theorem dX12_check32_24 : decode cX12_check32 24 = .ok (.goto (-18), 3) := by decide +kernel
theorem dX12_check32_27 : decode cX12_check32 27 = .ok (.aload_n 0, 1) := by decide +kernel
theorem dX12_check32_28 : decode cX12_check32 28 = .ok (.invokevirtual 195, 3) := by decide +kernel
theorem dX12_check32_31 : decode cX12_check32 31 = .ok (.ireturn, 1) := by decide +kernel
theorem dX12_putV_0 : decode cX12_putV 0 = .ok (.lload_n 1, 1) := by decide +kernel
theorem dX12_putV_1 : decode cX12_putV 1 = .ok (.lstore_n 3, 1) := by decide +kernel
theorem dX12_putV_2 : decode cX12_putV 2 = .ok (.lload_n 3, 1) := by decide +kernel
theorem dX12_putV_3 : decode cX12_putV 3 = .ok (.ldc2_w 443, 3) := by decide +kernel
theorem dX12_putV_6 : decode cX12_putV 6 = .ok (.lcmp, 1) := by decide +kernel
theorem dX12_putV_7 : decode cX12_putV 7 = .ok (.ifCond .lt 24, 3) := by decide +kernel
theorem dX12_putV_10 : decode cX12_putV 10 = .ok (.aload_n 0, 1) := by decide +kernel
theorem dX12_putV_11 : decode cX12_putV 11 = .ok (.lload_n 3, 1) := by decide +kernel
theorem dX12_putV_12 : decode cX12_putV 12 = .ok (.l2i, 1) := by decide +kernel
theorem dX12_putV_13 : decode cX12_putV 13 = .ok (.bipush 127, 2) := by decide +kernel
theorem dX12_putV_15 : decode cX12_putV 15 = .ok (.iand, 1) := by decide +kernel
theorem dX12_putV_16 : decode cX12_putV 16 = .ok (.sipush 128, 3) := by decide +kernel
theorem dX12_putV_19 : decode cX12_putV 19 = .ok (.ior, 1) := by decide +kernel
theorem dX12_putV_20 : decode cX12_putV 20 = .ok (.invokevirtual 394, 3) := by decide +kernel
theorem dX12_putV_23 : decode cX12_putV 23 = .ok (.lload_n 3, 1) := by decide +kernel
theorem dX12_putV_24 : decode cX12_putV 24 = .ok (.bipush 7, 2) := by decide +kernel
theorem dX12_putV_26 : decode cX12_putV 26 = .ok (.lushr, 1) := by decide +kernel
theorem dX12_putV_27 : decode cX12_putV 27 = .ok (.lstore_n 3, 1) := by decide +kernel
theorem dX12_putV_28 : decode cX12_putV 28 = .ok (.goto (-26), 3) := by decide +kernel
theorem dX12_putV_31 : decode cX12_putV 31 = .ok (.aload_n 0, 1) := by decide +kernel
theorem dX12_putV_32 : decode cX12_putV 32 = .ok (.lload_n 3, 1) := by decide +kernel
theorem dX12_putV_33 : decode cX12_putV 33 = .ok (.l2i, 1) := by decide +kernel
theorem dX12_putV_34 : decode cX12_putV 34 = .ok (.invokevirtual 394, 3) := by decide +kernel
theorem dX12_putV_37 : decode cX12_putV 37 = .ok (.return_, 1) := by decide +kernel
theorem dX12_packBlock_0 : decode cX12_packBlock 0 = .ok (.aload_n 0, 1) := by decide +kernel
theorem dX12_packBlock_1 : decode cX12_packBlock 1 = .ok (.iload_n 2, 1) := by decide +kernel
theorem dX12_packBlock_2 : decode cX12_packBlock 2 = .ok (.iload_n 1, 1) := by decide +kernel
theorem dX12_packBlock_3 : decode cX12_packBlock 3 = .ok (.isub, 1) := by decide +kernel
theorem dX12_packBlock_4 : decode cX12_packBlock 4 = .ok (.putfield 208, 3) := by decide +kernel
theorem dX12_packBlock_7 : decode cX12_packBlock 7 = .ok (.iconst 0, 1) := by decide +kernel
theorem dX12_packBlock_8 : decode cX12_packBlock 8 = .ok (.istore_n 3, 1) := by decide +kernel
theorem dX12_packBlock_9 : decode cX12_packBlock 9 = .ok (.iload_n 3, 1) := by decide +kernel
theorem dX12_packBlock_10 : decode cX12_packBlock 10 = .ok (.aload_n 0, 1) := by decide +kernel
theorem dX12_packBlock_11 : decode cX12_packBlock 11 = .ok (.getfield 208, 3) := by decide +kernel
theorem dX12_packBlock_14 : decode cX12_packBlock 14 = .ok (.if_icmp .ge 23, 3) := by decide +kernel
theorem dX12_packBlock_17 : decode cX12_packBlock 17 = .ok (.aload_n 0, 1) := by decide +kernel
theorem dX12_packBlock_18 : decode cX12_packBlock 18 = .ok (.getfield 47, 3) := by decide +kernel
theorem dX12_packBlock_21 : decode cX12_packBlock 21 = .ok (.iload_n 3, 1) := by decide +kernel
theorem dX12_packBlock_22 : decode cX12_packBlock 22 = .ok (.aload_n 0, 1) := by decide +kernel
theorem dX12_packBlock_23 : decode cX12_packBlock 23 = .ok (.getfield 28, 3) := by decide +kernel
theorem dX12_packBlock_26 : decode cX12_packBlock 26 = .ok (.iload_n 1, 1) := by decide +kernel
theorem dX12_packBlock_27 : decode cX12_packBlock 27 = .ok (.iload_n 3, 1) := by decide +kernel
theorem dX12_packBlock_28 : decode cX12_packBlock 28 = .ok (.iadd, 1) := by decide +kernel
theorem dX12_packBlock_29 : decode cX12_packBlock 29 = .ok (.iaload, 1) := by decide +kernel
theorem dX12_packBlock_30 : decode cX12_packBlock 30 = .ok (.iastore, 1) := by decide +kernel
theorem dX12_packBlock_31 : decode cX12_packBlock 31 = .ok (.iinc 3 1, 3) := by decide +kernel
theorem dX12_packBlock_34 : decode cX12_packBlock 34 = .ok (.goto (-25), 3) := by decide +kernel
theorem dX12_packBlock_37 : decode cX12_packBlock 37 = .ok (.aload_n 0, 1) := by decide +kernel
theorem dX12_packBlock_38 : decode cX12_packBlock 38 = .ok (.iload_n 1, 1) := by decide +kernel
theorem dX12_packBlock_39 : decode cX12_packBlock 39 = .ok (.putfield 372, 3) := by decide +kernel
theorem dX12_packBlock_42 : decode cX12_packBlock 42 = .ok (.aload_n 0, 1) := by decide +kernel
theorem dX12_packBlock_43 : decode cX12_packBlock 43 = .ok (.getfield 120, 3) := by decide +kernel
theorem dX12_packBlock_46 : decode cX12_packBlock 46 = .ok (.ifCond .le 11, 3) := by decide +kernel
theorem dX12_packBlock_49 : decode cX12_packBlock 49 = .ok (.aload_n 0, 1) := by decide +kernel
theorem dX12_packBlock_50 : decode cX12_packBlock 50 = .ok (.aload_n 0, 1) := by decide +kernel
theorem dX12_packBlock_51 : decode cX12_packBlock 51 = .ok (.getfield 120, 3) := by decide +kernel
theorem dX12_packBlock_54 : decode cX12_packBlock 54 = .ok (.invokevirtual 219, 3) := by decide +kernel
theorem dX12_packBlock_57 : decode cX12_packBlock 57 = .ok (.aload_n 0, 1) := by decide +kernel
theorem dX12_packBlock_58 : decode cX12_packBlock 58 = .ok (.getfield 123, 3) := by decide +kernel
theorem dX12_packBlock_61 : decode cX12_packBlock 61 = .ok (.ifCond .le 8, 3) := by decide +kernel
theorem dX12_packBlock_64 : decode cX12_packBlock 64 = .ok (.aload_n 0, 1) := by decide +kernel
theorem dX12_packBlock_65 : decode cX12_packBlock 65 = .ok (.iconst 0, 1) := by decide +kernel
theorem dX12_packBlock_66 : decode cX12_packBlock 66 = .ok (.invokevirtual 212, 3) := by decide +kernel
theorem dX12_packBlock_69 : decode cX12_packBlock 69 = .ok (.aload_n 0, 1) := by decide +kernel
theorem dX12_packBlock_70 : decode cX12_packBlock 70 = .ok (.getfield 391, 3) := by decide +kernel
theorem dX12_packBlock_73 : decode cX12_packBlock 73 = .ok (.istore_n 3, 1) := by decide +kernel
theorem dX12_packBlock_74 : decode cX12_packBlock 74 = .ok (.iconst 1, 1) := by decide +kernel
theorem dX12_packBlock_75 : decode cX12_packBlock 75 = .ok (.aload_n 0, 1) := by decide +kernel
theorem dX12_packBlock_76 : decode cX12_packBlock 76 = .ok (.getfield 120, 3) := by decide +kernel
theorem dX12_packBlock_79 : decode cX12_packBlock 79 = .ok (.ifCond .le 7, 3) := by decide +kernel
theorem dX12_packBlock_82 : decode cX12_packBlock 82 = .ok (.iconst 1, 1) := by decide +kernel
theorem dX12_packBlock_83 : decode cX12_packBlock 83 = .ok (.goto 4, 3) := by decide +kernel
theorem dX12_packBlock_86 : decode cX12_packBlock 86 = .ok (.iconst 0, 1) := by decide +kernel
theorem dX12_packBlock_87 : decode cX12_packBlock 87 = .ok (.iadd, 1) := by decide +kernel
theorem dX12_packBlock_88 : decode cX12_packBlock 88 = .ok (.aload_n 0, 1) := by decide +kernel
theorem dX12_packBlock_89 : decode cX12_packBlock 89 = .ok (.getfield 123, 3) := by decide +kernel
theorem dX12_packBlock_92 : decode cX12_packBlock 92 = .ok (.iadd, 1) := by decide +kernel
theorem dX12_packBlock_93 : decode cX12_packBlock 93 = .ok (.istore 4, 2) := by decide +kernel
theorem dX12_packBlock_95 : decode cX12_packBlock 95 = .ok (.aload_n 0, 1) := by decide +kernel
theorem dX12_packBlock_96 : decode cX12_packBlock 96 = .ok (.iconst 0, 1) := by decide +kernel
theorem dX12_packBlock_97 : decode cX12_packBlock 97 = .ok (.invokevirtual 394, 3) := by decide +kernel
theorem dX12_packBlock_100 : decode cX12_packBlock 100 = .ok (.aload_n 0, 1) := by decide +kernel
theorem dX12_packBlock_101 : decode cX12_packBlock 101 = .ok (.iload 4, 2) := by decide +kernel
theorem dX12_packBlock_103 : decode cX12_packBlock 103 = .ok (.iconst 1, 1) := by decide +kernel
theorem dX12_packBlock_104 : decode cX12_packBlock 104 = .ok (.isub, 1) := by decide +kernel
theorem dX12_packBlock_105 : decode cX12_packBlock 105 = .ok (.invokevirtual 394, 3) := by decide +kernel
theorem dX12_packBlock_108 : decode cX12_packBlock 108 = .ok (.aload_n 0, 1) := by decide +kernel
theorem dX12_packBlock_109 : decode cX12_packBlock 109 = .ok (.getfield 120, 3) := by decide +kernel
theorem dX12_packBlock_112 : decode cX12_packBlock 112 = .ok (.ifCond .le 23, 3) := by decide +kernel
theorem dX12_packBlock_115 : decode cX12_packBlock 115 = .ok (.aload_n 0, 1) := by decide +kernel
theorem dX12_packBlock_116 : decode cX12_packBlock 116 = .ok (.iconst 3, 1) := by decide +kernel
theorem dX12_packBlock_117 : decode cX12_packBlock 117 = .ok (.invokevirtual 394, 3) := by decide +kernel
theorem dX12_packBlock_120 : decode cX12_packBlock 120 = .ok (.aload_n 0, 1) := by decide +kernel
theorem dX12_packBlock_121 : decode cX12_packBlock 121 = .ok (.iconst 1, 1) := by decide +kernel
theorem dX12_packBlock_122 : decode cX12_packBlock 122 = .ok (.invokevirtual 394, 3) := by decide +kernel
theorem dX12_packBlock_125 : decode cX12_packBlock 125 = .ok (.aload_n 0, 1) := by decide +kernel
theorem dX12_packBlock_126 : decode cX12_packBlock 126 = .ok (.aload_n 0, 1) := by decide +kernel
theorem dX12_packBlock_127 : decode cX12_packBlock 127 = .ok (.getfield 120, 3) := by decide +kernel
theorem dX12_packBlock_130 : decode cX12_packBlock 130 = .ok (.iconst 1, 1) := by decide +kernel
theorem dX12_packBlock_131 : decode cX12_packBlock 131 = .ok (.isub, 1) := by decide +kernel
theorem dX12_packBlock_132 : decode cX12_packBlock 132 = .ok (.invokevirtual 394, 3) := by decide +kernel
theorem dX12_packBlock_135 : decode cX12_packBlock 135 = .ok (.aload_n 0, 1) := by decide +kernel
theorem dX12_packBlock_136 : decode cX12_packBlock 136 = .ok (.getfield 123, 3) := by decide +kernel
theorem dX12_packBlock_139 : decode cX12_packBlock 139 = .ok (.ifCond .le 14, 3) := by decide +kernel
theorem dX12_packBlock_142 : decode cX12_packBlock 142 = .ok (.aload_n 0, 1) := by decide +kernel
theorem dX12_packBlock_143 : decode cX12_packBlock 143 = .ok (.bipush 7, 2) := by decide +kernel
theorem dX12_packBlock_145 : decode cX12_packBlock 145 = .ok (.invokevirtual 394, 3) := by decide +kernel
theorem dX12_packBlock_148 : decode cX12_packBlock 148 = .ok (.aload_n 0, 1) := by decide +kernel
theorem dX12_packBlock_149 : decode cX12_packBlock 149 = .ok (.iconst 0, 1) := by decide +kernel
theorem dX12_packBlock_150 : decode cX12_packBlock 150 = .ok (.invokevirtual 394, 3) := by decide +kernel
theorem dX12_packBlock_153 : decode cX12_packBlock 153 = .ok (.aload_n 0, 1) := by decide +kernel
theorem dX12_packBlock_154 : decode cX12_packBlock 154 = .ok (.bipush 33, 2) := by decide +kernel
theorem dX12_packBlock_156 : decode cX12_packBlock 156 = .ok (.invokevirtual 394, 3) := by decide +kernel
theorem dX12_packBlock_159 : decode cX12_packBlock 159 = .ok (.aload_n 0, 1) := by decide +kernel
theorem dX12_packBlock_160 : decode cX12_packBlock 160 = .ok (.iconst 1, 1) := by decide +kernel
theorem dX12_packBlock_161 : decode cX12_packBlock 161 = .ok (.invokevirtual 394, 3) := by decide +kernel
theorem dX12_packBlock_164 : decode cX12_packBlock 164 = .ok (.aload_n 0, 1) := by decide +kernel
theorem dX12_packBlock_165 : decode cX12_packBlock 165 = .ok (.iconst 0, 1) := by decide +kernel
theorem dX12_packBlock_166 : decode cX12_packBlock 166 = .ok (.invokevirtual 394, 3) := by decide +kernel
theorem dX12_packBlock_169 : decode cX12_packBlock 169 = .ok (.aload_n 0, 1) := by decide +kernel
theorem dX12_packBlock_170 : decode cX12_packBlock 170 = .ok (.getfield 391, 3) := by decide +kernel
theorem dX12_packBlock_173 : decode cX12_packBlock 173 = .ok (.iload_n 3, 1) := by decide +kernel
theorem dX12_packBlock_174 : decode cX12_packBlock 174 = .ok (.isub, 1) := by decide +kernel
theorem dX12_packBlock_175 : decode cX12_packBlock 175 = .ok (.iconst 4, 1) := by decide +kernel
theorem dX12_packBlock_176 : decode cX12_packBlock 176 = .ok (.irem, 1) := by decide +kernel
theorem dX12_packBlock_177 : decode cX12_packBlock 177 = .ok (.ifCond .eq 11, 3) := by decide +kernel
theorem dX12_packBlock_180 : decode cX12_packBlock 180 = .ok (.aload_n 0, 1) := by decide +kernel
theorem dX12_packBlock_181 : decode cX12_packBlock 181 = .ok (.iconst 0, 1) := by decide +kernel
theorem dX12_packBlock_182 : decode cX12_packBlock 182 = .ok (.invokevirtual 394, 3) := by decide +kernel
theorem dX12_packBlock_185 : decode cX12_packBlock 185 = .ok (.goto (-16), 3) := by decide +kernel
theorem dX12_packBlock_188 : decode cX12_packBlock 188 = .ok (.aload_n 0, 1) := by decide +kernel
theorem dX12_packBlock_189 : decode cX12_packBlock 189 = .ok (.getfield 391, 3) := by decide +kernel
theorem dX12_packBlock_192 : decode cX12_packBlock 192 = .ok (.iload_n 3, 1) := by decide +kernel
theorem dX12_packBlock_193 : decode cX12_packBlock 193 = .ok (.isub, 1) := by decide +kernel
theorem dX12_packBlock_194 : decode cX12_packBlock 194 = .ok (.iconst 4, 1) := by decide +kernel
theorem dX12_packBlock_195 : decode cX12_packBlock 195 = .ok (.iadd, 1) := by decide +kernel
theorem dX12_packBlock_196 : decode cX12_packBlock 196 = .ok (.istore 5, 2) := by decide +kernel
theorem dX12_packBlock_198 : decode cX12_packBlock 198 = .ok (.aload_n 0, 1) := by decide +kernel
theorem dX12_packBlock_199 : decode cX12_packBlock 199 = .ok (.getfield 98, 3) := by decide +kernel
theorem dX12_packBlock_202 : decode cX12_packBlock 202 = .ok (.iload_n 3, 1) := by decide +kernel
theorem dX12_packBlock_203 : decode cX12_packBlock 203 = .ok (.iload 5, 2) := by decide +kernel
theorem dX12_packBlock_205 : decode cX12_packBlock 205 = .ok (.iconst 4, 1) := by decide +kernel
theorem dX12_packBlock_206 : decode cX12_packBlock 206 = .ok (.idiv, 1) := by decide +kernel
theorem dX12_packBlock_207 : decode cX12_packBlock 207 = .ok (.iconst 1, 1) := by decide +kernel
theorem dX12_packBlock_208 : decode cX12_packBlock 208 = .ok (.isub, 1) := by decide +kernel
theorem dX12_packBlock_209 : decode cX12_packBlock 209 = .ok (.iastore, 1) := by decide +kernel
theorem dX12_packBlock_210 : decode cX12_packBlock 210 = .ok (.aload_n 0, 1) := by decide +kernel
theorem dX12_packBlock_211 : decode cX12_packBlock 211 = .ok (.aload_n 0, 1) := by decide +kernel
theorem dX12_packBlock_212 : decode cX12_packBlock 212 = .ok (.iload_n 3, 1) := by decide +kernel
theorem dX12_packBlock_213 : decode cX12_packBlock 213 = .ok (.aload_n 0, 1) := by decide +kernel
theorem dX12_packBlock_214 : decode cX12_packBlock 214 = .ok (.getfield 391, 3) := by decide +kernel
theorem dX12_packBlock_217 : decode cX12_packBlock 217 = .ok (.invokevirtual 445, 3) := by decide +kernel
theorem dX12_packBlock_220 : decode cX12_packBlock 220 = .ok (.i2l, 1) := by decide +kernel
theorem dX12_packBlock_221 : decode cX12_packBlock 221 = .ok (.iconst 4, 1) := by decide +kernel
theorem dX12_packBlock_222 : decode cX12_packBlock 222 = .ok (.invokevirtual 400, 3) := by decide +kernel
theorem dX12_packBlock_225 : decode cX12_packBlock 225 = .ok (.aload_n 0, 1) := by decide +kernel
theorem dX12_packBlock_226 : decode cX12_packBlock 226 = .ok (.getfield 391, 3) := by decide +kernel
theorem dX12_packBlock_229 : decode cX12_packBlock 229 = .ok (.istore 6, 2) := by decide +kernel
theorem dX12_packBlock_231 : decode cX12_packBlock 231 = .ok (.aload_n 0, 1) := by decide +kernel
theorem dX12_packBlock_232 : decode cX12_packBlock 232 = .ok (.invokevirtual 448, 3) := by decide +kernel
theorem dX12_packBlock_235 : decode cX12_packBlock 235 = .ok (.aload_n 0, 1) := by decide +kernel
theorem dX12_packBlock_236 : decode cX12_packBlock 236 = .ok (.getfield 62, 3) := by decide +kernel
theorem dX12_packBlock_239 : decode cX12_packBlock 239 = .ok (.aload_n 0, 1) := by decide +kernel
theorem dX12_packBlock_240 : decode cX12_packBlock 240 = .ok (.getfield 228, 3) := by decide +kernel
theorem dX12_packBlock_243 : decode cX12_packBlock 243 = .ok (.iload_n 3, 1) := by decide +kernel
theorem dX12_packBlock_244 : decode cX12_packBlock 244 = .ok (.iastore, 1) := by decide +kernel
theorem dX12_packBlock_245 : decode cX12_packBlock 245 = .ok (.aload_n 0, 1) := by decide +kernel
theorem dX12_packBlock_246 : decode cX12_packBlock 246 = .ok (.getfield 65, 3) := by decide +kernel
theorem dX12_packBlock_249 : decode cX12_packBlock 249 = .ok (.aload_n 0, 1) := by decide +kernel
theorem dX12_packBlock_250 : decode cX12_packBlock 250 = .ok (.getfield 228, 3) := by decide +kernel
theorem dX12_packBlock_253 : decode cX12_packBlock 253 = .ok (.iload 5, 2) := by decide +kernel
theorem dX12_packBlock_255 : decode cX12_packBlock 255 = .ok (.iastore, 1) := by decide +kernel
theorem dX12_packBlock_256 : decode cX12_packBlock 256 = .ok (.aload_n 0, 1) := by decide +kernel
theorem dX12_packBlock_257 : decode cX12_packBlock 257 = .ok (.getfield 68, 3) := by decide +kernel
theorem dX12_packBlock_260 : decode cX12_packBlock 260 = .ok (.aload_n 0, 1) := by decide +kernel
theorem dX12_packBlock_261 : decode cX12_packBlock 261 = .ok (.getfield 228, 3) := by decide +kernel
theorem dX12_packBlock_264 : decode cX12_packBlock 264 = .ok (.aload_n 0, 1) := by decide +kernel
theorem dX12_packBlock_265 : decode cX12_packBlock 265 = .ok (.getfield 391, 3) := by decide +kernel
theorem dX12_packBlock_268 : decode cX12_packBlock 268 = .ok (.iload 6, 2) := by decide +kernel
theorem dX12_packBlock_270 : decode cX12_packBlock 270 = .ok (.isub, 1) := by decide +kernel
theorem dX12_packBlock_271 : decode cX12_packBlock 271 = .ok (.iastore, 1) := by decide +kernel
theorem dX12_packBlock_272 : decode cX12_packBlock 272 = .ok (.aload_n 0, 1) := by decide +kernel
theorem dX12_packBlock_273 : decode cX12_packBlock 273 = .ok (.getfield 71, 3) := by decide +kernel
theorem dX12_packBlock_276 : decode cX12_packBlock 276 = .ok (.aload_n 0, 1) := by decide +kernel
theorem dX12_packBlock_277 : decode cX12_packBlock 277 = .ok (.getfield 228, 3) := by decide +kernel
theorem dX12_packBlock_280 : decode cX12_packBlock 280 = .ok (.aload_n 0, 1) := by decide +kernel
theorem dX12_packBlock_281 : decode cX12_packBlock 281 = .ok (.getfield 208, 3) := by decide +kernel
theorem dX12_packBlock_284 : decode cX12_packBlock 284 = .ok (.iastore, 1) := by decide +kernel
theorem dX12_packBlock_285 : decode cX12_packBlock 285 = .ok (.aload_n 0, 1) := by decide +kernel
theorem dX12_packBlock_286 : decode cX12_packBlock 286 = .ok (.getfield 74, 3) := by decide +kernel
theorem dX12_packBlock_289 : decode cX12_packBlock 289 = .ok (.aload_n 0, 1) := by decide +kernel
theorem dX12_packBlock_290 : decode cX12_packBlock 290 = .ok (.getfield 228, 3) := by decide +kernel
theorem dX12_packBlock_293 : decode cX12_packBlock 293 = .ok (.aload_n 0, 1) := by decide +kernel
theorem dX12_packBlock_294 : decode cX12_packBlock 294 = .ok (.getfield 434, 3) := by decide +kernel
theorem dX12_packBlock_297 : decode cX12_packBlock 297 = .ok (.iastore, 1) := by decide +kernel
theorem dX12_packBlock_298 : decode cX12_packBlock 298 = .ok (.aload_n 0, 1) := by decide +kernel
theorem dX12_packBlock_299 : decode cX12_packBlock 299 = .ok (.dup, 1) := by decide +kernel
theorem dX12_packBlock_300 : decode cX12_packBlock 300 = .ok (.getfield 228, 3) := by decide +kernel
theorem dX12_packBlock_303 : decode cX12_packBlock 303 = .ok (.iconst 1, 1) := by decide +kernel
theorem dX12_packBlock_304 : decode cX12_packBlock 304 = .ok (.iadd, 1) := by decide +kernel
theorem dX12_packBlock_305 : decode cX12_packBlock 305 = .ok (.putfield 228, 3) := by decide +kernel
theorem dX12_packBlock_308 : decode cX12_packBlock 308 = .ok (.aload_n 0, 1) := by decide +kernel
theorem dX12_packBlock_309 : decode cX12_packBlock 309 = .ok (.getfield 391, 3) := by decide +kernel
theorem dX12_packBlock_312 : decode cX12_packBlock 312 = .ok (.iload_n 3, 1) := by decide +kernel
theorem dX12_packBlock_313 : decode cX12_packBlock 313 = .ok (.isub, 1) := by decide +kernel
theorem dX12_packBlock_314 : decode cX12_packBlock 314 = .ok (.iconst 4, 1) := by decide +kernel
theorem dX12_packBlock_315 : decode cX12_packBlock 315 = .ok (.irem, 1) := by decide +kernel
theorem dX12_packBlock_316 : decode cX12_packBlock 316 = .ok (.ifCond .eq 11, 3) := by decide +kernel
theorem dX12_packBlock_319 : decode cX12_packBlock 319 = .ok (.aload_n 0, 1) := by decide +kernel
theorem dX12_packBlock_320 : decode cX12_packBlock 320 = .ok (.iconst 0, 1) := by decide +kernel
theorem dX12_packBlock_321 : decode cX12_packBlock 321 = .ok (.invokevirtual 394, 3) := by decide +kernel
theorem dX12_packBlock_324 : decode cX12_packBlock 324 = .ok (.goto (-16), 3) := by decide +kernel
theorem dX12_packBlock_327 : decode cX12_packBlock 327 = .ok (.aload_n 0, 1) := by decide +kernel
theorem dX12_packBlock_328 : decode cX12_packBlock 328 = .ok (.aload_n 0, 1) := by decide +kernel
theorem dX12_packBlock_329 : decode cX12_packBlock 329 = .ok (.getfield 25, 3) := by decide +kernel
theorem dX12_packBlock_332 : decode cX12_packBlock 332 = .ok (.invokevirtual 199, 3) := by decide +kernel
theorem dX12_packBlock_335 : decode cX12_packBlock 335 = .ok (.iload_n 1, 1) := by decide +kernel
theorem dX12_packBlock_336 : decode cX12_packBlock 336 = .ok (.istore 7, 2) := by decide +kernel
theorem dX12_packBlock_338 : decode cX12_packBlock 338 = .ok (.iload 7, 2) := by decide +kernel
theorem dX12_packBlock_340 : decode cX12_packBlock 340 = .ok (.iload_n 2, 1) := by decide +kernel
theorem dX12_packBlock_341 : decode cX12_packBlock 341 = .ok (.if_icmp .ge 20, 3) := by decide +kernel
theorem dX12_packBlock_344 : decode cX12_packBlock 344 = .ok (.aload_n 0, 1) := by decide +kernel
theorem dX12_packBlock_345 : decode cX12_packBlock 345 = .ok (.aload_n 0, 1) := by decide +kernel
theorem dX12_packBlock_346 : decode cX12_packBlock 346 = .ok (.getfield 28, 3) := by decide +kernel
theorem dX12_packBlock_349 : decode cX12_packBlock 349 = .ok (.iload 7, 2) := by decide +kernel
theorem dX12_packBlock_351 : decode cX12_packBlock 351 = .ok (.iaload, 1) := by decide +kernel
theorem dX12_packBlock_352 : decode cX12_packBlock 352 = .ok (.invokevirtual 202, 3) := by decide +kernel
theorem dX12_packBlock_355 : decode cX12_packBlock 355 = .ok (.iinc 7 1, 3) := by decide +kernel
theorem dX12_packBlock_358 : decode cX12_packBlock 358 = .ok (.goto (-20), 3) := by decide +kernel
theorem dX12_packBlock_361 : decode cX12_packBlock 361 = .ok (.aload_n 0, 1) := by decide +kernel
theorem dX12_packBlock_362 : decode cX12_packBlock 362 = .ok (.invokevirtual 205, 3) := by decide +kernel
theorem dX12_packBlock_365 : decode cX12_packBlock 365 = .ok (.iconst 0, 1) := by decide +kernel
theorem dX12_packBlock_366 : decode cX12_packBlock 366 = .ok (.istore 7, 2) := by decide +kernel
theorem dX12_packBlock_368 : decode cX12_packBlock 368 = .ok (.iload 7, 2) := by decide +kernel
theorem dX12_packBlock_370 : decode cX12_packBlock 370 = .ok (.aload_n 0, 1) := by decide +kernel
theorem dX12_packBlock_371 : decode cX12_packBlock 371 = .ok (.getfield 25, 3) := by decide +kernel
theorem dX12_packBlock_374 : decode cX12_packBlock 374 = .ok (.invokestatic 191, 3) := by decide +kernel
theorem dX12_packBlock_377 : decode cX12_packBlock 377 = .ok (.if_icmp .ge 20, 3) := by decide +kernel
theorem dX12_packBlock_380 : decode cX12_packBlock 380 = .ok (.aload_n 0, 1) := by decide +kernel
theorem dX12_packBlock_381 : decode cX12_packBlock 381 = .ok (.aload_n 0, 1) := by decide +kernel
theorem dX12_packBlock_382 : decode cX12_packBlock 382 = .ok (.getfield 44, 3) := by decide +kernel
theorem dX12_packBlock_385 : decode cX12_packBlock 385 = .ok (.iload 7, 2) := by decide +kernel
theorem dX12_packBlock_387 : decode cX12_packBlock 387 = .ok (.iaload, 1) := by decide +kernel
theorem dX12_packBlock_388 : decode cX12_packBlock 388 = .ok (.invokevirtual 394, 3) := by decide +kernel
theorem dX12_packBlock_391 : decode cX12_packBlock 391 = .ok (.iinc 7 1, 3) := by decide +kernel
theorem dX12_packBlock_394 : decode cX12_packBlock 394 = .ok (.goto (-26), 3) := by decide +kernel
theorem dX12_packBlock_397 : decode cX12_packBlock 397 = .ok (.return_, 1) := by decide +kernel
theorem dX12_packBox_0 : decode cX12_packBox 0 = .ok (.aload_n 0, 1) := by decide +kernel
theorem dX12_packBox_1 : decode cX12_packBox 1 = .ok (.invokevirtual 451, 3) := by decide +kernel
theorem dX12_packBox_4 : decode cX12_packBox 4 = .ok (.aload_n 0, 1) := by decide +kernel
theorem dX12_packBox_5 : decode cX12_packBox 5 = .ok (.iconst 0, 1) := by decide +kernel
theorem dX12_packBox_6 : decode cX12_packBox 6 = .ok (.invokevirtual 394, 3) := by decide +kernel
theorem dX12_packBox_9 : decode cX12_packBox 9 = .ok (.aload_n 0, 1) := by decide +kernel
theorem dX12_packBox_10 : decode cX12_packBox 10 = .ok (.aload_n 0, 1) := by decide +kernel
theorem dX12_packBox_11 : decode cX12_packBox 11 = .ok (.getfield 25, 3) := by decide +kernel
theorem dX12_packBox_14 : decode cX12_packBox 14 = .ok (.invokevirtual 394, 3) := by decide +kernel
theorem dX12_packBox_17 : decode cX12_packBox 17 = .ok (.aload_n 0, 1) := by decide +kernel
theorem dX12_packBox_18 : decode cX12_packBox 18 = .ok (.aload_n 0, 1) := by decide +kernel
theorem dX12_packBox_19 : decode cX12_packBox 19 = .ok (.bipush 6, 2) := by decide +kernel
theorem dX12_packBox_21 : decode cX12_packBox 21 = .ok (.bipush 8, 2) := by decide +kernel
theorem dX12_packBox_23 : decode cX12_packBox 23 = .ok (.invokevirtual 445, 3) := by decide +kernel
theorem dX12_packBox_26 : decode cX12_packBox 26 = .ok (.i2l, 1) := by decide +kernel
theorem dX12_packBox_27 : decode cX12_packBox 27 = .ok (.iconst 4, 1) := by decide +kernel
theorem dX12_packBox_28 : decode cX12_packBox 28 = .ok (.invokevirtual 400, 3) := by decide +kernel
theorem dX12_packBox_31 : decode cX12_packBox 31 = .ok (.iconst 0, 1) := by decide +kernel
theorem dX12_packBox_32 : decode cX12_packBox 32 = .ok (.istore_n 1, 1) := by decide +kernel
theorem dX12_packBox_33 : decode cX12_packBox 33 = .ok (.iload_n 1, 1) := by decide +kernel
theorem dX12_packBox_34 : decode cX12_packBox 34 = .ok (.aload_n 0, 1) := by decide +kernel
theorem dX12_packBox_35 : decode cX12_packBox 35 = .ok (.getfield 126, 3) := by decide +kernel
theorem dX12_packBox_38 : decode cX12_packBox 38 = .ok (.if_icmp .ge 54, 3) := by decide +kernel
theorem dX12_packBox_41 : decode cX12_packBox 41 = .ok (.aload_n 0, 1) := by decide +kernel
theorem dX12_packBox_42 : decode cX12_packBox 42 = .ok (.getfield 391, 3) := by decide +kernel
theorem dX12_packBox_45 : decode cX12_packBox 45 = .ok (.sipush 3000, 3) := by decide +kernel
theorem dX12_packBox_48 : decode cX12_packBox 48 = .ok (.if_icmp .gt 44, 3) := by decide +kernel
theorem dX12_packBox_51 : decode cX12_packBox 51 = .ok (.aload_n 0, 1) := by decide +kernel
theorem dX12_packBox_52 : decode cX12_packBox 52 = .ok (.iload_n 1, 1) := by decide +kernel
theorem dX12_packBox_53 : decode cX12_packBox 53 = .ok (.iload_n 1, 1) := by decide +kernel
theorem dX12_packBox_54 : decode cX12_packBox 54 = .ok (.aload_n 0, 1) := by decide +kernel
theorem dX12_packBox_55 : decode cX12_packBox 55 = .ok (.getfield 22, 3) := by decide +kernel
theorem dX12_packBox_58 : decode cX12_packBox 58 = .ok (.iadd, 1) := by decide +kernel
theorem dX12_packBox_59 : decode cX12_packBox 59 = .ok (.aload_n 0, 1) := by decide +kernel
theorem dX12_packBox_60 : decode cX12_packBox 60 = .ok (.getfield 126, 3) := by decide +kernel
theorem dX12_packBox_63 : decode cX12_packBox 63 = .ok (.if_icmp .ge 12, 3) := by decide +kernel
theorem dX12_packBox_66 : decode cX12_packBox 66 = .ok (.iload_n 1, 1) := by decide +kernel
theorem dX12_packBox_67 : decode cX12_packBox 67 = .ok (.aload_n 0, 1) := by decide +kernel
theorem dX12_packBox_68 : decode cX12_packBox 68 = .ok (.getfield 22, 3) := by decide +kernel
theorem dX12_packBox_71 : decode cX12_packBox 71 = .ok (.iadd, 1) := by decide +kernel
theorem dX12_packBox_72 : decode cX12_packBox 72 = .ok (.goto 7, 3) := by decide +kernel
theorem dX12_packBox_75 : decode cX12_packBox 75 = .ok (.aload_n 0, 1) := by decide +kernel
theorem dX12_packBox_76 : decode cX12_packBox 76 = .ok (.getfield 126, 3) := by decide +kernel
theorem dX12_packBox_79 : decode cX12_packBox 79 = .ok (.invokevirtual 454, 3) := by decide +kernel
theorem dX12_packBox_82 : decode cX12_packBox 82 = .ok (.iload_n 1, 1) := by decide +kernel
theorem dX12_packBox_83 : decode cX12_packBox 83 = .ok (.aload_n 0, 1) := by decide +kernel
theorem dX12_packBox_84 : decode cX12_packBox 84 = .ok (.getfield 22, 3) := by decide +kernel
theorem dX12_packBox_87 : decode cX12_packBox 87 = .ok (.iadd, 1) := by decide +kernel
theorem dX12_packBox_88 : decode cX12_packBox 88 = .ok (.istore_n 1, 1) := by decide +kernel
theorem dX12_packBox_89 : decode cX12_packBox 89 = .ok (.goto (-56), 3) := by decide +kernel
theorem dX12_packBox_92 : decode cX12_packBox 92 = .ok (.aload_n 0, 1) := by decide +kernel
theorem dX12_packBox_93 : decode cX12_packBox 93 = .ok (.getfield 391, 3) := by decide +kernel
theorem dX12_packBox_96 : decode cX12_packBox 96 = .ok (.sipush 3000, 3) := by decide +kernel
theorem dX12_packBox_99 : decode cX12_packBox 99 = .ok (.if_icmp .le 4, 3) := by decide +kernel
theorem dX12_packBox_102 : decode cX12_packBox 102 = .ok (.return_, 1) := by decide +kernel
theorem dX12_packBox_103 : decode cX12_packBox 103 = .ok (.aload_n 0, 1) := by decide +kernel
theorem dX12_packBox_104 : decode cX12_packBox 104 = .ok (.getfield 391, 3) := by decide +kernel
theorem dX12_packBox_107 : decode cX12_packBox 107 = .ok (.istore_n 1, 1) := by decide +kernel
theorem dX12_packBox_108 : decode cX12_packBox 108 = .ok (.aload_n 0, 1) := by decide +kernel
theorem dX12_packBox_109 : decode cX12_packBox 109 = .ok (.iconst 0, 1) := by decide +kernel
theorem dX12_packBox_110 : decode cX12_packBox 110 = .ok (.invokevirtual 394, 3) := by decide +kernel
theorem dX12_packBox_113 : decode cX12_packBox 113 = .ok (.aload_n 0, 1) := by decide +kernel
theorem dX12_packBox_114 : decode cX12_packBox 114 = .ok (.aload_n 0, 1) := by decide +kernel
theorem dX12_packBox_115 : decode cX12_packBox 115 = .ok (.getfield 228, 3) := by decide +kernel
theorem dX12_packBox_118 : decode cX12_packBox 118 = .ok (.i2l, 1) := by decide +kernel
theorem dX12_packBox_119 : decode cX12_packBox 119 = .ok (.invokevirtual 457, 3) := by decide +kernel
theorem dX12_packBox_122 : decode cX12_packBox 122 = .ok (.iconst 0, 1) := by decide +kernel
theorem dX12_packBox_123 : decode cX12_packBox 123 = .ok (.istore_n 2, 1) := by decide +kernel
theorem dX12_packBox_124 : decode cX12_packBox 124 = .ok (.iload_n 2, 1) := by decide +kernel
theorem dX12_packBox_125 : decode cX12_packBox 125 = .ok (.aload_n 0, 1) := by decide +kernel
theorem dX12_packBox_126 : decode cX12_packBox 126 = .ok (.getfield 228, 3) := by decide +kernel
theorem dX12_packBox_129 : decode cX12_packBox 129 = .ok (.if_icmp .ge 46, 3) := by decide +kernel
theorem dX12_packBox_132 : decode cX12_packBox 132 = .ok (.aload_n 0, 1) := by decide +kernel
theorem dX12_packBox_133 : decode cX12_packBox 133 = .ok (.aload_n 0, 1) := by decide +kernel
theorem dX12_packBox_134 : decode cX12_packBox 134 = .ok (.getfield 65, 3) := by decide +kernel
theorem dX12_packBox_137 : decode cX12_packBox 137 = .ok (.iload_n 2, 1) := by decide +kernel
theorem dX12_packBox_138 : decode cX12_packBox 138 = .ok (.iaload, 1) := by decide +kernel
theorem dX12_packBox_139 : decode cX12_packBox 139 = .ok (.aload_n 0, 1) := by decide +kernel
theorem dX12_packBox_140 : decode cX12_packBox 140 = .ok (.getfield 68, 3) := by decide +kernel
theorem dX12_packBox_143 : decode cX12_packBox 143 = .ok (.iload_n 2, 1) := by decide +kernel
theorem dX12_packBox_144 : decode cX12_packBox 144 = .ok (.iaload, 1) := by decide +kernel
theorem dX12_packBox_145 : decode cX12_packBox 145 = .ok (.iadd, 1) := by decide +kernel
theorem dX12_packBox_146 : decode cX12_packBox 146 = .ok (.aload_n 0, 1) := by decide +kernel
theorem dX12_packBox_147 : decode cX12_packBox 147 = .ok (.getfield 25, 3) := by decide +kernel
theorem dX12_packBox_150 : decode cX12_packBox 150 = .ok (.invokestatic 191, 3) := by decide +kernel
theorem dX12_packBox_153 : decode cX12_packBox 153 = .ok (.iadd, 1) := by decide +kernel
theorem dX12_packBox_154 : decode cX12_packBox 154 = .ok (.i2l, 1) := by decide +kernel
theorem dX12_packBox_155 : decode cX12_packBox 155 = .ok (.invokevirtual 457, 3) := by decide +kernel
theorem dX12_packBox_158 : decode cX12_packBox 158 = .ok (.aload_n 0, 1) := by decide +kernel
theorem dX12_packBox_159 : decode cX12_packBox 159 = .ok (.aload_n 0, 1) := by decide +kernel
theorem dX12_packBox_160 : decode cX12_packBox 160 = .ok (.getfield 71, 3) := by decide +kernel
theorem dX12_packBox_163 : decode cX12_packBox 163 = .ok (.iload_n 2, 1) := by decide +kernel
theorem dX12_packBox_164 : decode cX12_packBox 164 = .ok (.iaload, 1) := by decide +kernel
theorem dX12_packBox_165 : decode cX12_packBox 165 = .ok (.i2l, 1) := by decide +kernel
theorem dX12_packBox_166 : decode cX12_packBox 166 = .ok (.invokevirtual 457, 3) := by decide +kernel
theorem dX12_packBox_169 : decode cX12_packBox 169 = .ok (.iinc 2 1, 3) := by decide +kernel
theorem dX12_packBox_172 : decode cX12_packBox 172 = .ok (.goto (-48), 3) := by decide +kernel
theorem dX12_packBox_175 : decode cX12_packBox 175 = .ok (.aload_n 0, 1) := by decide +kernel
theorem dX12_packBox_176 : decode cX12_packBox 176 = .ok (.getfield 391, 3) := by decide +kernel
theorem dX12_packBox_179 : decode cX12_packBox 179 = .ok (.iload_n 1, 1) := by decide +kernel
theorem dX12_packBox_180 : decode cX12_packBox 180 = .ok (.isub, 1) := by decide +kernel
theorem dX12_packBox_181 : decode cX12_packBox 181 = .ok (.iconst 4, 1) := by decide +kernel
theorem dX12_packBox_182 : decode cX12_packBox 182 = .ok (.irem, 1) := by decide +kernel
theorem dX12_packBox_183 : decode cX12_packBox 183 = .ok (.ifCond .eq 11, 3) := by decide +kernel
theorem dX12_packBox_186 : decode cX12_packBox 186 = .ok (.aload_n 0, 1) := by decide +kernel
theorem dX12_packBox_187 : decode cX12_packBox 187 = .ok (.iconst 0, 1) := by decide +kernel
theorem dX12_packBox_188 : decode cX12_packBox 188 = .ok (.invokevirtual 394, 3) := by decide +kernel
theorem dX12_packBox_191 : decode cX12_packBox 191 = .ok (.goto (-16), 3) := by decide +kernel
theorem dX12_packBox_194 : decode cX12_packBox 194 = .ok (.aload_n 0, 1) := by decide +kernel
theorem dX12_packBox_195 : decode cX12_packBox 195 = .ok (.aload_n 0, 1) := by decide +kernel
theorem dX12_packBox_196 : decode cX12_packBox 196 = .ok (.iload_n 1, 1) := by decide +kernel
theorem dX12_packBox_197 : decode cX12_packBox 197 = .ok (.aload_n 0, 1) := by decide +kernel
theorem dX12_packBox_198 : decode cX12_packBox 198 = .ok (.getfield 391, 3) := by decide +kernel
theorem dX12_packBox_201 : decode cX12_packBox 201 = .ok (.invokevirtual 445, 3) := by decide +kernel
theorem dX12_packBox_204 : decode cX12_packBox 204 = .ok (.i2l, 1) := by decide +kernel
theorem dX12_packBox_205 : decode cX12_packBox 205 = .ok (.iconst 4, 1) := by decide +kernel
theorem dX12_packBox_206 : decode cX12_packBox 206 = .ok (.invokevirtual 400, 3) := by decide +kernel
theorem dX12_packBox_209 : decode cX12_packBox 209 = .ok (.aload_n 0, 1) := by decide +kernel
theorem dX12_packBox_210 : decode cX12_packBox 210 = .ok (.getfield 391, 3) := by decide +kernel
theorem dX12_packBox_213 : decode cX12_packBox 213 = .ok (.iload_n 1, 1) := by decide +kernel
theorem dX12_packBox_214 : decode cX12_packBox 214 = .ok (.isub, 1) := by decide +kernel
theorem dX12_packBox_215 : decode cX12_packBox 215 = .ok (.istore_n 2, 1) := by decide +kernel
theorem dX12_packBox_216 : decode cX12_packBox 216 = .ok (.aload_n 0, 1) := by decide +kernel
theorem dX12_packBox_217 : decode cX12_packBox 217 = .ok (.getfield 391, 3) := by decide +kernel
theorem dX12_packBox_220 : decode cX12_packBox 220 = .ok (.istore_n 3, 1) := by decide +kernel
theorem dX12_packBox_221 : decode cX12_packBox 221 = .ok (.aload_n 0, 1) := by decide +kernel
theorem dX12_packBox_222 : decode cX12_packBox 222 = .ok (.lconst 0, 1) := by decide +kernel
theorem dX12_packBox_223 : decode cX12_packBox 223 = .ok (.iconst 4, 1) := by decide +kernel
theorem dX12_packBox_224 : decode cX12_packBox 224 = .ok (.invokevirtual 400, 3) := by decide +kernel
theorem dX12_packBox_227 : decode cX12_packBox 227 = .ok (.aload_n 0, 1) := by decide +kernel
theorem dX12_packBox_228 : decode cX12_packBox 228 = .ok (.iload_n 2, 1) := by decide +kernel
theorem dX12_packBox_229 : decode cX12_packBox 229 = .ok (.iconst 4, 1) := by decide +kernel
theorem dX12_packBox_230 : decode cX12_packBox 230 = .ok (.idiv, 1) := by decide +kernel
theorem dX12_packBox_231 : decode cX12_packBox 231 = .ok (.iconst 1, 1) := by decide +kernel
theorem dX12_packBox_232 : decode cX12_packBox 232 = .ok (.isub, 1) := by decide +kernel
theorem dX12_packBox_233 : decode cX12_packBox 233 = .ok (.i2l, 1) := by decide +kernel
theorem dX12_packBox_234 : decode cX12_packBox 234 = .ok (.iconst 4, 1) := by decide +kernel
theorem dX12_packBox_235 : decode cX12_packBox 235 = .ok (.invokevirtual 400, 3) := by decide +kernel
theorem dX12_packBox_238 : decode cX12_packBox 238 = .ok (.aload_n 0, 1) := by decide +kernel
theorem dX12_packBox_239 : decode cX12_packBox 239 = .ok (.iconst 0, 1) := by decide +kernel
theorem dX12_packBox_240 : decode cX12_packBox 240 = .ok (.invokevirtual 394, 3) := by decide +kernel
theorem dX12_packBox_243 : decode cX12_packBox 243 = .ok (.aload_n 0, 1) := by decide +kernel
theorem dX12_packBox_244 : decode cX12_packBox 244 = .ok (.aload_n 0, 1) := by decide +kernel
theorem dX12_packBox_245 : decode cX12_packBox 245 = .ok (.getfield 25, 3) := by decide +kernel
theorem dX12_packBox_248 : decode cX12_packBox 248 = .ok (.invokevirtual 394, 3) := by decide +kernel
theorem dX12_packBox_251 : decode cX12_packBox 251 = .ok (.aload_n 0, 1) := by decide +kernel
theorem dX12_packBox_252 : decode cX12_packBox 252 = .ok (.iload_n 3, 1) := by decide +kernel
theorem dX12_packBox_253 : decode cX12_packBox 253 = .ok (.iconst 4, 1) := by decide +kernel
theorem dX12_packBox_254 : decode cX12_packBox 254 = .ok (.iadd, 1) := by decide +kernel
theorem dX12_packBox_255 : decode cX12_packBox 255 = .ok (.iload_n 3, 1) := by decide +kernel
theorem dX12_packBox_256 : decode cX12_packBox 256 = .ok (.bipush 10, 2) := by decide +kernel
theorem dX12_packBox_258 : decode cX12_packBox 258 = .ok (.iadd, 1) := by decide +kernel
theorem dX12_packBox_259 : decode cX12_packBox 259 = .ok (.invokevirtual 445, 3) := by decide +kernel
theorem dX12_packBox_262 : decode cX12_packBox 262 = .ok (.istore 4, 2) := by decide +kernel
theorem dX12_packBox_264 : decode cX12_packBox 264 = .ok (.iconst 0, 1) := by decide +kernel
theorem dX12_packBox_265 : decode cX12_packBox 265 = .ok (.istore 5, 2) := by decide +kernel
theorem dX12_packBox_267 : decode cX12_packBox 267 = .ok (.iload 5, 2) := by decide +kernel
theorem dX12_packBox_269 : decode cX12_packBox 269 = .ok (.iconst 4, 1) := by decide +kernel
theorem dX12_packBox_270 : decode cX12_packBox 270 = .ok (.if_icmp .ge 30, 3) := by decide +kernel
theorem dX12_packBox_273 : decode cX12_packBox 273 = .ok (.aload_n 0, 1) := by decide +kernel
theorem dX12_packBox_274 : decode cX12_packBox 274 = .ok (.getfield 98, 3) := by decide +kernel
theorem dX12_packBox_277 : decode cX12_packBox 277 = .ok (.iload_n 3, 1) := by decide +kernel
theorem dX12_packBox_278 : decode cX12_packBox 278 = .ok (.iload 5, 2) := by decide +kernel
theorem dX12_packBox_280 : decode cX12_packBox 280 = .ok (.iadd, 1) := by decide +kernel
theorem dX12_packBox_281 : decode cX12_packBox 281 = .ok (.iload 4, 2) := by decide +kernel
theorem dX12_packBox_283 : decode cX12_packBox 283 = .ok (.bipush 8, 2) := by decide +kernel
theorem dX12_packBox_285 : decode cX12_packBox 285 = .ok (.iload 5, 2) := by decide +kernel
theorem dX12_packBox_287 : decode cX12_packBox 287 = .ok (.imul, 1) := by decide +kernel
theorem dX12_packBox_288 : decode cX12_packBox 288 = .ok (.ishr, 1) := by decide +kernel
theorem dX12_packBox_289 : decode cX12_packBox 289 = .ok (.sipush 255, 3) := by decide +kernel
theorem dX12_packBox_292 : decode cX12_packBox 292 = .ok (.iand, 1) := by decide +kernel
theorem dX12_packBox_293 : decode cX12_packBox 293 = .ok (.iastore, 1) := by decide +kernel
theorem dX12_packBox_294 : decode cX12_packBox 294 = .ok (.iinc 5 1, 3) := by decide +kernel
theorem dX12_packBox_297 : decode cX12_packBox 297 = .ok (.goto (-30), 3) := by decide +kernel
theorem dX12_packBox_300 : decode cX12_packBox 300 = .ok (.aload_n 0, 1) := by decide +kernel
theorem dX12_packBox_301 : decode cX12_packBox 301 = .ok (.bipush 89, 2) := by decide +kernel
theorem dX12_packBox_303 : decode cX12_packBox 303 = .ok (.invokevirtual 394, 3) := by decide +kernel
theorem dX12_packBox_306 : decode cX12_packBox 306 = .ok (.aload_n 0, 1) := by decide +kernel
theorem dX12_packBox_307 : decode cX12_packBox 307 = .ok (.bipush 90, 2) := by decide +kernel
theorem dX12_packBox_309 : decode cX12_packBox 309 = .ok (.invokevirtual 394, 3) := by decide +kernel
theorem dX12_packBox_312 : decode cX12_packBox 312 = .ok (.return_, 1) := by decide +kernel
theorem dX12_putMagic_0 : decode cX12_putMagic 0 = .ok (.aload_n 0, 1) := by decide +kernel
theorem dX12_putMagic_1 : decode cX12_putMagic 1 = .ok (.sipush 253, 3) := by decide +kernel
theorem dX12_putMagic_4 : decode cX12_putMagic 4 = .ok (.invokevirtual 394, 3) := by decide +kernel
theorem dX12_putMagic_7 : decode cX12_putMagic 7 = .ok (.aload_n 0, 1) := by decide +kernel
theorem dX12_putMagic_8 : decode cX12_putMagic 8 = .ok (.bipush 55, 2) := by decide +kernel
theorem dX12_putMagic_10 : decode cX12_putMagic 10 = .ok (.invokevirtual 394, 3) := by decide +kernel
theorem dX12_putMagic_13 : decode cX12_putMagic 13 = .ok (.aload_n 0, 1) := by decide +kernel
theorem dX12_putMagic_14 : decode cX12_putMagic 14 = .ok (.bipush 122, 2) := by decide +kernel
theorem dX12_putMagic_16 : decode cX12_putMagic 16 = .ok (.invokevirtual 394, 3) := by decide +kernel
theorem dX12_putMagic_19 : decode cX12_putMagic 19 = .ok (.aload_n 0, 1) := by decide +kernel
theorem dX12_putMagic_20 : decode cX12_putMagic 20 = .ok (.bipush 88, 2) := by decide +kernel
theorem dX12_putMagic_22 : decode cX12_putMagic 22 = .ok (.invokevirtual 394, 3) := by decide +kernel
theorem dX12_putMagic_25 : decode cX12_putMagic 25 = .ok (.aload_n 0, 1) := by decide +kernel
theorem dX12_putMagic_26 : decode cX12_putMagic 26 = .ok (.bipush 90, 2) := by decide +kernel
theorem dX12_putMagic_28 : decode cX12_putMagic 28 = .ok (.invokevirtual 394, 3) := by decide +kernel
theorem dX12_putMagic_31 : decode cX12_putMagic 31 = .ok (.aload_n 0, 1) := by decide +kernel
theorem dX12_putMagic_32 : decode cX12_putMagic 32 = .ok (.iconst 0, 1) := by decide +kernel
theorem dX12_putMagic_33 : decode cX12_putMagic 33 = .ok (.invokevirtual 394, 3) := by decide +kernel
theorem dX12_putMagic_36 : decode cX12_putMagic 36 = .ok (.return_, 1) := by decide +kernel
theorem dX12_clearTold_0 : decode cX12_clearTold 0 = .ok (.aload_n 0, 1) := by decide +kernel
theorem dX12_clearTold_1 : decode cX12_clearTold 1 = .ok (.iconst 0, 1) := by decide +kernel
theorem dX12_clearTold_2 : decode cX12_clearTold 2 = .ok (.putfield 222, 3) := by decide +kernel
theorem dX12_clearTold_5 : decode cX12_clearTold 5 = .ok (.aload_n 0, 1) := by decide +kernel
theorem dX12_clearTold_6 : decode cX12_clearTold 6 = .ok (.iconst 0, 1) := by decide +kernel
theorem dX12_clearTold_7 : decode cX12_clearTold 7 = .ok (.putfield 228, 3) := by decide +kernel
theorem dX12_clearTold_10 : decode cX12_clearTold 10 = .ok (.aload_n 0, 1) := by decide +kernel
theorem dX12_clearTold_11 : decode cX12_clearTold 11 = .ok (.iconst 0, 1) := by decide +kernel
theorem dX12_clearTold_12 : decode cX12_clearTold 12 = .ok (.putfield 372, 3) := by decide +kernel
theorem dX12_clearTold_15 : decode cX12_clearTold 15 = .ok (.aload_n 0, 1) := by decide +kernel
theorem dX12_clearTold_16 : decode cX12_clearTold 16 = .ok (.iconst 0, 1) := by decide +kernel
theorem dX12_clearTold_17 : decode cX12_clearTold 17 = .ok (.putfield 129, 3) := by decide +kernel
theorem dX12_clearTold_20 : decode cX12_clearTold 20 = .ok (.return_, 1) := by decide +kernel
theorem dX12_pack_0 : decode cX12_pack 0 = .ok (.aload_n 0, 1) := by decide +kernel
theorem dX12_pack_1 : decode cX12_pack 1 = .ok (.iconst 0, 1) := by decide +kernel
theorem dX12_pack_2 : decode cX12_pack 2 = .ok (.putfield 111, 3) := by decide +kernel
theorem dX12_pack_5 : decode cX12_pack 5 = .ok (.iload_n 1, 1) := by decide +kernel
theorem dX12_pack_6 : decode cX12_pack 6 = .ok (.ifCond .lt 8, 3) := by decide +kernel
theorem dX12_pack_9 : decode cX12_pack 9 = .ok (.iload_n 1, 1) := by decide +kernel
theorem dX12_pack_10 : decode cX12_pack 10 = .ok (.iconst 2, 1) := by decide +kernel
theorem dX12_pack_11 : decode cX12_pack 11 = .ok (.if_icmp .le 5, 3) := by decide +kernel
theorem dX12_pack_14 : decode cX12_pack 14 = .ok (.iconst (-1), 1) := by decide +kernel
theorem dX12_pack_15 : decode cX12_pack 15 = .ok (.ireturn, 1) := by decide +kernel
theorem dX12_pack_16 : decode cX12_pack 16 = .ok (.aload_n 0, 1) := by decide +kernel
theorem dX12_pack_17 : decode cX12_pack 17 = .ok (.iload_n 1, 1) := by decide +kernel
theorem dX12_pack_18 : decode cX12_pack 18 = .ok (.putfield 360, 3) := by decide +kernel
theorem dX12_pack_21 : decode cX12_pack 21 = .ok (.aload_n 0, 1) := by decide +kernel
theorem dX12_pack_22 : decode cX12_pack 22 = .ok (.iconst 0, 1) := by decide +kernel
theorem dX12_pack_23 : decode cX12_pack 23 = .ok (.putfield 225, 3) := by decide +kernel
theorem dX12_pack_26 : decode cX12_pack 26 = .ok (.aload_n 0, 1) := by decide +kernel
theorem dX12_pack_27 : decode cX12_pack 27 = .ok (.invokevirtual 461, 3) := by decide +kernel
theorem dX12_pack_30 : decode cX12_pack 30 = .ok (.aload_n 0, 1) := by decide +kernel
theorem dX12_pack_31 : decode cX12_pack 31 = .ok (.iconst 0, 1) := by decide +kernel
theorem dX12_pack_32 : decode cX12_pack 32 = .ok (.putfield 391, 3) := by decide +kernel
theorem dX12_pack_35 : decode cX12_pack 35 = .ok (.aload_n 0, 1) := by decide +kernel
theorem dX12_pack_36 : decode cX12_pack 36 = .ok (.invokevirtual 407, 3) := by decide +kernel
theorem dX12_pack_39 : decode cX12_pack 39 = .ok (.aload_n 0, 1) := by decide +kernel
theorem dX12_pack_40 : decode cX12_pack 40 = .ok (.getfield 107, 3) := by decide +kernel
theorem dX12_pack_43 : decode cX12_pack 43 = .ok (.ifCond .ne 10, 3) := by decide +kernel
theorem dX12_pack_46 : decode cX12_pack 46 = .ok (.aload_n 0, 1) := by decide +kernel
theorem dX12_pack_47 : decode cX12_pack 47 = .ok (.invokevirtual 464, 3) := by decide +kernel
theorem dX12_pack_50 : decode cX12_pack 50 = .ok (.goto 107, 3) := by decide +kernel
theorem dX12_pack_53 : decode cX12_pack 53 = .ok (.aload_n 0, 1) := by decide +kernel
theorem dX12_pack_54 : decode cX12_pack 54 = .ok (.getfield 107, 3) := by decide +kernel
theorem dX12_pack_57 : decode cX12_pack 57 = .ok (.iconst 1, 1) := by decide +kernel
theorem dX12_pack_58 : decode cX12_pack 58 = .ok (.if_icmp .ne 95, 3) := by decide +kernel
theorem dX12_pack_61 : decode cX12_pack 61 = .ok (.aload_n 0, 1) := by decide +kernel
theorem dX12_pack_62 : decode cX12_pack 62 = .ok (.aload_n 0, 1) := by decide +kernel
theorem dX12_pack_63 : decode cX12_pack 63 = .ok (.getfield 126, 3) := by decide +kernel
theorem dX12_pack_66 : decode cX12_pack 66 = .ok (.putfield 208, 3) := by decide +kernel
theorem dX12_pack_69 : decode cX12_pack 69 = .ok (.iconst 0, 1) := by decide +kernel
theorem dX12_pack_70 : decode cX12_pack 70 = .ok (.istore_n 2, 1) := by decide +kernel
theorem dX12_pack_71 : decode cX12_pack 71 = .ok (.iload_n 2, 1) := by decide +kernel
theorem dX12_pack_72 : decode cX12_pack 72 = .ok (.aload_n 0, 1) := by decide +kernel
theorem dX12_pack_73 : decode cX12_pack 73 = .ok (.getfield 126, 3) := by decide +kernel
theorem dX12_pack_76 : decode cX12_pack 76 = .ok (.if_icmp .ge 21, 3) := by decide +kernel
theorem dX12_pack_79 : decode cX12_pack 79 = .ok (.aload_n 0, 1) := by decide +kernel
theorem dX12_pack_80 : decode cX12_pack 80 = .ok (.getfield 47, 3) := by decide +kernel
theorem dX12_pack_83 : decode cX12_pack 83 = .ok (.iload_n 2, 1) := by decide +kernel
theorem dX12_pack_84 : decode cX12_pack 84 = .ok (.aload_n 0, 1) := by decide +kernel
theorem dX12_pack_85 : decode cX12_pack 85 = .ok (.getfield 28, 3) := by decide +kernel
theorem dX12_pack_88 : decode cX12_pack 88 = .ok (.iload_n 2, 1) := by decide +kernel
theorem dX12_pack_89 : decode cX12_pack 89 = .ok (.iaload, 1) := by decide +kernel
theorem dX12_pack_90 : decode cX12_pack 90 = .ok (.iastore, 1) := by decide +kernel
theorem dX12_pack_91 : decode cX12_pack 91 = .ok (.iinc 2 1, 3) := by decide +kernel
theorem dX12_pack_94 : decode cX12_pack 94 = .ok (.goto (-23), 3) := by decide +kernel
theorem dX12_pack_97 : decode cX12_pack 97 = .ok (.aload_n 0, 1) := by decide +kernel
theorem dX12_pack_98 : decode cX12_pack 98 = .ok (.invokevirtual 448, 3) := by decide +kernel
theorem dX12_pack_101 : decode cX12_pack 101 = .ok (.aload_n 0, 1) := by decide +kernel
theorem dX12_pack_102 : decode cX12_pack 102 = .ok (.getfield 62, 3) := by decide +kernel
theorem dX12_pack_105 : decode cX12_pack 105 = .ok (.iconst 0, 1) := by decide +kernel
theorem dX12_pack_106 : decode cX12_pack 106 = .ok (.iconst 0, 1) := by decide +kernel
theorem dX12_pack_107 : decode cX12_pack 107 = .ok (.iastore, 1) := by decide +kernel
theorem dX12_pack_108 : decode cX12_pack 108 = .ok (.aload_n 0, 1) := by decide +kernel
theorem dX12_pack_109 : decode cX12_pack 109 = .ok (.getfield 65, 3) := by decide +kernel
theorem dX12_pack_112 : decode cX12_pack 112 = .ok (.iconst 0, 1) := by decide +kernel
theorem dX12_pack_113 : decode cX12_pack 113 = .ok (.iconst 0, 1) := by decide +kernel
theorem dX12_pack_114 : decode cX12_pack 114 = .ok (.iastore, 1) := by decide +kernel
theorem dX12_pack_115 : decode cX12_pack 115 = .ok (.aload_n 0, 1) := by decide +kernel
theorem dX12_pack_116 : decode cX12_pack 116 = .ok (.getfield 68, 3) := by decide +kernel
theorem dX12_pack_119 : decode cX12_pack 119 = .ok (.iconst 0, 1) := by decide +kernel
theorem dX12_pack_120 : decode cX12_pack 120 = .ok (.aload_n 0, 1) := by decide +kernel
theorem dX12_pack_121 : decode cX12_pack 121 = .ok (.getfield 391, 3) := by decide +kernel
theorem dX12_pack_124 : decode cX12_pack 124 = .ok (.iastore, 1) := by decide +kernel
theorem dX12_pack_125 : decode cX12_pack 125 = .ok (.aload_n 0, 1) := by decide +kernel
theorem dX12_pack_126 : decode cX12_pack 126 = .ok (.getfield 71, 3) := by decide +kernel
theorem dX12_pack_129 : decode cX12_pack 129 = .ok (.iconst 0, 1) := by decide +kernel
theorem dX12_pack_130 : decode cX12_pack 130 = .ok (.aload_n 0, 1) := by decide +kernel
theorem dX12_pack_131 : decode cX12_pack 131 = .ok (.getfield 126, 3) := by decide +kernel
theorem dX12_pack_134 : decode cX12_pack 134 = .ok (.iastore, 1) := by decide +kernel
theorem dX12_pack_135 : decode cX12_pack 135 = .ok (.aload_n 0, 1) := by decide +kernel
theorem dX12_pack_136 : decode cX12_pack 136 = .ok (.getfield 74, 3) := by decide +kernel
theorem dX12_pack_139 : decode cX12_pack 139 = .ok (.iconst 0, 1) := by decide +kernel
theorem dX12_pack_140 : decode cX12_pack 140 = .ok (.aload_n 0, 1) := by decide +kernel
theorem dX12_pack_141 : decode cX12_pack 141 = .ok (.getfield 434, 3) := by decide +kernel
theorem dX12_pack_144 : decode cX12_pack 144 = .ok (.iastore, 1) := by decide +kernel
theorem dX12_pack_145 : decode cX12_pack 145 = .ok (.aload_n 0, 1) := by decide +kernel
theorem dX12_pack_146 : decode cX12_pack 146 = .ok (.iconst 1, 1) := by decide +kernel
theorem dX12_pack_147 : decode cX12_pack 147 = .ok (.putfield 228, 3) := by decide +kernel
theorem dX12_pack_150 : decode cX12_pack 150 = .ok (.goto 7, 3) := by decide +kernel
theorem dX12_pack_153 : decode cX12_pack 153 = .ok (.aload_n 0, 1) := by decide +kernel
theorem dX12_pack_154 : decode cX12_pack 154 = .ok (.invokevirtual 467, 3) := by decide +kernel
theorem dX12_pack_157 : decode cX12_pack 157 = .ok (.aload_n 0, 1) := by decide +kernel
theorem dX12_pack_158 : decode cX12_pack 158 = .ok (.aload_n 0, 1) := by decide +kernel
theorem dX12_pack_159 : decode cX12_pack 159 = .ok (.getfield 231, 3) := by decide +kernel
theorem dX12_pack_162 : decode cX12_pack 162 = .ok (.putfield 77, 3) := by decide +kernel
theorem dX12_pack_165 : decode cX12_pack 165 = .ok (.aload_n 0, 1) := by decide +kernel
theorem dX12_pack_166 : decode cX12_pack 166 = .ok (.iconst 0, 1) := by decide +kernel
theorem dX12_pack_167 : decode cX12_pack 167 = .ok (.putfield 126, 3) := by decide +kernel
theorem dX12_pack_170 : decode cX12_pack 170 = .ok (.aload_n 0, 1) := by decide +kernel
theorem dX12_pack_171 : decode cX12_pack 171 = .ok (.getfield 391, 3) := by decide +kernel
theorem dX12_pack_174 : decode cX12_pack 174 = .ok (.sipush 3000, 3) := by decide +kernel
theorem dX12_pack_177 : decode cX12_pack 177 = .ok (.if_icmp .le 21, 3) := by decide +kernel
theorem dX12_pack_180 : decode cX12_pack 180 = .ok (.aload_n 0, 1) := by decide +kernel
theorem dX12_pack_181 : decode cX12_pack 181 = .ok (.iconst 0, 1) := by decide +kernel
theorem dX12_pack_182 : decode cX12_pack 182 = .ok (.putfield 222, 3) := by decide +kernel
theorem dX12_pack_185 : decode cX12_pack 185 = .ok (.aload_n 0, 1) := by decide +kernel
theorem dX12_pack_186 : decode cX12_pack 186 = .ok (.iconst 0, 1) := by decide +kernel
theorem dX12_pack_187 : decode cX12_pack 187 = .ok (.putfield 228, 3) := by decide +kernel
theorem dX12_pack_190 : decode cX12_pack 190 = .ok (.aload_n 0, 1) := by decide +kernel
theorem dX12_pack_191 : decode cX12_pack 191 = .ok (.iconst (-1), 1) := by decide +kernel
theorem dX12_pack_192 : decode cX12_pack 192 = .ok (.putfield 77, 3) := by decide +kernel
theorem dX12_pack_195 : decode cX12_pack 195 = .ok (.bipush (-3), 2) := by decide +kernel
theorem dX12_pack_197 : decode cX12_pack 197 = .ok (.ireturn, 1) := by decide +kernel
theorem dX12_pack_198 : decode cX12_pack 198 = .ok (.aload_n 0, 1) := by decide +kernel
theorem dX12_pack_199 : decode cX12_pack 199 = .ok (.aload_n 0, 1) := by decide +kernel
theorem dX12_pack_200 : decode cX12_pack 200 = .ok (.getfield 391, 3) := by decide +kernel
theorem dX12_pack_203 : decode cX12_pack 203 = .ok (.putfield 129, 3) := by decide +kernel
theorem dX12_pack_206 : decode cX12_pack 206 = .ok (.iconst 0, 1) := by decide +kernel
theorem dX12_pack_207 : decode cX12_pack 207 = .ok (.istore_n 2, 1) := by decide +kernel
theorem dX12_pack_208 : decode cX12_pack 208 = .ok (.iload_n 2, 1) := by decide +kernel
theorem dX12_pack_209 : decode cX12_pack 209 = .ok (.aload_n 0, 1) := by decide +kernel
theorem dX12_pack_210 : decode cX12_pack 210 = .ok (.getfield 391, 3) := by decide +kernel
theorem dX12_pack_213 : decode cX12_pack 213 = .ok (.if_icmp .ge 21, 3) := by decide +kernel
theorem dX12_pack_216 : decode cX12_pack 216 = .ok (.aload_n 0, 1) := by decide +kernel
theorem dX12_pack_217 : decode cX12_pack 217 = .ok (.getfield 32, 3) := by decide +kernel
theorem dX12_pack_220 : decode cX12_pack 220 = .ok (.iload_n 2, 1) := by decide +kernel
