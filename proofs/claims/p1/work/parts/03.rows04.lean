theorem dX12_readProperty_28 : decode cX12_readProperty 28 = .ok (.irem, 1) := by decide +kernel
theorem dX12_readProperty_29 : decode cX12_readProperty 29 = .ok (.putfield 255, 3) := by decide +kernel
theorem dX12_readProperty_32 : decode cX12_readProperty 32 = .ok (.aload_n 0, 1) := by decide +kernel
theorem dX12_readProperty_33 : decode cX12_readProperty 33 = .ok (.iload_n 1, 1) := by decide +kernel
theorem dX12_readProperty_34 : decode cX12_readProperty 34 = .ok (.bipush 45, 2) := by decide +kernel
theorem dX12_readProperty_36 : decode cX12_readProperty 36 = .ok (.idiv, 1) := by decide +kernel
theorem dX12_readProperty_37 : decode cX12_readProperty 37 = .ok (.putfield 252, 3) := by decide +kernel
theorem dX12_readProperty_40 : decode cX12_readProperty 40 = .ok (.iload_n 1, 1) := by decide +kernel
theorem dX12_readProperty_41 : decode cX12_readProperty 41 = .ok (.sipush 225, 3) := by decide +kernel
theorem dX12_readProperty_44 : decode cX12_readProperty 44 = .ok (.if_icmp .ge 16, 3) := by decide +kernel
theorem dX12_readProperty_47 : decode cX12_readProperty 47 = .ok (.aload_n 0, 1) := by decide +kernel
theorem dX12_readProperty_48 : decode cX12_readProperty 48 = .ok (.getfield 258, 3) := by decide +kernel
theorem dX12_readProperty_51 : decode cX12_readProperty 51 = .ok (.aload_n 0, 1) := by decide +kernel
theorem dX12_readProperty_52 : decode cX12_readProperty 52 = .ok (.getfield 255, 3) := by decide +kernel
theorem dX12_readProperty_55 : decode cX12_readProperty 55 = .ok (.iadd, 1) := by decide +kernel
theorem dX12_readProperty_56 : decode cX12_readProperty 56 = .ok (.iconst 4, 1) := by decide +kernel
theorem dX12_readProperty_57 : decode cX12_readProperty 57 = .ok (.if_icmp .le 10, 3) := by decide +kernel
theorem dX12_readProperty_60 : decode cX12_readProperty 60 = .ok (.aload_n 0, 1) := by decide +kernel
theorem dX12_readProperty_61 : decode cX12_readProperty 61 = .ok (.iconst 3, 1) := by decide +kernel
theorem dX12_readProperty_62 : decode cX12_readProperty 62 = .ok (.invokevirtual 479, 3) := by decide +kernel
theorem dX12_readProperty_65 : decode cX12_readProperty 65 = .ok (.iconst 0, 1) := by decide +kernel
theorem dX12_readProperty_66 : decode cX12_readProperty 66 = .ok (.ireturn, 1) := by decide +kernel
theorem dX12_readProperty_67 : decode cX12_readProperty 67 = .ok (.iconst 1, 1) := by decide +kernel
theorem dX12_readProperty_68 : decode cX12_readProperty 68 = .ok (.ireturn, 1) := by decide +kernel
theorem dX12_openPlain_0 : decode cX12_openPlain 0 = .ok (.aload_n 0, 1) := by decide +kernel
theorem dX12_openPlain_1 : decode cX12_openPlain 1 = .ok (.invokevirtual 542, 3) := by decide +kernel
theorem dX12_openPlain_4 : decode cX12_openPlain 4 = .ok (.ifCond .ne 4, 3) := by decide +kernel
theorem dX12_openPlain_7 : decode cX12_openPlain 7 = .ok (.return_, 1) := by decide +kernel
theorem dX12_openPlain_8 : decode cX12_openPlain 8 = .ok (.aload_n 0, 1) := by decide +kernel
theorem dX12_openPlain_9 : decode cX12_openPlain 9 = .ok (.aload_n 0, 1) := by decide +kernel
theorem dX12_openPlain_10 : decode cX12_openPlain 10 = .ok (.iconst 4, 1) := by decide +kernel
theorem dX12_openPlain_11 : decode cX12_openPlain 11 = .ok (.invokevirtual 546, 3) := by decide +kernel
theorem dX12_openPlain_14 : decode cX12_openPlain 14 = .ok (.putfield 515, 3) := by decide +kernel
theorem dX12_openPlain_17 : decode cX12_openPlain 17 = .ok (.aload_n 0, 1) := by decide +kernel
theorem dX12_openPlain_18 : decode cX12_openPlain 18 = .ok (.getfield 470, 3) := by decide +kernel
theorem dX12_openPlain_21 : decode cX12_openPlain 21 = .ok (.ifCond .ne 19, 3) := by decide +kernel
theorem dX12_openPlain_24 : decode cX12_openPlain 24 = .ok (.aload_n 0, 1) := by decide +kernel
theorem dX12_openPlain_25 : decode cX12_openPlain 25 = .ok (.getfield 515, 3) := by decide +kernel
theorem dX12_openPlain_28 : decode cX12_openPlain 28 = .ok (.iload_n 1, 1) := by decide +kernel
theorem dX12_openPlain_29 : decode cX12_openPlain 29 = .ok (.i2l, 1) := by decide +kernel
theorem dX12_openPlain_30 : decode cX12_openPlain 30 = .ok (.lcmp, 1) := by decide +kernel
theorem dX12_openPlain_31 : decode cX12_openPlain 31 = .ok (.ifCond .le 9, 3) := by decide +kernel
theorem dX12_openPlain_34 : decode cX12_openPlain 34 = .ok (.aload_n 0, 1) := by decide +kernel
theorem dX12_openPlain_35 : decode cX12_openPlain 35 = .ok (.bipush 15, 2) := by decide +kernel
theorem dX12_openPlain_37 : decode cX12_openPlain 37 = .ok (.invokevirtual 479, 3) := by decide +kernel
theorem dX12_openPlain_40 : decode cX12_openPlain 40 = .ok (.aload_n 0, 1) := by decide +kernel
theorem dX12_openPlain_41 : decode cX12_openPlain 41 = .ok (.bipush 8, 2) := by decide +kernel
theorem dX12_openPlain_43 : decode cX12_openPlain 43 = .ok (.invokevirtual 546, 3) := by decide +kernel
theorem dX12_openPlain_46 : decode cX12_openPlain 46 = .ok (.lstore_n 2, 1) := by decide +kernel
theorem dX12_openPlain_47 : decode cX12_openPlain 47 = .ok (.aload_n 0, 1) := by decide +kernel
theorem dX12_openPlain_48 : decode cX12_openPlain 48 = .ok (.getfield 470, 3) := by decide +kernel
theorem dX12_openPlain_51 : decode cX12_openPlain 51 = .ok (.ifCond .ne 31, 3) := by decide +kernel
theorem dX12_openPlain_54 : decode cX12_openPlain 54 = .ok (.lload_n 2, 1) := by decide +kernel
theorem dX12_openPlain_55 : decode cX12_openPlain 55 = .ok (.ldc2_w 177, 3) := by decide +kernel
theorem dX12_openPlain_58 : decode cX12_openPlain 58 = .ok (.lcmp, 1) := by decide +kernel
theorem dX12_openPlain_59 : decode cX12_openPlain 59 = .ok (.ifCond .eq 23, 3) := by decide +kernel
theorem dX12_openPlain_62 : decode cX12_openPlain 62 = .ok (.lload_n 2, 1) := by decide +kernel
theorem dX12_openPlain_63 : decode cX12_openPlain 63 = .ok (.lconst 0, 1) := by decide +kernel
theorem dX12_openPlain_64 : decode cX12_openPlain 64 = .ok (.lcmp, 1) := by decide +kernel
theorem dX12_openPlain_65 : decode cX12_openPlain 65 = .ok (.ifCond .lt 11, 3) := by decide +kernel
theorem dX12_openPlain_68 : decode cX12_openPlain 68 = .ok (.lload_n 2, 1) := by decide +kernel
theorem dX12_openPlain_69 : decode cX12_openPlain 69 = .ok (.ldc2_w 549, 3) := by decide +kernel
theorem dX12_openPlain_72 : decode cX12_openPlain 72 = .ok (.lcmp, 1) := by decide +kernel
theorem dX12_openPlain_73 : decode cX12_openPlain 73 = .ok (.ifCond .le 9, 3) := by decide +kernel
theorem dX12_openPlain_76 : decode cX12_openPlain 76 = .ok (.aload_n 0, 1) := by decide +kernel
theorem dX12_openPlain_77 : decode cX12_openPlain 77 = .ok (.bipush 13, 2) := by decide +kernel
theorem dX12_openPlain_79 : decode cX12_openPlain 79 = .ok (.invokevirtual 479, 3) := by decide +kernel
theorem dX12_openPlain_82 : decode cX12_openPlain 82 = .ok (.aload_n 0, 1) := by decide +kernel
theorem dX12_openPlain_83 : decode cX12_openPlain 83 = .ok (.invokevirtual 551, 3) := by decide +kernel
theorem dX12_openPlain_86 : decode cX12_openPlain 86 = .ok (.aload_n 0, 1) := by decide +kernel
theorem dX12_openPlain_87 : decode cX12_openPlain 87 = .ok (.invokevirtual 407, 3) := by decide +kernel
theorem dX12_openPlain_90 : decode cX12_openPlain 90 = .ok (.aload_n 0, 1) := by decide +kernel
theorem dX12_openPlain_91 : decode cX12_openPlain 91 = .ok (.lload_n 2, 1) := by decide +kernel
theorem dX12_openPlain_92 : decode cX12_openPlain 92 = .ok (.ldc2_w 177, 3) := by decide +kernel
theorem dX12_openPlain_95 : decode cX12_openPlain 95 = .ok (.lcmp, 1) := by decide +kernel
theorem dX12_openPlain_96 : decode cX12_openPlain 96 = .ok (.ifCond .ne 7, 3) := by decide +kernel
theorem dX12_openPlain_99 : decode cX12_openPlain 99 = .ok (.iconst (-1), 1) := by decide +kernel
theorem dX12_openPlain_100 : decode cX12_openPlain 100 = .ok (.goto 5, 3) := by decide +kernel
theorem dX12_openPlain_103 : decode cX12_openPlain 103 = .ok (.lload_n 2, 1) := by decide +kernel
theorem dX12_openPlain_104 : decode cX12_openPlain 104 = .ok (.l2i, 1) := by decide +kernel
theorem dX12_openPlain_105 : decode cX12_openPlain 105 = .ok (.putfield 518, 3) := by decide +kernel
theorem dX12_openPlain_108 : decode cX12_openPlain 108 = .ok (.aload_n 0, 1) := by decide +kernel
theorem dX12_openPlain_109 : decode cX12_openPlain 109 = .ok (.getfield 470, 3) := by decide +kernel
theorem dX12_openPlain_112 : decode cX12_openPlain 112 = .ok (.ifCond .ne 36, 3) := by decide +kernel
theorem dX12_openPlain_115 : decode cX12_openPlain 115 = .ok (.aload_n 0, 1) := by decide +kernel
theorem dX12_openPlain_116 : decode cX12_openPlain 116 = .ok (.getfield 538, 3) := by decide +kernel
theorem dX12_openPlain_119 : decode cX12_openPlain 119 = .ok (.ifCond .ne 29, 3) := by decide +kernel
theorem dX12_openPlain_122 : decode cX12_openPlain 122 = .ok (.aload_n 0, 1) := by decide +kernel
theorem dX12_openPlain_123 : decode cX12_openPlain 123 = .ok (.getfield 518, 3) := by decide +kernel
theorem dX12_openPlain_126 : decode cX12_openPlain 126 = .ok (.ifCond .lt 14, 3) := by decide +kernel
theorem dX12_openPlain_129 : decode cX12_openPlain 129 = .ok (.aload_n 0, 1) := by decide +kernel
theorem dX12_openPlain_130 : decode cX12_openPlain 130 = .ok (.getfield 208, 3) := by decide +kernel
theorem dX12_openPlain_133 : decode cX12_openPlain 133 = .ok (.aload_n 0, 1) := by decide +kernel
theorem dX12_openPlain_134 : decode cX12_openPlain 134 = .ok (.getfield 518, 3) := by decide +kernel
theorem dX12_openPlain_137 : decode cX12_openPlain 137 = .ok (.if_icmp .ge 11, 3) := by decide +kernel
theorem dX12_openPlain_140 : decode cX12_openPlain 140 = .ok (.aload_n 0, 1) := by decide +kernel
theorem dX12_openPlain_141 : decode cX12_openPlain 141 = .ok (.iconst 0, 1) := by decide +kernel
theorem dX12_openPlain_142 : decode cX12_openPlain 142 = .ok (.invokevirtual 554, 3) := by decide +kernel
theorem dX12_openPlain_145 : decode cX12_openPlain 145 = .ok (.goto (-37), 3) := by decide +kernel
theorem dX12_openPlain_148 : decode cX12_openPlain 148 = .ok (.aload_n 0, 1) := by decide +kernel
theorem dX12_openPlain_149 : decode cX12_openPlain 149 = .ok (.getfield 470, 3) := by decide +kernel
theorem dX12_openPlain_152 : decode cX12_openPlain 152 = .ok (.ifCond .le 4, 3) := by decide +kernel
theorem dX12_openPlain_155 : decode cX12_openPlain 155 = .ok (.return_, 1) := by decide +kernel
theorem dX12_openPlain_156 : decode cX12_openPlain 156 = .ok (.aload_n 0, 1) := by decide +kernel
theorem dX12_openPlain_157 : decode cX12_openPlain 157 = .ok (.getfield 518, 3) := by decide +kernel
theorem dX12_openPlain_160 : decode cX12_openPlain 160 = .ok (.ifCond .lt 17, 3) := by decide +kernel
theorem dX12_openPlain_163 : decode cX12_openPlain 163 = .ok (.aload_n 0, 1) := by decide +kernel
theorem dX12_openPlain_164 : decode cX12_openPlain 164 = .ok (.getfield 538, 3) := by decide +kernel
theorem dX12_openPlain_167 : decode cX12_openPlain 167 = .ok (.ifCond .eq 10, 3) := by decide +kernel
theorem dX12_openPlain_170 : decode cX12_openPlain 170 = .ok (.aload_n 0, 1) := by decide +kernel
theorem dX12_openPlain_171 : decode cX12_openPlain 171 = .ok (.bipush 7, 2) := by decide +kernel
theorem dX12_openPlain_173 : decode cX12_openPlain 173 = .ok (.invokevirtual 479, 3) := by decide +kernel
theorem dX12_openPlain_176 : decode cX12_openPlain 176 = .ok (.return_, 1) := by decide +kernel
theorem dX12_openPlain_177 : decode cX12_openPlain 177 = .ok (.aload_n 0, 1) := by decide +kernel
theorem dX12_openPlain_178 : decode cX12_openPlain 178 = .ok (.getfield 518, 3) := by decide +kernel
theorem dX12_openPlain_181 : decode cX12_openPlain 181 = .ok (.ifCond .lt 17, 3) := by decide +kernel
theorem dX12_openPlain_184 : decode cX12_openPlain 184 = .ok (.aload_n 0, 1) := by decide +kernel
theorem dX12_openPlain_185 : decode cX12_openPlain 185 = .ok (.getfield 485, 3) := by decide +kernel
theorem dX12_openPlain_188 : decode cX12_openPlain 188 = .ok (.lconst 0, 1) := by decide +kernel
theorem dX12_openPlain_189 : decode cX12_openPlain 189 = .ok (.lcmp, 1) := by decide +kernel
theorem dX12_openPlain_190 : decode cX12_openPlain 190 = .ok (.ifCond .eq 8, 3) := by decide +kernel
theorem dX12_openPlain_193 : decode cX12_openPlain 193 = .ok (.aload_n 0, 1) := by decide +kernel
theorem dX12_openPlain_194 : decode cX12_openPlain 194 = .ok (.iconst 1, 1) := by decide +kernel
theorem dX12_openPlain_195 : decode cX12_openPlain 195 = .ok (.invokevirtual 554, 3) := by decide +kernel
theorem dX12_openPlain_198 : decode cX12_openPlain 198 = .ok (.aload_n 0, 1) := by decide +kernel
theorem dX12_openPlain_199 : decode cX12_openPlain 199 = .ok (.getfield 470, 3) := by decide +kernel
theorem dX12_openPlain_202 : decode cX12_openPlain 202 = .ok (.ifCond .ne 18, 3) := by decide +kernel
theorem dX12_openPlain_205 : decode cX12_openPlain 205 = .ok (.aload_n 0, 1) := by decide +kernel
theorem dX12_openPlain_206 : decode cX12_openPlain 206 = .ok (.getfield 485, 3) := by decide +kernel
theorem dX12_openPlain_209 : decode cX12_openPlain 209 = .ok (.lconst 0, 1) := by decide +kernel
theorem dX12_openPlain_210 : decode cX12_openPlain 210 = .ok (.lcmp, 1) := by decide +kernel
theorem dX12_openPlain_211 : decode cX12_openPlain 211 = .ok (.ifCond .eq 9, 3) := by decide +kernel
theorem dX12_openPlain_214 : decode cX12_openPlain 214 = .ok (.aload_n 0, 1) := by decide +kernel
theorem dX12_openPlain_215 : decode cX12_openPlain 215 = .ok (.bipush 7, 2) := by decide +kernel
theorem dX12_openPlain_217 : decode cX12_openPlain 217 = .ok (.invokevirtual 479, 3) := by decide +kernel
theorem dX12_openPlain_220 : decode cX12_openPlain 220 = .ok (.return_, 1) := by decide +kernel
theorem dX12_openChunks_0 : decode cX12_openChunks 0 = .ok (.aload_n 0, 1) := by decide +kernel
theorem dX12_openChunks_1 : decode cX12_openChunks 1 = .ok (.iconst 3, 1) := by decide +kernel
theorem dX12_openChunks_2 : decode cX12_openChunks 2 = .ok (.putfield 557, 3) := by decide +kernel
theorem dX12_openChunks_5 : decode cX12_openChunks 5 = .ok (.aload_n 0, 1) := by decide +kernel
theorem dX12_openChunks_6 : decode cX12_openChunks 6 = .ok (.iconst 0, 1) := by decide +kernel
theorem dX12_openChunks_7 : decode cX12_openChunks 7 = .ok (.putfield 434, 3) := by decide +kernel
theorem dX12_openChunks_10 : decode cX12_openChunks 10 = .ok (.aload_n 0, 1) := by decide +kernel
theorem dX12_openChunks_11 : decode cX12_openChunks 11 = .ok (.aload_n 0, 1) := by decide +kernel
theorem dX12_openChunks_12 : decode cX12_openChunks 12 = .ok (.getfield 208, 3) := by decide +kernel
theorem dX12_openChunks_15 : decode cX12_openChunks 15 = .ok (.putfield 508, 3) := by decide +kernel
theorem dX12_openChunks_18 : decode cX12_openChunks 18 = .ok (.iconst 1, 1) := by decide +kernel
theorem dX12_openChunks_19 : decode cX12_openChunks 19 = .ok (.istore_n 1, 1) := by decide +kernel
theorem dX12_openChunks_20 : decode cX12_openChunks 20 = .ok (.iconst 0, 1) := by decide +kernel
theorem dX12_openChunks_21 : decode cX12_openChunks 21 = .ok (.istore_n 2, 1) := by decide +kernel
theorem dX12_openChunks_22 : decode cX12_openChunks 22 = .ok (.aload_n 0, 1) := by decide +kernel
theorem dX12_openChunks_23 : decode cX12_openChunks 23 = .ok (.invokevirtual 407, 3) := by decide +kernel
theorem dX12_openChunks_26 : decode cX12_openChunks 26 = .ok (.iload_n 1, 1) := by decide +kernel
theorem dX12_openChunks_27 : decode cX12_openChunks 27 = .ok (.ifCond .eq 105, 3) := by decide +kernel
theorem dX12_openChunks_30 : decode cX12_openChunks 30 = .ok (.aload_n 0, 1) := by decide +kernel
theorem dX12_openChunks_31 : decode cX12_openChunks 31 = .ok (.getfield 470, 3) := by decide +kernel
theorem dX12_openChunks_34 : decode cX12_openChunks 34 = .ok (.ifCond .ne 98, 3) := by decide +kernel
theorem dX12_openChunks_37 : decode cX12_openChunks 37 = .ok (.aload_n 0, 1) := by decide +kernel
theorem dX12_openChunks_38 : decode cX12_openChunks 38 = .ok (.invokevirtual 482, 3) := by decide +kernel
theorem dX12_openChunks_41 : decode cX12_openChunks 41 = .ok (.istore_n 3, 1) := by decide +kernel
theorem dX12_openChunks_42 : decode cX12_openChunks 42 = .ok (.aload_n 0, 1) := by decide +kernel
theorem dX12_openChunks_43 : decode cX12_openChunks 43 = .ok (.getfield 470, 3) := by decide +kernel
theorem dX12_openChunks_46 : decode cX12_openChunks 46 = .ok (.ifCond .gt 7, 3) := by decide +kernel
theorem dX12_openChunks_49 : decode cX12_openChunks 49 = .ok (.iload_n 3, 1) := by decide +kernel
theorem dX12_openChunks_50 : decode cX12_openChunks 50 = .ok (.ifCond .ne 8, 3) := by decide +kernel
theorem dX12_openChunks_53 : decode cX12_openChunks 53 = .ok (.iconst 0, 1) := by decide +kernel
theorem dX12_openChunks_54 : decode cX12_openChunks 54 = .ok (.istore_n 1, 1) := by decide +kernel
theorem dX12_openChunks_55 : decode cX12_openChunks 55 = .ok (.goto 74, 3) := by decide +kernel
theorem dX12_openChunks_58 : decode cX12_openChunks 58 = .ok (.iload_n 3, 1) := by decide +kernel
theorem dX12_openChunks_59 : decode cX12_openChunks 59 = .ok (.iconst 3, 1) := by decide +kernel
theorem dX12_openChunks_60 : decode cX12_openChunks 60 = .ok (.if_icmp .ge 30, 3) := by decide +kernel
theorem dX12_openChunks_63 : decode cX12_openChunks 63 = .ok (.iload_n 3, 1) := by decide +kernel
theorem dX12_openChunks_64 : decode cX12_openChunks 64 = .ok (.iconst 2, 1) := by decide +kernel
theorem dX12_openChunks_65 : decode cX12_openChunks 65 = .ok (.if_icmp .ne 15, 3) := by decide +kernel
theorem dX12_openChunks_68 : decode cX12_openChunks 68 = .ok (.iload_n 2, 1) := by decide +kernel
theorem dX12_openChunks_69 : decode cX12_openChunks 69 = .ok (.ifCond .ne 11, 3) := by decide +kernel
theorem dX12_openChunks_72 : decode cX12_openChunks 72 = .ok (.aload_n 0, 1) := by decide +kernel
theorem dX12_openChunks_73 : decode cX12_openChunks 73 = .ok (.iconst 5, 1) := by decide +kernel
theorem dX12_openChunks_74 : decode cX12_openChunks 74 = .ok (.invokevirtual 479, 3) := by decide +kernel
theorem dX12_openChunks_77 : decode cX12_openChunks 77 = .ok (.goto 52, 3) := by decide +kernel
theorem dX12_openChunks_80 : decode cX12_openChunks 80 = .ok (.iconst 1, 1) := by decide +kernel
theorem dX12_openChunks_81 : decode cX12_openChunks 81 = .ok (.istore_n 2, 1) := by decide +kernel
theorem dX12_openChunks_82 : decode cX12_openChunks 82 = .ok (.aload_n 0, 1) := by decide +kernel
theorem dX12_openChunks_83 : decode cX12_openChunks 83 = .ok (.iload_n 3, 1) := by decide +kernel
theorem dX12_openChunks_84 : decode cX12_openChunks 84 = .ok (.invokevirtual 560, 3) := by decide +kernel
theorem dX12_openChunks_87 : decode cX12_openChunks 87 = .ok (.goto 42, 3) := by decide +kernel
theorem dX12_openChunks_90 : decode cX12_openChunks 90 = .ok (.iload_n 3, 1) := by decide +kernel
theorem dX12_openChunks_91 : decode cX12_openChunks 91 = .ok (.sipush 128, 3) := by decide +kernel
theorem dX12_openChunks_94 : decode cX12_openChunks 94 = .ok (.if_icmp .lt 15, 3) := by decide +kernel
theorem dX12_openChunks_97 : decode cX12_openChunks 97 = .ok (.iload_n 3, 1) := by decide +kernel
theorem dX12_openChunks_98 : decode cX12_openChunks 98 = .ok (.iconst 5, 1) := by decide +kernel
theorem dX12_openChunks_99 : decode cX12_openChunks 99 = .ok (.ishr, 1) := by decide +kernel
theorem dX12_openChunks_100 : decode cX12_openChunks 100 = .ok (.iconst 3, 1) := by decide +kernel
theorem dX12_openChunks_101 : decode cX12_openChunks 101 = .ok (.iand, 1) := by decide +kernel
theorem dX12_openChunks_102 : decode cX12_openChunks 102 = .ok (.aload_n 0, 1) := by decide +kernel
theorem dX12_openChunks_103 : decode cX12_openChunks 103 = .ok (.getfield 557, 3) := by decide +kernel
theorem dX12_openChunks_106 : decode cX12_openChunks 106 = .ok (.if_icmp .ge 11, 3) := by decide +kernel
theorem dX12_openChunks_109 : decode cX12_openChunks 109 = .ok (.aload_n 0, 1) := by decide +kernel
theorem dX12_openChunks_110 : decode cX12_openChunks 110 = .ok (.iconst 5, 1) := by decide +kernel
theorem dX12_openChunks_111 : decode cX12_openChunks 111 = .ok (.invokevirtual 479, 3) := by decide +kernel
theorem dX12_openChunks_114 : decode cX12_openChunks 114 = .ok (.goto 15, 3) := by decide +kernel
theorem dX12_openChunks_117 : decode cX12_openChunks 117 = .ok (.iconst 1, 1) := by decide +kernel
theorem dX12_openChunks_118 : decode cX12_openChunks 118 = .ok (.istore_n 2, 1) := by decide +kernel
theorem dX12_openChunks_119 : decode cX12_openChunks 119 = .ok (.aload_n 0, 1) := by decide +kernel
theorem dX12_openChunks_120 : decode cX12_openChunks 120 = .ok (.iload_n 3, 1) := by decide +kernel
theorem dX12_openChunks_121 : decode cX12_openChunks 121 = .ok (.iload_n 3, 1) := by decide +kernel
theorem dX12_openChunks_122 : decode cX12_openChunks 122 = .ok (.iconst 5, 1) := by decide +kernel
theorem dX12_openChunks_123 : decode cX12_openChunks 123 = .ok (.ishr, 1) := by decide +kernel
theorem dX12_openChunks_124 : decode cX12_openChunks 124 = .ok (.iconst 3, 1) := by decide +kernel
theorem dX12_openChunks_125 : decode cX12_openChunks 125 = .ok (.iand, 1) := by decide +kernel
theorem dX12_openChunks_126 : decode cX12_openChunks 126 = .ok (.invokevirtual 563, 3) := by decide +kernel
theorem dX12_openChunks_129 : decode cX12_openChunks 129 = .ok (.goto (-103), 3) := by decide +kernel
theorem dX12_openChunks_132 : decode cX12_openChunks 132 = .ok (.return_, 1) := by decide +kernel
theorem dX12_sum_0 : decode cX12_sum 0 = .ok (.aload_n 0, 1) := by decide +kernel
theorem dX12_sum_1 : decode cX12_sum 1 = .ok (.invokevirtual 174, 3) := by decide +kernel
theorem dX12_sum_4 : decode cX12_sum 4 = .ok (.iload_n 1, 1) := by decide +kernel
theorem dX12_sum_5 : decode cX12_sum 5 = .ok (.istore_n 3, 1) := by decide +kernel
theorem dX12_sum_6 : decode cX12_sum 6 = .ok (.iload_n 3, 1) := by decide +kernel
theorem dX12_sum_7 : decode cX12_sum 7 = .ok (.iload_n 2, 1) := by decide +kernel
theorem dX12_sum_8 : decode cX12_sum 8 = .ok (.if_icmp .ge 19, 3) := by decide +kernel
theorem dX12_sum_11 : decode cX12_sum 11 = .ok (.aload_n 0, 1) := by decide +kernel
theorem dX12_sum_12 : decode cX12_sum 12 = .ok (.aload_n 0, 1) := by decide +kernel
theorem dX12_sum_13 : decode cX12_sum 13 = .ok (.getfield 28, 3) := by decide +kernel
theorem dX12_sum_16 : decode cX12_sum 16 = .ok (.iload_n 3, 1) := by decide +kernel
theorem dX12_sum_17 : decode cX12_sum 17 = .ok (.iaload, 1) := by decide +kernel
theorem dX12_sum_18 : decode cX12_sum 18 = .ok (.invokevirtual 182, 3) := by decide +kernel
theorem dX12_sum_21 : decode cX12_sum 21 = .ok (.iinc 3 1, 3) := by decide +kernel
theorem dX12_sum_24 : decode cX12_sum 24 = .ok (.goto (-18), 3) := by decide +kernel
theorem dX12_sum_27 : decode cX12_sum 27 = .ok (.aload_n 0, 1) := by decide +kernel
theorem dX12_sum_28 : decode cX12_sum 28 = .ok (.invokevirtual 195, 3) := by decide +kernel
theorem dX12_sum_31 : decode cX12_sum 31 = .ok (.ireturn, 1) := by decide +kernel
theorem dX12_wantByte_0 : decode cX12_wantByte 0 = .ok (.aload_n 0, 1) := by decide +kernel
theorem dX12_wantByte_1 : decode cX12_wantByte 1 = .ok (.invokevirtual 482, 3) := by decide +kernel
theorem dX12_wantByte_4 : decode cX12_wantByte 4 = .ok (.istore_n 3, 1) := by decide +kernel
theorem dX12_wantByte_5 : decode cX12_wantByte 5 = .ok (.aload_n 0, 1) := by decide +kernel
theorem dX12_wantByte_6 : decode cX12_wantByte 6 = .ok (.getfield 470, 3) := by decide +kernel
theorem dX12_wantByte_9 : decode cX12_wantByte 9 = .ok (.ifCond .ne 13, 3) := by decide +kernel
theorem dX12_wantByte_12 : decode cX12_wantByte 12 = .ok (.iload_n 3, 1) := by decide +kernel
theorem dX12_wantByte_13 : decode cX12_wantByte 13 = .ok (.iload_n 1, 1) := by decide +kernel
theorem dX12_wantByte_14 : decode cX12_wantByte 14 = .ok (.if_icmp .eq 8, 3) := by decide +kernel
theorem dX12_wantByte_17 : decode cX12_wantByte 17 = .ok (.aload_n 0, 1) := by decide +kernel
theorem dX12_wantByte_18 : decode cX12_wantByte 18 = .ok (.iload_n 2, 1) := by decide +kernel
theorem dX12_wantByte_19 : decode cX12_wantByte 19 = .ok (.invokevirtual 479, 3) := by decide +kernel
theorem dX12_wantByte_22 : decode cX12_wantByte 22 = .ok (.return_, 1) := by decide +kernel
theorem dX12_wantSum_0 : decode cX12_wantSum 0 = .ok (.aload_n 0, 1) := by decide +kernel
theorem dX12_wantSum_1 : decode cX12_wantSum 1 = .ok (.iconst 4, 1) := by decide +kernel
theorem dX12_wantSum_2 : decode cX12_wantSum 2 = .ok (.invokevirtual 546, 3) := by decide +kernel
theorem dX12_wantSum_5 : decode cX12_wantSum 5 = .ok (.l2i, 1) := by decide +kernel
theorem dX12_wantSum_6 : decode cX12_wantSum 6 = .ok (.istore_n 2, 1) := by decide +kernel
theorem dX12_wantSum_7 : decode cX12_wantSum 7 = .ok (.aload_n 0, 1) := by decide +kernel
theorem dX12_wantSum_8 : decode cX12_wantSum 8 = .ok (.getfield 470, 3) := by decide +kernel
theorem dX12_wantSum_11 : decode cX12_wantSum 11 = .ok (.ifCond .ne 14, 3) := by decide +kernel
theorem dX12_wantSum_14 : decode cX12_wantSum 14 = .ok (.iload_n 2, 1) := by decide +kernel
theorem dX12_wantSum_15 : decode cX12_wantSum 15 = .ok (.iload_n 1, 1) := by decide +kernel
theorem dX12_wantSum_16 : decode cX12_wantSum 16 = .ok (.if_icmp .eq 9, 3) := by decide +kernel
theorem dX12_wantSum_19 : decode cX12_wantSum 19 = .ok (.aload_n 0, 1) := by decide +kernel
theorem dX12_wantSum_20 : decode cX12_wantSum 20 = .ok (.bipush 9, 2) := by decide +kernel
theorem dX12_wantSum_22 : decode cX12_wantSum 22 = .ok (.invokevirtual 479, 3) := by decide +kernel
theorem dX12_wantSum_25 : decode cX12_wantSum 25 = .ok (.return_, 1) := by decide +kernel
theorem dX12_magic_0 : decode cX12_magic 0 = .ok (.iload_n 0, 1) := by decide +kernel
theorem dX12_magic_1 : decode cX12_magic 1 = .ok (.ifCond .ne 9, 3) := by decide +kernel
theorem dX12_magic_4 : decode cX12_magic 4 = .ok (.sipush 253, 3) := by decide +kernel
theorem dX12_magic_7 : decode cX12_magic 7 = .ok (.goto 44, 3) := by decide +kernel
theorem dX12_magic_10 : decode cX12_magic 10 = .ok (.iload_n 0, 1) := by decide +kernel
theorem dX12_magic_11 : decode cX12_magic 11 = .ok (.iconst 1, 1) := by decide +kernel
theorem dX12_magic_12 : decode cX12_magic 12 = .ok (.if_icmp .ne 8, 3) := by decide +kernel
theorem dX12_magic_15 : decode cX12_magic 15 = .ok (.bipush 55, 2) := by decide +kernel
theorem dX12_magic_17 : decode cX12_magic 17 = .ok (.goto 34, 3) := by decide +kernel
theorem dX12_magic_20 : decode cX12_magic 20 = .ok (.iload_n 0, 1) := by decide +kernel
theorem dX12_magic_21 : decode cX12_magic 21 = .ok (.iconst 2, 1) := by decide +kernel
theorem dX12_magic_22 : decode cX12_magic 22 = .ok (.if_icmp .ne 8, 3) := by decide +kernel
theorem dX12_magic_25 : decode cX12_magic 25 = .ok (.bipush 122, 2) := by decide +kernel
theorem dX12_magic_27 : decode cX12_magic 27 = .ok (.goto 24, 3) := by decide +kernel
theorem dX12_magic_30 : decode cX12_magic 30 = .ok (.iload_n 0, 1) := by decide +kernel
theorem dX12_magic_31 : decode cX12_magic 31 = .ok (.iconst 3, 1) := by decide +kernel
theorem dX12_magic_32 : decode cX12_magic 32 = .ok (.if_icmp .ne 8, 3) := by decide +kernel
theorem dX12_magic_35 : decode cX12_magic 35 = .ok (.bipush 88, 2) := by decide +kernel
theorem dX12_magic_37 : decode cX12_magic 37 = .ok (.goto 14, 3) := by decide +kernel
theorem dX12_magic_40 : decode cX12_magic 40 = .ok (.iload_n 0, 1) := by decide +kernel
theorem dX12_magic_41 : decode cX12_magic 41 = .ok (.iconst 4, 1) := by decide +kernel
theorem dX12_magic_42 : decode cX12_magic 42 = .ok (.if_icmp .ne 8, 3) := by decide +kernel
theorem dX12_magic_45 : decode cX12_magic 45 = .ok (.bipush 90, 2) := by decide +kernel
theorem dX12_magic_47 : decode cX12_magic 47 = .ok (.goto 4, 3) := by decide +kernel
theorem dX12_magic_50 : decode cX12_magic 50 = .ok (.iconst 0, 1) := by decide +kernel
theorem dX12_magic_51 : decode cX12_magic 51 = .ok (.ireturn, 1) := by decide +kernel
theorem dX12_openBox_0 : decode cX12_openBox 0 = .ok (.iconst 0, 1) := by decide +kernel
theorem dX12_openBox_1 : decode cX12_openBox 1 = .ok (.istore_n 2, 1) := by decide +kernel
theorem dX12_openBox_2 : decode cX12_openBox 2 = .ok (.iload_n 2, 1) := by decide +kernel
theorem dX12_openBox_3 : decode cX12_openBox 3 = .ok (.bipush 6, 2) := by decide +kernel
theorem dX12_openBox_5 : decode cX12_openBox 5 = .ok (.if_icmp .ge 18, 3) := by decide +kernel
theorem dX12_openBox_8 : decode cX12_openBox 8 = .ok (.aload_n 0, 1) := by decide +kernel
theorem dX12_openBox_9 : decode cX12_openBox 9 = .ok (.iload_n 2, 1) := by decide +kernel
theorem dX12_openBox_10 : decode cX12_openBox 10 = .ok (.invokestatic 566, 3) := by decide +kernel
theorem dX12_openBox_13 : decode cX12_openBox 13 = .ok (.iconst 2, 1) := by decide +kernel
theorem dX12_openBox_14 : decode cX12_openBox 14 = .ok (.invokevirtual 569, 3) := by decide +kernel
theorem dX12_openBox_17 : decode cX12_openBox 17 = .ok (.iinc 2 1, 3) := by decide +kernel
theorem dX12_openBox_20 : decode cX12_openBox 20 = .ok (.goto (-18), 3) := by decide +kernel
theorem dX12_openBox_23 : decode cX12_openBox 23 = .ok (.aload_n 0, 1) := by decide +kernel
theorem dX12_openBox_24 : decode cX12_openBox 24 = .ok (.iconst 0, 1) := by decide +kernel
theorem dX12_openBox_25 : decode cX12_openBox 25 = .ok (.bipush 8, 2) := by decide +kernel
theorem dX12_openBox_27 : decode cX12_openBox 27 = .ok (.invokevirtual 569, 3) := by decide +kernel
theorem dX12_openBox_30 : decode cX12_openBox 30 = .ok (.aload_n 0, 1) := by decide +kernel
theorem dX12_openBox_31 : decode cX12_openBox 31 = .ok (.aload_n 0, 1) := by decide +kernel
theorem dX12_openBox_32 : decode cX12_openBox 32 = .ok (.invokevirtual 482, 3) := by decide +kernel
theorem dX12_openBox_35 : decode cX12_openBox 35 = .ok (.putfield 572, 3) := by decide +kernel
theorem dX12_openBox_38 : decode cX12_openBox 38 = .ok (.aload_n 0, 1) := by decide +kernel
theorem dX12_openBox_39 : decode cX12_openBox 39 = .ok (.getfield 470, 3) := by decide +kernel
theorem dX12_openBox_42 : decode cX12_openBox 42 = .ok (.ifCond .ne 26, 3) := by decide +kernel
theorem dX12_openBox_45 : decode cX12_openBox 45 = .ok (.aload_n 0, 1) := by decide +kernel
theorem dX12_openBox_46 : decode cX12_openBox 46 = .ok (.getfield 572, 3) := by decide +kernel
theorem dX12_openBox_49 : decode cX12_openBox 49 = .ok (.ifCond .eq 19, 3) := by decide +kernel
theorem dX12_openBox_52 : decode cX12_openBox 52 = .ok (.aload_n 0, 1) := by decide +kernel
theorem dX12_openBox_53 : decode cX12_openBox 53 = .ok (.getfield 572, 3) := by decide +kernel
theorem dX12_openBox_56 : decode cX12_openBox 56 = .ok (.invokestatic 191, 3) := by decide +kernel
theorem dX12_openBox_59 : decode cX12_openBox 59 = .ok (.ifCond .ne 9, 3) := by decide +kernel
theorem dX12_openBox_62 : decode cX12_openBox 62 = .ok (.aload_n 0, 1) := by decide +kernel
theorem dX12_openBox_63 : decode cX12_openBox 63 = .ok (.bipush 14, 2) := by decide +kernel
theorem dX12_openBox_65 : decode cX12_openBox 65 = .ok (.invokevirtual 479, 3) := by decide +kernel
theorem dX12_openBox_68 : decode cX12_openBox 68 = .ok (.aload_n 0, 1) := by decide +kernel
theorem dX12_openBox_69 : decode cX12_openBox 69 = .ok (.aload_n 0, 1) := by decide +kernel
theorem dX12_openBox_70 : decode cX12_openBox 70 = .ok (.bipush 6, 2) := by decide +kernel
theorem dX12_openBox_72 : decode cX12_openBox 72 = .ok (.bipush 8, 2) := by decide +kernel
theorem dX12_openBox_74 : decode cX12_openBox 74 = .ok (.invokevirtual 575, 3) := by decide +kernel
theorem dX12_openBox_77 : decode cX12_openBox 77 = .ok (.invokevirtual 578, 3) := by decide +kernel
theorem dX12_openBox_80 : decode cX12_openBox 80 = .ok (.aload_n 0, 1) := by decide +kernel
theorem dX12_openBox_81 : decode cX12_openBox 81 = .ok (.getfield 470, 3) := by decide +kernel
theorem dX12_openBox_84 : decode cX12_openBox 84 = .ok (.ifCond .ne 7, 3) := by decide +kernel
theorem dX12_openBox_87 : decode cX12_openBox 87 = .ok (.iconst 1, 1) := by decide +kernel
theorem dX12_openBox_88 : decode cX12_openBox 88 = .ok (.goto 4, 3) := by decide +kernel
theorem dX12_openBox_91 : decode cX12_openBox 91 = .ok (.iconst 0, 1) := by decide +kernel
theorem dX12_openBox_92 : decode cX12_openBox 92 = .ok (.istore_n 2, 1) := by decide +kernel
theorem dX12_openBox_93 : decode cX12_openBox 93 = .ok (.iload_n 2, 1) := by decide +kernel
theorem dX12_openBox_94 : decode cX12_openBox 94 = .ok (.ifCond .eq 61, 3) := by decide +kernel
theorem dX12_openBox_97 : decode cX12_openBox 97 = .ok (.aload_n 0, 1) := by decide +kernel
theorem dX12_openBox_98 : decode cX12_openBox 98 = .ok (.getfield 473, 3) := by decide +kernel
theorem dX12_openBox_101 : decode cX12_openBox 101 = .ok (.istore_n 3, 1) := by decide +kernel
theorem dX12_openBox_102 : decode cX12_openBox 102 = .ok (.aload_n 0, 1) := by decide +kernel
theorem dX12_openBox_103 : decode cX12_openBox 103 = .ok (.invokevirtual 482, 3) := by decide +kernel
theorem dX12_openBox_106 : decode cX12_openBox 106 = .ok (.istore 4, 2) := by decide +kernel
theorem dX12_openBox_108 : decode cX12_openBox 108 = .ok (.aload_n 0, 1) := by decide +kernel
theorem dX12_openBox_109 : decode cX12_openBox 109 = .ok (.getfield 470, 3) := by decide +kernel
theorem dX12_openBox_112 : decode cX12_openBox 112 = .ok (.ifCond .le 4, 3) := by decide +kernel
theorem dX12_openBox_115 : decode cX12_openBox 115 = .ok (.return_, 1) := by decide +kernel
theorem dX12_openBox_116 : decode cX12_openBox 116 = .ok (.iload 4, 2) := by decide +kernel
theorem dX12_openBox_118 : decode cX12_openBox 118 = .ok (.ifCond .ne 9, 3) := by decide +kernel
theorem dX12_openBox_121 : decode cX12_openBox 121 = .ok (.aload_n 0, 1) := by decide +kernel
theorem dX12_openBox_122 : decode cX12_openBox 122 = .ok (.iload_n 3, 1) := by decide +kernel
theorem dX12_openBox_123 : decode cX12_openBox 123 = .ok (.invokevirtual 581, 3) := by decide +kernel
theorem dX12_openBox_126 : decode cX12_openBox 126 = .ok (.return_, 1) := by decide +kernel
theorem dX12_openBox_127 : decode cX12_openBox 127 = .ok (.aload_n 0, 1) := by decide +kernel
theorem dX12_openBox_128 : decode cX12_openBox 128 = .ok (.iload_n 3, 1) := by decide +kernel
theorem dX12_openBox_129 : decode cX12_openBox 129 = .ok (.iconst 4, 1) := by decide +kernel
theorem dX12_openBox_130 : decode cX12_openBox 130 = .ok (.iload 4, 2) := by decide +kernel
theorem dX12_openBox_132 : decode cX12_openBox 132 = .ok (.imul, 1) := by decide +kernel
theorem dX12_openBox_133 : decode cX12_openBox 133 = .ok (.iconst 4, 1) := by decide +kernel
theorem dX12_openBox_134 : decode cX12_openBox 134 = .ok (.iadd, 1) := by decide +kernel
theorem dX12_openBox_135 : decode cX12_openBox 135 = .ok (.iload_n 1, 1) := by decide +kernel
theorem dX12_openBox_136 : decode cX12_openBox 136 = .ok (.invokevirtual 584, 3) := by decide +kernel
theorem dX12_openBox_139 : decode cX12_openBox 139 = .ok (.aload_n 0, 1) := by decide +kernel
theorem dX12_openBox_140 : decode cX12_openBox 140 = .ok (.getfield 470, 3) := by decide +kernel
theorem dX12_openBox_143 : decode cX12_openBox 143 = .ok (.ifCond .ne 7, 3) := by decide +kernel
theorem dX12_openBox_146 : decode cX12_openBox 146 = .ok (.iconst 1, 1) := by decide +kernel
theorem dX12_openBox_147 : decode cX12_openBox 147 = .ok (.goto 4, 3) := by decide +kernel
theorem dX12_openBox_150 : decode cX12_openBox 150 = .ok (.iconst 0, 1) := by decide +kernel
theorem dX12_openBox_151 : decode cX12_openBox 151 = .ok (.istore_n 2, 1) := by decide +kernel
theorem dX12_openBox_152 : decode cX12_openBox 152 = .ok (.goto (-59), 3) := by decide +kernel
theorem dX12_openBox_155 : decode cX12_openBox 155 = .ok (.return_, 1) := by decide +kernel
theorem dX12_open_0 : decode cX12_open 0 = .ok (.aload_n 0, 1) := by decide +kernel
theorem dX12_open_1 : decode cX12_open 1 = .ok (.iconst 0, 1) := by decide +kernel
theorem dX12_open_2 : decode cX12_open 2 = .ok (.putfield 111, 3) := by decide +kernel
theorem dX12_open_5 : decode cX12_open 5 = .ok (.aload_n 0, 1) := by decide +kernel
theorem dX12_open_6 : decode cX12_open 6 = .ok (.invokevirtual 461, 3) := by decide +kernel
theorem dX12_open_9 : decode cX12_open 9 = .ok (.aload_n 0, 1) := by decide +kernel
theorem dX12_open_10 : decode cX12_open 10 = .ok (.iconst 0, 1) := by decide +kernel
theorem dX12_open_11 : decode cX12_open 11 = .ok (.putfield 225, 3) := by decide +kernel
theorem dX12_open_14 : decode cX12_open 14 = .ok (.aload_n 0, 1) := by decide +kernel
theorem dX12_open_15 : decode cX12_open 15 = .ok (.iconst 0, 1) := by decide +kernel
theorem dX12_open_16 : decode cX12_open 16 = .ok (.putfield 473, 3) := by decide +kernel
theorem dX12_open_19 : decode cX12_open 19 = .ok (.aload_n 0, 1) := by decide +kernel
theorem dX12_open_20 : decode cX12_open 20 = .ok (.aload_n 0, 1) := by decide +kernel
theorem dX12_open_21 : decode cX12_open 21 = .ok (.getfield 126, 3) := by decide +kernel
theorem dX12_open_24 : decode cX12_open 24 = .ok (.putfield 476, 3) := by decide +kernel
theorem dX12_open_27 : decode cX12_open 27 = .ok (.aload_n 0, 1) := by decide +kernel
theorem dX12_open_28 : decode cX12_open 28 = .ok (.iconst 0, 1) := by decide +kernel
theorem dX12_open_29 : decode cX12_open 29 = .ok (.putfield 470, 3) := by decide +kernel
theorem dX12_open_32 : decode cX12_open 32 = .ok (.aload_n 0, 1) := by decide +kernel
theorem dX12_open_33 : decode cX12_open 33 = .ok (.iconst 0, 1) := by decide +kernel
theorem dX12_open_34 : decode cX12_open 34 = .ok (.putfield 208, 3) := by decide +kernel
theorem dX12_open_37 : decode cX12_open 37 = .ok (.aload_n 0, 1) := by decide +kernel
theorem dX12_open_38 : decode cX12_open 38 = .ok (.iconst 0, 1) := by decide +kernel
theorem dX12_open_39 : decode cX12_open 39 = .ok (.putfield 249, 3) := by decide +kernel
theorem dX12_open_42 : decode cX12_open 42 = .ok (.aload_n 0, 1) := by decide +kernel
theorem dX12_open_43 : decode cX12_open 43 = .ok (.iconst 0, 1) := by decide +kernel
theorem dX12_open_44 : decode cX12_open 44 = .ok (.putfield 505, 3) := by decide +kernel
theorem dX12_open_47 : decode cX12_open 47 = .ok (.aload_n 0, 1) := by decide +kernel
theorem dX12_open_48 : decode cX12_open 48 = .ok (.iconst 0, 1) := by decide +kernel
theorem dX12_open_49 : decode cX12_open 49 = .ok (.putfield 508, 3) := by decide +kernel
theorem dX12_open_52 : decode cX12_open 52 = .ok (.aload_n 0, 1) := by decide +kernel
theorem dX12_open_53 : decode cX12_open 53 = .ok (.iconst 0, 1) := by decide +kernel
theorem dX12_open_54 : decode cX12_open 54 = .ok (.putfield 538, 3) := by decide +kernel
theorem dX12_open_57 : decode cX12_open 57 = .ok (.aload_n 0, 1) := by decide +kernel
theorem dX12_open_58 : decode cX12_open 58 = .ok (.iconst (-1), 1) := by decide +kernel
theorem dX12_open_59 : decode cX12_open 59 = .ok (.putfield 518, 3) := by decide +kernel
theorem dX12_open_62 : decode cX12_open 62 = .ok (.aload_n 0, 1) := by decide +kernel
theorem dX12_open_63 : decode cX12_open 63 = .ok (.invokevirtual 407, 3) := by decide +kernel
theorem dX12_open_66 : decode cX12_open 66 = .ok (.aload_n 0, 1) := by decide +kernel
theorem dX12_open_67 : decode cX12_open 67 = .ok (.getfield 107, 3) := by decide +kernel
theorem dX12_open_70 : decode cX12_open 70 = .ok (.ifCond .ne 11, 3) := by decide +kernel
theorem dX12_open_73 : decode cX12_open 73 = .ok (.aload_n 0, 1) := by decide +kernel
theorem dX12_open_74 : decode cX12_open 74 = .ok (.iload_n 1, 1) := by decide +kernel
theorem dX12_open_75 : decode cX12_open 75 = .ok (.invokevirtual 617, 3) := by decide +kernel
theorem dX12_open_78 : decode cX12_open 78 = .ok (.goto 111, 3) := by decide +kernel
theorem dX12_open_81 : decode cX12_open 81 = .ok (.aload_n 0, 1) := by decide +kernel
theorem dX12_open_82 : decode cX12_open 82 = .ok (.getfield 107, 3) := by decide +kernel
theorem dX12_open_85 : decode cX12_open 85 = .ok (.iconst 1, 1) := by decide +kernel
theorem dX12_open_86 : decode cX12_open 86 = .ok (.if_icmp .ne 98, 3) := by decide +kernel
theorem dX12_open_89 : decode cX12_open 89 = .ok (.aload_n 0, 1) := by decide +kernel
theorem dX12_open_90 : decode cX12_open 90 = .ok (.aload_n 0, 1) := by decide +kernel
theorem dX12_open_91 : decode cX12_open 91 = .ok (.getfield 16, 3) := by decide +kernel
theorem dX12_open_94 : decode cX12_open 94 = .ok (.i2l, 1) := by decide +kernel
theorem dX12_open_95 : decode cX12_open 95 = .ok (.putfield 515, 3) := by decide +kernel
theorem dX12_open_98 : decode cX12_open 98 = .ok (.aload_n 0, 1) := by decide +kernel
theorem dX12_open_99 : decode cX12_open 99 = .ok (.getfield 515, 3) := by decide +kernel
theorem dX12_open_102 : decode cX12_open 102 = .ok (.iload_n 1, 1) := by decide +kernel
theorem dX12_open_103 : decode cX12_open 103 = .ok (.i2l, 1) := by decide +kernel
theorem dX12_open_104 : decode cX12_open 104 = .ok (.lcmp, 1) := by decide +kernel
theorem dX12_open_105 : decode cX12_open 105 = .ok (.ifCond .le 12, 3) := by decide +kernel
theorem dX12_open_108 : decode cX12_open 108 = .ok (.aload_n 0, 1) := by decide +kernel
theorem dX12_open_109 : decode cX12_open 109 = .ok (.bipush 15, 2) := by decide +kernel
theorem dX12_open_111 : decode cX12_open 111 = .ok (.invokevirtual 479, 3) := by decide +kernel
theorem dX12_open_114 : decode cX12_open 114 = .ok (.goto 7, 3) := by decide +kernel
theorem dX12_open_117 : decode cX12_open 117 = .ok (.aload_n 0, 1) := by decide +kernel
theorem dX12_open_118 : decode cX12_open 118 = .ok (.invokevirtual 611, 3) := by decide +kernel
theorem dX12_open_121 : decode cX12_open 121 = .ok (.aload_n 0, 1) := by decide +kernel
theorem dX12_open_122 : decode cX12_open 122 = .ok (.getfield 62, 3) := by decide +kernel
theorem dX12_open_125 : decode cX12_open 125 = .ok (.iconst 0, 1) := by decide +kernel
theorem dX12_open_126 : decode cX12_open 126 = .ok (.iconst 0, 1) := by decide +kernel
theorem dX12_open_127 : decode cX12_open 127 = .ok (.iastore, 1) := by decide +kernel
theorem dX12_open_128 : decode cX12_open 128 = .ok (.aload_n 0, 1) := by decide +kernel
theorem dX12_open_129 : decode cX12_open 129 = .ok (.getfield 65, 3) := by decide +kernel
theorem dX12_open_132 : decode cX12_open 132 = .ok (.iconst 0, 1) := by decide +kernel
theorem dX12_open_133 : decode cX12_open 133 = .ok (.iconst 0, 1) := by decide +kernel
theorem dX12_open_134 : decode cX12_open 134 = .ok (.iastore, 1) := by decide +kernel
theorem dX12_open_135 : decode cX12_open 135 = .ok (.aload_n 0, 1) := by decide +kernel
theorem dX12_open_136 : decode cX12_open 136 = .ok (.getfield 68, 3) := by decide +kernel
theorem dX12_open_139 : decode cX12_open 139 = .ok (.iconst 0, 1) := by decide +kernel
theorem dX12_open_140 : decode cX12_open 140 = .ok (.aload_n 0, 1) := by decide +kernel
theorem dX12_open_141 : decode cX12_open 141 = .ok (.getfield 473, 3) := by decide +kernel
theorem dX12_open_144 : decode cX12_open 144 = .ok (.iastore, 1) := by decide +kernel
theorem dX12_open_145 : decode cX12_open 145 = .ok (.aload_n 0, 1) := by decide +kernel
theorem dX12_open_146 : decode cX12_open 146 = .ok (.getfield 71, 3) := by decide +kernel
theorem dX12_open_149 : decode cX12_open 149 = .ok (.iconst 0, 1) := by decide +kernel
theorem dX12_open_150 : decode cX12_open 150 = .ok (.aload_n 0, 1) := by decide +kernel
theorem dX12_open_151 : decode cX12_open 151 = .ok (.getfield 208, 3) := by decide +kernel
theorem dX12_open_154 : decode cX12_open 154 = .ok (.iastore, 1) := by decide +kernel
theorem dX12_open_155 : decode cX12_open 155 = .ok (.aload_n 0, 1) := by decide +kernel
theorem dX12_open_156 : decode cX12_open 156 = .ok (.getfield 74, 3) := by decide +kernel
theorem dX12_open_159 : decode cX12_open 159 = .ok (.iconst 0, 1) := by decide +kernel
theorem dX12_open_160 : decode cX12_open 160 = .ok (.aload_n 0, 1) := by decide +kernel
theorem dX12_open_161 : decode cX12_open 161 = .ok (.getfield 434, 3) := by decide +kernel
theorem dX12_open_164 : decode cX12_open 164 = .ok (.iastore, 1) := by decide +kernel
theorem dX12_open_165 : decode cX12_open 165 = .ok (.aload_n 0, 1) := by decide +kernel
theorem dX12_open_166 : decode cX12_open 166 = .ok (.aload_n 0, 1) := by decide +kernel
theorem dX12_open_167 : decode cX12_open 167 = .ok (.getfield 470, 3) := by decide +kernel
theorem dX12_open_170 : decode cX12_open 170 = .ok (.ifCond .ne 7, 3) := by decide +kernel
theorem dX12_open_173 : decode cX12_open 173 = .ok (.iconst 1, 1) := by decide +kernel
theorem dX12_open_174 : decode cX12_open 174 = .ok (.goto 4, 3) := by decide +kernel
theorem dX12_open_177 : decode cX12_open 177 = .ok (.iconst 0, 1) := by decide +kernel
theorem dX12_open_178 : decode cX12_open 178 = .ok (.putfield 228, 3) := by decide +kernel
theorem dX12_open_181 : decode cX12_open 181 = .ok (.goto 8, 3) := by decide +kernel
theorem dX12_open_184 : decode cX12_open 184 = .ok (.aload_n 0, 1) := by decide +kernel
theorem dX12_open_185 : decode cX12_open 185 = .ok (.iload_n 1, 1) := by decide +kernel
theorem dX12_open_186 : decode cX12_open 186 = .ok (.invokevirtual 620, 3) := by decide +kernel
theorem dX12_open_189 : decode cX12_open 189 = .ok (.aload_n 0, 1) := by decide +kernel
theorem dX12_open_190 : decode cX12_open 190 = .ok (.getfield 470, 3) := by decide +kernel
theorem dX12_open_193 : decode cX12_open 193 = .ok (.ifCond .ne 20, 3) := by decide +kernel
theorem dX12_open_196 : decode cX12_open 196 = .ok (.aload_n 0, 1) := by decide +kernel
theorem dX12_open_197 : decode cX12_open 197 = .ok (.getfield 473, 3) := by decide +kernel
theorem dX12_open_200 : decode cX12_open 200 = .ok (.aload_n 0, 1) := by decide +kernel
theorem dX12_open_201 : decode cX12_open 201 = .ok (.getfield 126, 3) := by decide +kernel
theorem dX12_open_204 : decode cX12_open 204 = .ok (.if_icmp .ge 9, 3) := by decide +kernel
theorem dX12_open_207 : decode cX12_open 207 = .ok (.aload_n 0, 1) := by decide +kernel
theorem dX12_open_208 : decode cX12_open 208 = .ok (.bipush 12, 2) := by decide +kernel
theorem dX12_open_210 : decode cX12_open 210 = .ok (.invokevirtual 479, 3) := by decide +kernel
theorem dX12_open_213 : decode cX12_open 213 = .ok (.aload_n 0, 1) := by decide +kernel
theorem dX12_open_214 : decode cX12_open 214 = .ok (.getfield 107, 3) := by decide +kernel
theorem dX12_open_217 : decode cX12_open 217 = .ok (.iconst 2, 1) := by decide +kernel
theorem dX12_open_218 : decode cX12_open 218 = .ok (.if_icmp .ge 39, 3) := by decide +kernel
theorem dX12_open_221 : decode cX12_open 221 = .ok (.aload_n 0, 1) := by decide +kernel
theorem dX12_open_222 : decode cX12_open 222 = .ok (.aload_n 0, 1) := by decide +kernel
theorem dX12_open_223 : decode cX12_open 223 = .ok (.getfield 208, 3) := by decide +kernel
theorem dX12_open_226 : decode cX12_open 226 = .ok (.putfield 129, 3) := by decide +kernel
theorem dX12_open_229 : decode cX12_open 229 = .ok (.iconst 0, 1) := by decide +kernel
theorem dX12_open_230 : decode cX12_open 230 = .ok (.istore_n 2, 1) := by decide +kernel
theorem dX12_open_231 : decode cX12_open 231 = .ok (.iload_n 2, 1) := by decide +kernel
theorem dX12_open_232 : decode cX12_open 232 = .ok (.aload_n 0, 1) := by decide +kernel
theorem dX12_open_233 : decode cX12_open 233 = .ok (.getfield 208, 3) := by decide +kernel
theorem dX12_open_236 : decode cX12_open 236 = .ok (.if_icmp .ge 21, 3) := by decide +kernel
theorem dX12_open_239 : decode cX12_open 239 = .ok (.aload_n 0, 1) := by decide +kernel
theorem dX12_open_240 : decode cX12_open 240 = .ok (.getfield 32, 3) := by decide +kernel
theorem dX12_open_243 : decode cX12_open 243 = .ok (.iload_n 2, 1) := by decide +kernel
theorem dX12_open_244 : decode cX12_open 244 = .ok (.aload_n 0, 1) := by decide +kernel
theorem dX12_open_245 : decode cX12_open 245 = .ok (.getfield 47, 3) := by decide +kernel
theorem dX12_open_248 : decode cX12_open 248 = .ok (.iload_n 2, 1) := by decide +kernel
theorem dX12_open_249 : decode cX12_open 249 = .ok (.iaload, 1) := by decide +kernel
theorem dX12_open_250 : decode cX12_open 250 = .ok (.iastore, 1) := by decide +kernel
theorem dX12_open_251 : decode cX12_open 251 = .ok (.iinc 2 1, 3) := by decide +kernel
theorem dX12_open_254 : decode cX12_open 254 = .ok (.goto (-23), 3) := by decide +kernel
theorem dX12_open_257 : decode cX12_open 257 = .ok (.aload_n 0, 1) := by decide +kernel
theorem dX12_open_258 : decode cX12_open 258 = .ok (.iconst 0, 1) := by decide +kernel
theorem dX12_open_259 : decode cX12_open 259 = .ok (.putfield 126, 3) := by decide +kernel
theorem dX12_open_262 : decode cX12_open 262 = .ok (.aload_n 0, 1) := by decide +kernel
theorem dX12_open_263 : decode cX12_open 263 = .ok (.aload_n 0, 1) := by decide +kernel
theorem dX12_open_264 : decode cX12_open 264 = .ok (.getfield 231, 3) := by decide +kernel
theorem dX12_open_267 : decode cX12_open 267 = .ok (.putfield 77, 3) := by decide +kernel
theorem dX12_open_270 : decode cX12_open 270 = .ok (.aload_n 0, 1) := by decide +kernel
theorem dX12_open_271 : decode cX12_open 271 = .ok (.aload_n 0, 1) := by decide +kernel
theorem dX12_open_272 : decode cX12_open 272 = .ok (.getfield 470, 3) := by decide +kernel
theorem dX12_open_275 : decode cX12_open 275 = .ok (.putfield 225, 3) := by decide +kernel
theorem dX12_open_278 : decode cX12_open 278 = .ok (.aload_n 0, 1) := by decide +kernel
theorem dX12_open_279 : decode cX12_open 279 = .ok (.getfield 470, 3) := by decide +kernel
theorem dX12_open_282 : decode cX12_open 282 = .ok (.ifCond .le 13, 3) := by decide +kernel
theorem dX12_open_285 : decode cX12_open 285 = .ok (.bipush (-10), 2) := by decide +kernel
theorem dX12_open_287 : decode cX12_open 287 = .ok (.aload_n 0, 1) := by decide +kernel
theorem dX12_open_288 : decode cX12_open 288 = .ok (.getfield 473, 3) := by decide +kernel
theorem dX12_open_291 : decode cX12_open 291 = .ok (.isub, 1) := by decide +kernel
theorem dX12_open_292 : decode cX12_open 292 = .ok (.goto 7, 3) := by decide +kernel
theorem dX12_open_295 : decode cX12_open 295 = .ok (.aload_n 0, 1) := by decide +kernel
theorem dX12_open_296 : decode cX12_open 296 = .ok (.getfield 129, 3) := by decide +kernel
theorem dX12_open_299 : decode cX12_open 299 = .ok (.ireturn, 1) := by decide +kernel
theorem dJ6_rotateRight_7cf53_0 : decode cJ6_rotateRight_7cf53 0 = .ok (.iload_n 0, 1) := by decide +kernel
theorem dJ6_rotateRight_7cf53_1 : decode cJ6_rotateRight_7cf53 1 = .ok (.iload_n 1, 1) := by decide +kernel
theorem dJ6_rotateRight_7cf53_2 : decode cJ6_rotateRight_7cf53 2 = .ok (.iushr, 1) := by decide +kernel
theorem dJ6_rotateRight_7cf53_3 : decode cJ6_rotateRight_7cf53 3 = .ok (.iload_n 0, 1) := by decide +kernel
theorem dJ6_rotateRight_7cf53_4 : decode cJ6_rotateRight_7cf53 4 = .ok (.iload_n 1, 1) := by decide +kernel
theorem dJ6_rotateRight_7cf53_5 : decode cJ6_rotateRight_7cf53 5 = .ok (.ineg, 1) := by decide +kernel
theorem dJ6_rotateRight_7cf53_6 : decode cJ6_rotateRight_7cf53 6 = .ok (.ishl, 1) := by decide +kernel
theorem dJ6_rotateRight_7cf53_7 : decode cJ6_rotateRight_7cf53 7 = .ok (.ior, 1) := by decide +kernel
theorem dJ6_rotateRight_7cf53_8 : decode cJ6_rotateRight_7cf53 8 = .ok (.ireturn, 1) := by decide +kernel
theorem dJ7_rangeCheck_23922_0 : decode cJ7_rangeCheck_23922 0 = .ok (.iload_n 1, 1) := by decide +kernel
theorem dJ7_rangeCheck_23922_1 : decode cJ7_rangeCheck_23922 1 = .ok (.iload_n 2, 1) := by decide +kernel
theorem dJ7_rangeCheck_23922_2 : decode cJ7_rangeCheck_23922 2 = .ok (.if_icmp .le 44, 3) := by decide +kernel
theorem dJ7_rangeCheck_23922_5 : decode cJ7_rangeCheck_23922 5 = .ok (.new 43, 3) := by decide +kernel
theorem dJ7_rangeCheck_23922_8 : decode cJ7_rangeCheck_23922 8 = .ok (.dup, 1) := by decide +kernel
theorem dJ7_rangeCheck_23922_9 : decode cJ7_rangeCheck_23922 9 = .ok (.new 45, 3) := by decide +kernel
theorem dJ7_rangeCheck_23922_12 : decode cJ7_rangeCheck_23922 12 = .ok (.dup, 1) := by decide +kernel
theorem dJ7_rangeCheck_23922_13 : decode cJ7_rangeCheck_23922 13 = .ok (.invokespecial 47, 3) := by decide +kernel
theorem dJ7_rangeCheck_23922_16 : decode cJ7_rangeCheck_23922 16 = .ok (.ldc 48, 2) := by decide +kernel
theorem dJ7_rangeCheck_23922_18 : decode cJ7_rangeCheck_23922 18 = .ok (.invokevirtual 50, 3) := by decide +kernel
theorem dJ7_rangeCheck_23922_21 : decode cJ7_rangeCheck_23922 21 = .ok (.iload_n 1, 1) := by decide +kernel
theorem dJ7_rangeCheck_23922_22 : decode cJ7_rangeCheck_23922 22 = .ok (.invokevirtual 54, 3) := by decide +kernel
theorem dJ7_rangeCheck_23922_25 : decode cJ7_rangeCheck_23922 25 = .ok (.ldc 57, 2) := by decide +kernel
theorem dJ7_rangeCheck_23922_27 : decode cJ7_rangeCheck_23922 27 = .ok (.invokevirtual 50, 3) := by decide +kernel
theorem dJ7_rangeCheck_23922_30 : decode cJ7_rangeCheck_23922 30 = .ok (.iload_n 2, 1) := by decide +kernel
theorem dJ7_rangeCheck_23922_31 : decode cJ7_rangeCheck_23922 31 = .ok (.invokevirtual 54, 3) := by decide +kernel
theorem dJ7_rangeCheck_23922_34 : decode cJ7_rangeCheck_23922 34 = .ok (.ldc 59, 2) := by decide +kernel
theorem dJ7_rangeCheck_23922_36 : decode cJ7_rangeCheck_23922 36 = .ok (.invokevirtual 50, 3) := by decide +kernel
theorem dJ7_rangeCheck_23922_39 : decode cJ7_rangeCheck_23922 39 = .ok (.invokevirtual 61, 3) := by decide +kernel
theorem dJ7_rangeCheck_23922_42 : decode cJ7_rangeCheck_23922 42 = .ok (.invokespecial 65, 3) := by decide +kernel
theorem dJ7_rangeCheck_23922_45 : decode cJ7_rangeCheck_23922 45 = .ok (.athrow, 1) := by decide +kernel
theorem dJ7_rangeCheck_23922_46 : decode cJ7_rangeCheck_23922 46 = .ok (.iload_n 1, 1) := by decide +kernel
theorem dJ7_rangeCheck_23922_47 : decode cJ7_rangeCheck_23922 47 = .ok (.ifCond .ge 12, 3) := by decide +kernel
theorem dJ7_rangeCheck_23922_50 : decode cJ7_rangeCheck_23922 50 = .ok (.new 68, 3) := by decide +kernel
theorem dJ7_rangeCheck_23922_53 : decode cJ7_rangeCheck_23922 53 = .ok (.dup, 1) := by decide +kernel
theorem dJ7_rangeCheck_23922_54 : decode cJ7_rangeCheck_23922 54 = .ok (.iload_n 1, 1) := by decide +kernel
theorem dJ7_rangeCheck_23922_55 : decode cJ7_rangeCheck_23922 55 = .ok (.invokespecial 70, 3) := by decide +kernel
theorem dJ7_rangeCheck_23922_58 : decode cJ7_rangeCheck_23922 58 = .ok (.athrow, 1) := by decide +kernel
theorem dJ7_rangeCheck_23922_59 : decode cJ7_rangeCheck_23922 59 = .ok (.iload_n 2, 1) := by decide +kernel
theorem dJ7_rangeCheck_23922_60 : decode cJ7_rangeCheck_23922 60 = .ok (.iload_n 0, 1) := by decide +kernel
theorem dJ7_rangeCheck_23922_61 : decode cJ7_rangeCheck_23922 61 = .ok (.if_icmp .le 12, 3) := by decide +kernel
theorem dJ7_rangeCheck_23922_64 : decode cJ7_rangeCheck_23922 64 = .ok (.new 68, 3) := by decide +kernel
theorem dJ7_rangeCheck_23922_67 : decode cJ7_rangeCheck_23922 67 = .ok (.dup, 1) := by decide +kernel
theorem dJ7_rangeCheck_23922_68 : decode cJ7_rangeCheck_23922 68 = .ok (.iload_n 2, 1) := by decide +kernel
theorem dJ7_rangeCheck_23922_69 : decode cJ7_rangeCheck_23922 69 = .ok (.invokespecial 70, 3) := by decide +kernel
theorem dJ7_rangeCheck_23922_72 : decode cJ7_rangeCheck_23922 72 = .ok (.athrow, 1) := by decide +kernel
theorem dJ7_rangeCheck_23922_73 : decode cJ7_rangeCheck_23922 73 = .ok (.return_, 1) := by decide +kernel
theorem dJ7_fill_d0a16_0 : decode cJ7_fill_d0a16 0 = .ok (.iconst 0, 1) := by decide +kernel
theorem dJ7_fill_d0a16_1 : decode cJ7_fill_d0a16 1 = .ok (.istore_n 3, 1) := by decide +kernel
theorem dJ7_fill_d0a16_2 : decode cJ7_fill_d0a16 2 = .ok (.aload_n 0, 1) := by decide +kernel
theorem dJ7_fill_d0a16_3 : decode cJ7_fill_d0a16 3 = .ok (.arraylength, 1) := by decide +kernel
theorem dJ7_fill_d0a16_4 : decode cJ7_fill_d0a16 4 = .ok (.istore 4, 2) := by decide +kernel
theorem dJ7_fill_d0a16_6 : decode cJ7_fill_d0a16 6 = .ok (.iload_n 3, 1) := by decide +kernel
theorem dJ7_fill_d0a16_7 : decode cJ7_fill_d0a16 7 = .ok (.iload 4, 2) := by decide +kernel
theorem dJ7_fill_d0a16_9 : decode cJ7_fill_d0a16 9 = .ok (.if_icmp .ge 13, 3) := by decide +kernel
theorem dJ7_fill_d0a16_12 : decode cJ7_fill_d0a16 12 = .ok (.aload_n 0, 1) := by decide +kernel
theorem dJ7_fill_d0a16_13 : decode cJ7_fill_d0a16 13 = .ok (.iload_n 3, 1) := by decide +kernel
theorem dJ7_fill_d0a16_14 : decode cJ7_fill_d0a16 14 = .ok (.lload_n 1, 1) := by decide +kernel
theorem dJ7_fill_d0a16_15 : decode cJ7_fill_d0a16 15 = .ok (.lastore, 1) := by decide +kernel
theorem dJ7_fill_d0a16_16 : decode cJ7_fill_d0a16 16 = .ok (.iinc 3 1, 3) := by decide +kernel
theorem dJ7_fill_d0a16_19 : decode cJ7_fill_d0a16 19 = .ok (.goto (-13), 3) := by decide +kernel
theorem dJ7_fill_d0a16_22 : decode cJ7_fill_d0a16 22 = .ok (.return_, 1) := by decide +kernel
theorem dJ7_fill_53178_0 : decode cJ7_fill_53178 0 = .ok (.iconst 0, 1) := by decide +kernel
theorem dJ7_fill_53178_1 : decode cJ7_fill_53178 1 = .ok (.istore_n 2, 1) := by decide +kernel
theorem dJ7_fill_53178_2 : decode cJ7_fill_53178 2 = .ok (.aload_n 0, 1) := by decide +kernel
theorem dJ7_fill_53178_3 : decode cJ7_fill_53178 3 = .ok (.arraylength, 1) := by decide +kernel
theorem dJ7_fill_53178_4 : decode cJ7_fill_53178 4 = .ok (.istore_n 3, 1) := by decide +kernel
theorem dJ7_fill_53178_5 : decode cJ7_fill_53178 5 = .ok (.iload_n 2, 1) := by decide +kernel
theorem dJ7_fill_53178_6 : decode cJ7_fill_53178 6 = .ok (.iload_n 3, 1) := by decide +kernel
theorem dJ7_fill_53178_7 : decode cJ7_fill_53178 7 = .ok (.if_icmp .ge 13, 3) := by decide +kernel
theorem dJ7_fill_53178_10 : decode cJ7_fill_53178 10 = .ok (.aload_n 0, 1) := by decide +kernel
theorem dJ7_fill_53178_11 : decode cJ7_fill_53178 11 = .ok (.iload_n 2, 1) := by decide +kernel
theorem dJ7_fill_53178_12 : decode cJ7_fill_53178 12 = .ok (.iload_n 1, 1) := by decide +kernel
theorem dJ7_fill_53178_13 : decode cJ7_fill_53178 13 = .ok (.iastore, 1) := by decide +kernel
theorem dJ7_fill_53178_14 : decode cJ7_fill_53178 14 = .ok (.iinc 2 1, 3) := by decide +kernel
theorem dJ7_fill_53178_17 : decode cJ7_fill_53178 17 = .ok (.goto (-12), 3) := by decide +kernel
theorem dJ7_fill_53178_20 : decode cJ7_fill_53178 20 = .ok (.return_, 1) := by decide +kernel
theorem dJ7_fill_fda19_0 : decode cJ7_fill_fda19 0 = .ok (.aload_n 0, 1) := by decide +kernel
theorem dJ7_fill_fda19_1 : decode cJ7_fill_fda19 1 = .ok (.arraylength, 1) := by decide +kernel
theorem dJ7_fill_fda19_2 : decode cJ7_fill_fda19 2 = .ok (.iload_n 1, 1) := by decide +kernel
theorem dJ7_fill_fda19_3 : decode cJ7_fill_fda19 3 = .ok (.iload_n 2, 1) := by decide +kernel
theorem dJ7_fill_fda19_4 : decode cJ7_fill_fda19 4 = .ok (.invokestatic 13, 3) := by decide +kernel
theorem dJ7_fill_fda19_7 : decode cJ7_fill_fda19 7 = .ok (.iload_n 1, 1) := by decide +kernel
theorem dJ7_fill_fda19_8 : decode cJ7_fill_fda19 8 = .ok (.istore 4, 2) := by decide +kernel
theorem dJ7_fill_fda19_10 : decode cJ7_fill_fda19 10 = .ok (.iload 4, 2) := by decide +kernel
theorem dJ7_fill_fda19_12 : decode cJ7_fill_fda19 12 = .ok (.iload_n 2, 1) := by decide +kernel
theorem dJ7_fill_fda19_13 : decode cJ7_fill_fda19 13 = .ok (.if_icmp .ge 14, 3) := by decide +kernel
theorem dJ7_fill_fda19_16 : decode cJ7_fill_fda19 16 = .ok (.aload_n 0, 1) := by decide +kernel
theorem dJ7_fill_fda19_17 : decode cJ7_fill_fda19 17 = .ok (.iload 4, 2) := by decide +kernel
theorem dJ7_fill_fda19_19 : decode cJ7_fill_fda19 19 = .ok (.iload_n 3, 1) := by decide +kernel
theorem dJ7_fill_fda19_20 : decode cJ7_fill_fda19 20 = .ok (.iastore, 1) := by decide +kernel
theorem dJ7_fill_fda19_21 : decode cJ7_fill_fda19 21 = .ok (.iinc 4 1, 3) := by decide +kernel
theorem dJ7_fill_fda19_24 : decode cJ7_fill_fda19 24 = .ok (.goto (-14), 3) := by decide +kernel
theorem dJ7_fill_fda19_27 : decode cJ7_fill_fda19 27 = .ok (.return_, 1) := by decide +kernel
theorem dL_cell_0 : decode cL_cell 0 = .ok (.iload_n 1, 1) := by decide +kernel
theorem dL_cell_1 : decode cL_cell 1 = .ok (.aload_n 0, 1) := by decide +kernel
theorem dL_cell_2 : decode cL_cell 2 = .ok (.arraylength, 1) := by decide +kernel
theorem dL_cell_3 : decode cL_cell 3 = .ok (.if_icmp .ge 9, 3) := by decide +kernel
theorem dL_cell_6 : decode cL_cell 6 = .ok (.aload_n 0, 1) := by decide +kernel
theorem dL_cell_7 : decode cL_cell 7 = .ok (.iload_n 1, 1) := by decide +kernel
theorem dL_cell_8 : decode cL_cell 8 = .ok (.iaload, 1) := by decide +kernel
theorem dL_cell_9 : decode cL_cell 9 = .ok (.goto 4, 3) := by decide +kernel
theorem dL_cell_12 : decode cL_cell 12 = .ok (.iconst 0, 1) := by decide +kernel
theorem dL_cell_13 : decode cL_cell 13 = .ok (.ireturn, 1) := by decide +kernel
theorem dL_out_0 : decode cL_out 0 = .ok (.aload_n 2, 1) := by decide +kernel
theorem dL_out_1 : decode cL_out 1 = .ok (.iconst 0, 1) := by decide +kernel
theorem dL_out_2 : decode cL_out 2 = .ok (.aload_n 0, 1) := by decide +kernel
theorem dL_out_3 : decode cL_out 3 = .ok (.iload_n 1, 1) := by decide +kernel
theorem dL_out_4 : decode cL_out 4 = .ok (.invokevirtual 7, 3) := by decide +kernel
theorem dL_out_7 : decode cL_out 7 = .ok (.i2l, 1) := by decide +kernel
theorem dL_out_8 : decode cL_out 8 = .ok (.lastore, 1) := by decide +kernel
theorem dL_out_9 : decode cL_out 9 = .ok (.goto 6, 3) := by decide +kernel
theorem dL_out_12 : decode cL_out 12 = .ok (.astore_n 3, 1) := by decide +kernel
theorem dL_out_13 : decode cL_out 13 = .ok (.iconst 1, 1) := by decide +kernel
theorem dL_out_14 : decode cL_out 14 = .ok (.ireturn, 1) := by decide +kernel
theorem dL_out_15 : decode cL_out 15 = .ok (.iconst 0, 1) := by decide +kernel
theorem dL_out_16 : decode cL_out 16 = .ok (.ireturn, 1) := by decide +kernel
theorem dL_law_0 : decode cL_law 0 = .ok (.new 8, 3) := by decide +kernel
theorem dL_law_3 : decode cL_law 3 = .ok (.dup, 1) := by decide +kernel
theorem dL_law_4 : decode cL_law 4 = .ok (.aload_n 0, 1) := by decide +kernel
theorem dL_law_5 : decode cL_law 5 = .ok (.iconst 0, 1) := by decide +kernel
theorem dL_law_6 : decode cL_law 6 = .ok (.invokestatic 15, 3) := by decide +kernel
theorem dL_law_9 : decode cL_law 9 = .ok (.invokespecial 21, 3) := by decide +kernel
theorem dL_law_12 : decode cL_law 12 = .ok (.astore_n 1, 1) := by decide +kernel
theorem dL_law_13 : decode cL_law 13 = .ok (.new 24, 3) := by decide +kernel
theorem dL_law_16 : decode cL_law 16 = .ok (.dup, 1) := by decide +kernel
theorem dL_law_17 : decode cL_law 17 = .ok (.aload_n 0, 1) := by decide +kernel
theorem dL_law_18 : decode cL_law 18 = .ok (.iconst 0, 1) := by decide +kernel
theorem dL_law_19 : decode cL_law 19 = .ok (.invokestatic 15, 3) := by decide +kernel
theorem dL_law_22 : decode cL_law 22 = .ok (.invokespecial 26, 3) := by decide +kernel
theorem dL_law_25 : decode cL_law 25 = .ok (.astore_n 2, 1) := by decide +kernel
theorem dL_law_26 : decode cL_law 26 = .ok (.iconst 1, 1) := by decide +kernel
theorem dL_law_27 : decode cL_law 27 = .ok (.newarray .long, 2) := by decide +kernel
theorem dL_law_29 : decode cL_law 29 = .ok (.astore_n 3, 1) := by decide +kernel
theorem dL_law_30 : decode cL_law 30 = .ok (.iconst 1, 1) := by decide +kernel
theorem dL_law_31 : decode cL_law 31 = .ok (.istore 4, 2) := by decide +kernel
theorem dL_law_33 : decode cL_law 33 = .ok (.iload 4, 2) := by decide +kernel
theorem dL_law_35 : decode cL_law 35 = .ok (.aload_n 0, 1) := by decide +kernel
theorem dL_law_36 : decode cL_law 36 = .ok (.arraylength, 1) := by decide +kernel
theorem dL_law_37 : decode cL_law 37 = .ok (.bipush 6, 2) := by decide +kernel
theorem dL_law_39 : decode cL_law 39 = .ok (.isub, 1) := by decide +kernel
theorem dL_law_40 : decode cL_law 40 = .ok (.if_icmp .gt 637, 3) := by decide +kernel
theorem dL_law_43 : decode cL_law 43 = .ok (.aload_n 0, 1) := by decide +kernel
theorem dL_law_44 : decode cL_law 44 = .ok (.iload 4, 2) := by decide +kernel
theorem dL_law_46 : decode cL_law 46 = .ok (.iaload, 1) := by decide +kernel
theorem dL_law_47 : decode cL_law 47 = .ok (.bipush 15, 2) := by decide +kernel
theorem dL_law_49 : decode cL_law 49 = .ok (.iand, 1) := by decide +kernel
theorem dL_law_50 : decode cL_law 50 = .ok (.tableswitch 621 0 15 #[78, 115, 152, 225, 250, 275, 300, 325, 338, 351, 407, 444, 457, 494, 531, 596], 78) := by decide +kernel
theorem dL_law_128 : decode cL_law 128 = .ok (.aload_n 1, 1) := by decide +kernel
theorem dL_law_129 : decode cL_law 129 = .ok (.aload_n 0, 1) := by decide +kernel
theorem dL_law_130 : decode cL_law 130 = .ok (.iload 4, 2) := by decide +kernel
theorem dL_law_132 : decode cL_law 132 = .ok (.iconst 1, 1) := by decide +kernel
theorem dL_law_133 : decode cL_law 133 = .ok (.iadd, 1) := by decide +kernel
theorem dL_law_134 : decode cL_law 134 = .ok (.iaload, 1) := by decide +kernel
theorem dL_law_135 : decode cL_law 135 = .ok (.aload_n 0, 1) := by decide +kernel
theorem dL_law_136 : decode cL_law 136 = .ok (.iload 4, 2) := by decide +kernel
theorem dL_law_138 : decode cL_law 138 = .ok (.iconst 2, 1) := by decide +kernel
theorem dL_law_139 : decode cL_law 139 = .ok (.iadd, 1) := by decide +kernel
theorem dL_law_140 : decode cL_law 140 = .ok (.iaload, 1) := by decide +kernel
theorem dL_law_141 : decode cL_law 141 = .ok (.invokevirtual 27, 3) := by decide +kernel
theorem dL_law_144 : decode cL_law 144 = .ok (.aload_n 2, 1) := by decide +kernel
theorem dL_law_145 : decode cL_law 145 = .ok (.aload_n 0, 1) := by decide +kernel
theorem dL_law_146 : decode cL_law 146 = .ok (.iload 4, 2) := by decide +kernel
theorem dL_law_148 : decode cL_law 148 = .ok (.iconst 1, 1) := by decide +kernel
theorem dL_law_149 : decode cL_law 149 = .ok (.iadd, 1) := by decide +kernel
theorem dL_law_150 : decode cL_law 150 = .ok (.iaload, 1) := by decide +kernel
theorem dL_law_151 : decode cL_law 151 = .ok (.aload_n 0, 1) := by decide +kernel
theorem dL_law_152 : decode cL_law 152 = .ok (.iload 4, 2) := by decide +kernel
theorem dL_law_154 : decode cL_law 154 = .ok (.iconst 2, 1) := by decide +kernel
theorem dL_law_155 : decode cL_law 155 = .ok (.iadd, 1) := by decide +kernel
theorem dL_law_156 : decode cL_law 156 = .ok (.iaload, 1) := by decide +kernel
theorem dL_law_157 : decode cL_law 157 = .ok (.invokevirtual 31, 3) := by decide +kernel
theorem dL_law_160 : decode cL_law 160 = .ok (.if_icmp .eq 511, 3) := by decide +kernel
theorem dL_law_163 : decode cL_law 163 = .ok (.iconst 0, 1) := by decide +kernel
theorem dL_law_164 : decode cL_law 164 = .ok (.ireturn, 1) := by decide +kernel
theorem dL_law_165 : decode cL_law 165 = .ok (.aload_n 1, 1) := by decide +kernel
theorem dL_law_166 : decode cL_law 166 = .ok (.aload_n 0, 1) := by decide +kernel
theorem dL_law_167 : decode cL_law 167 = .ok (.iload 4, 2) := by decide +kernel
theorem dL_law_169 : decode cL_law 169 = .ok (.iconst 1, 1) := by decide +kernel
theorem dL_law_170 : decode cL_law 170 = .ok (.iadd, 1) := by decide +kernel
theorem dL_law_171 : decode cL_law 171 = .ok (.iaload, 1) := by decide +kernel
theorem dL_law_172 : decode cL_law 172 = .ok (.aload_n 0, 1) := by decide +kernel
theorem dL_law_173 : decode cL_law 173 = .ok (.iload 4, 2) := by decide +kernel
theorem dL_law_175 : decode cL_law 175 = .ok (.iconst 2, 1) := by decide +kernel
theorem dL_law_176 : decode cL_law 176 = .ok (.iadd, 1) := by decide +kernel
theorem dL_law_177 : decode cL_law 177 = .ok (.iaload, 1) := by decide +kernel
theorem dL_law_178 : decode cL_law 178 = .ok (.invokevirtual 32, 3) := by decide +kernel
theorem dL_law_181 : decode cL_law 181 = .ok (.aload_n 2, 1) := by decide +kernel
theorem dL_law_182 : decode cL_law 182 = .ok (.aload_n 0, 1) := by decide +kernel
theorem dL_law_183 : decode cL_law 183 = .ok (.iload 4, 2) := by decide +kernel
theorem dL_law_185 : decode cL_law 185 = .ok (.iconst 1, 1) := by decide +kernel
theorem dL_law_186 : decode cL_law 186 = .ok (.iadd, 1) := by decide +kernel
theorem dL_law_187 : decode cL_law 187 = .ok (.iaload, 1) := by decide +kernel
theorem dL_law_188 : decode cL_law 188 = .ok (.aload_n 0, 1) := by decide +kernel
theorem dL_law_189 : decode cL_law 189 = .ok (.iload 4, 2) := by decide +kernel
theorem dL_law_191 : decode cL_law 191 = .ok (.iconst 2, 1) := by decide +kernel
theorem dL_law_192 : decode cL_law 192 = .ok (.iadd, 1) := by decide +kernel
theorem dL_law_193 : decode cL_law 193 = .ok (.iaload, 1) := by decide +kernel
theorem dL_law_194 : decode cL_law 194 = .ok (.invokevirtual 35, 3) := by decide +kernel
theorem dL_law_197 : decode cL_law 197 = .ok (.if_icmp .eq 474, 3) := by decide +kernel
theorem dL_law_200 : decode cL_law 200 = .ok (.iconst 0, 1) := by decide +kernel
theorem dL_law_201 : decode cL_law 201 = .ok (.ireturn, 1) := by decide +kernel
theorem dL_law_202 : decode cL_law 202 = .ok (.aload_n 1, 1) := by decide +kernel
theorem dL_law_203 : decode cL_law 203 = .ok (.aload_n 0, 1) := by decide +kernel
theorem dL_law_204 : decode cL_law 204 = .ok (.iload 4, 2) := by decide +kernel
theorem dL_law_206 : decode cL_law 206 = .ok (.iconst 1, 1) := by decide +kernel
theorem dL_law_207 : decode cL_law 207 = .ok (.iadd, 1) := by decide +kernel
theorem dL_law_208 : decode cL_law 208 = .ok (.iaload, 1) := by decide +kernel
theorem dL_law_209 : decode cL_law 209 = .ok (.aload_n 0, 1) := by decide +kernel
theorem dL_law_210 : decode cL_law 210 = .ok (.iload 4, 2) := by decide +kernel
theorem dL_law_212 : decode cL_law 212 = .ok (.iconst 2, 1) := by decide +kernel
theorem dL_law_213 : decode cL_law 213 = .ok (.iadd, 1) := by decide +kernel
theorem dL_law_214 : decode cL_law 214 = .ok (.iaload, 1) := by decide +kernel
theorem dL_law_215 : decode cL_law 215 = .ok (.aload_n 0, 1) := by decide +kernel
theorem dL_law_216 : decode cL_law 216 = .ok (.iload 4, 2) := by decide +kernel
theorem dL_law_218 : decode cL_law 218 = .ok (.iconst 3, 1) := by decide +kernel
theorem dL_law_219 : decode cL_law 219 = .ok (.iadd, 1) := by decide +kernel
theorem dL_law_220 : decode cL_law 220 = .ok (.iaload, 1) := by decide +kernel
theorem dL_law_221 : decode cL_law 221 = .ok (.aload_n 0, 1) := by decide +kernel
theorem dL_law_222 : decode cL_law 222 = .ok (.iload 4, 2) := by decide +kernel
theorem dL_law_224 : decode cL_law 224 = .ok (.iconst 4, 1) := by decide +kernel
theorem dL_law_225 : decode cL_law 225 = .ok (.iadd, 1) := by decide +kernel
theorem dL_law_226 : decode cL_law 226 = .ok (.iaload, 1) := by decide +kernel
theorem dL_law_227 : decode cL_law 227 = .ok (.aload_n 0, 1) := by decide +kernel
theorem dL_law_228 : decode cL_law 228 = .ok (.iload 4, 2) := by decide +kernel
theorem dL_law_230 : decode cL_law 230 = .ok (.iconst 5, 1) := by decide +kernel
theorem dL_law_231 : decode cL_law 231 = .ok (.iadd, 1) := by decide +kernel
theorem dL_law_232 : decode cL_law 232 = .ok (.iaload, 1) := by decide +kernel
theorem dL_law_233 : decode cL_law 233 = .ok (.invokevirtual 36, 3) := by decide +kernel
theorem dL_law_236 : decode cL_law 236 = .ok (.aload_n 2, 1) := by decide +kernel
theorem dL_law_237 : decode cL_law 237 = .ok (.aload_n 0, 1) := by decide +kernel
theorem dL_law_238 : decode cL_law 238 = .ok (.iload 4, 2) := by decide +kernel
theorem dL_law_240 : decode cL_law 240 = .ok (.iconst 1, 1) := by decide +kernel
theorem dL_law_241 : decode cL_law 241 = .ok (.iadd, 1) := by decide +kernel
theorem dL_law_242 : decode cL_law 242 = .ok (.iaload, 1) := by decide +kernel
theorem dL_law_243 : decode cL_law 243 = .ok (.aload_n 0, 1) := by decide +kernel
theorem dL_law_244 : decode cL_law 244 = .ok (.iload 4, 2) := by decide +kernel
theorem dL_law_246 : decode cL_law 246 = .ok (.iconst 2, 1) := by decide +kernel
theorem dL_law_247 : decode cL_law 247 = .ok (.iadd, 1) := by decide +kernel
theorem dL_law_248 : decode cL_law 248 = .ok (.iaload, 1) := by decide +kernel
theorem dL_law_249 : decode cL_law 249 = .ok (.aload_n 0, 1) := by decide +kernel
theorem dL_law_250 : decode cL_law 250 = .ok (.iload 4, 2) := by decide +kernel
theorem dL_law_252 : decode cL_law 252 = .ok (.iconst 3, 1) := by decide +kernel
theorem dL_law_253 : decode cL_law 253 = .ok (.iadd, 1) := by decide +kernel
theorem dL_law_254 : decode cL_law 254 = .ok (.iaload, 1) := by decide +kernel
theorem dL_law_255 : decode cL_law 255 = .ok (.aload_n 0, 1) := by decide +kernel
theorem dL_law_256 : decode cL_law 256 = .ok (.iload 4, 2) := by decide +kernel
theorem dL_law_258 : decode cL_law 258 = .ok (.iconst 4, 1) := by decide +kernel
theorem dL_law_259 : decode cL_law 259 = .ok (.iadd, 1) := by decide +kernel
theorem dL_law_260 : decode cL_law 260 = .ok (.iaload, 1) := by decide +kernel
theorem dL_law_261 : decode cL_law 261 = .ok (.aload_n 0, 1) := by decide +kernel
theorem dL_law_262 : decode cL_law 262 = .ok (.iload 4, 2) := by decide +kernel
theorem dL_law_264 : decode cL_law 264 = .ok (.iconst 5, 1) := by decide +kernel
theorem dL_law_265 : decode cL_law 265 = .ok (.iadd, 1) := by decide +kernel
theorem dL_law_266 : decode cL_law 266 = .ok (.iaload, 1) := by decide +kernel
theorem dL_law_267 : decode cL_law 267 = .ok (.invokevirtual 40, 3) := by decide +kernel
theorem dL_law_270 : decode cL_law 270 = .ok (.if_icmp .eq 401, 3) := by decide +kernel
theorem dL_law_273 : decode cL_law 273 = .ok (.iconst 0, 1) := by decide +kernel
theorem dL_law_274 : decode cL_law 274 = .ok (.ireturn, 1) := by decide +kernel
theorem dL_law_275 : decode cL_law 275 = .ok (.aload_n 1, 1) := by decide +kernel
theorem dL_law_276 : decode cL_law 276 = .ok (.aload_n 0, 1) := by decide +kernel
theorem dL_law_277 : decode cL_law 277 = .ok (.iload 4, 2) := by decide +kernel
theorem dL_law_279 : decode cL_law 279 = .ok (.iconst 1, 1) := by decide +kernel
theorem dL_law_280 : decode cL_law 280 = .ok (.iadd, 1) := by decide +kernel
theorem dL_law_281 : decode cL_law 281 = .ok (.iaload, 1) := by decide +kernel
theorem dL_law_282 : decode cL_law 282 = .ok (.invokevirtual 41, 3) := by decide +kernel
theorem dL_law_285 : decode cL_law 285 = .ok (.aload_n 2, 1) := by decide +kernel
theorem dL_law_286 : decode cL_law 286 = .ok (.aload_n 0, 1) := by decide +kernel
theorem dL_law_287 : decode cL_law 287 = .ok (.iload 4, 2) := by decide +kernel
theorem dL_law_289 : decode cL_law 289 = .ok (.iconst 1, 1) := by decide +kernel
theorem dL_law_290 : decode cL_law 290 = .ok (.iadd, 1) := by decide +kernel
theorem dL_law_291 : decode cL_law 291 = .ok (.iaload, 1) := by decide +kernel
theorem dL_law_292 : decode cL_law 292 = .ok (.invokevirtual 44, 3) := by decide +kernel
theorem dL_law_295 : decode cL_law 295 = .ok (.if_icmp .eq 376, 3) := by decide +kernel
theorem dL_law_298 : decode cL_law 298 = .ok (.iconst 0, 1) := by decide +kernel
theorem dL_law_299 : decode cL_law 299 = .ok (.ireturn, 1) := by decide +kernel
theorem dL_law_300 : decode cL_law 300 = .ok (.aload_n 1, 1) := by decide +kernel
theorem dL_law_301 : decode cL_law 301 = .ok (.aload_n 0, 1) := by decide +kernel
theorem dL_law_302 : decode cL_law 302 = .ok (.iload 4, 2) := by decide +kernel
theorem dL_law_304 : decode cL_law 304 = .ok (.iconst 1, 1) := by decide +kernel
theorem dL_law_305 : decode cL_law 305 = .ok (.iadd, 1) := by decide +kernel
theorem dL_law_306 : decode cL_law 306 = .ok (.iaload, 1) := by decide +kernel
theorem dL_law_307 : decode cL_law 307 = .ok (.invokevirtual 45, 3) := by decide +kernel
theorem dL_law_310 : decode cL_law 310 = .ok (.aload_n 2, 1) := by decide +kernel
theorem dL_law_311 : decode cL_law 311 = .ok (.aload_n 0, 1) := by decide +kernel
theorem dL_law_312 : decode cL_law 312 = .ok (.iload 4, 2) := by decide +kernel
theorem dL_law_314 : decode cL_law 314 = .ok (.iconst 1, 1) := by decide +kernel
theorem dL_law_315 : decode cL_law 315 = .ok (.iadd, 1) := by decide +kernel
theorem dL_law_316 : decode cL_law 316 = .ok (.iaload, 1) := by decide +kernel
theorem dL_law_317 : decode cL_law 317 = .ok (.invokevirtual 48, 3) := by decide +kernel
theorem dL_law_320 : decode cL_law 320 = .ok (.if_icmp .eq 351, 3) := by decide +kernel
theorem dL_law_323 : decode cL_law 323 = .ok (.iconst 0, 1) := by decide +kernel
theorem dL_law_324 : decode cL_law 324 = .ok (.ireturn, 1) := by decide +kernel
theorem dL_law_325 : decode cL_law 325 = .ok (.aload_n 1, 1) := by decide +kernel
theorem dL_law_326 : decode cL_law 326 = .ok (.aload_n 0, 1) := by decide +kernel
theorem dL_law_327 : decode cL_law 327 = .ok (.iload 4, 2) := by decide +kernel
theorem dL_law_329 : decode cL_law 329 = .ok (.iconst 1, 1) := by decide +kernel
theorem dL_law_330 : decode cL_law 330 = .ok (.iadd, 1) := by decide +kernel
theorem dL_law_331 : decode cL_law 331 = .ok (.iaload, 1) := by decide +kernel
theorem dL_law_332 : decode cL_law 332 = .ok (.invokevirtual 49, 3) := by decide +kernel
theorem dL_law_335 : decode cL_law 335 = .ok (.aload_n 2, 1) := by decide +kernel
theorem dL_law_336 : decode cL_law 336 = .ok (.aload_n 0, 1) := by decide +kernel
theorem dL_law_337 : decode cL_law 337 = .ok (.iload 4, 2) := by decide +kernel
theorem dL_law_339 : decode cL_law 339 = .ok (.iconst 1, 1) := by decide +kernel
theorem dL_law_340 : decode cL_law 340 = .ok (.iadd, 1) := by decide +kernel
theorem dL_law_341 : decode cL_law 341 = .ok (.iaload, 1) := by decide +kernel
theorem dL_law_342 : decode cL_law 342 = .ok (.invokevirtual 52, 3) := by decide +kernel
theorem dL_law_345 : decode cL_law 345 = .ok (.if_icmp .eq 326, 3) := by decide +kernel
theorem dL_law_348 : decode cL_law 348 = .ok (.iconst 0, 1) := by decide +kernel
theorem dL_law_349 : decode cL_law 349 = .ok (.ireturn, 1) := by decide +kernel
theorem dL_law_350 : decode cL_law 350 = .ok (.aload_n 1, 1) := by decide +kernel
theorem dL_law_351 : decode cL_law 351 = .ok (.aload_n 0, 1) := by decide +kernel
theorem dL_law_352 : decode cL_law 352 = .ok (.iload 4, 2) := by decide +kernel
theorem dL_law_354 : decode cL_law 354 = .ok (.iconst 1, 1) := by decide +kernel
theorem dL_law_355 : decode cL_law 355 = .ok (.iadd, 1) := by decide +kernel
theorem dL_law_356 : decode cL_law 356 = .ok (.iaload, 1) := by decide +kernel
theorem dL_law_357 : decode cL_law 357 = .ok (.invokevirtual 53, 3) := by decide +kernel
theorem dL_law_360 : decode cL_law 360 = .ok (.aload_n 2, 1) := by decide +kernel
theorem dL_law_361 : decode cL_law 361 = .ok (.aload_n 0, 1) := by decide +kernel
theorem dL_law_362 : decode cL_law 362 = .ok (.iload 4, 2) := by decide +kernel
theorem dL_law_364 : decode cL_law 364 = .ok (.iconst 1, 1) := by decide +kernel
theorem dL_law_365 : decode cL_law 365 = .ok (.iadd, 1) := by decide +kernel
theorem dL_law_366 : decode cL_law 366 = .ok (.iaload, 1) := by decide +kernel
theorem dL_law_367 : decode cL_law 367 = .ok (.invokevirtual 56, 3) := by decide +kernel
theorem dL_law_370 : decode cL_law 370 = .ok (.if_icmp .eq 301, 3) := by decide +kernel
theorem dL_law_373 : decode cL_law 373 = .ok (.iconst 0, 1) := by decide +kernel
theorem dL_law_374 : decode cL_law 374 = .ok (.ireturn, 1) := by decide +kernel
theorem dL_law_375 : decode cL_law 375 = .ok (.aload_n 1, 1) := by decide +kernel
theorem dL_law_376 : decode cL_law 376 = .ok (.invokevirtual 57, 3) := by decide +kernel
theorem dL_law_379 : decode cL_law 379 = .ok (.aload_n 2, 1) := by decide +kernel
theorem dL_law_380 : decode cL_law 380 = .ok (.invokevirtual 61, 3) := by decide +kernel
theorem dL_law_383 : decode cL_law 383 = .ok (.if_icmp .eq 288, 3) := by decide +kernel
theorem dL_law_386 : decode cL_law 386 = .ok (.iconst 0, 1) := by decide +kernel
theorem dL_law_387 : decode cL_law 387 = .ok (.ireturn, 1) := by decide +kernel
theorem dL_law_388 : decode cL_law 388 = .ok (.aload_n 1, 1) := by decide +kernel
theorem dL_law_389 : decode cL_law 389 = .ok (.invokevirtual 62, 3) := by decide +kernel
theorem dL_law_392 : decode cL_law 392 = .ok (.aload_n 2, 1) := by decide +kernel
theorem dL_law_393 : decode cL_law 393 = .ok (.invokevirtual 65, 3) := by decide +kernel
theorem dL_law_396 : decode cL_law 396 = .ok (.if_icmp .eq 275, 3) := by decide +kernel
theorem dL_law_399 : decode cL_law 399 = .ok (.iconst 0, 1) := by decide +kernel
theorem dL_law_400 : decode cL_law 400 = .ok (.ireturn, 1) := by decide +kernel
theorem dL_law_401 : decode cL_law 401 = .ok (.aload_n 1, 1) := by decide +kernel
theorem dL_law_402 : decode cL_law 402 = .ok (.aload_n 0, 1) := by decide +kernel
theorem dL_law_403 : decode cL_law 403 = .ok (.iload 4, 2) := by decide +kernel
theorem dL_law_405 : decode cL_law 405 = .ok (.iconst 1, 1) := by decide +kernel
theorem dL_law_406 : decode cL_law 406 = .ok (.iadd, 1) := by decide +kernel
theorem dL_law_407 : decode cL_law 407 = .ok (.iaload, 1) := by decide +kernel
theorem dL_law_408 : decode cL_law 408 = .ok (.aload_n 3, 1) := by decide +kernel
theorem dL_law_409 : decode cL_law 409 = .ok (.invokestatic 66, 3) := by decide +kernel
theorem dL_law_412 : decode cL_law 412 = .ok (.istore 5, 2) := by decide +kernel
theorem dL_law_414 : decode cL_law 414 = .ok (.aload_n 2, 1) := by decide +kernel
theorem dL_law_415 : decode cL_law 415 = .ok (.aload_n 0, 1) := by decide +kernel
theorem dL_law_416 : decode cL_law 416 = .ok (.iload 4, 2) := by decide +kernel
theorem dL_law_418 : decode cL_law 418 = .ok (.iconst 1, 1) := by decide +kernel
theorem dL_law_419 : decode cL_law 419 = .ok (.iadd, 1) := by decide +kernel
theorem dL_law_420 : decode cL_law 420 = .ok (.iaload, 1) := by decide +kernel
theorem dL_law_421 : decode cL_law 421 = .ok (.invokevirtual 69, 3) := by decide +kernel
theorem dL_law_424 : decode cL_law 424 = .ok (.istore 6, 2) := by decide +kernel
theorem dL_law_426 : decode cL_law 426 = .ok (.aload_n 2, 1) := by decide +kernel
theorem dL_law_427 : decode cL_law 427 = .ok (.invokevirtual 70, 3) := by decide +kernel
theorem dL_law_430 : decode cL_law 430 = .ok (.iload 5, 2) := by decide +kernel
theorem dL_law_432 : decode cL_law 432 = .ok (.if_icmp .eq 5, 3) := by decide +kernel
theorem dL_law_435 : decode cL_law 435 = .ok (.iconst 0, 1) := by decide +kernel
theorem dL_law_436 : decode cL_law 436 = .ok (.ireturn, 1) := by decide +kernel
theorem dL_law_437 : decode cL_law 437 = .ok (.iload 5, 2) := by decide +kernel
theorem dL_law_439 : decode cL_law 439 = .ok (.ifCond .ne 15, 3) := by decide +kernel
theorem dL_law_442 : decode cL_law 442 = .ok (.aload_n 3, 1) := by decide +kernel
theorem dL_law_443 : decode cL_law 443 = .ok (.iconst 0, 1) := by decide +kernel
theorem dL_law_444 : decode cL_law 444 = .ok (.laload, 1) := by decide +kernel
theorem dL_law_445 : decode cL_law 445 = .ok (.iload 6, 2) := by decide +kernel
theorem dL_law_447 : decode cL_law 447 = .ok (.i2l, 1) := by decide +kernel
theorem dL_law_448 : decode cL_law 448 = .ok (.lcmp, 1) := by decide +kernel
theorem dL_law_449 : decode cL_law 449 = .ok (.ifCond .eq 5, 3) := by decide +kernel
theorem dL_law_452 : decode cL_law 452 = .ok (.iconst 0, 1) := by decide +kernel
theorem dL_law_453 : decode cL_law 453 = .ok (.ireturn, 1) := by decide +kernel
theorem dL_law_454 : decode cL_law 454 = .ok (.goto 217, 3) := by decide +kernel
theorem dL_law_457 : decode cL_law 457 = .ok (.aload_n 1, 1) := by decide +kernel
theorem dL_law_458 : decode cL_law 458 = .ok (.aload_n 0, 1) := by decide +kernel
theorem dL_law_459 : decode cL_law 459 = .ok (.iload 4, 2) := by decide +kernel
theorem dL_law_461 : decode cL_law 461 = .ok (.iconst 1, 1) := by decide +kernel
theorem dL_law_462 : decode cL_law 462 = .ok (.iadd, 1) := by decide +kernel
theorem dL_law_463 : decode cL_law 463 = .ok (.iaload, 1) := by decide +kernel
theorem dL_law_464 : decode cL_law 464 = .ok (.aload_n 0, 1) := by decide +kernel
theorem dL_law_465 : decode cL_law 465 = .ok (.iload 4, 2) := by decide +kernel
theorem dL_law_467 : decode cL_law 467 = .ok (.iconst 2, 1) := by decide +kernel
theorem dL_law_468 : decode cL_law 468 = .ok (.iadd, 1) := by decide +kernel
theorem dL_law_469 : decode cL_law 469 = .ok (.iaload, 1) := by decide +kernel
theorem dL_law_470 : decode cL_law 470 = .ok (.invokevirtual 73, 3) := by decide +kernel
theorem dL_law_473 : decode cL_law 473 = .ok (.aload_n 2, 1) := by decide +kernel
theorem dL_law_474 : decode cL_law 474 = .ok (.aload_n 0, 1) := by decide +kernel
theorem dL_law_475 : decode cL_law 475 = .ok (.iload 4, 2) := by decide +kernel
theorem dL_law_477 : decode cL_law 477 = .ok (.iconst 1, 1) := by decide +kernel
theorem dL_law_478 : decode cL_law 478 = .ok (.iadd, 1) := by decide +kernel
theorem dL_law_479 : decode cL_law 479 = .ok (.iaload, 1) := by decide +kernel
theorem dL_law_480 : decode cL_law 480 = .ok (.aload_n 0, 1) := by decide +kernel
theorem dL_law_481 : decode cL_law 481 = .ok (.iload 4, 2) := by decide +kernel
theorem dL_law_483 : decode cL_law 483 = .ok (.iconst 2, 1) := by decide +kernel
theorem dL_law_484 : decode cL_law 484 = .ok (.iadd, 1) := by decide +kernel
theorem dL_law_485 : decode cL_law 485 = .ok (.iaload, 1) := by decide +kernel
theorem dL_law_486 : decode cL_law 486 = .ok (.invokevirtual 76, 3) := by decide +kernel
theorem dL_law_489 : decode cL_law 489 = .ok (.if_icmp .eq 182, 3) := by decide +kernel
theorem dL_law_492 : decode cL_law 492 = .ok (.iconst 0, 1) := by decide +kernel
theorem dL_law_493 : decode cL_law 493 = .ok (.ireturn, 1) := by decide +kernel
theorem dL_law_494 : decode cL_law 494 = .ok (.aload_n 1, 1) := by decide +kernel
theorem dL_law_495 : decode cL_law 495 = .ok (.invokevirtual 77, 3) := by decide +kernel
theorem dL_law_498 : decode cL_law 498 = .ok (.aload_n 2, 1) := by decide +kernel
theorem dL_law_499 : decode cL_law 499 = .ok (.invokevirtual 80, 3) := by decide +kernel
theorem dL_law_502 : decode cL_law 502 = .ok (.if_icmp .eq 169, 3) := by decide +kernel
theorem dL_law_505 : decode cL_law 505 = .ok (.iconst 0, 1) := by decide +kernel
theorem dL_law_506 : decode cL_law 506 = .ok (.ireturn, 1) := by decide +kernel
theorem dL_law_507 : decode cL_law 507 = .ok (.aload_n 1, 1) := by decide +kernel
theorem dL_law_508 : decode cL_law 508 = .ok (.aload_n 0, 1) := by decide +kernel
theorem dL_law_509 : decode cL_law 509 = .ok (.iload 4, 2) := by decide +kernel
theorem dL_law_511 : decode cL_law 511 = .ok (.iconst 1, 1) := by decide +kernel
theorem dL_law_512 : decode cL_law 512 = .ok (.iadd, 1) := by decide +kernel
theorem dL_law_513 : decode cL_law 513 = .ok (.iaload, 1) := by decide +kernel
theorem dL_law_514 : decode cL_law 514 = .ok (.aload_n 0, 1) := by decide +kernel
theorem dL_law_515 : decode cL_law 515 = .ok (.iload 4, 2) := by decide +kernel
theorem dL_law_517 : decode cL_law 517 = .ok (.iconst 2, 1) := by decide +kernel
theorem dL_law_518 : decode cL_law 518 = .ok (.iadd, 1) := by decide +kernel
theorem dL_law_519 : decode cL_law 519 = .ok (.iaload, 1) := by decide +kernel
theorem dL_law_520 : decode cL_law 520 = .ok (.invokevirtual 81, 3) := by decide +kernel
theorem dL_law_523 : decode cL_law 523 = .ok (.aload_n 2, 1) := by decide +kernel
theorem dL_law_524 : decode cL_law 524 = .ok (.aload_n 0, 1) := by decide +kernel
theorem dL_law_525 : decode cL_law 525 = .ok (.iload 4, 2) := by decide +kernel
theorem dL_law_527 : decode cL_law 527 = .ok (.iconst 1, 1) := by decide +kernel
theorem dL_law_528 : decode cL_law 528 = .ok (.iadd, 1) := by decide +kernel
theorem dL_law_529 : decode cL_law 529 = .ok (.iaload, 1) := by decide +kernel
theorem dL_law_530 : decode cL_law 530 = .ok (.aload_n 0, 1) := by decide +kernel
theorem dL_law_531 : decode cL_law 531 = .ok (.iload 4, 2) := by decide +kernel
theorem dL_law_533 : decode cL_law 533 = .ok (.iconst 2, 1) := by decide +kernel
theorem dL_law_534 : decode cL_law 534 = .ok (.iadd, 1) := by decide +kernel
theorem dL_law_535 : decode cL_law 535 = .ok (.iaload, 1) := by decide +kernel
theorem dL_law_536 : decode cL_law 536 = .ok (.invokevirtual 84, 3) := by decide +kernel
theorem dL_law_539 : decode cL_law 539 = .ok (.if_icmp .eq 132, 3) := by decide +kernel
theorem dL_law_542 : decode cL_law 542 = .ok (.iconst 0, 1) := by decide +kernel
theorem dL_law_543 : decode cL_law 543 = .ok (.ireturn, 1) := by decide +kernel
theorem dL_law_544 : decode cL_law 544 = .ok (.aload_n 1, 1) := by decide +kernel
theorem dL_law_545 : decode cL_law 545 = .ok (.aload_n 0, 1) := by decide +kernel
theorem dL_law_546 : decode cL_law 546 = .ok (.iload 4, 2) := by decide +kernel
theorem dL_law_548 : decode cL_law 548 = .ok (.iconst 1, 1) := by decide +kernel
theorem dL_law_549 : decode cL_law 549 = .ok (.iadd, 1) := by decide +kernel
theorem dL_law_550 : decode cL_law 550 = .ok (.iaload, 1) := by decide +kernel
theorem dL_law_551 : decode cL_law 551 = .ok (.aload_n 0, 1) := by decide +kernel
theorem dL_law_552 : decode cL_law 552 = .ok (.iload 4, 2) := by decide +kernel
theorem dL_law_554 : decode cL_law 554 = .ok (.iconst 2, 1) := by decide +kernel
theorem dL_law_555 : decode cL_law 555 = .ok (.iadd, 1) := by decide +kernel
theorem dL_law_556 : decode cL_law 556 = .ok (.iaload, 1) := by decide +kernel
theorem dL_law_557 : decode cL_law 557 = .ok (.invokevirtual 85, 3) := by decide +kernel
theorem dL_law_560 : decode cL_law 560 = .ok (.aload_n 2, 1) := by decide +kernel
theorem dL_law_561 : decode cL_law 561 = .ok (.aload_n 0, 1) := by decide +kernel
theorem dL_law_562 : decode cL_law 562 = .ok (.iload 4, 2) := by decide +kernel
theorem dL_law_564 : decode cL_law 564 = .ok (.iconst 1, 1) := by decide +kernel
theorem dL_law_565 : decode cL_law 565 = .ok (.iadd, 1) := by decide +kernel
theorem dL_law_566 : decode cL_law 566 = .ok (.iaload, 1) := by decide +kernel
theorem dL_law_567 : decode cL_law 567 = .ok (.aload_n 0, 1) := by decide +kernel
theorem dL_law_568 : decode cL_law 568 = .ok (.iload 4, 2) := by decide +kernel
theorem dL_law_570 : decode cL_law 570 = .ok (.iconst 2, 1) := by decide +kernel
theorem dL_law_571 : decode cL_law 571 = .ok (.iadd, 1) := by decide +kernel
theorem dL_law_572 : decode cL_law 572 = .ok (.iaload, 1) := by decide +kernel
theorem dL_law_573 : decode cL_law 573 = .ok (.invokevirtual 88, 3) := by decide +kernel
theorem dL_law_576 : decode cL_law 576 = .ok (.if_icmp .eq 95, 3) := by decide +kernel
theorem dL_law_579 : decode cL_law 579 = .ok (.iconst 0, 1) := by decide +kernel
theorem dL_law_580 : decode cL_law 580 = .ok (.ireturn, 1) := by decide +kernel
theorem dL_law_581 : decode cL_law 581 = .ok (.aload_n 1, 1) := by decide +kernel
theorem dL_law_582 : decode cL_law 582 = .ok (.aload_n 0, 1) := by decide +kernel
theorem dL_law_583 : decode cL_law 583 = .ok (.iload 4, 2) := by decide +kernel
theorem dL_law_585 : decode cL_law 585 = .ok (.iconst 1, 1) := by decide +kernel
theorem dL_law_586 : decode cL_law 586 = .ok (.iadd, 1) := by decide +kernel
theorem dL_law_587 : decode cL_law 587 = .ok (.iaload, 1) := by decide +kernel
theorem dL_law_588 : decode cL_law 588 = .ok (.aload_n 0, 1) := by decide +kernel
theorem dL_law_589 : decode cL_law 589 = .ok (.iload 4, 2) := by decide +kernel
theorem dL_law_591 : decode cL_law 591 = .ok (.iconst 2, 1) := by decide +kernel
theorem dL_law_592 : decode cL_law 592 = .ok (.iadd, 1) := by decide +kernel
theorem dL_law_593 : decode cL_law 593 = .ok (.iaload, 1) := by decide +kernel
theorem dL_law_594 : decode cL_law 594 = .ok (.aload_n 0, 1) := by decide +kernel
theorem dL_law_595 : decode cL_law 595 = .ok (.iload 4, 2) := by decide +kernel
theorem dL_law_597 : decode cL_law 597 = .ok (.iconst 3, 1) := by decide +kernel
theorem dL_law_598 : decode cL_law 598 = .ok (.iadd, 1) := by decide +kernel
theorem dL_law_599 : decode cL_law 599 = .ok (.iaload, 1) := by decide +kernel
theorem dL_law_600 : decode cL_law 600 = .ok (.ifCond .eq 7, 3) := by decide +kernel
theorem dL_law_603 : decode cL_law 603 = .ok (.iconst 1, 1) := by decide +kernel
theorem dL_law_604 : decode cL_law 604 = .ok (.goto 4, 3) := by decide +kernel
theorem dL_law_607 : decode cL_law 607 = .ok (.iconst 0, 1) := by decide +kernel
theorem dL_law_608 : decode cL_law 608 = .ok (.invokevirtual 89, 3) := by decide +kernel
theorem dL_law_611 : decode cL_law 611 = .ok (.aload_n 2, 1) := by decide +kernel
theorem dL_law_612 : decode cL_law 612 = .ok (.aload_n 0, 1) := by decide +kernel
theorem dL_law_613 : decode cL_law 613 = .ok (.iload 4, 2) := by decide +kernel
theorem dL_law_615 : decode cL_law 615 = .ok (.iconst 1, 1) := by decide +kernel
theorem dL_law_616 : decode cL_law 616 = .ok (.iadd, 1) := by decide +kernel
theorem dL_law_617 : decode cL_law 617 = .ok (.iaload, 1) := by decide +kernel
theorem dL_law_618 : decode cL_law 618 = .ok (.aload_n 0, 1) := by decide +kernel
theorem dL_law_619 : decode cL_law 619 = .ok (.iload 4, 2) := by decide +kernel
theorem dL_law_621 : decode cL_law 621 = .ok (.iconst 2, 1) := by decide +kernel
theorem dL_law_622 : decode cL_law 622 = .ok (.iadd, 1) := by decide +kernel
theorem dL_law_623 : decode cL_law 623 = .ok (.iaload, 1) := by decide +kernel
theorem dL_law_624 : decode cL_law 624 = .ok (.aload_n 0, 1) := by decide +kernel
theorem dL_law_625 : decode cL_law 625 = .ok (.iload 4, 2) := by decide +kernel
theorem dL_law_627 : decode cL_law 627 = .ok (.iconst 3, 1) := by decide +kernel
theorem dL_law_628 : decode cL_law 628 = .ok (.iadd, 1) := by decide +kernel
theorem dL_law_629 : decode cL_law 629 = .ok (.iaload, 1) := by decide +kernel
theorem dL_law_630 : decode cL_law 630 = .ok (.ifCond .eq 7, 3) := by decide +kernel
theorem dL_law_633 : decode cL_law 633 = .ok (.iconst 1, 1) := by decide +kernel
theorem dL_law_634 : decode cL_law 634 = .ok (.goto 4, 3) := by decide +kernel
theorem dL_law_637 : decode cL_law 637 = .ok (.iconst 0, 1) := by decide +kernel
theorem dL_law_638 : decode cL_law 638 = .ok (.invokevirtual 93, 3) := by decide +kernel
theorem dL_law_641 : decode cL_law 641 = .ok (.if_icmp .eq 30, 3) := by decide +kernel
theorem dL_law_644 : decode cL_law 644 = .ok (.iconst 0, 1) := by decide +kernel
theorem dL_law_645 : decode cL_law 645 = .ok (.ireturn, 1) := by decide +kernel
theorem dL_law_646 : decode cL_law 646 = .ok (.aload_n 1, 1) := by decide +kernel
theorem dL_law_647 : decode cL_law 647 = .ok (.aload_n 0, 1) := by decide +kernel
theorem dL_law_648 : decode cL_law 648 = .ok (.iload 4, 2) := by decide +kernel
theorem dL_law_650 : decode cL_law 650 = .ok (.iconst 1, 1) := by decide +kernel
theorem dL_law_651 : decode cL_law 651 = .ok (.iadd, 1) := by decide +kernel
theorem dL_law_652 : decode cL_law 652 = .ok (.iaload, 1) := by decide +kernel
theorem dL_law_653 : decode cL_law 653 = .ok (.invokevirtual 94, 3) := by decide +kernel
theorem dL_law_656 : decode cL_law 656 = .ok (.aload_n 2, 1) := by decide +kernel
theorem dL_law_657 : decode cL_law 657 = .ok (.aload_n 0, 1) := by decide +kernel
theorem dL_law_658 : decode cL_law 658 = .ok (.iload 4, 2) := by decide +kernel
theorem dL_law_660 : decode cL_law 660 = .ok (.iconst 1, 1) := by decide +kernel
theorem dL_law_661 : decode cL_law 661 = .ok (.iadd, 1) := by decide +kernel
theorem dL_law_662 : decode cL_law 662 = .ok (.iaload, 1) := by decide +kernel
theorem dL_law_663 : decode cL_law 663 = .ok (.invokevirtual 97, 3) := by decide +kernel
theorem dL_law_666 : decode cL_law 666 = .ok (.if_icmp .eq 5, 3) := by decide +kernel
theorem dL_law_669 : decode cL_law 669 = .ok (.iconst 0, 1) := by decide +kernel
theorem dL_law_670 : decode cL_law 670 = .ok (.ireturn, 1) := by decide +kernel
theorem dL_law_671 : decode cL_law 671 = .ok (.iinc 4 6, 3) := by decide +kernel
theorem dL_law_674 : decode cL_law 674 = .ok (.goto (-641), 3) := by decide +kernel
theorem dL_law_677 : decode cL_law 677 = .ok (.iconst 1, 1) := by decide +kernel
theorem dL_law_678 : decode cL_law 678 = .ok (.ireturn, 1) := by decide +kernel
