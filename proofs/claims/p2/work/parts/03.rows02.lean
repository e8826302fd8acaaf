theorem dX6_readProperties_19 : decode cX6_readProperties 19 = .ok (.istore_n 3, 1) := by decide +kernel
theorem dX6_readProperties_20 : decode cX6_readProperties 20 = .ok (.iload_n 1, 1) := by decide +kernel
theorem dX6_readProperties_21 : decode cX6_readProperties 21 = .ok (.sipush 225, 3) := by decide +kernel
theorem dX6_readProperties_24 : decode cX6_readProperties 24 = .ok (.if_icmp .ge 10, 3) := by decide +kernel
theorem dX6_readProperties_27 : decode cX6_readProperties 27 = .ok (.iload_n 2, 1) := by decide +kernel
theorem dX6_readProperties_28 : decode cX6_readProperties 28 = .ok (.iload_n 3, 1) := by decide +kernel
theorem dX6_readProperties_29 : decode cX6_readProperties 29 = .ok (.iadd, 1) := by decide +kernel
theorem dX6_readProperties_30 : decode cX6_readProperties 30 = .ok (.iconst 4, 1) := by decide +kernel
theorem dX6_readProperties_31 : decode cX6_readProperties 31 = .ok (.if_icmp .le 11, 3) := by decide +kernel
theorem dX6_readProperties_34 : decode cX6_readProperties 34 = .ok (.aload_n 0, 1) := by decide +kernel
theorem dX6_readProperties_35 : decode cX6_readProperties 35 = .ok (.getfield 9, 3) := by decide +kernel
theorem dX6_readProperties_38 : decode cX6_readProperties 38 = .ok (.iconst 3, 1) := by decide +kernel
theorem dX6_readProperties_39 : decode cX6_readProperties 39 = .ok (.invokevirtual 85, 3) := by decide +kernel
theorem dX6_readProperties_42 : decode cX6_readProperties 42 = .ok (.aload_n 0, 1) := by decide +kernel
theorem dX6_readProperties_43 : decode cX6_readProperties 43 = .ok (.getfield 19, 3) := by decide +kernel
theorem dX6_readProperties_46 : decode cX6_readProperties 46 = .ok (.iload_n 2, 1) := by decide +kernel
theorem dX6_readProperties_47 : decode cX6_readProperties 47 = .ok (.iload_n 3, 1) := by decide +kernel
theorem dX6_readProperties_48 : decode cX6_readProperties 48 = .ok (.iload_n 1, 1) := by decide +kernel
theorem dX6_readProperties_49 : decode cX6_readProperties 49 = .ok (.bipush 45, 2) := by decide +kernel
theorem dX6_readProperties_51 : decode cX6_readProperties 51 = .ok (.idiv, 1) := by decide +kernel
theorem dX6_readProperties_52 : decode cX6_readProperties 52 = .ok (.invokevirtual 62, 3) := by decide +kernel
theorem dX6_readProperties_55 : decode cX6_readProperties 55 = .ok (.return_, 1) := by decide +kernel
theorem dX6_readBits_0 : decode cX6_readBits 0 = .ok (.aload_n 0, 1) := by decide +kernel
theorem dX6_readBits_1 : decode cX6_readBits 1 = .ok (.getfield 19, 3) := by decide +kernel
theorem dX6_readBits_4 : decode cX6_readBits 4 = .ok (.getfield 112, 3) := by decide +kernel
theorem dX6_readBits_7 : decode cX6_readBits 7 = .ok (.invokevirtual 128, 3) := by decide +kernel
theorem dX6_readBits_10 : decode cX6_readBits 10 = .ok (.iconst 0, 1) := by decide +kernel
theorem dX6_readBits_11 : decode cX6_readBits 11 = .ok (.istore_n 2, 1) := by decide +kernel
theorem dX6_readBits_12 : decode cX6_readBits 12 = .ok (.iconst 0, 1) := by decide +kernel
theorem dX6_readBits_13 : decode cX6_readBits 13 = .ok (.istore_n 3, 1) := by decide +kernel
theorem dX6_readBits_14 : decode cX6_readBits 14 = .ok (.iload_n 3, 1) := by decide +kernel
theorem dX6_readBits_15 : decode cX6_readBits 15 = .ok (.sipush 3000, 3) := by decide +kernel
theorem dX6_readBits_18 : decode cX6_readBits 18 = .ok (.if_icmp .gt 34, 3) := by decide +kernel
theorem dX6_readBits_21 : decode cX6_readBits 21 = .ok (.iload_n 2, 1) := by decide +kernel
theorem dX6_readBits_22 : decode cX6_readBits 22 = .ok (.ifCond .ne 30, 3) := by decide +kernel
theorem dX6_readBits_25 : decode cX6_readBits 25 = .ok (.iload_n 1, 1) := by decide +kernel
theorem dX6_readBits_26 : decode cX6_readBits 26 = .ok (.ifCond .lt 14, 3) := by decide +kernel
theorem dX6_readBits_29 : decode cX6_readBits 29 = .ok (.aload_n 0, 1) := by decide +kernel
theorem dX6_readBits_30 : decode cX6_readBits 30 = .ok (.getfield 15, 3) := by decide +kernel
theorem dX6_readBits_33 : decode cX6_readBits 33 = .ok (.getfield 53, 3) := by decide +kernel
theorem dX6_readBits_36 : decode cX6_readBits 36 = .ok (.iload_n 1, 1) := by decide +kernel
theorem dX6_readBits_37 : decode cX6_readBits 37 = .ok (.if_icmp .ge 15, 3) := by decide +kernel
theorem dX6_readBits_40 : decode cX6_readBits 40 = .ok (.aload_n 0, 1) := by decide +kernel
theorem dX6_readBits_41 : decode cX6_readBits 41 = .ok (.iload_n 1, 1) := by decide +kernel
theorem dX6_readBits_42 : decode cX6_readBits 42 = .ok (.invokevirtual 131, 3) := by decide +kernel
theorem dX6_readBits_45 : decode cX6_readBits 45 = .ok (.istore_n 2, 1) := by decide +kernel
theorem dX6_readBits_46 : decode cX6_readBits 46 = .ok (.iinc 3 1, 3) := by decide +kernel
theorem dX6_readBits_49 : decode cX6_readBits 49 = .ok (.goto (-35), 3) := by decide +kernel
theorem dX6_readBits_52 : decode cX6_readBits 52 = .ok (.return_, 1) := by decide +kernel
theorem dX6_readChoice_0 : decode cX6_readChoice 0 = .ok (.aload_n 0, 1) := by decide +kernel
theorem dX6_readChoice_1 : decode cX6_readChoice 1 = .ok (.getfield 15, 3) := by decide +kernel
theorem dX6_readChoice_4 : decode cX6_readChoice 4 = .ok (.getfield 53, 3) := by decide +kernel
theorem dX6_readChoice_7 : decode cX6_readChoice 7 = .ok (.aload_n 0, 1) := by decide +kernel
theorem dX6_readChoice_8 : decode cX6_readChoice 8 = .ok (.getfield 75, 3) := by decide +kernel
theorem dX6_readChoice_11 : decode cX6_readChoice 11 = .ok (.isub, 1) := by decide +kernel
theorem dX6_readChoice_12 : decode cX6_readChoice 12 = .ok (.istore_n 2, 1) := by decide +kernel
theorem dX6_readChoice_13 : decode cX6_readChoice 13 = .ok (.aload_n 0, 1) := by decide +kernel
theorem dX6_readChoice_14 : decode cX6_readChoice 14 = .ok (.getfield 19, 3) := by decide +kernel
theorem dX6_readChoice_17 : decode cX6_readChoice 17 = .ok (.iconst 0, 1) := by decide +kernel
theorem dX6_readChoice_18 : decode cX6_readChoice 18 = .ok (.iload_n 2, 1) := by decide +kernel
theorem dX6_readChoice_19 : decode cX6_readChoice 19 = .ok (.invokevirtual 135, 3) := by decide +kernel
theorem dX6_readChoice_22 : decode cX6_readChoice 22 = .ok (.istore_n 3, 1) := by decide +kernel
theorem dX6_readChoice_23 : decode cX6_readChoice 23 = .ok (.iload_n 3, 1) := by decide +kernel
theorem dX6_readChoice_24 : decode cX6_readChoice 24 = .ok (.ifCond .ne 10, 3) := by decide +kernel
theorem dX6_readChoice_27 : decode cX6_readChoice 27 = .ok (.aload_n 0, 1) := by decide +kernel
theorem dX6_readChoice_28 : decode cX6_readChoice 28 = .ok (.iload_n 2, 1) := by decide +kernel
theorem dX6_readChoice_29 : decode cX6_readChoice 29 = .ok (.invokevirtual 139, 3) := by decide +kernel
theorem dX6_readChoice_32 : decode cX6_readChoice 32 = .ok (.iconst 0, 1) := by decide +kernel
theorem dX6_readChoice_33 : decode cX6_readChoice 33 = .ok (.ireturn, 1) := by decide +kernel
theorem dX6_readChoice_34 : decode cX6_readChoice 34 = .ok (.iconst 1, 1) := by decide +kernel
theorem dX6_readChoice_35 : decode cX6_readChoice 35 = .ok (.istore 4, 2) := by decide +kernel
theorem dX6_readChoice_37 : decode cX6_readChoice 37 = .ok (.aload_n 0, 1) := by decide +kernel
theorem dX6_readChoice_38 : decode cX6_readChoice 38 = .ok (.getfield 19, 3) := by decide +kernel
theorem dX6_readChoice_41 : decode cX6_readChoice 41 = .ok (.iload_n 3, 1) := by decide +kernel
theorem dX6_readChoice_42 : decode cX6_readChoice 42 = .ok (.bipush 6, 2) := by decide +kernel
theorem dX6_readChoice_44 : decode cX6_readChoice 44 = .ok (.if_icmp .ne 7, 3) := by decide +kernel
theorem dX6_readChoice_47 : decode cX6_readChoice 47 = .ok (.iconst 0, 1) := by decide +kernel
theorem dX6_readChoice_48 : decode cX6_readChoice 48 = .ok (.goto 6, 3) := by decide +kernel
theorem dX6_readChoice_51 : decode cX6_readChoice 51 = .ok (.iload_n 3, 1) := by decide +kernel
theorem dX6_readChoice_52 : decode cX6_readChoice 52 = .ok (.iconst 2, 1) := by decide +kernel
theorem dX6_readChoice_53 : decode cX6_readChoice 53 = .ok (.isub, 1) := by decide +kernel
theorem dX6_readChoice_54 : decode cX6_readChoice 54 = .ok (.invokevirtual 142, 3) := by decide +kernel
theorem dX6_readChoice_57 : decode cX6_readChoice 57 = .ok (.lstore 5, 2) := by decide +kernel
theorem dX6_readChoice_59 : decode cX6_readChoice 59 = .ok (.iload_n 3, 1) := by decide +kernel
theorem dX6_readChoice_60 : decode cX6_readChoice 60 = .ok (.iconst 1, 1) := by decide +kernel
theorem dX6_readChoice_61 : decode cX6_readChoice 61 = .ok (.if_icmp .ne 32, 3) := by decide +kernel
theorem dX6_readChoice_64 : decode cX6_readChoice 64 = .ok (.aload_n 0, 1) := by decide +kernel
theorem dX6_readChoice_65 : decode cX6_readChoice 65 = .ok (.getfield 19, 3) := by decide +kernel
theorem dX6_readChoice_68 : decode cX6_readChoice 68 = .ok (.sipush 1024, 3) := by decide +kernel
theorem dX6_readChoice_71 : decode cX6_readChoice 71 = .ok (.iconst 0, 1) := by decide +kernel
theorem dX6_readChoice_72 : decode cX6_readChoice 72 = .ok (.iload_n 2, 1) := by decide +kernel
theorem dX6_readChoice_73 : decode cX6_readChoice 73 = .ok (.invokevirtual 145, 3) := by decide +kernel
theorem dX6_readChoice_76 : decode cX6_readChoice 76 = .ok (.istore 4, 2) := by decide +kernel
theorem dX6_readChoice_78 : decode cX6_readChoice 78 = .ok (.aload_n 0, 1) := by decide +kernel
theorem dX6_readChoice_79 : decode cX6_readChoice 79 = .ok (.getfield 19, 3) := by decide +kernel
theorem dX6_readChoice_82 : decode cX6_readChoice 82 = .ok (.lconst 0, 1) := by decide +kernel
theorem dX6_readChoice_83 : decode cX6_readChoice 83 = .ok (.iload 4, 2) := by decide +kernel
theorem dX6_readChoice_85 : decode cX6_readChoice 85 = .ok (.invokevirtual 149, 3) := by decide +kernel
theorem dX6_readChoice_88 : decode cX6_readChoice 88 = .ok (.lstore 5, 2) := by decide +kernel
theorem dX6_readChoice_90 : decode cX6_readChoice 90 = .ok (.goto 23, 3) := by decide +kernel
theorem dX6_readChoice_93 : decode cX6_readChoice 93 = .ok (.iload_n 3, 1) := by decide +kernel
theorem dX6_readChoice_94 : decode cX6_readChoice 94 = .ok (.bipush 6, 2) := by decide +kernel
theorem dX6_readChoice_96 : decode cX6_readChoice 96 = .ok (.if_icmp .eq 17, 3) := by decide +kernel
theorem dX6_readChoice_99 : decode cX6_readChoice 99 = .ok (.aload_n 0, 1) := by decide +kernel
theorem dX6_readChoice_100 : decode cX6_readChoice 100 = .ok (.getfield 19, 3) := by decide +kernel
theorem dX6_readChoice_103 : decode cX6_readChoice 103 = .ok (.sipush 1538, 3) := by decide +kernel
theorem dX6_readChoice_106 : decode cX6_readChoice 106 = .ok (.iconst 0, 1) := by decide +kernel
theorem dX6_readChoice_107 : decode cX6_readChoice 107 = .ok (.iload_n 2, 1) := by decide +kernel
theorem dX6_readChoice_108 : decode cX6_readChoice 108 = .ok (.invokevirtual 145, 3) := by decide +kernel
theorem dX6_readChoice_111 : decode cX6_readChoice 111 = .ok (.istore 4, 2) := by decide +kernel
theorem dX6_readChoice_113 : decode cX6_readChoice 113 = .ok (.aload_n 0, 1) := by decide +kernel
theorem dX6_readChoice_114 : decode cX6_readChoice 114 = .ok (.getfield 19, 3) := by decide +kernel
theorem dX6_readChoice_117 : decode cX6_readChoice 117 = .ok (.iload_n 3, 1) := by decide +kernel
theorem dX6_readChoice_118 : decode cX6_readChoice 118 = .ok (.lload 5, 2) := by decide +kernel
theorem dX6_readChoice_120 : decode cX6_readChoice 120 = .ok (.invokevirtual 153, 3) := by decide +kernel
theorem dX6_readChoice_123 : decode cX6_readChoice 123 = .ok (.lload 5, 2) := by decide +kernel
theorem dX6_readChoice_125 : decode cX6_readChoice 125 = .ok (.ldc2_w 157, 3) := by decide +kernel
theorem dX6_readChoice_128 : decode cX6_readChoice 128 = .ok (.lcmp, 1) := by decide +kernel
theorem dX6_readChoice_129 : decode cX6_readChoice 129 = .ok (.ifCond .ne 18, 3) := by decide +kernel
theorem dX6_readChoice_132 : decode cX6_readChoice 132 = .ok (.aload_n 0, 1) := by decide +kernel
theorem dX6_readChoice_133 : decode cX6_readChoice 133 = .ok (.iload_n 1, 1) := by decide +kernel
theorem dX6_readChoice_134 : decode cX6_readChoice 134 = .ok (.ifCond .ge 7, 3) := by decide +kernel
theorem dX6_readChoice_137 : decode cX6_readChoice 137 = .ok (.iconst 1, 1) := by decide +kernel
theorem dX6_readChoice_138 : decode cX6_readChoice 138 = .ok (.goto 4, 3) := by decide +kernel
theorem dX6_readChoice_141 : decode cX6_readChoice 141 = .ok (.iconst 0, 1) := by decide +kernel
theorem dX6_readChoice_142 : decode cX6_readChoice 142 = .ok (.invokevirtual 159, 3) := by decide +kernel
theorem dX6_readChoice_145 : decode cX6_readChoice 145 = .ok (.iconst 1, 1) := by decide +kernel
theorem dX6_readChoice_146 : decode cX6_readChoice 146 = .ok (.ireturn, 1) := by decide +kernel
theorem dX6_readChoice_147 : decode cX6_readChoice 147 = .ok (.aload_n 0, 1) := by decide +kernel
theorem dX6_readChoice_148 : decode cX6_readChoice 148 = .ok (.lload 5, 2) := by decide +kernel
theorem dX6_readChoice_150 : decode cX6_readChoice 150 = .ok (.iload 4, 2) := by decide +kernel
theorem dX6_readChoice_152 : decode cX6_readChoice 152 = .ok (.iload_n 1, 1) := by decide +kernel
theorem dX6_readChoice_153 : decode cX6_readChoice 153 = .ok (.invokevirtual 163, 3) := by decide +kernel
theorem dX6_readChoice_156 : decode cX6_readChoice 156 = .ok (.aload_n 0, 1) := by decide +kernel
theorem dX6_readChoice_157 : decode cX6_readChoice 157 = .ok (.getfield 27, 3) := by decide +kernel
theorem dX6_readChoice_160 : decode cX6_readChoice 160 = .ok (.iload_n 3, 1) := by decide +kernel
theorem dX6_readChoice_161 : decode cX6_readChoice 161 = .ok (.aload_n 0, 1) := by decide +kernel
theorem dX6_readChoice_162 : decode cX6_readChoice 162 = .ok (.getfield 15, 3) := by decide +kernel
theorem dX6_readChoice_165 : decode cX6_readChoice 165 = .ok (.getfield 53, 3) := by decide +kernel
theorem dX6_readChoice_168 : decode cX6_readChoice 168 = .ok (.iload 4, 2) := by decide +kernel
theorem dX6_readChoice_170 : decode cX6_readChoice 170 = .ok (.lload 5, 2) := by decide +kernel
theorem dX6_readChoice_172 : decode cX6_readChoice 172 = .ok (.l2i, 1) := by decide +kernel
theorem dX6_readChoice_173 : decode cX6_readChoice 173 = .ok (.invokevirtual 167, 3) := by decide +kernel
theorem dX6_readChoice_176 : decode cX6_readChoice 176 = .ok (.iconst 0, 1) := by decide +kernel
theorem dX6_readChoice_177 : decode cX6_readChoice 177 = .ok (.istore 7, 2) := by decide +kernel
theorem dX6_readChoice_179 : decode cX6_readChoice 179 = .ok (.iload 7, 2) := by decide +kernel
theorem dX6_readChoice_181 : decode cX6_readChoice 181 = .ok (.iload 4, 2) := by decide +kernel
theorem dX6_readChoice_183 : decode cX6_readChoice 183 = .ok (.if_icmp .ge 34, 3) := by decide +kernel
theorem dX6_readChoice_186 : decode cX6_readChoice 186 = .ok (.aload_n 0, 1) := by decide +kernel
theorem dX6_readChoice_187 : decode cX6_readChoice 187 = .ok (.getfield 15, 3) := by decide +kernel
theorem dX6_readChoice_190 : decode cX6_readChoice 190 = .ok (.aload_n 0, 1) := by decide +kernel
theorem dX6_readChoice_191 : decode cX6_readChoice 191 = .ok (.getfield 15, 3) := by decide +kernel
theorem dX6_readChoice_194 : decode cX6_readChoice 194 = .ok (.aload_n 0, 1) := by decide +kernel
theorem dX6_readChoice_195 : decode cX6_readChoice 195 = .ok (.getfield 15, 3) := by decide +kernel
theorem dX6_readChoice_198 : decode cX6_readChoice 198 = .ok (.getfield 53, 3) := by decide +kernel
theorem dX6_readChoice_201 : decode cX6_readChoice 201 = .ok (.lload 5, 2) := by decide +kernel
theorem dX6_readChoice_203 : decode cX6_readChoice 203 = .ok (.l2i, 1) := by decide +kernel
theorem dX6_readChoice_204 : decode cX6_readChoice 204 = .ok (.isub, 1) := by decide +kernel
theorem dX6_readChoice_205 : decode cX6_readChoice 205 = .ok (.invokevirtual 171, 3) := by decide +kernel
theorem dX6_readChoice_208 : decode cX6_readChoice 208 = .ok (.invokevirtual 175, 3) := by decide +kernel
theorem dX6_readChoice_211 : decode cX6_readChoice 211 = .ok (.iinc 7 1, 3) := by decide +kernel
theorem dX6_readChoice_214 : decode cX6_readChoice 214 = .ok (.goto (-35), 3) := by decide +kernel
theorem dX6_readChoice_217 : decode cX6_readChoice 217 = .ok (.iconst 0, 1) := by decide +kernel
theorem dX6_readChoice_218 : decode cX6_readChoice 218 = .ok (.ireturn, 1) := by decide +kernel
theorem dX6_readLiteral_0 : decode cX6_readLiteral 0 = .ok (.iload_n 1, 1) := by decide +kernel
theorem dX6_readLiteral_1 : decode cX6_readLiteral 1 = .ok (.ifCond .le 22, 3) := by decide +kernel
theorem dX6_readLiteral_4 : decode cX6_readLiteral 4 = .ok (.aload_n 0, 1) := by decide +kernel
theorem dX6_readLiteral_5 : decode cX6_readLiteral 5 = .ok (.getfield 15, 3) := by decide +kernel
theorem dX6_readLiteral_8 : decode cX6_readLiteral 8 = .ok (.aload_n 0, 1) := by decide +kernel
theorem dX6_readLiteral_9 : decode cX6_readLiteral 9 = .ok (.getfield 15, 3) := by decide +kernel
theorem dX6_readLiteral_12 : decode cX6_readLiteral 12 = .ok (.getfield 53, 3) := by decide +kernel
theorem dX6_readLiteral_15 : decode cX6_readLiteral 15 = .ok (.iconst 1, 1) := by decide +kernel
theorem dX6_readLiteral_16 : decode cX6_readLiteral 16 = .ok (.isub, 1) := by decide +kernel
theorem dX6_readLiteral_17 : decode cX6_readLiteral 17 = .ok (.invokevirtual 171, 3) := by decide +kernel
theorem dX6_readLiteral_20 : decode cX6_readLiteral 20 = .ok (.goto 4, 3) := by decide +kernel
theorem dX6_readLiteral_23 : decode cX6_readLiteral 23 = .ok (.iconst 0, 1) := by decide +kernel
theorem dX6_readLiteral_24 : decode cX6_readLiteral 24 = .ok (.istore_n 2, 1) := by decide +kernel
theorem dX6_readLiteral_25 : decode cX6_readLiteral 25 = .ok (.aload_n 0, 1) := by decide +kernel
theorem dX6_readLiteral_26 : decode cX6_readLiteral 26 = .ok (.getfield 15, 3) := by decide +kernel
theorem dX6_readLiteral_29 : decode cX6_readLiteral 29 = .ok (.aload_n 0, 1) := by decide +kernel
theorem dX6_readLiteral_30 : decode cX6_readLiteral 30 = .ok (.getfield 15, 3) := by decide +kernel
theorem dX6_readLiteral_33 : decode cX6_readLiteral 33 = .ok (.getfield 53, 3) := by decide +kernel
theorem dX6_readLiteral_36 : decode cX6_readLiteral 36 = .ok (.aload_n 0, 1) := by decide +kernel
theorem dX6_readLiteral_37 : decode cX6_readLiteral 37 = .ok (.getfield 19, 3) := by decide +kernel
theorem dX6_readLiteral_40 : decode cX6_readLiteral 40 = .ok (.iconst 0, 1) := by decide +kernel
theorem dX6_readLiteral_41 : decode cX6_readLiteral 41 = .ok (.invokevirtual 142, 3) := by decide +kernel
theorem dX6_readLiteral_44 : decode cX6_readLiteral 44 = .ok (.l2i, 1) := by decide +kernel
theorem dX6_readLiteral_45 : decode cX6_readLiteral 45 = .ok (.isub, 1) := by decide +kernel
theorem dX6_readLiteral_46 : decode cX6_readLiteral 46 = .ok (.invokevirtual 171, 3) := by decide +kernel
theorem dX6_readLiteral_49 : decode cX6_readLiteral 49 = .ok (.istore_n 3, 1) := by decide +kernel
theorem dX6_readLiteral_50 : decode cX6_readLiteral 50 = .ok (.aload_n 0, 1) := by decide +kernel
theorem dX6_readLiteral_51 : decode cX6_readLiteral 51 = .ok (.getfield 19, 3) := by decide +kernel
theorem dX6_readLiteral_54 : decode cX6_readLiteral 54 = .ok (.iconst 0, 1) := by decide +kernel
theorem dX6_readLiteral_55 : decode cX6_readLiteral 55 = .ok (.iload_n 1, 1) := by decide +kernel
theorem dX6_readLiteral_56 : decode cX6_readLiteral 56 = .ok (.iload_n 2, 1) := by decide +kernel
theorem dX6_readLiteral_57 : decode cX6_readLiteral 57 = .ok (.iload_n 3, 1) := by decide +kernel
theorem dX6_readLiteral_58 : decode cX6_readLiteral 58 = .ok (.invokevirtual 178, 3) := by decide +kernel
theorem dX6_readLiteral_61 : decode cX6_readLiteral 61 = .ok (.istore 4, 2) := by decide +kernel
theorem dX6_readLiteral_63 : decode cX6_readLiteral 63 = .ok (.aload_n 0, 1) := by decide +kernel
theorem dX6_readLiteral_64 : decode cX6_readLiteral 64 = .ok (.getfield 15, 3) := by decide +kernel
theorem dX6_readLiteral_67 : decode cX6_readLiteral 67 = .ok (.getfield 53, 3) := by decide +kernel
theorem dX6_readLiteral_70 : decode cX6_readLiteral 70 = .ok (.sipush 3000, 3) := by decide +kernel
theorem dX6_readLiteral_73 : decode cX6_readLiteral 73 = .ok (.if_icmp .lt 12, 3) := by decide +kernel
theorem dX6_readLiteral_76 : decode cX6_readLiteral 76 = .ok (.aload_n 0, 1) := by decide +kernel
theorem dX6_readLiteral_77 : decode cX6_readLiteral 77 = .ok (.getfield 9, 3) := by decide +kernel
theorem dX6_readLiteral_80 : decode cX6_readLiteral 80 = .ok (.bipush 13, 2) := by decide +kernel
theorem dX6_readLiteral_82 : decode cX6_readLiteral 82 = .ok (.invokevirtual 85, 3) := by decide +kernel
theorem dX6_readLiteral_85 : decode cX6_readLiteral 85 = .ok (.aload_n 0, 1) := by decide +kernel
theorem dX6_readLiteral_86 : decode cX6_readLiteral 86 = .ok (.getfield 27, 3) := by decide +kernel
theorem dX6_readLiteral_89 : decode cX6_readLiteral 89 = .ok (.iconst 0, 1) := by decide +kernel
theorem dX6_readLiteral_90 : decode cX6_readLiteral 90 = .ok (.aload_n 0, 1) := by decide +kernel
theorem dX6_readLiteral_91 : decode cX6_readLiteral 91 = .ok (.getfield 15, 3) := by decide +kernel
theorem dX6_readLiteral_94 : decode cX6_readLiteral 94 = .ok (.getfield 53, 3) := by decide +kernel
theorem dX6_readLiteral_97 : decode cX6_readLiteral 97 = .ok (.iconst 1, 1) := by decide +kernel
theorem dX6_readLiteral_98 : decode cX6_readLiteral 98 = .ok (.iconst 0, 1) := by decide +kernel
theorem dX6_readLiteral_99 : decode cX6_readLiteral 99 = .ok (.invokevirtual 167, 3) := by decide +kernel
theorem dX6_readLiteral_102 : decode cX6_readLiteral 102 = .ok (.aload_n 0, 1) := by decide +kernel
theorem dX6_readLiteral_103 : decode cX6_readLiteral 103 = .ok (.getfield 19, 3) := by decide +kernel
theorem dX6_readLiteral_106 : decode cX6_readLiteral 106 = .ok (.iconst 0, 1) := by decide +kernel
theorem dX6_readLiteral_107 : decode cX6_readLiteral 107 = .ok (.lconst 0, 1) := by decide +kernel
theorem dX6_readLiteral_108 : decode cX6_readLiteral 108 = .ok (.invokevirtual 153, 3) := by decide +kernel
theorem dX6_readLiteral_111 : decode cX6_readLiteral 111 = .ok (.aload_n 0, 1) := by decide +kernel
theorem dX6_readLiteral_112 : decode cX6_readLiteral 112 = .ok (.getfield 15, 3) := by decide +kernel
theorem dX6_readLiteral_115 : decode cX6_readLiteral 115 = .ok (.iload 4, 2) := by decide +kernel
theorem dX6_readLiteral_117 : decode cX6_readLiteral 117 = .ok (.invokevirtual 175, 3) := by decide +kernel
theorem dX6_readLiteral_120 : decode cX6_readLiteral 120 = .ok (.return_, 1) := by decide +kernel
theorem dX6_judgeCopy_0 : decode cX6_judgeCopy 0 = .ok (.lload_n 1, 1) := by decide +kernel
theorem dX6_judgeCopy_1 : decode cX6_judgeCopy 1 = .ok (.aload_n 0, 1) := by decide +kernel
theorem dX6_judgeCopy_2 : decode cX6_judgeCopy 2 = .ok (.getfield 15, 3) := by decide +kernel
theorem dX6_judgeCopy_5 : decode cX6_judgeCopy 5 = .ok (.getfield 53, 3) := by decide +kernel
theorem dX6_judgeCopy_8 : decode cX6_judgeCopy 8 = .ok (.aload_n 0, 1) := by decide +kernel
theorem dX6_judgeCopy_9 : decode cX6_judgeCopy 9 = .ok (.getfield 75, 3) := by decide +kernel
theorem dX6_judgeCopy_12 : decode cX6_judgeCopy 12 = .ok (.isub, 1) := by decide +kernel
theorem dX6_judgeCopy_13 : decode cX6_judgeCopy 13 = .ok (.i2l, 1) := by decide +kernel
theorem dX6_judgeCopy_14 : decode cX6_judgeCopy 14 = .ok (.lcmp, 1) := by decide +kernel
theorem dX6_judgeCopy_15 : decode cX6_judgeCopy 15 = .ok (.ifCond .gt 12, 3) := by decide +kernel
theorem dX6_judgeCopy_18 : decode cX6_judgeCopy 18 = .ok (.lload_n 1, 1) := by decide +kernel
theorem dX6_judgeCopy_19 : decode cX6_judgeCopy 19 = .ok (.aload_n 0, 1) := by decide +kernel
theorem dX6_judgeCopy_20 : decode cX6_judgeCopy 20 = .ok (.getfield 82, 3) := by decide +kernel
theorem dX6_judgeCopy_23 : decode cX6_judgeCopy 23 = .ok (.lcmp, 1) := by decide +kernel
theorem dX6_judgeCopy_24 : decode cX6_judgeCopy 24 = .ok (.ifCond .le 11, 3) := by decide +kernel
theorem dX6_judgeCopy_27 : decode cX6_judgeCopy 27 = .ok (.aload_n 0, 1) := by decide +kernel
theorem dX6_judgeCopy_28 : decode cX6_judgeCopy 28 = .ok (.getfield 9, 3) := by decide +kernel
theorem dX6_judgeCopy_31 : decode cX6_judgeCopy 31 = .ok (.iconst 4, 1) := by decide +kernel
theorem dX6_judgeCopy_32 : decode cX6_judgeCopy 32 = .ok (.invokevirtual 85, 3) := by decide +kernel
theorem dX6_judgeCopy_35 : decode cX6_judgeCopy 35 = .ok (.iload 4, 2) := by decide +kernel
theorem dX6_judgeCopy_37 : decode cX6_judgeCopy 37 = .ok (.ifCond .lt 26, 3) := by decide +kernel
theorem dX6_judgeCopy_40 : decode cX6_judgeCopy 40 = .ok (.iload_n 3, 1) := by decide +kernel
theorem dX6_judgeCopy_41 : decode cX6_judgeCopy 41 = .ok (.iload 4, 2) := by decide +kernel
theorem dX6_judgeCopy_43 : decode cX6_judgeCopy 43 = .ok (.aload_n 0, 1) := by decide +kernel
theorem dX6_judgeCopy_44 : decode cX6_judgeCopy 44 = .ok (.getfield 15, 3) := by decide +kernel
theorem dX6_judgeCopy_47 : decode cX6_judgeCopy 47 = .ok (.getfield 53, 3) := by decide +kernel
theorem dX6_judgeCopy_50 : decode cX6_judgeCopy 50 = .ok (.isub, 1) := by decide +kernel
theorem dX6_judgeCopy_51 : decode cX6_judgeCopy 51 = .ok (.if_icmp .le 12, 3) := by decide +kernel
theorem dX6_judgeCopy_54 : decode cX6_judgeCopy 54 = .ok (.aload_n 0, 1) := by decide +kernel
theorem dX6_judgeCopy_55 : decode cX6_judgeCopy 55 = .ok (.getfield 9, 3) := by decide +kernel
theorem dX6_judgeCopy_58 : decode cX6_judgeCopy 58 = .ok (.bipush 6, 2) := by decide +kernel
theorem dX6_judgeCopy_60 : decode cX6_judgeCopy 60 = .ok (.invokevirtual 85, 3) := by decide +kernel
theorem dX6_judgeCopy_63 : decode cX6_judgeCopy 63 = .ok (.aload_n 0, 1) := by decide +kernel
theorem dX6_judgeCopy_64 : decode cX6_judgeCopy 64 = .ok (.getfield 15, 3) := by decide +kernel
theorem dX6_judgeCopy_67 : decode cX6_judgeCopy 67 = .ok (.getfield 53, 3) := by decide +kernel
theorem dX6_judgeCopy_70 : decode cX6_judgeCopy 70 = .ok (.iload_n 3, 1) := by decide +kernel
theorem dX6_judgeCopy_71 : decode cX6_judgeCopy 71 = .ok (.iadd, 1) := by decide +kernel
theorem dX6_judgeCopy_72 : decode cX6_judgeCopy 72 = .ok (.sipush 3000, 3) := by decide +kernel
theorem dX6_judgeCopy_75 : decode cX6_judgeCopy 75 = .ok (.if_icmp .le 12, 3) := by decide +kernel
theorem dX6_judgeCopy_78 : decode cX6_judgeCopy 78 = .ok (.aload_n 0, 1) := by decide +kernel
theorem dX6_judgeCopy_79 : decode cX6_judgeCopy 79 = .ok (.getfield 9, 3) := by decide +kernel
theorem dX6_judgeCopy_82 : decode cX6_judgeCopy 82 = .ok (.bipush 13, 2) := by decide +kernel
theorem dX6_judgeCopy_84 : decode cX6_judgeCopy 84 = .ok (.invokevirtual 85, 3) := by decide +kernel
theorem dX6_judgeCopy_87 : decode cX6_judgeCopy 87 = .ok (.return_, 1) := by decide +kernel
theorem dX6_takeMark_0 : decode cX6_takeMark 0 = .ok (.iload_n 1, 1) := by decide +kernel
theorem dX6_takeMark_1 : decode cX6_takeMark 1 = .ok (.ifCond .ne 12, 3) := by decide +kernel
theorem dX6_takeMark_4 : decode cX6_takeMark 4 = .ok (.aload_n 0, 1) := by decide +kernel
theorem dX6_takeMark_5 : decode cX6_takeMark 5 = .ok (.getfield 9, 3) := by decide +kernel
theorem dX6_takeMark_8 : decode cX6_takeMark 8 = .ok (.bipush 7, 2) := by decide +kernel
theorem dX6_takeMark_10 : decode cX6_takeMark 10 = .ok (.invokevirtual 85, 3) := by decide +kernel
theorem dX6_takeMark_13 : decode cX6_takeMark 13 = .ok (.aload_n 0, 1) := by decide +kernel
theorem dX6_takeMark_14 : decode cX6_takeMark 14 = .ok (.getfield 27, 3) := by decide +kernel
theorem dX6_takeMark_17 : decode cX6_takeMark 17 = .ok (.bipush 7, 2) := by decide +kernel
theorem dX6_takeMark_19 : decode cX6_takeMark 19 = .ok (.aload_n 0, 1) := by decide +kernel
theorem dX6_takeMark_20 : decode cX6_takeMark 20 = .ok (.getfield 15, 3) := by decide +kernel
theorem dX6_takeMark_23 : decode cX6_takeMark 23 = .ok (.getfield 53, 3) := by decide +kernel
theorem dX6_takeMark_26 : decode cX6_takeMark 26 = .ok (.iconst 0, 1) := by decide +kernel
theorem dX6_takeMark_27 : decode cX6_takeMark 27 = .ok (.iconst 0, 1) := by decide +kernel
theorem dX6_takeMark_28 : decode cX6_takeMark 28 = .ok (.invokevirtual 167, 3) := by decide +kernel
theorem dX6_takeMark_31 : decode cX6_takeMark 31 = .ok (.return_, 1) := by decide +kernel
theorem dX6_readLateMark_0 : decode cX6_readLateMark 0 = .ok (.aload_n 0, 1) := by decide +kernel
theorem dX6_readLateMark_1 : decode cX6_readLateMark 1 = .ok (.getfield 15, 3) := by decide +kernel
theorem dX6_readLateMark_4 : decode cX6_readLateMark 4 = .ok (.getfield 53, 3) := by decide +kernel
theorem dX6_readLateMark_7 : decode cX6_readLateMark 7 = .ok (.aload_n 0, 1) := by decide +kernel
theorem dX6_readLateMark_8 : decode cX6_readLateMark 8 = .ok (.getfield 75, 3) := by decide +kernel
theorem dX6_readLateMark_11 : decode cX6_readLateMark 11 = .ok (.isub, 1) := by decide +kernel
theorem dX6_readLateMark_12 : decode cX6_readLateMark 12 = .ok (.istore_n 1, 1) := by decide +kernel
theorem dX6_readLateMark_13 : decode cX6_readLateMark 13 = .ok (.aload_n 0, 1) := by decide +kernel
theorem dX6_readLateMark_14 : decode cX6_readLateMark 14 = .ok (.getfield 19, 3) := by decide +kernel
theorem dX6_readLateMark_17 : decode cX6_readLateMark 17 = .ok (.iload_n 1, 1) := by decide +kernel
theorem dX6_readLateMark_18 : decode cX6_readLateMark 18 = .ok (.invokevirtual 182, 3) := by decide +kernel
theorem dX6_readLateMark_21 : decode cX6_readLateMark 21 = .ok (.ifCond .ne 12, 3) := by decide +kernel
theorem dX6_readLateMark_24 : decode cX6_readLateMark 24 = .ok (.aload_n 0, 1) := by decide +kernel
theorem dX6_readLateMark_25 : decode cX6_readLateMark 25 = .ok (.getfield 9, 3) := by decide +kernel
theorem dX6_readLateMark_28 : decode cX6_readLateMark 28 = .ok (.bipush 7, 2) := by decide +kernel
theorem dX6_readLateMark_30 : decode cX6_readLateMark 30 = .ok (.invokevirtual 85, 3) := by decide +kernel
theorem dX6_readLateMark_33 : decode cX6_readLateMark 33 = .ok (.aload_n 0, 1) := by decide +kernel
theorem dX6_readLateMark_34 : decode cX6_readLateMark 34 = .ok (.getfield 19, 3) := by decide +kernel
theorem dX6_readLateMark_37 : decode cX6_readLateMark 37 = .ok (.sipush 1024, 3) := by decide +kernel
theorem dX6_readLateMark_40 : decode cX6_readLateMark 40 = .ok (.iconst 0, 1) := by decide +kernel
theorem dX6_readLateMark_41 : decode cX6_readLateMark 41 = .ok (.iload_n 1, 1) := by decide +kernel
theorem dX6_readLateMark_42 : decode cX6_readLateMark 42 = .ok (.invokevirtual 145, 3) := by decide +kernel
theorem dX6_readLateMark_45 : decode cX6_readLateMark 45 = .ok (.istore_n 2, 1) := by decide +kernel
theorem dX6_readLateMark_46 : decode cX6_readLateMark 46 = .ok (.aload_n 0, 1) := by decide +kernel
theorem dX6_readLateMark_47 : decode cX6_readLateMark 47 = .ok (.getfield 19, 3) := by decide +kernel
theorem dX6_readLateMark_50 : decode cX6_readLateMark 50 = .ok (.lconst 0, 1) := by decide +kernel
theorem dX6_readLateMark_51 : decode cX6_readLateMark 51 = .ok (.iload_n 2, 1) := by decide +kernel
theorem dX6_readLateMark_52 : decode cX6_readLateMark 52 = .ok (.invokevirtual 149, 3) := by decide +kernel
theorem dX6_readLateMark_55 : decode cX6_readLateMark 55 = .ok (.lstore_n 3, 1) := by decide +kernel
theorem dX6_readLateMark_56 : decode cX6_readLateMark 56 = .ok (.aload_n 0, 1) := by decide +kernel
theorem dX6_readLateMark_57 : decode cX6_readLateMark 57 = .ok (.getfield 19, 3) := by decide +kernel
theorem dX6_readLateMark_60 : decode cX6_readLateMark 60 = .ok (.iconst 1, 1) := by decide +kernel
theorem dX6_readLateMark_61 : decode cX6_readLateMark 61 = .ok (.lload_n 3, 1) := by decide +kernel
theorem dX6_readLateMark_62 : decode cX6_readLateMark 62 = .ok (.invokevirtual 153, 3) := by decide +kernel
theorem dX6_readLateMark_65 : decode cX6_readLateMark 65 = .ok (.aload_n 0, 1) := by decide +kernel
theorem dX6_readLateMark_66 : decode cX6_readLateMark 66 = .ok (.lload_n 3, 1) := by decide +kernel
theorem dX6_readLateMark_67 : decode cX6_readLateMark 67 = .ok (.ldc2_w 157, 3) := by decide +kernel
theorem dX6_readLateMark_70 : decode cX6_readLateMark 70 = .ok (.lcmp, 1) := by decide +kernel
theorem dX6_readLateMark_71 : decode cX6_readLateMark 71 = .ok (.ifCond .ne 7, 3) := by decide +kernel
theorem dX6_readLateMark_74 : decode cX6_readLateMark 74 = .ok (.iconst 1, 1) := by decide +kernel
theorem dX6_readLateMark_75 : decode cX6_readLateMark 75 = .ok (.goto 4, 3) := by decide +kernel
theorem dX6_readLateMark_78 : decode cX6_readLateMark 78 = .ok (.iconst 0, 1) := by decide +kernel
theorem dX6_readLateMark_79 : decode cX6_readLateMark 79 = .ok (.invokevirtual 159, 3) := by decide +kernel
theorem dX6_readLateMark_82 : decode cX6_readLateMark 82 = .ok (.return_, 1) := by decide +kernel
theorem dX6_readChunks_0 : decode cX6_readChunks 0 = .ok (.aload_n 0, 1) := by decide +kernel
theorem dX6_readChunks_1 : decode cX6_readChunks 1 = .ok (.aload_n 0, 1) := by decide +kernel
theorem dX6_readChunks_2 : decode cX6_readChunks 2 = .ok (.getfield 15, 3) := by decide +kernel
theorem dX6_readChunks_5 : decode cX6_readChunks 5 = .ok (.getfield 53, 3) := by decide +kernel
theorem dX6_readChunks_8 : decode cX6_readChunks 8 = .ok (.putfield 185, 3) := by decide +kernel
theorem dX6_readChunks_11 : decode cX6_readChunks 11 = .ok (.aload_n 0, 1) := by decide +kernel
theorem dX6_readChunks_12 : decode cX6_readChunks 12 = .ok (.aload_n 0, 1) := by decide +kernel
theorem dX6_readChunks_13 : decode cX6_readChunks 13 = .ok (.getfield 15, 3) := by decide +kernel
theorem dX6_readChunks_16 : decode cX6_readChunks 16 = .ok (.getfield 53, 3) := by decide +kernel
theorem dX6_readChunks_19 : decode cX6_readChunks 19 = .ok (.putfield 75, 3) := by decide +kernel
theorem dX6_readChunks_22 : decode cX6_readChunks 22 = .ok (.aload_n 0, 1) := by decide +kernel
theorem dX6_readChunks_23 : decode cX6_readChunks 23 = .ok (.aload_n 0, 1) := by decide +kernel
theorem dX6_readChunks_24 : decode cX6_readChunks 24 = .ok (.getfield 9, 3) := by decide +kernel
theorem dX6_readChunks_27 : decode cX6_readChunks 27 = .ok (.getfield 88, 3) := by decide +kernel
theorem dX6_readChunks_30 : decode cX6_readChunks 30 = .ok (.putfield 188, 3) := by decide +kernel
theorem dX6_readChunks_33 : decode cX6_readChunks 33 = .ok (.aload_n 0, 1) := by decide +kernel
theorem dX6_readChunks_34 : decode cX6_readChunks 34 = .ok (.iconst 0, 1) := by decide +kernel
theorem dX6_readChunks_35 : decode cX6_readChunks 35 = .ok (.putfield 191, 3) := by decide +kernel
theorem dX6_readChunks_38 : decode cX6_readChunks 38 = .ok (.aload_n 0, 1) := by decide +kernel
theorem dX6_readChunks_39 : decode cX6_readChunks 39 = .ok (.getfield 19, 3) := by decide +kernel
theorem dX6_readChunks_42 : decode cX6_readChunks 42 = .ok (.invokevirtual 68, 3) := by decide +kernel
theorem dX6_readChunks_45 : decode cX6_readChunks 45 = .ok (.iconst 3, 1) := by decide +kernel
theorem dX6_readChunks_46 : decode cX6_readChunks 46 = .ok (.istore_n 1, 1) := by decide +kernel
theorem dX6_readChunks_47 : decode cX6_readChunks 47 = .ok (.aload_n 0, 1) := by decide +kernel
theorem dX6_readChunks_48 : decode cX6_readChunks 48 = .ok (.getfield 9, 3) := by decide +kernel
theorem dX6_readChunks_51 : decode cX6_readChunks 51 = .ok (.invokevirtual 124, 3) := by decide +kernel
theorem dX6_readChunks_54 : decode cX6_readChunks 54 = .ok (.istore_n 2, 1) := by decide +kernel
theorem dX6_readChunks_55 : decode cX6_readChunks 55 = .ok (.iconst 0, 1) := by decide +kernel
theorem dX6_readChunks_56 : decode cX6_readChunks 56 = .ok (.istore_n 3, 1) := by decide +kernel
theorem dX6_readChunks_57 : decode cX6_readChunks 57 = .ok (.iload_n 3, 1) := by decide +kernel
theorem dX6_readChunks_58 : decode cX6_readChunks 58 = .ok (.sipush 1500, 3) := by decide +kernel
theorem dX6_readChunks_61 : decode cX6_readChunks 61 = .ok (.if_icmp .ge 90, 3) := by decide +kernel
theorem dX6_readChunks_64 : decode cX6_readChunks 64 = .ok (.iload_n 2, 1) := by decide +kernel
theorem dX6_readChunks_65 : decode cX6_readChunks 65 = .ok (.ifCond .eq 86, 3) := by decide +kernel
theorem dX6_readChunks_68 : decode cX6_readChunks 68 = .ok (.aload_n 0, 1) := by decide +kernel
theorem dX6_readChunks_69 : decode cX6_readChunks 69 = .ok (.iload_n 2, 1) := by decide +kernel
theorem dX6_readChunks_70 : decode cX6_readChunks 70 = .ok (.iload_n 1, 1) := by decide +kernel
theorem dX6_readChunks_71 : decode cX6_readChunks 71 = .ok (.invokevirtual 194, 3) := by decide +kernel
theorem dX6_readChunks_74 : decode cX6_readChunks 74 = .ok (.iload_n 2, 1) := by decide +kernel
theorem dX6_readChunks_75 : decode cX6_readChunks 75 = .ok (.sipush 128, 3) := by decide +kernel
theorem dX6_readChunks_78 : decode cX6_readChunks 78 = .ok (.if_icmp .ge 26, 3) := by decide +kernel
theorem dX6_readChunks_81 : decode cX6_readChunks 81 = .ok (.aload_n 0, 1) := by decide +kernel
theorem dX6_readChunks_82 : decode cX6_readChunks 82 = .ok (.iload_n 2, 1) := by decide +kernel
theorem dX6_readChunks_83 : decode cX6_readChunks 83 = .ok (.invokevirtual 198, 3) := by decide +kernel
theorem dX6_readChunks_86 : decode cX6_readChunks 86 = .ok (.iload_n 2, 1) := by decide +kernel
theorem dX6_readChunks_87 : decode cX6_readChunks 87 = .ok (.iconst 1, 1) := by decide +kernel
theorem dX6_readChunks_88 : decode cX6_readChunks 88 = .ok (.if_icmp .ne 7, 3) := by decide +kernel
theorem dX6_readChunks_91 : decode cX6_readChunks 91 = .ok (.iconst 2, 1) := by decide +kernel
theorem dX6_readChunks_92 : decode cX6_readChunks 92 = .ok (.goto 8, 3) := by decide +kernel
theorem dX6_readChunks_95 : decode cX6_readChunks 95 = .ok (.iload_n 1, 1) := by decide +kernel
theorem dX6_readChunks_96 : decode cX6_readChunks 96 = .ok (.iconst 1, 1) := by decide +kernel
theorem dX6_readChunks_97 : decode cX6_readChunks 97 = .ok (.invokestatic 201, 3) := by decide +kernel
theorem dX6_readChunks_100 : decode cX6_readChunks 100 = .ok (.istore_n 1, 1) := by decide +kernel
theorem dX6_readChunks_101 : decode cX6_readChunks 101 = .ok (.goto 26, 3) := by decide +kernel
theorem dX6_readChunks_104 : decode cX6_readChunks 104 = .ok (.aload_n 0, 1) := by decide +kernel
theorem dX6_readChunks_105 : decode cX6_readChunks 105 = .ok (.aload_n 0, 1) := by decide +kernel
theorem dX6_readChunks_106 : decode cX6_readChunks 106 = .ok (.getfield 15, 3) := by decide +kernel
theorem dX6_readChunks_109 : decode cX6_readChunks 109 = .ok (.getfield 53, 3) := by decide +kernel
theorem dX6_readChunks_112 : decode cX6_readChunks 112 = .ok (.aload_n 0, 1) := by decide +kernel
theorem dX6_readChunks_113 : decode cX6_readChunks 113 = .ok (.iload_n 2, 1) := by decide +kernel
theorem dX6_readChunks_114 : decode cX6_readChunks 114 = .ok (.invokevirtual 206, 3) := by decide +kernel
theorem dX6_readChunks_117 : decode cX6_readChunks 117 = .ok (.iadd, 1) := by decide +kernel
theorem dX6_readChunks_118 : decode cX6_readChunks 118 = .ok (.invokevirtual 109, 3) := by decide +kernel
theorem dX6_readChunks_121 : decode cX6_readChunks 121 = .ok (.aload_n 0, 1) := by decide +kernel
theorem dX6_readChunks_122 : decode cX6_readChunks 122 = .ok (.invokevirtual 209, 3) := by decide +kernel
theorem dX6_readChunks_125 : decode cX6_readChunks 125 = .ok (.iconst 0, 1) := by decide +kernel
theorem dX6_readChunks_126 : decode cX6_readChunks 126 = .ok (.istore_n 1, 1) := by decide +kernel
theorem dX6_readChunks_127 : decode cX6_readChunks 127 = .ok (.aload_n 0, 1) := by decide +kernel
theorem dX6_readChunks_128 : decode cX6_readChunks 128 = .ok (.dup, 1) := by decide +kernel
theorem dX6_readChunks_129 : decode cX6_readChunks 129 = .ok (.getfield 191, 3) := by decide +kernel
theorem dX6_readChunks_132 : decode cX6_readChunks 132 = .ok (.iconst 1, 1) := by decide +kernel
theorem dX6_readChunks_133 : decode cX6_readChunks 133 = .ok (.iadd, 1) := by decide +kernel
theorem dX6_readChunks_134 : decode cX6_readChunks 134 = .ok (.putfield 191, 3) := by decide +kernel
theorem dX6_readChunks_137 : decode cX6_readChunks 137 = .ok (.aload_n 0, 1) := by decide +kernel
theorem dX6_readChunks_138 : decode cX6_readChunks 138 = .ok (.getfield 9, 3) := by decide +kernel
theorem dX6_readChunks_141 : decode cX6_readChunks 141 = .ok (.invokevirtual 124, 3) := by decide +kernel
theorem dX6_readChunks_144 : decode cX6_readChunks 144 = .ok (.istore_n 2, 1) := by decide +kernel
theorem dX6_readChunks_145 : decode cX6_readChunks 145 = .ok (.iinc 3 1, 3) := by decide +kernel
theorem dX6_readChunks_148 : decode cX6_readChunks 148 = .ok (.goto (-91), 3) := by decide +kernel
theorem dX6_readChunks_151 : decode cX6_readChunks 151 = .ok (.aload_n 0, 1) := by decide +kernel
theorem dX6_readChunks_152 : decode cX6_readChunks 152 = .ok (.aload_n 0, 1) := by decide +kernel
theorem dX6_readChunks_153 : decode cX6_readChunks 153 = .ok (.getfield 9, 3) := by decide +kernel
theorem dX6_readChunks_156 : decode cX6_readChunks 156 = .ok (.getfield 88, 3) := by decide +kernel
theorem dX6_readChunks_159 : decode cX6_readChunks 159 = .ok (.aload_n 0, 1) := by decide +kernel
theorem dX6_readChunks_160 : decode cX6_readChunks 160 = .ok (.getfield 188, 3) := by decide +kernel
theorem dX6_readChunks_163 : decode cX6_readChunks 163 = .ok (.isub, 1) := by decide +kernel
theorem dX6_readChunks_164 : decode cX6_readChunks 164 = .ok (.putfield 212, 3) := by decide +kernel
theorem dX6_readChunks_167 : decode cX6_readChunks 167 = .ok (.return_, 1) := by decide +kernel
theorem dX6_judgeControl_0 : decode cX6_judgeControl 0 = .ok (.iload_n 2, 1) := by decide +kernel
theorem dX6_judgeControl_1 : decode cX6_judgeControl 1 = .ok (.iconst 3, 1) := by decide +kernel
theorem dX6_judgeControl_2 : decode cX6_judgeControl 2 = .ok (.if_icmp .ne 7, 3) := by decide +kernel
theorem dX6_judgeControl_5 : decode cX6_judgeControl 5 = .ok (.iconst 1, 1) := by decide +kernel
theorem dX6_judgeControl_6 : decode cX6_judgeControl 6 = .ok (.goto 4, 3) := by decide +kernel
theorem dX6_judgeControl_9 : decode cX6_judgeControl 9 = .ok (.iconst 0, 1) := by decide +kernel
theorem dX6_judgeControl_10 : decode cX6_judgeControl 10 = .ok (.istore_n 3, 1) := by decide +kernel
theorem dX6_judgeControl_11 : decode cX6_judgeControl 11 = .ok (.iload_n 1, 1) := by decide +kernel
theorem dX6_judgeControl_12 : decode cX6_judgeControl 12 = .ok (.sipush 128, 3) := by decide +kernel
theorem dX6_judgeControl_15 : decode cX6_judgeControl 15 = .ok (.if_icmp .ge 24, 3) := by decide +kernel
theorem dX6_judgeControl_18 : decode cX6_judgeControl 18 = .ok (.iload_n 1, 1) := by decide +kernel
theorem dX6_judgeControl_19 : decode cX6_judgeControl 19 = .ok (.iload_n 3, 1) := by decide +kernel
theorem dX6_judgeControl_20 : decode cX6_judgeControl 20 = .ok (.ifCond .eq 7, 3) := by decide +kernel
theorem dX6_judgeControl_23 : decode cX6_judgeControl 23 = .ok (.iconst 1, 1) := by decide +kernel
theorem dX6_judgeControl_24 : decode cX6_judgeControl 24 = .ok (.goto 4, 3) := by decide +kernel
theorem dX6_judgeControl_27 : decode cX6_judgeControl 27 = .ok (.iconst 2, 1) := by decide +kernel
theorem dX6_judgeControl_28 : decode cX6_judgeControl 28 = .ok (.if_icmp .le 7, 3) := by decide +kernel
theorem dX6_judgeControl_31 : decode cX6_judgeControl 31 = .ok (.iconst 1, 1) := by decide +kernel
theorem dX6_judgeControl_32 : decode cX6_judgeControl 32 = .ok (.goto 21, 3) := by decide +kernel
theorem dX6_judgeControl_35 : decode cX6_judgeControl 35 = .ok (.iconst 0, 1) := by decide +kernel
theorem dX6_judgeControl_36 : decode cX6_judgeControl 36 = .ok (.goto 17, 3) := by decide +kernel
theorem dX6_judgeControl_39 : decode cX6_judgeControl 39 = .ok (.iload_n 1, 1) := by decide +kernel
theorem dX6_judgeControl_40 : decode cX6_judgeControl 40 = .ok (.iconst 5, 1) := by decide +kernel
theorem dX6_judgeControl_41 : decode cX6_judgeControl 41 = .ok (.ishr, 1) := by decide +kernel
theorem dX6_judgeControl_42 : decode cX6_judgeControl 42 = .ok (.iconst 3, 1) := by decide +kernel
theorem dX6_judgeControl_43 : decode cX6_judgeControl 43 = .ok (.iand, 1) := by decide +kernel
theorem dX6_judgeControl_44 : decode cX6_judgeControl 44 = .ok (.iload_n 2, 1) := by decide +kernel
theorem dX6_judgeControl_45 : decode cX6_judgeControl 45 = .ok (.if_icmp .ge 7, 3) := by decide +kernel
theorem dX6_judgeControl_48 : decode cX6_judgeControl 48 = .ok (.iconst 1, 1) := by decide +kernel
theorem dX6_judgeControl_49 : decode cX6_judgeControl 49 = .ok (.goto 4, 3) := by decide +kernel
theorem dX6_judgeControl_52 : decode cX6_judgeControl 52 = .ok (.iconst 0, 1) := by decide +kernel
theorem dX6_judgeControl_53 : decode cX6_judgeControl 53 = .ok (.istore 4, 2) := by decide +kernel
theorem dX6_judgeControl_55 : decode cX6_judgeControl 55 = .ok (.iload 4, 2) := by decide +kernel
theorem dX6_judgeControl_57 : decode cX6_judgeControl 57 = .ok (.ifCond .eq 11, 3) := by decide +kernel
theorem dX6_judgeControl_60 : decode cX6_judgeControl 60 = .ok (.aload_n 0, 1) := by decide +kernel
theorem dX6_judgeControl_61 : decode cX6_judgeControl 61 = .ok (.getfield 9, 3) := by decide +kernel
theorem dX6_judgeControl_64 : decode cX6_judgeControl 64 = .ok (.iconst 5, 1) := by decide +kernel
theorem dX6_judgeControl_65 : decode cX6_judgeControl 65 = .ok (.invokevirtual 85, 3) := by decide +kernel
theorem dX6_judgeControl_68 : decode cX6_judgeControl 68 = .ok (.return_, 1) := by decide +kernel
theorem dX6_readPlain_0 : decode cX6_readPlain 0 = .ok (.aload_n 0, 1) := by decide +kernel
theorem dX6_readPlain_1 : decode cX6_readPlain 1 = .ok (.getfield 9, 3) := by decide +kernel
theorem dX6_readPlain_4 : decode cX6_readPlain 4 = .ok (.iconst 2, 1) := by decide +kernel
theorem dX6_readPlain_5 : decode cX6_readPlain 5 = .ok (.invokevirtual 215, 3) := by decide +kernel
theorem dX6_readPlain_8 : decode cX6_readPlain 8 = .ok (.iconst 1, 1) := by decide +kernel
theorem dX6_readPlain_9 : decode cX6_readPlain 9 = .ok (.iadd, 1) := by decide +kernel
theorem dX6_readPlain_10 : decode cX6_readPlain 10 = .ok (.istore_n 2, 1) := by decide +kernel
theorem dX6_readPlain_11 : decode cX6_readPlain 11 = .ok (.iload_n 1, 1) := by decide +kernel
theorem dX6_readPlain_12 : decode cX6_readPlain 12 = .ok (.iconst 1, 1) := by decide +kernel
theorem dX6_readPlain_13 : decode cX6_readPlain 13 = .ok (.if_icmp .ne 14, 3) := by decide +kernel
theorem dX6_readPlain_16 : decode cX6_readPlain 16 = .ok (.aload_n 0, 1) := by decide +kernel
theorem dX6_readPlain_17 : decode cX6_readPlain 17 = .ok (.aload_n 0, 1) := by decide +kernel
theorem dX6_readPlain_18 : decode cX6_readPlain 18 = .ok (.getfield 15, 3) := by decide +kernel
theorem dX6_readPlain_21 : decode cX6_readPlain 21 = .ok (.getfield 53, 3) := by decide +kernel
theorem dX6_readPlain_24 : decode cX6_readPlain 24 = .ok (.putfield 75, 3) := by decide +kernel
theorem dX6_readPlain_27 : decode cX6_readPlain 27 = .ok (.iconst 0, 1) := by decide +kernel
theorem dX6_readPlain_28 : decode cX6_readPlain 28 = .ok (.istore_n 3, 1) := by decide +kernel
theorem dX6_readPlain_29 : decode cX6_readPlain 29 = .ok (.iload_n 3, 1) := by decide +kernel
theorem dX6_readPlain_30 : decode cX6_readPlain 30 = .ok (.iload_n 2, 1) := by decide +kernel
theorem dX6_readPlain_31 : decode cX6_readPlain 31 = .ok (.if_icmp .ge 49, 3) := by decide +kernel
theorem dX6_readPlain_34 : decode cX6_readPlain 34 = .ok (.aload_n 0, 1) := by decide +kernel
theorem dX6_readPlain_35 : decode cX6_readPlain 35 = .ok (.getfield 9, 3) := by decide +kernel
theorem dX6_readPlain_38 : decode cX6_readPlain 38 = .ok (.invokevirtual 124, 3) := by decide +kernel
theorem dX6_readPlain_41 : decode cX6_readPlain 41 = .ok (.istore 4, 2) := by decide +kernel
theorem dX6_readPlain_43 : decode cX6_readPlain 43 = .ok (.aload_n 0, 1) := by decide +kernel
theorem dX6_readPlain_44 : decode cX6_readPlain 44 = .ok (.getfield 15, 3) := by decide +kernel
theorem dX6_readPlain_47 : decode cX6_readPlain 47 = .ok (.getfield 53, 3) := by decide +kernel
theorem dX6_readPlain_50 : decode cX6_readPlain 50 = .ok (.sipush 3000, 3) := by decide +kernel
theorem dX6_readPlain_53 : decode cX6_readPlain 53 = .ok (.if_icmp .lt 12, 3) := by decide +kernel
theorem dX6_readPlain_56 : decode cX6_readPlain 56 = .ok (.aload_n 0, 1) := by decide +kernel
theorem dX6_readPlain_57 : decode cX6_readPlain 57 = .ok (.getfield 9, 3) := by decide +kernel
theorem dX6_readPlain_60 : decode cX6_readPlain 60 = .ok (.bipush 13, 2) := by decide +kernel
theorem dX6_readPlain_62 : decode cX6_readPlain 62 = .ok (.invokevirtual 85, 3) := by decide +kernel
theorem dX6_readPlain_65 : decode cX6_readPlain 65 = .ok (.aload_n 0, 1) := by decide +kernel
theorem dX6_readPlain_66 : decode cX6_readPlain 66 = .ok (.getfield 15, 3) := by decide +kernel
theorem dX6_readPlain_69 : decode cX6_readPlain 69 = .ok (.iload 4, 2) := by decide +kernel
theorem dX6_readPlain_71 : decode cX6_readPlain 71 = .ok (.invokevirtual 175, 3) := by decide +kernel
theorem dX6_readPlain_74 : decode cX6_readPlain 74 = .ok (.iinc 3 1, 3) := by decide +kernel
theorem dX6_readPlain_77 : decode cX6_readPlain 77 = .ok (.goto (-48), 3) := by decide +kernel
theorem dX6_readPlain_80 : decode cX6_readPlain 80 = .ok (.return_, 1) := by decide +kernel
theorem dX6_readChunkHead_0 : decode cX6_readChunkHead 0 = .ok (.iload_n 1, 1) := by decide +kernel
theorem dX6_readChunkHead_1 : decode cX6_readChunkHead 1 = .ok (.iconst 5, 1) := by decide +kernel
theorem dX6_readChunkHead_2 : decode cX6_readChunkHead 2 = .ok (.ishr, 1) := by decide +kernel
theorem dX6_readChunkHead_3 : decode cX6_readChunkHead 3 = .ok (.iconst 3, 1) := by decide +kernel
theorem dX6_readChunkHead_4 : decode cX6_readChunkHead 4 = .ok (.iand, 1) := by decide +kernel
theorem dX6_readChunkHead_5 : decode cX6_readChunkHead 5 = .ok (.istore_n 2, 1) := by decide +kernel
theorem dX6_readChunkHead_6 : decode cX6_readChunkHead 6 = .ok (.iload_n 1, 1) := by decide +kernel
theorem dX6_readChunkHead_7 : decode cX6_readChunkHead 7 = .ok (.bipush 31, 2) := by decide +kernel
theorem dX6_readChunkHead_9 : decode cX6_readChunkHead 9 = .ok (.iand, 1) := by decide +kernel
theorem dX6_readChunkHead_10 : decode cX6_readChunkHead 10 = .ok (.bipush 16, 2) := by decide +kernel
theorem dX6_readChunkHead_12 : decode cX6_readChunkHead 12 = .ok (.ishl, 1) := by decide +kernel
theorem dX6_readChunkHead_13 : decode cX6_readChunkHead 13 = .ok (.aload_n 0, 1) := by decide +kernel
theorem dX6_readChunkHead_14 : decode cX6_readChunkHead 14 = .ok (.getfield 9, 3) := by decide +kernel
theorem dX6_readChunkHead_17 : decode cX6_readChunkHead 17 = .ok (.iconst 2, 1) := by decide +kernel
theorem dX6_readChunkHead_18 : decode cX6_readChunkHead 18 = .ok (.invokevirtual 215, 3) := by decide +kernel
theorem dX6_readChunkHead_21 : decode cX6_readChunkHead 21 = .ok (.ior, 1) := by decide +kernel
theorem dX6_readChunkHead_22 : decode cX6_readChunkHead 22 = .ok (.iconst 1, 1) := by decide +kernel
theorem dX6_readChunkHead_23 : decode cX6_readChunkHead 23 = .ok (.iadd, 1) := by decide +kernel
theorem dX6_readChunkHead_24 : decode cX6_readChunkHead 24 = .ok (.istore_n 3, 1) := by decide +kernel
theorem dX6_readChunkHead_25 : decode cX6_readChunkHead 25 = .ok (.aload_n 0, 1) := by decide +kernel
theorem dX6_readChunkHead_26 : decode cX6_readChunkHead 26 = .ok (.getfield 9, 3) := by decide +kernel
theorem dX6_readChunkHead_29 : decode cX6_readChunkHead 29 = .ok (.iconst 2, 1) := by decide +kernel
theorem dX6_readChunkHead_30 : decode cX6_readChunkHead 30 = .ok (.invokevirtual 215, 3) := by decide +kernel
theorem dX6_readChunkHead_33 : decode cX6_readChunkHead 33 = .ok (.iconst 1, 1) := by decide +kernel
theorem dX6_readChunkHead_34 : decode cX6_readChunkHead 34 = .ok (.iadd, 1) := by decide +kernel
theorem dX6_readChunkHead_35 : decode cX6_readChunkHead 35 = .ok (.istore 4, 2) := by decide +kernel
theorem dX6_readChunkHead_37 : decode cX6_readChunkHead 37 = .ok (.iload_n 2, 1) := by decide +kernel
theorem dX6_readChunkHead_38 : decode cX6_readChunkHead 38 = .ok (.iconst 1, 1) := by decide +kernel
theorem dX6_readChunkHead_39 : decode cX6_readChunkHead 39 = .ok (.if_icmp .le 7, 3) := by decide +kernel
theorem dX6_readChunkHead_42 : decode cX6_readChunkHead 42 = .ok (.aload_n 0, 1) := by decide +kernel
theorem dX6_readChunkHead_43 : decode cX6_readChunkHead 43 = .ok (.invokevirtual 94, 3) := by decide +kernel
theorem dX6_readChunkHead_46 : decode cX6_readChunkHead 46 = .ok (.iload_n 2, 1) := by decide +kernel
theorem dX6_readChunkHead_47 : decode cX6_readChunkHead 47 = .ok (.ifCond .le 10, 3) := by decide +kernel
theorem dX6_readChunkHead_50 : decode cX6_readChunkHead 50 = .ok (.aload_n 0, 1) := by decide +kernel
theorem dX6_readChunkHead_51 : decode cX6_readChunkHead 51 = .ok (.getfield 19, 3) := by decide +kernel
theorem dX6_readChunkHead_54 : decode cX6_readChunkHead 54 = .ok (.invokevirtual 68, 3) := by decide +kernel
theorem dX6_readChunkHead_57 : decode cX6_readChunkHead 57 = .ok (.iload_n 2, 1) := by decide +kernel
theorem dX6_readChunkHead_58 : decode cX6_readChunkHead 58 = .ok (.iconst 3, 1) := by decide +kernel
theorem dX6_readChunkHead_59 : decode cX6_readChunkHead 59 = .ok (.if_icmp .ne 14, 3) := by decide +kernel
theorem dX6_readChunkHead_62 : decode cX6_readChunkHead 62 = .ok (.aload_n 0, 1) := by decide +kernel
theorem dX6_readChunkHead_63 : decode cX6_readChunkHead 63 = .ok (.aload_n 0, 1) := by decide +kernel
theorem dX6_readChunkHead_64 : decode cX6_readChunkHead 64 = .ok (.getfield 15, 3) := by decide +kernel
theorem dX6_readChunkHead_67 : decode cX6_readChunkHead 67 = .ok (.getfield 53, 3) := by decide +kernel
theorem dX6_readChunkHead_70 : decode cX6_readChunkHead 70 = .ok (.putfield 75, 3) := by decide +kernel
theorem dX6_readChunkHead_73 : decode cX6_readChunkHead 73 = .ok (.aload_n 0, 1) := by decide +kernel
theorem dX6_readChunkHead_74 : decode cX6_readChunkHead 74 = .ok (.aload_n 0, 1) := by decide +kernel
theorem dX6_readChunkHead_75 : decode cX6_readChunkHead 75 = .ok (.getfield 9, 3) := by decide +kernel
theorem dX6_readChunkHead_78 : decode cX6_readChunkHead 78 = .ok (.getfield 88, 3) := by decide +kernel
theorem dX6_readChunkHead_81 : decode cX6_readChunkHead 81 = .ok (.iload 4, 2) := by decide +kernel
theorem dX6_readChunkHead_83 : decode cX6_readChunkHead 83 = .ok (.iadd, 1) := by decide +kernel
theorem dX6_readChunkHead_84 : decode cX6_readChunkHead 84 = .ok (.putfield 218, 3) := by decide +kernel
theorem dX6_readChunkHead_87 : decode cX6_readChunkHead 87 = .ok (.aload_n 0, 1) := by decide +kernel
theorem dX6_readChunkHead_88 : decode cX6_readChunkHead 88 = .ok (.getfield 9, 3) := by decide +kernel
theorem dX6_readChunkHead_91 : decode cX6_readChunkHead 91 = .ok (.aload_n 0, 1) := by decide +kernel
theorem dX6_readChunkHead_92 : decode cX6_readChunkHead 92 = .ok (.getfield 218, 3) := by decide +kernel
theorem dX6_readChunkHead_95 : decode cX6_readChunkHead 95 = .ok (.aload_n 0, 1) := by decide +kernel
theorem dX6_readChunkHead_96 : decode cX6_readChunkHead 96 = .ok (.getfield 9, 3) := by decide +kernel
theorem dX6_readChunkHead_99 : decode cX6_readChunkHead 99 = .ok (.getfield 91, 3) := by decide +kernel
theorem dX6_readChunkHead_102 : decode cX6_readChunkHead 102 = .ok (.getfield 53, 3) := by decide +kernel
theorem dX6_readChunkHead_105 : decode cX6_readChunkHead 105 = .ok (.invokestatic 221, 3) := by decide +kernel
theorem dX6_readChunkHead_108 : decode cX6_readChunkHead 108 = .ok (.putfield 224, 3) := by decide +kernel
theorem dX6_readChunkHead_111 : decode cX6_readChunkHead 111 = .ok (.iload_n 3, 1) := by decide +kernel
theorem dX6_readChunkHead_112 : decode cX6_readChunkHead 112 = .ok (.ireturn, 1) := by decide +kernel
theorem dX6_endChunk_0 : decode cX6_endChunk 0 = .ok (.aload_n 0, 1) := by decide +kernel
theorem dX6_endChunk_1 : decode cX6_endChunk 1 = .ok (.getfield 19, 3) := by decide +kernel
theorem dX6_endChunk_4 : decode cX6_endChunk 4 = .ok (.getfield 112, 3) := by decide +kernel
theorem dX6_endChunk_7 : decode cX6_endChunk 7 = .ok (.getfield 116, 3) := by decide +kernel
theorem dX6_endChunk_10 : decode cX6_endChunk 10 = .ok (.lconst 0, 1) := by decide +kernel
theorem dX6_endChunk_11 : decode cX6_endChunk 11 = .ok (.lcmp, 1) := by decide +kernel
theorem dX6_endChunk_12 : decode cX6_endChunk 12 = .ok (.ifCond .eq 12, 3) := by decide +kernel
theorem dX6_endChunk_15 : decode cX6_endChunk 15 = .ok (.aload_n 0, 1) := by decide +kernel
theorem dX6_endChunk_16 : decode cX6_endChunk 16 = .ok (.getfield 9, 3) := by decide +kernel
theorem dX6_endChunk_19 : decode cX6_endChunk 19 = .ok (.bipush 7, 2) := by decide +kernel
theorem dX6_endChunk_21 : decode cX6_endChunk 21 = .ok (.invokevirtual 85, 3) := by decide +kernel
theorem dX6_endChunk_24 : decode cX6_endChunk 24 = .ok (.aload_n 0, 1) := by decide +kernel
theorem dX6_endChunk_25 : decode cX6_endChunk 25 = .ok (.getfield 9, 3) := by decide +kernel
theorem dX6_endChunk_28 : decode cX6_endChunk 28 = .ok (.getfield 88, 3) := by decide +kernel
theorem dX6_endChunk_31 : decode cX6_endChunk 31 = .ok (.aload_n 0, 1) := by decide +kernel
theorem dX6_endChunk_32 : decode cX6_endChunk 32 = .ok (.getfield 218, 3) := by decide +kernel
theorem dX6_endChunk_35 : decode cX6_endChunk 35 = .ok (.if_icmp .eq 11, 3) := by decide +kernel
theorem dX6_endChunk_38 : decode cX6_endChunk 38 = .ok (.aload_n 0, 1) := by decide +kernel
theorem dX6_endChunk_39 : decode cX6_endChunk 39 = .ok (.getfield 9, 3) := by decide +kernel
theorem dX6_endChunk_42 : decode cX6_endChunk 42 = .ok (.iconst 5, 1) := by decide +kernel
theorem dX6_endChunk_43 : decode cX6_endChunk 43 = .ok (.invokevirtual 85, 3) := by decide +kernel
theorem dX6_endChunk_46 : decode cX6_endChunk 46 = .ok (.aload_n 0, 1) := by decide +kernel
theorem dX6_endChunk_47 : decode cX6_endChunk 47 = .ok (.getfield 9, 3) := by decide +kernel
theorem dX6_endChunk_50 : decode cX6_endChunk 50 = .ok (.aload_n 0, 1) := by decide +kernel
theorem dX6_endChunk_51 : decode cX6_endChunk 51 = .ok (.getfield 9, 3) := by decide +kernel
theorem dX6_endChunk_54 : decode cX6_endChunk 54 = .ok (.getfield 91, 3) := by decide +kernel
theorem dX6_endChunk_57 : decode cX6_endChunk 57 = .ok (.getfield 53, 3) := by decide +kernel
theorem dX6_endChunk_60 : decode cX6_endChunk 60 = .ok (.putfield 224, 3) := by decide +kernel
theorem dX6_endChunk_63 : decode cX6_endChunk 63 = .ok (.return_, 1) := by decide +kernel
theorem dX6_noteBlock_0 : decode cX6_noteBlock 0 = .ok (.aload_n 0, 1) := by decide +kernel
theorem dX6_noteBlock_1 : decode cX6_noteBlock 1 = .ok (.getfield 27, 3) := by decide +kernel
theorem dX6_noteBlock_4 : decode cX6_noteBlock 4 = .ok (.aload_n 0, 1) := by decide +kernel
theorem dX6_noteBlock_5 : decode cX6_noteBlock 5 = .ok (.getfield 36, 3) := by decide +kernel
theorem dX6_noteBlock_8 : decode cX6_noteBlock 8 = .ok (.getfield 78, 3) := by decide +kernel
theorem dX6_noteBlock_11 : decode cX6_noteBlock 11 = .ok (.aload_n 0, 1) := by decide +kernel
theorem dX6_noteBlock_12 : decode cX6_noteBlock 12 = .ok (.getfield 36, 3) := by decide +kernel
theorem dX6_noteBlock_15 : decode cX6_noteBlock 15 = .ok (.getfield 81, 3) := by decide +kernel
theorem dX6_noteBlock_18 : decode cX6_noteBlock 18 = .ok (.aload_n 0, 1) := by decide +kernel
theorem dX6_noteBlock_19 : decode cX6_noteBlock 19 = .ok (.getfield 212, 3) := by decide +kernel
theorem dX6_noteBlock_22 : decode cX6_noteBlock 22 = .ok (.aload_n 0, 1) := by decide +kernel
theorem dX6_noteBlock_23 : decode cX6_noteBlock 23 = .ok (.getfield 15, 3) := by decide +kernel
theorem dX6_noteBlock_26 : decode cX6_noteBlock 26 = .ok (.getfield 53, 3) := by decide +kernel
theorem dX6_noteBlock_29 : decode cX6_noteBlock 29 = .ok (.aload_n 0, 1) := by decide +kernel
theorem dX6_noteBlock_30 : decode cX6_noteBlock 30 = .ok (.getfield 185, 3) := by decide +kernel
theorem dX6_noteBlock_33 : decode cX6_noteBlock 33 = .ok (.isub, 1) := by decide +kernel
theorem dX6_noteBlock_34 : decode cX6_noteBlock 34 = .ok (.aload_n 0, 1) := by decide +kernel
theorem dX6_noteBlock_35 : decode cX6_noteBlock 35 = .ok (.getfield 191, 3) := by decide +kernel
theorem dX6_noteBlock_38 : decode cX6_noteBlock 38 = .ok (.invokevirtual 227, 3) := by decide +kernel
theorem dX6_noteBlock_41 : decode cX6_noteBlock 41 = .ok (.return_, 1) := by decide +kernel
theorem dX6_readStart_0 : decode cX6_readStart 0 = .ok (.aload_n 0, 1) := by decide +kernel
theorem dX6_readStart_1 : decode cX6_readStart 1 = .ok (.sipush 253, 3) := by decide +kernel
theorem dX6_readStart_4 : decode cX6_readStart 4 = .ok (.iconst 2, 1) := by decide +kernel
theorem dX6_readStart_5 : decode cX6_readStart 5 = .ok (.invokevirtual 231, 3) := by decide +kernel
theorem dX6_readStart_8 : decode cX6_readStart 8 = .ok (.aload_n 0, 1) := by decide +kernel
theorem dX6_readStart_9 : decode cX6_readStart 9 = .ok (.bipush 55, 2) := by decide +kernel
theorem dX6_readStart_11 : decode cX6_readStart 11 = .ok (.iconst 2, 1) := by decide +kernel
theorem dX6_readStart_12 : decode cX6_readStart 12 = .ok (.invokevirtual 231, 3) := by decide +kernel
theorem dX6_readStart_15 : decode cX6_readStart 15 = .ok (.aload_n 0, 1) := by decide +kernel
theorem dX6_readStart_16 : decode cX6_readStart 16 = .ok (.bipush 122, 2) := by decide +kernel
theorem dX6_readStart_18 : decode cX6_readStart 18 = .ok (.iconst 2, 1) := by decide +kernel
theorem dX6_readStart_19 : decode cX6_readStart 19 = .ok (.invokevirtual 231, 3) := by decide +kernel
theorem dX6_readStart_22 : decode cX6_readStart 22 = .ok (.aload_n 0, 1) := by decide +kernel
theorem dX6_readStart_23 : decode cX6_readStart 23 = .ok (.bipush 88, 2) := by decide +kernel
theorem dX6_readStart_25 : decode cX6_readStart 25 = .ok (.iconst 2, 1) := by decide +kernel
theorem dX6_readStart_26 : decode cX6_readStart 26 = .ok (.invokevirtual 231, 3) := by decide +kernel
theorem dX6_readStart_29 : decode cX6_readStart 29 = .ok (.aload_n 0, 1) := by decide +kernel
theorem dX6_readStart_30 : decode cX6_readStart 30 = .ok (.bipush 90, 2) := by decide +kernel
theorem dX6_readStart_32 : decode cX6_readStart 32 = .ok (.iconst 2, 1) := by decide +kernel
theorem dX6_readStart_33 : decode cX6_readStart 33 = .ok (.invokevirtual 231, 3) := by decide +kernel
theorem dX6_readStart_36 : decode cX6_readStart 36 = .ok (.aload_n 0, 1) := by decide +kernel
theorem dX6_readStart_37 : decode cX6_readStart 37 = .ok (.iconst 0, 1) := by decide +kernel
theorem dX6_readStart_38 : decode cX6_readStart 38 = .ok (.iconst 2, 1) := by decide +kernel
theorem dX6_readStart_39 : decode cX6_readStart 39 = .ok (.invokevirtual 231, 3) := by decide +kernel
theorem dX6_readStart_42 : decode cX6_readStart 42 = .ok (.aload_n 0, 1) := by decide +kernel
theorem dX6_readStart_43 : decode cX6_readStart 43 = .ok (.iconst 0, 1) := by decide +kernel
theorem dX6_readStart_44 : decode cX6_readStart 44 = .ok (.bipush 8, 2) := by decide +kernel
theorem dX6_readStart_46 : decode cX6_readStart 46 = .ok (.invokevirtual 231, 3) := by decide +kernel
theorem dX6_readStart_49 : decode cX6_readStart 49 = .ok (.aload_n 0, 1) := by decide +kernel
theorem dX6_readStart_50 : decode cX6_readStart 50 = .ok (.aload_n 0, 1) := by decide +kernel
theorem dX6_readStart_51 : decode cX6_readStart 51 = .ok (.getfield 9, 3) := by decide +kernel
theorem dX6_readStart_54 : decode cX6_readStart 54 = .ok (.invokevirtual 124, 3) := by decide +kernel
theorem dX6_readStart_57 : decode cX6_readStart 57 = .ok (.putfield 234, 3) := by decide +kernel
theorem dX6_readStart_60 : decode cX6_readStart 60 = .ok (.aload_n 0, 1) := by decide +kernel
theorem dX6_readStart_61 : decode cX6_readStart 61 = .ok (.getfield 234, 3) := by decide +kernel
theorem dX6_readStart_64 : decode cX6_readStart 64 = .ok (.invokestatic 237, 3) := by decide +kernel
theorem dX6_readStart_67 : decode cX6_readStart 67 = .ok (.ifCond .ne 12, 3) := by decide +kernel
theorem dX6_readStart_70 : decode cX6_readStart 70 = .ok (.aload_n 0, 1) := by decide +kernel
theorem dX6_readStart_71 : decode cX6_readStart 71 = .ok (.getfield 9, 3) := by decide +kernel
theorem dX6_readStart_74 : decode cX6_readStart 74 = .ok (.bipush 14, 2) := by decide +kernel
theorem dX6_readStart_76 : decode cX6_readStart 76 = .ok (.invokevirtual 85, 3) := by decide +kernel
theorem dX6_readStart_79 : decode cX6_readStart 79 = .ok (.aload_n 0, 1) := by decide +kernel
theorem dX6_readStart_80 : decode cX6_readStart 80 = .ok (.getfield 9, 3) := by decide +kernel
theorem dX6_readStart_83 : decode cX6_readStart 83 = .ok (.iconst 4, 1) := by decide +kernel
theorem dX6_readStart_84 : decode cX6_readStart 84 = .ok (.invokevirtual 97, 3) := by decide +kernel
theorem dX6_readStart_87 : decode cX6_readStart 87 = .ok (.l2i, 1) := by decide +kernel
theorem dX6_readStart_88 : decode cX6_readStart 88 = .ok (.aload_n 0, 1) := by decide +kernel
theorem dX6_readStart_89 : decode cX6_readStart 89 = .ok (.getfield 9, 3) := by decide +kernel
theorem dX6_readStart_92 : decode cX6_readStart 92 = .ok (.getfield 91, 3) := by decide +kernel
theorem dX6_readStart_95 : decode cX6_readStart 95 = .ok (.bipush 6, 2) := by decide +kernel
theorem dX6_readStart_97 : decode cX6_readStart 97 = .ok (.bipush 8, 2) := by decide +kernel
theorem dX6_readStart_99 : decode cX6_readStart 99 = .ok (.invokestatic 242, 3) := by decide +kernel
theorem dX6_readStart_102 : decode cX6_readStart 102 = .ok (.if_icmp .eq 12, 3) := by decide +kernel
theorem dX6_readStart_105 : decode cX6_readStart 105 = .ok (.aload_n 0, 1) := by decide +kernel
theorem dX6_readStart_106 : decode cX6_readStart 106 = .ok (.getfield 9, 3) := by decide +kernel
theorem dX6_readStart_109 : decode cX6_readStart 109 = .ok (.bipush 9, 2) := by decide +kernel
theorem dX6_readStart_111 : decode cX6_readStart 111 = .ok (.invokevirtual 85, 3) := by decide +kernel
theorem dX6_readStart_114 : decode cX6_readStart 114 = .ok (.return_, 1) := by decide +kernel
theorem dX6_expect_0 : decode cX6_expect 0 = .ok (.aload_n 0, 1) := by decide +kernel
theorem dX6_expect_1 : decode cX6_expect 1 = .ok (.getfield 9, 3) := by decide +kernel
theorem dX6_expect_4 : decode cX6_expect 4 = .ok (.invokevirtual 124, 3) := by decide +kernel
theorem dX6_expect_7 : decode cX6_expect 7 = .ok (.iload_n 1, 1) := by decide +kernel
theorem dX6_expect_8 : decode cX6_expect 8 = .ok (.if_icmp .eq 11, 3) := by decide +kernel
theorem dX6_expect_11 : decode cX6_expect 11 = .ok (.aload_n 0, 1) := by decide +kernel
theorem dX6_expect_12 : decode cX6_expect 12 = .ok (.getfield 9, 3) := by decide +kernel
theorem dX6_expect_15 : decode cX6_expect 15 = .ok (.iload_n 2, 1) := by decide +kernel
theorem dX6_expect_16 : decode cX6_expect 16 = .ok (.invokevirtual 85, 3) := by decide +kernel
theorem dX6_expect_19 : decode cX6_expect 19 = .ok (.return_, 1) := by decide +kernel
theorem dX6_findBlock_0 : decode cX6_findBlock 0 = .ok (.aload_n 0, 1) := by decide +kernel
theorem dX6_findBlock_1 : decode cX6_findBlock 1 = .ok (.getfield 9, 3) := by decide +kernel
theorem dX6_findBlock_4 : decode cX6_findBlock 4 = .ok (.invokevirtual 124, 3) := by decide +kernel
theorem dX6_findBlock_7 : decode cX6_findBlock 7 = .ok (.istore_n 1, 1) := by decide +kernel
theorem dX6_findBlock_8 : decode cX6_findBlock 8 = .ok (.aload_n 0, 1) := by decide +kernel
theorem dX6_findBlock_9 : decode cX6_findBlock 9 = .ok (.getfield 36, 3) := by decide +kernel
theorem dX6_findBlock_12 : decode cX6_findBlock 12 = .ok (.aload_n 0, 1) := by decide +kernel
theorem dX6_findBlock_13 : decode cX6_findBlock 13 = .ok (.getfield 9, 3) := by decide +kernel
theorem dX6_findBlock_16 : decode cX6_findBlock 16 = .ok (.getfield 88, 3) := by decide +kernel
theorem dX6_findBlock_19 : decode cX6_findBlock 19 = .ok (.iconst 1, 1) := by decide +kernel
theorem dX6_findBlock_20 : decode cX6_findBlock 20 = .ok (.isub, 1) := by decide +kernel
theorem dX6_findBlock_21 : decode cX6_findBlock 21 = .ok (.putfield 78, 3) := by decide +kernel
theorem dX6_findBlock_24 : decode cX6_findBlock 24 = .ok (.aload_n 0, 1) := by decide +kernel
theorem dX6_findBlock_25 : decode cX6_findBlock 25 = .ok (.getfield 36, 3) := by decide +kernel
theorem dX6_findBlock_28 : decode cX6_findBlock 28 = .ok (.iconst 4, 1) := by decide +kernel
theorem dX6_findBlock_29 : decode cX6_findBlock 29 = .ok (.iload_n 1, 1) := by decide +kernel
theorem dX6_findBlock_30 : decode cX6_findBlock 30 = .ok (.imul, 1) := by decide +kernel
theorem dX6_findBlock_31 : decode cX6_findBlock 31 = .ok (.iconst 4, 1) := by decide +kernel
theorem dX6_findBlock_32 : decode cX6_findBlock 32 = .ok (.iadd, 1) := by decide +kernel
theorem dX6_findBlock_33 : decode cX6_findBlock 33 = .ok (.putfield 81, 3) := by decide +kernel
theorem dX6_findBlock_36 : decode cX6_findBlock 36 = .ok (.iload_n 1, 1) := by decide +kernel
theorem dX6_findBlock_37 : decode cX6_findBlock 37 = .ok (.ifCond .eq 7, 3) := by decide +kernel
theorem dX6_findBlock_40 : decode cX6_findBlock 40 = .ok (.iconst 1, 1) := by decide +kernel
theorem dX6_findBlock_41 : decode cX6_findBlock 41 = .ok (.goto 4, 3) := by decide +kernel
theorem dX6_findBlock_44 : decode cX6_findBlock 44 = .ok (.iconst 0, 1) := by decide +kernel
theorem dX6_findBlock_45 : decode cX6_findBlock 45 = .ok (.ireturn, 1) := by decide +kernel
theorem dX6_readHead_0 : decode cX6_readHead 0 = .ok (.aload_n 0, 1) := by decide +kernel
theorem dX6_readHead_1 : decode cX6_readHead 1 = .ok (.getfield 36, 3) := by decide +kernel
theorem dX6_readHead_4 : decode cX6_readHead 4 = .ok (.invokevirtual 246, 3) := by decide +kernel
theorem dX6_readHead_7 : decode cX6_readHead 7 = .ok (.aload_n 0, 1) := by decide +kernel
theorem dX6_readHead_8 : decode cX6_readHead 8 = .ok (.getfield 36, 3) := by decide +kernel
theorem dX6_readHead_11 : decode cX6_readHead 11 = .ok (.invokevirtual 249, 3) := by decide +kernel
theorem dX6_readHead_14 : decode cX6_readHead 14 = .ok (.aload_n 0, 1) := by decide +kernel
theorem dX6_readHead_15 : decode cX6_readHead 15 = .ok (.aload_n 0, 1) := by decide +kernel
theorem dX6_readHead_16 : decode cX6_readHead 16 = .ok (.getfield 36, 3) := by decide +kernel
theorem dX6_readHead_19 : decode cX6_readHead 19 = .ok (.getfield 252, 3) := by decide +kernel
theorem dX6_readHead_22 : decode cX6_readHead 22 = .ok (.invokevirtual 101, 3) := by decide +kernel
theorem dX6_readHead_25 : decode cX6_readHead 25 = .ok (.aload_n 0, 1) := by decide +kernel
theorem dX6_readHead_26 : decode cX6_readHead 26 = .ok (.getfield 36, 3) := by decide +kernel
theorem dX6_readHead_29 : decode cX6_readHead 29 = .ok (.invokevirtual 253, 3) := by decide +kernel
theorem dX6_readHead_32 : decode cX6_readHead 32 = .ok (.return_, 1) := by decide +kernel
theorem dX6_readTail_0 : decode cX6_readTail 0 = .ok (.aload_n 0, 1) := by decide +kernel
theorem dX6_readTail_1 : decode cX6_readTail 1 = .ok (.getfield 15, 3) := by decide +kernel
theorem dX6_readTail_4 : decode cX6_readTail 4 = .ok (.getfield 53, 3) := by decide +kernel
theorem dX6_readTail_7 : decode cX6_readTail 7 = .ok (.aload_n 0, 1) := by decide +kernel
theorem dX6_readTail_8 : decode cX6_readTail 8 = .ok (.getfield 185, 3) := by decide +kernel
theorem dX6_readTail_11 : decode cX6_readTail 11 = .ok (.isub, 1) := by decide +kernel
theorem dX6_readTail_12 : decode cX6_readTail 12 = .ok (.istore_n 1, 1) := by decide +kernel
theorem dX6_readTail_13 : decode cX6_readTail 13 = .ok (.aload_n 0, 1) := by decide +kernel
theorem dX6_readTail_14 : decode cX6_readTail 14 = .ok (.getfield 36, 3) := by decide +kernel
theorem dX6_readTail_17 : decode cX6_readTail 17 = .ok (.getfield 256, 3) := by decide +kernel
theorem dX6_readTail_20 : decode cX6_readTail 20 = .ok (.lconst 0, 1) := by decide +kernel
theorem dX6_readTail_21 : decode cX6_readTail 21 = .ok (.lcmp, 1) := by decide +kernel
theorem dX6_readTail_22 : decode cX6_readTail 22 = .ok (.ifCond .lt 23, 3) := by decide +kernel
theorem dX6_readTail_25 : decode cX6_readTail 25 = .ok (.aload_n 0, 1) := by decide +kernel
theorem dX6_readTail_26 : decode cX6_readTail 26 = .ok (.getfield 36, 3) := by decide +kernel
theorem dX6_readTail_29 : decode cX6_readTail 29 = .ok (.getfield 256, 3) := by decide +kernel
theorem dX6_readTail_32 : decode cX6_readTail 32 = .ok (.aload_n 0, 1) := by decide +kernel
theorem dX6_readTail_33 : decode cX6_readTail 33 = .ok (.getfield 212, 3) := by decide +kernel
theorem dX6_readTail_36 : decode cX6_readTail 36 = .ok (.i2l, 1) := by decide +kernel
theorem dX6_readTail_37 : decode cX6_readTail 37 = .ok (.lcmp, 1) := by decide +kernel
theorem dX6_readTail_38 : decode cX6_readTail 38 = .ok (.ifCond .eq 7, 3) := by decide +kernel
theorem dX6_readTail_41 : decode cX6_readTail 41 = .ok (.iconst 1, 1) := by decide +kernel
theorem dX6_readTail_42 : decode cX6_readTail 42 = .ok (.goto 4, 3) := by decide +kernel
theorem dX6_readTail_45 : decode cX6_readTail 45 = .ok (.iconst 0, 1) := by decide +kernel
theorem dX6_readTail_46 : decode cX6_readTail 46 = .ok (.istore_n 2, 1) := by decide +kernel
theorem dX6_readTail_47 : decode cX6_readTail 47 = .ok (.iload_n 2, 1) := by decide +kernel
theorem dX6_readTail_48 : decode cX6_readTail 48 = .ok (.ifCond .ne 28, 3) := by decide +kernel
theorem dX6_readTail_51 : decode cX6_readTail 51 = .ok (.aload_n 0, 1) := by decide +kernel
theorem dX6_readTail_52 : decode cX6_readTail 52 = .ok (.getfield 36, 3) := by decide +kernel
theorem dX6_readTail_55 : decode cX6_readTail 55 = .ok (.getfield 259, 3) := by decide +kernel
theorem dX6_readTail_58 : decode cX6_readTail 58 = .ok (.lconst 0, 1) := by decide +kernel
theorem dX6_readTail_59 : decode cX6_readTail 59 = .ok (.lcmp, 1) := by decide +kernel
theorem dX6_readTail_60 : decode cX6_readTail 60 = .ok (.ifCond .lt 25, 3) := by decide +kernel
theorem dX6_readTail_63 : decode cX6_readTail 63 = .ok (.aload_n 0, 1) := by decide +kernel
theorem dX6_readTail_64 : decode cX6_readTail 64 = .ok (.getfield 36, 3) := by decide +kernel
theorem dX6_readTail_67 : decode cX6_readTail 67 = .ok (.getfield 259, 3) := by decide +kernel
theorem dX6_readTail_70 : decode cX6_readTail 70 = .ok (.iload_n 1, 1) := by decide +kernel
theorem dX6_readTail_71 : decode cX6_readTail 71 = .ok (.i2l, 1) := by decide +kernel
theorem dX6_readTail_72 : decode cX6_readTail 72 = .ok (.lcmp, 1) := by decide +kernel
theorem dX6_readTail_73 : decode cX6_readTail 73 = .ok (.ifCond .eq 12, 3) := by decide +kernel
theorem dX6_readTail_76 : decode cX6_readTail 76 = .ok (.aload_n 0, 1) := by decide +kernel
theorem dX6_readTail_77 : decode cX6_readTail 77 = .ok (.getfield 9, 3) := by decide +kernel
theorem dX6_readTail_80 : decode cX6_readTail 80 = .ok (.bipush 8, 2) := by decide +kernel
theorem dX6_readTail_82 : decode cX6_readTail 82 = .ok (.invokevirtual 85, 3) := by decide +kernel
theorem dX6_readTail_85 : decode cX6_readTail 85 = .ok (.iconst 0, 1) := by decide +kernel
theorem dX6_readTail_86 : decode cX6_readTail 86 = .ok (.istore_n 3, 1) := by decide +kernel
theorem dX6_readTail_87 : decode cX6_readTail 87 = .ok (.iload_n 3, 1) := by decide +kernel
theorem dX6_readTail_88 : decode cX6_readTail 88 = .ok (.iconst 3, 1) := by decide +kernel
theorem dX6_readTail_89 : decode cX6_readTail 89 = .ok (.if_icmp .ge 36, 3) := by decide +kernel
theorem dX6_readTail_92 : decode cX6_readTail 92 = .ok (.aload_n 0, 1) := by decide +kernel
theorem dX6_readTail_93 : decode cX6_readTail 93 = .ok (.getfield 9, 3) := by decide +kernel
theorem dX6_readTail_96 : decode cX6_readTail 96 = .ok (.getfield 88, 3) := by decide +kernel
theorem dX6_readTail_99 : decode cX6_readTail 99 = .ok (.aload_n 0, 1) := by decide +kernel
theorem dX6_readTail_100 : decode cX6_readTail 100 = .ok (.getfield 36, 3) := by decide +kernel
theorem dX6_readTail_103 : decode cX6_readTail 103 = .ok (.getfield 78, 3) := by decide +kernel
theorem dX6_readTail_106 : decode cX6_readTail 106 = .ok (.isub, 1) := by decide +kernel
theorem dX6_readTail_107 : decode cX6_readTail 107 = .ok (.iconst 3, 1) := by decide +kernel
theorem dX6_readTail_108 : decode cX6_readTail 108 = .ok (.iand, 1) := by decide +kernel
theorem dX6_readTail_109 : decode cX6_readTail 109 = .ok (.ifCond .eq 16, 3) := by decide +kernel
theorem dX6_readTail_112 : decode cX6_readTail 112 = .ok (.aload_n 0, 1) := by decide +kernel
theorem dX6_readTail_113 : decode cX6_readTail 113 = .ok (.iconst 0, 1) := by decide +kernel
theorem dX6_readTail_114 : decode cX6_readTail 114 = .ok (.bipush 8, 2) := by decide +kernel
theorem dX6_readTail_116 : decode cX6_readTail 116 = .ok (.invokevirtual 231, 3) := by decide +kernel
theorem dX6_readTail_119 : decode cX6_readTail 119 = .ok (.iinc 3 1, 3) := by decide +kernel
theorem dX6_readTail_122 : decode cX6_readTail 122 = .ok (.goto (-35), 3) := by decide +kernel
theorem dX6_readTail_125 : decode cX6_readTail 125 = .ok (.aload_n 0, 1) := by decide +kernel
theorem dX6_readTail_126 : decode cX6_readTail 126 = .ok (.getfield 36, 3) := by decide +kernel
theorem dX6_readTail_129 : decode cX6_readTail 129 = .ok (.aload_n 0, 1) := by decide +kernel
theorem dX6_readTail_130 : decode cX6_readTail 130 = .ok (.getfield 15, 3) := by decide +kernel
theorem dX6_readTail_133 : decode cX6_readTail 133 = .ok (.aload_n 0, 1) := by decide +kernel
theorem dX6_readTail_134 : decode cX6_readTail 134 = .ok (.getfield 185, 3) := by decide +kernel
theorem dX6_readTail_137 : decode cX6_readTail 137 = .ok (.invokevirtual 262, 3) := by decide +kernel
theorem dX6_readTail_140 : decode cX6_readTail 140 = .ok (.aload_n 0, 1) := by decide +kernel
theorem dX6_readTail_141 : decode cX6_readTail 141 = .ok (.getfield 23, 3) := by decide +kernel
theorem dX6_readTail_144 : decode cX6_readTail 144 = .ok (.aload_n 0, 1) := by decide +kernel
theorem dX6_readTail_145 : decode cX6_readTail 145 = .ok (.getfield 234, 3) := by decide +kernel
theorem dX6_readTail_148 : decode cX6_readTail 148 = .ok (.aload_n 0, 1) := by decide +kernel
theorem dX6_readTail_149 : decode cX6_readTail 149 = .ok (.getfield 15, 3) := by decide +kernel
theorem dX6_readTail_152 : decode cX6_readTail 152 = .ok (.aload_n 0, 1) := by decide +kernel
theorem dX6_readTail_153 : decode cX6_readTail 153 = .ok (.getfield 185, 3) := by decide +kernel
theorem dX6_readTail_156 : decode cX6_readTail 156 = .ok (.aload_n 0, 1) := by decide +kernel
theorem dX6_readTail_157 : decode cX6_readTail 157 = .ok (.getfield 15, 3) := by decide +kernel
theorem dX6_readTail_160 : decode cX6_readTail 160 = .ok (.getfield 53, 3) := by decide +kernel
theorem dX6_readTail_163 : decode cX6_readTail 163 = .ok (.invokevirtual 266, 3) := by decide +kernel
theorem dX6_readTail_166 : decode cX6_readTail 166 = .ok (.iconst 1, 1) := by decide +kernel
theorem dX6_readTail_167 : decode cX6_readTail 167 = .ok (.istore_n 3, 1) := by decide +kernel
theorem dX6_readTail_168 : decode cX6_readTail 168 = .ok (.iconst 0, 1) := by decide +kernel
theorem dX6_readTail_169 : decode cX6_readTail 169 = .ok (.istore 4, 2) := by decide +kernel
theorem dX6_readTail_171 : decode cX6_readTail 171 = .ok (.iload 4, 2) := by decide +kernel
theorem dX6_readTail_173 : decode cX6_readTail 173 = .ok (.aload_n 0, 1) := by decide +kernel
theorem dX6_readTail_174 : decode cX6_readTail 174 = .ok (.getfield 234, 3) := by decide +kernel
theorem dX6_readTail_177 : decode cX6_readTail 177 = .ok (.invokestatic 270, 3) := by decide +kernel
theorem dX6_readTail_180 : decode cX6_readTail 180 = .ok (.if_icmp .ge 42, 3) := by decide +kernel
theorem dX6_readTail_183 : decode cX6_readTail 183 = .ok (.aload_n 0, 1) := by decide +kernel
theorem dX6_readTail_184 : decode cX6_readTail 184 = .ok (.getfield 9, 3) := by decide +kernel
theorem dX6_readTail_187 : decode cX6_readTail 187 = .ok (.invokevirtual 124, 3) := by decide +kernel
theorem dX6_readTail_190 : decode cX6_readTail 190 = .ok (.aload_n 0, 1) := by decide +kernel
theorem dX6_readTail_191 : decode cX6_readTail 191 = .ok (.getfield 23, 3) := by decide +kernel
theorem dX6_readTail_194 : decode cX6_readTail 194 = .ok (.aload_n 0, 1) := by decide +kernel
theorem dX6_readTail_195 : decode cX6_readTail 195 = .ok (.getfield 234, 3) := by decide +kernel
theorem dX6_readTail_198 : decode cX6_readTail 198 = .ok (.iload 4, 2) := by decide +kernel
theorem dX6_readTail_200 : decode cX6_readTail 200 = .ok (.invokevirtual 273, 3) := by decide +kernel
theorem dX6_readTail_203 : decode cX6_readTail 203 = .ok (.if_icmp .ne 11, 3) := by decide +kernel
theorem dX6_readTail_206 : decode cX6_readTail 206 = .ok (.iload_n 3, 1) := by decide +kernel
theorem dX6_readTail_207 : decode cX6_readTail 207 = .ok (.ifCond .eq 7, 3) := by decide +kernel
theorem dX6_readTail_210 : decode cX6_readTail 210 = .ok (.iconst 1, 1) := by decide +kernel
theorem dX6_readTail_211 : decode cX6_readTail 211 = .ok (.goto 4, 3) := by decide +kernel
theorem dX6_readTail_214 : decode cX6_readTail 214 = .ok (.iconst 0, 1) := by decide +kernel
theorem dX6_readTail_215 : decode cX6_readTail 215 = .ok (.istore_n 3, 1) := by decide +kernel
theorem dX6_readTail_216 : decode cX6_readTail 216 = .ok (.iinc 4 1, 3) := by decide +kernel
theorem dX6_readTail_219 : decode cX6_readTail 219 = .ok (.goto (-48), 3) := by decide +kernel
theorem dX6_readTail_222 : decode cX6_readTail 222 = .ok (.iload_n 3, 1) := by decide +kernel
theorem dX6_readTail_223 : decode cX6_readTail 223 = .ok (.ifCond .ne 12, 3) := by decide +kernel
theorem dX6_readTail_226 : decode cX6_readTail 226 = .ok (.aload_n 0, 1) := by decide +kernel
theorem dX6_readTail_227 : decode cX6_readTail 227 = .ok (.getfield 9, 3) := by decide +kernel
theorem dX6_readTail_230 : decode cX6_readTail 230 = .ok (.bipush 10, 2) := by decide +kernel
theorem dX6_readTail_232 : decode cX6_readTail 232 = .ok (.invokevirtual 85, 3) := by decide +kernel
theorem dX6_readTail_235 : decode cX6_readTail 235 = .ok (.return_, 1) := by decide +kernel
theorem dX6_readIndex_0 : decode cX6_readIndex 0 = .ok (.aload_n 0, 1) := by decide +kernel
theorem dX6_readIndex_1 : decode cX6_readIndex 1 = .ok (.getfield 45, 3) := by decide +kernel
theorem dX6_readIndex_4 : decode cX6_readIndex 4 = .ok (.iconst 0, 1) := by decide +kernel
theorem dX6_readIndex_5 : decode cX6_readIndex 5 = .ok (.putfield 53, 3) := by decide +kernel
theorem dX6_readIndex_8 : decode cX6_readIndex 8 = .ok (.aload_n 0, 1) := by decide +kernel
theorem dX6_readIndex_9 : decode cX6_readIndex 9 = .ok (.getfield 27, 3) := by decide +kernel
theorem dX6_readIndex_12 : decode cX6_readIndex 12 = .ok (.aload_n 0, 1) := by decide +kernel
theorem dX6_readIndex_13 : decode cX6_readIndex 13 = .ok (.getfield 45, 3) := by decide +kernel
theorem dX6_readIndex_16 : decode cX6_readIndex 16 = .ok (.aload_n 0, 1) := by decide +kernel
theorem dX6_readIndex_17 : decode cX6_readIndex 17 = .ok (.getfield 234, 3) := by decide +kernel
theorem dX6_readIndex_20 : decode cX6_readIndex 20 = .ok (.invokestatic 270, 3) := by decide +kernel
theorem dX6_readIndex_23 : decode cX6_readIndex 23 = .ok (.invokevirtual 276, 3) := by decide +kernel
theorem dX6_readIndex_26 : decode cX6_readIndex 26 = .ok (.iconst 1, 1) := by decide +kernel
theorem dX6_readIndex_27 : decode cX6_readIndex 27 = .ok (.istore_n 1, 1) := by decide +kernel
theorem dX6_readIndex_28 : decode cX6_readIndex 28 = .ok (.iload_n 1, 1) := by decide +kernel
theorem dX6_readIndex_29 : decode cX6_readIndex 29 = .ok (.aload_n 0, 1) := by decide +kernel
theorem dX6_readIndex_30 : decode cX6_readIndex 30 = .ok (.getfield 45, 3) := by decide +kernel
theorem dX6_readIndex_33 : decode cX6_readIndex 33 = .ok (.getfield 53, 3) := by decide +kernel
theorem dX6_readIndex_36 : decode cX6_readIndex 36 = .ok (.if_icmp .ge 23, 3) := by decide +kernel
theorem dX6_readIndex_39 : decode cX6_readIndex 39 = .ok (.aload_n 0, 1) := by decide +kernel
theorem dX6_readIndex_40 : decode cX6_readIndex 40 = .ok (.aload_n 0, 1) := by decide +kernel
theorem dX6_readIndex_41 : decode cX6_readIndex 41 = .ok (.getfield 45, 3) := by decide +kernel
theorem dX6_readIndex_44 : decode cX6_readIndex 44 = .ok (.iload_n 1, 1) := by decide +kernel
theorem dX6_readIndex_45 : decode cX6_readIndex 45 = .ok (.invokevirtual 171, 3) := by decide +kernel
theorem dX6_readIndex_48 : decode cX6_readIndex 48 = .ok (.bipush 11, 2) := by decide +kernel
theorem dX6_readIndex_50 : decode cX6_readIndex 50 = .ok (.invokevirtual 231, 3) := by decide +kernel
theorem dX6_readIndex_53 : decode cX6_readIndex 53 = .ok (.iinc 1 1, 3) := by decide +kernel
theorem dX6_readIndex_56 : decode cX6_readIndex 56 = .ok (.goto (-28), 3) := by decide +kernel
theorem dX6_readIndex_59 : decode cX6_readIndex 59 = .ok (.aload_n 0, 1) := by decide +kernel
theorem dX6_readIndex_60 : decode cX6_readIndex 60 = .ok (.getfield 9, 3) := by decide +kernel
theorem dX6_readIndex_63 : decode cX6_readIndex 63 = .ok (.iconst 4, 1) := by decide +kernel
theorem dX6_readIndex_64 : decode cX6_readIndex 64 = .ok (.invokevirtual 97, 3) := by decide +kernel
theorem dX6_readIndex_67 : decode cX6_readIndex 67 = .ok (.l2i, 1) := by decide +kernel
theorem dX6_readIndex_68 : decode cX6_readIndex 68 = .ok (.aload_n 0, 1) := by decide +kernel
theorem dX6_readIndex_69 : decode cX6_readIndex 69 = .ok (.getfield 45, 3) := by decide +kernel
theorem dX6_readIndex_72 : decode cX6_readIndex 72 = .ok (.iconst 0, 1) := by decide +kernel
theorem dX6_readIndex_73 : decode cX6_readIndex 73 = .ok (.aload_n 0, 1) := by decide +kernel
theorem dX6_readIndex_74 : decode cX6_readIndex 74 = .ok (.getfield 45, 3) := by decide +kernel
theorem dX6_readIndex_77 : decode cX6_readIndex 77 = .ok (.getfield 53, 3) := by decide +kernel
theorem dX6_readIndex_80 : decode cX6_readIndex 80 = .ok (.invokestatic 242, 3) := by decide +kernel
theorem dX6_readIndex_83 : decode cX6_readIndex 83 = .ok (.if_icmp .eq 12, 3) := by decide +kernel
theorem dX6_readIndex_86 : decode cX6_readIndex 86 = .ok (.aload_n 0, 1) := by decide +kernel
theorem dX6_readIndex_87 : decode cX6_readIndex 87 = .ok (.getfield 9, 3) := by decide +kernel
theorem dX6_readIndex_90 : decode cX6_readIndex 90 = .ok (.bipush 9, 2) := by decide +kernel
theorem dX6_readIndex_92 : decode cX6_readIndex 92 = .ok (.invokevirtual 85, 3) := by decide +kernel
theorem dX6_readIndex_95 : decode cX6_readIndex 95 = .ok (.return_, 1) := by decide +kernel
theorem dX6_readFoot_0 : decode cX6_readFoot 0 = .ok (.aload_n 0, 1) := by decide +kernel
theorem dX6_readFoot_1 : decode cX6_readFoot 1 = .ok (.getfield 9, 3) := by decide +kernel
theorem dX6_readFoot_4 : decode cX6_readFoot 4 = .ok (.iconst 4, 1) := by decide +kernel
theorem dX6_readFoot_5 : decode cX6_readFoot 5 = .ok (.invokevirtual 97, 3) := by decide +kernel
theorem dX6_readFoot_8 : decode cX6_readFoot 8 = .ok (.l2i, 1) := by decide +kernel
theorem dX6_readFoot_9 : decode cX6_readFoot 9 = .ok (.istore_n 1, 1) := by decide +kernel
theorem dX6_readFoot_10 : decode cX6_readFoot 10 = .ok (.aload_n 0, 1) := by decide +kernel
theorem dX6_readFoot_11 : decode cX6_readFoot 11 = .ok (.getfield 9, 3) := by decide +kernel
theorem dX6_readFoot_14 : decode cX6_readFoot 14 = .ok (.iconst 4, 1) := by decide +kernel
theorem dX6_readFoot_15 : decode cX6_readFoot 15 = .ok (.invokevirtual 97, 3) := by decide +kernel
theorem dX6_readFoot_18 : decode cX6_readFoot 18 = .ok (.lstore_n 2, 1) := by decide +kernel
theorem dX6_readFoot_19 : decode cX6_readFoot 19 = .ok (.aload_n 0, 1) := by decide +kernel
theorem dX6_readFoot_20 : decode cX6_readFoot 20 = .ok (.getfield 9, 3) := by decide +kernel
theorem dX6_readFoot_23 : decode cX6_readFoot 23 = .ok (.iconst 2, 1) := by decide +kernel
theorem dX6_readFoot_24 : decode cX6_readFoot 24 = .ok (.invokevirtual 215, 3) := by decide +kernel
theorem dX6_readFoot_27 : decode cX6_readFoot 27 = .ok (.istore 4, 2) := by decide +kernel
theorem dX6_readFoot_29 : decode cX6_readFoot 29 = .ok (.iload_n 1, 1) := by decide +kernel
theorem dX6_readFoot_30 : decode cX6_readFoot 30 = .ok (.aload_n 0, 1) := by decide +kernel
theorem dX6_readFoot_31 : decode cX6_readFoot 31 = .ok (.getfield 9, 3) := by decide +kernel
theorem dX6_readFoot_34 : decode cX6_readFoot 34 = .ok (.getfield 91, 3) := by decide +kernel
theorem dX6_readFoot_37 : decode cX6_readFoot 37 = .ok (.aload_n 0, 1) := by decide +kernel
theorem dX6_readFoot_38 : decode cX6_readFoot 38 = .ok (.getfield 9, 3) := by decide +kernel
theorem dX6_readFoot_41 : decode cX6_readFoot 41 = .ok (.getfield 88, 3) := by decide +kernel
theorem dX6_readFoot_44 : decode cX6_readFoot 44 = .ok (.bipush 6, 2) := by decide +kernel
theorem dX6_readFoot_46 : decode cX6_readFoot 46 = .ok (.isub, 1) := by decide +kernel
theorem dX6_readFoot_47 : decode cX6_readFoot 47 = .ok (.aload_n 0, 1) := by decide +kernel
theorem dX6_readFoot_48 : decode cX6_readFoot 48 = .ok (.getfield 9, 3) := by decide +kernel
theorem dX6_readFoot_51 : decode cX6_readFoot 51 = .ok (.getfield 88, 3) := by decide +kernel
theorem dX6_readFoot_54 : decode cX6_readFoot 54 = .ok (.invokestatic 242, 3) := by decide +kernel
theorem dX6_readFoot_57 : decode cX6_readFoot 57 = .ok (.if_icmp .eq 12, 3) := by decide +kernel
theorem dX6_readFoot_60 : decode cX6_readFoot 60 = .ok (.aload_n 0, 1) := by decide +kernel
theorem dX6_readFoot_61 : decode cX6_readFoot 61 = .ok (.getfield 9, 3) := by decide +kernel
theorem dX6_readFoot_64 : decode cX6_readFoot 64 = .ok (.bipush 9, 2) := by decide +kernel
theorem dX6_readFoot_66 : decode cX6_readFoot 66 = .ok (.invokevirtual 85, 3) := by decide +kernel
theorem dX6_readFoot_69 : decode cX6_readFoot 69 = .ok (.lload_n 2, 1) := by decide +kernel
theorem dX6_readFoot_70 : decode cX6_readFoot 70 = .ok (.aload_n 0, 1) := by decide +kernel
theorem dX6_readFoot_71 : decode cX6_readFoot 71 = .ok (.getfield 45, 3) := by decide +kernel
theorem dX6_readFoot_74 : decode cX6_readFoot 74 = .ok (.getfield 53, 3) := by decide +kernel
theorem dX6_readFoot_77 : decode cX6_readFoot 77 = .ok (.iconst 4, 1) := by decide +kernel
theorem dX6_readFoot_78 : decode cX6_readFoot 78 = .ok (.idiv, 1) := by decide +kernel
theorem dX6_readFoot_79 : decode cX6_readFoot 79 = .ok (.i2l, 1) := by decide +kernel
theorem dX6_readFoot_80 : decode cX6_readFoot 80 = .ok (.lcmp, 1) := by decide +kernel
theorem dX6_readFoot_81 : decode cX6_readFoot 81 = .ok (.ifCond .ne 12, 3) := by decide +kernel
theorem dX6_readFoot_84 : decode cX6_readFoot 84 = .ok (.iload 4, 2) := by decide +kernel
theorem dX6_readFoot_86 : decode cX6_readFoot 86 = .ok (.aload_n 0, 1) := by decide +kernel
theorem dX6_readFoot_87 : decode cX6_readFoot 87 = .ok (.getfield 234, 3) := by decide +kernel
theorem dX6_readFoot_90 : decode cX6_readFoot 90 = .ok (.if_icmp .eq 12, 3) := by decide +kernel
theorem dX6_readFoot_93 : decode cX6_readFoot 93 = .ok (.aload_n 0, 1) := by decide +kernel
theorem dX6_readFoot_94 : decode cX6_readFoot 94 = .ok (.getfield 9, 3) := by decide +kernel
theorem dX6_readFoot_97 : decode cX6_readFoot 97 = .ok (.bipush 11, 2) := by decide +kernel
theorem dX6_readFoot_99 : decode cX6_readFoot 99 = .ok (.invokevirtual 85, 3) := by decide +kernel
theorem dX6_readFoot_102 : decode cX6_readFoot 102 = .ok (.aload_n 0, 1) := by decide +kernel
theorem dX6_readFoot_103 : decode cX6_readFoot 103 = .ok (.bipush 89, 2) := by decide +kernel
theorem dX6_readFoot_105 : decode cX6_readFoot 105 = .ok (.bipush 11, 2) := by decide +kernel
theorem dX6_readFoot_107 : decode cX6_readFoot 107 = .ok (.invokevirtual 231, 3) := by decide +kernel
theorem dX6_readFoot_110 : decode cX6_readFoot 110 = .ok (.aload_n 0, 1) := by decide +kernel
theorem dX6_readFoot_111 : decode cX6_readFoot 111 = .ok (.bipush 90, 2) := by decide +kernel
theorem dX6_readFoot_113 : decode cX6_readFoot 113 = .ok (.bipush 11, 2) := by decide +kernel
theorem dX6_readFoot_115 : decode cX6_readFoot 115 = .ok (.invokevirtual 231, 3) := by decide +kernel
theorem dX6_readFoot_118 : decode cX6_readFoot 118 = .ok (.return_, 1) := by decide +kernel
theorem dX7_init_0 : decode cX7_init 0 = .ok (.aload_n 0, 1) := by decide +kernel
theorem dX7_init_1 : decode cX7_init 1 = .ok (.invokespecial 3, 3) := by decide +kernel
theorem dX7_init_4 : decode cX7_init 4 = .ok (.aload_n 0, 1) := by decide +kernel
theorem dX7_init_5 : decode cX7_init 5 = .ok (.aload_n 1, 1) := by decide +kernel
theorem dX7_init_6 : decode cX7_init 6 = .ok (.putfield 9, 3) := by decide +kernel
theorem dX7_init_9 : decode cX7_init 9 = .ok (.aload_n 0, 1) := by decide +kernel
theorem dX7_init_10 : decode cX7_init 10 = .ok (.aload_n 2, 1) := by decide +kernel
theorem dX7_init_11 : decode cX7_init 11 = .ok (.putfield 15, 3) := by decide +kernel
theorem dX7_init_14 : decode cX7_init 14 = .ok (.aload_n 0, 1) := by decide +kernel
theorem dX7_init_15 : decode cX7_init 15 = .ok (.aload_n 3, 1) := by decide +kernel
theorem dX7_init_16 : decode cX7_init 16 = .ok (.putfield 19, 3) := by decide +kernel
theorem dX7_init_19 : decode cX7_init 19 = .ok (.aload_n 0, 1) := by decide +kernel
theorem dX7_init_20 : decode cX7_init 20 = .ok (.aload 4, 2) := by decide +kernel
theorem dX7_init_22 : decode cX7_init 22 = .ok (.putfield 22, 3) := by decide +kernel
theorem dX7_init_25 : decode cX7_init 25 = .ok (.aload_n 0, 1) := by decide +kernel
theorem dX7_init_26 : decode cX7_init 26 = .ok (.aload 5, 2) := by decide +kernel
theorem dX7_init_28 : decode cX7_init 28 = .ok (.putfield 26, 3) := by decide +kernel
theorem dX7_init_31 : decode cX7_init 31 = .ok (.aload_n 0, 1) := by decide +kernel
theorem dX7_init_32 : decode cX7_init 32 = .ok (.aload 6, 2) := by decide +kernel
theorem dX7_init_34 : decode cX7_init 34 = .ok (.putfield 30, 3) := by decide +kernel
theorem dX7_init_37 : decode cX7_init 37 = .ok (.aload_n 0, 1) := by decide +kernel
theorem dX7_init_38 : decode cX7_init 38 = .ok (.new 34, 3) := by decide +kernel
theorem dX7_init_41 : decode cX7_init 41 = .ok (.dup, 1) := by decide +kernel
theorem dX7_init_42 : decode cX7_init 42 = .ok (.aload_n 2, 1) := by decide +kernel
theorem dX7_init_43 : decode cX7_init 43 = .ok (.aload 4, 2) := by decide +kernel
theorem dX7_init_45 : decode cX7_init 45 = .ok (.invokespecial 36, 3) := by decide +kernel
theorem dX7_init_48 : decode cX7_init 48 = .ok (.putfield 39, 3) := by decide +kernel
theorem dX7_init_51 : decode cX7_init 51 = .ok (.return_, 1) := by decide +kernel
theorem dX7_begin_0 : decode cX7_begin 0 = .ok (.aload_n 0, 1) := by decide +kernel
theorem dX7_begin_1 : decode cX7_begin 1 = .ok (.iload_n 1, 1) := by decide +kernel
theorem dX7_begin_2 : decode cX7_begin 2 = .ok (.putfield 43, 3) := by decide +kernel
theorem dX7_begin_5 : decode cX7_begin 5 = .ok (.aload_n 0, 1) := by decide +kernel
theorem dX7_begin_6 : decode cX7_begin 6 = .ok (.getfield 19, 3) := by decide +kernel
theorem dX7_begin_9 : decode cX7_begin 9 = .ok (.iconst 0, 1) := by decide +kernel
theorem dX7_begin_10 : decode cX7_begin 10 = .ok (.putfield 47, 3) := by decide +kernel
theorem dX7_begin_13 : decode cX7_begin 13 = .ok (.aload_n 0, 1) := by decide +kernel
theorem dX7_begin_14 : decode cX7_begin 14 = .ok (.getfield 30, 3) := by decide +kernel
theorem dX7_begin_17 : decode cX7_begin 17 = .ok (.invokevirtual 52, 3) := by decide +kernel
theorem dX7_begin_20 : decode cX7_begin 20 = .ok (.aload_n 0, 1) := by decide +kernel
theorem dX7_begin_21 : decode cX7_begin 21 = .ok (.getfield 22, 3) := by decide +kernel
theorem dX7_begin_24 : decode cX7_begin 24 = .ok (.aload_n 0, 1) := by decide +kernel
theorem dX7_begin_25 : decode cX7_begin 25 = .ok (.getfield 9, 3) := by decide +kernel
theorem dX7_begin_28 : decode cX7_begin 28 = .ok (.getfield 57, 3) := by decide +kernel
theorem dX7_begin_31 : decode cX7_begin 31 = .ok (.aload_n 0, 1) := by decide +kernel
theorem dX7_begin_32 : decode cX7_begin 32 = .ok (.getfield 9, 3) := by decide +kernel
theorem dX7_begin_35 : decode cX7_begin 35 = .ok (.getfield 62, 3) := by decide +kernel
theorem dX7_begin_38 : decode cX7_begin 38 = .ok (.aload_n 0, 1) := by decide +kernel
theorem dX7_begin_39 : decode cX7_begin 39 = .ok (.getfield 9, 3) := by decide +kernel
theorem dX7_begin_42 : decode cX7_begin 42 = .ok (.getfield 65, 3) := by decide +kernel
theorem dX7_begin_45 : decode cX7_begin 45 = .ok (.invokevirtual 68, 3) := by decide +kernel
theorem dX7_begin_48 : decode cX7_begin 48 = .ok (.aload_n 0, 1) := by decide +kernel
theorem dX7_begin_49 : decode cX7_begin 49 = .ok (.getfield 22, 3) := by decide +kernel
theorem dX7_begin_52 : decode cX7_begin 52 = .ok (.invokevirtual 74, 3) := by decide +kernel
theorem dX7_begin_55 : decode cX7_begin 55 = .ok (.return_, 1) := by decide +kernel
theorem dX7_writeAlone_0 : decode cX7_writeAlone 0 = .ok (.aload_n 0, 1) := by decide +kernel
theorem dX7_writeAlone_1 : decode cX7_writeAlone 1 = .ok (.getfield 9, 3) := by decide +kernel
theorem dX7_writeAlone_4 : decode cX7_writeAlone 4 = .ok (.getfield 77, 3) := by decide +kernel
theorem dX7_writeAlone_7 : decode cX7_writeAlone 7 = .ok (.iconst 1, 1) := by decide +kernel
theorem dX7_writeAlone_8 : decode cX7_writeAlone 8 = .ok (.if_icmp .ne 7, 3) := by decide +kernel
theorem dX7_writeAlone_11 : decode cX7_writeAlone 11 = .ok (.iconst 1, 1) := by decide +kernel
theorem dX7_writeAlone_12 : decode cX7_writeAlone 12 = .ok (.goto 4, 3) := by decide +kernel
theorem dX7_writeAlone_15 : decode cX7_writeAlone 15 = .ok (.iconst 0, 1) := by decide +kernel
theorem dX7_writeAlone_16 : decode cX7_writeAlone 16 = .ok (.istore_n 1, 1) := by decide +kernel
theorem dX7_writeAlone_17 : decode cX7_writeAlone 17 = .ok (.aload_n 0, 1) := by decide +kernel
theorem dX7_writeAlone_18 : decode cX7_writeAlone 18 = .ok (.getfield 19, 3) := by decide +kernel
theorem dX7_writeAlone_21 : decode cX7_writeAlone 21 = .ok (.aload_n 0, 1) := by decide +kernel
theorem dX7_writeAlone_22 : decode cX7_writeAlone 22 = .ok (.getfield 9, 3) := by decide +kernel
theorem dX7_writeAlone_25 : decode cX7_writeAlone 25 = .ok (.invokevirtual 80, 3) := by decide +kernel
theorem dX7_writeAlone_28 : decode cX7_writeAlone 28 = .ok (.invokevirtual 84, 3) := by decide +kernel
theorem dX7_writeAlone_31 : decode cX7_writeAlone 31 = .ok (.aload_n 0, 1) := by decide +kernel
theorem dX7_writeAlone_32 : decode cX7_writeAlone 32 = .ok (.getfield 19, 3) := by decide +kernel
theorem dX7_writeAlone_35 : decode cX7_writeAlone 35 = .ok (.aload_n 0, 1) := by decide +kernel
theorem dX7_writeAlone_36 : decode cX7_writeAlone 36 = .ok (.getfield 9, 3) := by decide +kernel
theorem dX7_writeAlone_39 : decode cX7_writeAlone 39 = .ok (.getfield 88, 3) := by decide +kernel
theorem dX7_writeAlone_42 : decode cX7_writeAlone 42 = .ok (.i2l, 1) := by decide +kernel
theorem dX7_writeAlone_43 : decode cX7_writeAlone 43 = .ok (.iconst 4, 1) := by decide +kernel
theorem dX7_writeAlone_44 : decode cX7_writeAlone 44 = .ok (.invokevirtual 91, 3) := by decide +kernel
theorem dX7_writeAlone_47 : decode cX7_writeAlone 47 = .ok (.aload_n 0, 1) := by decide +kernel
theorem dX7_writeAlone_48 : decode cX7_writeAlone 48 = .ok (.getfield 19, 3) := by decide +kernel
theorem dX7_writeAlone_51 : decode cX7_writeAlone 51 = .ok (.iload_n 1, 1) := by decide +kernel
theorem dX7_writeAlone_52 : decode cX7_writeAlone 52 = .ok (.ifCond .eq 9, 3) := by decide +kernel
theorem dX7_writeAlone_55 : decode cX7_writeAlone 55 = .ok (.ldc2_w 95, 3) := by decide +kernel
theorem dX7_writeAlone_58 : decode cX7_writeAlone 58 = .ok (.goto 11, 3) := by decide +kernel
theorem dX7_writeAlone_61 : decode cX7_writeAlone 61 = .ok (.aload_n 0, 1) := by decide +kernel
theorem dX7_writeAlone_62 : decode cX7_writeAlone 62 = .ok (.getfield 15, 3) := by decide +kernel
theorem dX7_writeAlone_65 : decode cX7_writeAlone 65 = .ok (.getfield 47, 3) := by decide +kernel
theorem dX7_writeAlone_68 : decode cX7_writeAlone 68 = .ok (.i2l, 1) := by decide +kernel
theorem dX7_writeAlone_69 : decode cX7_writeAlone 69 = .ok (.bipush 8, 2) := by decide +kernel
theorem dX7_writeAlone_71 : decode cX7_writeAlone 71 = .ok (.invokevirtual 91, 3) := by decide +kernel
theorem dX7_writeAlone_74 : decode cX7_writeAlone 74 = .ok (.aload_n 0, 1) := by decide +kernel
theorem dX7_writeAlone_75 : decode cX7_writeAlone 75 = .ok (.iconst 0, 1) := by decide +kernel
theorem dX7_writeAlone_76 : decode cX7_writeAlone 76 = .ok (.iconst 0, 1) := by decide +kernel
theorem dX7_writeAlone_77 : decode cX7_writeAlone 77 = .ok (.aload_n 0, 1) := by decide +kernel
theorem dX7_writeAlone_78 : decode cX7_writeAlone 78 = .ok (.getfield 15, 3) := by decide +kernel
theorem dX7_writeAlone_81 : decode cX7_writeAlone 81 = .ok (.getfield 47, 3) := by decide +kernel
theorem dX7_writeAlone_84 : decode cX7_writeAlone 84 = .ok (.iload_n 1, 1) := by decide +kernel
theorem dX7_writeAlone_85 : decode cX7_writeAlone 85 = .ok (.invokevirtual 97, 3) := by decide +kernel
theorem dX7_writeAlone_88 : decode cX7_writeAlone 88 = .ok (.return_, 1) := by decide +kernel
theorem dX7_writeBits_0 : decode cX7_writeBits 0 = .ok (.aload_n 0, 1) := by decide +kernel
theorem dX7_writeBits_1 : decode cX7_writeBits 1 = .ok (.getfield 39, 3) := by decide +kernel
theorem dX7_writeBits_4 : decode cX7_writeBits 4 = .ok (.iload_n 1, 1) := by decide +kernel
theorem dX7_writeBits_5 : decode cX7_writeBits 5 = .ok (.iload_n 2, 1) := by decide +kernel
theorem dX7_writeBits_6 : decode cX7_writeBits 6 = .ok (.iload_n 3, 1) := by decide +kernel
theorem dX7_writeBits_7 : decode cX7_writeBits 7 = .ok (.aload_n 0, 1) := by decide +kernel
theorem dX7_writeBits_8 : decode cX7_writeBits 8 = .ok (.getfield 9, 3) := by decide +kernel
theorem dX7_writeBits_11 : decode cX7_writeBits 11 = .ok (.getfield 88, 3) := by decide +kernel
theorem dX7_writeBits_14 : decode cX7_writeBits 14 = .ok (.aload_n 0, 1) := by decide +kernel
theorem dX7_writeBits_15 : decode cX7_writeBits 15 = .ok (.getfield 43, 3) := by decide +kernel
theorem dX7_writeBits_18 : decode cX7_writeBits 18 = .ok (.invokevirtual 101, 3) := by decide +kernel
theorem dX7_writeBits_21 : decode cX7_writeBits 21 = .ok (.aload_n 0, 1) := by decide +kernel
theorem dX7_writeBits_22 : decode cX7_writeBits 22 = .ok (.getfield 22, 3) := by decide +kernel
theorem dX7_writeBits_25 : decode cX7_writeBits 25 = .ok (.getfield 105, 3) := by decide +kernel
theorem dX7_writeBits_28 : decode cX7_writeBits 28 = .ok (.invokevirtual 109, 3) := by decide +kernel
theorem dX7_writeBits_31 : decode cX7_writeBits 31 = .ok (.iload_n 2, 1) := by decide +kernel
theorem dX7_writeBits_32 : decode cX7_writeBits 32 = .ok (.istore 5, 2) := by decide +kernel
theorem dX7_writeBits_34 : decode cX7_writeBits 34 = .ok (.iload 5, 2) := by decide +kernel
theorem dX7_writeBits_36 : decode cX7_writeBits 36 = .ok (.iload_n 3, 1) := by decide +kernel
theorem dX7_writeBits_37 : decode cX7_writeBits 37 = .ok (.if_icmp .ge 42, 3) := by decide +kernel
theorem dX7_writeBits_40 : decode cX7_writeBits 40 = .ok (.aload_n 0, 1) := by decide +kernel
theorem dX7_writeBits_41 : decode cX7_writeBits 41 = .ok (.getfield 39, 3) := by decide +kernel
theorem dX7_writeBits_44 : decode cX7_writeBits 44 = .ok (.aload_n 0, 1) := by decide +kernel
theorem dX7_writeBits_45 : decode cX7_writeBits 45 = .ok (.getfield 43, 3) := by decide +kernel
theorem dX7_writeBits_48 : decode cX7_writeBits 48 = .ok (.iload 5, 2) := by decide +kernel
theorem dX7_writeBits_50 : decode cX7_writeBits 50 = .ok (.invokevirtual 114, 3) := by decide +kernel
theorem dX7_writeBits_53 : decode cX7_writeBits 53 = .ok (.aload_n 0, 1) := by decide +kernel
theorem dX7_writeBits_54 : decode cX7_writeBits 54 = .ok (.iload_n 1, 1) := by decide +kernel
theorem dX7_writeBits_55 : decode cX7_writeBits 55 = .ok (.iload 5, 2) := by decide +kernel
theorem dX7_writeBits_57 : decode cX7_writeBits 57 = .ok (.invokevirtual 118, 3) := by decide +kernel
theorem dX7_writeBits_60 : decode cX7_writeBits 60 = .ok (.iload 5, 2) := by decide +kernel
theorem dX7_writeBits_62 : decode cX7_writeBits 62 = .ok (.iconst 1, 1) := by decide +kernel
theorem dX7_writeBits_63 : decode cX7_writeBits 63 = .ok (.aload_n 0, 1) := by decide +kernel
theorem dX7_writeBits_64 : decode cX7_writeBits 64 = .ok (.getfield 39, 3) := by decide +kernel
theorem dX7_writeBits_67 : decode cX7_writeBits 67 = .ok (.getfield 121, 3) := by decide +kernel
theorem dX7_writeBits_70 : decode cX7_writeBits 70 = .ok (.invokestatic 124, 3) := by decide +kernel
theorem dX7_writeBits_73 : decode cX7_writeBits 73 = .ok (.iadd, 1) := by decide +kernel
theorem dX7_writeBits_74 : decode cX7_writeBits 74 = .ok (.istore 5, 2) := by decide +kernel
theorem dX7_writeBits_76 : decode cX7_writeBits 76 = .ok (.goto (-42), 3) := by decide +kernel
theorem dX7_writeBits_79 : decode cX7_writeBits 79 = .ok (.iload 4, 2) := by decide +kernel
theorem dX7_writeBits_81 : decode cX7_writeBits 81 = .ok (.ifCond .eq 8, 3) := by decide +kernel
theorem dX7_writeBits_84 : decode cX7_writeBits 84 = .ok (.aload_n 0, 1) := by decide +kernel
theorem dX7_writeBits_85 : decode cX7_writeBits 85 = .ok (.iload_n 3, 1) := by decide +kernel
theorem dX7_writeBits_86 : decode cX7_writeBits 86 = .ok (.invokevirtual 130, 3) := by decide +kernel
theorem dX7_writeBits_89 : decode cX7_writeBits 89 = .ok (.aload_n 0, 1) := by decide +kernel
theorem dX7_writeBits_90 : decode cX7_writeBits 90 = .ok (.getfield 22, 3) := by decide +kernel
theorem dX7_writeBits_93 : decode cX7_writeBits 93 = .ok (.getfield 105, 3) := by decide +kernel
theorem dX7_writeBits_96 : decode cX7_writeBits 96 = .ok (.invokevirtual 133, 3) := by decide +kernel
theorem dX7_writeBits_99 : decode cX7_writeBits 99 = .ok (.return_, 1) := by decide +kernel
theorem dX7_writeChoice_0 : decode cX7_writeChoice 0 = .ok (.iload_n 2, 1) := by decide +kernel
theorem dX7_writeChoice_1 : decode cX7_writeChoice 1 = .ok (.iload_n 1, 1) := by decide +kernel
theorem dX7_writeChoice_2 : decode cX7_writeChoice 2 = .ok (.isub, 1) := by decide +kernel
theorem dX7_writeChoice_3 : decode cX7_writeChoice 3 = .ok (.istore_n 3, 1) := by decide +kernel
theorem dX7_writeChoice_4 : decode cX7_writeChoice 4 = .ok (.aload_n 0, 1) := by decide +kernel
theorem dX7_writeChoice_5 : decode cX7_writeChoice 5 = .ok (.getfield 39, 3) := by decide +kernel
theorem dX7_writeChoice_8 : decode cX7_writeChoice 8 = .ok (.getfield 136, 3) := by decide +kernel
theorem dX7_writeChoice_11 : decode cX7_writeChoice 11 = .ok (.istore 4, 2) := by decide +kernel
theorem dX7_writeChoice_13 : decode cX7_writeChoice 13 = .ok (.aload_n 0, 1) := by decide +kernel
theorem dX7_writeChoice_14 : decode cX7_writeChoice 14 = .ok (.getfield 39, 3) := by decide +kernel
theorem dX7_writeChoice_17 : decode cX7_writeChoice 17 = .ok (.getfield 121, 3) := by decide +kernel
theorem dX7_writeChoice_20 : decode cX7_writeChoice 20 = .ok (.istore 5, 2) := by decide +kernel
theorem dX7_writeChoice_22 : decode cX7_writeChoice 22 = .ok (.aload_n 0, 1) := by decide +kernel
theorem dX7_writeChoice_23 : decode cX7_writeChoice 23 = .ok (.getfield 39, 3) := by decide +kernel
theorem dX7_writeChoice_26 : decode cX7_writeChoice 26 = .ok (.getfield 139, 3) := by decide +kernel
theorem dX7_writeChoice_29 : decode cX7_writeChoice 29 = .ok (.istore 6, 2) := by decide +kernel
theorem dX7_writeChoice_31 : decode cX7_writeChoice 31 = .ok (.aload_n 0, 1) := by decide +kernel
theorem dX7_writeChoice_32 : decode cX7_writeChoice 32 = .ok (.getfield 22, 3) := by decide +kernel
theorem dX7_writeChoice_35 : decode cX7_writeChoice 35 = .ok (.iload 4, 2) := by decide +kernel
theorem dX7_writeChoice_37 : decode cX7_writeChoice 37 = .ok (.iload_n 3, 1) := by decide +kernel
theorem dX7_writeChoice_38 : decode cX7_writeChoice 38 = .ok (.invokevirtual 142, 3) := by decide +kernel
theorem dX7_writeChoice_41 : decode cX7_writeChoice 41 = .ok (.pop, 1) := by decide +kernel
theorem dX7_writeChoice_42 : decode cX7_writeChoice 42 = .ok (.iload 4, 2) := by decide +kernel
theorem dX7_writeChoice_44 : decode cX7_writeChoice 44 = .ok (.ifCond .ne 63, 3) := by decide +kernel
theorem dX7_writeChoice_47 : decode cX7_writeChoice 47 = .ok (.iload_n 3, 1) := by decide +kernel
theorem dX7_writeChoice_48 : decode cX7_writeChoice 48 = .ok (.ifCond .le 16, 3) := by decide +kernel
theorem dX7_writeChoice_51 : decode cX7_writeChoice 51 = .ok (.aload_n 0, 1) := by decide +kernel
theorem dX7_writeChoice_52 : decode cX7_writeChoice 52 = .ok (.getfield 15, 3) := by decide +kernel
theorem dX7_writeChoice_55 : decode cX7_writeChoice 55 = .ok (.iload_n 2, 1) := by decide +kernel
theorem dX7_writeChoice_56 : decode cX7_writeChoice 56 = .ok (.iconst 1, 1) := by decide +kernel
theorem dX7_writeChoice_57 : decode cX7_writeChoice 57 = .ok (.isub, 1) := by decide +kernel
theorem dX7_writeChoice_58 : decode cX7_writeChoice 58 = .ok (.invokevirtual 145, 3) := by decide +kernel
theorem dX7_writeChoice_61 : decode cX7_writeChoice 61 = .ok (.goto 4, 3) := by decide +kernel
theorem dX7_writeChoice_64 : decode cX7_writeChoice 64 = .ok (.iconst 0, 1) := by decide +kernel
theorem dX7_writeChoice_65 : decode cX7_writeChoice 65 = .ok (.istore 7, 2) := by decide +kernel
theorem dX7_writeChoice_67 : decode cX7_writeChoice 67 = .ok (.aload_n 0, 1) := by decide +kernel
theorem dX7_writeChoice_68 : decode cX7_writeChoice 68 = .ok (.getfield 22, 3) := by decide +kernel
theorem dX7_writeChoice_71 : decode cX7_writeChoice 71 = .ok (.aload_n 0, 1) := by decide +kernel
theorem dX7_writeChoice_72 : decode cX7_writeChoice 72 = .ok (.getfield 15, 3) := by decide +kernel
theorem dX7_writeChoice_75 : decode cX7_writeChoice 75 = .ok (.iload_n 2, 1) := by decide +kernel
theorem dX7_writeChoice_76 : decode cX7_writeChoice 76 = .ok (.invokevirtual 145, 3) := by decide +kernel
theorem dX7_writeChoice_79 : decode cX7_writeChoice 79 = .ok (.iload_n 3, 1) := by decide +kernel
theorem dX7_writeChoice_80 : decode cX7_writeChoice 80 = .ok (.iload 7, 2) := by decide +kernel
theorem dX7_writeChoice_82 : decode cX7_writeChoice 82 = .ok (.aload_n 0, 1) := by decide +kernel
theorem dX7_writeChoice_83 : decode cX7_writeChoice 83 = .ok (.getfield 15, 3) := by decide +kernel
theorem dX7_writeChoice_86 : decode cX7_writeChoice 86 = .ok (.iload_n 2, 1) := by decide +kernel
theorem dX7_writeChoice_87 : decode cX7_writeChoice 87 = .ok (.aload_n 0, 1) := by decide +kernel
theorem dX7_writeChoice_88 : decode cX7_writeChoice 88 = .ok (.getfield 22, 3) := by decide +kernel
theorem dX7_writeChoice_91 : decode cX7_writeChoice 91 = .ok (.iconst 0, 1) := by decide +kernel
theorem dX7_writeChoice_92 : decode cX7_writeChoice 92 = .ok (.invokevirtual 149, 3) := by decide +kernel
theorem dX7_writeChoice_95 : decode cX7_writeChoice 95 = .ok (.l2i, 1) := by decide +kernel
theorem dX7_writeChoice_96 : decode cX7_writeChoice 96 = .ok (.isub, 1) := by decide +kernel
theorem dX7_writeChoice_97 : decode cX7_writeChoice 97 = .ok (.invokevirtual 145, 3) := by decide +kernel
theorem dX7_writeChoice_100 : decode cX7_writeChoice 100 = .ok (.invokevirtual 153, 3) := by decide +kernel
theorem dX7_writeChoice_103 : decode cX7_writeChoice 103 = .ok (.pop, 1) := by decide +kernel
theorem dX7_writeChoice_104 : decode cX7_writeChoice 104 = .ok (.goto 60, 3) := by decide +kernel
theorem dX7_writeChoice_107 : decode cX7_writeChoice 107 = .ok (.iload 4, 2) := by decide +kernel
theorem dX7_writeChoice_109 : decode cX7_writeChoice 109 = .ok (.iconst 1, 1) := by decide +kernel
theorem dX7_writeChoice_110 : decode cX7_writeChoice 110 = .ok (.if_icmp .ne 33, 3) := by decide +kernel
theorem dX7_writeChoice_113 : decode cX7_writeChoice 113 = .ok (.aload_n 0, 1) := by decide +kernel
theorem dX7_writeChoice_114 : decode cX7_writeChoice 114 = .ok (.getfield 22, 3) := by decide +kernel
theorem dX7_writeChoice_117 : decode cX7_writeChoice 117 = .ok (.sipush 1024, 3) := by decide +kernel
theorem dX7_writeChoice_120 : decode cX7_writeChoice 120 = .ok (.iload 5, 2) := by decide +kernel
theorem dX7_writeChoice_122 : decode cX7_writeChoice 122 = .ok (.iload_n 3, 1) := by decide +kernel
theorem dX7_writeChoice_123 : decode cX7_writeChoice 123 = .ok (.invokevirtual 157, 3) := by decide +kernel
theorem dX7_writeChoice_126 : decode cX7_writeChoice 126 = .ok (.pop, 1) := by decide +kernel
theorem dX7_writeChoice_127 : decode cX7_writeChoice 127 = .ok (.aload_n 0, 1) := by decide +kernel
theorem dX7_writeChoice_128 : decode cX7_writeChoice 128 = .ok (.getfield 22, 3) := by decide +kernel
theorem dX7_writeChoice_131 : decode cX7_writeChoice 131 = .ok (.iload 6, 2) := by decide +kernel
theorem dX7_writeChoice_133 : decode cX7_writeChoice 133 = .ok (.i2l, 1) := by decide +kernel
theorem dX7_writeChoice_134 : decode cX7_writeChoice 134 = .ok (.iload 5, 2) := by decide +kernel
theorem dX7_writeChoice_136 : decode cX7_writeChoice 136 = .ok (.invokevirtual 161, 3) := by decide +kernel
theorem dX7_writeChoice_139 : decode cX7_writeChoice 139 = .ok (.pop2, 1) := by decide +kernel
theorem dX7_writeChoice_140 : decode cX7_writeChoice 140 = .ok (.goto 24, 3) := by decide +kernel
theorem dX7_writeChoice_143 : decode cX7_writeChoice 143 = .ok (.iload 4, 2) := by decide +kernel
theorem dX7_writeChoice_145 : decode cX7_writeChoice 145 = .ok (.bipush 6, 2) := by decide +kernel
theorem dX7_writeChoice_147 : decode cX7_writeChoice 147 = .ok (.if_icmp .eq 17, 3) := by decide +kernel
theorem dX7_writeChoice_150 : decode cX7_writeChoice 150 = .ok (.aload_n 0, 1) := by decide +kernel
theorem dX7_writeChoice_151 : decode cX7_writeChoice 151 = .ok (.getfield 22, 3) := by decide +kernel
theorem dX7_writeChoice_154 : decode cX7_writeChoice 154 = .ok (.sipush 1538, 3) := by decide +kernel
theorem dX7_writeChoice_157 : decode cX7_writeChoice 157 = .ok (.iload 5, 2) := by decide +kernel
theorem dX7_writeChoice_159 : decode cX7_writeChoice 159 = .ok (.iload_n 3, 1) := by decide +kernel
theorem dX7_writeChoice_160 : decode cX7_writeChoice 160 = .ok (.invokevirtual 157, 3) := by decide +kernel
theorem dX7_writeChoice_163 : decode cX7_writeChoice 163 = .ok (.pop, 1) := by decide +kernel
theorem dX7_writeChoice_164 : decode cX7_writeChoice 164 = .ok (.aload_n 0, 1) := by decide +kernel
theorem dX7_writeChoice_165 : decode cX7_writeChoice 165 = .ok (.getfield 22, 3) := by decide +kernel
theorem dX7_writeChoice_168 : decode cX7_writeChoice 168 = .ok (.iload 4, 2) := by decide +kernel
theorem dX7_writeChoice_170 : decode cX7_writeChoice 170 = .ok (.iload 6, 2) := by decide +kernel
theorem dX7_writeChoice_172 : decode cX7_writeChoice 172 = .ok (.i2l, 1) := by decide +kernel
theorem dX7_writeChoice_173 : decode cX7_writeChoice 173 = .ok (.invokevirtual 165, 3) := by decide +kernel
theorem dX7_writeChoice_176 : decode cX7_writeChoice 176 = .ok (.aload_n 0, 1) := by decide +kernel
theorem dX7_writeChoice_177 : decode cX7_writeChoice 177 = .ok (.getfield 30, 3) := by decide +kernel
theorem dX7_writeChoice_180 : decode cX7_writeChoice 180 = .ok (.iload 4, 2) := by decide +kernel
theorem dX7_writeChoice_182 : decode cX7_writeChoice 182 = .ok (.iload_n 2, 1) := by decide +kernel
theorem dX7_writeChoice_183 : decode cX7_writeChoice 183 = .ok (.iload 5, 2) := by decide +kernel
theorem dX7_writeChoice_185 : decode cX7_writeChoice 185 = .ok (.iload 6, 2) := by decide +kernel
theorem dX7_writeChoice_187 : decode cX7_writeChoice 187 = .ok (.invokevirtual 169, 3) := by decide +kernel
theorem dX7_writeChoice_190 : decode cX7_writeChoice 190 = .ok (.return_, 1) := by decide +kernel
theorem dX7_writeMark_0 : decode cX7_writeMark 0 = .ok (.aload_n 0, 1) := by decide +kernel
theorem dX7_writeMark_1 : decode cX7_writeMark 1 = .ok (.getfield 22, 3) := by decide +kernel
theorem dX7_writeMark_4 : decode cX7_writeMark 4 = .ok (.bipush 7, 2) := by decide +kernel
theorem dX7_writeMark_6 : decode cX7_writeMark 6 = .ok (.iload_n 1, 1) := by decide +kernel
theorem dX7_writeMark_7 : decode cX7_writeMark 7 = .ok (.invokevirtual 142, 3) := by decide +kernel
theorem dX7_writeMark_10 : decode cX7_writeMark 10 = .ok (.pop, 1) := by decide +kernel
theorem dX7_writeMark_11 : decode cX7_writeMark 11 = .ok (.aload_n 0, 1) := by decide +kernel
theorem dX7_writeMark_12 : decode cX7_writeMark 12 = .ok (.getfield 22, 3) := by decide +kernel
theorem dX7_writeMark_15 : decode cX7_writeMark 15 = .ok (.sipush 1024, 3) := by decide +kernel
theorem dX7_writeMark_18 : decode cX7_writeMark 18 = .ok (.iconst 2, 1) := by decide +kernel
theorem dX7_writeMark_19 : decode cX7_writeMark 19 = .ok (.iload_n 1, 1) := by decide +kernel
theorem dX7_writeMark_20 : decode cX7_writeMark 20 = .ok (.invokevirtual 157, 3) := by decide +kernel
theorem dX7_writeMark_23 : decode cX7_writeMark 23 = .ok (.pop, 1) := by decide +kernel
theorem dX7_writeMark_24 : decode cX7_writeMark 24 = .ok (.aload_n 0, 1) := by decide +kernel
theorem dX7_writeMark_25 : decode cX7_writeMark 25 = .ok (.getfield 22, 3) := by decide +kernel
theorem dX7_writeMark_28 : decode cX7_writeMark 28 = .ok (.ldc2_w 173, 3) := by decide +kernel
theorem dX7_writeMark_31 : decode cX7_writeMark 31 = .ok (.iconst 2, 1) := by decide +kernel
theorem dX7_writeMark_32 : decode cX7_writeMark 32 = .ok (.invokevirtual 161, 3) := by decide +kernel
theorem dX7_writeMark_35 : decode cX7_writeMark 35 = .ok (.pop2, 1) := by decide +kernel
theorem dX7_writeMark_36 : decode cX7_writeMark 36 = .ok (.aload_n 0, 1) := by decide +kernel
theorem dX7_writeMark_37 : decode cX7_writeMark 37 = .ok (.getfield 22, 3) := by decide +kernel
theorem dX7_writeMark_40 : decode cX7_writeMark 40 = .ok (.bipush 7, 2) := by decide +kernel
theorem dX7_writeMark_42 : decode cX7_writeMark 42 = .ok (.ldc2_w 173, 3) := by decide +kernel
theorem dX7_writeMark_45 : decode cX7_writeMark 45 = .ok (.invokevirtual 165, 3) := by decide +kernel
theorem dX7_writeMark_48 : decode cX7_writeMark 48 = .ok (.aload_n 0, 1) := by decide +kernel
theorem dX7_writeMark_49 : decode cX7_writeMark 49 = .ok (.getfield 30, 3) := by decide +kernel
theorem dX7_writeMark_52 : decode cX7_writeMark 52 = .ok (.bipush 7, 2) := by decide +kernel
theorem dX7_writeMark_54 : decode cX7_writeMark 54 = .ok (.iload_n 1, 1) := by decide +kernel
theorem dX7_writeMark_55 : decode cX7_writeMark 55 = .ok (.iconst 0, 1) := by decide +kernel
theorem dX7_writeMark_56 : decode cX7_writeMark 56 = .ok (.iconst 0, 1) := by decide +kernel
theorem dX7_writeMark_57 : decode cX7_writeMark 57 = .ok (.invokevirtual 169, 3) := by decide +kernel
theorem dX7_writeMark_60 : decode cX7_writeMark 60 = .ok (.return_, 1) := by decide +kernel
theorem dX7_writeChunks_0 : decode cX7_writeChunks 0 = .ok (.aload_n 0, 1) := by decide +kernel
theorem dX7_writeChunks_1 : decode cX7_writeChunks 1 = .ok (.aload_n 0, 1) := by decide +kernel
theorem dX7_writeChunks_2 : decode cX7_writeChunks 2 = .ok (.getfield 19, 3) := by decide +kernel
theorem dX7_writeChunks_5 : decode cX7_writeChunks 5 = .ok (.getfield 47, 3) := by decide +kernel
theorem dX7_writeChunks_8 : decode cX7_writeChunks 8 = .ok (.putfield 175, 3) := by decide +kernel
theorem dX7_writeChunks_11 : decode cX7_writeChunks 11 = .ok (.aload_n 0, 1) := by decide +kernel
theorem dX7_writeChunks_12 : decode cX7_writeChunks 12 = .ok (.iconst 0, 1) := by decide +kernel
theorem dX7_writeChunks_13 : decode cX7_writeChunks 13 = .ok (.putfield 178, 3) := by decide +kernel
theorem dX7_writeChunks_16 : decode cX7_writeChunks 16 = .ok (.aload_n 0, 1) := by decide +kernel
theorem dX7_writeChunks_17 : decode cX7_writeChunks 17 = .ok (.getfield 22, 3) := by decide +kernel
theorem dX7_writeChunks_20 : decode cX7_writeChunks 20 = .ok (.invokevirtual 74, 3) := by decide +kernel
theorem dX7_writeChunks_23 : decode cX7_writeChunks 23 = .ok (.iconst (-1), 1) := by decide +kernel
theorem dX7_writeChunks_24 : decode cX7_writeChunks 24 = .ok (.istore_n 3, 1) := by decide +kernel
theorem dX7_writeChunks_25 : decode cX7_writeChunks 25 = .ok (.iconst 1, 1) := by decide +kernel
theorem dX7_writeChunks_26 : decode cX7_writeChunks 26 = .ok (.aload_n 0, 1) := by decide +kernel
theorem dX7_writeChunks_27 : decode cX7_writeChunks 27 = .ok (.getfield 9, 3) := by decide +kernel
theorem dX7_writeChunks_30 : decode cX7_writeChunks 30 = .ok (.getfield 181, 3) := by decide +kernel
theorem dX7_writeChunks_33 : decode cX7_writeChunks 33 = .ok (.invokestatic 124, 3) := by decide +kernel
theorem dX7_writeChunks_36 : decode cX7_writeChunks 36 = .ok (.istore 4, 2) := by decide +kernel
theorem dX7_writeChunks_38 : decode cX7_writeChunks 38 = .ok (.iload_n 1, 1) := by decide +kernel
theorem dX7_writeChunks_39 : decode cX7_writeChunks 39 = .ok (.istore 5, 2) := by decide +kernel
theorem dX7_writeChunks_41 : decode cX7_writeChunks 41 = .ok (.iload 5, 2) := by decide +kernel
theorem dX7_writeChunks_43 : decode cX7_writeChunks 43 = .ok (.iload_n 2, 1) := by decide +kernel
theorem dX7_writeChunks_44 : decode cX7_writeChunks 44 = .ok (.if_icmp .ge 156, 3) := by decide +kernel
theorem dX7_writeChunks_47 : decode cX7_writeChunks 47 = .ok (.aload_n 0, 1) := by decide +kernel
theorem dX7_writeChunks_48 : decode cX7_writeChunks 48 = .ok (.getfield 19, 3) := by decide +kernel
theorem dX7_writeChunks_51 : decode cX7_writeChunks 51 = .ok (.getfield 47, 3) := by decide +kernel
theorem dX7_writeChunks_54 : decode cX7_writeChunks 54 = .ok (.sipush 3000, 3) := by decide +kernel
theorem dX7_writeChunks_57 : decode cX7_writeChunks 57 = .ok (.if_icmp .gt 143, 3) := by decide +kernel
theorem dX7_writeChunks_60 : decode cX7_writeChunks 60 = .ok (.iload 5, 2) := by decide +kernel
theorem dX7_writeChunks_62 : decode cX7_writeChunks 62 = .ok (.iload 4, 2) := by decide +kernel
theorem dX7_writeChunks_64 : decode cX7_writeChunks 64 = .ok (.iadd, 1) := by decide +kernel
theorem dX7_writeChunks_65 : decode cX7_writeChunks 65 = .ok (.iload_n 2, 1) := by decide +kernel
theorem dX7_writeChunks_66 : decode cX7_writeChunks 66 = .ok (.invokestatic 184, 3) := by decide +kernel
theorem dX7_writeChunks_69 : decode cX7_writeChunks 69 = .ok (.istore 6, 2) := by decide +kernel
theorem dX7_writeChunks_71 : decode cX7_writeChunks 71 = .ok (.iload 5, 2) := by decide +kernel
theorem dX7_writeChunks_73 : decode cX7_writeChunks 73 = .ok (.iload_n 1, 1) := by decide +kernel
theorem dX7_writeChunks_74 : decode cX7_writeChunks 74 = .ok (.if_icmp .ne 7, 3) := by decide +kernel
theorem dX7_writeChunks_77 : decode cX7_writeChunks 77 = .ok (.iconst 3, 1) := by decide +kernel
theorem dX7_writeChunks_78 : decode cX7_writeChunks 78 = .ok (.goto 20, 3) := by decide +kernel
theorem dX7_writeChunks_81 : decode cX7_writeChunks 81 = .ok (.iload_n 3, 1) := by decide +kernel
theorem dX7_writeChunks_82 : decode cX7_writeChunks 82 = .ok (.ifCond .ge 7, 3) := by decide +kernel
theorem dX7_writeChunks_85 : decode cX7_writeChunks 85 = .ok (.iconst 2, 1) := by decide +kernel
theorem dX7_writeChunks_86 : decode cX7_writeChunks 86 = .ok (.goto 12, 3) := by decide +kernel
theorem dX7_writeChunks_89 : decode cX7_writeChunks 89 = .ok (.iload_n 3, 1) := by decide +kernel
theorem dX7_writeChunks_90 : decode cX7_writeChunks 90 = .ok (.ifCond .le 7, 3) := by decide +kernel
theorem dX7_writeChunks_93 : decode cX7_writeChunks 93 = .ok (.iconst 1, 1) := by decide +kernel
theorem dX7_writeChunks_94 : decode cX7_writeChunks 94 = .ok (.goto 4, 3) := by decide +kernel
theorem dX7_writeChunks_97 : decode cX7_writeChunks 97 = .ok (.iconst 0, 1) := by decide +kernel
theorem dX7_writeChunks_98 : decode cX7_writeChunks 98 = .ok (.istore 7, 2) := by decide +kernel
theorem dX7_writeChunks_100 : decode cX7_writeChunks 100 = .ok (.iconst 0, 1) := by decide +kernel
theorem dX7_writeChunks_101 : decode cX7_writeChunks 101 = .ok (.istore 8, 2) := by decide +kernel
theorem dX7_writeChunks_103 : decode cX7_writeChunks 103 = .ok (.iload 6, 2) := by decide +kernel
theorem dX7_writeChunks_105 : decode cX7_writeChunks 105 = .ok (.iload 5, 2) := by decide +kernel
theorem dX7_writeChunks_107 : decode cX7_writeChunks 107 = .ok (.isub, 1) := by decide +kernel
theorem dX7_writeChunks_108 : decode cX7_writeChunks 108 = .ok (.iconst 5, 1) := by decide +kernel
theorem dX7_writeChunks_109 : decode cX7_writeChunks 109 = .ok (.if_icmp .le 32, 3) := by decide +kernel
theorem dX7_writeChunks_112 : decode cX7_writeChunks 112 = .ok (.aload_n 0, 1) := by decide +kernel
theorem dX7_writeChunks_113 : decode cX7_writeChunks 113 = .ok (.iload 7, 2) := by decide +kernel
theorem dX7_writeChunks_115 : decode cX7_writeChunks 115 = .ok (.invokevirtual 187, 3) := by decide +kernel
theorem dX7_writeChunks_118 : decode cX7_writeChunks 118 = .ok (.aload_n 0, 1) := by decide +kernel
theorem dX7_writeChunks_119 : decode cX7_writeChunks 119 = .ok (.iload_n 1, 1) := by decide +kernel
theorem dX7_writeChunks_120 : decode cX7_writeChunks 120 = .ok (.iload 5, 2) := by decide +kernel
theorem dX7_writeChunks_122 : decode cX7_writeChunks 122 = .ok (.iload 6, 2) := by decide +kernel
theorem dX7_writeChunks_124 : decode cX7_writeChunks 124 = .ok (.iconst 0, 1) := by decide +kernel
theorem dX7_writeChunks_125 : decode cX7_writeChunks 125 = .ok (.invokevirtual 97, 3) := by decide +kernel
theorem dX7_writeChunks_128 : decode cX7_writeChunks 128 = .ok (.aload_n 0, 1) := by decide +kernel
theorem dX7_writeChunks_129 : decode cX7_writeChunks 129 = .ok (.iload 7, 2) := by decide +kernel
theorem dX7_writeChunks_131 : decode cX7_writeChunks 131 = .ok (.iload 6, 2) := by decide +kernel
theorem dX7_writeChunks_133 : decode cX7_writeChunks 133 = .ok (.iload 5, 2) := by decide +kernel
theorem dX7_writeChunks_135 : decode cX7_writeChunks 135 = .ok (.isub, 1) := by decide +kernel
theorem dX7_writeChunks_136 : decode cX7_writeChunks 136 = .ok (.invokevirtual 190, 3) := by decide +kernel
theorem dX7_writeChunks_139 : decode cX7_writeChunks 139 = .ok (.istore 8, 2) := by decide +kernel
theorem dX7_writeChunks_141 : decode cX7_writeChunks 141 = .ok (.iload 8, 2) := by decide +kernel
theorem dX7_writeChunks_143 : decode cX7_writeChunks 143 = .ok (.ifCond .eq 8, 3) := by decide +kernel
theorem dX7_writeChunks_146 : decode cX7_writeChunks 146 = .ok (.iconst 0, 1) := by decide +kernel
theorem dX7_writeChunks_147 : decode cX7_writeChunks 147 = .ok (.istore_n 3, 1) := by decide +kernel
theorem dX7_writeChunks_148 : decode cX7_writeChunks 148 = .ok (.goto 32, 3) := by decide +kernel
theorem dX7_writeChunks_151 : decode cX7_writeChunks 151 = .ok (.aload_n 0, 1) := by decide +kernel
theorem dX7_writeChunks_152 : decode cX7_writeChunks 152 = .ok (.iload 5, 2) := by decide +kernel
theorem dX7_writeChunks_154 : decode cX7_writeChunks 154 = .ok (.iload_n 1, 1) := by decide +kernel
theorem dX7_writeChunks_155 : decode cX7_writeChunks 155 = .ok (.if_icmp .ne 7, 3) := by decide +kernel
theorem dX7_writeChunks_158 : decode cX7_writeChunks 158 = .ok (.iconst 1, 1) := by decide +kernel
theorem dX7_writeChunks_159 : decode cX7_writeChunks 159 = .ok (.goto 4, 3) := by decide +kernel
theorem dX7_writeChunks_162 : decode cX7_writeChunks 162 = .ok (.iconst 2, 1) := by decide +kernel
theorem dX7_writeChunks_163 : decode cX7_writeChunks 163 = .ok (.iload 5, 2) := by decide +kernel
theorem dX7_writeChunks_165 : decode cX7_writeChunks 165 = .ok (.iload 6, 2) := by decide +kernel
theorem dX7_writeChunks_167 : decode cX7_writeChunks 167 = .ok (.invokevirtual 194, 3) := by decide +kernel
theorem dX7_writeChunks_170 : decode cX7_writeChunks 170 = .ok (.iload_n 3, 1) := by decide +kernel
theorem dX7_writeChunks_171 : decode cX7_writeChunks 171 = .ok (.ifCond .ge 7, 3) := by decide +kernel
theorem dX7_writeChunks_174 : decode cX7_writeChunks 174 = .ok (.iconst (-1), 1) := by decide +kernel
theorem dX7_writeChunks_175 : decode cX7_writeChunks 175 = .ok (.goto 4, 3) := by decide +kernel
theorem dX7_writeChunks_178 : decode cX7_writeChunks 178 = .ok (.iconst 1, 1) := by decide +kernel
theorem dX7_writeChunks_179 : decode cX7_writeChunks 179 = .ok (.istore_n 3, 1) := by decide +kernel
theorem dX7_writeChunks_180 : decode cX7_writeChunks 180 = .ok (.aload_n 0, 1) := by decide +kernel
theorem dX7_writeChunks_181 : decode cX7_writeChunks 181 = .ok (.dup, 1) := by decide +kernel
theorem dX7_writeChunks_182 : decode cX7_writeChunks 182 = .ok (.getfield 178, 3) := by decide +kernel
theorem dX7_writeChunks_185 : decode cX7_writeChunks 185 = .ok (.iconst 1, 1) := by decide +kernel
theorem dX7_writeChunks_186 : decode cX7_writeChunks 186 = .ok (.iadd, 1) := by decide +kernel
theorem dX7_writeChunks_187 : decode cX7_writeChunks 187 = .ok (.putfield 178, 3) := by decide +kernel
theorem dX7_writeChunks_190 : decode cX7_writeChunks 190 = .ok (.iload 5, 2) := by decide +kernel
theorem dX7_writeChunks_192 : decode cX7_writeChunks 192 = .ok (.iload 4, 2) := by decide +kernel
theorem dX7_writeChunks_194 : decode cX7_writeChunks 194 = .ok (.iadd, 1) := by decide +kernel
theorem dX7_writeChunks_195 : decode cX7_writeChunks 195 = .ok (.istore 5, 2) := by decide +kernel
theorem dX7_writeChunks_197 : decode cX7_writeChunks 197 = .ok (.goto (-156), 3) := by decide +kernel
theorem dX7_writeChunks_200 : decode cX7_writeChunks 200 = .ok (.aload_n 0, 1) := by decide +kernel
theorem dX7_writeChunks_201 : decode cX7_writeChunks 201 = .ok (.getfield 19, 3) := by decide +kernel
theorem dX7_writeChunks_204 : decode cX7_writeChunks 204 = .ok (.iconst 0, 1) := by decide +kernel
theorem dX7_writeChunks_205 : decode cX7_writeChunks 205 = .ok (.invokevirtual 84, 3) := by decide +kernel
theorem dX7_writeChunks_208 : decode cX7_writeChunks 208 = .ok (.return_, 1) := by decide +kernel
theorem dX7_startPart_0 : decode cX7_startPart 0 = .ok (.aload_n 0, 1) := by decide +kernel
theorem dX7_startPart_1 : decode cX7_startPart 1 = .ok (.aload_n 0, 1) := by decide +kernel
theorem dX7_startPart_2 : decode cX7_startPart 2 = .ok (.getfield 19, 3) := by decide +kernel
theorem dX7_startPart_5 : decode cX7_startPart 5 = .ok (.getfield 47, 3) := by decide +kernel
theorem dX7_startPart_8 : decode cX7_startPart 8 = .ok (.putfield 197, 3) := by decide +kernel
theorem dX7_startPart_11 : decode cX7_startPart 11 = .ok (.aload_n 0, 1) := by decide +kernel
theorem dX7_startPart_12 : decode cX7_startPart 12 = .ok (.aload_n 0, 1) := by decide +kernel
theorem dX7_startPart_13 : decode cX7_startPart 13 = .ok (.getfield 30, 3) := by decide +kernel
theorem dX7_startPart_16 : decode cX7_startPart 16 = .ok (.getfield 200, 3) := by decide +kernel
theorem dX7_startPart_19 : decode cX7_startPart 19 = .ok (.putfield 203, 3) := by decide +kernel
theorem dX7_startPart_22 : decode cX7_startPart 22 = .ok (.aload_n 0, 1) := by decide +kernel
theorem dX7_startPart_23 : decode cX7_startPart 23 = .ok (.aload_n 0, 1) := by decide +kernel
theorem dX7_startPart_24 : decode cX7_startPart 24 = .ok (.getfield 22, 3) := by decide +kernel
theorem dX7_startPart_27 : decode cX7_startPart 27 = .ok (.getfield 206, 3) := by decide +kernel
theorem dX7_startPart_30 : decode cX7_startPart 30 = .ok (.putfield 209, 3) := by decide +kernel
theorem dX7_startPart_33 : decode cX7_startPart 33 = .ok (.iload_n 1, 1) := by decide +kernel
theorem dX7_startPart_34 : decode cX7_startPart 34 = .ok (.ifCond .le 10, 3) := by decide +kernel
theorem dX7_startPart_37 : decode cX7_startPart 37 = .ok (.aload_n 0, 1) := by decide +kernel
theorem dX7_startPart_38 : decode cX7_startPart 38 = .ok (.getfield 22, 3) := by decide +kernel
theorem dX7_startPart_41 : decode cX7_startPart 41 = .ok (.invokevirtual 74, 3) := by decide +kernel
theorem dX7_startPart_44 : decode cX7_startPart 44 = .ok (.aload_n 0, 1) := by decide +kernel
theorem dX7_startPart_45 : decode cX7_startPart 45 = .ok (.getfield 19, 3) := by decide +kernel
theorem dX7_startPart_48 : decode cX7_startPart 48 = .ok (.lconst 0, 1) := by decide +kernel
theorem dX7_startPart_49 : decode cX7_startPart 49 = .ok (.iload_n 1, 1) := by decide +kernel
theorem dX7_startPart_50 : decode cX7_startPart 50 = .ok (.iconst 1, 1) := by decide +kernel
theorem dX7_startPart_51 : decode cX7_startPart 51 = .ok (.if_icmp .le 8, 3) := by decide +kernel
theorem dX7_startPart_54 : decode cX7_startPart 54 = .ok (.bipush 6, 2) := by decide +kernel
theorem dX7_startPart_56 : decode cX7_startPart 56 = .ok (.goto 4, 3) := by decide +kernel
theorem dX7_startPart_59 : decode cX7_startPart 59 = .ok (.iconst 5, 1) := by decide +kernel
theorem dX7_startPart_60 : decode cX7_startPart 60 = .ok (.invokevirtual 212, 3) := by decide +kernel
theorem dX7_startPart_63 : decode cX7_startPart 63 = .ok (.aload_n 0, 1) := by decide +kernel
theorem dX7_startPart_64 : decode cX7_startPart 64 = .ok (.aload_n 0, 1) := by decide +kernel
theorem dX7_startPart_65 : decode cX7_startPart 65 = .ok (.getfield 19, 3) := by decide +kernel
theorem dX7_startPart_68 : decode cX7_startPart 68 = .ok (.getfield 47, 3) := by decide +kernel
theorem dX7_startPart_71 : decode cX7_startPart 71 = .ok (.putfield 215, 3) := by decide +kernel
theorem dX7_startPart_74 : decode cX7_startPart 74 = .ok (.return_, 1) := by decide +kernel
theorem dX7_endPart_0 : decode cX7_endPart 0 = .ok (.aload_n 0, 1) := by decide +kernel
theorem dX7_endPart_1 : decode cX7_endPart 1 = .ok (.getfield 19, 3) := by decide +kernel
theorem dX7_endPart_4 : decode cX7_endPart 4 = .ok (.getfield 47, 3) := by decide +kernel
theorem dX7_endPart_7 : decode cX7_endPart 7 = .ok (.aload_n 0, 1) := by decide +kernel
theorem dX7_endPart_8 : decode cX7_endPart 8 = .ok (.getfield 215, 3) := by decide +kernel
theorem dX7_endPart_11 : decode cX7_endPart 11 = .ok (.isub, 1) := by decide +kernel
theorem dX7_endPart_12 : decode cX7_endPart 12 = .ok (.istore_n 3, 1) := by decide +kernel
theorem dX7_endPart_13 : decode cX7_endPart 13 = .ok (.iload_n 3, 1) := by decide +kernel
theorem dX7_endPart_14 : decode cX7_endPart 14 = .ok (.iload_n 2, 1) := by decide +kernel
theorem dX7_endPart_15 : decode cX7_endPart 15 = .ok (.if_icmp .lt 38, 3) := by decide +kernel
theorem dX7_endPart_18 : decode cX7_endPart 18 = .ok (.aload_n 0, 1) := by decide +kernel
theorem dX7_endPart_19 : decode cX7_endPart 19 = .ok (.getfield 19, 3) := by decide +kernel
theorem dX7_endPart_22 : decode cX7_endPart 22 = .ok (.aload_n 0, 1) := by decide +kernel
theorem dX7_endPart_23 : decode cX7_endPart 23 = .ok (.getfield 197, 3) := by decide +kernel
theorem dX7_endPart_26 : decode cX7_endPart 26 = .ok (.putfield 47, 3) := by decide +kernel
theorem dX7_endPart_29 : decode cX7_endPart 29 = .ok (.aload_n 0, 1) := by decide +kernel
theorem dX7_endPart_30 : decode cX7_endPart 30 = .ok (.getfield 30, 3) := by decide +kernel
theorem dX7_endPart_33 : decode cX7_endPart 33 = .ok (.aload_n 0, 1) := by decide +kernel
theorem dX7_endPart_34 : decode cX7_endPart 34 = .ok (.getfield 203, 3) := by decide +kernel
theorem dX7_endPart_37 : decode cX7_endPart 37 = .ok (.putfield 200, 3) := by decide +kernel
theorem dX7_endPart_40 : decode cX7_endPart 40 = .ok (.aload_n 0, 1) := by decide +kernel
theorem dX7_endPart_41 : decode cX7_endPart 41 = .ok (.getfield 22, 3) := by decide +kernel
theorem dX7_endPart_44 : decode cX7_endPart 44 = .ok (.aload_n 0, 1) := by decide +kernel
theorem dX7_endPart_45 : decode cX7_endPart 45 = .ok (.getfield 209, 3) := by decide +kernel
theorem dX7_endPart_48 : decode cX7_endPart 48 = .ok (.putfield 206, 3) := by decide +kernel
theorem dX7_endPart_51 : decode cX7_endPart 51 = .ok (.iconst 0, 1) := by decide +kernel
theorem dX7_endPart_52 : decode cX7_endPart 52 = .ok (.ireturn, 1) := by decide +kernel
theorem dX7_endPart_53 : decode cX7_endPart 53 = .ok (.aload_n 0, 1) := by decide +kernel
theorem dX7_endPart_54 : decode cX7_endPart 54 = .ok (.getfield 19, 3) := by decide +kernel
theorem dX7_endPart_57 : decode cX7_endPart 57 = .ok (.aload_n 0, 1) := by decide +kernel
theorem dX7_endPart_58 : decode cX7_endPart 58 = .ok (.getfield 197, 3) := by decide +kernel
theorem dX7_endPart_61 : decode cX7_endPart 61 = .ok (.sipush 128, 3) := by decide +kernel
theorem dX7_endPart_64 : decode cX7_endPart 64 = .ok (.iload_n 1, 1) := by decide +kernel
theorem dX7_endPart_65 : decode cX7_endPart 65 = .ok (.iconst 5, 1) := by decide +kernel
theorem dX7_endPart_66 : decode cX7_endPart 66 = .ok (.ishl, 1) := by decide +kernel
theorem dX7_endPart_67 : decode cX7_endPart 67 = .ok (.ior, 1) := by decide +kernel
