theorem dX7_endPart_68 : decode cX7_endPart 68 = .ok (.iload_n 2, 1) := by decide +kernel
theorem dX7_endPart_69 : decode cX7_endPart 69 = .ok (.iconst 1, 1) := by decide +kernel
theorem dX7_endPart_70 : decode cX7_endPart 70 = .ok (.isub, 1) := by decide +kernel
theorem dX7_endPart_71 : decode cX7_endPart 71 = .ok (.bipush 16, 2) := by decide +kernel
theorem dX7_endPart_73 : decode cX7_endPart 73 = .ok (.ishr, 1) := by decide +kernel
theorem dX7_endPart_74 : decode cX7_endPart 74 = .ok (.ior, 1) := by decide +kernel
theorem dX7_endPart_75 : decode cX7_endPart 75 = .ok (.invokevirtual 218, 3) := by decide +kernel
theorem dX7_endPart_78 : decode cX7_endPart 78 = .ok (.aload_n 0, 1) := by decide +kernel
theorem dX7_endPart_79 : decode cX7_endPart 79 = .ok (.getfield 19, 3) := by decide +kernel
theorem dX7_endPart_82 : decode cX7_endPart 82 = .ok (.aload_n 0, 1) := by decide +kernel
theorem dX7_endPart_83 : decode cX7_endPart 83 = .ok (.getfield 197, 3) := by decide +kernel
theorem dX7_endPart_86 : decode cX7_endPart 86 = .ok (.iconst 1, 1) := by decide +kernel
theorem dX7_endPart_87 : decode cX7_endPart 87 = .ok (.iadd, 1) := by decide +kernel
theorem dX7_endPart_88 : decode cX7_endPart 88 = .ok (.iload_n 2, 1) := by decide +kernel
theorem dX7_endPart_89 : decode cX7_endPart 89 = .ok (.iconst 1, 1) := by decide +kernel
theorem dX7_endPart_90 : decode cX7_endPart 90 = .ok (.isub, 1) := by decide +kernel
theorem dX7_endPart_91 : decode cX7_endPart 91 = .ok (.bipush 8, 2) := by decide +kernel
theorem dX7_endPart_93 : decode cX7_endPart 93 = .ok (.ishr, 1) := by decide +kernel
theorem dX7_endPart_94 : decode cX7_endPart 94 = .ok (.invokevirtual 218, 3) := by decide +kernel
theorem dX7_endPart_97 : decode cX7_endPart 97 = .ok (.aload_n 0, 1) := by decide +kernel
theorem dX7_endPart_98 : decode cX7_endPart 98 = .ok (.getfield 19, 3) := by decide +kernel
theorem dX7_endPart_101 : decode cX7_endPart 101 = .ok (.aload_n 0, 1) := by decide +kernel
theorem dX7_endPart_102 : decode cX7_endPart 102 = .ok (.getfield 197, 3) := by decide +kernel
theorem dX7_endPart_105 : decode cX7_endPart 105 = .ok (.iconst 2, 1) := by decide +kernel
theorem dX7_endPart_106 : decode cX7_endPart 106 = .ok (.iadd, 1) := by decide +kernel
theorem dX7_endPart_107 : decode cX7_endPart 107 = .ok (.iload_n 2, 1) := by decide +kernel
theorem dX7_endPart_108 : decode cX7_endPart 108 = .ok (.iconst 1, 1) := by decide +kernel
theorem dX7_endPart_109 : decode cX7_endPart 109 = .ok (.isub, 1) := by decide +kernel
theorem dX7_endPart_110 : decode cX7_endPart 110 = .ok (.invokevirtual 218, 3) := by decide +kernel
theorem dX7_endPart_113 : decode cX7_endPart 113 = .ok (.aload_n 0, 1) := by decide +kernel
theorem dX7_endPart_114 : decode cX7_endPart 114 = .ok (.getfield 19, 3) := by decide +kernel
theorem dX7_endPart_117 : decode cX7_endPart 117 = .ok (.aload_n 0, 1) := by decide +kernel
theorem dX7_endPart_118 : decode cX7_endPart 118 = .ok (.getfield 197, 3) := by decide +kernel
theorem dX7_endPart_121 : decode cX7_endPart 121 = .ok (.iconst 3, 1) := by decide +kernel
theorem dX7_endPart_122 : decode cX7_endPart 122 = .ok (.iadd, 1) := by decide +kernel
theorem dX7_endPart_123 : decode cX7_endPart 123 = .ok (.iload_n 3, 1) := by decide +kernel
theorem dX7_endPart_124 : decode cX7_endPart 124 = .ok (.iconst 1, 1) := by decide +kernel
theorem dX7_endPart_125 : decode cX7_endPart 125 = .ok (.isub, 1) := by decide +kernel
theorem dX7_endPart_126 : decode cX7_endPart 126 = .ok (.bipush 8, 2) := by decide +kernel
theorem dX7_endPart_128 : decode cX7_endPart 128 = .ok (.ishr, 1) := by decide +kernel
theorem dX7_endPart_129 : decode cX7_endPart 129 = .ok (.invokevirtual 218, 3) := by decide +kernel
theorem dX7_endPart_132 : decode cX7_endPart 132 = .ok (.aload_n 0, 1) := by decide +kernel
theorem dX7_endPart_133 : decode cX7_endPart 133 = .ok (.getfield 19, 3) := by decide +kernel
theorem dX7_endPart_136 : decode cX7_endPart 136 = .ok (.aload_n 0, 1) := by decide +kernel
theorem dX7_endPart_137 : decode cX7_endPart 137 = .ok (.getfield 197, 3) := by decide +kernel
theorem dX7_endPart_140 : decode cX7_endPart 140 = .ok (.iconst 4, 1) := by decide +kernel
theorem dX7_endPart_141 : decode cX7_endPart 141 = .ok (.iadd, 1) := by decide +kernel
theorem dX7_endPart_142 : decode cX7_endPart 142 = .ok (.iload_n 3, 1) := by decide +kernel
theorem dX7_endPart_143 : decode cX7_endPart 143 = .ok (.iconst 1, 1) := by decide +kernel
theorem dX7_endPart_144 : decode cX7_endPart 144 = .ok (.isub, 1) := by decide +kernel
theorem dX7_endPart_145 : decode cX7_endPart 145 = .ok (.invokevirtual 218, 3) := by decide +kernel
theorem dX7_endPart_148 : decode cX7_endPart 148 = .ok (.iload_n 1, 1) := by decide +kernel
theorem dX7_endPart_149 : decode cX7_endPart 149 = .ok (.iconst 1, 1) := by decide +kernel
theorem dX7_endPart_150 : decode cX7_endPart 150 = .ok (.if_icmp .le 23, 3) := by decide +kernel
theorem dX7_endPart_153 : decode cX7_endPart 153 = .ok (.aload_n 0, 1) := by decide +kernel
theorem dX7_endPart_154 : decode cX7_endPart 154 = .ok (.getfield 19, 3) := by decide +kernel
theorem dX7_endPart_157 : decode cX7_endPart 157 = .ok (.aload_n 0, 1) := by decide +kernel
theorem dX7_endPart_158 : decode cX7_endPart 158 = .ok (.getfield 197, 3) := by decide +kernel
theorem dX7_endPart_161 : decode cX7_endPart 161 = .ok (.iconst 5, 1) := by decide +kernel
theorem dX7_endPart_162 : decode cX7_endPart 162 = .ok (.iadd, 1) := by decide +kernel
theorem dX7_endPart_163 : decode cX7_endPart 163 = .ok (.aload_n 0, 1) := by decide +kernel
theorem dX7_endPart_164 : decode cX7_endPart 164 = .ok (.getfield 9, 3) := by decide +kernel
theorem dX7_endPart_167 : decode cX7_endPart 167 = .ok (.invokevirtual 80, 3) := by decide +kernel
theorem dX7_endPart_170 : decode cX7_endPart 170 = .ok (.invokevirtual 218, 3) := by decide +kernel
theorem dX7_endPart_173 : decode cX7_endPart 173 = .ok (.iconst 1, 1) := by decide +kernel
theorem dX7_endPart_174 : decode cX7_endPart 174 = .ok (.ireturn, 1) := by decide +kernel
theorem dX7_writePlain_0 : decode cX7_writePlain 0 = .ok (.aload_n 0, 1) := by decide +kernel
theorem dX7_writePlain_1 : decode cX7_writePlain 1 = .ok (.getfield 19, 3) := by decide +kernel
theorem dX7_writePlain_4 : decode cX7_writePlain 4 = .ok (.iload_n 1, 1) := by decide +kernel
theorem dX7_writePlain_5 : decode cX7_writePlain 5 = .ok (.invokevirtual 84, 3) := by decide +kernel
theorem dX7_writePlain_8 : decode cX7_writePlain 8 = .ok (.aload_n 0, 1) := by decide +kernel
theorem dX7_writePlain_9 : decode cX7_writePlain 9 = .ok (.getfield 19, 3) := by decide +kernel
theorem dX7_writePlain_12 : decode cX7_writePlain 12 = .ok (.iload_n 3, 1) := by decide +kernel
theorem dX7_writePlain_13 : decode cX7_writePlain 13 = .ok (.iload_n 2, 1) := by decide +kernel
theorem dX7_writePlain_14 : decode cX7_writePlain 14 = .ok (.isub, 1) := by decide +kernel
theorem dX7_writePlain_15 : decode cX7_writePlain 15 = .ok (.iconst 1, 1) := by decide +kernel
theorem dX7_writePlain_16 : decode cX7_writePlain 16 = .ok (.isub, 1) := by decide +kernel
theorem dX7_writePlain_17 : decode cX7_writePlain 17 = .ok (.i2l, 1) := by decide +kernel
theorem dX7_writePlain_18 : decode cX7_writePlain 18 = .ok (.iconst 2, 1) := by decide +kernel
theorem dX7_writePlain_19 : decode cX7_writePlain 19 = .ok (.invokevirtual 212, 3) := by decide +kernel
theorem dX7_writePlain_22 : decode cX7_writePlain 22 = .ok (.iload_n 2, 1) := by decide +kernel
theorem dX7_writePlain_23 : decode cX7_writePlain 23 = .ok (.istore 4, 2) := by decide +kernel
theorem dX7_writePlain_25 : decode cX7_writePlain 25 = .ok (.iload 4, 2) := by decide +kernel
theorem dX7_writePlain_27 : decode cX7_writePlain 27 = .ok (.iload_n 3, 1) := by decide +kernel
theorem dX7_writePlain_28 : decode cX7_writePlain 28 = .ok (.if_icmp .ge 25, 3) := by decide +kernel
theorem dX7_writePlain_31 : decode cX7_writePlain 31 = .ok (.aload_n 0, 1) := by decide +kernel
theorem dX7_writePlain_32 : decode cX7_writePlain 32 = .ok (.getfield 19, 3) := by decide +kernel
theorem dX7_writePlain_35 : decode cX7_writePlain 35 = .ok (.aload_n 0, 1) := by decide +kernel
theorem dX7_writePlain_36 : decode cX7_writePlain 36 = .ok (.getfield 15, 3) := by decide +kernel
theorem dX7_writePlain_39 : decode cX7_writePlain 39 = .ok (.iload 4, 2) := by decide +kernel
theorem dX7_writePlain_41 : decode cX7_writePlain 41 = .ok (.invokevirtual 145, 3) := by decide +kernel
theorem dX7_writePlain_44 : decode cX7_writePlain 44 = .ok (.invokevirtual 84, 3) := by decide +kernel
theorem dX7_writePlain_47 : decode cX7_writePlain 47 = .ok (.iinc 4 1, 3) := by decide +kernel
theorem dX7_writePlain_50 : decode cX7_writePlain 50 = .ok (.goto (-25), 3) := by decide +kernel
theorem dX7_writePlain_53 : decode cX7_writePlain 53 = .ok (.return_, 1) := by decide +kernel
theorem dX7_noteChunks_0 : decode cX7_noteChunks 0 = .ok (.aload_n 0, 1) := by decide +kernel
theorem dX7_noteChunks_1 : decode cX7_noteChunks 1 = .ok (.getfield 30, 3) := by decide +kernel
theorem dX7_noteChunks_4 : decode cX7_noteChunks 4 = .ok (.iconst 0, 1) := by decide +kernel
theorem dX7_noteChunks_5 : decode cX7_noteChunks 5 = .ok (.iconst 0, 1) := by decide +kernel
theorem dX7_noteChunks_6 : decode cX7_noteChunks 6 = .ok (.aload_n 0, 1) := by decide +kernel
theorem dX7_noteChunks_7 : decode cX7_noteChunks 7 = .ok (.getfield 19, 3) := by decide +kernel
theorem dX7_noteChunks_10 : decode cX7_noteChunks 10 = .ok (.getfield 47, 3) := by decide +kernel
theorem dX7_noteChunks_13 : decode cX7_noteChunks 13 = .ok (.aload_n 0, 1) := by decide +kernel
theorem dX7_noteChunks_14 : decode cX7_noteChunks 14 = .ok (.getfield 15, 3) := by decide +kernel
theorem dX7_noteChunks_17 : decode cX7_noteChunks 17 = .ok (.getfield 47, 3) := by decide +kernel
theorem dX7_noteChunks_20 : decode cX7_noteChunks 20 = .ok (.aload_n 0, 1) := by decide +kernel
theorem dX7_noteChunks_21 : decode cX7_noteChunks 21 = .ok (.getfield 178, 3) := by decide +kernel
theorem dX7_noteChunks_24 : decode cX7_noteChunks 24 = .ok (.invokevirtual 221, 3) := by decide +kernel
theorem dX7_noteChunks_27 : decode cX7_noteChunks 27 = .ok (.return_, 1) := by decide +kernel
theorem dX7_writeStart_0 : decode cX7_writeStart 0 = .ok (.aload_n 0, 1) := by decide +kernel
theorem dX7_writeStart_1 : decode cX7_writeStart 1 = .ok (.getfield 19, 3) := by decide +kernel
theorem dX7_writeStart_4 : decode cX7_writeStart 4 = .ok (.sipush 253, 3) := by decide +kernel
theorem dX7_writeStart_7 : decode cX7_writeStart 7 = .ok (.invokevirtual 84, 3) := by decide +kernel
theorem dX7_writeStart_10 : decode cX7_writeStart 10 = .ok (.aload_n 0, 1) := by decide +kernel
theorem dX7_writeStart_11 : decode cX7_writeStart 11 = .ok (.getfield 19, 3) := by decide +kernel
theorem dX7_writeStart_14 : decode cX7_writeStart 14 = .ok (.bipush 55, 2) := by decide +kernel
theorem dX7_writeStart_16 : decode cX7_writeStart 16 = .ok (.invokevirtual 84, 3) := by decide +kernel
theorem dX7_writeStart_19 : decode cX7_writeStart 19 = .ok (.aload_n 0, 1) := by decide +kernel
theorem dX7_writeStart_20 : decode cX7_writeStart 20 = .ok (.getfield 19, 3) := by decide +kernel
theorem dX7_writeStart_23 : decode cX7_writeStart 23 = .ok (.bipush 122, 2) := by decide +kernel
theorem dX7_writeStart_25 : decode cX7_writeStart 25 = .ok (.invokevirtual 84, 3) := by decide +kernel
theorem dX7_writeStart_28 : decode cX7_writeStart 28 = .ok (.aload_n 0, 1) := by decide +kernel
theorem dX7_writeStart_29 : decode cX7_writeStart 29 = .ok (.getfield 19, 3) := by decide +kernel
theorem dX7_writeStart_32 : decode cX7_writeStart 32 = .ok (.bipush 88, 2) := by decide +kernel
theorem dX7_writeStart_34 : decode cX7_writeStart 34 = .ok (.invokevirtual 84, 3) := by decide +kernel
theorem dX7_writeStart_37 : decode cX7_writeStart 37 = .ok (.aload_n 0, 1) := by decide +kernel
theorem dX7_writeStart_38 : decode cX7_writeStart 38 = .ok (.getfield 19, 3) := by decide +kernel
theorem dX7_writeStart_41 : decode cX7_writeStart 41 = .ok (.bipush 90, 2) := by decide +kernel
theorem dX7_writeStart_43 : decode cX7_writeStart 43 = .ok (.invokevirtual 84, 3) := by decide +kernel
theorem dX7_writeStart_46 : decode cX7_writeStart 46 = .ok (.aload_n 0, 1) := by decide +kernel
theorem dX7_writeStart_47 : decode cX7_writeStart 47 = .ok (.getfield 19, 3) := by decide +kernel
theorem dX7_writeStart_50 : decode cX7_writeStart 50 = .ok (.iconst 0, 1) := by decide +kernel
theorem dX7_writeStart_51 : decode cX7_writeStart 51 = .ok (.invokevirtual 84, 3) := by decide +kernel
theorem dX7_writeStart_54 : decode cX7_writeStart 54 = .ok (.aload_n 0, 1) := by decide +kernel
theorem dX7_writeStart_55 : decode cX7_writeStart 55 = .ok (.invokevirtual 224, 3) := by decide +kernel
theorem dX7_writeStart_58 : decode cX7_writeStart 58 = .ok (.aload_n 0, 1) := by decide +kernel
theorem dX7_writeStart_59 : decode cX7_writeStart 59 = .ok (.getfield 19, 3) := by decide +kernel
theorem dX7_writeStart_62 : decode cX7_writeStart 62 = .ok (.aload_n 0, 1) := by decide +kernel
theorem dX7_writeStart_63 : decode cX7_writeStart 63 = .ok (.getfield 19, 3) := by decide +kernel
theorem dX7_writeStart_66 : decode cX7_writeStart 66 = .ok (.bipush 6, 2) := by decide +kernel
theorem dX7_writeStart_68 : decode cX7_writeStart 68 = .ok (.bipush 8, 2) := by decide +kernel
theorem dX7_writeStart_70 : decode cX7_writeStart 70 = .ok (.invokestatic 227, 3) := by decide +kernel
theorem dX7_writeStart_73 : decode cX7_writeStart 73 = .ok (.i2l, 1) := by decide +kernel
theorem dX7_writeStart_74 : decode cX7_writeStart 74 = .ok (.iconst 4, 1) := by decide +kernel
theorem dX7_writeStart_75 : decode cX7_writeStart 75 = .ok (.invokevirtual 91, 3) := by decide +kernel
theorem dX7_writeStart_78 : decode cX7_writeStart 78 = .ok (.return_, 1) := by decide +kernel
theorem dX7_writeFlags_0 : decode cX7_writeFlags 0 = .ok (.aload_n 0, 1) := by decide +kernel
theorem dX7_writeFlags_1 : decode cX7_writeFlags 1 = .ok (.getfield 19, 3) := by decide +kernel
theorem dX7_writeFlags_4 : decode cX7_writeFlags 4 = .ok (.iconst 0, 1) := by decide +kernel
theorem dX7_writeFlags_5 : decode cX7_writeFlags 5 = .ok (.invokevirtual 84, 3) := by decide +kernel
theorem dX7_writeFlags_8 : decode cX7_writeFlags 8 = .ok (.aload_n 0, 1) := by decide +kernel
theorem dX7_writeFlags_9 : decode cX7_writeFlags 9 = .ok (.getfield 19, 3) := by decide +kernel
theorem dX7_writeFlags_12 : decode cX7_writeFlags 12 = .ok (.aload_n 0, 1) := by decide +kernel
theorem dX7_writeFlags_13 : decode cX7_writeFlags 13 = .ok (.getfield 9, 3) := by decide +kernel
theorem dX7_writeFlags_16 : decode cX7_writeFlags 16 = .ok (.getfield 233, 3) := by decide +kernel
theorem dX7_writeFlags_19 : decode cX7_writeFlags 19 = .ok (.invokevirtual 84, 3) := by decide +kernel
theorem dX7_writeFlags_22 : decode cX7_writeFlags 22 = .ok (.return_, 1) := by decide +kernel
theorem dX7_writeHead_0 : decode cX7_writeHead 0 = .ok (.aload_n 0, 1) := by decide +kernel
theorem dX7_writeHead_1 : decode cX7_writeHead 1 = .ok (.getfield 26, 3) := by decide +kernel
theorem dX7_writeHead_4 : decode cX7_writeHead 4 = .ok (.aload_n 0, 1) := by decide +kernel
theorem dX7_writeHead_5 : decode cX7_writeHead 5 = .ok (.getfield 9, 3) := by decide +kernel
theorem dX7_writeHead_8 : decode cX7_writeHead 8 = .ok (.getfield 233, 3) := by decide +kernel
theorem dX7_writeHead_11 : decode cX7_writeHead 11 = .ok (.aload_n 0, 1) := by decide +kernel
theorem dX7_writeHead_12 : decode cX7_writeHead 12 = .ok (.getfield 15, 3) := by decide +kernel
theorem dX7_writeHead_15 : decode cX7_writeHead 15 = .ok (.iload_n 1, 1) := by decide +kernel
theorem dX7_writeHead_16 : decode cX7_writeHead 16 = .ok (.iload_n 2, 1) := by decide +kernel
theorem dX7_writeHead_17 : decode cX7_writeHead 17 = .ok (.invokevirtual 236, 3) := by decide +kernel
theorem dX7_writeHead_20 : decode cX7_writeHead 20 = .ok (.aload_n 0, 1) := by decide +kernel
theorem dX7_writeHead_21 : decode cX7_writeHead 21 = .ok (.aload_n 0, 1) := by decide +kernel
theorem dX7_writeHead_22 : decode cX7_writeHead 22 = .ok (.getfield 19, 3) := by decide +kernel
theorem dX7_writeHead_25 : decode cX7_writeHead 25 = .ok (.getfield 47, 3) := by decide +kernel
theorem dX7_writeHead_28 : decode cX7_writeHead 28 = .ok (.putfield 240, 3) := by decide +kernel
theorem dX7_writeHead_31 : decode cX7_writeHead 31 = .ok (.aload_n 0, 1) := by decide +kernel
theorem dX7_writeHead_32 : decode cX7_writeHead 32 = .ok (.getfield 9, 3) := by decide +kernel
theorem dX7_writeHead_35 : decode cX7_writeHead 35 = .ok (.getfield 243, 3) := by decide +kernel
theorem dX7_writeHead_38 : decode cX7_writeHead 38 = .ok (.ifCond .le 7, 3) := by decide +kernel
theorem dX7_writeHead_41 : decode cX7_writeHead 41 = .ok (.iconst 1, 1) := by decide +kernel
theorem dX7_writeHead_42 : decode cX7_writeHead 42 = .ok (.goto 4, 3) := by decide +kernel
theorem dX7_writeHead_45 : decode cX7_writeHead 45 = .ok (.iconst 0, 1) := by decide +kernel
theorem dX7_writeHead_46 : decode cX7_writeHead 46 = .ok (.aload_n 0, 1) := by decide +kernel
theorem dX7_writeHead_47 : decode cX7_writeHead 47 = .ok (.getfield 9, 3) := by decide +kernel
theorem dX7_writeHead_50 : decode cX7_writeHead 50 = .ok (.getfield 246, 3) := by decide +kernel
theorem dX7_writeHead_53 : decode cX7_writeHead 53 = .ok (.iadd, 1) := by decide +kernel
theorem dX7_writeHead_54 : decode cX7_writeHead 54 = .ok (.iconst 1, 1) := by decide +kernel
theorem dX7_writeHead_55 : decode cX7_writeHead 55 = .ok (.iadd, 1) := by decide +kernel
theorem dX7_writeHead_56 : decode cX7_writeHead 56 = .ok (.istore_n 3, 1) := by decide +kernel
theorem dX7_writeHead_57 : decode cX7_writeHead 57 = .ok (.iconst 5, 1) := by decide +kernel
theorem dX7_writeHead_58 : decode cX7_writeHead 58 = .ok (.aload_n 0, 1) := by decide +kernel
theorem dX7_writeHead_59 : decode cX7_writeHead 59 = .ok (.getfield 9, 3) := by decide +kernel
theorem dX7_writeHead_62 : decode cX7_writeHead 62 = .ok (.getfield 243, 3) := by decide +kernel
theorem dX7_writeHead_65 : decode cX7_writeHead 65 = .ok (.ifCond .le 7, 3) := by decide +kernel
theorem dX7_writeHead_68 : decode cX7_writeHead 68 = .ok (.iconst 3, 1) := by decide +kernel
theorem dX7_writeHead_69 : decode cX7_writeHead 69 = .ok (.goto 4, 3) := by decide +kernel
theorem dX7_writeHead_72 : decode cX7_writeHead 72 = .ok (.iconst 0, 1) := by decide +kernel
theorem dX7_writeHead_73 : decode cX7_writeHead 73 = .ok (.iadd, 1) := by decide +kernel
theorem dX7_writeHead_74 : decode cX7_writeHead 74 = .ok (.iconst 2, 1) := by decide +kernel
theorem dX7_writeHead_75 : decode cX7_writeHead 75 = .ok (.aload_n 0, 1) := by decide +kernel
theorem dX7_writeHead_76 : decode cX7_writeHead 76 = .ok (.getfield 9, 3) := by decide +kernel
theorem dX7_writeHead_79 : decode cX7_writeHead 79 = .ok (.getfield 246, 3) := by decide +kernel
theorem dX7_writeHead_82 : decode cX7_writeHead 82 = .ok (.imul, 1) := by decide +kernel
theorem dX7_writeHead_83 : decode cX7_writeHead 83 = .ok (.iadd, 1) := by decide +kernel
theorem dX7_writeHead_84 : decode cX7_writeHead 84 = .ok (.istore 4, 2) := by decide +kernel
theorem dX7_writeHead_86 : decode cX7_writeHead 86 = .ok (.aload_n 0, 1) := by decide +kernel
theorem dX7_writeHead_87 : decode cX7_writeHead 87 = .ok (.iload 4, 2) := by decide +kernel
theorem dX7_writeHead_89 : decode cX7_writeHead 89 = .ok (.iconst 3, 1) := by decide +kernel
theorem dX7_writeHead_90 : decode cX7_writeHead 90 = .ok (.iadd, 1) := by decide +kernel
theorem dX7_writeHead_91 : decode cX7_writeHead 91 = .ok (.bipush (-4), 2) := by decide +kernel
theorem dX7_writeHead_93 : decode cX7_writeHead 93 = .ok (.iand, 1) := by decide +kernel
theorem dX7_writeHead_94 : decode cX7_writeHead 94 = .ok (.iconst 4, 1) := by decide +kernel
theorem dX7_writeHead_95 : decode cX7_writeHead 95 = .ok (.iadd, 1) := by decide +kernel
theorem dX7_writeHead_96 : decode cX7_writeHead 96 = .ok (.putfield 249, 3) := by decide +kernel
theorem dX7_writeHead_99 : decode cX7_writeHead 99 = .ok (.aload_n 0, 1) := by decide +kernel
theorem dX7_writeHead_100 : decode cX7_writeHead 100 = .ok (.getfield 19, 3) := by decide +kernel
theorem dX7_writeHead_103 : decode cX7_writeHead 103 = .ok (.aload_n 0, 1) := by decide +kernel
theorem dX7_writeHead_104 : decode cX7_writeHead 104 = .ok (.getfield 249, 3) := by decide +kernel
theorem dX7_writeHead_107 : decode cX7_writeHead 107 = .ok (.iconst 4, 1) := by decide +kernel
theorem dX7_writeHead_108 : decode cX7_writeHead 108 = .ok (.idiv, 1) := by decide +kernel
theorem dX7_writeHead_109 : decode cX7_writeHead 109 = .ok (.iconst 1, 1) := by decide +kernel
theorem dX7_writeHead_110 : decode cX7_writeHead 110 = .ok (.isub, 1) := by decide +kernel
theorem dX7_writeHead_111 : decode cX7_writeHead 111 = .ok (.invokevirtual 84, 3) := by decide +kernel
theorem dX7_writeHead_114 : decode cX7_writeHead 114 = .ok (.aload_n 0, 1) := by decide +kernel
theorem dX7_writeHead_115 : decode cX7_writeHead 115 = .ok (.getfield 19, 3) := by decide +kernel
theorem dX7_writeHead_118 : decode cX7_writeHead 118 = .ok (.iload_n 3, 1) := by decide +kernel
theorem dX7_writeHead_119 : decode cX7_writeHead 119 = .ok (.iconst 1, 1) := by decide +kernel
theorem dX7_writeHead_120 : decode cX7_writeHead 120 = .ok (.isub, 1) := by decide +kernel
theorem dX7_writeHead_121 : decode cX7_writeHead 121 = .ok (.invokevirtual 84, 3) := by decide +kernel
theorem dX7_writeHead_124 : decode cX7_writeHead 124 = .ok (.aload_n 0, 1) := by decide +kernel
theorem dX7_writeHead_125 : decode cX7_writeHead 125 = .ok (.getfield 9, 3) := by decide +kernel
theorem dX7_writeHead_128 : decode cX7_writeHead 128 = .ok (.getfield 243, 3) := by decide +kernel
theorem dX7_writeHead_131 : decode cX7_writeHead 131 = .ok (.ifCond .le 35, 3) := by decide +kernel
theorem dX7_writeHead_134 : decode cX7_writeHead 134 = .ok (.aload_n 0, 1) := by decide +kernel
theorem dX7_writeHead_135 : decode cX7_writeHead 135 = .ok (.getfield 15, 3) := by decide +kernel
theorem dX7_writeHead_138 : decode cX7_writeHead 138 = .ok (.iload_n 1, 1) := by decide +kernel
theorem dX7_writeHead_139 : decode cX7_writeHead 139 = .ok (.iload_n 2, 1) := by decide +kernel
theorem dX7_writeHead_140 : decode cX7_writeHead 140 = .ok (.aload_n 0, 1) := by decide +kernel
theorem dX7_writeHead_141 : decode cX7_writeHead 141 = .ok (.getfield 9, 3) := by decide +kernel
theorem dX7_writeHead_144 : decode cX7_writeHead 144 = .ok (.getfield 243, 3) := by decide +kernel
theorem dX7_writeHead_147 : decode cX7_writeHead 147 = .ok (.iconst 0, 1) := by decide +kernel
theorem dX7_writeHead_148 : decode cX7_writeHead 148 = .ok (.invokevirtual 252, 3) := by decide +kernel
theorem dX7_writeHead_151 : decode cX7_writeHead 151 = .ok (.aload_n 0, 1) := by decide +kernel
theorem dX7_writeHead_152 : decode cX7_writeHead 152 = .ok (.iconst 3, 1) := by decide +kernel
theorem dX7_writeHead_153 : decode cX7_writeHead 153 = .ok (.iconst 1, 1) := by decide +kernel
theorem dX7_writeHead_154 : decode cX7_writeHead 154 = .ok (.aload_n 0, 1) := by decide +kernel
theorem dX7_writeHead_155 : decode cX7_writeHead 155 = .ok (.getfield 9, 3) := by decide +kernel
theorem dX7_writeHead_158 : decode cX7_writeHead 158 = .ok (.getfield 243, 3) := by decide +kernel
theorem dX7_writeHead_161 : decode cX7_writeHead 161 = .ok (.iconst 1, 1) := by decide +kernel
theorem dX7_writeHead_162 : decode cX7_writeHead 162 = .ok (.isub, 1) := by decide +kernel
theorem dX7_writeHead_163 : decode cX7_writeHead 163 = .ok (.invokevirtual 254, 3) := by decide +kernel
theorem dX7_writeHead_166 : decode cX7_writeHead 166 = .ok (.aload_n 0, 1) := by decide +kernel
theorem dX7_writeHead_167 : decode cX7_writeHead 167 = .ok (.getfield 9, 3) := by decide +kernel
theorem dX7_writeHead_170 : decode cX7_writeHead 170 = .ok (.getfield 246, 3) := by decide +kernel
theorem dX7_writeHead_173 : decode cX7_writeHead 173 = .ok (.ifCond .le 21, 3) := by decide +kernel
theorem dX7_writeHead_176 : decode cX7_writeHead 176 = .ok (.aload_n 0, 1) := by decide +kernel
theorem dX7_writeHead_177 : decode cX7_writeHead 177 = .ok (.getfield 15, 3) := by decide +kernel
theorem dX7_writeHead_180 : decode cX7_writeHead 180 = .ok (.iload_n 1, 1) := by decide +kernel
theorem dX7_writeHead_181 : decode cX7_writeHead 181 = .ok (.iload_n 2, 1) := by decide +kernel
theorem dX7_writeHead_182 : decode cX7_writeHead 182 = .ok (.iconst 0, 1) := by decide +kernel
theorem dX7_writeHead_183 : decode cX7_writeHead 183 = .ok (.invokevirtual 257, 3) := by decide +kernel
theorem dX7_writeHead_186 : decode cX7_writeHead 186 = .ok (.aload_n 0, 1) := by decide +kernel
theorem dX7_writeHead_187 : decode cX7_writeHead 187 = .ok (.bipush 7, 2) := by decide +kernel
theorem dX7_writeHead_189 : decode cX7_writeHead 189 = .ok (.iconst 0, 1) := by decide +kernel
theorem dX7_writeHead_190 : decode cX7_writeHead 190 = .ok (.iconst 0, 1) := by decide +kernel
theorem dX7_writeHead_191 : decode cX7_writeHead 191 = .ok (.invokevirtual 254, 3) := by decide +kernel
theorem dX7_writeHead_194 : decode cX7_writeHead 194 = .ok (.aload_n 0, 1) := by decide +kernel
theorem dX7_writeHead_195 : decode cX7_writeHead 195 = .ok (.bipush 33, 2) := by decide +kernel
theorem dX7_writeHead_197 : decode cX7_writeHead 197 = .ok (.iconst 1, 1) := by decide +kernel
theorem dX7_writeHead_198 : decode cX7_writeHead 198 = .ok (.iconst 0, 1) := by decide +kernel
theorem dX7_writeHead_199 : decode cX7_writeHead 199 = .ok (.invokevirtual 254, 3) := by decide +kernel
theorem dX7_writeHead_202 : decode cX7_writeHead 202 = .ok (.aload_n 0, 1) := by decide +kernel
theorem dX7_writeHead_203 : decode cX7_writeHead 203 = .ok (.getfield 19, 3) := by decide +kernel
theorem dX7_writeHead_206 : decode cX7_writeHead 206 = .ok (.aload_n 0, 1) := by decide +kernel
theorem dX7_writeHead_207 : decode cX7_writeHead 207 = .ok (.getfield 240, 3) := by decide +kernel
theorem dX7_writeHead_210 : decode cX7_writeHead 210 = .ok (.invokevirtual 260, 3) := by decide +kernel
theorem dX7_writeHead_213 : decode cX7_writeHead 213 = .ok (.aload_n 0, 1) := by decide +kernel
theorem dX7_writeHead_214 : decode cX7_writeHead 214 = .ok (.getfield 19, 3) := by decide +kernel
theorem dX7_writeHead_217 : decode cX7_writeHead 217 = .ok (.aload_n 0, 1) := by decide +kernel
theorem dX7_writeHead_218 : decode cX7_writeHead 218 = .ok (.getfield 19, 3) := by decide +kernel
theorem dX7_writeHead_221 : decode cX7_writeHead 221 = .ok (.aload_n 0, 1) := by decide +kernel
theorem dX7_writeHead_222 : decode cX7_writeHead 222 = .ok (.getfield 240, 3) := by decide +kernel
theorem dX7_writeHead_225 : decode cX7_writeHead 225 = .ok (.aload_n 0, 1) := by decide +kernel
theorem dX7_writeHead_226 : decode cX7_writeHead 226 = .ok (.getfield 19, 3) := by decide +kernel
theorem dX7_writeHead_229 : decode cX7_writeHead 229 = .ok (.getfield 47, 3) := by decide +kernel
theorem dX7_writeHead_232 : decode cX7_writeHead 232 = .ok (.invokestatic 227, 3) := by decide +kernel
theorem dX7_writeHead_235 : decode cX7_writeHead 235 = .ok (.i2l, 1) := by decide +kernel
theorem dX7_writeHead_236 : decode cX7_writeHead 236 = .ok (.iconst 4, 1) := by decide +kernel
theorem dX7_writeHead_237 : decode cX7_writeHead 237 = .ok (.invokevirtual 91, 3) := by decide +kernel
theorem dX7_writeHead_240 : decode cX7_writeHead 240 = .ok (.return_, 1) := by decide +kernel
theorem dX7_writeFilter_0 : decode cX7_writeFilter 0 = .ok (.aload_n 0, 1) := by decide +kernel
theorem dX7_writeFilter_1 : decode cX7_writeFilter 1 = .ok (.getfield 19, 3) := by decide +kernel
theorem dX7_writeFilter_4 : decode cX7_writeFilter 4 = .ok (.iload_n 1, 1) := by decide +kernel
theorem dX7_writeFilter_5 : decode cX7_writeFilter 5 = .ok (.invokevirtual 263, 3) := by decide +kernel
theorem dX7_writeFilter_8 : decode cX7_writeFilter 8 = .ok (.aload_n 0, 1) := by decide +kernel
theorem dX7_writeFilter_9 : decode cX7_writeFilter 9 = .ok (.getfield 19, 3) := by decide +kernel
theorem dX7_writeFilter_12 : decode cX7_writeFilter 12 = .ok (.iload_n 2, 1) := by decide +kernel
theorem dX7_writeFilter_13 : decode cX7_writeFilter 13 = .ok (.invokevirtual 263, 3) := by decide +kernel
theorem dX7_writeFilter_16 : decode cX7_writeFilter 16 = .ok (.iload_n 2, 1) := by decide +kernel
theorem dX7_writeFilter_17 : decode cX7_writeFilter 17 = .ok (.ifCond .le 11, 3) := by decide +kernel
theorem dX7_writeFilter_20 : decode cX7_writeFilter 20 = .ok (.aload_n 0, 1) := by decide +kernel
theorem dX7_writeFilter_21 : decode cX7_writeFilter 21 = .ok (.getfield 19, 3) := by decide +kernel
theorem dX7_writeFilter_24 : decode cX7_writeFilter 24 = .ok (.iload_n 3, 1) := by decide +kernel
theorem dX7_writeFilter_25 : decode cX7_writeFilter 25 = .ok (.invokevirtual 84, 3) := by decide +kernel
theorem dX7_writeFilter_28 : decode cX7_writeFilter 28 = .ok (.return_, 1) := by decide +kernel
theorem dX7_writeTail_0 : decode cX7_writeTail 0 = .ok (.aload_n 0, 1) := by decide +kernel
theorem dX7_writeTail_1 : decode cX7_writeTail 1 = .ok (.getfield 30, 3) := by decide +kernel
theorem dX7_writeTail_4 : decode cX7_writeTail 4 = .ok (.aload_n 0, 1) := by decide +kernel
theorem dX7_writeTail_5 : decode cX7_writeTail 5 = .ok (.getfield 240, 3) := by decide +kernel
theorem dX7_writeTail_8 : decode cX7_writeTail 8 = .ok (.aload_n 0, 1) := by decide +kernel
theorem dX7_writeTail_9 : decode cX7_writeTail 9 = .ok (.getfield 249, 3) := by decide +kernel
theorem dX7_writeTail_12 : decode cX7_writeTail 12 = .ok (.aload_n 0, 1) := by decide +kernel
theorem dX7_writeTail_13 : decode cX7_writeTail 13 = .ok (.getfield 19, 3) := by decide +kernel
theorem dX7_writeTail_16 : decode cX7_writeTail 16 = .ok (.getfield 47, 3) := by decide +kernel
theorem dX7_writeTail_19 : decode cX7_writeTail 19 = .ok (.aload_n 0, 1) := by decide +kernel
theorem dX7_writeTail_20 : decode cX7_writeTail 20 = .ok (.getfield 175, 3) := by decide +kernel
theorem dX7_writeTail_23 : decode cX7_writeTail 23 = .ok (.isub, 1) := by decide +kernel
theorem dX7_writeTail_24 : decode cX7_writeTail 24 = .ok (.iload_n 2, 1) := by decide +kernel
theorem dX7_writeTail_25 : decode cX7_writeTail 25 = .ok (.iload_n 1, 1) := by decide +kernel
theorem dX7_writeTail_26 : decode cX7_writeTail 26 = .ok (.isub, 1) := by decide +kernel
theorem dX7_writeTail_27 : decode cX7_writeTail 27 = .ok (.aload_n 0, 1) := by decide +kernel
theorem dX7_writeTail_28 : decode cX7_writeTail 28 = .ok (.getfield 178, 3) := by decide +kernel
theorem dX7_writeTail_31 : decode cX7_writeTail 31 = .ok (.invokevirtual 221, 3) := by decide +kernel
theorem dX7_writeTail_34 : decode cX7_writeTail 34 = .ok (.aload_n 0, 1) := by decide +kernel
theorem dX7_writeTail_35 : decode cX7_writeTail 35 = .ok (.getfield 19, 3) := by decide +kernel
theorem dX7_writeTail_38 : decode cX7_writeTail 38 = .ok (.aload_n 0, 1) := by decide +kernel
theorem dX7_writeTail_39 : decode cX7_writeTail 39 = .ok (.getfield 240, 3) := by decide +kernel
theorem dX7_writeTail_42 : decode cX7_writeTail 42 = .ok (.invokevirtual 260, 3) := by decide +kernel
theorem dX7_writeTail_45 : decode cX7_writeTail 45 = .ok (.iconst 0, 1) := by decide +kernel
theorem dX7_writeTail_46 : decode cX7_writeTail 46 = .ok (.istore_n 3, 1) := by decide +kernel
theorem dX7_writeTail_47 : decode cX7_writeTail 47 = .ok (.iload_n 3, 1) := by decide +kernel
theorem dX7_writeTail_48 : decode cX7_writeTail 48 = .ok (.aload_n 0, 1) := by decide +kernel
theorem dX7_writeTail_49 : decode cX7_writeTail 49 = .ok (.getfield 9, 3) := by decide +kernel
theorem dX7_writeTail_52 : decode cX7_writeTail 52 = .ok (.getfield 233, 3) := by decide +kernel
theorem dX7_writeTail_55 : decode cX7_writeTail 55 = .ok (.invokestatic 266, 3) := by decide +kernel
theorem dX7_writeTail_58 : decode cX7_writeTail 58 = .ok (.if_icmp .ge 31, 3) := by decide +kernel
theorem dX7_writeTail_61 : decode cX7_writeTail 61 = .ok (.aload_n 0, 1) := by decide +kernel
theorem dX7_writeTail_62 : decode cX7_writeTail 62 = .ok (.getfield 19, 3) := by decide +kernel
theorem dX7_writeTail_65 : decode cX7_writeTail 65 = .ok (.aload_n 0, 1) := by decide +kernel
theorem dX7_writeTail_66 : decode cX7_writeTail 66 = .ok (.getfield 26, 3) := by decide +kernel
theorem dX7_writeTail_69 : decode cX7_writeTail 69 = .ok (.aload_n 0, 1) := by decide +kernel
theorem dX7_writeTail_70 : decode cX7_writeTail 70 = .ok (.getfield 9, 3) := by decide +kernel
theorem dX7_writeTail_73 : decode cX7_writeTail 73 = .ok (.getfield 233, 3) := by decide +kernel
theorem dX7_writeTail_76 : decode cX7_writeTail 76 = .ok (.iload_n 3, 1) := by decide +kernel
theorem dX7_writeTail_77 : decode cX7_writeTail 77 = .ok (.invokevirtual 269, 3) := by decide +kernel
theorem dX7_writeTail_80 : decode cX7_writeTail 80 = .ok (.invokevirtual 84, 3) := by decide +kernel
theorem dX7_writeTail_83 : decode cX7_writeTail 83 = .ok (.iinc 3 1, 3) := by decide +kernel
theorem dX7_writeTail_86 : decode cX7_writeTail 86 = .ok (.goto (-39), 3) := by decide +kernel
theorem dX7_writeTail_89 : decode cX7_writeTail 89 = .ok (.return_, 1) := by decide +kernel
theorem dX7_writeIndex_0 : decode cX7_writeIndex 0 = .ok (.aload_n 0, 1) := by decide +kernel
theorem dX7_writeIndex_1 : decode cX7_writeIndex 1 = .ok (.aload_n 0, 1) := by decide +kernel
theorem dX7_writeIndex_2 : decode cX7_writeIndex 2 = .ok (.getfield 19, 3) := by decide +kernel
theorem dX7_writeIndex_5 : decode cX7_writeIndex 5 = .ok (.getfield 47, 3) := by decide +kernel
theorem dX7_writeIndex_8 : decode cX7_writeIndex 8 = .ok (.putfield 272, 3) := by decide +kernel
theorem dX7_writeIndex_11 : decode cX7_writeIndex 11 = .ok (.aload_n 0, 1) := by decide +kernel
theorem dX7_writeIndex_12 : decode cX7_writeIndex 12 = .ok (.getfield 30, 3) := by decide +kernel
theorem dX7_writeIndex_15 : decode cX7_writeIndex 15 = .ok (.aload_n 0, 1) := by decide +kernel
theorem dX7_writeIndex_16 : decode cX7_writeIndex 16 = .ok (.getfield 19, 3) := by decide +kernel
theorem dX7_writeIndex_19 : decode cX7_writeIndex 19 = .ok (.aload_n 0, 1) := by decide +kernel
theorem dX7_writeIndex_20 : decode cX7_writeIndex 20 = .ok (.getfield 9, 3) := by decide +kernel
theorem dX7_writeIndex_23 : decode cX7_writeIndex 23 = .ok (.getfield 233, 3) := by decide +kernel
theorem dX7_writeIndex_26 : decode cX7_writeIndex 26 = .ok (.invokestatic 266, 3) := by decide +kernel
theorem dX7_writeIndex_29 : decode cX7_writeIndex 29 = .ok (.invokevirtual 275, 3) := by decide +kernel
theorem dX7_writeIndex_32 : decode cX7_writeIndex 32 = .ok (.aload_n 0, 1) := by decide +kernel
theorem dX7_writeIndex_33 : decode cX7_writeIndex 33 = .ok (.getfield 19, 3) := by decide +kernel
theorem dX7_writeIndex_36 : decode cX7_writeIndex 36 = .ok (.aload_n 0, 1) := by decide +kernel
theorem dX7_writeIndex_37 : decode cX7_writeIndex 37 = .ok (.getfield 19, 3) := by decide +kernel
theorem dX7_writeIndex_40 : decode cX7_writeIndex 40 = .ok (.aload_n 0, 1) := by decide +kernel
theorem dX7_writeIndex_41 : decode cX7_writeIndex 41 = .ok (.getfield 272, 3) := by decide +kernel
theorem dX7_writeIndex_44 : decode cX7_writeIndex 44 = .ok (.aload_n 0, 1) := by decide +kernel
theorem dX7_writeIndex_45 : decode cX7_writeIndex 45 = .ok (.getfield 19, 3) := by decide +kernel
theorem dX7_writeIndex_48 : decode cX7_writeIndex 48 = .ok (.getfield 47, 3) := by decide +kernel
theorem dX7_writeIndex_51 : decode cX7_writeIndex 51 = .ok (.invokestatic 227, 3) := by decide +kernel
theorem dX7_writeIndex_54 : decode cX7_writeIndex 54 = .ok (.i2l, 1) := by decide +kernel
theorem dX7_writeIndex_55 : decode cX7_writeIndex 55 = .ok (.iconst 4, 1) := by decide +kernel
theorem dX7_writeIndex_56 : decode cX7_writeIndex 56 = .ok (.invokevirtual 91, 3) := by decide +kernel
theorem dX7_writeIndex_59 : decode cX7_writeIndex 59 = .ok (.return_, 1) := by decide +kernel
theorem dX7_writeFoot_0 : decode cX7_writeFoot 0 = .ok (.aload_n 0, 1) := by decide +kernel
theorem dX7_writeFoot_1 : decode cX7_writeFoot 1 = .ok (.getfield 19, 3) := by decide +kernel
theorem dX7_writeFoot_4 : decode cX7_writeFoot 4 = .ok (.getfield 47, 3) := by decide +kernel
theorem dX7_writeFoot_7 : decode cX7_writeFoot 7 = .ok (.istore_n 1, 1) := by decide +kernel
theorem dX7_writeFoot_8 : decode cX7_writeFoot 8 = .ok (.aload_n 0, 1) := by decide +kernel
theorem dX7_writeFoot_9 : decode cX7_writeFoot 9 = .ok (.getfield 19, 3) := by decide +kernel
theorem dX7_writeFoot_12 : decode cX7_writeFoot 12 = .ok (.lconst 0, 1) := by decide +kernel
theorem dX7_writeFoot_13 : decode cX7_writeFoot 13 = .ok (.iconst 4, 1) := by decide +kernel
theorem dX7_writeFoot_14 : decode cX7_writeFoot 14 = .ok (.invokevirtual 91, 3) := by decide +kernel
theorem dX7_writeFoot_17 : decode cX7_writeFoot 17 = .ok (.aload_n 0, 1) := by decide +kernel
theorem dX7_writeFoot_18 : decode cX7_writeFoot 18 = .ok (.getfield 19, 3) := by decide +kernel
theorem dX7_writeFoot_21 : decode cX7_writeFoot 21 = .ok (.iload_n 1, 1) := by decide +kernel
theorem dX7_writeFoot_22 : decode cX7_writeFoot 22 = .ok (.aload_n 0, 1) := by decide +kernel
theorem dX7_writeFoot_23 : decode cX7_writeFoot 23 = .ok (.getfield 272, 3) := by decide +kernel
theorem dX7_writeFoot_26 : decode cX7_writeFoot 26 = .ok (.isub, 1) := by decide +kernel
theorem dX7_writeFoot_27 : decode cX7_writeFoot 27 = .ok (.iconst 4, 1) := by decide +kernel
theorem dX7_writeFoot_28 : decode cX7_writeFoot 28 = .ok (.idiv, 1) := by decide +kernel
theorem dX7_writeFoot_29 : decode cX7_writeFoot 29 = .ok (.iconst 1, 1) := by decide +kernel
theorem dX7_writeFoot_30 : decode cX7_writeFoot 30 = .ok (.isub, 1) := by decide +kernel
theorem dX7_writeFoot_31 : decode cX7_writeFoot 31 = .ok (.i2l, 1) := by decide +kernel
theorem dX7_writeFoot_32 : decode cX7_writeFoot 32 = .ok (.iconst 4, 1) := by decide +kernel
theorem dX7_writeFoot_33 : decode cX7_writeFoot 33 = .ok (.invokevirtual 91, 3) := by decide +kernel
theorem dX7_writeFoot_36 : decode cX7_writeFoot 36 = .ok (.aload_n 0, 1) := by decide +kernel
theorem dX7_writeFoot_37 : decode cX7_writeFoot 37 = .ok (.invokevirtual 224, 3) := by decide +kernel
theorem dX7_writeFoot_40 : decode cX7_writeFoot 40 = .ok (.aload_n 0, 1) := by decide +kernel
theorem dX7_writeFoot_41 : decode cX7_writeFoot 41 = .ok (.getfield 19, 3) := by decide +kernel
theorem dX7_writeFoot_44 : decode cX7_writeFoot 44 = .ok (.iload_n 1, 1) := by decide +kernel
theorem dX7_writeFoot_45 : decode cX7_writeFoot 45 = .ok (.iconst 4, 1) := by decide +kernel
theorem dX7_writeFoot_46 : decode cX7_writeFoot 46 = .ok (.iadd, 1) := by decide +kernel
theorem dX7_writeFoot_47 : decode cX7_writeFoot 47 = .ok (.iload_n 1, 1) := by decide +kernel
theorem dX7_writeFoot_48 : decode cX7_writeFoot 48 = .ok (.bipush 10, 2) := by decide +kernel
theorem dX7_writeFoot_50 : decode cX7_writeFoot 50 = .ok (.iadd, 1) := by decide +kernel
theorem dX7_writeFoot_51 : decode cX7_writeFoot 51 = .ok (.invokestatic 227, 3) := by decide +kernel
theorem dX7_writeFoot_54 : decode cX7_writeFoot 54 = .ok (.istore_n 2, 1) := by decide +kernel
theorem dX7_writeFoot_55 : decode cX7_writeFoot 55 = .ok (.iconst 0, 1) := by decide +kernel
theorem dX7_writeFoot_56 : decode cX7_writeFoot 56 = .ok (.istore_n 3, 1) := by decide +kernel
theorem dX7_writeFoot_57 : decode cX7_writeFoot 57 = .ok (.iload_n 3, 1) := by decide +kernel
theorem dX7_writeFoot_58 : decode cX7_writeFoot 58 = .ok (.iconst 4, 1) := by decide +kernel
theorem dX7_writeFoot_59 : decode cX7_writeFoot 59 = .ok (.if_icmp .ge 25, 3) := by decide +kernel
theorem dX7_writeFoot_62 : decode cX7_writeFoot 62 = .ok (.aload_n 0, 1) := by decide +kernel
theorem dX7_writeFoot_63 : decode cX7_writeFoot 63 = .ok (.getfield 19, 3) := by decide +kernel
theorem dX7_writeFoot_66 : decode cX7_writeFoot 66 = .ok (.iload_n 1, 1) := by decide +kernel
theorem dX7_writeFoot_67 : decode cX7_writeFoot 67 = .ok (.iload_n 3, 1) := by decide +kernel
theorem dX7_writeFoot_68 : decode cX7_writeFoot 68 = .ok (.iadd, 1) := by decide +kernel
theorem dX7_writeFoot_69 : decode cX7_writeFoot 69 = .ok (.iload_n 2, 1) := by decide +kernel
theorem dX7_writeFoot_70 : decode cX7_writeFoot 70 = .ok (.bipush 8, 2) := by decide +kernel
theorem dX7_writeFoot_72 : decode cX7_writeFoot 72 = .ok (.iload_n 3, 1) := by decide +kernel
theorem dX7_writeFoot_73 : decode cX7_writeFoot 73 = .ok (.imul, 1) := by decide +kernel
theorem dX7_writeFoot_74 : decode cX7_writeFoot 74 = .ok (.iushr, 1) := by decide +kernel
theorem dX7_writeFoot_75 : decode cX7_writeFoot 75 = .ok (.invokevirtual 218, 3) := by decide +kernel
theorem dX7_writeFoot_78 : decode cX7_writeFoot 78 = .ok (.iinc 3 1, 3) := by decide +kernel
theorem dX7_writeFoot_81 : decode cX7_writeFoot 81 = .ok (.goto (-24), 3) := by decide +kernel
theorem dX7_writeFoot_84 : decode cX7_writeFoot 84 = .ok (.aload_n 0, 1) := by decide +kernel
theorem dX7_writeFoot_85 : decode cX7_writeFoot 85 = .ok (.getfield 19, 3) := by decide +kernel
theorem dX7_writeFoot_88 : decode cX7_writeFoot 88 = .ok (.bipush 89, 2) := by decide +kernel
theorem dX7_writeFoot_90 : decode cX7_writeFoot 90 = .ok (.invokevirtual 84, 3) := by decide +kernel
theorem dX7_writeFoot_93 : decode cX7_writeFoot 93 = .ok (.aload_n 0, 1) := by decide +kernel
theorem dX7_writeFoot_94 : decode cX7_writeFoot 94 = .ok (.getfield 19, 3) := by decide +kernel
theorem dX7_writeFoot_97 : decode cX7_writeFoot 97 = .ok (.bipush 90, 2) := by decide +kernel
theorem dX7_writeFoot_99 : decode cX7_writeFoot 99 = .ok (.invokevirtual 84, 3) := by decide +kernel
theorem dX7_writeFoot_102 : decode cX7_writeFoot 102 = .ok (.return_, 1) := by decide +kernel
theorem dX8_init_0 : decode cX8_init 0 = .ok (.aload_n 0, 1) := by decide +kernel
theorem dX8_init_1 : decode cX8_init 1 = .ok (.invokespecial 1, 3) := by decide +kernel
theorem dX8_init_4 : decode cX8_init 4 = .ok (.aload_n 0, 1) := by decide +kernel
theorem dX8_init_5 : decode cX8_init 5 = .ok (.aload_n 1, 1) := by decide +kernel
theorem dX8_init_6 : decode cX8_init 6 = .ok (.putfield 7, 3) := by decide +kernel
theorem dX8_init_9 : decode cX8_init 9 = .ok (.return_, 1) := by decide +kernel
theorem dX8_begin_0 : decode cX8_begin 0 = .ok (.aload_n 0, 1) := by decide +kernel
theorem dX8_begin_1 : decode cX8_begin 1 = .ok (.iconst 0, 1) := by decide +kernel
theorem dX8_begin_2 : decode cX8_begin 2 = .ok (.putfield 13, 3) := by decide +kernel
theorem dX8_begin_5 : decode cX8_begin 5 = .ok (.aload_n 0, 1) := by decide +kernel
theorem dX8_begin_6 : decode cX8_begin 6 = .ok (.aload_n 0, 1) := by decide +kernel
theorem dX8_begin_7 : decode cX8_begin 7 = .ok (.getfield 7, 3) := by decide +kernel
theorem dX8_begin_10 : decode cX8_begin 10 = .ok (.getfield 17, 3) := by decide +kernel
theorem dX8_begin_13 : decode cX8_begin 13 = .ok (.putfield 22, 3) := by decide +kernel
theorem dX8_begin_16 : decode cX8_begin 16 = .ok (.aload_n 0, 1) := by decide +kernel
theorem dX8_begin_17 : decode cX8_begin 17 = .ok (.iconst 0, 1) := by decide +kernel
theorem dX8_begin_18 : decode cX8_begin 18 = .ok (.putfield 25, 3) := by decide +kernel
theorem dX8_begin_21 : decode cX8_begin 21 = .ok (.return_, 1) := by decide +kernel
theorem dX8_next_0 : decode cX8_next 0 = .ok (.aload_n 0, 1) := by decide +kernel
theorem dX8_next_1 : decode cX8_next 1 = .ok (.getfield 13, 3) := by decide +kernel
theorem dX8_next_4 : decode cX8_next 4 = .ok (.ifCond .lt 29, 3) := by decide +kernel
theorem dX8_next_7 : decode cX8_next 7 = .ok (.aload_n 0, 1) := by decide +kernel
theorem dX8_next_8 : decode cX8_next 8 = .ok (.getfield 13, 3) := by decide +kernel
theorem dX8_next_11 : decode cX8_next 11 = .ok (.aload_n 0, 1) := by decide +kernel
theorem dX8_next_12 : decode cX8_next 12 = .ok (.getfield 22, 3) := by decide +kernel
theorem dX8_next_15 : decode cX8_next 15 = .ok (.if_icmp .ge 18, 3) := by decide +kernel
theorem dX8_next_18 : decode cX8_next 18 = .ok (.aload_n 0, 1) := by decide +kernel
theorem dX8_next_19 : decode cX8_next 19 = .ok (.getfield 13, 3) := by decide +kernel
theorem dX8_next_22 : decode cX8_next 22 = .ok (.aload_n 0, 1) := by decide +kernel
theorem dX8_next_23 : decode cX8_next 23 = .ok (.getfield 7, 3) := by decide +kernel
theorem dX8_next_26 : decode cX8_next 26 = .ok (.getfield 28, 3) := by decide +kernel
theorem dX8_next_29 : decode cX8_next 29 = .ok (.arraylength, 1) := by decide +kernel
theorem dX8_next_30 : decode cX8_next 30 = .ok (.if_icmp .lt 16, 3) := by decide +kernel
theorem dX8_next_33 : decode cX8_next 33 = .ok (.aload_n 0, 1) := by decide +kernel
theorem dX8_next_34 : decode cX8_next 34 = .ok (.iconst 1, 1) := by decide +kernel
theorem dX8_next_35 : decode cX8_next 35 = .ok (.putfield 25, 3) := by decide +kernel
theorem dX8_next_38 : decode cX8_next 38 = .ok (.new 32, 3) := by decide +kernel
theorem dX8_next_41 : decode cX8_next 41 = .ok (.dup, 1) := by decide +kernel
theorem dX8_next_42 : decode cX8_next 42 = .ok (.invokespecial 34, 3) := by decide +kernel
theorem dX8_next_45 : decode cX8_next 45 = .ok (.athrow, 1) := by decide +kernel
theorem dX8_next_46 : decode cX8_next 46 = .ok (.aload_n 0, 1) := by decide +kernel
theorem dX8_next_47 : decode cX8_next 47 = .ok (.getfield 7, 3) := by decide +kernel
theorem dX8_next_50 : decode cX8_next 50 = .ok (.getfield 28, 3) := by decide +kernel
theorem dX8_next_53 : decode cX8_next 53 = .ok (.aload_n 0, 1) := by decide +kernel
theorem dX8_next_54 : decode cX8_next 54 = .ok (.getfield 13, 3) := by decide +kernel
theorem dX8_next_57 : decode cX8_next 57 = .ok (.iaload, 1) := by decide +kernel
theorem dX8_next_58 : decode cX8_next 58 = .ok (.istore_n 1, 1) := by decide +kernel
theorem dX8_next_59 : decode cX8_next 59 = .ok (.aload_n 0, 1) := by decide +kernel
theorem dX8_next_60 : decode cX8_next 60 = .ok (.dup, 1) := by decide +kernel
theorem dX8_next_61 : decode cX8_next 61 = .ok (.getfield 13, 3) := by decide +kernel
theorem dX8_next_64 : decode cX8_next 64 = .ok (.iconst 1, 1) := by decide +kernel
theorem dX8_next_65 : decode cX8_next 65 = .ok (.iadd, 1) := by decide +kernel
theorem dX8_next_66 : decode cX8_next 66 = .ok (.putfield 13, 3) := by decide +kernel
theorem dX8_next_69 : decode cX8_next 69 = .ok (.iload_n 1, 1) := by decide +kernel
theorem dX8_next_70 : decode cX8_next 70 = .ok (.ireturn, 1) := by decide +kernel
theorem dX8_fail_0 : decode cX8_fail 0 = .ok (.aload_n 0, 1) := by decide +kernel
theorem dX8_fail_1 : decode cX8_fail 1 = .ok (.iload_n 1, 1) := by decide +kernel
theorem dX8_fail_2 : decode cX8_fail 2 = .ok (.putfield 25, 3) := by decide +kernel
theorem dX8_fail_5 : decode cX8_fail 5 = .ok (.new 32, 3) := by decide +kernel
theorem dX8_fail_8 : decode cX8_fail 8 = .ok (.dup, 1) := by decide +kernel
theorem dX8_fail_9 : decode cX8_fail 9 = .ok (.invokespecial 34, 3) := by decide +kernel
theorem dX8_fail_12 : decode cX8_fail 12 = .ok (.athrow, 1) := by decide +kernel
theorem dX8_low_0 : decode cX8_low 0 = .ok (.lconst 0, 1) := by decide +kernel
theorem dX8_low_1 : decode cX8_low 1 = .ok (.lstore_n 2, 1) := by decide +kernel
theorem dX8_low_2 : decode cX8_low 2 = .ok (.iconst 0, 1) := by decide +kernel
theorem dX8_low_3 : decode cX8_low 3 = .ok (.istore 4, 2) := by decide +kernel
theorem dX8_low_5 : decode cX8_low 5 = .ok (.iload 4, 2) := by decide +kernel
theorem dX8_low_7 : decode cX8_low 7 = .ok (.iload_n 1, 1) := by decide +kernel
theorem dX8_low_8 : decode cX8_low 8 = .ok (.if_icmp .ge 23, 3) := by decide +kernel
theorem dX8_low_11 : decode cX8_low 11 = .ok (.lload_n 2, 1) := by decide +kernel
theorem dX8_low_12 : decode cX8_low 12 = .ok (.aload_n 0, 1) := by decide +kernel
theorem dX8_low_13 : decode cX8_low 13 = .ok (.invokevirtual 35, 3) := by decide +kernel
theorem dX8_low_16 : decode cX8_low 16 = .ok (.i2l, 1) := by decide +kernel
theorem dX8_low_17 : decode cX8_low 17 = .ok (.bipush 8, 2) := by decide +kernel
theorem dX8_low_19 : decode cX8_low 19 = .ok (.iload 4, 2) := by decide +kernel
theorem dX8_low_21 : decode cX8_low 21 = .ok (.imul, 1) := by decide +kernel
theorem dX8_low_22 : decode cX8_low 22 = .ok (.lshl, 1) := by decide +kernel
theorem dX8_low_23 : decode cX8_low 23 = .ok (.lor, 1) := by decide +kernel
theorem dX8_low_24 : decode cX8_low 24 = .ok (.lstore_n 2, 1) := by decide +kernel
theorem dX8_low_25 : decode cX8_low 25 = .ok (.iinc 4 1, 3) := by decide +kernel
theorem dX8_low_28 : decode cX8_low 28 = .ok (.goto (-23), 3) := by decide +kernel
theorem dX8_low_31 : decode cX8_low 31 = .ok (.lload_n 2, 1) := by decide +kernel
theorem dX8_low_32 : decode cX8_low 32 = .ok (.lreturn, 1) := by decide +kernel
theorem dX8_high_0 : decode cX8_high 0 = .ok (.iconst 0, 1) := by decide +kernel
theorem dX8_high_1 : decode cX8_high 1 = .ok (.istore_n 2, 1) := by decide +kernel
theorem dX8_high_2 : decode cX8_high 2 = .ok (.iconst 0, 1) := by decide +kernel
theorem dX8_high_3 : decode cX8_high 3 = .ok (.istore_n 3, 1) := by decide +kernel
theorem dX8_high_4 : decode cX8_high 4 = .ok (.iload_n 3, 1) := by decide +kernel
theorem dX8_high_5 : decode cX8_high 5 = .ok (.iload_n 1, 1) := by decide +kernel
theorem dX8_high_6 : decode cX8_high 6 = .ok (.if_icmp .ge 19, 3) := by decide +kernel
theorem dX8_high_9 : decode cX8_high 9 = .ok (.iload_n 2, 1) := by decide +kernel
theorem dX8_high_10 : decode cX8_high 10 = .ok (.bipush 8, 2) := by decide +kernel
theorem dX8_high_12 : decode cX8_high 12 = .ok (.ishl, 1) := by decide +kernel
theorem dX8_high_13 : decode cX8_high 13 = .ok (.aload_n 0, 1) := by decide +kernel
theorem dX8_high_14 : decode cX8_high 14 = .ok (.invokevirtual 35, 3) := by decide +kernel
theorem dX8_high_17 : decode cX8_high 17 = .ok (.ior, 1) := by decide +kernel
theorem dX8_high_18 : decode cX8_high 18 = .ok (.istore_n 2, 1) := by decide +kernel
theorem dX8_high_19 : decode cX8_high 19 = .ok (.iinc 3 1, 3) := by decide +kernel
theorem dX8_high_22 : decode cX8_high 22 = .ok (.goto (-18), 3) := by decide +kernel
theorem dX8_high_25 : decode cX8_high 25 = .ok (.iload_n 2, 1) := by decide +kernel
theorem dX8_high_26 : decode cX8_high 26 = .ok (.ireturn, 1) := by decide +kernel
theorem dX9_init_0 : decode cX9_init 0 = .ok (.aload_n 0, 1) := by decide +kernel
theorem dX9_init_1 : decode cX9_init 1 = .ok (.invokespecial 1, 3) := by decide +kernel
theorem dX9_init_4 : decode cX9_init 4 = .ok (.aload_n 0, 1) := by decide +kernel
theorem dX9_init_5 : decode cX9_init 5 = .ok (.iload_n 1, 1) := by decide +kernel
theorem dX9_init_6 : decode cX9_init 6 = .ok (.newarray .int, 2) := by decide +kernel
theorem dX9_init_8 : decode cX9_init 8 = .ok (.putfield 7, 3) := by decide +kernel
theorem dX9_init_11 : decode cX9_init 11 = .ok (.return_, 1) := by decide +kernel
theorem dX9_put_0 : decode cX9_put 0 = .ok (.aload_n 0, 1) := by decide +kernel
theorem dX9_put_1 : decode cX9_put 1 = .ok (.aload_n 0, 1) := by decide +kernel
theorem dX9_put_2 : decode cX9_put 2 = .ok (.getfield 13, 3) := by decide +kernel
theorem dX9_put_5 : decode cX9_put 5 = .ok (.iload_n 1, 1) := by decide +kernel
theorem dX9_put_6 : decode cX9_put 6 = .ok (.invokevirtual 17, 3) := by decide +kernel
theorem dX9_put_9 : decode cX9_put 9 = .ok (.aload_n 0, 1) := by decide +kernel
theorem dX9_put_10 : decode cX9_put 10 = .ok (.dup, 1) := by decide +kernel
theorem dX9_put_11 : decode cX9_put 11 = .ok (.getfield 13, 3) := by decide +kernel
theorem dX9_put_14 : decode cX9_put 14 = .ok (.iconst 1, 1) := by decide +kernel
theorem dX9_put_15 : decode cX9_put 15 = .ok (.iadd, 1) := by decide +kernel
theorem dX9_put_16 : decode cX9_put 16 = .ok (.putfield 13, 3) := by decide +kernel
theorem dX9_put_19 : decode cX9_put 19 = .ok (.return_, 1) := by decide +kernel
theorem dX9_set_0 : decode cX9_set 0 = .ok (.iload_n 1, 1) := by decide +kernel
theorem dX9_set_1 : decode cX9_set 1 = .ok (.ifCond .lt 23, 3) := by decide +kernel
theorem dX9_set_4 : decode cX9_set 4 = .ok (.iload_n 1, 1) := by decide +kernel
theorem dX9_set_5 : decode cX9_set 5 = .ok (.aload_n 0, 1) := by decide +kernel
theorem dX9_set_6 : decode cX9_set 6 = .ok (.getfield 7, 3) := by decide +kernel
theorem dX9_set_9 : decode cX9_set 9 = .ok (.arraylength, 1) := by decide +kernel
theorem dX9_set_10 : decode cX9_set 10 = .ok (.if_icmp .ge 14, 3) := by decide +kernel
theorem dX9_set_13 : decode cX9_set 13 = .ok (.aload_n 0, 1) := by decide +kernel
theorem dX9_set_14 : decode cX9_set 14 = .ok (.getfield 7, 3) := by decide +kernel
theorem dX9_set_17 : decode cX9_set 17 = .ok (.iload_n 1, 1) := by decide +kernel
theorem dX9_set_18 : decode cX9_set 18 = .ok (.iload_n 2, 1) := by decide +kernel
theorem dX9_set_19 : decode cX9_set 19 = .ok (.sipush 255, 3) := by decide +kernel
theorem dX9_set_22 : decode cX9_set 22 = .ok (.iand, 1) := by decide +kernel
theorem dX9_set_23 : decode cX9_set 23 = .ok (.iastore, 1) := by decide +kernel
theorem dX9_set_24 : decode cX9_set 24 = .ok (.return_, 1) := by decide +kernel
theorem dX9_get_0 : decode cX9_get 0 = .ok (.iload_n 1, 1) := by decide +kernel
theorem dX9_get_1 : decode cX9_get 1 = .ok (.ifCond .lt 21, 3) := by decide +kernel
theorem dX9_get_4 : decode cX9_get 4 = .ok (.iload_n 1, 1) := by decide +kernel
theorem dX9_get_5 : decode cX9_get 5 = .ok (.aload_n 0, 1) := by decide +kernel
theorem dX9_get_6 : decode cX9_get 6 = .ok (.getfield 7, 3) := by decide +kernel
theorem dX9_get_9 : decode cX9_get 9 = .ok (.arraylength, 1) := by decide +kernel
theorem dX9_get_10 : decode cX9_get 10 = .ok (.if_icmp .ge 12, 3) := by decide +kernel
theorem dX9_get_13 : decode cX9_get 13 = .ok (.aload_n 0, 1) := by decide +kernel
theorem dX9_get_14 : decode cX9_get 14 = .ok (.getfield 7, 3) := by decide +kernel
theorem dX9_get_17 : decode cX9_get 17 = .ok (.iload_n 1, 1) := by decide +kernel
theorem dX9_get_18 : decode cX9_get 18 = .ok (.iaload, 1) := by decide +kernel
theorem dX9_get_19 : decode cX9_get 19 = .ok (.goto 4, 3) := by decide +kernel
theorem dX9_get_22 : decode cX9_get 22 = .ok (.iconst 0, 1) := by decide +kernel
theorem dX9_get_23 : decode cX9_get 23 = .ok (.ireturn, 1) := by decide +kernel
theorem dX9_putLow_0 : decode cX9_putLow 0 = .ok (.iconst 0, 1) := by decide +kernel
theorem dX9_putLow_1 : decode cX9_putLow 1 = .ok (.istore 4, 2) := by decide +kernel
theorem dX9_putLow_3 : decode cX9_putLow 3 = .ok (.iload 4, 2) := by decide +kernel
theorem dX9_putLow_5 : decode cX9_putLow 5 = .ok (.iload_n 3, 1) := by decide +kernel
theorem dX9_putLow_6 : decode cX9_putLow 6 = .ok (.if_icmp .ge 21, 3) := by decide +kernel
theorem dX9_putLow_9 : decode cX9_putLow 9 = .ok (.aload_n 0, 1) := by decide +kernel
theorem dX9_putLow_10 : decode cX9_putLow 10 = .ok (.lload_n 1, 1) := by decide +kernel
theorem dX9_putLow_11 : decode cX9_putLow 11 = .ok (.bipush 8, 2) := by decide +kernel
theorem dX9_putLow_13 : decode cX9_putLow 13 = .ok (.iload 4, 2) := by decide +kernel
theorem dX9_putLow_15 : decode cX9_putLow 15 = .ok (.imul, 1) := by decide +kernel
theorem dX9_putLow_16 : decode cX9_putLow 16 = .ok (.lushr, 1) := by decide +kernel
theorem dX9_putLow_17 : decode cX9_putLow 17 = .ok (.l2i, 1) := by decide +kernel
theorem dX9_putLow_18 : decode cX9_putLow 18 = .ok (.invokevirtual 21, 3) := by decide +kernel
theorem dX9_putLow_21 : decode cX9_putLow 21 = .ok (.iinc 4 1, 3) := by decide +kernel
theorem dX9_putLow_24 : decode cX9_putLow 24 = .ok (.goto (-21), 3) := by decide +kernel
theorem dX9_putLow_27 : decode cX9_putLow 27 = .ok (.return_, 1) := by decide +kernel
theorem dX9_putHigh_0 : decode cX9_putHigh 0 = .ok (.iload_n 3, 1) := by decide +kernel
theorem dX9_putHigh_1 : decode cX9_putHigh 1 = .ok (.iconst 1, 1) := by decide +kernel
theorem dX9_putHigh_2 : decode cX9_putHigh 2 = .ok (.isub, 1) := by decide +kernel
theorem dX9_putHigh_3 : decode cX9_putHigh 3 = .ok (.istore 4, 2) := by decide +kernel
theorem dX9_putHigh_5 : decode cX9_putHigh 5 = .ok (.iload 4, 2) := by decide +kernel
theorem dX9_putHigh_7 : decode cX9_putHigh 7 = .ok (.ifCond .lt 21, 3) := by decide +kernel
theorem dX9_putHigh_10 : decode cX9_putHigh 10 = .ok (.aload_n 0, 1) := by decide +kernel
theorem dX9_putHigh_11 : decode cX9_putHigh 11 = .ok (.lload_n 1, 1) := by decide +kernel
theorem dX9_putHigh_12 : decode cX9_putHigh 12 = .ok (.bipush 8, 2) := by decide +kernel
theorem dX9_putHigh_14 : decode cX9_putHigh 14 = .ok (.iload 4, 2) := by decide +kernel
theorem dX9_putHigh_16 : decode cX9_putHigh 16 = .ok (.imul, 1) := by decide +kernel
theorem dX9_putHigh_17 : decode cX9_putHigh 17 = .ok (.lushr, 1) := by decide +kernel
theorem dX9_putHigh_18 : decode cX9_putHigh 18 = .ok (.l2i, 1) := by decide +kernel
theorem dX9_putHigh_19 : decode cX9_putHigh 19 = .ok (.invokevirtual 21, 3) := by decide +kernel
theorem dX9_putHigh_22 : decode cX9_putHigh 22 = .ok (.iinc 4 (-1), 3) := by decide +kernel
theorem dX9_putHigh_25 : decode cX9_putHigh 25 = .ok (.goto (-20), 3) := by decide +kernel
theorem dX9_putHigh_28 : decode cX9_putHigh 28 = .ok (.return_, 1) := by decide +kernel
theorem dX9_putNumber_0 : decode cX9_putNumber 0 = .ok (.iload_n 1, 1) := by decide +kernel
theorem dX9_putNumber_1 : decode cX9_putNumber 1 = .ok (.istore_n 2, 1) := by decide +kernel
theorem dX9_putNumber_2 : decode cX9_putNumber 2 = .ok (.iconst 0, 1) := by decide +kernel
theorem dX9_putNumber_3 : decode cX9_putNumber 3 = .ok (.istore_n 3, 1) := by decide +kernel
theorem dX9_putNumber_4 : decode cX9_putNumber 4 = .ok (.iload_n 3, 1) := by decide +kernel
theorem dX9_putNumber_5 : decode cX9_putNumber 5 = .ok (.iconst 4, 1) := by decide +kernel
theorem dX9_putNumber_6 : decode cX9_putNumber 6 = .ok (.if_icmp .ge 32, 3) := by decide +kernel
theorem dX9_putNumber_9 : decode cX9_putNumber 9 = .ok (.iload_n 2, 1) := by decide +kernel
theorem dX9_putNumber_10 : decode cX9_putNumber 10 = .ok (.bipush 127, 2) := by decide +kernel
theorem dX9_putNumber_12 : decode cX9_putNumber 12 = .ok (.if_icmp .le 26, 3) := by decide +kernel
theorem dX9_putNumber_15 : decode cX9_putNumber 15 = .ok (.aload_n 0, 1) := by decide +kernel
theorem dX9_putNumber_16 : decode cX9_putNumber 16 = .ok (.iload_n 2, 1) := by decide +kernel
theorem dX9_putNumber_17 : decode cX9_putNumber 17 = .ok (.bipush 127, 2) := by decide +kernel
theorem dX9_putNumber_19 : decode cX9_putNumber 19 = .ok (.iand, 1) := by decide +kernel
theorem dX9_putNumber_20 : decode cX9_putNumber 20 = .ok (.sipush 128, 3) := by decide +kernel
theorem dX9_putNumber_23 : decode cX9_putNumber 23 = .ok (.ior, 1) := by decide +kernel
theorem dX9_putNumber_24 : decode cX9_putNumber 24 = .ok (.invokevirtual 21, 3) := by decide +kernel
theorem dX9_putNumber_27 : decode cX9_putNumber 27 = .ok (.iload_n 2, 1) := by decide +kernel
theorem dX9_putNumber_28 : decode cX9_putNumber 28 = .ok (.bipush 7, 2) := by decide +kernel
theorem dX9_putNumber_30 : decode cX9_putNumber 30 = .ok (.iushr, 1) := by decide +kernel
theorem dX9_putNumber_31 : decode cX9_putNumber 31 = .ok (.istore_n 2, 1) := by decide +kernel
theorem dX9_putNumber_32 : decode cX9_putNumber 32 = .ok (.iinc 3 1, 3) := by decide +kernel
theorem dX9_putNumber_35 : decode cX9_putNumber 35 = .ok (.goto (-31), 3) := by decide +kernel
theorem dX9_putNumber_38 : decode cX9_putNumber 38 = .ok (.aload_n 0, 1) := by decide +kernel
theorem dX9_putNumber_39 : decode cX9_putNumber 39 = .ok (.iload_n 2, 1) := by decide +kernel
theorem dX9_putNumber_40 : decode cX9_putNumber 40 = .ok (.bipush 127, 2) := by decide +kernel
theorem dX9_putNumber_42 : decode cX9_putNumber 42 = .ok (.iand, 1) := by decide +kernel
theorem dX9_putNumber_43 : decode cX9_putNumber 43 = .ok (.invokevirtual 21, 3) := by decide +kernel
theorem dX9_putNumber_46 : decode cX9_putNumber 46 = .ok (.return_, 1) := by decide +kernel
theorem dX9_putZeros_0 : decode cX9_putZeros 0 = .ok (.iconst 0, 1) := by decide +kernel
theorem dX9_putZeros_1 : decode cX9_putZeros 1 = .ok (.istore_n 2, 1) := by decide +kernel
theorem dX9_putZeros_2 : decode cX9_putZeros 2 = .ok (.iload_n 2, 1) := by decide +kernel
theorem dX9_putZeros_3 : decode cX9_putZeros 3 = .ok (.iconst 3, 1) := by decide +kernel
theorem dX9_putZeros_4 : decode cX9_putZeros 4 = .ok (.if_icmp .ge 25, 3) := by decide +kernel
theorem dX9_putZeros_7 : decode cX9_putZeros 7 = .ok (.aload_n 0, 1) := by decide +kernel
theorem dX9_putZeros_8 : decode cX9_putZeros 8 = .ok (.getfield 13, 3) := by decide +kernel
theorem dX9_putZeros_11 : decode cX9_putZeros 11 = .ok (.iload_n 1, 1) := by decide +kernel
theorem dX9_putZeros_12 : decode cX9_putZeros 12 = .ok (.isub, 1) := by decide +kernel
theorem dX9_putZeros_13 : decode cX9_putZeros 13 = .ok (.iconst 3, 1) := by decide +kernel
theorem dX9_putZeros_14 : decode cX9_putZeros 14 = .ok (.iand, 1) := by decide +kernel
theorem dX9_putZeros_15 : decode cX9_putZeros 15 = .ok (.ifCond .eq 14, 3) := by decide +kernel
theorem dX9_putZeros_18 : decode cX9_putZeros 18 = .ok (.aload_n 0, 1) := by decide +kernel
theorem dX9_putZeros_19 : decode cX9_putZeros 19 = .ok (.iconst 0, 1) := by decide +kernel
theorem dX9_putZeros_20 : decode cX9_putZeros 20 = .ok (.invokevirtual 21, 3) := by decide +kernel
theorem dX9_putZeros_23 : decode cX9_putZeros 23 = .ok (.iinc 2 1, 3) := by decide +kernel
theorem dX9_putZeros_26 : decode cX9_putZeros 26 = .ok (.goto (-24), 3) := by decide +kernel
theorem dX9_putZeros_29 : decode cX9_putZeros 29 = .ok (.return_, 1) := by decide +kernel
theorem dX9_delta_0 : decode cX9_delta 0 = .ok (.iload_n 2, 1) := by decide +kernel
theorem dX9_delta_1 : decode cX9_delta 1 = .ok (.iload_n 1, 1) := by decide +kernel
theorem dX9_delta_2 : decode cX9_delta 2 = .ok (.isub, 1) := by decide +kernel
theorem dX9_delta_3 : decode cX9_delta 3 = .ok (.iload_n 3, 1) := by decide +kernel
theorem dX9_delta_4 : decode cX9_delta 4 = .ok (.isub, 1) := by decide +kernel
theorem dX9_delta_5 : decode cX9_delta 5 = .ok (.istore 5, 2) := by decide +kernel
theorem dX9_delta_7 : decode cX9_delta 7 = .ok (.iconst 0, 1) := by decide +kernel
theorem dX9_delta_8 : decode cX9_delta 8 = .ok (.istore 6, 2) := by decide +kernel
theorem dX9_delta_10 : decode cX9_delta 10 = .ok (.iload 6, 2) := by decide +kernel
theorem dX9_delta_12 : decode cX9_delta 12 = .ok (.iload 5, 2) := by decide +kernel
theorem dX9_delta_14 : decode cX9_delta 14 = .ok (.if_icmp .ge 73, 3) := by decide +kernel
theorem dX9_delta_17 : decode cX9_delta 17 = .ok (.iload 4, 2) := by decide +kernel
theorem dX9_delta_19 : decode cX9_delta 19 = .ok (.ifCond .eq 12, 3) := by decide +kernel
theorem dX9_delta_22 : decode cX9_delta 22 = .ok (.iload_n 1, 1) := by decide +kernel
theorem dX9_delta_23 : decode cX9_delta 23 = .ok (.iload_n 3, 1) := by decide +kernel
theorem dX9_delta_24 : decode cX9_delta 24 = .ok (.iadd, 1) := by decide +kernel
theorem dX9_delta_25 : decode cX9_delta 25 = .ok (.iload 6, 2) := by decide +kernel
theorem dX9_delta_27 : decode cX9_delta 27 = .ok (.iadd, 1) := by decide +kernel
theorem dX9_delta_28 : decode cX9_delta 28 = .ok (.goto 9, 3) := by decide +kernel
theorem dX9_delta_31 : decode cX9_delta 31 = .ok (.iload_n 2, 1) := by decide +kernel
theorem dX9_delta_32 : decode cX9_delta 32 = .ok (.iconst 1, 1) := by decide +kernel
theorem dX9_delta_33 : decode cX9_delta 33 = .ok (.isub, 1) := by decide +kernel
theorem dX9_delta_34 : decode cX9_delta 34 = .ok (.iload 6, 2) := by decide +kernel
theorem dX9_delta_36 : decode cX9_delta 36 = .ok (.isub, 1) := by decide +kernel
theorem dX9_delta_37 : decode cX9_delta 37 = .ok (.istore 7, 2) := by decide +kernel
theorem dX9_delta_39 : decode cX9_delta 39 = .ok (.aload_n 0, 1) := by decide +kernel
theorem dX9_delta_40 : decode cX9_delta 40 = .ok (.iload 7, 2) := by decide +kernel
theorem dX9_delta_42 : decode cX9_delta 42 = .ok (.iload_n 3, 1) := by decide +kernel
theorem dX9_delta_43 : decode cX9_delta 43 = .ok (.isub, 1) := by decide +kernel
theorem dX9_delta_44 : decode cX9_delta 44 = .ok (.invokevirtual 25, 3) := by decide +kernel
theorem dX9_delta_47 : decode cX9_delta 47 = .ok (.istore 8, 2) := by decide +kernel
theorem dX9_delta_49 : decode cX9_delta 49 = .ok (.aload_n 0, 1) := by decide +kernel
theorem dX9_delta_50 : decode cX9_delta 50 = .ok (.iload 7, 2) := by decide +kernel
theorem dX9_delta_52 : decode cX9_delta 52 = .ok (.iload 4, 2) := by decide +kernel
theorem dX9_delta_54 : decode cX9_delta 54 = .ok (.ifCond .eq 15, 3) := by decide +kernel
theorem dX9_delta_57 : decode cX9_delta 57 = .ok (.aload_n 0, 1) := by decide +kernel
theorem dX9_delta_58 : decode cX9_delta 58 = .ok (.iload 7, 2) := by decide +kernel
theorem dX9_delta_60 : decode cX9_delta 60 = .ok (.invokevirtual 25, 3) := by decide +kernel
theorem dX9_delta_63 : decode cX9_delta 63 = .ok (.iload 8, 2) := by decide +kernel
theorem dX9_delta_65 : decode cX9_delta 65 = .ok (.iadd, 1) := by decide +kernel
theorem dX9_delta_66 : decode cX9_delta 66 = .ok (.goto 12, 3) := by decide +kernel
theorem dX9_delta_69 : decode cX9_delta 69 = .ok (.aload_n 0, 1) := by decide +kernel
theorem dX9_delta_70 : decode cX9_delta 70 = .ok (.iload 7, 2) := by decide +kernel
theorem dX9_delta_72 : decode cX9_delta 72 = .ok (.invokevirtual 25, 3) := by decide +kernel
theorem dX9_delta_75 : decode cX9_delta 75 = .ok (.iload 8, 2) := by decide +kernel
theorem dX9_delta_77 : decode cX9_delta 77 = .ok (.isub, 1) := by decide +kernel
theorem dX9_delta_78 : decode cX9_delta 78 = .ok (.invokevirtual 17, 3) := by decide +kernel
theorem dX9_delta_81 : decode cX9_delta 81 = .ok (.iinc 6 1, 3) := by decide +kernel
theorem dX9_delta_84 : decode cX9_delta 84 = .ok (.goto (-74), 3) := by decide +kernel
theorem dX9_delta_87 : decode cX9_delta 87 = .ok (.return_, 1) := by decide +kernel
theorem dX9_branch_0 : decode cX9_branch 0 = .ok (.iload_n 1, 1) := by decide +kernel
theorem dX9_branch_1 : decode cX9_branch 1 = .ok (.istore 4, 2) := by decide +kernel
theorem dX9_branch_3 : decode cX9_branch 3 = .ok (.iload 4, 2) := by decide +kernel
theorem dX9_branch_5 : decode cX9_branch 5 = .ok (.iconst 3, 1) := by decide +kernel
theorem dX9_branch_6 : decode cX9_branch 6 = .ok (.iadd, 1) := by decide +kernel
theorem dX9_branch_7 : decode cX9_branch 7 = .ok (.iload_n 2, 1) := by decide +kernel
theorem dX9_branch_8 : decode cX9_branch 8 = .ok (.if_icmp .ge 121, 3) := by decide +kernel
theorem dX9_branch_11 : decode cX9_branch 11 = .ok (.aload_n 0, 1) := by decide +kernel
theorem dX9_branch_12 : decode cX9_branch 12 = .ok (.iload 4, 2) := by decide +kernel
theorem dX9_branch_14 : decode cX9_branch 14 = .ok (.iconst 3, 1) := by decide +kernel
theorem dX9_branch_15 : decode cX9_branch 15 = .ok (.iadd, 1) := by decide +kernel
theorem dX9_branch_16 : decode cX9_branch 16 = .ok (.invokevirtual 25, 3) := by decide +kernel
theorem dX9_branch_19 : decode cX9_branch 19 = .ok (.sipush 235, 3) := by decide +kernel
theorem dX9_branch_22 : decode cX9_branch 22 = .ok (.if_icmp .ne 101, 3) := by decide +kernel
theorem dX9_branch_25 : decode cX9_branch 25 = .ok (.aload_n 0, 1) := by decide +kernel
theorem dX9_branch_26 : decode cX9_branch 26 = .ok (.iload 4, 2) := by decide +kernel
theorem dX9_branch_28 : decode cX9_branch 28 = .ok (.invokevirtual 25, 3) := by decide +kernel
theorem dX9_branch_31 : decode cX9_branch 31 = .ok (.aload_n 0, 1) := by decide +kernel
theorem dX9_branch_32 : decode cX9_branch 32 = .ok (.iload 4, 2) := by decide +kernel
theorem dX9_branch_34 : decode cX9_branch 34 = .ok (.iconst 1, 1) := by decide +kernel
theorem dX9_branch_35 : decode cX9_branch 35 = .ok (.iadd, 1) := by decide +kernel
theorem dX9_branch_36 : decode cX9_branch 36 = .ok (.invokevirtual 25, 3) := by decide +kernel
theorem dX9_branch_39 : decode cX9_branch 39 = .ok (.bipush 8, 2) := by decide +kernel
theorem dX9_branch_41 : decode cX9_branch 41 = .ok (.ishl, 1) := by decide +kernel
theorem dX9_branch_42 : decode cX9_branch 42 = .ok (.ior, 1) := by decide +kernel
theorem dX9_branch_43 : decode cX9_branch 43 = .ok (.aload_n 0, 1) := by decide +kernel
theorem dX9_branch_44 : decode cX9_branch 44 = .ok (.iload 4, 2) := by decide +kernel
theorem dX9_branch_46 : decode cX9_branch 46 = .ok (.iconst 2, 1) := by decide +kernel
theorem dX9_branch_47 : decode cX9_branch 47 = .ok (.iadd, 1) := by decide +kernel
theorem dX9_branch_48 : decode cX9_branch 48 = .ok (.invokevirtual 25, 3) := by decide +kernel
theorem dX9_branch_51 : decode cX9_branch 51 = .ok (.bipush 16, 2) := by decide +kernel
theorem dX9_branch_53 : decode cX9_branch 53 = .ok (.ishl, 1) := by decide +kernel
theorem dX9_branch_54 : decode cX9_branch 54 = .ok (.ior, 1) := by decide +kernel
theorem dX9_branch_55 : decode cX9_branch 55 = .ok (.iconst 2, 1) := by decide +kernel
theorem dX9_branch_56 : decode cX9_branch 56 = .ok (.ishl, 1) := by decide +kernel
theorem dX9_branch_57 : decode cX9_branch 57 = .ok (.istore 5, 2) := by decide +kernel
theorem dX9_branch_59 : decode cX9_branch 59 = .ok (.iload 4, 2) := by decide +kernel
theorem dX9_branch_61 : decode cX9_branch 61 = .ok (.iload_n 1, 1) := by decide +kernel
theorem dX9_branch_62 : decode cX9_branch 62 = .ok (.isub, 1) := by decide +kernel
theorem dX9_branch_63 : decode cX9_branch 63 = .ok (.bipush 8, 2) := by decide +kernel
theorem dX9_branch_65 : decode cX9_branch 65 = .ok (.iadd, 1) := by decide +kernel
theorem dX9_branch_66 : decode cX9_branch 66 = .ok (.istore 6, 2) := by decide +kernel
theorem dX9_branch_68 : decode cX9_branch 68 = .ok (.iload_n 3, 1) := by decide +kernel
theorem dX9_branch_69 : decode cX9_branch 69 = .ok (.ifCond .eq 11, 3) := by decide +kernel
theorem dX9_branch_72 : decode cX9_branch 72 = .ok (.iload 5, 2) := by decide +kernel
theorem dX9_branch_74 : decode cX9_branch 74 = .ok (.iload 6, 2) := by decide +kernel
theorem dX9_branch_76 : decode cX9_branch 76 = .ok (.isub, 1) := by decide +kernel
theorem dX9_branch_77 : decode cX9_branch 77 = .ok (.goto 8, 3) := by decide +kernel
theorem dX9_branch_80 : decode cX9_branch 80 = .ok (.iload 5, 2) := by decide +kernel
theorem dX9_branch_82 : decode cX9_branch 82 = .ok (.iload 6, 2) := by decide +kernel
theorem dX9_branch_84 : decode cX9_branch 84 = .ok (.iadd, 1) := by decide +kernel
theorem dX9_branch_85 : decode cX9_branch 85 = .ok (.iconst 2, 1) := by decide +kernel
theorem dX9_branch_86 : decode cX9_branch 86 = .ok (.iushr, 1) := by decide +kernel
theorem dX9_branch_87 : decode cX9_branch 87 = .ok (.istore 7, 2) := by decide +kernel
theorem dX9_branch_89 : decode cX9_branch 89 = .ok (.aload_n 0, 1) := by decide +kernel
theorem dX9_branch_90 : decode cX9_branch 90 = .ok (.iload 4, 2) := by decide +kernel
theorem dX9_branch_92 : decode cX9_branch 92 = .ok (.iload 7, 2) := by decide +kernel
theorem dX9_branch_94 : decode cX9_branch 94 = .ok (.invokevirtual 17, 3) := by decide +kernel
theorem dX9_branch_97 : decode cX9_branch 97 = .ok (.aload_n 0, 1) := by decide +kernel
theorem dX9_branch_98 : decode cX9_branch 98 = .ok (.iload 4, 2) := by decide +kernel
theorem dX9_branch_100 : decode cX9_branch 100 = .ok (.iconst 1, 1) := by decide +kernel
theorem dX9_branch_101 : decode cX9_branch 101 = .ok (.iadd, 1) := by decide +kernel
theorem dX9_branch_102 : decode cX9_branch 102 = .ok (.iload 7, 2) := by decide +kernel
theorem dX9_branch_104 : decode cX9_branch 104 = .ok (.bipush 8, 2) := by decide +kernel
theorem dX9_branch_106 : decode cX9_branch 106 = .ok (.iushr, 1) := by decide +kernel
theorem dX9_branch_107 : decode cX9_branch 107 = .ok (.invokevirtual 17, 3) := by decide +kernel
theorem dX9_branch_110 : decode cX9_branch 110 = .ok (.aload_n 0, 1) := by decide +kernel
theorem dX9_branch_111 : decode cX9_branch 111 = .ok (.iload 4, 2) := by decide +kernel
theorem dX9_branch_113 : decode cX9_branch 113 = .ok (.iconst 2, 1) := by decide +kernel
theorem dX9_branch_114 : decode cX9_branch 114 = .ok (.iadd, 1) := by decide +kernel
theorem dX9_branch_115 : decode cX9_branch 115 = .ok (.iload 7, 2) := by decide +kernel
theorem dX9_branch_117 : decode cX9_branch 117 = .ok (.bipush 16, 2) := by decide +kernel
theorem dX9_branch_119 : decode cX9_branch 119 = .ok (.iushr, 1) := by decide +kernel
theorem dX9_branch_120 : decode cX9_branch 120 = .ok (.invokevirtual 17, 3) := by decide +kernel
theorem dX9_branch_123 : decode cX9_branch 123 = .ok (.iinc 4 4, 3) := by decide +kernel
theorem dX9_branch_126 : decode cX9_branch 126 = .ok (.goto (-123), 3) := by decide +kernel
theorem dX9_branch_129 : decode cX9_branch 129 = .ok (.return_, 1) := by decide +kernel
theorem dX10_init_0 : decode cX10_init 0 = .ok (.aload_n 0, 1) := by decide +kernel
theorem dX10_init_1 : decode cX10_init 1 = .ok (.invokespecial 3, 3) := by decide +kernel
theorem dX10_init_4 : decode cX10_init 4 = .ok (.aload_n 0, 1) := by decide +kernel
theorem dX10_init_5 : decode cX10_init 5 = .ok (.iconst 3, 1) := by decide +kernel
theorem dX10_init_6 : decode cX10_init 6 = .ok (.putfield 9, 3) := by decide +kernel
theorem dX10_init_9 : decode cX10_init 9 = .ok (.aload_n 0, 1) := by decide +kernel
theorem dX10_init_10 : decode cX10_init 10 = .ok (.iconst 0, 1) := by decide +kernel
theorem dX10_init_11 : decode cX10_init 11 = .ok (.putfield 15, 3) := by decide +kernel
theorem dX10_init_14 : decode cX10_init 14 = .ok (.aload_n 0, 1) := by decide +kernel
theorem dX10_init_15 : decode cX10_init 15 = .ok (.iconst 2, 1) := by decide +kernel
theorem dX10_init_16 : decode cX10_init 16 = .ok (.putfield 18, 3) := by decide +kernel
theorem dX10_init_19 : decode cX10_init 19 = .ok (.aload_n 0, 1) := by decide +kernel
theorem dX10_init_20 : decode cX10_init 20 = .ok (.sipush 4096, 3) := by decide +kernel
theorem dX10_init_23 : decode cX10_init 23 = .ok (.putfield 21, 3) := by decide +kernel
theorem dX10_init_26 : decode cX10_init 26 = .ok (.aload_n 0, 1) := by decide +kernel
theorem dX10_init_27 : decode cX10_init 27 = .ok (.sipush 512, 3) := by decide +kernel
theorem dX10_init_30 : decode cX10_init 30 = .ok (.putfield 24, 3) := by decide +kernel
theorem dX10_init_33 : decode cX10_init 33 = .ok (.aload_n 0, 1) := by decide +kernel
theorem dX10_init_34 : decode cX10_init 34 = .ok (.sipush 1024, 3) := by decide +kernel
theorem dX10_init_37 : decode cX10_init 37 = .ok (.putfield 27, 3) := by decide +kernel
theorem dX10_init_40 : decode cX10_init 40 = .ok (.aload_n 0, 1) := by decide +kernel
theorem dX10_init_41 : decode cX10_init 41 = .ok (.iconst 1, 1) := by decide +kernel
theorem dX10_init_42 : decode cX10_init 42 = .ok (.putfield 30, 3) := by decide +kernel
theorem dX10_init_45 : decode cX10_init 45 = .ok (.return_, 1) := by decide +kernel
theorem dX10_setCoding_0 : decode cX10_setCoding 0 = .ok (.iload_n 1, 1) := by decide +kernel
theorem dX10_setCoding_1 : decode cX10_setCoding 1 = .ok (.ifCond .ne 24, 3) := by decide +kernel
theorem dX10_setCoding_4 : decode cX10_setCoding 4 = .ok (.iload_n 2, 1) := by decide +kernel
theorem dX10_setCoding_5 : decode cX10_setCoding 5 = .ok (.ifCond .lt 20, 3) := by decide +kernel
theorem dX10_setCoding_8 : decode cX10_setCoding 8 = .ok (.iload_n 2, 1) := by decide +kernel
theorem dX10_setCoding_9 : decode cX10_setCoding 9 = .ok (.iconst 4, 1) := by decide +kernel
theorem dX10_setCoding_10 : decode cX10_setCoding 10 = .ok (.aload_n 0, 1) := by decide +kernel
theorem dX10_setCoding_11 : decode cX10_setCoding 11 = .ok (.getfield 15, 3) := by decide +kernel
theorem dX10_setCoding_14 : decode cX10_setCoding 14 = .ok (.isub, 1) := by decide +kernel
theorem dX10_setCoding_15 : decode cX10_setCoding 15 = .ok (.if_icmp .gt 10, 3) := by decide +kernel
theorem dX10_setCoding_18 : decode cX10_setCoding 18 = .ok (.aload_n 0, 1) := by decide +kernel
theorem dX10_setCoding_19 : decode cX10_setCoding 19 = .ok (.iload_n 2, 1) := by decide +kernel
theorem dX10_setCoding_20 : decode cX10_setCoding 20 = .ok (.putfield 9, 3) := by decide +kernel
theorem dX10_setCoding_23 : decode cX10_setCoding 23 = .ok (.iconst 1, 1) := by decide +kernel
theorem dX10_setCoding_24 : decode cX10_setCoding 24 = .ok (.ireturn, 1) := by decide +kernel
theorem dX10_setCoding_25 : decode cX10_setCoding 25 = .ok (.iload_n 1, 1) := by decide +kernel
theorem dX10_setCoding_26 : decode cX10_setCoding 26 = .ok (.iconst 1, 1) := by decide +kernel
theorem dX10_setCoding_27 : decode cX10_setCoding 27 = .ok (.if_icmp .ne 24, 3) := by decide +kernel
theorem dX10_setCoding_30 : decode cX10_setCoding 30 = .ok (.iload_n 2, 1) := by decide +kernel
theorem dX10_setCoding_31 : decode cX10_setCoding 31 = .ok (.ifCond .lt 20, 3) := by decide +kernel
theorem dX10_setCoding_34 : decode cX10_setCoding 34 = .ok (.iload_n 2, 1) := by decide +kernel
theorem dX10_setCoding_35 : decode cX10_setCoding 35 = .ok (.iconst 4, 1) := by decide +kernel
theorem dX10_setCoding_36 : decode cX10_setCoding 36 = .ok (.aload_n 0, 1) := by decide +kernel
theorem dX10_setCoding_37 : decode cX10_setCoding 37 = .ok (.getfield 9, 3) := by decide +kernel
theorem dX10_setCoding_40 : decode cX10_setCoding 40 = .ok (.isub, 1) := by decide +kernel
theorem dX10_setCoding_41 : decode cX10_setCoding 41 = .ok (.if_icmp .gt 10, 3) := by decide +kernel
theorem dX10_setCoding_44 : decode cX10_setCoding 44 = .ok (.aload_n 0, 1) := by decide +kernel
theorem dX10_setCoding_45 : decode cX10_setCoding 45 = .ok (.iload_n 2, 1) := by decide +kernel
theorem dX10_setCoding_46 : decode cX10_setCoding 46 = .ok (.putfield 15, 3) := by decide +kernel
theorem dX10_setCoding_49 : decode cX10_setCoding 49 = .ok (.iconst 1, 1) := by decide +kernel
theorem dX10_setCoding_50 : decode cX10_setCoding 50 = .ok (.ireturn, 1) := by decide +kernel
theorem dX10_setCoding_51 : decode cX10_setCoding 51 = .ok (.iload_n 1, 1) := by decide +kernel
theorem dX10_setCoding_52 : decode cX10_setCoding 52 = .ok (.iconst 2, 1) := by decide +kernel
theorem dX10_setCoding_53 : decode cX10_setCoding 53 = .ok (.if_icmp .ne 19, 3) := by decide +kernel
theorem dX10_setCoding_56 : decode cX10_setCoding 56 = .ok (.iload_n 2, 1) := by decide +kernel
theorem dX10_setCoding_57 : decode cX10_setCoding 57 = .ok (.ifCond .lt 15, 3) := by decide +kernel
theorem dX10_setCoding_60 : decode cX10_setCoding 60 = .ok (.iload_n 2, 1) := by decide +kernel
theorem dX10_setCoding_61 : decode cX10_setCoding 61 = .ok (.iconst 4, 1) := by decide +kernel
theorem dX10_setCoding_62 : decode cX10_setCoding 62 = .ok (.if_icmp .gt 10, 3) := by decide +kernel
theorem dX10_setCoding_65 : decode cX10_setCoding 65 = .ok (.aload_n 0, 1) := by decide +kernel
theorem dX10_setCoding_66 : decode cX10_setCoding 66 = .ok (.iload_n 2, 1) := by decide +kernel
theorem dX10_setCoding_67 : decode cX10_setCoding 67 = .ok (.putfield 18, 3) := by decide +kernel
theorem dX10_setCoding_70 : decode cX10_setCoding 70 = .ok (.iconst 1, 1) := by decide +kernel
theorem dX10_setCoding_71 : decode cX10_setCoding 71 = .ok (.ireturn, 1) := by decide +kernel
theorem dX10_setCoding_72 : decode cX10_setCoding 72 = .ok (.iload_n 1, 1) := by decide +kernel
theorem dX10_setCoding_73 : decode cX10_setCoding 73 = .ok (.iconst 3, 1) := by decide +kernel
theorem dX10_setCoding_74 : decode cX10_setCoding 74 = .ok (.if_icmp .ne 32, 3) := by decide +kernel
theorem dX10_setCoding_77 : decode cX10_setCoding 77 = .ok (.iload_n 2, 1) := by decide +kernel
theorem dX10_setCoding_78 : decode cX10_setCoding 78 = .ok (.iload_n 3, 1) := by decide +kernel
theorem dX10_setCoding_79 : decode cX10_setCoding 79 = .ok (.ifCond .eq 9, 3) := by decide +kernel
theorem dX10_setCoding_82 : decode cX10_setCoding 82 = .ok (.sipush 4096, 3) := by decide +kernel
theorem dX10_setCoding_85 : decode cX10_setCoding 85 = .ok (.goto 4, 3) := by decide +kernel
theorem dX10_setCoding_88 : decode cX10_setCoding 88 = .ok (.iconst 1, 1) := by decide +kernel
theorem dX10_setCoding_89 : decode cX10_setCoding 89 = .ok (.if_icmp .lt 17, 3) := by decide +kernel
theorem dX10_setCoding_92 : decode cX10_setCoding 92 = .ok (.iload_n 2, 1) := by decide +kernel
theorem dX10_setCoding_93 : decode cX10_setCoding 93 = .ok (.sipush 4096, 3) := by decide +kernel
theorem dX10_setCoding_96 : decode cX10_setCoding 96 = .ok (.if_icmp .gt 10, 3) := by decide +kernel
theorem dX10_setCoding_99 : decode cX10_setCoding 99 = .ok (.aload_n 0, 1) := by decide +kernel
theorem dX10_setCoding_100 : decode cX10_setCoding 100 = .ok (.iload_n 2, 1) := by decide +kernel
theorem dX10_setCoding_101 : decode cX10_setCoding 101 = .ok (.putfield 21, 3) := by decide +kernel
theorem dX10_setCoding_104 : decode cX10_setCoding 104 = .ok (.iconst 1, 1) := by decide +kernel
theorem dX10_setCoding_105 : decode cX10_setCoding 105 = .ok (.ireturn, 1) := by decide +kernel
theorem dX10_setCoding_106 : decode cX10_setCoding 106 = .ok (.iconst 0, 1) := by decide +kernel
theorem dX10_setCoding_107 : decode cX10_setCoding 107 = .ok (.ireturn, 1) := by decide +kernel
theorem dX10_setShape_0 : decode cX10_setShape 0 = .ok (.iload_n 1, 1) := by decide +kernel
theorem dX10_setShape_1 : decode cX10_setShape 1 = .ok (.iconst 4, 1) := by decide +kernel
theorem dX10_setShape_2 : decode cX10_setShape 2 = .ok (.if_icmp .ne 22, 3) := by decide +kernel
theorem dX10_setShape_5 : decode cX10_setShape 5 = .ok (.iload_n 2, 1) := by decide +kernel
theorem dX10_setShape_6 : decode cX10_setShape 6 = .ok (.iconst 1, 1) := by decide +kernel
theorem dX10_setShape_7 : decode cX10_setShape 7 = .ok (.if_icmp .lt 17, 3) := by decide +kernel
theorem dX10_setShape_10 : decode cX10_setShape 10 = .ok (.iload_n 2, 1) := by decide +kernel
theorem dX10_setShape_11 : decode cX10_setShape 11 = .ok (.sipush 1500, 3) := by decide +kernel
theorem dX10_setShape_14 : decode cX10_setShape 14 = .ok (.if_icmp .gt 10, 3) := by decide +kernel
theorem dX10_setShape_17 : decode cX10_setShape 17 = .ok (.aload_n 0, 1) := by decide +kernel
theorem dX10_setShape_18 : decode cX10_setShape 18 = .ok (.iload_n 2, 1) := by decide +kernel
theorem dX10_setShape_19 : decode cX10_setShape 19 = .ok (.putfield 24, 3) := by decide +kernel
theorem dX10_setShape_22 : decode cX10_setShape 22 = .ok (.iconst 1, 1) := by decide +kernel
theorem dX10_setShape_23 : decode cX10_setShape 23 = .ok (.ireturn, 1) := by decide +kernel
theorem dX10_setShape_24 : decode cX10_setShape 24 = .ok (.iload_n 1, 1) := by decide +kernel
theorem dX10_setShape_25 : decode cX10_setShape 25 = .ok (.iconst 5, 1) := by decide +kernel
theorem dX10_setShape_26 : decode cX10_setShape 26 = .ok (.if_icmp .ne 22, 3) := by decide +kernel
theorem dX10_setShape_29 : decode cX10_setShape 29 = .ok (.iload_n 2, 1) := by decide +kernel
theorem dX10_setShape_30 : decode cX10_setShape 30 = .ok (.iconst 1, 1) := by decide +kernel
theorem dX10_setShape_31 : decode cX10_setShape 31 = .ok (.if_icmp .lt 17, 3) := by decide +kernel
theorem dX10_setShape_34 : decode cX10_setShape 34 = .ok (.iload_n 2, 1) := by decide +kernel
theorem dX10_setShape_35 : decode cX10_setShape 35 = .ok (.sipush 1500, 3) := by decide +kernel
theorem dX10_setShape_38 : decode cX10_setShape 38 = .ok (.if_icmp .gt 10, 3) := by decide +kernel
theorem dX10_setShape_41 : decode cX10_setShape 41 = .ok (.aload_n 0, 1) := by decide +kernel
theorem dX10_setShape_42 : decode cX10_setShape 42 = .ok (.iload_n 2, 1) := by decide +kernel
theorem dX10_setShape_43 : decode cX10_setShape 43 = .ok (.putfield 27, 3) := by decide +kernel
theorem dX10_setShape_46 : decode cX10_setShape 46 = .ok (.iconst 1, 1) := by decide +kernel
theorem dX10_setShape_47 : decode cX10_setShape 47 = .ok (.ireturn, 1) := by decide +kernel
theorem dX10_setShape_48 : decode cX10_setShape 48 = .ok (.iload_n 1, 1) := by decide +kernel
theorem dX10_setShape_49 : decode cX10_setShape 49 = .ok (.bipush 6, 2) := by decide +kernel
theorem dX10_setShape_51 : decode cX10_setShape 51 = .ok (.if_icmp .ne 17, 3) := by decide +kernel
theorem dX10_setShape_54 : decode cX10_setShape 54 = .ok (.iload_n 2, 1) := by decide +kernel
theorem dX10_setShape_55 : decode cX10_setShape 55 = .ok (.invokestatic 33, 3) := by decide +kernel
theorem dX10_setShape_58 : decode cX10_setShape 58 = .ok (.ifCond .eq 10, 3) := by decide +kernel
theorem dX10_setShape_61 : decode cX10_setShape 61 = .ok (.aload_n 0, 1) := by decide +kernel
theorem dX10_setShape_62 : decode cX10_setShape 62 = .ok (.iload_n 2, 1) := by decide +kernel
theorem dX10_setShape_63 : decode cX10_setShape 63 = .ok (.putfield 30, 3) := by decide +kernel
theorem dX10_setShape_66 : decode cX10_setShape 66 = .ok (.iconst 1, 1) := by decide +kernel
theorem dX10_setShape_67 : decode cX10_setShape 67 = .ok (.ireturn, 1) := by decide +kernel
theorem dX10_setShape_68 : decode cX10_setShape 68 = .ok (.iload_n 1, 1) := by decide +kernel
theorem dX10_setShape_69 : decode cX10_setShape 69 = .ok (.bipush 7, 2) := by decide +kernel
theorem dX10_setShape_71 : decode cX10_setShape 71 = .ok (.if_icmp .ne 19, 3) := by decide +kernel
theorem dX10_setShape_74 : decode cX10_setShape 74 = .ok (.iload_n 2, 1) := by decide +kernel
theorem dX10_setShape_75 : decode cX10_setShape 75 = .ok (.ifCond .eq 8, 3) := by decide +kernel
theorem dX10_setShape_78 : decode cX10_setShape 78 = .ok (.iload_n 2, 1) := by decide +kernel
theorem dX10_setShape_79 : decode cX10_setShape 79 = .ok (.iconst 1, 1) := by decide +kernel
theorem dX10_setShape_80 : decode cX10_setShape 80 = .ok (.if_icmp .ne 10, 3) := by decide +kernel
theorem dX10_setShape_83 : decode cX10_setShape 83 = .ok (.aload_n 0, 1) := by decide +kernel
theorem dX10_setShape_84 : decode cX10_setShape 84 = .ok (.iload_n 2, 1) := by decide +kernel
theorem dX10_setShape_85 : decode cX10_setShape 85 = .ok (.putfield 39, 3) := by decide +kernel
theorem dX10_setShape_88 : decode cX10_setShape 88 = .ok (.iconst 1, 1) := by decide +kernel
theorem dX10_setShape_89 : decode cX10_setShape 89 = .ok (.ireturn, 1) := by decide +kernel
theorem dX10_setShape_90 : decode cX10_setShape 90 = .ok (.iconst 0, 1) := by decide +kernel
theorem dX10_setShape_91 : decode cX10_setShape 91 = .ok (.ireturn, 1) := by decide +kernel
theorem dX10_setFilter_0 : decode cX10_setFilter 0 = .ok (.iload_n 1, 1) := by decide +kernel
theorem dX10_setFilter_1 : decode cX10_setFilter 1 = .ok (.ifCond .ne 21, 3) := by decide +kernel
theorem dX10_setFilter_4 : decode cX10_setFilter 4 = .ok (.iload_n 2, 1) := by decide +kernel
theorem dX10_setFilter_5 : decode cX10_setFilter 5 = .ok (.ifCond .lt 17, 3) := by decide +kernel
theorem dX10_setFilter_8 : decode cX10_setFilter 8 = .ok (.iload_n 2, 1) := by decide +kernel
theorem dX10_setFilter_9 : decode cX10_setFilter 9 = .ok (.sipush 256, 3) := by decide +kernel
theorem dX10_setFilter_12 : decode cX10_setFilter 12 = .ok (.if_icmp .gt 10, 3) := by decide +kernel
theorem dX10_setFilter_15 : decode cX10_setFilter 15 = .ok (.aload_n 0, 1) := by decide +kernel
theorem dX10_setFilter_16 : decode cX10_setFilter 16 = .ok (.iload_n 2, 1) := by decide +kernel
theorem dX10_setFilter_17 : decode cX10_setFilter 17 = .ok (.putfield 42, 3) := by decide +kernel
theorem dX10_setFilter_20 : decode cX10_setFilter 20 = .ok (.iconst 1, 1) := by decide +kernel
theorem dX10_setFilter_21 : decode cX10_setFilter 21 = .ok (.ireturn, 1) := by decide +kernel
theorem dX10_setFilter_22 : decode cX10_setFilter 22 = .ok (.iload_n 1, 1) := by decide +kernel
theorem dX10_setFilter_23 : decode cX10_setFilter 23 = .ok (.iconst 1, 1) := by decide +kernel
theorem dX10_setFilter_24 : decode cX10_setFilter 24 = .ok (.if_icmp .ne 19, 3) := by decide +kernel
theorem dX10_setFilter_27 : decode cX10_setFilter 27 = .ok (.iload_n 2, 1) := by decide +kernel
theorem dX10_setFilter_28 : decode cX10_setFilter 28 = .ok (.ifCond .eq 8, 3) := by decide +kernel
theorem dX10_setFilter_31 : decode cX10_setFilter 31 = .ok (.iload_n 2, 1) := by decide +kernel
theorem dX10_setFilter_32 : decode cX10_setFilter 32 = .ok (.iconst 1, 1) := by decide +kernel
theorem dX10_setFilter_33 : decode cX10_setFilter 33 = .ok (.if_icmp .ne 10, 3) := by decide +kernel
theorem dX10_setFilter_36 : decode cX10_setFilter 36 = .ok (.aload_n 0, 1) := by decide +kernel
theorem dX10_setFilter_37 : decode cX10_setFilter 37 = .ok (.iload_n 2, 1) := by decide +kernel
theorem dX10_setFilter_38 : decode cX10_setFilter 38 = .ok (.putfield 45, 3) := by decide +kernel
theorem dX10_setFilter_41 : decode cX10_setFilter 41 = .ok (.iconst 1, 1) := by decide +kernel
theorem dX10_setFilter_42 : decode cX10_setFilter 42 = .ok (.ireturn, 1) := by decide +kernel
theorem dX10_setFilter_43 : decode cX10_setFilter 43 = .ok (.iconst 0, 1) := by decide +kernel
theorem dX10_setFilter_44 : decode cX10_setFilter 44 = .ok (.ireturn, 1) := by decide +kernel
theorem dX10_propertyByte_0 : decode cX10_propertyByte 0 = .ok (.aload_n 0, 1) := by decide +kernel
theorem dX10_propertyByte_1 : decode cX10_propertyByte 1 = .ok (.getfield 18, 3) := by decide +kernel
theorem dX10_propertyByte_4 : decode cX10_propertyByte 4 = .ok (.iconst 5, 1) := by decide +kernel
theorem dX10_propertyByte_5 : decode cX10_propertyByte 5 = .ok (.imul, 1) := by decide +kernel
theorem dX10_propertyByte_6 : decode cX10_propertyByte 6 = .ok (.aload_n 0, 1) := by decide +kernel
theorem dX10_propertyByte_7 : decode cX10_propertyByte 7 = .ok (.getfield 15, 3) := by decide +kernel
theorem dX10_propertyByte_10 : decode cX10_propertyByte 10 = .ok (.iadd, 1) := by decide +kernel
theorem dX10_propertyByte_11 : decode cX10_propertyByte 11 = .ok (.bipush 9, 2) := by decide +kernel
theorem dX10_propertyByte_13 : decode cX10_propertyByte 13 = .ok (.imul, 1) := by decide +kernel
theorem dX10_propertyByte_14 : decode cX10_propertyByte 14 = .ok (.aload_n 0, 1) := by decide +kernel
theorem dX10_propertyByte_15 : decode cX10_propertyByte 15 = .ok (.getfield 9, 3) := by decide +kernel
theorem dX10_propertyByte_18 : decode cX10_propertyByte 18 = .ok (.iadd, 1) := by decide +kernel
theorem dX10_propertyByte_19 : decode cX10_propertyByte 19 = .ok (.ireturn, 1) := by decide +kernel
theorem dX11_init_0 : decode cX11_init 0 = .ok (.aload_n 0, 1) := by decide +kernel
theorem dX11_init_1 : decode cX11_init 1 = .ok (.invokespecial 1, 3) := by decide +kernel
theorem dX11_init_4 : decode cX11_init 4 = .ok (.aload_n 0, 1) := by decide +kernel
theorem dX11_init_5 : decode cX11_init 5 = .ok (.iload_n 1, 1) := by decide +kernel
theorem dX11_init_6 : decode cX11_init 6 = .ok (.iconst 1, 1) := by decide +kernel
theorem dX11_init_7 : decode cX11_init 7 = .ok (.if_icmp .eq 8, 3) := by decide +kernel
theorem dX11_init_10 : decode cX11_init 10 = .ok (.iload_n 1, 1) := by decide +kernel
theorem dX11_init_11 : decode cX11_init 11 = .ok (.iconst 2, 1) := by decide +kernel
theorem dX11_init_12 : decode cX11_init 12 = .ok (.if_icmp .ne 7, 3) := by decide +kernel
theorem dX11_init_15 : decode cX11_init 15 = .ok (.iload_n 1, 1) := by decide +kernel
theorem dX11_init_16 : decode cX11_init 16 = .ok (.goto 4, 3) := by decide +kernel
theorem dX11_init_19 : decode cX11_init 19 = .ok (.iconst 0, 1) := by decide +kernel
theorem dX11_init_20 : decode cX11_init 20 = .ok (.putfield 9, 3) := by decide +kernel
theorem dX11_init_23 : decode cX11_init 23 = .ok (.aload_n 0, 1) := by decide +kernel
theorem dX11_init_24 : decode cX11_init 24 = .ok (.new 13, 3) := by decide +kernel
theorem dX11_init_27 : decode cX11_init 27 = .ok (.dup, 1) := by decide +kernel
theorem dX11_init_28 : decode cX11_init 28 = .ok (.invokespecial 15, 3) := by decide +kernel
theorem dX11_init_31 : decode cX11_init 31 = .ok (.putfield 16, 3) := by decide +kernel
theorem dX11_init_34 : decode cX11_init 34 = .ok (.aload_n 0, 1) := by decide +kernel
theorem dX11_init_35 : decode cX11_init 35 = .ok (.new 20, 3) := by decide +kernel
theorem dX11_init_38 : decode cX11_init 38 = .ok (.dup, 1) := by decide +kernel
theorem dX11_init_39 : decode cX11_init 39 = .ok (.sipush 1500, 3) := by decide +kernel
theorem dX11_init_42 : decode cX11_init 42 = .ok (.invokespecial 22, 3) := by decide +kernel
theorem dX11_init_45 : decode cX11_init 45 = .ok (.putfield 25, 3) := by decide +kernel
theorem dX11_init_48 : decode cX11_init 48 = .ok (.aload_n 0, 1) := by decide +kernel
theorem dX11_init_49 : decode cX11_init 49 = .ok (.new 20, 3) := by decide +kernel
theorem dX11_init_52 : decode cX11_init 52 = .ok (.dup, 1) := by decide +kernel
theorem dX11_init_53 : decode cX11_init 53 = .ok (.sipush 3000, 3) := by decide +kernel
theorem dX11_init_56 : decode cX11_init 56 = .ok (.invokespecial 22, 3) := by decide +kernel
theorem dX11_init_59 : decode cX11_init 59 = .ok (.putfield 29, 3) := by decide +kernel
theorem dX11_init_62 : decode cX11_init 62 = .ok (.new 32, 3) := by decide +kernel
theorem dX11_init_65 : decode cX11_init 65 = .ok (.dup, 1) := by decide +kernel
theorem dX11_init_66 : decode cX11_init 66 = .ok (.aload_n 0, 1) := by decide +kernel
theorem dX11_init_67 : decode cX11_init 67 = .ok (.getfield 25, 3) := by decide +kernel
theorem dX11_init_70 : decode cX11_init 70 = .ok (.invokespecial 34, 3) := by decide +kernel
theorem dX11_init_73 : decode cX11_init 73 = .ok (.astore_n 2, 1) := by decide +kernel
theorem dX11_init_74 : decode cX11_init 74 = .ok (.aload_n 0, 1) := by decide +kernel
theorem dX11_init_75 : decode cX11_init 75 = .ok (.new 37, 3) := by decide +kernel
theorem dX11_init_78 : decode cX11_init 78 = .ok (.dup, 1) := by decide +kernel
theorem dX11_init_79 : decode cX11_init 79 = .ok (.new 39, 3) := by decide +kernel
theorem dX11_init_82 : decode cX11_init 82 = .ok (.dup, 1) := by decide +kernel
theorem dX11_init_83 : decode cX11_init 83 = .ok (.aload_n 2, 1) := by decide +kernel
theorem dX11_init_84 : decode cX11_init 84 = .ok (.aload_n 0, 1) := by decide +kernel
theorem dX11_init_85 : decode cX11_init 85 = .ok (.getfield 29, 3) := by decide +kernel
theorem dX11_init_88 : decode cX11_init 88 = .ok (.invokespecial 41, 3) := by decide +kernel
theorem dX11_init_91 : decode cX11_init 91 = .ok (.invokespecial 44, 3) := by decide +kernel
theorem dX11_init_94 : decode cX11_init 94 = .ok (.putfield 47, 3) := by decide +kernel
theorem dX11_init_97 : decode cX11_init 97 = .ok (.aload_n 0, 1) := by decide +kernel
theorem dX11_init_98 : decode cX11_init 98 = .ok (.new 51, 3) := by decide +kernel
theorem dX11_init_101 : decode cX11_init 101 = .ok (.dup, 1) := by decide +kernel
theorem dX11_init_102 : decode cX11_init 102 = .ok (.invokespecial 53, 3) := by decide +kernel
theorem dX11_init_105 : decode cX11_init 105 = .ok (.putfield 54, 3) := by decide +kernel
theorem dX11_init_108 : decode cX11_init 108 = .ok (.aload_n 0, 1) := by decide +kernel
theorem dX11_init_109 : decode cX11_init 109 = .ok (.new 58, 3) := by decide +kernel
theorem dX11_init_112 : decode cX11_init 112 = .ok (.dup, 1) := by decide +kernel
theorem dX11_init_113 : decode cX11_init 113 = .ok (.invokespecial 60, 3) := by decide +kernel
theorem dX11_init_116 : decode cX11_init 116 = .ok (.putfield 61, 3) := by decide +kernel
theorem dX11_init_119 : decode cX11_init 119 = .ok (.aload_n 0, 1) := by decide +kernel
theorem dX11_init_120 : decode cX11_init 120 = .ok (.new 65, 3) := by decide +kernel
theorem dX11_init_123 : decode cX11_init 123 = .ok (.dup, 1) := by decide +kernel
theorem dX11_init_124 : decode cX11_init 124 = .ok (.aload_n 0, 1) := by decide +kernel
theorem dX11_init_125 : decode cX11_init 125 = .ok (.getfield 16, 3) := by decide +kernel
theorem dX11_init_128 : decode cX11_init 128 = .ok (.aload_n 0, 1) := by decide +kernel
theorem dX11_init_129 : decode cX11_init 129 = .ok (.getfield 25, 3) := by decide +kernel
theorem dX11_init_132 : decode cX11_init 132 = .ok (.aload_n 0, 1) := by decide +kernel
theorem dX11_init_133 : decode cX11_init 133 = .ok (.getfield 29, 3) := by decide +kernel
theorem dX11_init_136 : decode cX11_init 136 = .ok (.aload_n 0, 1) := by decide +kernel
theorem dX11_init_137 : decode cX11_init 137 = .ok (.getfield 47, 3) := by decide +kernel
theorem dX11_init_140 : decode cX11_init 140 = .ok (.aload_n 0, 1) := by decide +kernel
theorem dX11_init_141 : decode cX11_init 141 = .ok (.getfield 54, 3) := by decide +kernel
theorem dX11_init_144 : decode cX11_init 144 = .ok (.aload_n 0, 1) := by decide +kernel
theorem dX11_init_145 : decode cX11_init 145 = .ok (.getfield 61, 3) := by decide +kernel
theorem dX11_init_148 : decode cX11_init 148 = .ok (.invokespecial 67, 3) := by decide +kernel
theorem dX11_init_151 : decode cX11_init 151 = .ok (.putfield 70, 3) := by decide +kernel
theorem dX11_init_154 : decode cX11_init 154 = .ok (.aload_n 0, 1) := by decide +kernel
theorem dX11_init_155 : decode cX11_init 155 = .ok (.new 74, 3) := by decide +kernel
theorem dX11_init_158 : decode cX11_init 158 = .ok (.dup, 1) := by decide +kernel
theorem dX11_init_159 : decode cX11_init 159 = .ok (.aload_n 2, 1) := by decide +kernel
theorem dX11_init_160 : decode cX11_init 160 = .ok (.aload_n 0, 1) := by decide +kernel
theorem dX11_init_161 : decode cX11_init 161 = .ok (.getfield 29, 3) := by decide +kernel
theorem dX11_init_164 : decode cX11_init 164 = .ok (.aload_n 0, 1) := by decide +kernel
theorem dX11_init_165 : decode cX11_init 165 = .ok (.getfield 47, 3) := by decide +kernel
theorem dX11_init_168 : decode cX11_init 168 = .ok (.aload_n 0, 1) := by decide +kernel
theorem dX11_init_169 : decode cX11_init 169 = .ok (.getfield 54, 3) := by decide +kernel
theorem dX11_init_172 : decode cX11_init 172 = .ok (.aload_n 0, 1) := by decide +kernel
theorem dX11_init_173 : decode cX11_init 173 = .ok (.getfield 61, 3) := by decide +kernel
theorem dX11_init_176 : decode cX11_init 176 = .ok (.invokespecial 76, 3) := by decide +kernel
theorem dX11_init_179 : decode cX11_init 179 = .ok (.putfield 79, 3) := by decide +kernel
theorem dX11_init_182 : decode cX11_init 182 = .ok (.aload_n 0, 1) := by decide +kernel
theorem dX11_init_183 : decode cX11_init 183 = .ok (.iconst 0, 1) := by decide +kernel
theorem dX11_init_184 : decode cX11_init 184 = .ok (.putfield 83, 3) := by decide +kernel
theorem dX11_init_187 : decode cX11_init 187 = .ok (.aload_n 0, 1) := by decide +kernel
theorem dX11_init_188 : decode cX11_init 188 = .ok (.iconst (-1), 1) := by decide +kernel
theorem dX11_init_189 : decode cX11_init 189 = .ok (.putfield 86, 3) := by decide +kernel
theorem dX11_init_192 : decode cX11_init 192 = .ok (.return_, 1) := by decide +kernel
theorem dX11_property_0 : decode cX11_property 0 = .ok (.iload_n 1, 1) := by decide +kernel
theorem dX11_property_1 : decode cX11_property 1 = .ok (.iconst 4, 1) := by decide +kernel
theorem dX11_property_2 : decode cX11_property 2 = .ok (.if_icmp .ge 28, 3) := by decide +kernel
theorem dX11_property_5 : decode cX11_property 5 = .ok (.aload_n 0, 1) := by decide +kernel
theorem dX11_property_6 : decode cX11_property 6 = .ok (.getfield 16, 3) := by decide +kernel
theorem dX11_property_9 : decode cX11_property 9 = .ok (.iload_n 1, 1) := by decide +kernel
theorem dX11_property_10 : decode cX11_property 10 = .ok (.iload_n 2, 1) := by decide +kernel
theorem dX11_property_11 : decode cX11_property 11 = .ok (.aload_n 0, 1) := by decide +kernel
theorem dX11_property_12 : decode cX11_property 12 = .ok (.getfield 9, 3) := by decide +kernel
theorem dX11_property_15 : decode cX11_property 15 = .ok (.iconst 2, 1) := by decide +kernel
theorem dX11_property_16 : decode cX11_property 16 = .ok (.if_icmp .ne 7, 3) := by decide +kernel
theorem dX11_property_19 : decode cX11_property 19 = .ok (.iconst 1, 1) := by decide +kernel
theorem dX11_property_20 : decode cX11_property 20 = .ok (.goto 4, 3) := by decide +kernel
theorem dX11_property_23 : decode cX11_property 23 = .ok (.iconst 0, 1) := by decide +kernel
theorem dX11_property_24 : decode cX11_property 24 = .ok (.invokevirtual 89, 3) := by decide +kernel
theorem dX11_property_27 : decode cX11_property 27 = .ok (.goto 12, 3) := by decide +kernel
theorem dX11_property_30 : decode cX11_property 30 = .ok (.aload_n 0, 1) := by decide +kernel
theorem dX11_property_31 : decode cX11_property 31 = .ok (.getfield 16, 3) := by decide +kernel
theorem dX11_property_34 : decode cX11_property 34 = .ok (.iload_n 1, 1) := by decide +kernel
theorem dX11_property_35 : decode cX11_property 35 = .ok (.iload_n 2, 1) := by decide +kernel
theorem dX11_property_36 : decode cX11_property 36 = .ok (.invokevirtual 93, 3) := by decide +kernel
theorem dX11_property_39 : decode cX11_property 39 = .ok (.istore_n 3, 1) := by decide +kernel
theorem dX11_property_40 : decode cX11_property 40 = .ok (.iload_n 3, 1) := by decide +kernel
theorem dX11_property_41 : decode cX11_property 41 = .ok (.ifCond .eq 7, 3) := by decide +kernel
theorem dX11_property_44 : decode cX11_property 44 = .ok (.iconst 1, 1) := by decide +kernel
theorem dX11_property_45 : decode cX11_property 45 = .ok (.goto 4, 3) := by decide +kernel
theorem dX11_property_48 : decode cX11_property 48 = .ok (.iconst 0, 1) := by decide +kernel
theorem dX11_property_49 : decode cX11_property 49 = .ok (.ireturn, 1) := by decide +kernel
theorem dX11_filter_0 : decode cX11_filter 0 = .ok (.aload_n 0, 1) := by decide +kernel
theorem dX11_filter_1 : decode cX11_filter 1 = .ok (.getfield 16, 3) := by decide +kernel
theorem dX11_filter_4 : decode cX11_filter 4 = .ok (.iload_n 1, 1) := by decide +kernel
theorem dX11_filter_5 : decode cX11_filter 5 = .ok (.iload_n 2, 1) := by decide +kernel
theorem dX11_filter_6 : decode cX11_filter 6 = .ok (.invokevirtual 97, 3) := by decide +kernel
theorem dX11_filter_9 : decode cX11_filter 9 = .ok (.ifCond .eq 7, 3) := by decide +kernel
theorem dX11_filter_12 : decode cX11_filter 12 = .ok (.iconst 1, 1) := by decide +kernel
theorem dX11_filter_13 : decode cX11_filter 13 = .ok (.goto 4, 3) := by decide +kernel
theorem dX11_filter_16 : decode cX11_filter 16 = .ok (.iconst 0, 1) := by decide +kernel
theorem dX11_filter_17 : decode cX11_filter 17 = .ok (.ireturn, 1) := by decide +kernel
theorem dX11_feed_0 : decode cX11_feed 0 = .ok (.aload_n 0, 1) := by decide +kernel
theorem dX11_feed_1 : decode cX11_feed 1 = .ok (.getfield 25, 3) := by decide +kernel
theorem dX11_feed_4 : decode cX11_feed 4 = .ok (.getfield 100, 3) := by decide +kernel
theorem dX11_feed_7 : decode cX11_feed 7 = .ok (.sipush 1480, 3) := by decide +kernel
theorem dX11_feed_10 : decode cX11_feed 10 = .ok (.if_icmp .le 6, 3) := by decide +kernel
theorem dX11_feed_13 : decode cX11_feed 13 = .ok (.bipush (-3), 2) := by decide +kernel
theorem dX11_feed_15 : decode cX11_feed 15 = .ok (.ireturn, 1) := by decide +kernel
theorem dX11_feed_16 : decode cX11_feed 16 = .ok (.aload_n 0, 1) := by decide +kernel
theorem dX11_feed_17 : decode cX11_feed 17 = .ok (.getfield 25, 3) := by decide +kernel
theorem dX11_feed_20 : decode cX11_feed 20 = .ok (.iload_n 1, 1) := by decide +kernel
theorem dX11_feed_21 : decode cX11_feed 21 = .ok (.i2l, 1) := by decide +kernel
theorem dX11_feed_22 : decode cX11_feed 22 = .ok (.iconst 4, 1) := by decide +kernel
theorem dX11_feed_23 : decode cX11_feed 23 = .ok (.invokevirtual 103, 3) := by decide +kernel
theorem dX11_feed_26 : decode cX11_feed 26 = .ok (.aload_n 0, 1) := by decide +kernel
theorem dX11_feed_27 : decode cX11_feed 27 = .ok (.getfield 25, 3) := by decide +kernel
theorem dX11_feed_30 : decode cX11_feed 30 = .ok (.iload_n 2, 1) := by decide +kernel
theorem dX11_feed_31 : decode cX11_feed 31 = .ok (.i2l, 1) := by decide +kernel
theorem dX11_feed_32 : decode cX11_feed 32 = .ok (.iconst 4, 1) := by decide +kernel
theorem dX11_feed_33 : decode cX11_feed 33 = .ok (.invokevirtual 103, 3) := by decide +kernel
theorem dX11_feed_36 : decode cX11_feed 36 = .ok (.aload_n 0, 1) := by decide +kernel
theorem dX11_feed_37 : decode cX11_feed 37 = .ok (.getfield 25, 3) := by decide +kernel
theorem dX11_feed_40 : decode cX11_feed 40 = .ok (.iload_n 3, 1) := by decide +kernel
theorem dX11_feed_41 : decode cX11_feed 41 = .ok (.i2l, 1) := by decide +kernel
theorem dX11_feed_42 : decode cX11_feed 42 = .ok (.iconst 4, 1) := by decide +kernel
theorem dX11_feed_43 : decode cX11_feed 43 = .ok (.invokevirtual 103, 3) := by decide +kernel
theorem dX11_feed_46 : decode cX11_feed 46 = .ok (.aload_n 0, 1) := by decide +kernel
theorem dX11_feed_47 : decode cX11_feed 47 = .ok (.getfield 25, 3) := by decide +kernel
theorem dX11_feed_50 : decode cX11_feed 50 = .ok (.iload 4, 2) := by decide +kernel
theorem dX11_feed_52 : decode cX11_feed 52 = .ok (.i2l, 1) := by decide +kernel
theorem dX11_feed_53 : decode cX11_feed 53 = .ok (.iconst 4, 1) := by decide +kernel
theorem dX11_feed_54 : decode cX11_feed 54 = .ok (.invokevirtual 103, 3) := by decide +kernel
theorem dX11_feed_57 : decode cX11_feed 57 = .ok (.aload_n 0, 1) := by decide +kernel
theorem dX11_feed_58 : decode cX11_feed 58 = .ok (.getfield 25, 3) := by decide +kernel
theorem dX11_feed_61 : decode cX11_feed 61 = .ok (.iload 5, 2) := by decide +kernel
theorem dX11_feed_63 : decode cX11_feed 63 = .ok (.i2l, 1) := by decide +kernel
theorem dX11_feed_64 : decode cX11_feed 64 = .ok (.iconst 4, 1) := by decide +kernel
theorem dX11_feed_65 : decode cX11_feed 65 = .ok (.invokevirtual 103, 3) := by decide +kernel
theorem dX11_feed_68 : decode cX11_feed 68 = .ok (.aload_n 0, 1) := by decide +kernel
theorem dX11_feed_69 : decode cX11_feed 69 = .ok (.getfield 25, 3) := by decide +kernel
theorem dX11_feed_72 : decode cX11_feed 72 = .ok (.getfield 100, 3) := by decide +kernel
theorem dX11_feed_75 : decode cX11_feed 75 = .ok (.ireturn, 1) := by decide +kernel
theorem dX11_end_0 : decode cX11_end 0 = .ok (.iload_n 1, 1) := by decide +kernel
theorem dX11_end_1 : decode cX11_end 1 = .ok (.ifCond .lt 21, 3) := by decide +kernel
theorem dX11_end_4 : decode cX11_end 4 = .ok (.iload_n 1, 1) := by decide +kernel
theorem dX11_end_5 : decode cX11_end 5 = .ok (.bipush 20, 2) := by decide +kernel
theorem dX11_end_7 : decode cX11_end 7 = .ok (.if_icmp .gt 15, 3) := by decide +kernel
theorem dX11_end_10 : decode cX11_end 10 = .ok (.aload_n 0, 1) := by decide +kernel
theorem dX11_end_11 : decode cX11_end 11 = .ok (.getfield 25, 3) := by decide +kernel
theorem dX11_end_14 : decode cX11_end 14 = .ok (.getfield 100, 3) := by decide +kernel
theorem dX11_end_17 : decode cX11_end 17 = .ok (.bipush 20, 2) := by decide +kernel
theorem dX11_end_19 : decode cX11_end 19 = .ok (.if_icmp .ge 5, 3) := by decide +kernel
theorem dX11_end_22 : decode cX11_end 22 = .ok (.iconst (-1), 1) := by decide +kernel
theorem dX11_end_23 : decode cX11_end 23 = .ok (.ireturn, 1) := by decide +kernel
theorem dX11_end_24 : decode cX11_end 24 = .ok (.aload_n 0, 1) := by decide +kernel
theorem dX11_end_25 : decode cX11_end 25 = .ok (.getfield 25, 3) := by decide +kernel
theorem dX11_end_28 : decode cX11_end 28 = .ok (.dup, 1) := by decide +kernel
theorem dX11_end_29 : decode cX11_end 29 = .ok (.getfield 100, 3) := by decide +kernel
theorem dX11_end_32 : decode cX11_end 32 = .ok (.bipush 20, 2) := by decide +kernel
theorem dX11_end_34 : decode cX11_end 34 = .ok (.iload_n 1, 1) := by decide +kernel
theorem dX11_end_35 : decode cX11_end 35 = .ok (.isub, 1) := by decide +kernel
theorem dX11_end_36 : decode cX11_end 36 = .ok (.isub, 1) := by decide +kernel
theorem dX11_end_37 : decode cX11_end 37 = .ok (.putfield 100, 3) := by decide +kernel
theorem dX11_end_40 : decode cX11_end 40 = .ok (.aload_n 0, 1) := by decide +kernel
theorem dX11_end_41 : decode cX11_end 41 = .ok (.getfield 25, 3) := by decide +kernel
theorem dX11_end_44 : decode cX11_end 44 = .ok (.getfield 100, 3) := by decide +kernel
theorem dX11_end_47 : decode cX11_end 47 = .ok (.ireturn, 1) := by decide +kernel
theorem dX11_octet_0 : decode cX11_octet 0 = .ok (.aload_n 0, 1) := by decide +kernel
theorem dX11_octet_1 : decode cX11_octet 1 = .ok (.getfield 25, 3) := by decide +kernel
theorem dX11_octet_4 : decode cX11_octet 4 = .ok (.getfield 100, 3) := by decide +kernel
theorem dX11_octet_7 : decode cX11_octet 7 = .ok (.sipush 1500, 3) := by decide +kernel
theorem dX11_octet_10 : decode cX11_octet 10 = .ok (.if_icmp .lt 6, 3) := by decide +kernel
theorem dX11_octet_13 : decode cX11_octet 13 = .ok (.bipush (-3), 2) := by decide +kernel
theorem dX11_octet_15 : decode cX11_octet 15 = .ok (.ireturn, 1) := by decide +kernel
theorem dX11_octet_16 : decode cX11_octet 16 = .ok (.aload_n 0, 1) := by decide +kernel
theorem dX11_octet_17 : decode cX11_octet 17 = .ok (.getfield 25, 3) := by decide +kernel
theorem dX11_octet_20 : decode cX11_octet 20 = .ok (.iload_n 1, 1) := by decide +kernel
theorem dX11_octet_21 : decode cX11_octet 21 = .ok (.invokevirtual 107, 3) := by decide +kernel
theorem dX11_octet_24 : decode cX11_octet 24 = .ok (.aload_n 0, 1) := by decide +kernel
theorem dX11_octet_25 : decode cX11_octet 25 = .ok (.getfield 25, 3) := by decide +kernel
theorem dX11_octet_28 : decode cX11_octet 28 = .ok (.getfield 100, 3) := by decide +kernel
theorem dX11_octet_31 : decode cX11_octet 31 = .ok (.ireturn, 1) := by decide +kernel
theorem dX11_pack_0 : decode cX11_pack 0 = .ok (.iload_n 1, 1) := by decide +kernel
theorem dX11_pack_1 : decode cX11_pack 1 = .ok (.ifCond .lt 8, 3) := by decide +kernel
theorem dX11_pack_4 : decode cX11_pack 4 = .ok (.iload_n 1, 1) := by decide +kernel
theorem dX11_pack_5 : decode cX11_pack 5 = .ok (.iconst 2, 1) := by decide +kernel
theorem dX11_pack_6 : decode cX11_pack 6 = .ok (.if_icmp .le 5, 3) := by decide +kernel
theorem dX11_pack_9 : decode cX11_pack 9 = .ok (.iconst (-1), 1) := by decide +kernel
theorem dX11_pack_10 : decode cX11_pack 10 = .ok (.ireturn, 1) := by decide +kernel
theorem dX11_pack_11 : decode cX11_pack 11 = .ok (.aload_n 0, 1) := by decide +kernel
theorem dX11_pack_12 : decode cX11_pack 12 = .ok (.getfield 70, 3) := by decide +kernel
theorem dX11_pack_15 : decode cX11_pack 15 = .ok (.iload_n 1, 1) := by decide +kernel
theorem dX11_pack_16 : decode cX11_pack 16 = .ok (.invokevirtual 110, 3) := by decide +kernel
theorem dX11_pack_19 : decode cX11_pack 19 = .ok (.aload_n 0, 1) := by decide +kernel
theorem dX11_pack_20 : decode cX11_pack 20 = .ok (.getfield 9, 3) := by decide +kernel
theorem dX11_pack_23 : decode cX11_pack 23 = .ok (.ifCond .ne 13, 3) := by decide +kernel
theorem dX11_pack_26 : decode cX11_pack 26 = .ok (.aload_n 0, 1) := by decide +kernel
theorem dX11_pack_27 : decode cX11_pack 27 = .ok (.getfield 70, 3) := by decide +kernel
theorem dX11_pack_30 : decode cX11_pack 30 = .ok (.invokevirtual 113, 3) := by decide +kernel
theorem dX11_pack_33 : decode cX11_pack 33 = .ok (.goto 147, 3) := by decide +kernel
theorem dX11_pack_36 : decode cX11_pack 36 = .ok (.aload_n 0, 1) := by decide +kernel
theorem dX11_pack_37 : decode cX11_pack 37 = .ok (.getfield 9, 3) := by decide +kernel
theorem dX11_pack_40 : decode cX11_pack 40 = .ok (.iconst 1, 1) := by decide +kernel
theorem dX11_pack_41 : decode cX11_pack 41 = .ok (.if_icmp .ne 28, 3) := by decide +kernel
theorem dX11_pack_44 : decode cX11_pack 44 = .ok (.aload_n 0, 1) := by decide +kernel
theorem dX11_pack_45 : decode cX11_pack 45 = .ok (.getfield 70, 3) := by decide +kernel
theorem dX11_pack_48 : decode cX11_pack 48 = .ok (.iconst 0, 1) := by decide +kernel
theorem dX11_pack_49 : decode cX11_pack 49 = .ok (.aload_n 0, 1) := by decide +kernel
theorem dX11_pack_50 : decode cX11_pack 50 = .ok (.getfield 25, 3) := by decide +kernel
theorem dX11_pack_53 : decode cX11_pack 53 = .ok (.getfield 100, 3) := by decide +kernel
theorem dX11_pack_56 : decode cX11_pack 56 = .ok (.invokevirtual 116, 3) := by decide +kernel
theorem dX11_pack_59 : decode cX11_pack 59 = .ok (.aload_n 0, 1) := by decide +kernel
theorem dX11_pack_60 : decode cX11_pack 60 = .ok (.getfield 70, 3) := by decide +kernel
theorem dX11_pack_63 : decode cX11_pack 63 = .ok (.invokevirtual 120, 3) := by decide +kernel
theorem dX11_pack_66 : decode cX11_pack 66 = .ok (.goto 114, 3) := by decide +kernel
theorem dX11_pack_69 : decode cX11_pack 69 = .ok (.aload_n 0, 1) := by decide +kernel
theorem dX11_pack_70 : decode cX11_pack 70 = .ok (.getfield 70, 3) := by decide +kernel
theorem dX11_pack_73 : decode cX11_pack 73 = .ok (.invokevirtual 123, 3) := by decide +kernel
theorem dX11_pack_76 : decode cX11_pack 76 = .ok (.iconst 1, 1) := by decide +kernel
theorem dX11_pack_77 : decode cX11_pack 77 = .ok (.aload_n 0, 1) := by decide +kernel
theorem dX11_pack_78 : decode cX11_pack 78 = .ok (.getfield 16, 3) := by decide +kernel
theorem dX11_pack_81 : decode cX11_pack 81 = .ok (.getfield 126, 3) := by decide +kernel
theorem dX11_pack_84 : decode cX11_pack 84 = .ok (.invokestatic 129, 3) := by decide +kernel
theorem dX11_pack_87 : decode cX11_pack 87 = .ok (.istore_n 2, 1) := by decide +kernel
theorem dX11_pack_88 : decode cX11_pack 88 = .ok (.iconst 0, 1) := by decide +kernel
theorem dX11_pack_89 : decode cX11_pack 89 = .ok (.istore_n 3, 1) := by decide +kernel
theorem dX11_pack_90 : decode cX11_pack 90 = .ok (.iload_n 3, 1) := by decide +kernel
theorem dX11_pack_91 : decode cX11_pack 91 = .ok (.aload_n 0, 1) := by decide +kernel
theorem dX11_pack_92 : decode cX11_pack 92 = .ok (.getfield 25, 3) := by decide +kernel
theorem dX11_pack_95 : decode cX11_pack 95 = .ok (.getfield 100, 3) := by decide +kernel
theorem dX11_pack_98 : decode cX11_pack 98 = .ok (.if_icmp .ge 68, 3) := by decide +kernel
theorem dX11_pack_101 : decode cX11_pack 101 = .ok (.aload_n 0, 1) := by decide +kernel
theorem dX11_pack_102 : decode cX11_pack 102 = .ok (.getfield 29, 3) := by decide +kernel
theorem dX11_pack_105 : decode cX11_pack 105 = .ok (.getfield 100, 3) := by decide +kernel
theorem dX11_pack_108 : decode cX11_pack 108 = .ok (.sipush 3000, 3) := by decide +kernel
theorem dX11_pack_111 : decode cX11_pack 111 = .ok (.if_icmp .gt 55, 3) := by decide +kernel
theorem dX11_pack_114 : decode cX11_pack 114 = .ok (.iload_n 3, 1) := by decide +kernel
theorem dX11_pack_115 : decode cX11_pack 115 = .ok (.iload_n 2, 1) := by decide +kernel
theorem dX11_pack_116 : decode cX11_pack 116 = .ok (.iadd, 1) := by decide +kernel
theorem dX11_pack_117 : decode cX11_pack 117 = .ok (.aload_n 0, 1) := by decide +kernel
theorem dX11_pack_118 : decode cX11_pack 118 = .ok (.getfield 25, 3) := by decide +kernel
theorem dX11_pack_121 : decode cX11_pack 121 = .ok (.getfield 100, 3) := by decide +kernel
theorem dX11_pack_124 : decode cX11_pack 124 = .ok (.invokestatic 135, 3) := by decide +kernel
theorem dX11_pack_127 : decode cX11_pack 127 = .ok (.istore 4, 2) := by decide +kernel
theorem dX11_pack_129 : decode cX11_pack 129 = .ok (.aload_n 0, 1) := by decide +kernel
theorem dX11_pack_130 : decode cX11_pack 130 = .ok (.getfield 70, 3) := by decide +kernel
theorem dX11_pack_133 : decode cX11_pack 133 = .ok (.iload_n 3, 1) := by decide +kernel
theorem dX11_pack_134 : decode cX11_pack 134 = .ok (.iload 4, 2) := by decide +kernel
theorem dX11_pack_136 : decode cX11_pack 136 = .ok (.invokevirtual 138, 3) := by decide +kernel
theorem dX11_pack_139 : decode cX11_pack 139 = .ok (.aload_n 0, 1) := by decide +kernel
theorem dX11_pack_140 : decode cX11_pack 140 = .ok (.getfield 70, 3) := by decide +kernel
theorem dX11_pack_143 : decode cX11_pack 143 = .ok (.iload_n 3, 1) := by decide +kernel
theorem dX11_pack_144 : decode cX11_pack 144 = .ok (.iload 4, 2) := by decide +kernel
theorem dX11_pack_146 : decode cX11_pack 146 = .ok (.invokevirtual 116, 3) := by decide +kernel
theorem dX11_pack_149 : decode cX11_pack 149 = .ok (.aload_n 0, 1) := by decide +kernel
theorem dX11_pack_150 : decode cX11_pack 150 = .ok (.getfield 70, 3) := by decide +kernel
theorem dX11_pack_153 : decode cX11_pack 153 = .ok (.iload_n 3, 1) := by decide +kernel
theorem dX11_pack_154 : decode cX11_pack 154 = .ok (.iload 4, 2) := by decide +kernel
theorem dX11_pack_156 : decode cX11_pack 156 = .ok (.invokevirtual 141, 3) := by decide +kernel
theorem dX11_pack_159 : decode cX11_pack 159 = .ok (.iload_n 3, 1) := by decide +kernel
theorem dX11_pack_160 : decode cX11_pack 160 = .ok (.iload_n 2, 1) := by decide +kernel
theorem dX11_pack_161 : decode cX11_pack 161 = .ok (.iadd, 1) := by decide +kernel
theorem dX11_pack_162 : decode cX11_pack 162 = .ok (.istore_n 3, 1) := by decide +kernel
theorem dX11_pack_163 : decode cX11_pack 163 = .ok (.goto (-73), 3) := by decide +kernel
theorem dX11_pack_166 : decode cX11_pack 166 = .ok (.aload_n 0, 1) := by decide +kernel
theorem dX11_pack_167 : decode cX11_pack 167 = .ok (.getfield 70, 3) := by decide +kernel
theorem dX11_pack_170 : decode cX11_pack 170 = .ok (.invokevirtual 144, 3) := by decide +kernel
theorem dX11_pack_173 : decode cX11_pack 173 = .ok (.aload_n 0, 1) := by decide +kernel
theorem dX11_pack_174 : decode cX11_pack 174 = .ok (.getfield 70, 3) := by decide +kernel
theorem dX11_pack_177 : decode cX11_pack 177 = .ok (.invokevirtual 147, 3) := by decide +kernel
theorem dX11_pack_180 : decode cX11_pack 180 = .ok (.aload_n 0, 1) := by decide +kernel
theorem dX11_pack_181 : decode cX11_pack 181 = .ok (.getfield 25, 3) := by decide +kernel
theorem dX11_pack_184 : decode cX11_pack 184 = .ok (.iconst 0, 1) := by decide +kernel
theorem dX11_pack_185 : decode cX11_pack 185 = .ok (.putfield 100, 3) := by decide +kernel
theorem dX11_pack_188 : decode cX11_pack 188 = .ok (.aload_n 0, 1) := by decide +kernel
theorem dX11_pack_189 : decode cX11_pack 189 = .ok (.iconst 0, 1) := by decide +kernel
theorem dX11_pack_190 : decode cX11_pack 190 = .ok (.putfield 83, 3) := by decide +kernel
theorem dX11_pack_193 : decode cX11_pack 193 = .ok (.aload_n 0, 1) := by decide +kernel
theorem dX11_pack_194 : decode cX11_pack 194 = .ok (.invokevirtual 150, 3) := by decide +kernel
theorem dX11_pack_197 : decode cX11_pack 197 = .ok (.ireturn, 1) := by decide +kernel
theorem dX11_finishPacking_0 : decode cX11_finishPacking 0 = .ok (.aload_n 0, 1) := by decide +kernel
theorem dX11_finishPacking_1 : decode cX11_finishPacking 1 = .ok (.aload_n 0, 1) := by decide +kernel
theorem dX11_finishPacking_2 : decode cX11_finishPacking 2 = .ok (.getfield 47, 3) := by decide +kernel
theorem dX11_finishPacking_5 : decode cX11_finishPacking 5 = .ok (.getfield 154, 3) := by decide +kernel
theorem dX11_finishPacking_8 : decode cX11_finishPacking 8 = .ok (.putfield 86, 3) := by decide +kernel
theorem dX11_finishPacking_11 : decode cX11_finishPacking 11 = .ok (.aload_n 0, 1) := by decide +kernel
theorem dX11_finishPacking_12 : decode cX11_finishPacking 12 = .ok (.getfield 29, 3) := by decide +kernel
theorem dX11_finishPacking_15 : decode cX11_finishPacking 15 = .ok (.getfield 100, 3) := by decide +kernel
theorem dX11_finishPacking_18 : decode cX11_finishPacking 18 = .ok (.sipush 3000, 3) := by decide +kernel
theorem dX11_finishPacking_21 : decode cX11_finishPacking 21 = .ok (.if_icmp .le 26, 3) := by decide +kernel
theorem dX11_finishPacking_24 : decode cX11_finishPacking 24 = .ok (.aload_n 0, 1) := by decide +kernel
theorem dX11_finishPacking_25 : decode cX11_finishPacking 25 = .ok (.getfield 29, 3) := by decide +kernel
theorem dX11_finishPacking_28 : decode cX11_finishPacking 28 = .ok (.iconst 0, 1) := by decide +kernel
theorem dX11_finishPacking_29 : decode cX11_finishPacking 29 = .ok (.putfield 100, 3) := by decide +kernel
theorem dX11_finishPacking_32 : decode cX11_finishPacking 32 = .ok (.aload_n 0, 1) := by decide +kernel
theorem dX11_finishPacking_33 : decode cX11_finishPacking 33 = .ok (.getfield 61, 3) := by decide +kernel
theorem dX11_finishPacking_36 : decode cX11_finishPacking 36 = .ok (.invokevirtual 157, 3) := by decide +kernel
theorem dX11_finishPacking_39 : decode cX11_finishPacking 39 = .ok (.aload_n 0, 1) := by decide +kernel
theorem dX11_finishPacking_40 : decode cX11_finishPacking 40 = .ok (.iconst (-1), 1) := by decide +kernel
theorem dX11_finishPacking_41 : decode cX11_finishPacking 41 = .ok (.putfield 86, 3) := by decide +kernel
theorem dX11_finishPacking_44 : decode cX11_finishPacking 44 = .ok (.bipush (-3), 2) := by decide +kernel
theorem dX11_finishPacking_46 : decode cX11_finishPacking 46 = .ok (.ireturn, 1) := by decide +kernel
theorem dX11_finishPacking_47 : decode cX11_finishPacking 47 = .ok (.aload_n 0, 1) := by decide +kernel
theorem dX11_finishPacking_48 : decode cX11_finishPacking 48 = .ok (.getfield 29, 3) := by decide +kernel
theorem dX11_finishPacking_51 : decode cX11_finishPacking 51 = .ok (.getfield 100, 3) := by decide +kernel
theorem dX11_finishPacking_54 : decode cX11_finishPacking 54 = .ok (.ireturn, 1) := by decide +kernel
theorem dX11_open_0 : decode cX11_open 0 = .ok (.aload_n 0, 1) := by decide +kernel
theorem dX11_open_1 : decode cX11_open 1 = .ok (.getfield 79, 3) := by decide +kernel
theorem dX11_open_4 : decode cX11_open 4 = .ok (.iload_n 1, 1) := by decide +kernel
theorem dX11_open_5 : decode cX11_open 5 = .ok (.invokevirtual 160, 3) := by decide +kernel
theorem dX11_open_8 : decode cX11_open 8 = .ok (.iconst 1, 1) := by decide +kernel
theorem dX11_open_9 : decode cX11_open 9 = .ok (.istore_n 2, 1) := by decide +kernel
theorem dX11_open_10 : decode cX11_open 10 = .ok (.aload_n 0, 1) := by decide +kernel
theorem dX11_open_11 : decode cX11_open 11 = .ok (.getfield 9, 3) := by decide +kernel
theorem dX11_open_14 : decode cX11_open 14 = .ok (.ifCond .ne 13, 3) := by decide +kernel
theorem dX11_open_17 : decode cX11_open 17 = .ok (.aload_n 0, 1) := by decide +kernel
theorem dX11_open_18 : decode cX11_open 18 = .ok (.getfield 79, 3) := by decide +kernel
theorem dX11_open_21 : decode cX11_open 21 = .ok (.invokevirtual 161, 3) := by decide +kernel
theorem dX11_open_24 : decode cX11_open 24 = .ok (.goto 117, 3) := by decide +kernel
theorem dX11_open_27 : decode cX11_open 27 = .ok (.aload_n 0, 1) := by decide +kernel
theorem dX11_open_28 : decode cX11_open 28 = .ok (.getfield 9, 3) := by decide +kernel
theorem dX11_open_31 : decode cX11_open 31 = .ok (.iconst 1, 1) := by decide +kernel
theorem dX11_open_32 : decode cX11_open 32 = .ok (.if_icmp .ne 35, 3) := by decide +kernel
theorem dX11_open_35 : decode cX11_open 35 = .ok (.aload_n 0, 1) := by decide +kernel
theorem dX11_open_36 : decode cX11_open 36 = .ok (.getfield 79, 3) := by decide +kernel
theorem dX11_open_39 : decode cX11_open 39 = .ok (.aload_n 0, 1) := by decide +kernel
theorem dX11_open_40 : decode cX11_open 40 = .ok (.getfield 16, 3) := by decide +kernel
theorem dX11_open_43 : decode cX11_open 43 = .ok (.getfield 164, 3) := by decide +kernel
theorem dX11_open_46 : decode cX11_open 46 = .ok (.i2l, 1) := by decide +kernel
theorem dX11_open_47 : decode cX11_open 47 = .ok (.invokevirtual 167, 3) := by decide +kernel
theorem dX11_open_50 : decode cX11_open 50 = .ok (.aload_n 0, 1) := by decide +kernel
theorem dX11_open_51 : decode cX11_open 51 = .ok (.getfield 79, 3) := by decide +kernel
theorem dX11_open_54 : decode cX11_open 54 = .ok (.invokevirtual 171, 3) := by decide +kernel
theorem dX11_open_57 : decode cX11_open 57 = .ok (.aload_n 0, 1) := by decide +kernel
theorem dX11_open_58 : decode cX11_open 58 = .ok (.getfield 79, 3) := by decide +kernel
theorem dX11_open_61 : decode cX11_open 61 = .ok (.invokevirtual 174, 3) := by decide +kernel
theorem dX11_open_64 : decode cX11_open 64 = .ok (.goto 77, 3) := by decide +kernel
theorem dX11_open_67 : decode cX11_open 67 = .ok (.aload_n 0, 1) := by decide +kernel
theorem dX11_open_68 : decode cX11_open 68 = .ok (.getfield 79, 3) := by decide +kernel
theorem dX11_open_71 : decode cX11_open 71 = .ok (.invokevirtual 177, 3) := by decide +kernel
theorem dX11_open_74 : decode cX11_open 74 = .ok (.iconst 0, 1) := by decide +kernel
theorem dX11_open_75 : decode cX11_open 75 = .ok (.istore_n 3, 1) := by decide +kernel
theorem dX11_open_76 : decode cX11_open 76 = .ok (.iload_n 3, 1) := by decide +kernel
theorem dX11_open_77 : decode cX11_open 77 = .ok (.sipush 200, 3) := by decide +kernel
theorem dX11_open_80 : decode cX11_open 80 = .ok (.if_icmp .ge 47, 3) := by decide +kernel
theorem dX11_open_83 : decode cX11_open 83 = .ok (.aload_n 0, 1) := by decide +kernel
theorem dX11_open_84 : decode cX11_open 84 = .ok (.getfield 79, 3) := by decide +kernel
theorem dX11_open_87 : decode cX11_open 87 = .ok (.invokevirtual 180, 3) := by decide +kernel
theorem dX11_open_90 : decode cX11_open 90 = .ok (.ifCond .eq 37, 3) := by decide +kernel
theorem dX11_open_93 : decode cX11_open 93 = .ok (.aload_n 0, 1) := by decide +kernel
theorem dX11_open_94 : decode cX11_open 94 = .ok (.getfield 79, 3) := by decide +kernel
theorem dX11_open_97 : decode cX11_open 97 = .ok (.invokevirtual 184, 3) := by decide +kernel
theorem dX11_open_100 : decode cX11_open 100 = .ok (.aload_n 0, 1) := by decide +kernel
theorem dX11_open_101 : decode cX11_open 101 = .ok (.getfield 79, 3) := by decide +kernel
theorem dX11_open_104 : decode cX11_open 104 = .ok (.invokevirtual 171, 3) := by decide +kernel
theorem dX11_open_107 : decode cX11_open 107 = .ok (.aload_n 0, 1) := by decide +kernel
theorem dX11_open_108 : decode cX11_open 108 = .ok (.getfield 79, 3) := by decide +kernel
theorem dX11_open_111 : decode cX11_open 111 = .ok (.invokevirtual 187, 3) := by decide +kernel
theorem dX11_open_114 : decode cX11_open 114 = .ok (.aload_n 0, 1) := by decide +kernel
theorem dX11_open_115 : decode cX11_open 115 = .ok (.getfield 79, 3) := by decide +kernel
theorem dX11_open_118 : decode cX11_open 118 = .ok (.invokevirtual 174, 3) := by decide +kernel
theorem dX11_open_121 : decode cX11_open 121 = .ok (.iinc 3 1, 3) := by decide +kernel
theorem dX11_open_124 : decode cX11_open 124 = .ok (.goto (-48), 3) := by decide +kernel
theorem dX11_open_127 : decode cX11_open 127 = .ok (.aload_n 0, 1) := by decide +kernel
theorem dX11_open_128 : decode cX11_open 128 = .ok (.getfield 79, 3) := by decide +kernel
theorem dX11_open_131 : decode cX11_open 131 = .ok (.invokevirtual 190, 3) := by decide +kernel
theorem dX11_open_134 : decode cX11_open 134 = .ok (.aload_n 0, 1) := by decide +kernel
theorem dX11_open_135 : decode cX11_open 135 = .ok (.getfield 79, 3) := by decide +kernel
theorem dX11_open_138 : decode cX11_open 138 = .ok (.invokevirtual 193, 3) := by decide +kernel
theorem dX11_open_141 : decode cX11_open 141 = .ok (.aload_n 0, 1) := by decide +kernel
theorem dX11_open_142 : decode cX11_open 142 = .ok (.getfield 79, 3) := by decide +kernel
theorem dX11_open_145 : decode cX11_open 145 = .ok (.invokevirtual 196, 3) := by decide +kernel
theorem dX11_open_148 : decode cX11_open 148 = .ok (.goto 6, 3) := by decide +kernel
theorem dX11_open_151 : decode cX11_open 151 = .ok (.astore_n 3, 1) := by decide +kernel
theorem dX11_open_152 : decode cX11_open 152 = .ok (.iconst 0, 1) := by decide +kernel
theorem dX11_open_153 : decode cX11_open 153 = .ok (.istore_n 2, 1) := by decide +kernel
theorem dX11_open_154 : decode cX11_open 154 = .ok (.aload_n 0, 1) := by decide +kernel
theorem dX11_open_155 : decode cX11_open 155 = .ok (.getfield 25, 3) := by decide +kernel
theorem dX11_open_158 : decode cX11_open 158 = .ok (.iconst 0, 1) := by decide +kernel
theorem dX11_open_159 : decode cX11_open 159 = .ok (.putfield 100, 3) := by decide +kernel
theorem dX11_open_162 : decode cX11_open 162 = .ok (.aload_n 0, 1) := by decide +kernel
theorem dX11_open_163 : decode cX11_open 163 = .ok (.aload_n 0, 1) := by decide +kernel
theorem dX11_open_164 : decode cX11_open 164 = .ok (.getfield 47, 3) := by decide +kernel
theorem dX11_open_167 : decode cX11_open 167 = .ok (.getfield 154, 3) := by decide +kernel
theorem dX11_open_170 : decode cX11_open 170 = .ok (.putfield 86, 3) := by decide +kernel
theorem dX11_open_173 : decode cX11_open 173 = .ok (.aload_n 0, 1) := by decide +kernel
theorem dX11_open_174 : decode cX11_open 174 = .ok (.iload_n 2, 1) := by decide +kernel
theorem dX11_open_175 : decode cX11_open 175 = .ok (.invokevirtual 201, 3) := by decide +kernel
theorem dX11_open_178 : decode cX11_open 178 = .ok (.ireturn, 1) := by decide +kernel
theorem dX11_finishOpening_0 : decode cX11_finishOpening 0 = .ok (.aload_n 0, 1) := by decide +kernel
theorem dX11_finishOpening_1 : decode cX11_finishOpening 1 = .ok (.iload_n 1, 1) := by decide +kernel
theorem dX11_finishOpening_2 : decode cX11_finishOpening 2 = .ok (.ifCond .eq 7, 3) := by decide +kernel
theorem dX11_finishOpening_5 : decode cX11_finishOpening 5 = .ok (.iconst 0, 1) := by decide +kernel
theorem dX11_finishOpening_6 : decode cX11_finishOpening 6 = .ok (.goto 13, 3) := by decide +kernel
theorem dX11_finishOpening_9 : decode cX11_finishOpening 9 = .ok (.aload_n 0, 1) := by decide +kernel
theorem dX11_finishOpening_10 : decode cX11_finishOpening 10 = .ok (.getfield 79, 3) := by decide +kernel
