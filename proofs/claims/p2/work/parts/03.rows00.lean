theorem dX0_init_0 : decode cX0_init 0 = .ok (.aload_n 0, 1) := by decide +kernel
theorem dX0_init_1 : decode cX0_init 1 = .ok (.invokespecial 3, 3) := by decide +kernel
theorem dX0_init_4 : decode cX0_init 4 = .ok (.aload_n 0, 1) := by decide +kernel
theorem dX0_init_5 : decode cX0_init 5 = .ok (.bipush 8, 2) := by decide +kernel
theorem dX0_init_7 : decode cX0_init 7 = .ok (.newarray .int, 2) := by decide +kernel
theorem dX0_init_9 : decode cX0_init 9 = .ok (.putfield 9, 3) := by decide +kernel
theorem dX0_init_12 : decode cX0_init 12 = .ok (.aload_n 0, 1) := by decide +kernel
theorem dX0_init_13 : decode cX0_init 13 = .ok (.bipush 8, 2) := by decide +kernel
theorem dX0_init_15 : decode cX0_init 15 = .ok (.newarray .int, 2) := by decide +kernel
theorem dX0_init_17 : decode cX0_init 17 = .ok (.putfield 15, 3) := by decide +kernel
theorem dX0_init_20 : decode cX0_init 20 = .ok (.aload_n 0, 1) := by decide +kernel
theorem dX0_init_21 : decode cX0_init 21 = .ok (.bipush 64, 2) := by decide +kernel
theorem dX0_init_23 : decode cX0_init 23 = .ok (.newarray .int, 2) := by decide +kernel
theorem dX0_init_25 : decode cX0_init 25 = .ok (.putfield 18, 3) := by decide +kernel
theorem dX0_init_28 : decode cX0_init 28 = .ok (.return_, 1) := by decide +kernel
theorem dX0_isKind_0 : decode cX0_isKind 0 = .ok (.iload_n 0, 1) := by decide +kernel
theorem dX0_isKind_1 : decode cX0_isKind 1 = .ok (.ifCond .eq 19, 3) := by decide +kernel
theorem dX0_isKind_4 : decode cX0_isKind 4 = .ok (.iload_n 0, 1) := by decide +kernel
theorem dX0_isKind_5 : decode cX0_isKind 5 = .ok (.iconst 1, 1) := by decide +kernel
theorem dX0_isKind_6 : decode cX0_isKind 6 = .ok (.if_icmp .eq 14, 3) := by decide +kernel
theorem dX0_isKind_9 : decode cX0_isKind 9 = .ok (.iload_n 0, 1) := by decide +kernel
theorem dX0_isKind_10 : decode cX0_isKind 10 = .ok (.iconst 4, 1) := by decide +kernel
theorem dX0_isKind_11 : decode cX0_isKind 11 = .ok (.if_icmp .eq 9, 3) := by decide +kernel
theorem dX0_isKind_14 : decode cX0_isKind 14 = .ok (.iload_n 0, 1) := by decide +kernel
theorem dX0_isKind_15 : decode cX0_isKind 15 = .ok (.bipush 10, 2) := by decide +kernel
theorem dX0_isKind_17 : decode cX0_isKind 17 = .ok (.if_icmp .ne 7, 3) := by decide +kernel
theorem dX0_isKind_20 : decode cX0_isKind 20 = .ok (.iconst 1, 1) := by decide +kernel
theorem dX0_isKind_21 : decode cX0_isKind 21 = .ok (.goto 4, 3) := by decide +kernel
theorem dX0_isKind_24 : decode cX0_isKind 24 = .ok (.iconst 0, 1) := by decide +kernel
theorem dX0_isKind_25 : decode cX0_isKind 25 = .ok (.ireturn, 1) := by decide +kernel
theorem dX0_bytesOf_0 : decode cX0_bytesOf 0 = .ok (.iload_n 0, 1) := by decide +kernel
theorem dX0_bytesOf_1 : decode cX0_bytesOf 1 = .ok (.iconst 1, 1) := by decide +kernel
theorem dX0_bytesOf_2 : decode cX0_bytesOf 2 = .ok (.if_icmp .ne 7, 3) := by decide +kernel
theorem dX0_bytesOf_5 : decode cX0_bytesOf 5 = .ok (.iconst 4, 1) := by decide +kernel
theorem dX0_bytesOf_6 : decode cX0_bytesOf 6 = .ok (.goto 25, 3) := by decide +kernel
theorem dX0_bytesOf_9 : decode cX0_bytesOf 9 = .ok (.iload_n 0, 1) := by decide +kernel
theorem dX0_bytesOf_10 : decode cX0_bytesOf 10 = .ok (.iconst 4, 1) := by decide +kernel
theorem dX0_bytesOf_11 : decode cX0_bytesOf 11 = .ok (.if_icmp .ne 8, 3) := by decide +kernel
theorem dX0_bytesOf_14 : decode cX0_bytesOf 14 = .ok (.bipush 8, 2) := by decide +kernel
theorem dX0_bytesOf_16 : decode cX0_bytesOf 16 = .ok (.goto 15, 3) := by decide +kernel
theorem dX0_bytesOf_19 : decode cX0_bytesOf 19 = .ok (.iload_n 0, 1) := by decide +kernel
theorem dX0_bytesOf_20 : decode cX0_bytesOf 20 = .ok (.bipush 10, 2) := by decide +kernel
theorem dX0_bytesOf_22 : decode cX0_bytesOf 22 = .ok (.if_icmp .ne 8, 3) := by decide +kernel
theorem dX0_bytesOf_25 : decode cX0_bytesOf 25 = .ok (.bipush 32, 2) := by decide +kernel
theorem dX0_bytesOf_27 : decode cX0_bytesOf 27 = .ok (.goto 4, 3) := by decide +kernel
theorem dX0_bytesOf_30 : decode cX0_bytesOf 30 = .ok (.iconst 0, 1) := by decide +kernel
theorem dX0_bytesOf_31 : decode cX0_bytesOf 31 = .ok (.ireturn, 1) := by decide +kernel
theorem dX0_compute_0 : decode cX0_compute 0 = .ok (.iload_n 1, 1) := by decide +kernel
theorem dX0_compute_1 : decode cX0_compute 1 = .ok (.iconst 1, 1) := by decide +kernel
theorem dX0_compute_2 : decode cX0_compute 2 = .ok (.if_icmp .ne 19, 3) := by decide +kernel
theorem dX0_compute_5 : decode cX0_compute 5 = .ok (.aload_n 0, 1) := by decide +kernel
theorem dX0_compute_6 : decode cX0_compute 6 = .ok (.getfield 9, 3) := by decide +kernel
theorem dX0_compute_9 : decode cX0_compute 9 = .ok (.iconst 0, 1) := by decide +kernel
theorem dX0_compute_10 : decode cX0_compute 10 = .ok (.aload_n 2, 1) := by decide +kernel
theorem dX0_compute_11 : decode cX0_compute 11 = .ok (.iload_n 3, 1) := by decide +kernel
theorem dX0_compute_12 : decode cX0_compute 12 = .ok (.iload 4, 2) := by decide +kernel
theorem dX0_compute_14 : decode cX0_compute 14 = .ok (.invokestatic 21, 3) := by decide +kernel
theorem dX0_compute_17 : decode cX0_compute 17 = .ok (.iastore, 1) := by decide +kernel
theorem dX0_compute_18 : decode cX0_compute 18 = .ok (.goto 55, 3) := by decide +kernel
theorem dX0_compute_21 : decode cX0_compute 21 = .ok (.iload_n 1, 1) := by decide +kernel
theorem dX0_compute_22 : decode cX0_compute 22 = .ok (.iconst 4, 1) := by decide +kernel
theorem dX0_compute_23 : decode cX0_compute 23 = .ok (.if_icmp .ne 36, 3) := by decide +kernel
theorem dX0_compute_26 : decode cX0_compute 26 = .ok (.aload_n 2, 1) := by decide +kernel
theorem dX0_compute_27 : decode cX0_compute 27 = .ok (.iload_n 3, 1) := by decide +kernel
theorem dX0_compute_28 : decode cX0_compute 28 = .ok (.iload 4, 2) := by decide +kernel
theorem dX0_compute_30 : decode cX0_compute 30 = .ok (.invokestatic 25, 3) := by decide +kernel
theorem dX0_compute_33 : decode cX0_compute 33 = .ok (.lstore 5, 2) := by decide +kernel
theorem dX0_compute_35 : decode cX0_compute 35 = .ok (.aload_n 0, 1) := by decide +kernel
theorem dX0_compute_36 : decode cX0_compute 36 = .ok (.getfield 9, 3) := by decide +kernel
theorem dX0_compute_39 : decode cX0_compute 39 = .ok (.iconst 0, 1) := by decide +kernel
theorem dX0_compute_40 : decode cX0_compute 40 = .ok (.lload 5, 2) := by decide +kernel
theorem dX0_compute_42 : decode cX0_compute 42 = .ok (.l2i, 1) := by decide +kernel
theorem dX0_compute_43 : decode cX0_compute 43 = .ok (.iastore, 1) := by decide +kernel
theorem dX0_compute_44 : decode cX0_compute 44 = .ok (.aload_n 0, 1) := by decide +kernel
theorem dX0_compute_45 : decode cX0_compute 45 = .ok (.getfield 9, 3) := by decide +kernel
theorem dX0_compute_48 : decode cX0_compute 48 = .ok (.iconst 1, 1) := by decide +kernel
theorem dX0_compute_49 : decode cX0_compute 49 = .ok (.lload 5, 2) := by decide +kernel
theorem dX0_compute_51 : decode cX0_compute 51 = .ok (.bipush 32, 2) := by decide +kernel
theorem dX0_compute_53 : decode cX0_compute 53 = .ok (.lushr, 1) := by decide +kernel
theorem dX0_compute_54 : decode cX0_compute 54 = .ok (.l2i, 1) := by decide +kernel
theorem dX0_compute_55 : decode cX0_compute 55 = .ok (.iastore, 1) := by decide +kernel
theorem dX0_compute_56 : decode cX0_compute 56 = .ok (.goto 17, 3) := by decide +kernel
theorem dX0_compute_59 : decode cX0_compute 59 = .ok (.iload_n 1, 1) := by decide +kernel
theorem dX0_compute_60 : decode cX0_compute 60 = .ok (.bipush 10, 2) := by decide +kernel
theorem dX0_compute_62 : decode cX0_compute 62 = .ok (.if_icmp .ne 11, 3) := by decide +kernel
theorem dX0_compute_65 : decode cX0_compute 65 = .ok (.aload_n 0, 1) := by decide +kernel
theorem dX0_compute_66 : decode cX0_compute 66 = .ok (.aload_n 2, 1) := by decide +kernel
theorem dX0_compute_67 : decode cX0_compute 67 = .ok (.iload_n 3, 1) := by decide +kernel
theorem dX0_compute_68 : decode cX0_compute 68 = .ok (.iload 4, 2) := by decide +kernel
theorem dX0_compute_70 : decode cX0_compute 70 = .ok (.invokevirtual 29, 3) := by decide +kernel
theorem dX0_compute_73 : decode cX0_compute 73 = .ok (.return_, 1) := by decide +kernel
theorem dX0_byteOf_0 : decode cX0_byteOf 0 = .ok (.aload_n 0, 1) := by decide +kernel
theorem dX0_byteOf_1 : decode cX0_byteOf 1 = .ok (.getfield 9, 3) := by decide +kernel
theorem dX0_byteOf_4 : decode cX0_byteOf 4 = .ok (.iload_n 2, 1) := by decide +kernel
theorem dX0_byteOf_5 : decode cX0_byteOf 5 = .ok (.iconst 2, 1) := by decide +kernel
theorem dX0_byteOf_6 : decode cX0_byteOf 6 = .ok (.ishr, 1) := by decide +kernel
theorem dX0_byteOf_7 : decode cX0_byteOf 7 = .ok (.bipush 7, 2) := by decide +kernel
theorem dX0_byteOf_9 : decode cX0_byteOf 9 = .ok (.iand, 1) := by decide +kernel
theorem dX0_byteOf_10 : decode cX0_byteOf 10 = .ok (.iaload, 1) := by decide +kernel
theorem dX0_byteOf_11 : decode cX0_byteOf 11 = .ok (.istore_n 3, 1) := by decide +kernel
theorem dX0_byteOf_12 : decode cX0_byteOf 12 = .ok (.iload_n 2, 1) := by decide +kernel
theorem dX0_byteOf_13 : decode cX0_byteOf 13 = .ok (.iconst 3, 1) := by decide +kernel
theorem dX0_byteOf_14 : decode cX0_byteOf 14 = .ok (.iand, 1) := by decide +kernel
theorem dX0_byteOf_15 : decode cX0_byteOf 15 = .ok (.istore 4, 2) := by decide +kernel
theorem dX0_byteOf_17 : decode cX0_byteOf 17 = .ok (.iload_n 3, 1) := by decide +kernel
theorem dX0_byteOf_18 : decode cX0_byteOf 18 = .ok (.bipush 8, 2) := by decide +kernel
theorem dX0_byteOf_20 : decode cX0_byteOf 20 = .ok (.iload_n 1, 1) := by decide +kernel
theorem dX0_byteOf_21 : decode cX0_byteOf 21 = .ok (.bipush 10, 2) := by decide +kernel
theorem dX0_byteOf_23 : decode cX0_byteOf 23 = .ok (.if_icmp .ne 10, 3) := by decide +kernel
theorem dX0_byteOf_26 : decode cX0_byteOf 26 = .ok (.iconst 3, 1) := by decide +kernel
theorem dX0_byteOf_27 : decode cX0_byteOf 27 = .ok (.iload 4, 2) := by decide +kernel
theorem dX0_byteOf_29 : decode cX0_byteOf 29 = .ok (.isub, 1) := by decide +kernel
theorem dX0_byteOf_30 : decode cX0_byteOf 30 = .ok (.goto 5, 3) := by decide +kernel
theorem dX0_byteOf_33 : decode cX0_byteOf 33 = .ok (.iload 4, 2) := by decide +kernel
theorem dX0_byteOf_35 : decode cX0_byteOf 35 = .ok (.imul, 1) := by decide +kernel
theorem dX0_byteOf_36 : decode cX0_byteOf 36 = .ok (.iushr, 1) := by decide +kernel
theorem dX0_byteOf_37 : decode cX0_byteOf 37 = .ok (.sipush 255, 3) := by decide +kernel
theorem dX0_byteOf_40 : decode cX0_byteOf 40 = .ok (.iand, 1) := by decide +kernel
theorem dX0_byteOf_41 : decode cX0_byteOf 41 = .ok (.ireturn, 1) := by decide +kernel
theorem dX0_crc32_0 : decode cX0_crc32 0 = .ok (.iconst (-1), 1) := by decide +kernel
theorem dX0_crc32_1 : decode cX0_crc32 1 = .ok (.istore_n 3, 1) := by decide +kernel
theorem dX0_crc32_2 : decode cX0_crc32 2 = .ok (.iload_n 1, 1) := by decide +kernel
theorem dX0_crc32_3 : decode cX0_crc32 3 = .ok (.istore 4, 2) := by decide +kernel
theorem dX0_crc32_5 : decode cX0_crc32 5 = .ok (.iload 4, 2) := by decide +kernel
theorem dX0_crc32_7 : decode cX0_crc32 7 = .ok (.iload_n 2, 1) := by decide +kernel
theorem dX0_crc32_8 : decode cX0_crc32 8 = .ok (.if_icmp .ge 46, 3) := by decide +kernel
theorem dX0_crc32_11 : decode cX0_crc32 11 = .ok (.iload_n 3, 1) := by decide +kernel
theorem dX0_crc32_12 : decode cX0_crc32 12 = .ok (.aload_n 0, 1) := by decide +kernel
theorem dX0_crc32_13 : decode cX0_crc32 13 = .ok (.iload 4, 2) := by decide +kernel
theorem dX0_crc32_15 : decode cX0_crc32 15 = .ok (.invokevirtual 33, 3) := by decide +kernel
theorem dX0_crc32_18 : decode cX0_crc32 18 = .ok (.ixor, 1) := by decide +kernel
theorem dX0_crc32_19 : decode cX0_crc32 19 = .ok (.istore_n 3, 1) := by decide +kernel
theorem dX0_crc32_20 : decode cX0_crc32 20 = .ok (.iconst 0, 1) := by decide +kernel
theorem dX0_crc32_21 : decode cX0_crc32 21 = .ok (.istore 5, 2) := by decide +kernel
theorem dX0_crc32_23 : decode cX0_crc32 23 = .ok (.iload 5, 2) := by decide +kernel
theorem dX0_crc32_25 : decode cX0_crc32 25 = .ok (.bipush 8, 2) := by decide +kernel
theorem dX0_crc32_27 : decode cX0_crc32 27 = .ok (.if_icmp .ge 21, 3) := by decide +kernel
theorem dX0_crc32_30 : decode cX0_crc32 30 = .ok (.iload_n 3, 1) := by decide +kernel
theorem dX0_crc32_31 : decode cX0_crc32 31 = .ok (.iconst 1, 1) := by decide +kernel
theorem dX0_crc32_32 : decode cX0_crc32 32 = .ok (.iushr, 1) := by decide +kernel
theorem dX0_crc32_33 : decode cX0_crc32 33 = .ok (.ldc 39, 2) := by decide +kernel
theorem dX0_crc32_35 : decode cX0_crc32 35 = .ok (.iload_n 3, 1) := by decide +kernel
theorem dX0_crc32_36 : decode cX0_crc32 36 = .ok (.iconst 1, 1) := by decide +kernel
theorem dX0_crc32_37 : decode cX0_crc32 37 = .ok (.iand, 1) := by decide +kernel
theorem dX0_crc32_38 : decode cX0_crc32 38 = .ok (.ineg, 1) := by decide +kernel
theorem dX0_crc32_39 : decode cX0_crc32 39 = .ok (.iand, 1) := by decide +kernel
theorem dX0_crc32_40 : decode cX0_crc32 40 = .ok (.ixor, 1) := by decide +kernel
theorem dX0_crc32_41 : decode cX0_crc32 41 = .ok (.istore_n 3, 1) := by decide +kernel
theorem dX0_crc32_42 : decode cX0_crc32 42 = .ok (.iinc 5 1, 3) := by decide +kernel
theorem dX0_crc32_45 : decode cX0_crc32 45 = .ok (.goto (-22), 3) := by decide +kernel
theorem dX0_crc32_48 : decode cX0_crc32 48 = .ok (.iinc 4 1, 3) := by decide +kernel
theorem dX0_crc32_51 : decode cX0_crc32 51 = .ok (.goto (-46), 3) := by decide +kernel
theorem dX0_crc32_54 : decode cX0_crc32 54 = .ok (.iload_n 3, 1) := by decide +kernel
theorem dX0_crc32_55 : decode cX0_crc32 55 = .ok (.iconst (-1), 1) := by decide +kernel
theorem dX0_crc32_56 : decode cX0_crc32 56 = .ok (.ixor, 1) := by decide +kernel
theorem dX0_crc32_57 : decode cX0_crc32 57 = .ok (.ireturn, 1) := by decide +kernel
theorem dX0_crc64_0 : decode cX0_crc64 0 = .ok (.ldc2_w 40, 3) := by decide +kernel
theorem dX0_crc64_3 : decode cX0_crc64 3 = .ok (.lstore_n 3, 1) := by decide +kernel
theorem dX0_crc64_4 : decode cX0_crc64 4 = .ok (.iload_n 1, 1) := by decide +kernel
theorem dX0_crc64_5 : decode cX0_crc64 5 = .ok (.istore 5, 2) := by decide +kernel
theorem dX0_crc64_7 : decode cX0_crc64 7 = .ok (.iload 5, 2) := by decide +kernel
theorem dX0_crc64_9 : decode cX0_crc64 9 = .ok (.iload_n 2, 1) := by decide +kernel
theorem dX0_crc64_10 : decode cX0_crc64 10 = .ok (.if_icmp .ge 48, 3) := by decide +kernel
theorem dX0_crc64_13 : decode cX0_crc64 13 = .ok (.lload_n 3, 1) := by decide +kernel
theorem dX0_crc64_14 : decode cX0_crc64 14 = .ok (.aload_n 0, 1) := by decide +kernel
theorem dX0_crc64_15 : decode cX0_crc64 15 = .ok (.iload 5, 2) := by decide +kernel
theorem dX0_crc64_17 : decode cX0_crc64 17 = .ok (.invokevirtual 33, 3) := by decide +kernel
theorem dX0_crc64_20 : decode cX0_crc64 20 = .ok (.i2l, 1) := by decide +kernel
theorem dX0_crc64_21 : decode cX0_crc64 21 = .ok (.lxor, 1) := by decide +kernel
theorem dX0_crc64_22 : decode cX0_crc64 22 = .ok (.lstore_n 3, 1) := by decide +kernel
theorem dX0_crc64_23 : decode cX0_crc64 23 = .ok (.iconst 0, 1) := by decide +kernel
theorem dX0_crc64_24 : decode cX0_crc64 24 = .ok (.istore 6, 2) := by decide +kernel
theorem dX0_crc64_26 : decode cX0_crc64 26 = .ok (.iload 6, 2) := by decide +kernel
theorem dX0_crc64_28 : decode cX0_crc64 28 = .ok (.bipush 8, 2) := by decide +kernel
theorem dX0_crc64_30 : decode cX0_crc64 30 = .ok (.if_icmp .ge 22, 3) := by decide +kernel
theorem dX0_crc64_33 : decode cX0_crc64 33 = .ok (.lload_n 3, 1) := by decide +kernel
theorem dX0_crc64_34 : decode cX0_crc64 34 = .ok (.iconst 1, 1) := by decide +kernel
theorem dX0_crc64_35 : decode cX0_crc64 35 = .ok (.lushr, 1) := by decide +kernel
theorem dX0_crc64_36 : decode cX0_crc64 36 = .ok (.ldc2_w 42, 3) := by decide +kernel
theorem dX0_crc64_39 : decode cX0_crc64 39 = .ok (.lload_n 3, 1) := by decide +kernel
theorem dX0_crc64_40 : decode cX0_crc64 40 = .ok (.lconst 1, 1) := by decide +kernel
theorem dX0_crc64_41 : decode cX0_crc64 41 = .ok (.land, 1) := by decide +kernel
theorem dX0_crc64_42 : decode cX0_crc64 42 = .ok (.lneg, 1) := by decide +kernel
theorem dX0_crc64_43 : decode cX0_crc64 43 = .ok (.land, 1) := by decide +kernel
theorem dX0_crc64_44 : decode cX0_crc64 44 = .ok (.lxor, 1) := by decide +kernel
theorem dX0_crc64_45 : decode cX0_crc64 45 = .ok (.lstore_n 3, 1) := by decide +kernel
theorem dX0_crc64_46 : decode cX0_crc64 46 = .ok (.iinc 6 1, 3) := by decide +kernel
theorem dX0_crc64_49 : decode cX0_crc64 49 = .ok (.goto (-23), 3) := by decide +kernel
theorem dX0_crc64_52 : decode cX0_crc64 52 = .ok (.iinc 5 1, 3) := by decide +kernel
theorem dX0_crc64_55 : decode cX0_crc64 55 = .ok (.goto (-48), 3) := by decide +kernel
theorem dX0_crc64_58 : decode cX0_crc64 58 = .ok (.lload_n 3, 1) := by decide +kernel
theorem dX0_crc64_59 : decode cX0_crc64 59 = .ok (.ldc2_w 40, 3) := by decide +kernel
theorem dX0_crc64_62 : decode cX0_crc64 62 = .ok (.lxor, 1) := by decide +kernel
theorem dX0_crc64_63 : decode cX0_crc64 63 = .ok (.lreturn, 1) := by decide +kernel
theorem dX0_sha256_0 : decode cX0_sha256 0 = .ok (.getstatic 44, 3) := by decide +kernel
theorem dX0_sha256_3 : decode cX0_sha256 3 = .ok (.iconst 0, 1) := by decide +kernel
theorem dX0_sha256_4 : decode cX0_sha256 4 = .ok (.aload_n 0, 1) := by decide +kernel
theorem dX0_sha256_5 : decode cX0_sha256 5 = .ok (.getfield 9, 3) := by decide +kernel
theorem dX0_sha256_8 : decode cX0_sha256 8 = .ok (.iconst 0, 1) := by decide +kernel
theorem dX0_sha256_9 : decode cX0_sha256 9 = .ok (.bipush 8, 2) := by decide +kernel
theorem dX0_sha256_11 : decode cX0_sha256 11 = .ok (.invokestatic 47, 3) := by decide +kernel
theorem dX0_sha256_14 : decode cX0_sha256 14 = .ok (.iload_n 3, 1) := by decide +kernel
theorem dX0_sha256_15 : decode cX0_sha256 15 = .ok (.iload_n 2, 1) := by decide +kernel
theorem dX0_sha256_16 : decode cX0_sha256 16 = .ok (.isub, 1) := by decide +kernel
theorem dX0_sha256_17 : decode cX0_sha256 17 = .ok (.istore 4, 2) := by decide +kernel
theorem dX0_sha256_19 : decode cX0_sha256 19 = .ok (.iload 4, 2) := by decide +kernel
theorem dX0_sha256_21 : decode cX0_sha256 21 = .ok (.bipush 72, 2) := by decide +kernel
theorem dX0_sha256_23 : decode cX0_sha256 23 = .ok (.iadd, 1) := by decide +kernel
theorem dX0_sha256_24 : decode cX0_sha256 24 = .ok (.bipush (-64), 2) := by decide +kernel
theorem dX0_sha256_26 : decode cX0_sha256 26 = .ok (.iand, 1) := by decide +kernel
theorem dX0_sha256_27 : decode cX0_sha256 27 = .ok (.istore 5, 2) := by decide +kernel
theorem dX0_sha256_29 : decode cX0_sha256 29 = .ok (.iconst 0, 1) := by decide +kernel
theorem dX0_sha256_30 : decode cX0_sha256 30 = .ok (.istore 6, 2) := by decide +kernel
theorem dX0_sha256_32 : decode cX0_sha256 32 = .ok (.iload 6, 2) := by decide +kernel
theorem dX0_sha256_34 : decode cX0_sha256 34 = .ok (.iload 5, 2) := by decide +kernel
theorem dX0_sha256_36 : decode cX0_sha256 36 = .ok (.if_icmp .ge 103, 3) := by decide +kernel
theorem dX0_sha256_39 : decode cX0_sha256 39 = .ok (.iconst 0, 1) := by decide +kernel
theorem dX0_sha256_40 : decode cX0_sha256 40 = .ok (.istore 7, 2) := by decide +kernel
theorem dX0_sha256_42 : decode cX0_sha256 42 = .ok (.iload 7, 2) := by decide +kernel
theorem dX0_sha256_44 : decode cX0_sha256 44 = .ok (.bipush 16, 2) := by decide +kernel
theorem dX0_sha256_46 : decode cX0_sha256 46 = .ok (.if_icmp .ge 61, 3) := by decide +kernel
theorem dX0_sha256_49 : decode cX0_sha256 49 = .ok (.iconst 0, 1) := by decide +kernel
theorem dX0_sha256_50 : decode cX0_sha256 50 = .ok (.istore 8, 2) := by decide +kernel
theorem dX0_sha256_52 : decode cX0_sha256 52 = .ok (.iconst 0, 1) := by decide +kernel
theorem dX0_sha256_53 : decode cX0_sha256 53 = .ok (.istore 9, 2) := by decide +kernel
theorem dX0_sha256_55 : decode cX0_sha256 55 = .ok (.iload 9, 2) := by decide +kernel
theorem dX0_sha256_57 : decode cX0_sha256 57 = .ok (.iconst 4, 1) := by decide +kernel
theorem dX0_sha256_58 : decode cX0_sha256 58 = .ok (.if_icmp .ge 34, 3) := by decide +kernel
theorem dX0_sha256_61 : decode cX0_sha256 61 = .ok (.iload 8, 2) := by decide +kernel
theorem dX0_sha256_63 : decode cX0_sha256 63 = .ok (.bipush 8, 2) := by decide +kernel
theorem dX0_sha256_65 : decode cX0_sha256 65 = .ok (.ishl, 1) := by decide +kernel
theorem dX0_sha256_66 : decode cX0_sha256 66 = .ok (.aload_n 1, 1) := by decide +kernel
theorem dX0_sha256_67 : decode cX0_sha256 67 = .ok (.iload_n 2, 1) := by decide +kernel
theorem dX0_sha256_68 : decode cX0_sha256 68 = .ok (.iload 4, 2) := by decide +kernel
theorem dX0_sha256_70 : decode cX0_sha256 70 = .ok (.iload 6, 2) := by decide +kernel
theorem dX0_sha256_72 : decode cX0_sha256 72 = .ok (.iconst 4, 1) := by decide +kernel
theorem dX0_sha256_73 : decode cX0_sha256 73 = .ok (.iload 7, 2) := by decide +kernel
theorem dX0_sha256_75 : decode cX0_sha256 75 = .ok (.imul, 1) := by decide +kernel
theorem dX0_sha256_76 : decode cX0_sha256 76 = .ok (.iadd, 1) := by decide +kernel
theorem dX0_sha256_77 : decode cX0_sha256 77 = .ok (.iload 9, 2) := by decide +kernel
theorem dX0_sha256_79 : decode cX0_sha256 79 = .ok (.iadd, 1) := by decide +kernel
theorem dX0_sha256_80 : decode cX0_sha256 80 = .ok (.invokestatic 53, 3) := by decide +kernel
theorem dX0_sha256_83 : decode cX0_sha256 83 = .ok (.ior, 1) := by decide +kernel
theorem dX0_sha256_84 : decode cX0_sha256 84 = .ok (.istore 8, 2) := by decide +kernel
theorem dX0_sha256_86 : decode cX0_sha256 86 = .ok (.iinc 9 1, 3) := by decide +kernel
theorem dX0_sha256_89 : decode cX0_sha256 89 = .ok (.goto (-34), 3) := by decide +kernel
theorem dX0_sha256_92 : decode cX0_sha256 92 = .ok (.aload_n 0, 1) := by decide +kernel
theorem dX0_sha256_93 : decode cX0_sha256 93 = .ok (.getfield 18, 3) := by decide +kernel
theorem dX0_sha256_96 : decode cX0_sha256 96 = .ok (.iload 7, 2) := by decide +kernel
theorem dX0_sha256_98 : decode cX0_sha256 98 = .ok (.iload 8, 2) := by decide +kernel
theorem dX0_sha256_100 : decode cX0_sha256 100 = .ok (.iastore, 1) := by decide +kernel
theorem dX0_sha256_101 : decode cX0_sha256 101 = .ok (.iinc 7 1, 3) := by decide +kernel
theorem dX0_sha256_104 : decode cX0_sha256 104 = .ok (.goto (-62), 3) := by decide +kernel
theorem dX0_sha256_107 : decode cX0_sha256 107 = .ok (.iload 6, 2) := by decide +kernel
theorem dX0_sha256_109 : decode cX0_sha256 109 = .ok (.bipush 64, 2) := by decide +kernel
theorem dX0_sha256_111 : decode cX0_sha256 111 = .ok (.iadd, 1) := by decide +kernel
theorem dX0_sha256_112 : decode cX0_sha256 112 = .ok (.iload 5, 2) := by decide +kernel
theorem dX0_sha256_114 : decode cX0_sha256 114 = .ok (.if_icmp .ne 15, 3) := by decide +kernel
theorem dX0_sha256_117 : decode cX0_sha256 117 = .ok (.aload_n 0, 1) := by decide +kernel
theorem dX0_sha256_118 : decode cX0_sha256 118 = .ok (.getfield 18, 3) := by decide +kernel
theorem dX0_sha256_121 : decode cX0_sha256 121 = .ok (.bipush 15, 2) := by decide +kernel
theorem dX0_sha256_123 : decode cX0_sha256 123 = .ok (.iload 4, 2) := by decide +kernel
theorem dX0_sha256_125 : decode cX0_sha256 125 = .ok (.bipush 8, 2) := by decide +kernel
theorem dX0_sha256_127 : decode cX0_sha256 127 = .ok (.imul, 1) := by decide +kernel
theorem dX0_sha256_128 : decode cX0_sha256 128 = .ok (.iastore, 1) := by decide +kernel
theorem dX0_sha256_129 : decode cX0_sha256 129 = .ok (.aload_n 0, 1) := by decide +kernel
theorem dX0_sha256_130 : decode cX0_sha256 130 = .ok (.invokevirtual 57, 3) := by decide +kernel
theorem dX0_sha256_133 : decode cX0_sha256 133 = .ok (.iinc 6 64, 3) := by decide +kernel
theorem dX0_sha256_136 : decode cX0_sha256 136 = .ok (.goto (-104), 3) := by decide +kernel
theorem dX0_sha256_139 : decode cX0_sha256 139 = .ok (.return_, 1) := by decide +kernel
theorem dX0_shaByte_0 : decode cX0_shaByte 0 = .ok (.iload_n 3, 1) := by decide +kernel
theorem dX0_shaByte_1 : decode cX0_shaByte 1 = .ok (.iload_n 2, 1) := by decide +kernel
theorem dX0_shaByte_2 : decode cX0_shaByte 2 = .ok (.if_icmp .ge 13, 3) := by decide +kernel
theorem dX0_shaByte_5 : decode cX0_shaByte 5 = .ok (.aload_n 0, 1) := by decide +kernel
theorem dX0_shaByte_6 : decode cX0_shaByte 6 = .ok (.iload_n 1, 1) := by decide +kernel
theorem dX0_shaByte_7 : decode cX0_shaByte 7 = .ok (.iload_n 3, 1) := by decide +kernel
theorem dX0_shaByte_8 : decode cX0_shaByte 8 = .ok (.iadd, 1) := by decide +kernel
theorem dX0_shaByte_9 : decode cX0_shaByte 9 = .ok (.invokevirtual 33, 3) := by decide +kernel
theorem dX0_shaByte_12 : decode cX0_shaByte 12 = .ok (.goto 15, 3) := by decide +kernel
theorem dX0_shaByte_15 : decode cX0_shaByte 15 = .ok (.iload_n 3, 1) := by decide +kernel
theorem dX0_shaByte_16 : decode cX0_shaByte 16 = .ok (.iload_n 2, 1) := by decide +kernel
theorem dX0_shaByte_17 : decode cX0_shaByte 17 = .ok (.if_icmp .ne 9, 3) := by decide +kernel
theorem dX0_shaByte_20 : decode cX0_shaByte 20 = .ok (.sipush 128, 3) := by decide +kernel
theorem dX0_shaByte_23 : decode cX0_shaByte 23 = .ok (.goto 4, 3) := by decide +kernel
theorem dX0_shaByte_26 : decode cX0_shaByte 26 = .ok (.iconst 0, 1) := by decide +kernel
theorem dX0_shaByte_27 : decode cX0_shaByte 27 = .ok (.ireturn, 1) := by decide +kernel
theorem dX0_mixBlock_0 : decode cX0_mixBlock 0 = .ok (.bipush 16, 2) := by decide +kernel
theorem dX0_mixBlock_2 : decode cX0_mixBlock 2 = .ok (.istore_n 1, 1) := by decide +kernel
theorem dX0_mixBlock_3 : decode cX0_mixBlock 3 = .ok (.iload_n 1, 1) := by decide +kernel
theorem dX0_mixBlock_4 : decode cX0_mixBlock 4 = .ok (.bipush 64, 2) := by decide +kernel
theorem dX0_mixBlock_6 : decode cX0_mixBlock 6 = .ok (.if_icmp .ge 98, 3) := by decide +kernel
theorem dX0_mixBlock_9 : decode cX0_mixBlock 9 = .ok (.aload_n 0, 1) := by decide +kernel
theorem dX0_mixBlock_10 : decode cX0_mixBlock 10 = .ok (.getfield 18, 3) := by decide +kernel
theorem dX0_mixBlock_13 : decode cX0_mixBlock 13 = .ok (.iload_n 1, 1) := by decide +kernel
theorem dX0_mixBlock_14 : decode cX0_mixBlock 14 = .ok (.bipush 15, 2) := by decide +kernel
theorem dX0_mixBlock_16 : decode cX0_mixBlock 16 = .ok (.isub, 1) := by decide +kernel
theorem dX0_mixBlock_17 : decode cX0_mixBlock 17 = .ok (.iaload, 1) := by decide +kernel
theorem dX0_mixBlock_18 : decode cX0_mixBlock 18 = .ok (.istore_n 2, 1) := by decide +kernel
theorem dX0_mixBlock_19 : decode cX0_mixBlock 19 = .ok (.aload_n 0, 1) := by decide +kernel
theorem dX0_mixBlock_20 : decode cX0_mixBlock 20 = .ok (.getfield 18, 3) := by decide +kernel
theorem dX0_mixBlock_23 : decode cX0_mixBlock 23 = .ok (.iload_n 1, 1) := by decide +kernel
theorem dX0_mixBlock_24 : decode cX0_mixBlock 24 = .ok (.iconst 2, 1) := by decide +kernel
theorem dX0_mixBlock_25 : decode cX0_mixBlock 25 = .ok (.isub, 1) := by decide +kernel
theorem dX0_mixBlock_26 : decode cX0_mixBlock 26 = .ok (.iaload, 1) := by decide +kernel
theorem dX0_mixBlock_27 : decode cX0_mixBlock 27 = .ok (.istore_n 3, 1) := by decide +kernel
theorem dX0_mixBlock_28 : decode cX0_mixBlock 28 = .ok (.iload_n 2, 1) := by decide +kernel
theorem dX0_mixBlock_29 : decode cX0_mixBlock 29 = .ok (.bipush 7, 2) := by decide +kernel
theorem dX0_mixBlock_31 : decode cX0_mixBlock 31 = .ok (.invokestatic 60, 3) := by decide +kernel
theorem dX0_mixBlock_34 : decode cX0_mixBlock 34 = .ok (.iload_n 2, 1) := by decide +kernel
theorem dX0_mixBlock_35 : decode cX0_mixBlock 35 = .ok (.bipush 18, 2) := by decide +kernel
theorem dX0_mixBlock_37 : decode cX0_mixBlock 37 = .ok (.invokestatic 60, 3) := by decide +kernel
theorem dX0_mixBlock_40 : decode cX0_mixBlock 40 = .ok (.ixor, 1) := by decide +kernel
theorem dX0_mixBlock_41 : decode cX0_mixBlock 41 = .ok (.iload_n 2, 1) := by decide +kernel
theorem dX0_mixBlock_42 : decode cX0_mixBlock 42 = .ok (.iconst 3, 1) := by decide +kernel
theorem dX0_mixBlock_43 : decode cX0_mixBlock 43 = .ok (.iushr, 1) := by decide +kernel
theorem dX0_mixBlock_44 : decode cX0_mixBlock 44 = .ok (.ixor, 1) := by decide +kernel
theorem dX0_mixBlock_45 : decode cX0_mixBlock 45 = .ok (.istore 4, 2) := by decide +kernel
theorem dX0_mixBlock_47 : decode cX0_mixBlock 47 = .ok (.iload_n 3, 1) := by decide +kernel
theorem dX0_mixBlock_48 : decode cX0_mixBlock 48 = .ok (.bipush 17, 2) := by decide +kernel
theorem dX0_mixBlock_50 : decode cX0_mixBlock 50 = .ok (.invokestatic 60, 3) := by decide +kernel
theorem dX0_mixBlock_53 : decode cX0_mixBlock 53 = .ok (.iload_n 3, 1) := by decide +kernel
theorem dX0_mixBlock_54 : decode cX0_mixBlock 54 = .ok (.bipush 19, 2) := by decide +kernel
theorem dX0_mixBlock_56 : decode cX0_mixBlock 56 = .ok (.invokestatic 60, 3) := by decide +kernel
theorem dX0_mixBlock_59 : decode cX0_mixBlock 59 = .ok (.ixor, 1) := by decide +kernel
theorem dX0_mixBlock_60 : decode cX0_mixBlock 60 = .ok (.iload_n 3, 1) := by decide +kernel
theorem dX0_mixBlock_61 : decode cX0_mixBlock 61 = .ok (.bipush 10, 2) := by decide +kernel
theorem dX0_mixBlock_63 : decode cX0_mixBlock 63 = .ok (.iushr, 1) := by decide +kernel
theorem dX0_mixBlock_64 : decode cX0_mixBlock 64 = .ok (.ixor, 1) := by decide +kernel
theorem dX0_mixBlock_65 : decode cX0_mixBlock 65 = .ok (.istore 5, 2) := by decide +kernel
theorem dX0_mixBlock_67 : decode cX0_mixBlock 67 = .ok (.aload_n 0, 1) := by decide +kernel
theorem dX0_mixBlock_68 : decode cX0_mixBlock 68 = .ok (.getfield 18, 3) := by decide +kernel
theorem dX0_mixBlock_71 : decode cX0_mixBlock 71 = .ok (.iload_n 1, 1) := by decide +kernel
theorem dX0_mixBlock_72 : decode cX0_mixBlock 72 = .ok (.aload_n 0, 1) := by decide +kernel
theorem dX0_mixBlock_73 : decode cX0_mixBlock 73 = .ok (.getfield 18, 3) := by decide +kernel
theorem dX0_mixBlock_76 : decode cX0_mixBlock 76 = .ok (.iload_n 1, 1) := by decide +kernel
theorem dX0_mixBlock_77 : decode cX0_mixBlock 77 = .ok (.bipush 16, 2) := by decide +kernel
theorem dX0_mixBlock_79 : decode cX0_mixBlock 79 = .ok (.isub, 1) := by decide +kernel
theorem dX0_mixBlock_80 : decode cX0_mixBlock 80 = .ok (.iaload, 1) := by decide +kernel
theorem dX0_mixBlock_81 : decode cX0_mixBlock 81 = .ok (.iload 4, 2) := by decide +kernel
theorem dX0_mixBlock_83 : decode cX0_mixBlock 83 = .ok (.iadd, 1) := by decide +kernel
theorem dX0_mixBlock_84 : decode cX0_mixBlock 84 = .ok (.aload_n 0, 1) := by decide +kernel
theorem dX0_mixBlock_85 : decode cX0_mixBlock 85 = .ok (.getfield 18, 3) := by decide +kernel
theorem dX0_mixBlock_88 : decode cX0_mixBlock 88 = .ok (.iload_n 1, 1) := by decide +kernel
theorem dX0_mixBlock_89 : decode cX0_mixBlock 89 = .ok (.bipush 7, 2) := by decide +kernel
theorem dX0_mixBlock_91 : decode cX0_mixBlock 91 = .ok (.isub, 1) := by decide +kernel
theorem dX0_mixBlock_92 : decode cX0_mixBlock 92 = .ok (.iaload, 1) := by decide +kernel
theorem dX0_mixBlock_93 : decode cX0_mixBlock 93 = .ok (.iadd, 1) := by decide +kernel
theorem dX0_mixBlock_94 : decode cX0_mixBlock 94 = .ok (.iload 5, 2) := by decide +kernel
theorem dX0_mixBlock_96 : decode cX0_mixBlock 96 = .ok (.iadd, 1) := by decide +kernel
theorem dX0_mixBlock_97 : decode cX0_mixBlock 97 = .ok (.iastore, 1) := by decide +kernel
theorem dX0_mixBlock_98 : decode cX0_mixBlock 98 = .ok (.iinc 1 1, 3) := by decide +kernel
theorem dX0_mixBlock_101 : decode cX0_mixBlock 101 = .ok (.goto (-98), 3) := by decide +kernel
theorem dX0_mixBlock_104 : decode cX0_mixBlock 104 = .ok (.aload_n 0, 1) := by decide +kernel
theorem dX0_mixBlock_105 : decode cX0_mixBlock 105 = .ok (.getfield 9, 3) := by decide +kernel
theorem dX0_mixBlock_108 : decode cX0_mixBlock 108 = .ok (.iconst 0, 1) := by decide +kernel
theorem dX0_mixBlock_109 : decode cX0_mixBlock 109 = .ok (.aload_n 0, 1) := by decide +kernel
theorem dX0_mixBlock_110 : decode cX0_mixBlock 110 = .ok (.getfield 15, 3) := by decide +kernel
theorem dX0_mixBlock_113 : decode cX0_mixBlock 113 = .ok (.iconst 0, 1) := by decide +kernel
theorem dX0_mixBlock_114 : decode cX0_mixBlock 114 = .ok (.bipush 8, 2) := by decide +kernel
theorem dX0_mixBlock_116 : decode cX0_mixBlock 116 = .ok (.invokestatic 47, 3) := by decide +kernel
theorem dX0_mixBlock_119 : decode cX0_mixBlock 119 = .ok (.iconst 0, 1) := by decide +kernel
theorem dX0_mixBlock_120 : decode cX0_mixBlock 120 = .ok (.istore_n 1, 1) := by decide +kernel
theorem dX0_mixBlock_121 : decode cX0_mixBlock 121 = .ok (.iload_n 1, 1) := by decide +kernel
theorem dX0_mixBlock_122 : decode cX0_mixBlock 122 = .ok (.bipush 64, 2) := by decide +kernel
theorem dX0_mixBlock_124 : decode cX0_mixBlock 124 = .ok (.if_icmp .ge 25, 3) := by decide +kernel
theorem dX0_mixBlock_127 : decode cX0_mixBlock 127 = .ok (.aload_n 0, 1) := by decide +kernel
theorem dX0_mixBlock_128 : decode cX0_mixBlock 128 = .ok (.getstatic 66, 3) := by decide +kernel
theorem dX0_mixBlock_131 : decode cX0_mixBlock 131 = .ok (.iload_n 1, 1) := by decide +kernel
theorem dX0_mixBlock_132 : decode cX0_mixBlock 132 = .ok (.iaload, 1) := by decide +kernel
theorem dX0_mixBlock_133 : decode cX0_mixBlock 133 = .ok (.aload_n 0, 1) := by decide +kernel
theorem dX0_mixBlock_134 : decode cX0_mixBlock 134 = .ok (.getfield 18, 3) := by decide +kernel
theorem dX0_mixBlock_137 : decode cX0_mixBlock 137 = .ok (.iload_n 1, 1) := by decide +kernel
theorem dX0_mixBlock_138 : decode cX0_mixBlock 138 = .ok (.iaload, 1) := by decide +kernel
theorem dX0_mixBlock_139 : decode cX0_mixBlock 139 = .ok (.iadd, 1) := by decide +kernel
theorem dX0_mixBlock_140 : decode cX0_mixBlock 140 = .ok (.invokevirtual 69, 3) := by decide +kernel
theorem dX0_mixBlock_143 : decode cX0_mixBlock 143 = .ok (.iinc 1 1, 3) := by decide +kernel
theorem dX0_mixBlock_146 : decode cX0_mixBlock 146 = .ok (.goto (-25), 3) := by decide +kernel
theorem dX0_mixBlock_149 : decode cX0_mixBlock 149 = .ok (.iconst 0, 1) := by decide +kernel
theorem dX0_mixBlock_150 : decode cX0_mixBlock 150 = .ok (.istore_n 1, 1) := by decide +kernel
theorem dX0_mixBlock_151 : decode cX0_mixBlock 151 = .ok (.iload_n 1, 1) := by decide +kernel
theorem dX0_mixBlock_152 : decode cX0_mixBlock 152 = .ok (.bipush 8, 2) := by decide +kernel
theorem dX0_mixBlock_154 : decode cX0_mixBlock 154 = .ok (.if_icmp .ge 24, 3) := by decide +kernel
theorem dX0_mixBlock_157 : decode cX0_mixBlock 157 = .ok (.aload_n 0, 1) := by decide +kernel
theorem dX0_mixBlock_158 : decode cX0_mixBlock 158 = .ok (.getfield 9, 3) := by decide +kernel
theorem dX0_mixBlock_161 : decode cX0_mixBlock 161 = .ok (.iload_n 1, 1) := by decide +kernel
theorem dX0_mixBlock_162 : decode cX0_mixBlock 162 = .ok (.dup2, 1) := by decide +kernel
theorem dX0_mixBlock_163 : decode cX0_mixBlock 163 = .ok (.iaload, 1) := by decide +kernel
theorem dX0_mixBlock_164 : decode cX0_mixBlock 164 = .ok (.aload_n 0, 1) := by decide +kernel
theorem dX0_mixBlock_165 : decode cX0_mixBlock 165 = .ok (.getfield 15, 3) := by decide +kernel
theorem dX0_mixBlock_168 : decode cX0_mixBlock 168 = .ok (.iload_n 1, 1) := by decide +kernel
theorem dX0_mixBlock_169 : decode cX0_mixBlock 169 = .ok (.iaload, 1) := by decide +kernel
theorem dX0_mixBlock_170 : decode cX0_mixBlock 170 = .ok (.iadd, 1) := by decide +kernel
theorem dX0_mixBlock_171 : decode cX0_mixBlock 171 = .ok (.iastore, 1) := by decide +kernel
theorem dX0_mixBlock_172 : decode cX0_mixBlock 172 = .ok (.iinc 1 1, 3) := by decide +kernel
theorem dX0_mixBlock_175 : decode cX0_mixBlock 175 = .ok (.goto (-24), 3) := by decide +kernel
theorem dX0_mixBlock_178 : decode cX0_mixBlock 178 = .ok (.return_, 1) := by decide +kernel
theorem dX0_mixRound_0 : decode cX0_mixRound 0 = .ok (.aload_n 0, 1) := by decide +kernel
theorem dX0_mixRound_1 : decode cX0_mixRound 1 = .ok (.getfield 15, 3) := by decide +kernel
theorem dX0_mixRound_4 : decode cX0_mixRound 4 = .ok (.iconst 0, 1) := by decide +kernel
theorem dX0_mixRound_5 : decode cX0_mixRound 5 = .ok (.iaload, 1) := by decide +kernel
theorem dX0_mixRound_6 : decode cX0_mixRound 6 = .ok (.istore_n 2, 1) := by decide +kernel
theorem dX0_mixRound_7 : decode cX0_mixRound 7 = .ok (.aload_n 0, 1) := by decide +kernel
theorem dX0_mixRound_8 : decode cX0_mixRound 8 = .ok (.getfield 15, 3) := by decide +kernel
theorem dX0_mixRound_11 : decode cX0_mixRound 11 = .ok (.iconst 4, 1) := by decide +kernel
theorem dX0_mixRound_12 : decode cX0_mixRound 12 = .ok (.iaload, 1) := by decide +kernel
theorem dX0_mixRound_13 : decode cX0_mixRound 13 = .ok (.istore_n 3, 1) := by decide +kernel
theorem dX0_mixRound_14 : decode cX0_mixRound 14 = .ok (.iload_n 3, 1) := by decide +kernel
theorem dX0_mixRound_15 : decode cX0_mixRound 15 = .ok (.bipush 6, 2) := by decide +kernel
theorem dX0_mixRound_17 : decode cX0_mixRound 17 = .ok (.invokestatic 60, 3) := by decide +kernel
theorem dX0_mixRound_20 : decode cX0_mixRound 20 = .ok (.iload_n 3, 1) := by decide +kernel
theorem dX0_mixRound_21 : decode cX0_mixRound 21 = .ok (.bipush 11, 2) := by decide +kernel
theorem dX0_mixRound_23 : decode cX0_mixRound 23 = .ok (.invokestatic 60, 3) := by decide +kernel
theorem dX0_mixRound_26 : decode cX0_mixRound 26 = .ok (.ixor, 1) := by decide +kernel
theorem dX0_mixRound_27 : decode cX0_mixRound 27 = .ok (.iload_n 3, 1) := by decide +kernel
theorem dX0_mixRound_28 : decode cX0_mixRound 28 = .ok (.bipush 25, 2) := by decide +kernel
theorem dX0_mixRound_30 : decode cX0_mixRound 30 = .ok (.invokestatic 60, 3) := by decide +kernel
theorem dX0_mixRound_33 : decode cX0_mixRound 33 = .ok (.ixor, 1) := by decide +kernel
theorem dX0_mixRound_34 : decode cX0_mixRound 34 = .ok (.istore 4, 2) := by decide +kernel
theorem dX0_mixRound_36 : decode cX0_mixRound 36 = .ok (.iload_n 2, 1) := by decide +kernel
theorem dX0_mixRound_37 : decode cX0_mixRound 37 = .ok (.iconst 2, 1) := by decide +kernel
theorem dX0_mixRound_38 : decode cX0_mixRound 38 = .ok (.invokestatic 60, 3) := by decide +kernel
theorem dX0_mixRound_41 : decode cX0_mixRound 41 = .ok (.iload_n 2, 1) := by decide +kernel
theorem dX0_mixRound_42 : decode cX0_mixRound 42 = .ok (.bipush 13, 2) := by decide +kernel
theorem dX0_mixRound_44 : decode cX0_mixRound 44 = .ok (.invokestatic 60, 3) := by decide +kernel
theorem dX0_mixRound_47 : decode cX0_mixRound 47 = .ok (.ixor, 1) := by decide +kernel
theorem dX0_mixRound_48 : decode cX0_mixRound 48 = .ok (.iload_n 2, 1) := by decide +kernel
theorem dX0_mixRound_49 : decode cX0_mixRound 49 = .ok (.bipush 22, 2) := by decide +kernel
theorem dX0_mixRound_51 : decode cX0_mixRound 51 = .ok (.invokestatic 60, 3) := by decide +kernel
theorem dX0_mixRound_54 : decode cX0_mixRound 54 = .ok (.ixor, 1) := by decide +kernel
theorem dX0_mixRound_55 : decode cX0_mixRound 55 = .ok (.istore 5, 2) := by decide +kernel
theorem dX0_mixRound_57 : decode cX0_mixRound 57 = .ok (.iload_n 3, 1) := by decide +kernel
theorem dX0_mixRound_58 : decode cX0_mixRound 58 = .ok (.aload_n 0, 1) := by decide +kernel
theorem dX0_mixRound_59 : decode cX0_mixRound 59 = .ok (.getfield 15, 3) := by decide +kernel
theorem dX0_mixRound_62 : decode cX0_mixRound 62 = .ok (.iconst 5, 1) := by decide +kernel
theorem dX0_mixRound_63 : decode cX0_mixRound 63 = .ok (.iaload, 1) := by decide +kernel
theorem dX0_mixRound_64 : decode cX0_mixRound 64 = .ok (.iand, 1) := by decide +kernel
theorem dX0_mixRound_65 : decode cX0_mixRound 65 = .ok (.iload_n 3, 1) := by decide +kernel
theorem dX0_mixRound_66 : decode cX0_mixRound 66 = .ok (.iconst (-1), 1) := by decide +kernel
theorem dX0_mixRound_67 : decode cX0_mixRound 67 = .ok (.ixor, 1) := by decide +kernel
theorem dX0_mixRound_68 : decode cX0_mixRound 68 = .ok (.aload_n 0, 1) := by decide +kernel
theorem dX0_mixRound_69 : decode cX0_mixRound 69 = .ok (.getfield 15, 3) := by decide +kernel
theorem dX0_mixRound_72 : decode cX0_mixRound 72 = .ok (.bipush 6, 2) := by decide +kernel
theorem dX0_mixRound_74 : decode cX0_mixRound 74 = .ok (.iaload, 1) := by decide +kernel
theorem dX0_mixRound_75 : decode cX0_mixRound 75 = .ok (.iand, 1) := by decide +kernel
theorem dX0_mixRound_76 : decode cX0_mixRound 76 = .ok (.ixor, 1) := by decide +kernel
theorem dX0_mixRound_77 : decode cX0_mixRound 77 = .ok (.istore 6, 2) := by decide +kernel
theorem dX0_mixRound_79 : decode cX0_mixRound 79 = .ok (.iload_n 2, 1) := by decide +kernel
theorem dX0_mixRound_80 : decode cX0_mixRound 80 = .ok (.aload_n 0, 1) := by decide +kernel
theorem dX0_mixRound_81 : decode cX0_mixRound 81 = .ok (.getfield 15, 3) := by decide +kernel
theorem dX0_mixRound_84 : decode cX0_mixRound 84 = .ok (.iconst 1, 1) := by decide +kernel
theorem dX0_mixRound_85 : decode cX0_mixRound 85 = .ok (.iaload, 1) := by decide +kernel
theorem dX0_mixRound_86 : decode cX0_mixRound 86 = .ok (.iand, 1) := by decide +kernel
theorem dX0_mixRound_87 : decode cX0_mixRound 87 = .ok (.iload_n 2, 1) := by decide +kernel
theorem dX0_mixRound_88 : decode cX0_mixRound 88 = .ok (.aload_n 0, 1) := by decide +kernel
theorem dX0_mixRound_89 : decode cX0_mixRound 89 = .ok (.getfield 15, 3) := by decide +kernel
theorem dX0_mixRound_92 : decode cX0_mixRound 92 = .ok (.iconst 2, 1) := by decide +kernel
theorem dX0_mixRound_93 : decode cX0_mixRound 93 = .ok (.iaload, 1) := by decide +kernel
theorem dX0_mixRound_94 : decode cX0_mixRound 94 = .ok (.iand, 1) := by decide +kernel
theorem dX0_mixRound_95 : decode cX0_mixRound 95 = .ok (.ixor, 1) := by decide +kernel
theorem dX0_mixRound_96 : decode cX0_mixRound 96 = .ok (.aload_n 0, 1) := by decide +kernel
theorem dX0_mixRound_97 : decode cX0_mixRound 97 = .ok (.getfield 15, 3) := by decide +kernel
theorem dX0_mixRound_100 : decode cX0_mixRound 100 = .ok (.iconst 1, 1) := by decide +kernel
theorem dX0_mixRound_101 : decode cX0_mixRound 101 = .ok (.iaload, 1) := by decide +kernel
theorem dX0_mixRound_102 : decode cX0_mixRound 102 = .ok (.aload_n 0, 1) := by decide +kernel
theorem dX0_mixRound_103 : decode cX0_mixRound 103 = .ok (.getfield 15, 3) := by decide +kernel
theorem dX0_mixRound_106 : decode cX0_mixRound 106 = .ok (.iconst 2, 1) := by decide +kernel
theorem dX0_mixRound_107 : decode cX0_mixRound 107 = .ok (.iaload, 1) := by decide +kernel
theorem dX0_mixRound_108 : decode cX0_mixRound 108 = .ok (.iand, 1) := by decide +kernel
theorem dX0_mixRound_109 : decode cX0_mixRound 109 = .ok (.ixor, 1) := by decide +kernel
theorem dX0_mixRound_110 : decode cX0_mixRound 110 = .ok (.istore 7, 2) := by decide +kernel
theorem dX0_mixRound_112 : decode cX0_mixRound 112 = .ok (.aload_n 0, 1) := by decide +kernel
theorem dX0_mixRound_113 : decode cX0_mixRound 113 = .ok (.getfield 15, 3) := by decide +kernel
theorem dX0_mixRound_116 : decode cX0_mixRound 116 = .ok (.bipush 7, 2) := by decide +kernel
theorem dX0_mixRound_118 : decode cX0_mixRound 118 = .ok (.iaload, 1) := by decide +kernel
theorem dX0_mixRound_119 : decode cX0_mixRound 119 = .ok (.iload 4, 2) := by decide +kernel
theorem dX0_mixRound_121 : decode cX0_mixRound 121 = .ok (.iadd, 1) := by decide +kernel
theorem dX0_mixRound_122 : decode cX0_mixRound 122 = .ok (.iload 6, 2) := by decide +kernel
theorem dX0_mixRound_124 : decode cX0_mixRound 124 = .ok (.iadd, 1) := by decide +kernel
theorem dX0_mixRound_125 : decode cX0_mixRound 125 = .ok (.iload_n 1, 1) := by decide +kernel
theorem dX0_mixRound_126 : decode cX0_mixRound 126 = .ok (.iadd, 1) := by decide +kernel
theorem dX0_mixRound_127 : decode cX0_mixRound 127 = .ok (.istore 8, 2) := by decide +kernel
theorem dX0_mixRound_129 : decode cX0_mixRound 129 = .ok (.bipush 7, 2) := by decide +kernel
theorem dX0_mixRound_131 : decode cX0_mixRound 131 = .ok (.istore 9, 2) := by decide +kernel
theorem dX0_mixRound_133 : decode cX0_mixRound 133 = .ok (.iload 9, 2) := by decide +kernel
theorem dX0_mixRound_135 : decode cX0_mixRound 135 = .ok (.ifCond .le 25, 3) := by decide +kernel
theorem dX0_mixRound_138 : decode cX0_mixRound 138 = .ok (.aload_n 0, 1) := by decide +kernel
theorem dX0_mixRound_139 : decode cX0_mixRound 139 = .ok (.getfield 15, 3) := by decide +kernel
theorem dX0_mixRound_142 : decode cX0_mixRound 142 = .ok (.iload 9, 2) := by decide +kernel
theorem dX0_mixRound_144 : decode cX0_mixRound 144 = .ok (.aload_n 0, 1) := by decide +kernel
theorem dX0_mixRound_145 : decode cX0_mixRound 145 = .ok (.getfield 15, 3) := by decide +kernel
theorem dX0_mixRound_148 : decode cX0_mixRound 148 = .ok (.iload 9, 2) := by decide +kernel
theorem dX0_mixRound_150 : decode cX0_mixRound 150 = .ok (.iconst 1, 1) := by decide +kernel
theorem dX0_mixRound_151 : decode cX0_mixRound 151 = .ok (.isub, 1) := by decide +kernel
theorem dX0_mixRound_152 : decode cX0_mixRound 152 = .ok (.iaload, 1) := by decide +kernel
theorem dX0_mixRound_153 : decode cX0_mixRound 153 = .ok (.iastore, 1) := by decide +kernel
theorem dX0_mixRound_154 : decode cX0_mixRound 154 = .ok (.iinc 9 (-1), 3) := by decide +kernel
theorem dX0_mixRound_157 : decode cX0_mixRound 157 = .ok (.goto (-24), 3) := by decide +kernel
theorem dX0_mixRound_160 : decode cX0_mixRound 160 = .ok (.aload_n 0, 1) := by decide +kernel
theorem dX0_mixRound_161 : decode cX0_mixRound 161 = .ok (.getfield 15, 3) := by decide +kernel
theorem dX0_mixRound_164 : decode cX0_mixRound 164 = .ok (.iconst 4, 1) := by decide +kernel
theorem dX0_mixRound_165 : decode cX0_mixRound 165 = .ok (.dup2, 1) := by decide +kernel
theorem dX0_mixRound_166 : decode cX0_mixRound 166 = .ok (.iaload, 1) := by decide +kernel
theorem dX0_mixRound_167 : decode cX0_mixRound 167 = .ok (.iload 8, 2) := by decide +kernel
theorem dX0_mixRound_169 : decode cX0_mixRound 169 = .ok (.iadd, 1) := by decide +kernel
theorem dX0_mixRound_170 : decode cX0_mixRound 170 = .ok (.iastore, 1) := by decide +kernel
theorem dX0_mixRound_171 : decode cX0_mixRound 171 = .ok (.aload_n 0, 1) := by decide +kernel
theorem dX0_mixRound_172 : decode cX0_mixRound 172 = .ok (.getfield 15, 3) := by decide +kernel
theorem dX0_mixRound_175 : decode cX0_mixRound 175 = .ok (.iconst 0, 1) := by decide +kernel
theorem dX0_mixRound_176 : decode cX0_mixRound 176 = .ok (.iload 8, 2) := by decide +kernel
theorem dX0_mixRound_178 : decode cX0_mixRound 178 = .ok (.iload 5, 2) := by decide +kernel
theorem dX0_mixRound_180 : decode cX0_mixRound 180 = .ok (.iadd, 1) := by decide +kernel
theorem dX0_mixRound_181 : decode cX0_mixRound 181 = .ok (.iload 7, 2) := by decide +kernel
theorem dX0_mixRound_183 : decode cX0_mixRound 183 = .ok (.iadd, 1) := by decide +kernel
theorem dX0_mixRound_184 : decode cX0_mixRound 184 = .ok (.iastore, 1) := by decide +kernel
theorem dX0_mixRound_185 : decode cX0_mixRound 185 = .ok (.return_, 1) := by decide +kernel
theorem dX1_init_0 : decode cX1_init 0 = .ok (.aload_n 0, 1) := by decide +kernel
theorem dX1_init_1 : decode cX1_init 1 = .ok (.invokespecial 3, 3) := by decide +kernel
theorem dX1_init_4 : decode cX1_init 4 = .ok (.aload_n 0, 1) := by decide +kernel
theorem dX1_init_5 : decode cX1_init 5 = .ok (.aload_n 1, 1) := by decide +kernel
theorem dX1_init_6 : decode cX1_init 6 = .ok (.putfield 9, 3) := by decide +kernel
theorem dX1_init_9 : decode cX1_init 9 = .ok (.aload_n 0, 1) := by decide +kernel
theorem dX1_init_10 : decode cX1_init 10 = .ok (.aload_n 2, 1) := by decide +kernel
theorem dX1_init_11 : decode cX1_init 11 = .ok (.putfield 15, 3) := by decide +kernel
theorem dX1_init_14 : decode cX1_init 14 = .ok (.aload_n 0, 1) := by decide +kernel
theorem dX1_init_15 : decode cX1_init 15 = .ok (.sipush 1501, 3) := by decide +kernel
theorem dX1_init_18 : decode cX1_init 18 = .ok (.newarray .int, 2) := by decide +kernel
theorem dX1_init_20 : decode cX1_init 20 = .ok (.putfield 19, 3) := by decide +kernel
theorem dX1_init_23 : decode cX1_init 23 = .ok (.aload_n 0, 1) := by decide +kernel
theorem dX1_init_24 : decode cX1_init 24 = .ok (.sipush 1501, 3) := by decide +kernel
theorem dX1_init_27 : decode cX1_init 27 = .ok (.newarray .int, 2) := by decide +kernel
theorem dX1_init_29 : decode cX1_init 29 = .ok (.putfield 23, 3) := by decide +kernel
theorem dX1_init_32 : decode cX1_init 32 = .ok (.aload_n 0, 1) := by decide +kernel
theorem dX1_init_33 : decode cX1_init 33 = .ok (.sipush 1501, 3) := by decide +kernel
theorem dX1_init_36 : decode cX1_init 36 = .ok (.newarray .int, 2) := by decide +kernel
theorem dX1_init_38 : decode cX1_init 38 = .ok (.putfield 26, 3) := by decide +kernel
theorem dX1_init_41 : decode cX1_init 41 = .ok (.aload_n 0, 1) := by decide +kernel
theorem dX1_init_42 : decode cX1_init 42 = .ok (.sipush 1501, 3) := by decide +kernel
theorem dX1_init_45 : decode cX1_init 45 = .ok (.newarray .int, 2) := by decide +kernel
theorem dX1_init_47 : decode cX1_init 47 = .ok (.putfield 29, 3) := by decide +kernel
theorem dX1_init_50 : decode cX1_init 50 = .ok (.aload_n 0, 1) := by decide +kernel
theorem dX1_init_51 : decode cX1_init 51 = .ok (.sipush 1501, 3) := by decide +kernel
theorem dX1_init_54 : decode cX1_init 54 = .ok (.newarray .int, 2) := by decide +kernel
theorem dX1_init_56 : decode cX1_init 56 = .ok (.putfield 32, 3) := by decide +kernel
theorem dX1_init_59 : decode cX1_init 59 = .ok (.return_, 1) := by decide +kernel
theorem dX1_prepare_0 : decode cX1_prepare 0 = .ok (.aload_n 0, 1) := by decide +kernel
theorem dX1_prepare_1 : decode cX1_prepare 1 = .ok (.iload_n 1, 1) := by decide +kernel
theorem dX1_prepare_2 : decode cX1_prepare 2 = .ok (.putfield 35, 3) := by decide +kernel
theorem dX1_prepare_5 : decode cX1_prepare 5 = .ok (.aload_n 0, 1) := by decide +kernel
theorem dX1_prepare_6 : decode cX1_prepare 6 = .ok (.iload_n 2, 1) := by decide +kernel
theorem dX1_prepare_7 : decode cX1_prepare 7 = .ok (.putfield 39, 3) := by decide +kernel
theorem dX1_prepare_10 : decode cX1_prepare 10 = .ok (.aload_n 0, 1) := by decide +kernel
theorem dX1_prepare_11 : decode cX1_prepare 11 = .ok (.iload_n 3, 1) := by decide +kernel
theorem dX1_prepare_12 : decode cX1_prepare 12 = .ok (.sipush 1500, 3) := by decide +kernel
theorem dX1_prepare_15 : decode cX1_prepare 15 = .ok (.invokestatic 42, 3) := by decide +kernel
theorem dX1_prepare_18 : decode cX1_prepare 18 = .ok (.putfield 48, 3) := by decide +kernel
theorem dX1_prepare_21 : decode cX1_prepare 21 = .ok (.aload_n 0, 1) := by decide +kernel
theorem dX1_prepare_22 : decode cX1_prepare 22 = .ok (.iload 4, 2) := by decide +kernel
theorem dX1_prepare_24 : decode cX1_prepare 24 = .ok (.invokevirtual 51, 3) := by decide +kernel
theorem dX1_prepare_27 : decode cX1_prepare 27 = .ok (.iload 5, 2) := by decide +kernel
theorem dX1_prepare_29 : decode cX1_prepare 29 = .ok (.iconst 2, 1) := by decide +kernel
theorem dX1_prepare_30 : decode cX1_prepare 30 = .ok (.if_icmp .ne 7, 3) := by decide +kernel
theorem dX1_prepare_33 : decode cX1_prepare 33 = .ok (.aload_n 0, 1) := by decide +kernel
theorem dX1_prepare_34 : decode cX1_prepare 34 = .ok (.invokevirtual 55, 3) := by decide +kernel
theorem dX1_prepare_37 : decode cX1_prepare 37 = .ok (.return_, 1) := by decide +kernel
theorem dX1_findLongest_0 : decode cX1_findLongest 0 = .ok (.aload_n 0, 1) := by decide +kernel
theorem dX1_findLongest_1 : decode cX1_findLongest 1 = .ok (.getfield 9, 3) := by decide +kernel
theorem dX1_findLongest_4 : decode cX1_findLongest 4 = .ok (.getfield 58, 3) := by decide +kernel
theorem dX1_findLongest_7 : decode cX1_findLongest 7 = .ok (.astore_n 2, 1) := by decide +kernel
theorem dX1_findLongest_8 : decode cX1_findLongest 8 = .ok (.aload_n 0, 1) := by decide +kernel
theorem dX1_findLongest_9 : decode cX1_findLongest 9 = .ok (.getfield 26, 3) := by decide +kernel
theorem dX1_findLongest_12 : decode cX1_findLongest 12 = .ok (.iconst 0, 1) := by decide +kernel
theorem dX1_findLongest_13 : decode cX1_findLongest 13 = .ok (.invokestatic 63, 3) := by decide +kernel
theorem dX1_findLongest_16 : decode cX1_findLongest 16 = .ok (.aload_n 0, 1) := by decide +kernel
theorem dX1_findLongest_17 : decode cX1_findLongest 17 = .ok (.getfield 48, 3) := by decide +kernel
theorem dX1_findLongest_20 : decode cX1_findLongest 20 = .ok (.aload_n 2, 1) := by decide +kernel
theorem dX1_findLongest_21 : decode cX1_findLongest 21 = .ok (.arraylength, 1) := by decide +kernel
theorem dX1_findLongest_22 : decode cX1_findLongest 22 = .ok (.invokestatic 42, 3) := by decide +kernel
theorem dX1_findLongest_25 : decode cX1_findLongest 25 = .ok (.iconst 1, 1) := by decide +kernel
theorem dX1_findLongest_26 : decode cX1_findLongest 26 = .ok (.isub, 1) := by decide +kernel
theorem dX1_findLongest_27 : decode cX1_findLongest 27 = .ok (.istore_n 3, 1) := by decide +kernel
theorem dX1_findLongest_28 : decode cX1_findLongest 28 = .ok (.iload_n 3, 1) := by decide +kernel
theorem dX1_findLongest_29 : decode cX1_findLongest 29 = .ok (.aload_n 0, 1) := by decide +kernel
theorem dX1_findLongest_30 : decode cX1_findLongest 30 = .ok (.getfield 39, 3) := by decide +kernel
theorem dX1_findLongest_33 : decode cX1_findLongest 33 = .ok (.if_icmp .lt 140, 3) := by decide +kernel
theorem dX1_findLongest_36 : decode cX1_findLongest 36 = .ok (.iload_n 1, 1) := by decide +kernel
theorem dX1_findLongest_37 : decode cX1_findLongest 37 = .ok (.iload_n 3, 1) := by decide +kernel
theorem dX1_findLongest_38 : decode cX1_findLongest 38 = .ok (.aload_n 0, 1) := by decide +kernel
theorem dX1_findLongest_39 : decode cX1_findLongest 39 = .ok (.getfield 35, 3) := by decide +kernel
theorem dX1_findLongest_42 : decode cX1_findLongest 42 = .ok (.isub, 1) := by decide +kernel
theorem dX1_findLongest_43 : decode cX1_findLongest 43 = .ok (.invokestatic 42, 3) := by decide +kernel
theorem dX1_findLongest_46 : decode cX1_findLongest 46 = .ok (.sipush 1500, 3) := by decide +kernel
theorem dX1_findLongest_49 : decode cX1_findLongest 49 = .ok (.invokestatic 42, 3) := by decide +kernel
theorem dX1_findLongest_52 : decode cX1_findLongest 52 = .ok (.istore 4, 2) := by decide +kernel
theorem dX1_findLongest_54 : decode cX1_findLongest 54 = .ok (.iconst 0, 1) := by decide +kernel
theorem dX1_findLongest_55 : decode cX1_findLongest 55 = .ok (.istore 5, 2) := by decide +kernel
theorem dX1_findLongest_57 : decode cX1_findLongest 57 = .ok (.iconst 0, 1) := by decide +kernel
theorem dX1_findLongest_58 : decode cX1_findLongest 58 = .ok (.istore 6, 2) := by decide +kernel
theorem dX1_findLongest_60 : decode cX1_findLongest 60 = .ok (.iconst 1, 1) := by decide +kernel
theorem dX1_findLongest_61 : decode cX1_findLongest 61 = .ok (.istore 7, 2) := by decide +kernel
theorem dX1_findLongest_63 : decode cX1_findLongest 63 = .ok (.iload 7, 2) := by decide +kernel
theorem dX1_findLongest_65 : decode cX1_findLongest 65 = .ok (.iload 4, 2) := by decide +kernel
theorem dX1_findLongest_67 : decode cX1_findLongest 67 = .ok (.if_icmp .gt 74, 3) := by decide +kernel
theorem dX1_findLongest_70 : decode cX1_findLongest 70 = .ok (.aload_n 2, 1) := by decide +kernel
theorem dX1_findLongest_71 : decode cX1_findLongest 71 = .ok (.iload_n 3, 1) := by decide +kernel
theorem dX1_findLongest_72 : decode cX1_findLongest 72 = .ok (.iaload, 1) := by decide +kernel
theorem dX1_findLongest_73 : decode cX1_findLongest 73 = .ok (.aload_n 2, 1) := by decide +kernel
theorem dX1_findLongest_74 : decode cX1_findLongest 74 = .ok (.iload_n 3, 1) := by decide +kernel
theorem dX1_findLongest_75 : decode cX1_findLongest 75 = .ok (.iload 7, 2) := by decide +kernel
theorem dX1_findLongest_77 : decode cX1_findLongest 77 = .ok (.isub, 1) := by decide +kernel
theorem dX1_findLongest_78 : decode cX1_findLongest 78 = .ok (.iaload, 1) := by decide +kernel
theorem dX1_findLongest_79 : decode cX1_findLongest 79 = .ok (.if_icmp .ne 15, 3) := by decide +kernel
theorem dX1_findLongest_82 : decode cX1_findLongest 82 = .ok (.aload_n 0, 1) := by decide +kernel
theorem dX1_findLongest_83 : decode cX1_findLongest 83 = .ok (.getfield 26, 3) := by decide +kernel
theorem dX1_findLongest_86 : decode cX1_findLongest 86 = .ok (.iload 7, 2) := by decide +kernel
theorem dX1_findLongest_88 : decode cX1_findLongest 88 = .ok (.iaload, 1) := by decide +kernel
theorem dX1_findLongest_89 : decode cX1_findLongest 89 = .ok (.iconst 1, 1) := by decide +kernel
theorem dX1_findLongest_90 : decode cX1_findLongest 90 = .ok (.iadd, 1) := by decide +kernel
theorem dX1_findLongest_91 : decode cX1_findLongest 91 = .ok (.goto 4, 3) := by decide +kernel
theorem dX1_findLongest_94 : decode cX1_findLongest 94 = .ok (.iconst 0, 1) := by decide +kernel
theorem dX1_findLongest_95 : decode cX1_findLongest 95 = .ok (.istore 8, 2) := by decide +kernel
theorem dX1_findLongest_97 : decode cX1_findLongest 97 = .ok (.aload_n 0, 1) := by decide +kernel
theorem dX1_findLongest_98 : decode cX1_findLongest 98 = .ok (.getfield 26, 3) := by decide +kernel
theorem dX1_findLongest_101 : decode cX1_findLongest 101 = .ok (.iload 7, 2) := by decide +kernel
theorem dX1_findLongest_103 : decode cX1_findLongest 103 = .ok (.iload 8, 2) := by decide +kernel
theorem dX1_findLongest_105 : decode cX1_findLongest 105 = .ok (.iastore, 1) := by decide +kernel
theorem dX1_findLongest_106 : decode cX1_findLongest 106 = .ok (.iload 8, 2) := by decide +kernel
theorem dX1_findLongest_108 : decode cX1_findLongest 108 = .ok (.iload 5, 2) := by decide +kernel
theorem dX1_findLongest_110 : decode cX1_findLongest 110 = .ok (.if_icmp .le 25, 3) := by decide +kernel
theorem dX1_findLongest_113 : decode cX1_findLongest 113 = .ok (.iload 5, 2) := by decide +kernel
theorem dX1_findLongest_115 : decode cX1_findLongest 115 = .ok (.sipush 273, 3) := by decide +kernel
theorem dX1_findLongest_118 : decode cX1_findLongest 118 = .ok (.if_icmp .ge 17, 3) := by decide +kernel
theorem dX1_findLongest_121 : decode cX1_findLongest 121 = .ok (.iload 8, 2) := by decide +kernel
theorem dX1_findLongest_123 : decode cX1_findLongest 123 = .ok (.sipush 273, 3) := by decide +kernel
theorem dX1_findLongest_126 : decode cX1_findLongest 126 = .ok (.invokestatic 42, 3) := by decide +kernel
theorem dX1_findLongest_129 : decode cX1_findLongest 129 = .ok (.istore 5, 2) := by decide +kernel
theorem dX1_findLongest_131 : decode cX1_findLongest 131 = .ok (.iload 7, 2) := by decide +kernel
theorem dX1_findLongest_133 : decode cX1_findLongest 133 = .ok (.istore 6, 2) := by decide +kernel
theorem dX1_findLongest_135 : decode cX1_findLongest 135 = .ok (.iinc 7 1, 3) := by decide +kernel
theorem dX1_findLongest_138 : decode cX1_findLongest 138 = .ok (.goto (-75), 3) := by decide +kernel
theorem dX1_findLongest_141 : decode cX1_findLongest 141 = .ok (.aload_n 0, 1) := by decide +kernel
theorem dX1_findLongest_142 : decode cX1_findLongest 142 = .ok (.getfield 19, 3) := by decide +kernel
theorem dX1_findLongest_145 : decode cX1_findLongest 145 = .ok (.iload_n 3, 1) := by decide +kernel
theorem dX1_findLongest_146 : decode cX1_findLongest 146 = .ok (.aload_n 0, 1) := by decide +kernel
theorem dX1_findLongest_147 : decode cX1_findLongest 147 = .ok (.getfield 39, 3) := by decide +kernel
theorem dX1_findLongest_150 : decode cX1_findLongest 150 = .ok (.isub, 1) := by decide +kernel
theorem dX1_findLongest_151 : decode cX1_findLongest 151 = .ok (.iload 5, 2) := by decide +kernel
theorem dX1_findLongest_153 : decode cX1_findLongest 153 = .ok (.iastore, 1) := by decide +kernel
theorem dX1_findLongest_154 : decode cX1_findLongest 154 = .ok (.aload_n 0, 1) := by decide +kernel
theorem dX1_findLongest_155 : decode cX1_findLongest 155 = .ok (.getfield 23, 3) := by decide +kernel
theorem dX1_findLongest_158 : decode cX1_findLongest 158 = .ok (.iload_n 3, 1) := by decide +kernel
theorem dX1_findLongest_159 : decode cX1_findLongest 159 = .ok (.aload_n 0, 1) := by decide +kernel
theorem dX1_findLongest_160 : decode cX1_findLongest 160 = .ok (.getfield 39, 3) := by decide +kernel
theorem dX1_findLongest_163 : decode cX1_findLongest 163 = .ok (.isub, 1) := by decide +kernel
theorem dX1_findLongest_164 : decode cX1_findLongest 164 = .ok (.iload 6, 2) := by decide +kernel
theorem dX1_findLongest_166 : decode cX1_findLongest 166 = .ok (.iastore, 1) := by decide +kernel
theorem dX1_findLongest_167 : decode cX1_findLongest 167 = .ok (.iinc 3 (-1), 3) := by decide +kernel
theorem dX1_findLongest_170 : decode cX1_findLongest 170 = .ok (.goto (-142), 3) := by decide +kernel
theorem dX1_findLongest_173 : decode cX1_findLongest 173 = .ok (.return_, 1) := by decide +kernel
theorem dX1_weigh_0 : decode cX1_weigh 0 = .ok (.aload_n 0, 1) := by decide +kernel
theorem dX1_weigh_1 : decode cX1_weigh 1 = .ok (.getfield 48, 3) := by decide +kernel
theorem dX1_weigh_4 : decode cX1_weigh 4 = .ok (.aload_n 0, 1) := by decide +kernel
theorem dX1_weigh_5 : decode cX1_weigh 5 = .ok (.getfield 39, 3) := by decide +kernel
theorem dX1_weigh_8 : decode cX1_weigh 8 = .ok (.isub, 1) := by decide +kernel
theorem dX1_weigh_9 : decode cX1_weigh 9 = .ok (.istore_n 1, 1) := by decide +kernel
theorem dX1_weigh_10 : decode cX1_weigh 10 = .ok (.aload_n 0, 1) := by decide +kernel
theorem dX1_weigh_11 : decode cX1_weigh 11 = .ok (.getfield 29, 3) := by decide +kernel
theorem dX1_weigh_14 : decode cX1_weigh 14 = .ok (.iload_n 1, 1) := by decide +kernel
theorem dX1_weigh_15 : decode cX1_weigh 15 = .ok (.iconst 0, 1) := by decide +kernel
theorem dX1_weigh_16 : decode cX1_weigh 16 = .ok (.iastore, 1) := by decide +kernel
theorem dX1_weigh_17 : decode cX1_weigh 17 = .ok (.iload_n 1, 1) := by decide +kernel
theorem dX1_weigh_18 : decode cX1_weigh 18 = .ok (.iconst 1, 1) := by decide +kernel
theorem dX1_weigh_19 : decode cX1_weigh 19 = .ok (.isub, 1) := by decide +kernel
theorem dX1_weigh_20 : decode cX1_weigh 20 = .ok (.istore_n 2, 1) := by decide +kernel
theorem dX1_weigh_21 : decode cX1_weigh 21 = .ok (.iload_n 2, 1) := by decide +kernel
theorem dX1_weigh_22 : decode cX1_weigh 22 = .ok (.ifCond .lt 137, 3) := by decide +kernel
theorem dX1_weigh_25 : decode cX1_weigh 25 = .ok (.bipush 9, 2) := by decide +kernel
theorem dX1_weigh_27 : decode cX1_weigh 27 = .ok (.aload_n 0, 1) := by decide +kernel
theorem dX1_weigh_28 : decode cX1_weigh 28 = .ok (.getfield 29, 3) := by decide +kernel
theorem dX1_weigh_31 : decode cX1_weigh 31 = .ok (.iload_n 2, 1) := by decide +kernel
theorem dX1_weigh_32 : decode cX1_weigh 32 = .ok (.iconst 1, 1) := by decide +kernel
theorem dX1_weigh_33 : decode cX1_weigh 33 = .ok (.iadd, 1) := by decide +kernel
theorem dX1_weigh_34 : decode cX1_weigh 34 = .ok (.iaload, 1) := by decide +kernel
theorem dX1_weigh_35 : decode cX1_weigh 35 = .ok (.iadd, 1) := by decide +kernel
theorem dX1_weigh_36 : decode cX1_weigh 36 = .ok (.istore_n 3, 1) := by decide +kernel
theorem dX1_weigh_37 : decode cX1_weigh 37 = .ok (.iconst 1, 1) := by decide +kernel
theorem dX1_weigh_38 : decode cX1_weigh 38 = .ok (.istore 4, 2) := by decide +kernel
theorem dX1_weigh_40 : decode cX1_weigh 40 = .ok (.bipush 32, 2) := by decide +kernel
theorem dX1_weigh_42 : decode cX1_weigh 42 = .ok (.aload_n 0, 1) := by decide +kernel
theorem dX1_weigh_43 : decode cX1_weigh 43 = .ok (.getfield 23, 3) := by decide +kernel
theorem dX1_weigh_46 : decode cX1_weigh 46 = .ok (.iload_n 2, 1) := by decide +kernel
theorem dX1_weigh_47 : decode cX1_weigh 47 = .ok (.iaload, 1) := by decide +kernel
theorem dX1_weigh_48 : decode cX1_weigh 48 = .ok (.invokestatic 69, 3) := by decide +kernel
theorem dX1_weigh_51 : decode cX1_weigh 51 = .ok (.isub, 1) := by decide +kernel
theorem dX1_weigh_52 : decode cX1_weigh 52 = .ok (.istore 5, 2) := by decide +kernel
theorem dX1_weigh_54 : decode cX1_weigh 54 = .ok (.iconst 2, 1) := by decide +kernel
theorem dX1_weigh_55 : decode cX1_weigh 55 = .ok (.istore 6, 2) := by decide +kernel
theorem dX1_weigh_57 : decode cX1_weigh 57 = .ok (.iload 6, 2) := by decide +kernel
theorem dX1_weigh_59 : decode cX1_weigh 59 = .ok (.aload_n 0, 1) := by decide +kernel
theorem dX1_weigh_60 : decode cX1_weigh 60 = .ok (.getfield 19, 3) := by decide +kernel
theorem dX1_weigh_63 : decode cX1_weigh 63 = .ok (.iload_n 2, 1) := by decide +kernel
theorem dX1_weigh_64 : decode cX1_weigh 64 = .ok (.iaload, 1) := by decide +kernel
theorem dX1_weigh_65 : decode cX1_weigh 65 = .ok (.if_icmp .gt 73, 3) := by decide +kernel
theorem dX1_weigh_68 : decode cX1_weigh 68 = .ok (.iload_n 2, 1) := by decide +kernel
theorem dX1_weigh_69 : decode cX1_weigh 69 = .ok (.iload 6, 2) := by decide +kernel
theorem dX1_weigh_71 : decode cX1_weigh 71 = .ok (.iadd, 1) := by decide +kernel
theorem dX1_weigh_72 : decode cX1_weigh 72 = .ok (.iload_n 1, 1) := by decide +kernel
theorem dX1_weigh_73 : decode cX1_weigh 73 = .ok (.if_icmp .gt 65, 3) := by decide +kernel
theorem dX1_weigh_76 : decode cX1_weigh 76 = .ok (.bipush 7, 2) := by decide +kernel
theorem dX1_weigh_78 : decode cX1_weigh 78 = .ok (.iload 6, 2) := by decide +kernel
theorem dX1_weigh_80 : decode cX1_weigh 80 = .ok (.bipush 9, 2) := by decide +kernel
theorem dX1_weigh_82 : decode cX1_weigh 82 = .ok (.if_icmp .le 7, 3) := by decide +kernel
theorem dX1_weigh_85 : decode cX1_weigh 85 = .ok (.iconst 3, 1) := by decide +kernel
theorem dX1_weigh_86 : decode cX1_weigh 86 = .ok (.goto 4, 3) := by decide +kernel
theorem dX1_weigh_89 : decode cX1_weigh 89 = .ok (.iconst 0, 1) := by decide +kernel
theorem dX1_weigh_90 : decode cX1_weigh 90 = .ok (.iadd, 1) := by decide +kernel
theorem dX1_weigh_91 : decode cX1_weigh 91 = .ok (.iload 6, 2) := by decide +kernel
theorem dX1_weigh_93 : decode cX1_weigh 93 = .ok (.bipush 17, 2) := by decide +kernel
theorem dX1_weigh_95 : decode cX1_weigh 95 = .ok (.if_icmp .le 7, 3) := by decide +kernel
theorem dX1_weigh_98 : decode cX1_weigh 98 = .ok (.iconst 5, 1) := by decide +kernel
theorem dX1_weigh_99 : decode cX1_weigh 99 = .ok (.goto 4, 3) := by decide +kernel
theorem dX1_weigh_102 : decode cX1_weigh 102 = .ok (.iconst 0, 1) := by decide +kernel
theorem dX1_weigh_103 : decode cX1_weigh 103 = .ok (.iadd, 1) := by decide +kernel
theorem dX1_weigh_104 : decode cX1_weigh 104 = .ok (.iload 5, 2) := by decide +kernel
theorem dX1_weigh_106 : decode cX1_weigh 106 = .ok (.iadd, 1) := by decide +kernel
theorem dX1_weigh_107 : decode cX1_weigh 107 = .ok (.aload_n 0, 1) := by decide +kernel
theorem dX1_weigh_108 : decode cX1_weigh 108 = .ok (.getfield 29, 3) := by decide +kernel
theorem dX1_weigh_111 : decode cX1_weigh 111 = .ok (.iload_n 2, 1) := by decide +kernel
theorem dX1_weigh_112 : decode cX1_weigh 112 = .ok (.iload 6, 2) := by decide +kernel
theorem dX1_weigh_114 : decode cX1_weigh 114 = .ok (.iadd, 1) := by decide +kernel
theorem dX1_weigh_115 : decode cX1_weigh 115 = .ok (.iaload, 1) := by decide +kernel
theorem dX1_weigh_116 : decode cX1_weigh 116 = .ok (.iadd, 1) := by decide +kernel
theorem dX1_weigh_117 : decode cX1_weigh 117 = .ok (.istore 7, 2) := by decide +kernel
theorem dX1_weigh_119 : decode cX1_weigh 119 = .ok (.iload 7, 2) := by decide +kernel
theorem dX1_weigh_121 : decode cX1_weigh 121 = .ok (.iload_n 3, 1) := by decide +kernel
theorem dX1_weigh_122 : decode cX1_weigh 122 = .ok (.if_icmp .gt 10, 3) := by decide +kernel
theorem dX1_weigh_125 : decode cX1_weigh 125 = .ok (.iload 7, 2) := by decide +kernel
theorem dX1_weigh_127 : decode cX1_weigh 127 = .ok (.istore_n 3, 1) := by decide +kernel
theorem dX1_weigh_128 : decode cX1_weigh 128 = .ok (.iload 6, 2) := by decide +kernel
theorem dX1_weigh_130 : decode cX1_weigh 130 = .ok (.istore 4, 2) := by decide +kernel
theorem dX1_weigh_132 : decode cX1_weigh 132 = .ok (.iinc 6 1, 3) := by decide +kernel
theorem dX1_weigh_135 : decode cX1_weigh 135 = .ok (.goto (-78), 3) := by decide +kernel
theorem dX1_weigh_138 : decode cX1_weigh 138 = .ok (.aload_n 0, 1) := by decide +kernel
theorem dX1_weigh_139 : decode cX1_weigh 139 = .ok (.getfield 29, 3) := by decide +kernel
theorem dX1_weigh_142 : decode cX1_weigh 142 = .ok (.iload_n 2, 1) := by decide +kernel
theorem dX1_weigh_143 : decode cX1_weigh 143 = .ok (.iload_n 3, 1) := by decide +kernel
theorem dX1_weigh_144 : decode cX1_weigh 144 = .ok (.iastore, 1) := by decide +kernel
theorem dX1_weigh_145 : decode cX1_weigh 145 = .ok (.aload_n 0, 1) := by decide +kernel
theorem dX1_weigh_146 : decode cX1_weigh 146 = .ok (.getfield 32, 3) := by decide +kernel
theorem dX1_weigh_149 : decode cX1_weigh 149 = .ok (.iload_n 2, 1) := by decide +kernel
theorem dX1_weigh_150 : decode cX1_weigh 150 = .ok (.iload 4, 2) := by decide +kernel
theorem dX1_weigh_152 : decode cX1_weigh 152 = .ok (.iastore, 1) := by decide +kernel
theorem dX1_weigh_153 : decode cX1_weigh 153 = .ok (.iinc 2 (-1), 3) := by decide +kernel
theorem dX1_weigh_156 : decode cX1_weigh 156 = .ok (.goto (-135), 3) := by decide +kernel
theorem dX1_weigh_159 : decode cX1_weigh 159 = .ok (.return_, 1) := by decide +kernel
theorem dX1_choose_0 : decode cX1_choose 0 = .ok (.iload_n 2, 1) := by decide +kernel
theorem dX1_choose_1 : decode cX1_choose 1 = .ok (.aload_n 0, 1) := by decide +kernel
theorem dX1_choose_2 : decode cX1_choose 2 = .ok (.getfield 39, 3) := by decide +kernel
theorem dX1_choose_5 : decode cX1_choose 5 = .ok (.if_icmp .lt 11, 3) := by decide +kernel
theorem dX1_choose_8 : decode cX1_choose 8 = .ok (.iload_n 2, 1) := by decide +kernel
theorem dX1_choose_9 : decode cX1_choose 9 = .ok (.aload_n 0, 1) := by decide +kernel
theorem dX1_choose_10 : decode cX1_choose 10 = .ok (.getfield 48, 3) := by decide +kernel
theorem dX1_choose_13 : decode cX1_choose 13 = .ok (.if_icmp .lt 13, 3) := by decide +kernel
theorem dX1_choose_16 : decode cX1_choose 16 = .ok (.aload_n 0, 1) := by decide +kernel
theorem dX1_choose_17 : decode cX1_choose 17 = .ok (.iconst 0, 1) := by decide +kernel
theorem dX1_choose_18 : decode cX1_choose 18 = .ok (.iconst 1, 1) := by decide +kernel
theorem dX1_choose_19 : decode cX1_choose 19 = .ok (.iconst 0, 1) := by decide +kernel
theorem dX1_choose_20 : decode cX1_choose 20 = .ok (.invokevirtual 75, 3) := by decide +kernel
theorem dX1_choose_23 : decode cX1_choose 23 = .ok (.goto 34, 3) := by decide +kernel
theorem dX1_choose_26 : decode cX1_choose 26 = .ok (.iload_n 1, 1) := by decide +kernel
theorem dX1_choose_27 : decode cX1_choose 27 = .ok (.iconst 2, 1) := by decide +kernel
theorem dX1_choose_28 : decode cX1_choose 28 = .ok (.if_icmp .ne 11, 3) := by decide +kernel
theorem dX1_choose_31 : decode cX1_choose 31 = .ok (.aload_n 0, 1) := by decide +kernel
theorem dX1_choose_32 : decode cX1_choose 32 = .ok (.iload_n 2, 1) := by decide +kernel
theorem dX1_choose_33 : decode cX1_choose 33 = .ok (.invokevirtual 79, 3) := by decide +kernel
theorem dX1_choose_36 : decode cX1_choose 36 = .ok (.goto 21, 3) := by decide +kernel
theorem dX1_choose_39 : decode cX1_choose 39 = .ok (.iload_n 1, 1) := by decide +kernel
theorem dX1_choose_40 : decode cX1_choose 40 = .ok (.iconst 1, 1) := by decide +kernel
theorem dX1_choose_41 : decode cX1_choose 41 = .ok (.if_icmp .ne 11, 3) := by decide +kernel
theorem dX1_choose_44 : decode cX1_choose 44 = .ok (.aload_n 0, 1) := by decide +kernel
theorem dX1_choose_45 : decode cX1_choose 45 = .ok (.iload_n 2, 1) := by decide +kernel
theorem dX1_choose_46 : decode cX1_choose 46 = .ok (.invokevirtual 82, 3) := by decide +kernel
theorem dX1_choose_49 : decode cX1_choose 49 = .ok (.goto 8, 3) := by decide +kernel
theorem dX1_choose_52 : decode cX1_choose 52 = .ok (.aload_n 0, 1) := by decide +kernel
theorem dX1_choose_53 : decode cX1_choose 53 = .ok (.iload_n 2, 1) := by decide +kernel
theorem dX1_choose_54 : decode cX1_choose 54 = .ok (.invokevirtual 85, 3) := by decide +kernel
theorem dX1_choose_57 : decode cX1_choose 57 = .ok (.return_, 1) := by decide +kernel
theorem dX1_take_0 : decode cX1_take 0 = .ok (.aload_n 0, 1) := by decide +kernel
theorem dX1_take_1 : decode cX1_take 1 = .ok (.iload_n 1, 1) := by decide +kernel
theorem dX1_take_2 : decode cX1_take 2 = .ok (.putfield 88, 3) := by decide +kernel
theorem dX1_take_5 : decode cX1_take 5 = .ok (.aload_n 0, 1) := by decide +kernel
theorem dX1_take_6 : decode cX1_take 6 = .ok (.iload_n 2, 1) := by decide +kernel
theorem dX1_take_7 : decode cX1_take 7 = .ok (.putfield 91, 3) := by decide +kernel
theorem dX1_take_10 : decode cX1_take 10 = .ok (.aload_n 0, 1) := by decide +kernel
theorem dX1_take_11 : decode cX1_take 11 = .ok (.iload_n 3, 1) := by decide +kernel
theorem dX1_take_12 : decode cX1_take 12 = .ok (.putfield 94, 3) := by decide +kernel
theorem dX1_take_15 : decode cX1_take 15 = .ok (.return_, 1) := by decide +kernel
theorem dX1_chooseGreedily_0 : decode cX1_chooseGreedily 0 = .ok (.iconst 0, 1) := by decide +kernel
theorem dX1_chooseGreedily_1 : decode cX1_chooseGreedily 1 = .ok (.istore_n 2, 1) := by decide +kernel
theorem dX1_chooseGreedily_2 : decode cX1_chooseGreedily 2 = .ok (.iconst (-1), 1) := by decide +kernel
theorem dX1_chooseGreedily_3 : decode cX1_chooseGreedily 3 = .ok (.istore_n 3, 1) := by decide +kernel
theorem dX1_chooseGreedily_4 : decode cX1_chooseGreedily 4 = .ok (.iconst 0, 1) := by decide +kernel
theorem dX1_chooseGreedily_5 : decode cX1_chooseGreedily 5 = .ok (.istore 4, 2) := by decide +kernel
theorem dX1_chooseGreedily_7 : decode cX1_chooseGreedily 7 = .ok (.iload 4, 2) := by decide +kernel
theorem dX1_chooseGreedily_9 : decode cX1_chooseGreedily 9 = .ok (.iconst 4, 1) := by decide +kernel
theorem dX1_chooseGreedily_10 : decode cX1_chooseGreedily 10 = .ok (.if_icmp .ge 37, 3) := by decide +kernel
theorem dX1_chooseGreedily_13 : decode cX1_chooseGreedily 13 = .ok (.aload_n 0, 1) := by decide +kernel
theorem dX1_chooseGreedily_14 : decode cX1_chooseGreedily 14 = .ok (.iload_n 1, 1) := by decide +kernel
theorem dX1_chooseGreedily_15 : decode cX1_chooseGreedily 15 = .ok (.aload_n 0, 1) := by decide +kernel
theorem dX1_chooseGreedily_16 : decode cX1_chooseGreedily 16 = .ok (.getfield 15, 3) := by decide +kernel
theorem dX1_chooseGreedily_19 : decode cX1_chooseGreedily 19 = .ok (.iload 4, 2) := by decide +kernel
theorem dX1_chooseGreedily_21 : decode cX1_chooseGreedily 21 = .ok (.invokevirtual 97, 3) := by decide +kernel
theorem dX1_chooseGreedily_24 : decode cX1_chooseGreedily 24 = .ok (.invokevirtual 103, 3) := by decide +kernel
theorem dX1_chooseGreedily_27 : decode cX1_chooseGreedily 27 = .ok (.istore 5, 2) := by decide +kernel
theorem dX1_chooseGreedily_29 : decode cX1_chooseGreedily 29 = .ok (.iload 5, 2) := by decide +kernel
theorem dX1_chooseGreedily_31 : decode cX1_chooseGreedily 31 = .ok (.iload_n 3, 1) := by decide +kernel
theorem dX1_chooseGreedily_32 : decode cX1_chooseGreedily 32 = .ok (.if_icmp .le 9, 3) := by decide +kernel
theorem dX1_chooseGreedily_35 : decode cX1_chooseGreedily 35 = .ok (.iload 5, 2) := by decide +kernel
theorem dX1_chooseGreedily_37 : decode cX1_chooseGreedily 37 = .ok (.istore_n 3, 1) := by decide +kernel
theorem dX1_chooseGreedily_38 : decode cX1_chooseGreedily 38 = .ok (.iload 4, 2) := by decide +kernel
theorem dX1_chooseGreedily_40 : decode cX1_chooseGreedily 40 = .ok (.istore_n 2, 1) := by decide +kernel
theorem dX1_chooseGreedily_41 : decode cX1_chooseGreedily 41 = .ok (.iinc 4 1, 3) := by decide +kernel
theorem dX1_chooseGreedily_44 : decode cX1_chooseGreedily 44 = .ok (.goto (-37), 3) := by decide +kernel
theorem dX1_chooseGreedily_47 : decode cX1_chooseGreedily 47 = .ok (.aload_n 0, 1) := by decide +kernel
theorem dX1_chooseGreedily_48 : decode cX1_chooseGreedily 48 = .ok (.getfield 19, 3) := by decide +kernel
theorem dX1_chooseGreedily_51 : decode cX1_chooseGreedily 51 = .ok (.iload_n 1, 1) := by decide +kernel
theorem dX1_chooseGreedily_52 : decode cX1_chooseGreedily 52 = .ok (.aload_n 0, 1) := by decide +kernel
theorem dX1_chooseGreedily_53 : decode cX1_chooseGreedily 53 = .ok (.getfield 39, 3) := by decide +kernel
theorem dX1_chooseGreedily_56 : decode cX1_chooseGreedily 56 = .ok (.isub, 1) := by decide +kernel
theorem dX1_chooseGreedily_57 : decode cX1_chooseGreedily 57 = .ok (.iaload, 1) := by decide +kernel
theorem dX1_chooseGreedily_58 : decode cX1_chooseGreedily 58 = .ok (.istore 4, 2) := by decide +kernel
theorem dX1_chooseGreedily_60 : decode cX1_chooseGreedily 60 = .ok (.aload_n 0, 1) := by decide +kernel
theorem dX1_chooseGreedily_61 : decode cX1_chooseGreedily 61 = .ok (.getfield 23, 3) := by decide +kernel
theorem dX1_chooseGreedily_64 : decode cX1_chooseGreedily 64 = .ok (.iload_n 1, 1) := by decide +kernel
theorem dX1_chooseGreedily_65 : decode cX1_chooseGreedily 65 = .ok (.aload_n 0, 1) := by decide +kernel
theorem dX1_chooseGreedily_66 : decode cX1_chooseGreedily 66 = .ok (.getfield 39, 3) := by decide +kernel
theorem dX1_chooseGreedily_69 : decode cX1_chooseGreedily 69 = .ok (.isub, 1) := by decide +kernel
theorem dX1_chooseGreedily_70 : decode cX1_chooseGreedily 70 = .ok (.iaload, 1) := by decide +kernel
theorem dX1_chooseGreedily_71 : decode cX1_chooseGreedily 71 = .ok (.istore 5, 2) := by decide +kernel
theorem dX1_chooseGreedily_73 : decode cX1_chooseGreedily 73 = .ok (.iload_n 3, 1) := by decide +kernel
theorem dX1_chooseGreedily_74 : decode cX1_chooseGreedily 74 = .ok (.iconst 2, 1) := by decide +kernel
theorem dX1_chooseGreedily_75 : decode cX1_chooseGreedily 75 = .ok (.if_icmp .lt 31, 3) := by decide +kernel
theorem dX1_chooseGreedily_78 : decode cX1_chooseGreedily 78 = .ok (.iload_n 3, 1) := by decide +kernel
theorem dX1_chooseGreedily_79 : decode cX1_chooseGreedily 79 = .ok (.iload 4, 2) := by decide +kernel
theorem dX1_chooseGreedily_81 : decode cX1_chooseGreedily 81 = .ok (.iconst 1, 1) := by decide +kernel
theorem dX1_chooseGreedily_82 : decode cX1_chooseGreedily 82 = .ok (.isub, 1) := by decide +kernel
theorem dX1_chooseGreedily_83 : decode cX1_chooseGreedily 83 = .ok (.if_icmp .lt 23, 3) := by decide +kernel
theorem dX1_chooseGreedily_86 : decode cX1_chooseGreedily 86 = .ok (.aload_n 0, 1) := by decide +kernel
theorem dX1_chooseGreedily_87 : decode cX1_chooseGreedily 87 = .ok (.iconst 2, 1) := by decide +kernel
theorem dX1_chooseGreedily_88 : decode cX1_chooseGreedily 88 = .ok (.iload_n 2, 1) := by decide +kernel
theorem dX1_chooseGreedily_89 : decode cX1_chooseGreedily 89 = .ok (.iadd, 1) := by decide +kernel
theorem dX1_chooseGreedily_90 : decode cX1_chooseGreedily 90 = .ok (.iload_n 3, 1) := by decide +kernel
theorem dX1_chooseGreedily_91 : decode cX1_chooseGreedily 91 = .ok (.aload_n 0, 1) := by decide +kernel
theorem dX1_chooseGreedily_92 : decode cX1_chooseGreedily 92 = .ok (.getfield 15, 3) := by decide +kernel
theorem dX1_chooseGreedily_95 : decode cX1_chooseGreedily 95 = .ok (.iload_n 2, 1) := by decide +kernel
theorem dX1_chooseGreedily_96 : decode cX1_chooseGreedily 96 = .ok (.invokevirtual 97, 3) := by decide +kernel
theorem dX1_chooseGreedily_99 : decode cX1_chooseGreedily 99 = .ok (.l2i, 1) := by decide +kernel
theorem dX1_chooseGreedily_100 : decode cX1_chooseGreedily 100 = .ok (.invokevirtual 75, 3) := by decide +kernel
theorem dX1_chooseGreedily_103 : decode cX1_chooseGreedily 103 = .ok (.goto 78, 3) := by decide +kernel
theorem dX1_chooseGreedily_106 : decode cX1_chooseGreedily 106 = .ok (.iload 4, 2) := by decide +kernel
theorem dX1_chooseGreedily_108 : decode cX1_chooseGreedily 108 = .ok (.iconst 3, 1) := by decide +kernel
theorem dX1_chooseGreedily_109 : decode cX1_chooseGreedily 109 = .ok (.if_icmp .ge 17, 3) := by decide +kernel
theorem dX1_chooseGreedily_112 : decode cX1_chooseGreedily 112 = .ok (.iload 4, 2) := by decide +kernel
theorem dX1_chooseGreedily_114 : decode cX1_chooseGreedily 114 = .ok (.iconst 2, 1) := by decide +kernel
theorem dX1_chooseGreedily_115 : decode cX1_chooseGreedily 115 = .ok (.if_icmp .ne 23, 3) := by decide +kernel
theorem dX1_chooseGreedily_118 : decode cX1_chooseGreedily 118 = .ok (.iload 5, 2) := by decide +kernel
theorem dX1_chooseGreedily_120 : decode cX1_chooseGreedily 120 = .ok (.sipush 128, 3) := by decide +kernel
theorem dX1_chooseGreedily_123 : decode cX1_chooseGreedily 123 = .ok (.if_icmp .gt 15, 3) := by decide +kernel
theorem dX1_chooseGreedily_126 : decode cX1_chooseGreedily 126 = .ok (.aload_n 0, 1) := by decide +kernel
theorem dX1_chooseGreedily_127 : decode cX1_chooseGreedily 127 = .ok (.iconst 1, 1) := by decide +kernel
theorem dX1_chooseGreedily_128 : decode cX1_chooseGreedily 128 = .ok (.iload 4, 2) := by decide +kernel
theorem dX1_chooseGreedily_130 : decode cX1_chooseGreedily 130 = .ok (.iload 5, 2) := by decide +kernel
theorem dX1_chooseGreedily_132 : decode cX1_chooseGreedily 132 = .ok (.invokevirtual 75, 3) := by decide +kernel
theorem dX1_chooseGreedily_135 : decode cX1_chooseGreedily 135 = .ok (.goto 46, 3) := by decide +kernel
theorem dX1_chooseGreedily_138 : decode cX1_chooseGreedily 138 = .ok (.aload_n 0, 1) := by decide +kernel
theorem dX1_chooseGreedily_139 : decode cX1_chooseGreedily 139 = .ok (.iload_n 1, 1) := by decide +kernel
theorem dX1_chooseGreedily_140 : decode cX1_chooseGreedily 140 = .ok (.aload_n 0, 1) := by decide +kernel
theorem dX1_chooseGreedily_141 : decode cX1_chooseGreedily 141 = .ok (.getfield 15, 3) := by decide +kernel
theorem dX1_chooseGreedily_144 : decode cX1_chooseGreedily 144 = .ok (.iconst 0, 1) := by decide +kernel
theorem dX1_chooseGreedily_145 : decode cX1_chooseGreedily 145 = .ok (.invokevirtual 97, 3) := by decide +kernel
theorem dX1_chooseGreedily_148 : decode cX1_chooseGreedily 148 = .ok (.invokevirtual 103, 3) := by decide +kernel
theorem dX1_chooseGreedily_151 : decode cX1_chooseGreedily 151 = .ok (.iconst 1, 1) := by decide +kernel
theorem dX1_chooseGreedily_152 : decode cX1_chooseGreedily 152 = .ok (.if_icmp .ne 22, 3) := by decide +kernel
theorem dX1_chooseGreedily_155 : decode cX1_chooseGreedily 155 = .ok (.aload_n 0, 1) := by decide +kernel
theorem dX1_chooseGreedily_156 : decode cX1_chooseGreedily 156 = .ok (.bipush 6, 2) := by decide +kernel
theorem dX1_chooseGreedily_158 : decode cX1_chooseGreedily 158 = .ok (.iconst 1, 1) := by decide +kernel
theorem dX1_chooseGreedily_159 : decode cX1_chooseGreedily 159 = .ok (.aload_n 0, 1) := by decide +kernel
theorem dX1_chooseGreedily_160 : decode cX1_chooseGreedily 160 = .ok (.getfield 15, 3) := by decide +kernel
theorem dX1_chooseGreedily_163 : decode cX1_chooseGreedily 163 = .ok (.iconst 0, 1) := by decide +kernel
theorem dX1_chooseGreedily_164 : decode cX1_chooseGreedily 164 = .ok (.invokevirtual 97, 3) := by decide +kernel
theorem dX1_chooseGreedily_167 : decode cX1_chooseGreedily 167 = .ok (.l2i, 1) := by decide +kernel
theorem dX1_chooseGreedily_168 : decode cX1_chooseGreedily 168 = .ok (.invokevirtual 75, 3) := by decide +kernel
theorem dX1_chooseGreedily_171 : decode cX1_chooseGreedily 171 = .ok (.goto 10, 3) := by decide +kernel
theorem dX1_chooseGreedily_174 : decode cX1_chooseGreedily 174 = .ok (.aload_n 0, 1) := by decide +kernel
theorem dX1_chooseGreedily_175 : decode cX1_chooseGreedily 175 = .ok (.iconst 0, 1) := by decide +kernel
theorem dX1_chooseGreedily_176 : decode cX1_chooseGreedily 176 = .ok (.iconst 1, 1) := by decide +kernel
theorem dX1_chooseGreedily_177 : decode cX1_chooseGreedily 177 = .ok (.iconst 0, 1) := by decide +kernel
theorem dX1_chooseGreedily_178 : decode cX1_chooseGreedily 178 = .ok (.invokevirtual 75, 3) := by decide +kernel
theorem dX1_chooseGreedily_181 : decode cX1_chooseGreedily 181 = .ok (.return_, 1) := by decide +kernel
theorem dX1_chooseLazily_0 : decode cX1_chooseLazily 0 = .ok (.aload_n 0, 1) := by decide +kernel
theorem dX1_chooseLazily_1 : decode cX1_chooseLazily 1 = .ok (.iload_n 1, 1) := by decide +kernel
theorem dX1_chooseLazily_2 : decode cX1_chooseLazily 2 = .ok (.invokevirtual 85, 3) := by decide +kernel
theorem dX1_chooseLazily_5 : decode cX1_chooseLazily 5 = .ok (.aload_n 0, 1) := by decide +kernel
theorem dX1_chooseLazily_6 : decode cX1_chooseLazily 6 = .ok (.getfield 88, 3) := by decide +kernel
theorem dX1_chooseLazily_9 : decode cX1_chooseLazily 9 = .ok (.ifCond .eq 31, 3) := by decide +kernel
theorem dX1_chooseLazily_12 : decode cX1_chooseLazily 12 = .ok (.aload_n 0, 1) := by decide +kernel
theorem dX1_chooseLazily_13 : decode cX1_chooseLazily 13 = .ok (.getfield 88, 3) := by decide +kernel
theorem dX1_chooseLazily_16 : decode cX1_chooseLazily 16 = .ok (.bipush 6, 2) := by decide +kernel
theorem dX1_chooseLazily_18 : decode cX1_chooseLazily 18 = .ok (.if_icmp .eq 22, 3) := by decide +kernel
theorem dX1_chooseLazily_21 : decode cX1_chooseLazily 21 = .ok (.aload_n 0, 1) := by decide +kernel
theorem dX1_chooseLazily_22 : decode cX1_chooseLazily 22 = .ok (.getfield 91, 3) := by decide +kernel
theorem dX1_chooseLazily_25 : decode cX1_chooseLazily 25 = .ok (.bipush 32, 2) := by decide +kernel
theorem dX1_chooseLazily_27 : decode cX1_chooseLazily 27 = .ok (.if_icmp .ge 13, 3) := by decide +kernel
theorem dX1_chooseLazily_30 : decode cX1_chooseLazily 30 = .ok (.iload_n 1, 1) := by decide +kernel
theorem dX1_chooseLazily_31 : decode cX1_chooseLazily 31 = .ok (.iconst 1, 1) := by decide +kernel
theorem dX1_chooseLazily_32 : decode cX1_chooseLazily 32 = .ok (.iadd, 1) := by decide +kernel
theorem dX1_chooseLazily_33 : decode cX1_chooseLazily 33 = .ok (.aload_n 0, 1) := by decide +kernel
theorem dX1_chooseLazily_34 : decode cX1_chooseLazily 34 = .ok (.getfield 48, 3) := by decide +kernel
theorem dX1_chooseLazily_37 : decode cX1_chooseLazily 37 = .ok (.if_icmp .lt 4, 3) := by decide +kernel
theorem dX1_chooseLazily_40 : decode cX1_chooseLazily 40 = .ok (.return_, 1) := by decide +kernel
theorem dX1_chooseLazily_41 : decode cX1_chooseLazily 41 = .ok (.aload_n 0, 1) := by decide +kernel
theorem dX1_chooseLazily_42 : decode cX1_chooseLazily 42 = .ok (.getfield 88, 3) := by decide +kernel
theorem dX1_chooseLazily_45 : decode cX1_chooseLazily 45 = .ok (.istore_n 2, 1) := by decide +kernel
theorem dX1_chooseLazily_46 : decode cX1_chooseLazily 46 = .ok (.aload_n 0, 1) := by decide +kernel
theorem dX1_chooseLazily_47 : decode cX1_chooseLazily 47 = .ok (.getfield 91, 3) := by decide +kernel
theorem dX1_chooseLazily_50 : decode cX1_chooseLazily 50 = .ok (.istore_n 3, 1) := by decide +kernel
theorem dX1_chooseLazily_51 : decode cX1_chooseLazily 51 = .ok (.aload_n 0, 1) := by decide +kernel
theorem dX1_chooseLazily_52 : decode cX1_chooseLazily 52 = .ok (.getfield 94, 3) := by decide +kernel
theorem dX1_chooseLazily_55 : decode cX1_chooseLazily 55 = .ok (.istore 4, 2) := by decide +kernel
theorem dX1_chooseLazily_57 : decode cX1_chooseLazily 57 = .ok (.aload_n 0, 1) := by decide +kernel
theorem dX1_chooseLazily_58 : decode cX1_chooseLazily 58 = .ok (.iload_n 1, 1) := by decide +kernel
theorem dX1_chooseLazily_59 : decode cX1_chooseLazily 59 = .ok (.iconst 1, 1) := by decide +kernel
theorem dX1_chooseLazily_60 : decode cX1_chooseLazily 60 = .ok (.iadd, 1) := by decide +kernel
theorem dX1_chooseLazily_61 : decode cX1_chooseLazily 61 = .ok (.invokevirtual 85, 3) := by decide +kernel
theorem dX1_chooseLazily_64 : decode cX1_chooseLazily 64 = .ok (.aload_n 0, 1) := by decide +kernel
theorem dX1_chooseLazily_65 : decode cX1_chooseLazily 65 = .ok (.getfield 91, 3) := by decide +kernel
theorem dX1_chooseLazily_68 : decode cX1_chooseLazily 68 = .ok (.iload_n 3, 1) := by decide +kernel
theorem dX1_chooseLazily_69 : decode cX1_chooseLazily 69 = .ok (.iconst 2, 1) := by decide +kernel
theorem dX1_chooseLazily_70 : decode cX1_chooseLazily 70 = .ok (.iadd, 1) := by decide +kernel
theorem dX1_chooseLazily_71 : decode cX1_chooseLazily 71 = .ok (.if_icmp .lt 13, 3) := by decide +kernel
theorem dX1_chooseLazily_74 : decode cX1_chooseLazily 74 = .ok (.aload_n 0, 1) := by decide +kernel
theorem dX1_chooseLazily_75 : decode cX1_chooseLazily 75 = .ok (.iconst 0, 1) := by decide +kernel
theorem dX1_chooseLazily_76 : decode cX1_chooseLazily 76 = .ok (.iconst 1, 1) := by decide +kernel
theorem dX1_chooseLazily_77 : decode cX1_chooseLazily 77 = .ok (.iconst 0, 1) := by decide +kernel
theorem dX1_chooseLazily_78 : decode cX1_chooseLazily 78 = .ok (.invokevirtual 75, 3) := by decide +kernel
theorem dX1_chooseLazily_81 : decode cX1_chooseLazily 81 = .ok (.goto 11, 3) := by decide +kernel
theorem dX1_chooseLazily_84 : decode cX1_chooseLazily 84 = .ok (.aload_n 0, 1) := by decide +kernel
theorem dX1_chooseLazily_85 : decode cX1_chooseLazily 85 = .ok (.iload_n 2, 1) := by decide +kernel
theorem dX1_chooseLazily_86 : decode cX1_chooseLazily 86 = .ok (.iload_n 3, 1) := by decide +kernel
theorem dX1_chooseLazily_87 : decode cX1_chooseLazily 87 = .ok (.iload 4, 2) := by decide +kernel
theorem dX1_chooseLazily_89 : decode cX1_chooseLazily 89 = .ok (.invokevirtual 75, 3) := by decide +kernel
theorem dX1_chooseLazily_92 : decode cX1_chooseLazily 92 = .ok (.return_, 1) := by decide +kernel
theorem dX1_chooseCheapest_0 : decode cX1_chooseCheapest 0 = .ok (.aload_n 0, 1) := by decide +kernel
theorem dX1_chooseCheapest_1 : decode cX1_chooseCheapest 1 = .ok (.getfield 32, 3) := by decide +kernel
theorem dX1_chooseCheapest_4 : decode cX1_chooseCheapest 4 = .ok (.iload_n 1, 1) := by decide +kernel
theorem dX1_chooseCheapest_5 : decode cX1_chooseCheapest 5 = .ok (.aload_n 0, 1) := by decide +kernel
theorem dX1_chooseCheapest_6 : decode cX1_chooseCheapest 6 = .ok (.getfield 39, 3) := by decide +kernel
theorem dX1_chooseCheapest_9 : decode cX1_chooseCheapest 9 = .ok (.isub, 1) := by decide +kernel
theorem dX1_chooseCheapest_10 : decode cX1_chooseCheapest 10 = .ok (.iaload, 1) := by decide +kernel
theorem dX1_chooseCheapest_11 : decode cX1_chooseCheapest 11 = .ok (.istore_n 2, 1) := by decide +kernel
theorem dX1_chooseCheapest_12 : decode cX1_chooseCheapest 12 = .ok (.iload_n 2, 1) := by decide +kernel
theorem dX1_chooseCheapest_13 : decode cX1_chooseCheapest 13 = .ok (.iconst 2, 1) := by decide +kernel
theorem dX1_chooseCheapest_14 : decode cX1_chooseCheapest 14 = .ok (.if_icmp .ge 59, 3) := by decide +kernel
theorem dX1_chooseCheapest_17 : decode cX1_chooseCheapest 17 = .ok (.aload_n 0, 1) := by decide +kernel
theorem dX1_chooseCheapest_18 : decode cX1_chooseCheapest 18 = .ok (.getfield 15, 3) := by decide +kernel
theorem dX1_chooseCheapest_21 : decode cX1_chooseCheapest 21 = .ok (.getfield 107, 3) := by decide +kernel
theorem dX1_chooseCheapest_24 : decode cX1_chooseCheapest 24 = .ok (.bipush 7, 2) := by decide +kernel
theorem dX1_chooseCheapest_26 : decode cX1_chooseCheapest 26 = .ok (.if_icmp .lt 39, 3) := by decide +kernel
theorem dX1_chooseCheapest_29 : decode cX1_chooseCheapest 29 = .ok (.aload_n 0, 1) := by decide +kernel
theorem dX1_chooseCheapest_30 : decode cX1_chooseCheapest 30 = .ok (.iload_n 1, 1) := by decide +kernel
theorem dX1_chooseCheapest_31 : decode cX1_chooseCheapest 31 = .ok (.aload_n 0, 1) := by decide +kernel
theorem dX1_chooseCheapest_32 : decode cX1_chooseCheapest 32 = .ok (.getfield 15, 3) := by decide +kernel
theorem dX1_chooseCheapest_35 : decode cX1_chooseCheapest 35 = .ok (.iconst 0, 1) := by decide +kernel
theorem dX1_chooseCheapest_36 : decode cX1_chooseCheapest 36 = .ok (.invokevirtual 97, 3) := by decide +kernel
theorem dX1_chooseCheapest_39 : decode cX1_chooseCheapest 39 = .ok (.invokevirtual 103, 3) := by decide +kernel
theorem dX1_chooseCheapest_42 : decode cX1_chooseCheapest 42 = .ok (.iconst 1, 1) := by decide +kernel
theorem dX1_chooseCheapest_43 : decode cX1_chooseCheapest 43 = .ok (.if_icmp .lt 22, 3) := by decide +kernel
theorem dX1_chooseCheapest_46 : decode cX1_chooseCheapest 46 = .ok (.aload_n 0, 1) := by decide +kernel
theorem dX1_chooseCheapest_47 : decode cX1_chooseCheapest 47 = .ok (.bipush 6, 2) := by decide +kernel
theorem dX1_chooseCheapest_49 : decode cX1_chooseCheapest 49 = .ok (.iconst 1, 1) := by decide +kernel
theorem dX1_chooseCheapest_50 : decode cX1_chooseCheapest 50 = .ok (.aload_n 0, 1) := by decide +kernel
theorem dX1_chooseCheapest_51 : decode cX1_chooseCheapest 51 = .ok (.getfield 15, 3) := by decide +kernel
theorem dX1_chooseCheapest_54 : decode cX1_chooseCheapest 54 = .ok (.iconst 0, 1) := by decide +kernel
theorem dX1_chooseCheapest_55 : decode cX1_chooseCheapest 55 = .ok (.invokevirtual 97, 3) := by decide +kernel
theorem dX1_chooseCheapest_58 : decode cX1_chooseCheapest 58 = .ok (.l2i, 1) := by decide +kernel
theorem dX1_chooseCheapest_59 : decode cX1_chooseCheapest 59 = .ok (.invokevirtual 75, 3) := by decide +kernel
theorem dX1_chooseCheapest_62 : decode cX1_chooseCheapest 62 = .ok (.goto 10, 3) := by decide +kernel
theorem dX1_chooseCheapest_65 : decode cX1_chooseCheapest 65 = .ok (.aload_n 0, 1) := by decide +kernel
theorem dX1_chooseCheapest_66 : decode cX1_chooseCheapest 66 = .ok (.iconst 0, 1) := by decide +kernel
theorem dX1_chooseCheapest_67 : decode cX1_chooseCheapest 67 = .ok (.iconst 1, 1) := by decide +kernel
theorem dX1_chooseCheapest_68 : decode cX1_chooseCheapest 68 = .ok (.iconst 0, 1) := by decide +kernel
theorem dX1_chooseCheapest_69 : decode cX1_chooseCheapest 69 = .ok (.invokevirtual 75, 3) := by decide +kernel
theorem dX1_chooseCheapest_72 : decode cX1_chooseCheapest 72 = .ok (.return_, 1) := by decide +kernel
theorem dX1_chooseCheapest_73 : decode cX1_chooseCheapest 73 = .ok (.aload_n 0, 1) := by decide +kernel
theorem dX1_chooseCheapest_74 : decode cX1_chooseCheapest 74 = .ok (.getfield 23, 3) := by decide +kernel
theorem dX1_chooseCheapest_77 : decode cX1_chooseCheapest 77 = .ok (.iload_n 1, 1) := by decide +kernel
theorem dX1_chooseCheapest_78 : decode cX1_chooseCheapest 78 = .ok (.aload_n 0, 1) := by decide +kernel
theorem dX1_chooseCheapest_79 : decode cX1_chooseCheapest 79 = .ok (.getfield 39, 3) := by decide +kernel
theorem dX1_chooseCheapest_82 : decode cX1_chooseCheapest 82 = .ok (.isub, 1) := by decide +kernel
theorem dX1_chooseCheapest_83 : decode cX1_chooseCheapest 83 = .ok (.iaload, 1) := by decide +kernel
theorem dX1_chooseCheapest_84 : decode cX1_chooseCheapest 84 = .ok (.istore_n 3, 1) := by decide +kernel
theorem dX1_chooseCheapest_85 : decode cX1_chooseCheapest 85 = .ok (.aload_n 0, 1) := by decide +kernel
theorem dX1_chooseCheapest_86 : decode cX1_chooseCheapest 86 = .ok (.iconst 1, 1) := by decide +kernel
theorem dX1_chooseCheapest_87 : decode cX1_chooseCheapest 87 = .ok (.iload_n 2, 1) := by decide +kernel
theorem dX1_chooseCheapest_88 : decode cX1_chooseCheapest 88 = .ok (.iload_n 3, 1) := by decide +kernel
theorem dX1_chooseCheapest_89 : decode cX1_chooseCheapest 89 = .ok (.invokevirtual 75, 3) := by decide +kernel
theorem dX1_chooseCheapest_92 : decode cX1_chooseCheapest 92 = .ok (.iconst 3, 1) := by decide +kernel
theorem dX1_chooseCheapest_93 : decode cX1_chooseCheapest 93 = .ok (.istore 4, 2) := by decide +kernel
theorem dX1_chooseCheapest_95 : decode cX1_chooseCheapest 95 = .ok (.iload 4, 2) := by decide +kernel
theorem dX1_chooseCheapest_97 : decode cX1_chooseCheapest 97 = .ok (.ifCond .lt 32, 3) := by decide +kernel
theorem dX1_chooseCheapest_100 : decode cX1_chooseCheapest 100 = .ok (.aload_n 0, 1) := by decide +kernel
theorem dX1_chooseCheapest_101 : decode cX1_chooseCheapest 101 = .ok (.getfield 15, 3) := by decide +kernel
theorem dX1_chooseCheapest_104 : decode cX1_chooseCheapest 104 = .ok (.iload 4, 2) := by decide +kernel
theorem dX1_chooseCheapest_106 : decode cX1_chooseCheapest 106 = .ok (.invokevirtual 97, 3) := by decide +kernel
theorem dX1_chooseCheapest_109 : decode cX1_chooseCheapest 109 = .ok (.iload_n 3, 1) := by decide +kernel
theorem dX1_chooseCheapest_110 : decode cX1_chooseCheapest 110 = .ok (.i2l, 1) := by decide +kernel
theorem dX1_chooseCheapest_111 : decode cX1_chooseCheapest 111 = .ok (.lcmp, 1) := by decide +kernel
theorem dX1_chooseCheapest_112 : decode cX1_chooseCheapest 112 = .ok (.ifCond .ne 11, 3) := by decide +kernel
theorem dX1_chooseCheapest_115 : decode cX1_chooseCheapest 115 = .ok (.aload_n 0, 1) := by decide +kernel
theorem dX1_chooseCheapest_116 : decode cX1_chooseCheapest 116 = .ok (.iconst 2, 1) := by decide +kernel
theorem dX1_chooseCheapest_117 : decode cX1_chooseCheapest 117 = .ok (.iload 4, 2) := by decide +kernel
theorem dX1_chooseCheapest_119 : decode cX1_chooseCheapest 119 = .ok (.iadd, 1) := by decide +kernel
theorem dX1_chooseCheapest_120 : decode cX1_chooseCheapest 120 = .ok (.putfield 88, 3) := by decide +kernel
theorem dX1_chooseCheapest_123 : decode cX1_chooseCheapest 123 = .ok (.iinc 4 (-1), 3) := by decide +kernel
theorem dX1_chooseCheapest_126 : decode cX1_chooseCheapest 126 = .ok (.goto (-31), 3) := by decide +kernel
theorem dX1_chooseCheapest_129 : decode cX1_chooseCheapest 129 = .ok (.return_, 1) := by decide +kernel
theorem dX1_repeat_0 : decode cX1_repeat 0 = .ok (.lload_n 2, 1) := by decide +kernel
theorem dX1_repeat_1 : decode cX1_repeat 1 = .ok (.lconst 1, 1) := by decide +kernel
theorem dX1_repeat_2 : decode cX1_repeat 2 = .ok (.lcmp, 1) := by decide +kernel
theorem dX1_repeat_3 : decode cX1_repeat 3 = .ok (.ifCond .lt 15, 3) := by decide +kernel
theorem dX1_repeat_6 : decode cX1_repeat 6 = .ok (.lload_n 2, 1) := by decide +kernel
theorem dX1_repeat_7 : decode cX1_repeat 7 = .ok (.iload_n 1, 1) := by decide +kernel
theorem dX1_repeat_8 : decode cX1_repeat 8 = .ok (.aload_n 0, 1) := by decide +kernel
theorem dX1_repeat_9 : decode cX1_repeat 9 = .ok (.getfield 35, 3) := by decide +kernel
theorem dX1_repeat_12 : decode cX1_repeat 12 = .ok (.isub, 1) := by decide +kernel
theorem dX1_repeat_13 : decode cX1_repeat 13 = .ok (.i2l, 1) := by decide +kernel
theorem dX1_repeat_14 : decode cX1_repeat 14 = .ok (.lcmp, 1) := by decide +kernel
theorem dX1_repeat_15 : decode cX1_repeat 15 = .ok (.ifCond .le 5, 3) := by decide +kernel
theorem dX1_repeat_18 : decode cX1_repeat 18 = .ok (.iconst 0, 1) := by decide +kernel
theorem dX1_repeat_19 : decode cX1_repeat 19 = .ok (.ireturn, 1) := by decide +kernel
theorem dX1_repeat_20 : decode cX1_repeat 20 = .ok (.sipush 273, 3) := by decide +kernel
theorem dX1_repeat_23 : decode cX1_repeat 23 = .ok (.aload_n 0, 1) := by decide +kernel
theorem dX1_repeat_24 : decode cX1_repeat 24 = .ok (.getfield 48, 3) := by decide +kernel
theorem dX1_repeat_27 : decode cX1_repeat 27 = .ok (.iload_n 1, 1) := by decide +kernel
theorem dX1_repeat_28 : decode cX1_repeat 28 = .ok (.isub, 1) := by decide +kernel
theorem dX1_repeat_29 : decode cX1_repeat 29 = .ok (.invokestatic 42, 3) := by decide +kernel
theorem dX1_repeat_32 : decode cX1_repeat 32 = .ok (.istore 4, 2) := by decide +kernel
theorem dX1_repeat_34 : decode cX1_repeat 34 = .ok (.iconst 0, 1) := by decide +kernel
theorem dX1_repeat_35 : decode cX1_repeat 35 = .ok (.istore 5, 2) := by decide +kernel
theorem dX1_repeat_37 : decode cX1_repeat 37 = .ok (.iload 5, 2) := by decide +kernel
theorem dX1_repeat_39 : decode cX1_repeat 39 = .ok (.iload 4, 2) := by decide +kernel
theorem dX1_repeat_41 : decode cX1_repeat 41 = .ok (.if_icmp .ge 37, 3) := by decide +kernel
theorem dX1_repeat_44 : decode cX1_repeat 44 = .ok (.aload_n 0, 1) := by decide +kernel
theorem dX1_repeat_45 : decode cX1_repeat 45 = .ok (.getfield 9, 3) := by decide +kernel
theorem dX1_repeat_48 : decode cX1_repeat 48 = .ok (.iload_n 1, 1) := by decide +kernel
theorem dX1_repeat_49 : decode cX1_repeat 49 = .ok (.iload 5, 2) := by decide +kernel
theorem dX1_repeat_51 : decode cX1_repeat 51 = .ok (.iadd, 1) := by decide +kernel
theorem dX1_repeat_52 : decode cX1_repeat 52 = .ok (.invokevirtual 110, 3) := by decide +kernel
theorem dX1_repeat_55 : decode cX1_repeat 55 = .ok (.aload_n 0, 1) := by decide +kernel
theorem dX1_repeat_56 : decode cX1_repeat 56 = .ok (.getfield 9, 3) := by decide +kernel
theorem dX1_repeat_59 : decode cX1_repeat 59 = .ok (.iload_n 1, 1) := by decide +kernel
theorem dX1_repeat_60 : decode cX1_repeat 60 = .ok (.iload 5, 2) := by decide +kernel
theorem dX1_repeat_62 : decode cX1_repeat 62 = .ok (.iadd, 1) := by decide +kernel
theorem dX1_repeat_63 : decode cX1_repeat 63 = .ok (.lload_n 2, 1) := by decide +kernel
theorem dX1_repeat_64 : decode cX1_repeat 64 = .ok (.l2i, 1) := by decide +kernel
theorem dX1_repeat_65 : decode cX1_repeat 65 = .ok (.isub, 1) := by decide +kernel
theorem dX1_repeat_66 : decode cX1_repeat 66 = .ok (.invokevirtual 110, 3) := by decide +kernel
theorem dX1_repeat_69 : decode cX1_repeat 69 = .ok (.if_icmp .ne 9, 3) := by decide +kernel
theorem dX1_repeat_72 : decode cX1_repeat 72 = .ok (.iinc 5 1, 3) := by decide +kernel
theorem dX1_repeat_75 : decode cX1_repeat 75 = .ok (.goto (-38), 3) := by decide +kernel
theorem dX1_repeat_78 : decode cX1_repeat 78 = .ok (.iload 5, 2) := by decide +kernel
theorem dX1_repeat_80 : decode cX1_repeat 80 = .ok (.ireturn, 1) := by decide +kernel
theorem dX2_init_0 : decode cX2_init 0 = .ok (.aload_n 0, 1) := by decide +kernel
theorem dX2_init_1 : decode cX2_init 1 = .ok (.invokespecial 1, 3) := by decide +kernel
theorem dX2_init_4 : decode cX2_init 4 = .ok (.aload_n 0, 1) := by decide +kernel
theorem dX2_init_5 : decode cX2_init 5 = .ok (.aload_n 1, 1) := by decide +kernel
theorem dX2_init_6 : decode cX2_init 6 = .ok (.putfield 7, 3) := by decide +kernel
theorem dX2_init_9 : decode cX2_init 9 = .ok (.aload_n 0, 1) := by decide +kernel
theorem dX2_init_10 : decode cX2_init 10 = .ok (.aload_n 2, 1) := by decide +kernel
theorem dX2_init_11 : decode cX2_init 11 = .ok (.putfield 13, 3) := by decide +kernel
theorem dX2_init_14 : decode cX2_init 14 = .ok (.aload_n 0, 1) := by decide +kernel
theorem dX2_init_15 : decode cX2_init 15 = .ok (.sipush 14340, 3) := by decide +kernel
theorem dX2_init_18 : decode cX2_init 18 = .ok (.newarray .int, 2) := by decide +kernel
theorem dX2_init_20 : decode cX2_init 20 = .ok (.putfield 19, 3) := by decide +kernel
theorem dX2_init_23 : decode cX2_init 23 = .ok (.return_, 1) := by decide +kernel
theorem dX2_beginPacking_0 : decode cX2_beginPacking 0 = .ok (.aload_n 0, 1) := by decide +kernel
theorem dX2_beginPacking_1 : decode cX2_beginPacking 1 = .ok (.iconst 0, 1) := by decide +kernel
theorem dX2_beginPacking_2 : decode cX2_beginPacking 2 = .ok (.putfield 23, 3) := by decide +kernel
theorem dX2_beginPacking_5 : decode cX2_beginPacking 5 = .ok (.aload_n 0, 1) := by decide +kernel
theorem dX2_beginPacking_6 : decode cX2_beginPacking 6 = .ok (.lconst 0, 1) := by decide +kernel
theorem dX2_beginPacking_7 : decode cX2_beginPacking 7 = .ok (.putfield 27, 3) := by decide +kernel
theorem dX2_beginPacking_10 : decode cX2_beginPacking 10 = .ok (.aload_n 0, 1) := by decide +kernel
theorem dX2_beginPacking_11 : decode cX2_beginPacking 11 = .ok (.ldc2_w 31, 3) := by decide +kernel
theorem dX2_beginPacking_14 : decode cX2_beginPacking 14 = .ok (.putfield 33, 3) := by decide +kernel
theorem dX2_beginPacking_17 : decode cX2_beginPacking 17 = .ok (.aload_n 0, 1) := by decide +kernel
theorem dX2_beginPacking_18 : decode cX2_beginPacking 18 = .ok (.iconst 0, 1) := by decide +kernel
theorem dX2_beginPacking_19 : decode cX2_beginPacking 19 = .ok (.putfield 36, 3) := by decide +kernel
theorem dX2_beginPacking_22 : decode cX2_beginPacking 22 = .ok (.aload_n 0, 1) := by decide +kernel
theorem dX2_beginPacking_23 : decode cX2_beginPacking 23 = .ok (.iconst 1, 1) := by decide +kernel
theorem dX2_beginPacking_24 : decode cX2_beginPacking 24 = .ok (.putfield 40, 3) := by decide +kernel
theorem dX2_beginPacking_27 : decode cX2_beginPacking 27 = .ok (.return_, 1) := by decide +kernel
theorem dX2_beginOpening_0 : decode cX2_beginOpening 0 = .ok (.aload_n 0, 1) := by decide +kernel
theorem dX2_beginOpening_1 : decode cX2_beginOpening 1 = .ok (.iconst 1, 1) := by decide +kernel
theorem dX2_beginOpening_2 : decode cX2_beginOpening 2 = .ok (.putfield 23, 3) := by decide +kernel
theorem dX2_beginOpening_5 : decode cX2_beginOpening 5 = .ok (.aload_n 0, 1) := by decide +kernel
theorem dX2_beginOpening_6 : decode cX2_beginOpening 6 = .ok (.ldc2_w 31, 3) := by decide +kernel
theorem dX2_beginOpening_9 : decode cX2_beginOpening 9 = .ok (.putfield 33, 3) := by decide +kernel
theorem dX2_beginOpening_12 : decode cX2_beginOpening 12 = .ok (.aload_n 0, 1) := by decide +kernel
theorem dX2_beginOpening_13 : decode cX2_beginOpening 13 = .ok (.getfield 7, 3) := by decide +kernel
theorem dX2_beginOpening_16 : decode cX2_beginOpening 16 = .ok (.invokevirtual 43, 3) := by decide +kernel
theorem dX2_beginOpening_19 : decode cX2_beginOpening 19 = .ok (.ifCond .eq 11, 3) := by decide +kernel
theorem dX2_beginOpening_22 : decode cX2_beginOpening 22 = .ok (.aload_n 0, 1) := by decide +kernel
theorem dX2_beginOpening_23 : decode cX2_beginOpening 23 = .ok (.getfield 7, 3) := by decide +kernel
theorem dX2_beginOpening_26 : decode cX2_beginOpening 26 = .ok (.iconst 2, 1) := by decide +kernel
theorem dX2_beginOpening_27 : decode cX2_beginOpening 27 = .ok (.invokevirtual 49, 3) := by decide +kernel
theorem dX2_beginOpening_30 : decode cX2_beginOpening 30 = .ok (.aload_n 0, 1) := by decide +kernel
theorem dX2_beginOpening_31 : decode cX2_beginOpening 31 = .ok (.aload_n 0, 1) := by decide +kernel
theorem dX2_beginOpening_32 : decode cX2_beginOpening 32 = .ok (.getfield 7, 3) := by decide +kernel
theorem dX2_beginOpening_35 : decode cX2_beginOpening 35 = .ok (.iconst 4, 1) := by decide +kernel
theorem dX2_beginOpening_36 : decode cX2_beginOpening 36 = .ok (.invokevirtual 53, 3) := by decide +kernel
theorem dX2_beginOpening_39 : decode cX2_beginOpening 39 = .ok (.i2l, 1) := by decide +kernel
theorem dX2_beginOpening_40 : decode cX2_beginOpening 40 = .ok (.ldc2_w 31, 3) := by decide +kernel
theorem dX2_beginOpening_43 : decode cX2_beginOpening 43 = .ok (.land, 1) := by decide +kernel
theorem dX2_beginOpening_44 : decode cX2_beginOpening 44 = .ok (.putfield 57, 3) := by decide +kernel
theorem dX2_beginOpening_47 : decode cX2_beginOpening 47 = .ok (.return_, 1) := by decide +kernel
theorem dX2_bit_0 : decode cX2_bit 0 = .ok (.iload_n 1, 1) := by decide +kernel
theorem dX2_bit_1 : decode cX2_bit 1 = .ok (.ifCond .lt 12, 3) := by decide +kernel
theorem dX2_bit_4 : decode cX2_bit 4 = .ok (.iload_n 1, 1) := by decide +kernel
theorem dX2_bit_5 : decode cX2_bit 5 = .ok (.aload_n 0, 1) := by decide +kernel
theorem dX2_bit_6 : decode cX2_bit 6 = .ok (.getfield 19, 3) := by decide +kernel
theorem dX2_bit_9 : decode cX2_bit 9 = .ok (.arraylength, 1) := by decide +kernel
theorem dX2_bit_10 : decode cX2_bit 10 = .ok (.if_icmp .lt 5, 3) := by decide +kernel
theorem dX2_bit_13 : decode cX2_bit 13 = .ok (.iconst 0, 1) := by decide +kernel
theorem dX2_bit_14 : decode cX2_bit 14 = .ok (.ireturn, 1) := by decide +kernel
theorem dX2_bit_15 : decode cX2_bit 15 = .ok (.aload_n 0, 1) := by decide +kernel
theorem dX2_bit_16 : decode cX2_bit 16 = .ok (.getfield 19, 3) := by decide +kernel
theorem dX2_bit_19 : decode cX2_bit 19 = .ok (.iload_n 1, 1) := by decide +kernel
theorem dX2_bit_20 : decode cX2_bit 20 = .ok (.iaload, 1) := by decide +kernel
theorem dX2_bit_21 : decode cX2_bit 21 = .ok (.istore_n 3, 1) := by decide +kernel
theorem dX2_bit_22 : decode cX2_bit 22 = .ok (.aload_n 0, 1) := by decide +kernel
theorem dX2_bit_23 : decode cX2_bit 23 = .ok (.getfield 33, 3) := by decide +kernel
theorem dX2_bit_26 : decode cX2_bit 26 = .ok (.bipush 11, 2) := by decide +kernel
theorem dX2_bit_28 : decode cX2_bit 28 = .ok (.lushr, 1) := by decide +kernel
theorem dX2_bit_29 : decode cX2_bit 29 = .ok (.iload_n 3, 1) := by decide +kernel
theorem dX2_bit_30 : decode cX2_bit 30 = .ok (.i2l, 1) := by decide +kernel
theorem dX2_bit_31 : decode cX2_bit 31 = .ok (.lmul, 1) := by decide +kernel
theorem dX2_bit_32 : decode cX2_bit 32 = .ok (.lstore 4, 2) := by decide +kernel
theorem dX2_bit_34 : decode cX2_bit 34 = .ok (.aload_n 0, 1) := by decide +kernel
theorem dX2_bit_35 : decode cX2_bit 35 = .ok (.getfield 23, 3) := by decide +kernel
theorem dX2_bit_38 : decode cX2_bit 38 = .ok (.ifCond .eq 21, 3) := by decide +kernel
theorem dX2_bit_41 : decode cX2_bit 41 = .ok (.aload_n 0, 1) := by decide +kernel
theorem dX2_bit_42 : decode cX2_bit 42 = .ok (.getfield 57, 3) := by decide +kernel
theorem dX2_bit_45 : decode cX2_bit 45 = .ok (.lload 4, 2) := by decide +kernel
theorem dX2_bit_47 : decode cX2_bit 47 = .ok (.lcmp, 1) := by decide +kernel
theorem dX2_bit_48 : decode cX2_bit 48 = .ok (.ifCond .ge 7, 3) := by decide +kernel
theorem dX2_bit_51 : decode cX2_bit 51 = .ok (.iconst 0, 1) := by decide +kernel
theorem dX2_bit_52 : decode cX2_bit 52 = .ok (.goto 8, 3) := by decide +kernel
theorem dX2_bit_55 : decode cX2_bit 55 = .ok (.iconst 1, 1) := by decide +kernel
theorem dX2_bit_56 : decode cX2_bit 56 = .ok (.goto 4, 3) := by decide +kernel
theorem dX2_bit_59 : decode cX2_bit 59 = .ok (.iload_n 2, 1) := by decide +kernel
theorem dX2_bit_60 : decode cX2_bit 60 = .ok (.istore 6, 2) := by decide +kernel
theorem dX2_bit_62 : decode cX2_bit 62 = .ok (.iload 6, 2) := by decide +kernel
theorem dX2_bit_64 : decode cX2_bit 64 = .ok (.ifCond .ne 27, 3) := by decide +kernel
theorem dX2_bit_67 : decode cX2_bit 67 = .ok (.aload_n 0, 1) := by decide +kernel
theorem dX2_bit_68 : decode cX2_bit 68 = .ok (.lload 4, 2) := by decide +kernel
theorem dX2_bit_70 : decode cX2_bit 70 = .ok (.putfield 33, 3) := by decide +kernel
theorem dX2_bit_73 : decode cX2_bit 73 = .ok (.aload_n 0, 1) := by decide +kernel
theorem dX2_bit_74 : decode cX2_bit 74 = .ok (.getfield 19, 3) := by decide +kernel
theorem dX2_bit_77 : decode cX2_bit 77 = .ok (.iload_n 1, 1) := by decide +kernel
theorem dX2_bit_78 : decode cX2_bit 78 = .ok (.iload_n 3, 1) := by decide +kernel
theorem dX2_bit_79 : decode cX2_bit 79 = .ok (.sipush 2048, 3) := by decide +kernel
theorem dX2_bit_82 : decode cX2_bit 82 = .ok (.iload_n 3, 1) := by decide +kernel
theorem dX2_bit_83 : decode cX2_bit 83 = .ok (.isub, 1) := by decide +kernel
theorem dX2_bit_84 : decode cX2_bit 84 = .ok (.iconst 5, 1) := by decide +kernel
theorem dX2_bit_85 : decode cX2_bit 85 = .ok (.ishr, 1) := by decide +kernel
theorem dX2_bit_86 : decode cX2_bit 86 = .ok (.iadd, 1) := by decide +kernel
theorem dX2_bit_87 : decode cX2_bit 87 = .ok (.iastore, 1) := by decide +kernel
theorem dX2_bit_88 : decode cX2_bit 88 = .ok (.goto 31, 3) := by decide +kernel
theorem dX2_bit_91 : decode cX2_bit 91 = .ok (.aload_n 0, 1) := by decide +kernel
theorem dX2_bit_92 : decode cX2_bit 92 = .ok (.dup, 1) := by decide +kernel
theorem dX2_bit_93 : decode cX2_bit 93 = .ok (.getfield 33, 3) := by decide +kernel
theorem dX2_bit_96 : decode cX2_bit 96 = .ok (.lload 4, 2) := by decide +kernel
theorem dX2_bit_98 : decode cX2_bit 98 = .ok (.lsub, 1) := by decide +kernel
theorem dX2_bit_99 : decode cX2_bit 99 = .ok (.putfield 33, 3) := by decide +kernel
theorem dX2_bit_102 : decode cX2_bit 102 = .ok (.aload_n 0, 1) := by decide +kernel
theorem dX2_bit_103 : decode cX2_bit 103 = .ok (.lload 4, 2) := by decide +kernel
theorem dX2_bit_105 : decode cX2_bit 105 = .ok (.invokevirtual 60, 3) := by decide +kernel
theorem dX2_bit_108 : decode cX2_bit 108 = .ok (.aload_n 0, 1) := by decide +kernel
theorem dX2_bit_109 : decode cX2_bit 109 = .ok (.getfield 19, 3) := by decide +kernel
theorem dX2_bit_112 : decode cX2_bit 112 = .ok (.iload_n 1, 1) := by decide +kernel
theorem dX2_bit_113 : decode cX2_bit 113 = .ok (.iload_n 3, 1) := by decide +kernel
theorem dX2_bit_114 : decode cX2_bit 114 = .ok (.iload_n 3, 1) := by decide +kernel
theorem dX2_bit_115 : decode cX2_bit 115 = .ok (.iconst 5, 1) := by decide +kernel
theorem dX2_bit_116 : decode cX2_bit 116 = .ok (.ishr, 1) := by decide +kernel
theorem dX2_bit_117 : decode cX2_bit 117 = .ok (.isub, 1) := by decide +kernel
theorem dX2_bit_118 : decode cX2_bit 118 = .ok (.iastore, 1) := by decide +kernel
theorem dX2_bit_119 : decode cX2_bit 119 = .ok (.aload_n 0, 1) := by decide +kernel
theorem dX2_bit_120 : decode cX2_bit 120 = .ok (.getfield 33, 3) := by decide +kernel
theorem dX2_bit_123 : decode cX2_bit 123 = .ok (.ldc2_w 64, 3) := by decide +kernel
theorem dX2_bit_126 : decode cX2_bit 126 = .ok (.lcmp, 1) := by decide +kernel
theorem dX2_bit_127 : decode cX2_bit 127 = .ok (.ifCond .ge 54, 3) := by decide +kernel
theorem dX2_bit_130 : decode cX2_bit 130 = .ok (.aload_n 0, 1) := by decide +kernel
theorem dX2_bit_131 : decode cX2_bit 131 = .ok (.dup, 1) := by decide +kernel
theorem dX2_bit_132 : decode cX2_bit 132 = .ok (.getfield 33, 3) := by decide +kernel
theorem dX2_bit_135 : decode cX2_bit 135 = .ok (.bipush 8, 2) := by decide +kernel
theorem dX2_bit_137 : decode cX2_bit 137 = .ok (.lshl, 1) := by decide +kernel
theorem dX2_bit_138 : decode cX2_bit 138 = .ok (.putfield 33, 3) := by decide +kernel
theorem dX2_bit_141 : decode cX2_bit 141 = .ok (.aload_n 0, 1) := by decide +kernel
theorem dX2_bit_142 : decode cX2_bit 142 = .ok (.getfield 23, 3) := by decide +kernel
theorem dX2_bit_145 : decode cX2_bit 145 = .ok (.ifCond .eq 32, 3) := by decide +kernel
theorem dX2_bit_148 : decode cX2_bit 148 = .ok (.aload_n 0, 1) := by decide +kernel
theorem dX2_bit_149 : decode cX2_bit 149 = .ok (.aload_n 0, 1) := by decide +kernel
theorem dX2_bit_150 : decode cX2_bit 150 = .ok (.getfield 57, 3) := by decide +kernel
theorem dX2_bit_153 : decode cX2_bit 153 = .ok (.bipush 8, 2) := by decide +kernel
theorem dX2_bit_155 : decode cX2_bit 155 = .ok (.lshl, 1) := by decide +kernel
theorem dX2_bit_156 : decode cX2_bit 156 = .ok (.aload_n 0, 1) := by decide +kernel
theorem dX2_bit_157 : decode cX2_bit 157 = .ok (.getfield 7, 3) := by decide +kernel
theorem dX2_bit_160 : decode cX2_bit 160 = .ok (.invokevirtual 43, 3) := by decide +kernel
theorem dX2_bit_163 : decode cX2_bit 163 = .ok (.i2l, 1) := by decide +kernel
theorem dX2_bit_164 : decode cX2_bit 164 = .ok (.lor, 1) := by decide +kernel
theorem dX2_bit_165 : decode cX2_bit 165 = .ok (.ldc2_w 66, 3) := by decide +kernel
theorem dX2_bit_168 : decode cX2_bit 168 = .ok (.invokestatic 68, 3) := by decide +kernel
theorem dX2_bit_171 : decode cX2_bit 171 = .ok (.putfield 57, 3) := by decide +kernel
theorem dX2_bit_174 : decode cX2_bit 174 = .ok (.goto 7, 3) := by decide +kernel
theorem dX2_bit_177 : decode cX2_bit 177 = .ok (.aload_n 0, 1) := by decide +kernel
theorem dX2_bit_178 : decode cX2_bit 178 = .ok (.invokevirtual 74, 3) := by decide +kernel
theorem dX2_bit_181 : decode cX2_bit 181 = .ok (.iload 6, 2) := by decide +kernel
theorem dX2_bit_183 : decode cX2_bit 183 = .ok (.ireturn, 1) := by decide +kernel
theorem dX2_plainBit_0 : decode cX2_plainBit 0 = .ok (.aload_n 0, 1) := by decide +kernel
theorem dX2_plainBit_1 : decode cX2_plainBit 1 = .ok (.dup, 1) := by decide +kernel
theorem dX2_plainBit_2 : decode cX2_plainBit 2 = .ok (.getfield 33, 3) := by decide +kernel
theorem dX2_plainBit_5 : decode cX2_plainBit 5 = .ok (.iconst 1, 1) := by decide +kernel
theorem dX2_plainBit_6 : decode cX2_plainBit 6 = .ok (.lushr, 1) := by decide +kernel
theorem dX2_plainBit_7 : decode cX2_plainBit 7 = .ok (.putfield 33, 3) := by decide +kernel
theorem dX2_plainBit_10 : decode cX2_plainBit 10 = .ok (.aload_n 0, 1) := by decide +kernel
theorem dX2_plainBit_11 : decode cX2_plainBit 11 = .ok (.getfield 23, 3) := by decide +kernel
theorem dX2_plainBit_14 : decode cX2_plainBit 14 = .ok (.ifCond .eq 23, 3) := by decide +kernel
theorem dX2_plainBit_17 : decode cX2_plainBit 17 = .ok (.aload_n 0, 1) := by decide +kernel
theorem dX2_plainBit_18 : decode cX2_plainBit 18 = .ok (.getfield 57, 3) := by decide +kernel
theorem dX2_plainBit_21 : decode cX2_plainBit 21 = .ok (.aload_n 0, 1) := by decide +kernel
theorem dX2_plainBit_22 : decode cX2_plainBit 22 = .ok (.getfield 33, 3) := by decide +kernel
theorem dX2_plainBit_25 : decode cX2_plainBit 25 = .ok (.lcmp, 1) := by decide +kernel
theorem dX2_plainBit_26 : decode cX2_plainBit 26 = .ok (.ifCond .ge 7, 3) := by decide +kernel
theorem dX2_plainBit_29 : decode cX2_plainBit 29 = .ok (.iconst 0, 1) := by decide +kernel
theorem dX2_plainBit_30 : decode cX2_plainBit 30 = .ok (.goto 8, 3) := by decide +kernel
theorem dX2_plainBit_33 : decode cX2_plainBit 33 = .ok (.iconst 1, 1) := by decide +kernel
theorem dX2_plainBit_34 : decode cX2_plainBit 34 = .ok (.goto 4, 3) := by decide +kernel
theorem dX2_plainBit_37 : decode cX2_plainBit 37 = .ok (.iload_n 1, 1) := by decide +kernel
theorem dX2_plainBit_38 : decode cX2_plainBit 38 = .ok (.istore_n 2, 1) := by decide +kernel
theorem dX2_plainBit_39 : decode cX2_plainBit 39 = .ok (.iload_n 2, 1) := by decide +kernel
theorem dX2_plainBit_40 : decode cX2_plainBit 40 = .ok (.ifCond .eq 11, 3) := by decide +kernel
theorem dX2_plainBit_43 : decode cX2_plainBit 43 = .ok (.aload_n 0, 1) := by decide +kernel
theorem dX2_plainBit_44 : decode cX2_plainBit 44 = .ok (.aload_n 0, 1) := by decide +kernel
theorem dX2_plainBit_45 : decode cX2_plainBit 45 = .ok (.getfield 33, 3) := by decide +kernel
theorem dX2_plainBit_48 : decode cX2_plainBit 48 = .ok (.invokevirtual 60, 3) := by decide +kernel
theorem dX2_plainBit_51 : decode cX2_plainBit 51 = .ok (.aload_n 0, 1) := by decide +kernel
theorem dX2_plainBit_52 : decode cX2_plainBit 52 = .ok (.getfield 33, 3) := by decide +kernel
theorem dX2_plainBit_55 : decode cX2_plainBit 55 = .ok (.ldc2_w 64, 3) := by decide +kernel
theorem dX2_plainBit_58 : decode cX2_plainBit 58 = .ok (.lcmp, 1) := by decide +kernel
theorem dX2_plainBit_59 : decode cX2_plainBit 59 = .ok (.ifCond .ge 54, 3) := by decide +kernel
theorem dX2_plainBit_62 : decode cX2_plainBit 62 = .ok (.aload_n 0, 1) := by decide +kernel
theorem dX2_plainBit_63 : decode cX2_plainBit 63 = .ok (.dup, 1) := by decide +kernel
theorem dX2_plainBit_64 : decode cX2_plainBit 64 = .ok (.getfield 33, 3) := by decide +kernel
theorem dX2_plainBit_67 : decode cX2_plainBit 67 = .ok (.bipush 8, 2) := by decide +kernel
theorem dX2_plainBit_69 : decode cX2_plainBit 69 = .ok (.lshl, 1) := by decide +kernel
theorem dX2_plainBit_70 : decode cX2_plainBit 70 = .ok (.putfield 33, 3) := by decide +kernel
theorem dX2_plainBit_73 : decode cX2_plainBit 73 = .ok (.aload_n 0, 1) := by decide +kernel
theorem dX2_plainBit_74 : decode cX2_plainBit 74 = .ok (.getfield 23, 3) := by decide +kernel
theorem dX2_plainBit_77 : decode cX2_plainBit 77 = .ok (.ifCond .eq 32, 3) := by decide +kernel
theorem dX2_plainBit_80 : decode cX2_plainBit 80 = .ok (.aload_n 0, 1) := by decide +kernel
theorem dX2_plainBit_81 : decode cX2_plainBit 81 = .ok (.aload_n 0, 1) := by decide +kernel
theorem dX2_plainBit_82 : decode cX2_plainBit 82 = .ok (.getfield 57, 3) := by decide +kernel
theorem dX2_plainBit_85 : decode cX2_plainBit 85 = .ok (.bipush 8, 2) := by decide +kernel
theorem dX2_plainBit_87 : decode cX2_plainBit 87 = .ok (.lshl, 1) := by decide +kernel
theorem dX2_plainBit_88 : decode cX2_plainBit 88 = .ok (.aload_n 0, 1) := by decide +kernel
theorem dX2_plainBit_89 : decode cX2_plainBit 89 = .ok (.getfield 7, 3) := by decide +kernel
theorem dX2_plainBit_92 : decode cX2_plainBit 92 = .ok (.invokevirtual 43, 3) := by decide +kernel
theorem dX2_plainBit_95 : decode cX2_plainBit 95 = .ok (.i2l, 1) := by decide +kernel
theorem dX2_plainBit_96 : decode cX2_plainBit 96 = .ok (.lor, 1) := by decide +kernel
theorem dX2_plainBit_97 : decode cX2_plainBit 97 = .ok (.ldc2_w 66, 3) := by decide +kernel
theorem dX2_plainBit_100 : decode cX2_plainBit 100 = .ok (.invokestatic 68, 3) := by decide +kernel
theorem dX2_plainBit_103 : decode cX2_plainBit 103 = .ok (.putfield 57, 3) := by decide +kernel
theorem dX2_plainBit_106 : decode cX2_plainBit 106 = .ok (.goto 7, 3) := by decide +kernel
theorem dX2_plainBit_109 : decode cX2_plainBit 109 = .ok (.aload_n 0, 1) := by decide +kernel
theorem dX2_plainBit_110 : decode cX2_plainBit 110 = .ok (.invokevirtual 74, 3) := by decide +kernel
theorem dX2_plainBit_113 : decode cX2_plainBit 113 = .ok (.iload_n 2, 1) := by decide +kernel
theorem dX2_plainBit_114 : decode cX2_plainBit 114 = .ok (.ireturn, 1) := by decide +kernel
theorem dX2_skip_0 : decode cX2_skip 0 = .ok (.aload_n 0, 1) := by decide +kernel
theorem dX2_skip_1 : decode cX2_skip 1 = .ok (.getfield 23, 3) := by decide +kernel
theorem dX2_skip_4 : decode cX2_skip 4 = .ok (.ifCond .eq 16, 3) := by decide +kernel
theorem dX2_skip_7 : decode cX2_skip 7 = .ok (.aload_n 0, 1) := by decide +kernel
theorem dX2_skip_8 : decode cX2_skip 8 = .ok (.dup, 1) := by decide +kernel
theorem dX2_skip_9 : decode cX2_skip 9 = .ok (.getfield 57, 3) := by decide +kernel
theorem dX2_skip_12 : decode cX2_skip 12 = .ok (.lload_n 1, 1) := by decide +kernel
theorem dX2_skip_13 : decode cX2_skip 13 = .ok (.lsub, 1) := by decide +kernel
theorem dX2_skip_14 : decode cX2_skip 14 = .ok (.putfield 57, 3) := by decide +kernel
theorem dX2_skip_17 : decode cX2_skip 17 = .ok (.goto 13, 3) := by decide +kernel
theorem dX2_skip_20 : decode cX2_skip 20 = .ok (.aload_n 0, 1) := by decide +kernel
theorem dX2_skip_21 : decode cX2_skip 21 = .ok (.dup, 1) := by decide +kernel
theorem dX2_skip_22 : decode cX2_skip 22 = .ok (.getfield 27, 3) := by decide +kernel
theorem dX2_skip_25 : decode cX2_skip 25 = .ok (.lload_n 1, 1) := by decide +kernel
theorem dX2_skip_26 : decode cX2_skip 26 = .ok (.ladd, 1) := by decide +kernel
theorem dX2_skip_27 : decode cX2_skip 27 = .ok (.putfield 27, 3) := by decide +kernel
theorem dX2_skip_30 : decode cX2_skip 30 = .ok (.return_, 1) := by decide +kernel
theorem dX2_shift_0 : decode cX2_shift 0 = .ok (.aload_n 0, 1) := by decide +kernel
theorem dX2_shift_1 : decode cX2_shift 1 = .ok (.getfield 27, 3) := by decide +kernel
theorem dX2_shift_4 : decode cX2_shift 4 = .ok (.ldc2_w 77, 3) := by decide +kernel
theorem dX2_shift_7 : decode cX2_shift 7 = .ok (.lcmp, 1) := by decide +kernel
theorem dX2_shift_8 : decode cX2_shift 8 = .ok (.ifCond .lt 14, 3) := by decide +kernel
theorem dX2_shift_11 : decode cX2_shift 11 = .ok (.aload_n 0, 1) := by decide +kernel
theorem dX2_shift_12 : decode cX2_shift 12 = .ok (.getfield 27, 3) := by decide +kernel
theorem dX2_shift_15 : decode cX2_shift 15 = .ok (.ldc2_w 79, 3) := by decide +kernel
theorem dX2_shift_18 : decode cX2_shift 18 = .ok (.lcmp, 1) := by decide +kernel
theorem dX2_shift_19 : decode cX2_shift 19 = .ok (.ifCond .lt 135, 3) := by decide +kernel
theorem dX2_shift_22 : decode cX2_shift 22 = .ok (.aload_n 0, 1) := by decide +kernel
theorem dX2_shift_23 : decode cX2_shift 23 = .ok (.getfield 27, 3) := by decide +kernel
theorem dX2_shift_26 : decode cX2_shift 26 = .ok (.ldc2_w 79, 3) := by decide +kernel
theorem dX2_shift_29 : decode cX2_shift 29 = .ok (.lcmp, 1) := by decide +kernel
theorem dX2_shift_30 : decode cX2_shift 30 = .ok (.ifCond .lt 7, 3) := by decide +kernel
theorem dX2_shift_33 : decode cX2_shift 33 = .ok (.iconst 1, 1) := by decide +kernel
theorem dX2_shift_34 : decode cX2_shift 34 = .ok (.goto 4, 3) := by decide +kernel
theorem dX2_shift_37 : decode cX2_shift 37 = .ok (.iconst 0, 1) := by decide +kernel
theorem dX2_shift_38 : decode cX2_shift 38 = .ok (.istore_n 1, 1) := by decide +kernel
theorem dX2_shift_39 : decode cX2_shift 39 = .ok (.iconst 0, 1) := by decide +kernel
theorem dX2_shift_40 : decode cX2_shift 40 = .ok (.istore_n 2, 1) := by decide +kernel
theorem dX2_shift_41 : decode cX2_shift 41 = .ok (.iload_n 2, 1) := by decide +kernel
theorem dX2_shift_42 : decode cX2_shift 42 = .ok (.aload_n 0, 1) := by decide +kernel
theorem dX2_shift_43 : decode cX2_shift 43 = .ok (.getfield 40, 3) := by decide +kernel
theorem dX2_shift_46 : decode cX2_shift 46 = .ok (.if_icmp .ge 87, 3) := by decide +kernel
theorem dX2_shift_49 : decode cX2_shift 49 = .ok (.iload_n 2, 1) := by decide +kernel
theorem dX2_shift_50 : decode cX2_shift 50 = .ok (.ifCond .ne 10, 3) := by decide +kernel
theorem dX2_shift_53 : decode cX2_shift 53 = .ok (.aload_n 0, 1) := by decide +kernel
theorem dX2_shift_54 : decode cX2_shift 54 = .ok (.getfield 36, 3) := by decide +kernel
theorem dX2_shift_57 : decode cX2_shift 57 = .ok (.goto 6, 3) := by decide +kernel
theorem dX2_shift_60 : decode cX2_shift 60 = .ok (.sipush 255, 3) := by decide +kernel
theorem dX2_shift_63 : decode cX2_shift 63 = .ok (.iload_n 1, 1) := by decide +kernel
theorem dX2_shift_64 : decode cX2_shift 64 = .ok (.iadd, 1) := by decide +kernel
theorem dX2_shift_65 : decode cX2_shift 65 = .ok (.sipush 255, 3) := by decide +kernel
theorem dX2_shift_68 : decode cX2_shift 68 = .ok (.iand, 1) := by decide +kernel
theorem dX2_shift_69 : decode cX2_shift 69 = .ok (.istore_n 3, 1) := by decide +kernel
theorem dX2_shift_70 : decode cX2_shift 70 = .ok (.aload_n 0, 1) := by decide +kernel
theorem dX2_shift_71 : decode cX2_shift 71 = .ok (.getfield 13, 3) := by decide +kernel
theorem dX2_shift_74 : decode cX2_shift 74 = .ok (.getfield 81, 3) := by decide +kernel
theorem dX2_shift_77 : decode cX2_shift 77 = .ok (.ifCond .lt 37, 3) := by decide +kernel
theorem dX2_shift_80 : decode cX2_shift 80 = .ok (.aload_n 0, 1) := by decide +kernel
theorem dX2_shift_81 : decode cX2_shift 81 = .ok (.getfield 13, 3) := by decide +kernel
theorem dX2_shift_84 : decode cX2_shift 84 = .ok (.getfield 81, 3) := by decide +kernel
theorem dX2_shift_87 : decode cX2_shift 87 = .ok (.aload_n 0, 1) := by decide +kernel
theorem dX2_shift_88 : decode cX2_shift 88 = .ok (.getfield 13, 3) := by decide +kernel
theorem dX2_shift_91 : decode cX2_shift 91 = .ok (.getfield 86, 3) := by decide +kernel
theorem dX2_shift_94 : decode cX2_shift 94 = .ok (.arraylength, 1) := by decide +kernel
theorem dX2_shift_95 : decode cX2_shift 95 = .ok (.if_icmp .ge 19, 3) := by decide +kernel
theorem dX2_shift_98 : decode cX2_shift 98 = .ok (.aload_n 0, 1) := by decide +kernel
theorem dX2_shift_99 : decode cX2_shift 99 = .ok (.getfield 13, 3) := by decide +kernel
theorem dX2_shift_102 : decode cX2_shift 102 = .ok (.getfield 86, 3) := by decide +kernel
theorem dX2_shift_105 : decode cX2_shift 105 = .ok (.aload_n 0, 1) := by decide +kernel
theorem dX2_shift_106 : decode cX2_shift 106 = .ok (.getfield 13, 3) := by decide +kernel
theorem dX2_shift_109 : decode cX2_shift 109 = .ok (.getfield 81, 3) := by decide +kernel
theorem dX2_shift_112 : decode cX2_shift 112 = .ok (.iload_n 3, 1) := by decide +kernel
theorem dX2_shift_113 : decode cX2_shift 113 = .ok (.iastore, 1) := by decide +kernel
theorem dX2_shift_114 : decode cX2_shift 114 = .ok (.aload_n 0, 1) := by decide +kernel
theorem dX2_shift_115 : decode cX2_shift 115 = .ok (.getfield 13, 3) := by decide +kernel
theorem dX2_shift_118 : decode cX2_shift 118 = .ok (.dup, 1) := by decide +kernel
theorem dX2_shift_119 : decode cX2_shift 119 = .ok (.getfield 81, 3) := by decide +kernel
theorem dX2_shift_122 : decode cX2_shift 122 = .ok (.iconst 1, 1) := by decide +kernel
theorem dX2_shift_123 : decode cX2_shift 123 = .ok (.iadd, 1) := by decide +kernel
theorem dX2_shift_124 : decode cX2_shift 124 = .ok (.putfield 81, 3) := by decide +kernel
theorem dX2_shift_127 : decode cX2_shift 127 = .ok (.iinc 2 1, 3) := by decide +kernel
theorem dX2_shift_130 : decode cX2_shift 130 = .ok (.goto (-89), 3) := by decide +kernel
theorem dX2_shift_133 : decode cX2_shift 133 = .ok (.aload_n 0, 1) := by decide +kernel
theorem dX2_shift_134 : decode cX2_shift 134 = .ok (.iconst 0, 1) := by decide +kernel
theorem dX2_shift_135 : decode cX2_shift 135 = .ok (.putfield 40, 3) := by decide +kernel
theorem dX2_shift_138 : decode cX2_shift 138 = .ok (.aload_n 0, 1) := by decide +kernel
theorem dX2_shift_139 : decode cX2_shift 139 = .ok (.aload_n 0, 1) := by decide +kernel
theorem dX2_shift_140 : decode cX2_shift 140 = .ok (.getfield 27, 3) := by decide +kernel
theorem dX2_shift_143 : decode cX2_shift 143 = .ok (.bipush 24, 2) := by decide +kernel
theorem dX2_shift_145 : decode cX2_shift 145 = .ok (.lushr, 1) := by decide +kernel
theorem dX2_shift_146 : decode cX2_shift 146 = .ok (.l2i, 1) := by decide +kernel
theorem dX2_shift_147 : decode cX2_shift 147 = .ok (.sipush 255, 3) := by decide +kernel
theorem dX2_shift_150 : decode cX2_shift 150 = .ok (.iand, 1) := by decide +kernel
theorem dX2_shift_151 : decode cX2_shift 151 = .ok (.putfield 36, 3) := by decide +kernel
theorem dX2_shift_154 : decode cX2_shift 154 = .ok (.aload_n 0, 1) := by decide +kernel
theorem dX2_shift_155 : decode cX2_shift 155 = .ok (.dup, 1) := by decide +kernel
theorem dX2_shift_156 : decode cX2_shift 156 = .ok (.getfield 40, 3) := by decide +kernel
theorem dX2_shift_159 : decode cX2_shift 159 = .ok (.iconst 1, 1) := by decide +kernel
theorem dX2_shift_160 : decode cX2_shift 160 = .ok (.iadd, 1) := by decide +kernel
theorem dX2_shift_161 : decode cX2_shift 161 = .ok (.putfield 40, 3) := by decide +kernel
theorem dX2_shift_164 : decode cX2_shift 164 = .ok (.aload_n 0, 1) := by decide +kernel
theorem dX2_shift_165 : decode cX2_shift 165 = .ok (.aload_n 0, 1) := by decide +kernel
theorem dX2_shift_166 : decode cX2_shift 166 = .ok (.getfield 27, 3) := by decide +kernel
theorem dX2_shift_169 : decode cX2_shift 169 = .ok (.ldc2_w 89, 3) := by decide +kernel
theorem dX2_shift_172 : decode cX2_shift 172 = .ok (.land, 1) := by decide +kernel
theorem dX2_shift_173 : decode cX2_shift 173 = .ok (.bipush 8, 2) := by decide +kernel
theorem dX2_shift_175 : decode cX2_shift 175 = .ok (.lshl, 1) := by decide +kernel
theorem dX2_shift_176 : decode cX2_shift 176 = .ok (.putfield 27, 3) := by decide +kernel
theorem dX2_shift_179 : decode cX2_shift 179 = .ok (.return_, 1) := by decide +kernel
theorem dX2_flush_0 : decode cX2_flush 0 = .ok (.iconst 0, 1) := by decide +kernel
theorem dX2_flush_1 : decode cX2_flush 1 = .ok (.istore_n 1, 1) := by decide +kernel
theorem dX2_flush_2 : decode cX2_flush 2 = .ok (.iload_n 1, 1) := by decide +kernel
theorem dX2_flush_3 : decode cX2_flush 3 = .ok (.iconst 5, 1) := by decide +kernel
theorem dX2_flush_4 : decode cX2_flush 4 = .ok (.if_icmp .ge 13, 3) := by decide +kernel
theorem dX2_flush_7 : decode cX2_flush 7 = .ok (.aload_n 0, 1) := by decide +kernel
