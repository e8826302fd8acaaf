theorem dX0_init_0 : decode cX0_init 0 = .ok (.aload_n 0, 1) := by decide +kernel
theorem dX0_init_1 : decode cX0_init 1 = .ok (.invokespecial 3, 3) := by decide +kernel
theorem dX0_init_4 : decode cX0_init 4 = .ok (.aload_n 0, 1) := by decide +kernel
theorem dX0_init_5 : decode cX0_init 5 = .ok (.bipush 8, 2) := by decide +kernel
theorem dX0_init_7 : decode cX0_init 7 = .ok (.newarray .int, 2) := by decide +kernel
theorem dX0_init_9 : decode cX0_init 9 = .ok (.putfield 9, 3) := by decide +kernel
theorem dX0_init_12 : decode cX0_init 12 = .ok (.aload_n 0, 1) := by decide +kernel
theorem dX0_init_13 : decode cX0_init 13 = .ok (.bipush 8, 2) := by decide +kernel
theorem dX0_init_15 : decode cX0_init 15 = .ok (.newarray .int, 2) := by decide +kernel
theorem dX0_init_17 : decode cX0_init 17 = .ok (.putfield 15, 3) := by decide +kernel
theorem dX0_init_20 : decode cX0_init 20 = .ok (.aload_n 0, 1) := by decide +kernel
theorem dX0_init_21 : decode cX0_init 21 = .ok (.bipush 64, 2) := by decide +kernel
theorem dX0_init_23 : decode cX0_init 23 = .ok (.newarray .int, 2) := by decide +kernel
theorem dX0_init_25 : decode cX0_init 25 = .ok (.putfield 18, 3) := by decide +kernel
theorem dX0_init_28 : decode cX0_init 28 = .ok (.return_, 1) := by decide +kernel
theorem dX0_isKind_0 : decode cX0_isKind 0 = .ok (.iload_n 0, 1) := by decide +kernel
theorem dX0_isKind_1 : decode cX0_isKind 1 = .ok (.ifCond .eq 19, 3) := by decide +kernel
theorem dX0_isKind_4 : decode cX0_isKind 4 = .ok (.iload_n 0, 1) := by decide +kernel
theorem dX0_isKind_5 : decode cX0_isKind 5 = .ok (.iconst 1, 1) := by decide +kernel
theorem dX0_isKind_6 : decode cX0_isKind 6 = .ok (.if_icmp .eq 14, 3) := by decide +kernel
theorem dX0_isKind_9 : decode cX0_isKind 9 = .ok (.iload_n 0, 1) := by decide +kernel
theorem dX0_isKind_10 : decode cX0_isKind 10 = .ok (.iconst 4, 1) := by decide +kernel
theorem dX0_isKind_11 : decode cX0_isKind 11 = .ok (.if_icmp .eq 9, 3) := by decide +kernel
theorem dX0_isKind_14 : decode cX0_isKind 14 = .ok (.iload_n 0, 1) := by decide +kernel
theorem dX0_isKind_15 : decode cX0_isKind 15 = .ok (.bipush 10, 2) := by decide +kernel
theorem dX0_isKind_17 : decode cX0_isKind 17 = .ok (.if_icmp .ne 7, 3) := by decide +kernel
theorem dX0_isKind_20 : decode cX0_isKind 20 = .ok (.iconst 1, 1) := by decide +kernel
theorem dX0_isKind_21 : decode cX0_isKind 21 = .ok (.goto 4, 3) := by decide +kernel
theorem dX0_isKind_24 : decode cX0_isKind 24 = .ok (.iconst 0, 1) := by decide +kernel
theorem dX0_isKind_25 : decode cX0_isKind 25 = .ok (.ireturn, 1) := by decide +kernel
theorem dX0_bytesOf_0 : decode cX0_bytesOf 0 = .ok (.iload_n 0, 1) := by decide +kernel
theorem dX0_bytesOf_1 : decode cX0_bytesOf 1 = .ok (.iconst 1, 1) := by decide +kernel
theorem dX0_bytesOf_2 : decode cX0_bytesOf 2 = .ok (.if_icmp .ne 7, 3) := by decide +kernel
theorem dX0_bytesOf_5 : decode cX0_bytesOf 5 = .ok (.iconst 4, 1) := by decide +kernel
theorem dX0_bytesOf_6 : decode cX0_bytesOf 6 = .ok (.goto 25, 3) := by decide +kernel
theorem dX0_bytesOf_9 : decode cX0_bytesOf 9 = .ok (.iload_n 0, 1) := by decide +kernel
theorem dX0_bytesOf_10 : decode cX0_bytesOf 10 = .ok (.iconst 4, 1) := by decide +kernel
theorem dX0_bytesOf_11 : decode cX0_bytesOf 11 = .ok (.if_icmp .ne 8, 3) := by decide +kernel
theorem dX0_bytesOf_14 : decode cX0_bytesOf 14 = .ok (.bipush 8, 2) := by decide +kernel
theorem dX0_bytesOf_16 : decode cX0_bytesOf 16 = .ok (.goto 15, 3) := by decide +kernel
theorem dX0_bytesOf_19 : decode cX0_bytesOf 19 = .ok (.iload_n 0, 1) := by decide +kernel
theorem dX0_bytesOf_20 : decode cX0_bytesOf 20 = .ok (.bipush 10, 2) := by decide +kernel
theorem dX0_bytesOf_22 : decode cX0_bytesOf 22 = .ok (.if_icmp .ne 8, 3) := by decide +kernel
theorem dX0_bytesOf_25 : decode cX0_bytesOf 25 = .ok (.bipush 32, 2) := by decide +kernel
theorem dX0_bytesOf_27 : decode cX0_bytesOf 27 = .ok (.goto 4, 3) := by decide +kernel
theorem dX0_bytesOf_30 : decode cX0_bytesOf 30 = .ok (.iconst 0, 1) := by decide +kernel
theorem dX0_bytesOf_31 : decode cX0_bytesOf 31 = .ok (.ireturn, 1) := by decide +kernel
theorem dX0_compute_0 : decode cX0_compute 0 = .ok (.iload_n 1, 1) := by decide +kernel
theorem dX0_compute_1 : decode cX0_compute 1 = .ok (.iconst 1, 1) := by decide +kernel
theorem dX0_compute_2 : decode cX0_compute 2 = .ok (.if_icmp .ne 19, 3) := by decide +kernel
theorem dX0_compute_5 : decode cX0_compute 5 = .ok (.aload_n 0, 1) := by decide +kernel
theorem dX0_compute_6 : decode cX0_compute 6 = .ok (.getfield 9, 3) := by decide +kernel
theorem dX0_compute_9 : decode cX0_compute 9 = .ok (.iconst 0, 1) := by decide +kernel
theorem dX0_compute_10 : decode cX0_compute 10 = .ok (.aload_n 2, 1) := by decide +kernel
theorem dX0_compute_11 : decode cX0_compute 11 = .ok (.iload_n 3, 1) := by decide +kernel
theorem dX0_compute_12 : decode cX0_compute 12 = .ok (.iload 4, 2) := by decide +kernel
theorem dX0_compute_14 : decode cX0_compute 14 = .ok (.invokestatic 21, 3) := by decide +kernel
theorem dX0_compute_17 : decode cX0_compute 17 = .ok (.iastore, 1) := by decide +kernel
theorem dX0_compute_18 : decode cX0_compute 18 = .ok (.goto 55, 3) := by decide +kernel
theorem dX0_compute_21 : decode cX0_compute 21 = .ok (.iload_n 1, 1) := by decide +kernel
theorem dX0_compute_22 : decode cX0_compute 22 = .ok (.iconst 4, 1) := by decide +kernel
theorem dX0_compute_23 : decode cX0_compute 23 = .ok (.if_icmp .ne 36, 3) := by decide +kernel
theorem dX0_compute_26 : decode cX0_compute 26 = .ok (.aload_n 2, 1) := by decide +kernel
theorem dX0_compute_27 : decode cX0_compute 27 = .ok (.iload_n 3, 1) := by decide +kernel
theorem dX0_compute_28 : decode cX0_compute 28 = .ok (.iload 4, 2) := by decide +kernel
theorem dX0_compute_30 : decode cX0_compute 30 = .ok (.invokestatic 25, 3) := by decide +kernel
theorem dX0_compute_33 : decode cX0_compute 33 = .ok (.lstore 5, 2) := by decide +kernel
theorem dX0_compute_35 : decode cX0_compute 35 = .ok (.aload_n 0, 1) := by decide +kernel
theorem dX0_compute_36 : decode cX0_compute 36 = .ok (.getfield 9, 3) := by decide +kernel
theorem dX0_compute_39 : decode cX0_compute 39 = .ok (.iconst 0, 1) := by decide +kernel
theorem dX0_compute_40 : decode cX0_compute 40 = .ok (.lload 5, 2) := by decide +kernel
theorem dX0_compute_42 : decode cX0_compute 42 = .ok (.l2i, 1) := by decide +kernel
theorem dX0_compute_43 : decode cX0_compute 43 = .ok (.iastore, 1) := by decide +kernel
theorem dX0_compute_44 : decode cX0_compute 44 = .ok (.aload_n 0, 1) := by decide +kernel
theorem dX0_compute_45 : decode cX0_compute 45 = .ok (.getfield 9, 3) := by decide +kernel
theorem dX0_compute_48 : decode cX0_compute 48 = .ok (.iconst 1, 1) := by decide +kernel
theorem dX0_compute_49 : decode cX0_compute 49 = .ok (.lload 5, 2) := by decide +kernel
theorem dX0_compute_51 : decode cX0_compute 51 = .ok (.bipush 32, 2) := by decide +kernel
theorem dX0_compute_53 : decode cX0_compute 53 = .ok (.lushr, 1) := by decide +kernel
theorem dX0_compute_54 : decode cX0_compute 54 = .ok (.l2i, 1) := by decide +kernel
theorem dX0_compute_55 : decode cX0_compute 55 = .ok (.iastore, 1) := by decide +kernel
theorem dX0_compute_56 : decode cX0_compute 56 = .ok (.goto 17, 3) := by decide +kernel
theorem dX0_compute_59 : decode cX0_compute 59 = .ok (.iload_n 1, 1) := by decide +kernel
theorem dX0_compute_60 : decode cX0_compute 60 = .ok (.bipush 10, 2) := by decide +kernel
theorem dX0_compute_62 : decode cX0_compute 62 = .ok (.if_icmp .ne 11, 3) := by decide +kernel
theorem dX0_compute_65 : decode cX0_compute 65 = .ok (.aload_n 0, 1) := by decide +kernel
theorem dX0_compute_66 : decode cX0_compute 66 = .ok (.aload_n 2, 1) := by decide +kernel
theorem dX0_compute_67 : decode cX0_compute 67 = .ok (.iload_n 3, 1) := by decide +kernel
theorem dX0_compute_68 : decode cX0_compute 68 = .ok (.iload 4, 2) := by decide +kernel
theorem dX0_compute_70 : decode cX0_compute 70 = .ok (.invokevirtual 29, 3) := by decide +kernel
theorem dX0_compute_73 : decode cX0_compute 73 = .ok (.return_, 1) := by decide +kernel
theorem dX0_crc32_0 : decode cX0_crc32 0 = .ok (.iconst (-1), 1) := by decide +kernel
theorem dX0_crc32_1 : decode cX0_crc32 1 = .ok (.istore_n 3, 1) := by decide +kernel
theorem dX0_crc32_2 : decode cX0_crc32 2 = .ok (.iload_n 1, 1) := by decide +kernel
theorem dX0_crc32_3 : decode cX0_crc32 3 = .ok (.istore 4, 2) := by decide +kernel
theorem dX0_crc32_5 : decode cX0_crc32 5 = .ok (.iload 4, 2) := by decide +kernel
theorem dX0_crc32_7 : decode cX0_crc32 7 = .ok (.iload_n 2, 1) := by decide +kernel
theorem dX0_crc32_8 : decode cX0_crc32 8 = .ok (.if_icmp .ge 46, 3) := by decide +kernel
theorem dX0_crc32_11 : decode cX0_crc32 11 = .ok (.iload_n 3, 1) := by decide +kernel
theorem dX0_crc32_12 : decode cX0_crc32 12 = .ok (.aload_n 0, 1) := by decide +kernel
theorem dX0_crc32_13 : decode cX0_crc32 13 = .ok (.iload 4, 2) := by decide +kernel
theorem dX0_crc32_15 : decode cX0_crc32 15 = .ok (.invokevirtual 33, 3) := by decide +kernel
theorem dX0_crc32_18 : decode cX0_crc32 18 = .ok (.ixor, 1) := by decide +kernel
theorem dX0_crc32_19 : decode cX0_crc32 19 = .ok (.istore_n 3, 1) := by decide +kernel
theorem dX0_crc32_20 : decode cX0_crc32 20 = .ok (.iconst 0, 1) := by decide +kernel
theorem dX0_crc32_21 : decode cX0_crc32 21 = .ok (.istore 5, 2) := by decide +kernel
theorem dX0_crc32_23 : decode cX0_crc32 23 = .ok (.iload 5, 2) := by decide +kernel
theorem dX0_crc32_25 : decode cX0_crc32 25 = .ok (.bipush 8, 2) := by decide +kernel
theorem dX0_crc32_27 : decode cX0_crc32 27 = .ok (.if_icmp .ge 21, 3) := by decide +kernel
theorem dX0_crc32_30 : decode cX0_crc32 30 = .ok (.iload_n 3, 1) := by decide +kernel
theorem dX0_crc32_31 : decode cX0_crc32 31 = .ok (.iconst 1, 1) := by decide +kernel
theorem dX0_crc32_32 : decode cX0_crc32 32 = .ok (.iushr, 1) := by decide +kernel
theorem dX0_crc32_33 : decode cX0_crc32 33 = .ok (.ldc 39, 2) := by decide +kernel
theorem dX0_crc32_35 : decode cX0_crc32 35 = .ok (.iload_n 3, 1) := by decide +kernel
theorem dX0_crc32_36 : decode cX0_crc32 36 = .ok (.iconst 1, 1) := by decide +kernel
theorem dX0_crc32_37 : decode cX0_crc32 37 = .ok (.iand, 1) := by decide +kernel
theorem dX0_crc32_38 : decode cX0_crc32 38 = .ok (.ineg, 1) := by decide +kernel
theorem dX0_crc32_39 : decode cX0_crc32 39 = .ok (.iand, 1) := by decide +kernel
theorem dX0_crc32_40 : decode cX0_crc32 40 = .ok (.ixor, 1) := by decide +kernel
theorem dX0_crc32_41 : decode cX0_crc32 41 = .ok (.istore_n 3, 1) := by decide +kernel
theorem dX0_crc32_42 : decode cX0_crc32 42 = .ok (.iinc 5 1, 3) := by decide +kernel
theorem dX0_crc32_45 : decode cX0_crc32 45 = .ok (.goto (-22), 3) := by decide +kernel
theorem dX0_crc32_48 : decode cX0_crc32 48 = .ok (.iinc 4 1, 3) := by decide +kernel
theorem dX0_crc32_51 : decode cX0_crc32 51 = .ok (.goto (-46), 3) := by decide +kernel
theorem dX0_crc32_54 : decode cX0_crc32 54 = .ok (.iload_n 3, 1) := by decide +kernel
theorem dX0_crc32_55 : decode cX0_crc32 55 = .ok (.iconst (-1), 1) := by decide +kernel
theorem dX0_crc32_56 : decode cX0_crc32 56 = .ok (.ixor, 1) := by decide +kernel
theorem dX0_crc32_57 : decode cX0_crc32 57 = .ok (.ireturn, 1) := by decide +kernel
theorem dX0_crc64_0 : decode cX0_crc64 0 = .ok (.ldc2_w 40, 3) := by decide +kernel
theorem dX0_crc64_3 : decode cX0_crc64 3 = .ok (.lstore_n 3, 1) := by decide +kernel
theorem dX0_crc64_4 : decode cX0_crc64 4 = .ok (.iload_n 1, 1) := by decide +kernel
theorem dX0_crc64_5 : decode cX0_crc64 5 = .ok (.istore 5, 2) := by decide +kernel
theorem dX0_crc64_7 : decode cX0_crc64 7 = .ok (.iload 5, 2) := by decide +kernel
theorem dX0_crc64_9 : decode cX0_crc64 9 = .ok (.iload_n 2, 1) := by decide +kernel
theorem dX0_crc64_10 : decode cX0_crc64 10 = .ok (.if_icmp .ge 48, 3) := by decide +kernel
theorem dX0_crc64_13 : decode cX0_crc64 13 = .ok (.lload_n 3, 1) := by decide +kernel
theorem dX0_crc64_14 : decode cX0_crc64 14 = .ok (.aload_n 0, 1) := by decide +kernel
theorem dX0_crc64_15 : decode cX0_crc64 15 = .ok (.iload 5, 2) := by decide +kernel
theorem dX0_crc64_17 : decode cX0_crc64 17 = .ok (.invokevirtual 33, 3) := by decide +kernel
theorem dX0_crc64_20 : decode cX0_crc64 20 = .ok (.i2l, 1) := by decide +kernel
theorem dX0_crc64_21 : decode cX0_crc64 21 = .ok (.lxor, 1) := by decide +kernel
theorem dX0_crc64_22 : decode cX0_crc64 22 = .ok (.lstore_n 3, 1) := by decide +kernel
theorem dX0_crc64_23 : decode cX0_crc64 23 = .ok (.iconst 0, 1) := by decide +kernel
theorem dX0_crc64_24 : decode cX0_crc64 24 = .ok (.istore 6, 2) := by decide +kernel
theorem dX0_crc64_26 : decode cX0_crc64 26 = .ok (.iload 6, 2) := by decide +kernel
theorem dX0_crc64_28 : decode cX0_crc64 28 = .ok (.bipush 8, 2) := by decide +kernel
theorem dX0_crc64_30 : decode cX0_crc64 30 = .ok (.if_icmp .ge 22, 3) := by decide +kernel
theorem dX0_crc64_33 : decode cX0_crc64 33 = .ok (.lload_n 3, 1) := by decide +kernel
theorem dX0_crc64_34 : decode cX0_crc64 34 = .ok (.iconst 1, 1) := by decide +kernel
theorem dX0_crc64_35 : decode cX0_crc64 35 = .ok (.lushr, 1) := by decide +kernel
theorem dX0_crc64_36 : decode cX0_crc64 36 = .ok (.ldc2_w 42, 3) := by decide +kernel
theorem dX0_crc64_39 : decode cX0_crc64 39 = .ok (.lload_n 3, 1) := by decide +kernel
theorem dX0_crc64_40 : decode cX0_crc64 40 = .ok (.lconst 1, 1) := by decide +kernel
theorem dX0_crc64_41 : decode cX0_crc64 41 = .ok (.land, 1) := by decide +kernel
theorem dX0_crc64_42 : decode cX0_crc64 42 = .ok (.lneg, 1) := by decide +kernel
theorem dX0_crc64_43 : decode cX0_crc64 43 = .ok (.land, 1) := by decide +kernel
theorem dX0_crc64_44 : decode cX0_crc64 44 = .ok (.lxor, 1) := by decide +kernel
theorem dX0_crc64_45 : decode cX0_crc64 45 = .ok (.lstore_n 3, 1) := by decide +kernel
theorem dX0_crc64_46 : decode cX0_crc64 46 = .ok (.iinc 6 1, 3) := by decide +kernel
theorem dX0_crc64_49 : decode cX0_crc64 49 = .ok (.goto (-23), 3) := by decide +kernel
theorem dX0_crc64_52 : decode cX0_crc64 52 = .ok (.iinc 5 1, 3) := by decide +kernel
theorem dX0_crc64_55 : decode cX0_crc64 55 = .ok (.goto (-48), 3) := by decide +kernel
theorem dX0_crc64_58 : decode cX0_crc64 58 = .ok (.lload_n 3, 1) := by decide +kernel
theorem dX0_crc64_59 : decode cX0_crc64 59 = .ok (.ldc2_w 40, 3) := by decide +kernel
theorem dX0_crc64_62 : decode cX0_crc64 62 = .ok (.lxor, 1) := by decide +kernel
theorem dX0_crc64_63 : decode cX0_crc64 63 = .ok (.lreturn, 1) := by decide +kernel
theorem dX0_sha256_0 : decode cX0_sha256 0 = .ok (.getstatic 44, 3) := by decide +kernel
theorem dX0_sha256_3 : decode cX0_sha256 3 = .ok (.iconst 0, 1) := by decide +kernel
theorem dX0_sha256_4 : decode cX0_sha256 4 = .ok (.aload_n 0, 1) := by decide +kernel
theorem dX0_sha256_5 : decode cX0_sha256 5 = .ok (.getfield 9, 3) := by decide +kernel
theorem dX0_sha256_8 : decode cX0_sha256 8 = .ok (.iconst 0, 1) := by decide +kernel
theorem dX0_sha256_9 : decode cX0_sha256 9 = .ok (.bipush 8, 2) := by decide +kernel
theorem dX0_sha256_11 : decode cX0_sha256 11 = .ok (.invokestatic 47, 3) := by decide +kernel
theorem dX0_sha256_14 : decode cX0_sha256 14 = .ok (.iload_n 3, 1) := by decide +kernel
theorem dX0_sha256_15 : decode cX0_sha256 15 = .ok (.iload_n 2, 1) := by decide +kernel
theorem dX0_sha256_16 : decode cX0_sha256 16 = .ok (.isub, 1) := by decide +kernel
theorem dX0_sha256_17 : decode cX0_sha256 17 = .ok (.istore 4, 2) := by decide +kernel
theorem dX0_sha256_19 : decode cX0_sha256 19 = .ok (.iload 4, 2) := by decide +kernel
theorem dX0_sha256_21 : decode cX0_sha256 21 = .ok (.bipush 72, 2) := by decide +kernel
theorem dX0_sha256_23 : decode cX0_sha256 23 = .ok (.iadd, 1) := by decide +kernel
theorem dX0_sha256_24 : decode cX0_sha256 24 = .ok (.bipush (-64), 2) := by decide +kernel
theorem dX0_sha256_26 : decode cX0_sha256 26 = .ok (.iand, 1) := by decide +kernel
theorem dX0_sha256_27 : decode cX0_sha256 27 = .ok (.istore 5, 2) := by decide +kernel
theorem dX0_sha256_29 : decode cX0_sha256 29 = .ok (.iconst 0, 1) := by decide +kernel
theorem dX0_sha256_30 : decode cX0_sha256 30 = .ok (.istore 6, 2) := by decide +kernel
theorem dX0_sha256_32 : decode cX0_sha256 32 = .ok (.iload 6, 2) := by decide +kernel
theorem dX0_sha256_34 : decode cX0_sha256 34 = .ok (.iload 5, 2) := by decide +kernel
theorem dX0_sha256_36 : decode cX0_sha256 36 = .ok (.if_icmp .ge 103, 3) := by decide +kernel
theorem dX0_sha256_39 : decode cX0_sha256 39 = .ok (.iconst 0, 1) := by decide +kernel
theorem dX0_sha256_40 : decode cX0_sha256 40 = .ok (.istore 7, 2) := by decide +kernel
theorem dX0_sha256_42 : decode cX0_sha256 42 = .ok (.iload 7, 2) := by decide +kernel
theorem dX0_sha256_44 : decode cX0_sha256 44 = .ok (.bipush 16, 2) := by decide +kernel
theorem dX0_sha256_46 : decode cX0_sha256 46 = .ok (.if_icmp .ge 61, 3) := by decide +kernel
theorem dX0_sha256_49 : decode cX0_sha256 49 = .ok (.iconst 0, 1) := by decide +kernel
theorem dX0_sha256_50 : decode cX0_sha256 50 = .ok (.istore 8, 2) := by decide +kernel
theorem dX0_sha256_52 : decode cX0_sha256 52 = .ok (.iconst 0, 1) := by decide +kernel
theorem dX0_sha256_53 : decode cX0_sha256 53 = .ok (.istore 9, 2) := by decide +kernel
theorem dX0_sha256_55 : decode cX0_sha256 55 = .ok (.iload 9, 2) := by decide +kernel
theorem dX0_sha256_57 : decode cX0_sha256 57 = .ok (.iconst 4, 1) := by decide +kernel
theorem dX0_sha256_58 : decode cX0_sha256 58 = .ok (.if_icmp .ge 34, 3) := by decide +kernel
theorem dX0_sha256_61 : decode cX0_sha256 61 = .ok (.iload 8, 2) := by decide +kernel
theorem dX0_sha256_63 : decode cX0_sha256 63 = .ok (.bipush 8, 2) := by decide +kernel
theorem dX0_sha256_65 : decode cX0_sha256 65 = .ok (.ishl, 1) := by decide +kernel
theorem dX0_sha256_66 : decode cX0_sha256 66 = .ok (.aload_n 1, 1) := by decide +kernel
theorem dX0_sha256_67 : decode cX0_sha256 67 = .ok (.iload_n 2, 1) := by decide +kernel
theorem dX0_sha256_68 : decode cX0_sha256 68 = .ok (.iload 4, 2) := by decide +kernel
theorem dX0_sha256_70 : decode cX0_sha256 70 = .ok (.iload 6, 2) := by decide +kernel
theorem dX0_sha256_72 : decode cX0_sha256 72 = .ok (.iconst 4, 1) := by decide +kernel
theorem dX0_sha256_73 : decode cX0_sha256 73 = .ok (.iload 7, 2) := by decide +kernel
theorem dX0_sha256_75 : decode cX0_sha256 75 = .ok (.imul, 1) := by decide +kernel
theorem dX0_sha256_76 : decode cX0_sha256 76 = .ok (.iadd, 1) := by decide +kernel
theorem dX0_sha256_77 : decode cX0_sha256 77 = .ok (.iload 9, 2) := by decide +kernel
theorem dX0_sha256_79 : decode cX0_sha256 79 = .ok (.iadd, 1) := by decide +kernel
theorem dX0_sha256_80 : decode cX0_sha256 80 = .ok (.invokestatic 53, 3) := by decide +kernel
theorem dX0_sha256_83 : decode cX0_sha256 83 = .ok (.ior, 1) := by decide +kernel
theorem dX0_sha256_84 : decode cX0_sha256 84 = .ok (.istore 8, 2) := by decide +kernel
theorem dX0_sha256_86 : decode cX0_sha256 86 = .ok (.iinc 9 1, 3) := by decide +kernel
theorem dX0_sha256_89 : decode cX0_sha256 89 = .ok (.goto (-34), 3) := by decide +kernel
theorem dX0_sha256_92 : decode cX0_sha256 92 = .ok (.aload_n 0, 1) := by decide +kernel
theorem dX0_sha256_93 : decode cX0_sha256 93 = .ok (.getfield 18, 3) := by decide +kernel
theorem dX0_sha256_96 : decode cX0_sha256 96 = .ok (.iload 7, 2) := by decide +kernel
theorem dX0_sha256_98 : decode cX0_sha256 98 = .ok (.iload 8, 2) := by decide +kernel
theorem dX0_sha256_100 : decode cX0_sha256 100 = .ok (.iastore, 1) := by decide +kernel
theorem dX0_sha256_101 : decode cX0_sha256 101 = .ok (.iinc 7 1, 3) := by decide +kernel
theorem dX0_sha256_104 : decode cX0_sha256 104 = .ok (.goto (-62), 3) := by decide +kernel
theorem dX0_sha256_107 : decode cX0_sha256 107 = .ok (.iload 6, 2) := by decide +kernel
theorem dX0_sha256_109 : decode cX0_sha256 109 = .ok (.bipush 64, 2) := by decide +kernel
theorem dX0_sha256_111 : decode cX0_sha256 111 = .ok (.iadd, 1) := by decide +kernel
theorem dX0_sha256_112 : decode cX0_sha256 112 = .ok (.iload 5, 2) := by decide +kernel
theorem dX0_sha256_114 : decode cX0_sha256 114 = .ok (.if_icmp .ne 15, 3) := by decide +kernel
theorem dX0_sha256_117 : decode cX0_sha256 117 = .ok (.aload_n 0, 1) := by decide +kernel
theorem dX0_sha256_118 : decode cX0_sha256 118 = .ok (.getfield 18, 3) := by decide +kernel
theorem dX0_sha256_121 : decode cX0_sha256 121 = .ok (.bipush 15, 2) := by decide +kernel
theorem dX0_sha256_123 : decode cX0_sha256 123 = .ok (.iload 4, 2) := by decide +kernel
theorem dX0_sha256_125 : decode cX0_sha256 125 = .ok (.bipush 8, 2) := by decide +kernel
theorem dX0_sha256_127 : decode cX0_sha256 127 = .ok (.imul, 1) := by decide +kernel
theorem dX0_sha256_128 : decode cX0_sha256 128 = .ok (.iastore, 1) := by decide +kernel
theorem dX0_sha256_129 : decode cX0_sha256 129 = .ok (.aload_n 0, 1) := by decide +kernel
theorem dX0_sha256_130 : decode cX0_sha256 130 = .ok (.invokevirtual 57, 3) := by decide +kernel
theorem dX0_sha256_133 : decode cX0_sha256 133 = .ok (.iinc 6 64, 3) := by decide +kernel
theorem dX0_sha256_136 : decode cX0_sha256 136 = .ok (.goto (-104), 3) := by decide +kernel
theorem dX0_sha256_139 : decode cX0_sha256 139 = .ok (.return_, 1) := by decide +kernel
theorem dX0_shaByte_0 : decode cX0_shaByte 0 = .ok (.iload_n 3, 1) := by decide +kernel
theorem dX0_shaByte_1 : decode cX0_shaByte 1 = .ok (.iload_n 2, 1) := by decide +kernel
theorem dX0_shaByte_2 : decode cX0_shaByte 2 = .ok (.if_icmp .ge 13, 3) := by decide +kernel
theorem dX0_shaByte_5 : decode cX0_shaByte 5 = .ok (.aload_n 0, 1) := by decide +kernel
theorem dX0_shaByte_6 : decode cX0_shaByte 6 = .ok (.iload_n 1, 1) := by decide +kernel
theorem dX0_shaByte_7 : decode cX0_shaByte 7 = .ok (.iload_n 3, 1) := by decide +kernel
theorem dX0_shaByte_8 : decode cX0_shaByte 8 = .ok (.iadd, 1) := by decide +kernel
theorem dX0_shaByte_9 : decode cX0_shaByte 9 = .ok (.invokevirtual 33, 3) := by decide +kernel
theorem dX0_shaByte_12 : decode cX0_shaByte 12 = .ok (.goto 15, 3) := by decide +kernel
theorem dX0_shaByte_15 : decode cX0_shaByte 15 = .ok (.iload_n 3, 1) := by decide +kernel
theorem dX0_shaByte_16 : decode cX0_shaByte 16 = .ok (.iload_n 2, 1) := by decide +kernel
theorem dX0_shaByte_17 : decode cX0_shaByte 17 = .ok (.if_icmp .ne 9, 3) := by decide +kernel
theorem dX0_shaByte_20 : decode cX0_shaByte 20 = .ok (.sipush 128, 3) := by decide +kernel
theorem dX0_shaByte_23 : decode cX0_shaByte 23 = .ok (.goto 4, 3) := by decide +kernel
theorem dX0_shaByte_26 : decode cX0_shaByte 26 = .ok (.iconst 0, 1) := by decide +kernel
theorem dX0_shaByte_27 : decode cX0_shaByte 27 = .ok (.ireturn, 1) := by decide +kernel
theorem dX0_mixBlock_0 : decode cX0_mixBlock 0 = .ok (.bipush 16, 2) := by decide +kernel
theorem dX0_mixBlock_2 : decode cX0_mixBlock 2 = .ok (.istore_n 1, 1) := by decide +kernel
theorem dX0_mixBlock_3 : decode cX0_mixBlock 3 = .ok (.iload_n 1, 1) := by decide +kernel
theorem dX0_mixBlock_4 : decode cX0_mixBlock 4 = .ok (.bipush 64, 2) := by decide +kernel
theorem dX0_mixBlock_6 : decode cX0_mixBlock 6 = .ok (.if_icmp .ge 98, 3) := by decide +kernel
theorem dX0_mixBlock_9 : decode cX0_mixBlock 9 = .ok (.aload_n 0, 1) := by decide +kernel
theorem dX0_mixBlock_10 : decode cX0_mixBlock 10 = .ok (.getfield 18, 3) := by decide +kernel
theorem dX0_mixBlock_13 : decode cX0_mixBlock 13 = .ok (.iload_n 1, 1) := by decide +kernel
theorem dX0_mixBlock_14 : decode cX0_mixBlock 14 = .ok (.bipush 15, 2) := by decide +kernel
theorem dX0_mixBlock_16 : decode cX0_mixBlock 16 = .ok (.isub, 1) := by decide +kernel
theorem dX0_mixBlock_17 : decode cX0_mixBlock 17 = .ok (.iaload, 1) := by decide +kernel
theorem dX0_mixBlock_18 : decode cX0_mixBlock 18 = .ok (.istore_n 2, 1) := by decide +kernel
theorem dX0_mixBlock_19 : decode cX0_mixBlock 19 = .ok (.aload_n 0, 1) := by decide +kernel
theorem dX0_mixBlock_20 : decode cX0_mixBlock 20 = .ok (.getfield 18, 3) := by decide +kernel
theorem dX0_mixBlock_23 : decode cX0_mixBlock 23 = .ok (.iload_n 1, 1) := by decide +kernel
theorem dX0_mixBlock_24 : decode cX0_mixBlock 24 = .ok (.iconst 2, 1) := by decide +kernel
theorem dX0_mixBlock_25 : decode cX0_mixBlock 25 = .ok (.isub, 1) := by decide +kernel
theorem dX0_mixBlock_26 : decode cX0_mixBlock 26 = .ok (.iaload, 1) := by decide +kernel
theorem dX0_mixBlock_27 : decode cX0_mixBlock 27 = .ok (.istore_n 3, 1) := by decide +kernel
theorem dX0_mixBlock_28 : decode cX0_mixBlock 28 = .ok (.iload_n 2, 1) := by decide +kernel
theorem dX0_mixBlock_29 : decode cX0_mixBlock 29 = .ok (.bipush 7, 2) := by decide +kernel
theorem dX0_mixBlock_31 : decode cX0_mixBlock 31 = .ok (.invokestatic 60, 3) := by decide +kernel
theorem dX0_mixBlock_34 : decode cX0_mixBlock 34 = .ok (.iload_n 2, 1) := by decide +kernel
theorem dX0_mixBlock_35 : decode cX0_mixBlock 35 = .ok (.bipush 18, 2) := by decide +kernel
theorem dX0_mixBlock_37 : decode cX0_mixBlock 37 = .ok (.invokestatic 60, 3) := by decide +kernel
theorem dX0_mixBlock_40 : decode cX0_mixBlock 40 = .ok (.ixor, 1) := by decide +kernel
theorem dX0_mixBlock_41 : decode cX0_mixBlock 41 = .ok (.iload_n 2, 1) := by decide +kernel
theorem dX0_mixBlock_42 : decode cX0_mixBlock 42 = .ok (.iconst 3, 1) := by decide +kernel
theorem dX0_mixBlock_43 : decode cX0_mixBlock 43 = .ok (.iushr, 1) := by decide +kernel
theorem dX0_mixBlock_44 : decode cX0_mixBlock 44 = .ok (.ixor, 1) := by decide +kernel
theorem dX0_mixBlock_45 : decode cX0_mixBlock 45 = .ok (.istore 4, 2) := by decide +kernel
theorem dX0_mixBlock_47 : decode cX0_mixBlock 47 = .ok (.iload_n 3, 1) := by decide +kernel
theorem dX0_mixBlock_48 : decode cX0_mixBlock 48 = .ok (.bipush 17, 2) := by decide +kernel
theorem dX0_mixBlock_50 : decode cX0_mixBlock 50 = .ok (.invokestatic 60, 3) := by decide +kernel
theorem dX0_mixBlock_53 : decode cX0_mixBlock 53 = .ok (.iload_n 3, 1) := by decide +kernel
theorem dX0_mixBlock_54 : decode cX0_mixBlock 54 = .ok (.bipush 19, 2) := by decide +kernel
theorem dX0_mixBlock_56 : decode cX0_mixBlock 56 = .ok (.invokestatic 60, 3) := by decide +kernel
theorem dX0_mixBlock_59 : decode cX0_mixBlock 59 = .ok (.ixor, 1) := by decide +kernel
theorem dX0_mixBlock_60 : decode cX0_mixBlock 60 = .ok (.iload_n 3, 1) := by decide +kernel
theorem dX0_mixBlock_61 : decode cX0_mixBlock 61 = .ok (.bipush 10, 2) := by decide +kernel
theorem dX0_mixBlock_63 : decode cX0_mixBlock 63 = .ok (.iushr, 1) := by decide +kernel
theorem dX0_mixBlock_64 : decode cX0_mixBlock 64 = .ok (.ixor, 1) := by decide +kernel
theorem dX0_mixBlock_65 : decode cX0_mixBlock 65 = .ok (.istore 5, 2) := by decide +kernel
theorem dX0_mixBlock_67 : decode cX0_mixBlock 67 = .ok (.aload_n 0, 1) := by decide +kernel
theorem dX0_mixBlock_68 : decode cX0_mixBlock 68 = .ok (.getfield 18, 3) := by decide +kernel
theorem dX0_mixBlock_71 : decode cX0_mixBlock 71 = .ok (.iload_n 1, 1) := by decide +kernel
theorem dX0_mixBlock_72 : decode cX0_mixBlock 72 = .ok (.aload_n 0, 1) := by decide +kernel
theorem dX0_mixBlock_73 : decode cX0_mixBlock 73 = .ok (.getfield 18, 3) := by decide +kernel
theorem dX0_mixBlock_76 : decode cX0_mixBlock 76 = .ok (.iload_n 1, 1) := by decide +kernel
theorem dX0_mixBlock_77 : decode cX0_mixBlock 77 = .ok (.bipush 16, 2) := by decide +kernel
theorem dX0_mixBlock_79 : decode cX0_mixBlock 79 = .ok (.isub, 1) := by decide +kernel
theorem dX0_mixBlock_80 : decode cX0_mixBlock 80 = .ok (.iaload, 1) := by decide +kernel
theorem dX0_mixBlock_81 : decode cX0_mixBlock 81 = .ok (.iload 4, 2) := by decide +kernel
theorem dX0_mixBlock_83 : decode cX0_mixBlock 83 = .ok (.iadd, 1) := by decide +kernel
theorem dX0_mixBlock_84 : decode cX0_mixBlock 84 = .ok (.aload_n 0, 1) := by decide +kernel
theorem dX0_mixBlock_85 : decode cX0_mixBlock 85 = .ok (.getfield 18, 3) := by decide +kernel
theorem dX0_mixBlock_88 : decode cX0_mixBlock 88 = .ok (.iload_n 1, 1) := by decide +kernel
theorem dX0_mixBlock_89 : decode cX0_mixBlock 89 = .ok (.bipush 7, 2) := by decide +kernel
theorem dX0_mixBlock_91 : decode cX0_mixBlock 91 = .ok (.isub, 1) := by decide +kernel
theorem dX0_mixBlock_92 : decode cX0_mixBlock 92 = .ok (.iaload, 1) := by decide +kernel
theorem dX0_mixBlock_93 : decode cX0_mixBlock 93 = .ok (.iadd, 1) := by decide +kernel
theorem dX0_mixBlock_94 : decode cX0_mixBlock 94 = .ok (.iload 5, 2) := by decide +kernel
theorem dX0_mixBlock_96 : decode cX0_mixBlock 96 = .ok (.iadd, 1) := by decide +kernel
theorem dX0_mixBlock_97 : decode cX0_mixBlock 97 = .ok (.iastore, 1) := by decide +kernel
theorem dX0_mixBlock_98 : decode cX0_mixBlock 98 = .ok (.iinc 1 1, 3) := by decide +kernel
theorem dX0_mixBlock_101 : decode cX0_mixBlock 101 = .ok (.goto (-98), 3) := by decide +kernel
theorem dX0_mixBlock_104 : decode cX0_mixBlock 104 = .ok (.aload_n 0, 1) := by decide +kernel
theorem dX0_mixBlock_105 : decode cX0_mixBlock 105 = .ok (.getfield 9, 3) := by decide +kernel
theorem dX0_mixBlock_108 : decode cX0_mixBlock 108 = .ok (.iconst 0, 1) := by decide +kernel
theorem dX0_mixBlock_109 : decode cX0_mixBlock 109 = .ok (.aload_n 0, 1) := by decide +kernel
theorem dX0_mixBlock_110 : decode cX0_mixBlock 110 = .ok (.getfield 15, 3) := by decide +kernel
theorem dX0_mixBlock_113 : decode cX0_mixBlock 113 = .ok (.iconst 0, 1) := by decide +kernel
theorem dX0_mixBlock_114 : decode cX0_mixBlock 114 = .ok (.bipush 8, 2) := by decide +kernel
theorem dX0_mixBlock_116 : decode cX0_mixBlock 116 = .ok (.invokestatic 47, 3) := by decide +kernel
theorem dX0_mixBlock_119 : decode cX0_mixBlock 119 = .ok (.iconst 0, 1) := by decide +kernel
theorem dX0_mixBlock_120 : decode cX0_mixBlock 120 = .ok (.istore_n 1, 1) := by decide +kernel
theorem dX0_mixBlock_121 : decode cX0_mixBlock 121 = .ok (.iload_n 1, 1) := by decide +kernel
theorem dX0_mixBlock_122 : decode cX0_mixBlock 122 = .ok (.bipush 64, 2) := by decide +kernel
theorem dX0_mixBlock_124 : decode cX0_mixBlock 124 = .ok (.if_icmp .ge 25, 3) := by decide +kernel
theorem dX0_mixBlock_127 : decode cX0_mixBlock 127 = .ok (.aload_n 0, 1) := by decide +kernel
theorem dX0_mixBlock_128 : decode cX0_mixBlock 128 = .ok (.getstatic 66, 3) := by decide +kernel
theorem dX0_mixBlock_131 : decode cX0_mixBlock 131 = .ok (.iload_n 1, 1) := by decide +kernel
theorem dX0_mixBlock_132 : decode cX0_mixBlock 132 = .ok (.iaload, 1) := by decide +kernel
theorem dX0_mixBlock_133 : decode cX0_mixBlock 133 = .ok (.aload_n 0, 1) := by decide +kernel
theorem dX0_mixBlock_134 : decode cX0_mixBlock 134 = .ok (.getfield 18, 3) := by decide +kernel
theorem dX0_mixBlock_137 : decode cX0_mixBlock 137 = .ok (.iload_n 1, 1) := by decide +kernel
theorem dX0_mixBlock_138 : decode cX0_mixBlock 138 = .ok (.iaload, 1) := by decide +kernel
theorem dX0_mixBlock_139 : decode cX0_mixBlock 139 = .ok (.iadd, 1) := by decide +kernel
theorem dX0_mixBlock_140 : decode cX0_mixBlock 140 = .ok (.invokevirtual 69, 3) := by decide +kernel
theorem dX0_mixBlock_143 : decode cX0_mixBlock 143 = .ok (.iinc 1 1, 3) := by decide +kernel
theorem dX0_mixBlock_146 : decode cX0_mixBlock 146 = .ok (.goto (-25), 3) := by decide +kernel
theorem dX0_mixBlock_149 : decode cX0_mixBlock 149 = .ok (.iconst 0, 1) := by decide +kernel
theorem dX0_mixBlock_150 : decode cX0_mixBlock 150 = .ok (.istore_n 1, 1) := by decide +kernel
theorem dX0_mixBlock_151 : decode cX0_mixBlock 151 = .ok (.iload_n 1, 1) := by decide +kernel
theorem dX0_mixBlock_152 : decode cX0_mixBlock 152 = .ok (.bipush 8, 2) := by decide +kernel
theorem dX0_mixBlock_154 : decode cX0_mixBlock 154 = .ok (.if_icmp .ge 24, 3) := by decide +kernel
theorem dX0_mixBlock_157 : decode cX0_mixBlock 157 = .ok (.aload_n 0, 1) := by decide +kernel
theorem dX0_mixBlock_158 : decode cX0_mixBlock 158 = .ok (.getfield 9, 3) := by decide +kernel
theorem dX0_mixBlock_161 : decode cX0_mixBlock 161 = .ok (.iload_n 1, 1) := by decide +kernel
theorem dX0_mixBlock_162 : decode cX0_mixBlock 162 = .ok (.dup2, 1) := by decide +kernel
theorem dX0_mixBlock_163 : decode cX0_mixBlock 163 = .ok (.iaload, 1) := by decide +kernel
theorem dX0_mixBlock_164 : decode cX0_mixBlock 164 = .ok (.aload_n 0, 1) := by decide +kernel
theorem dX0_mixBlock_165 : decode cX0_mixBlock 165 = .ok (.getfield 15, 3) := by decide +kernel
theorem dX0_mixBlock_168 : decode cX0_mixBlock 168 = .ok (.iload_n 1, 1) := by decide +kernel
theorem dX0_mixBlock_169 : decode cX0_mixBlock 169 = .ok (.iaload, 1) := by decide +kernel
theorem dX0_mixBlock_170 : decode cX0_mixBlock 170 = .ok (.iadd, 1) := by decide +kernel
theorem dX0_mixBlock_171 : decode cX0_mixBlock 171 = .ok (.iastore, 1) := by decide +kernel
theorem dX0_mixBlock_172 : decode cX0_mixBlock 172 = .ok (.iinc 1 1, 3) := by decide +kernel
theorem dX0_mixBlock_175 : decode cX0_mixBlock 175 = .ok (.goto (-24), 3) := by decide +kernel
theorem dX0_mixBlock_178 : decode cX0_mixBlock 178 = .ok (.return_, 1) := by decide +kernel
theorem dX0_mixRound_0 : decode cX0_mixRound 0 = .ok (.aload_n 0, 1) := by decide +kernel
theorem dX0_mixRound_1 : decode cX0_mixRound 1 = .ok (.getfield 15, 3) := by decide +kernel
theorem dX0_mixRound_4 : decode cX0_mixRound 4 = .ok (.iconst 0, 1) := by decide +kernel
theorem dX0_mixRound_5 : decode cX0_mixRound 5 = .ok (.iaload, 1) := by decide +kernel
theorem dX0_mixRound_6 : decode cX0_mixRound 6 = .ok (.istore_n 2, 1) := by decide +kernel
theorem dX0_mixRound_7 : decode cX0_mixRound 7 = .ok (.aload_n 0, 1) := by decide +kernel
theorem dX0_mixRound_8 : decode cX0_mixRound 8 = .ok (.getfield 15, 3) := by decide +kernel
theorem dX0_mixRound_11 : decode cX0_mixRound 11 = .ok (.iconst 4, 1) := by decide +kernel
theorem dX0_mixRound_12 : decode cX0_mixRound 12 = .ok (.iaload, 1) := by decide +kernel
theorem dX0_mixRound_13 : decode cX0_mixRound 13 = .ok (.istore_n 3, 1) := by decide +kernel
theorem dX0_mixRound_14 : decode cX0_mixRound 14 = .ok (.iload_n 3, 1) := by decide +kernel
theorem dX0_mixRound_15 : decode cX0_mixRound 15 = .ok (.bipush 6, 2) := by decide +kernel
theorem dX0_mixRound_17 : decode cX0_mixRound 17 = .ok (.invokestatic 60, 3) := by decide +kernel
theorem dX0_mixRound_20 : decode cX0_mixRound 20 = .ok (.iload_n 3, 1) := by decide +kernel
theorem dX0_mixRound_21 : decode cX0_mixRound 21 = .ok (.bipush 11, 2) := by decide +kernel
theorem dX0_mixRound_23 : decode cX0_mixRound 23 = .ok (.invokestatic 60, 3) := by decide +kernel
theorem dX0_mixRound_26 : decode cX0_mixRound 26 = .ok (.ixor, 1) := by decide +kernel
theorem dX0_mixRound_27 : decode cX0_mixRound 27 = .ok (.iload_n 3, 1) := by decide +kernel
theorem dX0_mixRound_28 : decode cX0_mixRound 28 = .ok (.bipush 25, 2) := by decide +kernel
theorem dX0_mixRound_30 : decode cX0_mixRound 30 = .ok (.invokestatic 60, 3) := by decide +kernel
theorem dX0_mixRound_33 : decode cX0_mixRound 33 = .ok (.ixor, 1) := by decide +kernel
theorem dX0_mixRound_34 : decode cX0_mixRound 34 = .ok (.istore 4, 2) := by decide +kernel
theorem dX0_mixRound_36 : decode cX0_mixRound 36 = .ok (.iload_n 2, 1) := by decide +kernel
theorem dX0_mixRound_37 : decode cX0_mixRound 37 = .ok (.iconst 2, 1) := by decide +kernel
theorem dX0_mixRound_38 : decode cX0_mixRound 38 = .ok (.invokestatic 60, 3) := by decide +kernel
theorem dX0_mixRound_41 : decode cX0_mixRound 41 = .ok (.iload_n 2, 1) := by decide +kernel
theorem dX0_mixRound_42 : decode cX0_mixRound 42 = .ok (.bipush 13, 2) := by decide +kernel
theorem dX0_mixRound_44 : decode cX0_mixRound 44 = .ok (.invokestatic 60, 3) := by decide +kernel
theorem dX0_mixRound_47 : decode cX0_mixRound 47 = .ok (.ixor, 1) := by decide +kernel
theorem dX0_mixRound_48 : decode cX0_mixRound 48 = .ok (.iload_n 2, 1) := by decide +kernel
theorem dX0_mixRound_49 : decode cX0_mixRound 49 = .ok (.bipush 22, 2) := by decide +kernel
theorem dX0_mixRound_51 : decode cX0_mixRound 51 = .ok (.invokestatic 60, 3) := by decide +kernel
theorem dX0_mixRound_54 : decode cX0_mixRound 54 = .ok (.ixor, 1) := by decide +kernel
theorem dX0_mixRound_55 : decode cX0_mixRound 55 = .ok (.istore 5, 2) := by decide +kernel
theorem dX0_mixRound_57 : decode cX0_mixRound 57 = .ok (.iload_n 3, 1) := by decide +kernel
theorem dX0_mixRound_58 : decode cX0_mixRound 58 = .ok (.aload_n 0, 1) := by decide +kernel
theorem dX0_mixRound_59 : decode cX0_mixRound 59 = .ok (.getfield 15, 3) := by decide +kernel
theorem dX0_mixRound_62 : decode cX0_mixRound 62 = .ok (.iconst 5, 1) := by decide +kernel
theorem dX0_mixRound_63 : decode cX0_mixRound 63 = .ok (.iaload, 1) := by decide +kernel
theorem dX0_mixRound_64 : decode cX0_mixRound 64 = .ok (.iand, 1) := by decide +kernel
theorem dX0_mixRound_65 : decode cX0_mixRound 65 = .ok (.iload_n 3, 1) := by decide +kernel
theorem dX0_mixRound_66 : decode cX0_mixRound 66 = .ok (.iconst (-1), 1) := by decide +kernel
theorem dX0_mixRound_67 : decode cX0_mixRound 67 = .ok (.ixor, 1) := by decide +kernel
theorem dX0_mixRound_68 : decode cX0_mixRound 68 = .ok (.aload_n 0, 1) := by decide +kernel
theorem dX0_mixRound_69 : decode cX0_mixRound 69 = .ok (.getfield 15, 3) := by decide +kernel
theorem dX0_mixRound_72 : decode cX0_mixRound 72 = .ok (.bipush 6, 2) := by decide +kernel
theorem dX0_mixRound_74 : decode cX0_mixRound 74 = .ok (.iaload, 1) := by decide +kernel
theorem dX0_mixRound_75 : decode cX0_mixRound 75 = .ok (.iand, 1) := by decide +kernel
theorem dX0_mixRound_76 : decode cX0_mixRound 76 = .ok (.ixor, 1) := by decide +kernel
theorem dX0_mixRound_77 : decode cX0_mixRound 77 = .ok (.istore 6, 2) := by decide +kernel
theorem dX0_mixRound_79 : decode cX0_mixRound 79 = .ok (.iload_n 2, 1) := by decide +kernel
theorem dX0_mixRound_80 : decode cX0_mixRound 80 = .ok (.aload_n 0, 1) := by decide +kernel
theorem dX0_mixRound_81 : decode cX0_mixRound 81 = .ok (.getfield 15, 3) := by decide +kernel
theorem dX0_mixRound_84 : decode cX0_mixRound 84 = .ok (.iconst 1, 1) := by decide +kernel
theorem dX0_mixRound_85 : decode cX0_mixRound 85 = .ok (.iaload, 1) := by decide +kernel
theorem dX0_mixRound_86 : decode cX0_mixRound 86 = .ok (.iand, 1) := by decide +kernel
theorem dX0_mixRound_87 : decode cX0_mixRound 87 = .ok (.iload_n 2, 1) := by decide +kernel
theorem dX0_mixRound_88 : decode cX0_mixRound 88 = .ok (.aload_n 0, 1) := by decide +kernel
theorem dX0_mixRound_89 : decode cX0_mixRound 89 = .ok (.getfield 15, 3) := by decide +kernel
theorem dX0_mixRound_92 : decode cX0_mixRound 92 = .ok (.iconst 2, 1) := by decide +kernel
theorem dX0_mixRound_93 : decode cX0_mixRound 93 = .ok (.iaload, 1) := by decide +kernel
theorem dX0_mixRound_94 : decode cX0_mixRound 94 = .ok (.iand, 1) := by decide +kernel
theorem dX0_mixRound_95 : decode cX0_mixRound 95 = .ok (.ixor, 1) := by decide +kernel
theorem dX0_mixRound_96 : decode cX0_mixRound 96 = .ok (.aload_n 0, 1) := by decide +kernel
theorem dX0_mixRound_97 : decode cX0_mixRound 97 = .ok (.getfield 15, 3) := by decide +kernel
theorem dX0_mixRound_100 : decode cX0_mixRound 100 = .ok (.iconst 1, 1) := by decide +kernel
theorem dX0_mixRound_101 : decode cX0_mixRound 101 = .ok (.iaload, 1) := by decide +kernel
theorem dX0_mixRound_102 : decode cX0_mixRound 102 = .ok (.aload_n 0, 1) := by decide +kernel
theorem dX0_mixRound_103 : decode cX0_mixRound 103 = .ok (.getfield 15, 3) := by decide +kernel
theorem dX0_mixRound_106 : decode cX0_mixRound 106 = .ok (.iconst 2, 1) := by decide +kernel
theorem dX0_mixRound_107 : decode cX0_mixRound 107 = .ok (.iaload, 1) := by decide +kernel
theorem dX0_mixRound_108 : decode cX0_mixRound 108 = .ok (.iand, 1) := by decide +kernel
theorem dX0_mixRound_109 : decode cX0_mixRound 109 = .ok (.ixor, 1) := by decide +kernel
theorem dX0_mixRound_110 : decode cX0_mixRound 110 = .ok (.istore 7, 2) := by decide +kernel
theorem dX0_mixRound_112 : decode cX0_mixRound 112 = .ok (.aload_n 0, 1) := by decide +kernel
theorem dX0_mixRound_113 : decode cX0_mixRound 113 = .ok (.getfield 15, 3) := by decide +kernel
theorem dX0_mixRound_116 : decode cX0_mixRound 116 = .ok (.bipush 7, 2) := by decide +kernel
theorem dX0_mixRound_118 : decode cX0_mixRound 118 = .ok (.iaload, 1) := by decide +kernel
theorem dX0_mixRound_119 : decode cX0_mixRound 119 = .ok (.iload 4, 2) := by decide +kernel
theorem dX0_mixRound_121 : decode cX0_mixRound 121 = .ok (.iadd, 1) := by decide +kernel
theorem dX0_mixRound_122 : decode cX0_mixRound 122 = .ok (.iload 6, 2) := by decide +kernel
theorem dX0_mixRound_124 : decode cX0_mixRound 124 = .ok (.iadd, 1) := by decide +kernel
theorem dX0_mixRound_125 : decode cX0_mixRound 125 = .ok (.iload_n 1, 1) := by decide +kernel
theorem dX0_mixRound_126 : decode cX0_mixRound 126 = .ok (.iadd, 1) := by decide +kernel
theorem dX0_mixRound_127 : decode cX0_mixRound 127 = .ok (.istore 8, 2) := by decide +kernel
theorem dX0_mixRound_129 : decode cX0_mixRound 129 = .ok (.bipush 7, 2) := by decide +kernel
theorem dX0_mixRound_131 : decode cX0_mixRound 131 = .ok (.istore 9, 2) := by decide +kernel
theorem dX0_mixRound_133 : decode cX0_mixRound 133 = .ok (.iload 9, 2) := by decide +kernel
theorem dX0_mixRound_135 : decode cX0_mixRound 135 = .ok (.ifCond .le 25, 3) := by decide +kernel
theorem dX0_mixRound_138 : decode cX0_mixRound 138 = .ok (.aload_n 0, 1) := by decide +kernel
theorem dX0_mixRound_139 : decode cX0_mixRound 139 = .ok (.getfield 15, 3) := by decide +kernel
theorem dX0_mixRound_142 : decode cX0_mixRound 142 = .ok (.iload 9, 2) := by decide +kernel
theorem dX0_mixRound_144 : decode cX0_mixRound 144 = .ok (.aload_n 0, 1) := by decide +kernel
theorem dX0_mixRound_145 : decode cX0_mixRound 145 = .ok (.getfield 15, 3) := by decide +kernel
theorem dX0_mixRound_148 : decode cX0_mixRound 148 = .ok (.iload 9, 2) := by decide +kernel
theorem dX0_mixRound_150 : decode cX0_mixRound 150 = .ok (.iconst 1, 1) := by decide +kernel
theorem dX0_mixRound_151 : decode cX0_mixRound 151 = .ok (.isub, 1) := by decide +kernel
theorem dX0_mixRound_152 : decode cX0_mixRound 152 = .ok (.iaload, 1) := by decide +kernel
theorem dX0_mixRound_153 : decode cX0_mixRound 153 = .ok (.iastore, 1) := by decide +kernel
theorem dX0_mixRound_154 : decode cX0_mixRound 154 = .ok (.iinc 9 (-1), 3) := by decide +kernel
theorem dX0_mixRound_157 : decode cX0_mixRound 157 = .ok (.goto (-24), 3) := by decide +kernel
theorem dX0_mixRound_160 : decode cX0_mixRound 160 = .ok (.aload_n 0, 1) := by decide +kernel
theorem dX0_mixRound_161 : decode cX0_mixRound 161 = .ok (.getfield 15, 3) := by decide +kernel
theorem dX0_mixRound_164 : decode cX0_mixRound 164 = .ok (.iconst 4, 1) := by decide +kernel
theorem dX0_mixRound_165 : decode cX0_mixRound 165 = .ok (.dup2, 1) := by decide +kernel
theorem dX0_mixRound_166 : decode cX0_mixRound 166 = .ok (.iaload, 1) := by decide +kernel
theorem dX0_mixRound_167 : decode cX0_mixRound 167 = .ok (.iload 8, 2) := by decide +kernel
theorem dX0_mixRound_169 : decode cX0_mixRound 169 = .ok (.iadd, 1) := by decide +kernel
theorem dX0_mixRound_170 : decode cX0_mixRound 170 = .ok (.iastore, 1) := by decide +kernel
theorem dX0_mixRound_171 : decode cX0_mixRound 171 = .ok (.aload_n 0, 1) := by decide +kernel
theorem dX0_mixRound_172 : decode cX0_mixRound 172 = .ok (.getfield 15, 3) := by decide +kernel
theorem dX0_mixRound_175 : decode cX0_mixRound 175 = .ok (.iconst 0, 1) := by decide +kernel
theorem dX0_mixRound_176 : decode cX0_mixRound 176 = .ok (.iload 8, 2) := by decide +kernel
theorem dX0_mixRound_178 : decode cX0_mixRound 178 = .ok (.iload 5, 2) := by decide +kernel
theorem dX0_mixRound_180 : decode cX0_mixRound 180 = .ok (.iadd, 1) := by decide +kernel
theorem dX0_mixRound_181 : decode cX0_mixRound 181 = .ok (.iload 7, 2) := by decide +kernel
theorem dX0_mixRound_183 : decode cX0_mixRound 183 = .ok (.iadd, 1) := by decide +kernel
theorem dX0_mixRound_184 : decode cX0_mixRound 184 = .ok (.iastore, 1) := by decide +kernel
theorem dX0_mixRound_185 : decode cX0_mixRound 185 = .ok (.return_, 1) := by decide +kernel
theorem dX1_init_0 : decode cX1_init 0 = .ok (.aload_n 0, 1) := by decide +kernel
theorem dX1_init_1 : decode cX1_init 1 = .ok (.invokespecial 3, 3) := by decide +kernel
theorem dX1_init_4 : decode cX1_init 4 = .ok (.aload_n 0, 1) := by decide +kernel
theorem dX1_init_5 : decode cX1_init 5 = .ok (.aload_n 1, 1) := by decide +kernel
theorem dX1_init_6 : decode cX1_init 6 = .ok (.putfield 9, 3) := by decide +kernel
theorem dX1_init_9 : decode cX1_init 9 = .ok (.aload_n 0, 1) := by decide +kernel
theorem dX1_init_10 : decode cX1_init 10 = .ok (.aload_n 2, 1) := by decide +kernel
theorem dX1_init_11 : decode cX1_init 11 = .ok (.putfield 15, 3) := by decide +kernel
theorem dX1_init_14 : decode cX1_init 14 = .ok (.aload_n 0, 1) := by decide +kernel
theorem dX1_init_15 : decode cX1_init 15 = .ok (.sipush 1501, 3) := by decide +kernel
theorem dX1_init_18 : decode cX1_init 18 = .ok (.newarray .int, 2) := by decide +kernel
theorem dX1_init_20 : decode cX1_init 20 = .ok (.putfield 19, 3) := by decide +kernel
theorem dX1_init_23 : decode cX1_init 23 = .ok (.aload_n 0, 1) := by decide +kernel
theorem dX1_init_24 : decode cX1_init 24 = .ok (.sipush 1501, 3) := by decide +kernel
theorem dX1_init_27 : decode cX1_init 27 = .ok (.newarray .int, 2) := by decide +kernel
theorem dX1_init_29 : decode cX1_init 29 = .ok (.putfield 23, 3) := by decide +kernel
theorem dX1_init_32 : decode cX1_init 32 = .ok (.aload_n 0, 1) := by decide +kernel
theorem dX1_init_33 : decode cX1_init 33 = .ok (.sipush 1501, 3) := by decide +kernel
theorem dX1_init_36 : decode cX1_init 36 = .ok (.newarray .int, 2) := by decide +kernel
theorem dX1_init_38 : decode cX1_init 38 = .ok (.putfield 26, 3) := by decide +kernel
theorem dX1_init_41 : decode cX1_init 41 = .ok (.aload_n 0, 1) := by decide +kernel
theorem dX1_init_42 : decode cX1_init 42 = .ok (.sipush 1501, 3) := by decide +kernel
theorem dX1_init_45 : decode cX1_init 45 = .ok (.newarray .int, 2) := by decide +kernel
theorem dX1_init_47 : decode cX1_init 47 = .ok (.putfield 29, 3) := by decide +kernel
theorem dX1_init_50 : decode cX1_init 50 = .ok (.aload_n 0, 1) := by decide +kernel
theorem dX1_init_51 : decode cX1_init 51 = .ok (.sipush 1501, 3) := by decide +kernel
theorem dX1_init_54 : decode cX1_init 54 = .ok (.newarray .int, 2) := by decide +kernel
theorem dX1_init_56 : decode cX1_init 56 = .ok (.putfield 32, 3) := by decide +kernel
theorem dX1_init_59 : decode cX1_init 59 = .ok (.return_, 1) := by decide +kernel
theorem dX1_prepare_0 : decode cX1_prepare 0 = .ok (.aload_n 0, 1) := by decide +kernel
theorem dX1_prepare_1 : decode cX1_prepare 1 = .ok (.iload_n 1, 1) := by decide +kernel
theorem dX1_prepare_2 : decode cX1_prepare 2 = .ok (.putfield 35, 3) := by decide +kernel
theorem dX1_prepare_5 : decode cX1_prepare 5 = .ok (.aload_n 0, 1) := by decide +kernel
theorem dX1_prepare_6 : decode cX1_prepare 6 = .ok (.iload_n 2, 1) := by decide +kernel
theorem dX1_prepare_7 : decode cX1_prepare 7 = .ok (.putfield 39, 3) := by decide +kernel
theorem dX1_prepare_10 : decode cX1_prepare 10 = .ok (.aload_n 0, 1) := by decide +kernel
theorem dX1_prepare_11 : decode cX1_prepare 11 = .ok (.iload_n 3, 1) := by decide +kernel
theorem dX1_prepare_12 : decode cX1_prepare 12 = .ok (.sipush 1500, 3) := by decide +kernel
theorem dX1_prepare_15 : decode cX1_prepare 15 = .ok (.invokestatic 42, 3) := by decide +kernel
theorem dX1_prepare_18 : decode cX1_prepare 18 = .ok (.putfield 48, 3) := by decide +kernel
theorem dX1_prepare_21 : decode cX1_prepare 21 = .ok (.aload_n 0, 1) := by decide +kernel
theorem dX1_prepare_22 : decode cX1_prepare 22 = .ok (.iload 4, 2) := by decide +kernel
theorem dX1_prepare_24 : decode cX1_prepare 24 = .ok (.invokevirtual 51, 3) := by decide +kernel
theorem dX1_prepare_27 : decode cX1_prepare 27 = .ok (.iload 5, 2) := by decide +kernel
theorem dX1_prepare_29 : decode cX1_prepare 29 = .ok (.iconst 2, 1) := by decide +kernel
theorem dX1_prepare_30 : decode cX1_prepare 30 = .ok (.if_icmp .ne 7, 3) := by decide +kernel
theorem dX1_prepare_33 : decode cX1_prepare 33 = .ok (.aload_n 0, 1) := by decide +kernel
theorem dX1_prepare_34 : decode cX1_prepare 34 = .ok (.invokevirtual 55, 3) := by decide +kernel
theorem dX1_prepare_37 : decode cX1_prepare 37 = .ok (.return_, 1) := by decide +kernel
theorem dX1_findLongest_0 : decode cX1_findLongest 0 = .ok (.aload_n 0, 1) := by decide +kernel
theorem dX1_findLongest_1 : decode cX1_findLongest 1 = .ok (.getfield 9, 3) := by decide +kernel
theorem dX1_findLongest_4 : decode cX1_findLongest 4 = .ok (.getfield 58, 3) := by decide +kernel
theorem dX1_findLongest_7 : decode cX1_findLongest 7 = .ok (.astore_n 2, 1) := by decide +kernel
theorem dX1_findLongest_8 : decode cX1_findLongest 8 = .ok (.aload_n 0, 1) := by decide +kernel
theorem dX1_findLongest_9 : decode cX1_findLongest 9 = .ok (.getfield 26, 3) := by decide +kernel
theorem dX1_findLongest_12 : decode cX1_findLongest 12 = .ok (.iconst 0, 1) := by decide +kernel
theorem dX1_findLongest_13 : decode cX1_findLongest 13 = .ok (.invokestatic 63, 3) := by decide +kernel
theorem dX1_findLongest_16 : decode cX1_findLongest 16 = .ok (.aload_n 0, 1) := by decide +kernel
theorem dX1_findLongest_17 : decode cX1_findLongest 17 = .ok (.getfield 48, 3) := by decide +kernel
theorem dX1_findLongest_20 : decode cX1_findLongest 20 = .ok (.aload_n 2, 1) := by decide +kernel
theorem dX1_findLongest_21 : decode cX1_findLongest 21 = .ok (.arraylength, 1) := by decide +kernel
theorem dX1_findLongest_22 : decode cX1_findLongest 22 = .ok (.invokestatic 42, 3) := by decide +kernel
theorem dX1_findLongest_25 : decode cX1_findLongest 25 = .ok (.iconst 1, 1) := by decide +kernel
theorem dX1_findLongest_26 : decode cX1_findLongest 26 = .ok (.isub, 1) := by decide +kernel
theorem dX1_findLongest_27 : decode cX1_findLongest 27 = .ok (.istore_n 3, 1) := by decide +kernel
theorem dX1_findLongest_28 : decode cX1_findLongest 28 = .ok (.iload_n 3, 1) := by decide +kernel
theorem dX1_findLongest_29 : decode cX1_findLongest 29 = .ok (.aload_n 0, 1) := by decide +kernel
theorem dX1_findLongest_30 : decode cX1_findLongest 30 = .ok (.getfield 39, 3) := by decide +kernel
theorem dX1_findLongest_33 : decode cX1_findLongest 33 = .ok (.if_icmp .lt 140, 3) := by decide +kernel
theorem dX1_findLongest_36 : decode cX1_findLongest 36 = .ok (.iload_n 1, 1) := by decide +kernel
theorem dX1_findLongest_37 : decode cX1_findLongest 37 = .ok (.iload_n 3, 1) := by decide +kernel
theorem dX1_findLongest_38 : decode cX1_findLongest 38 = .ok (.aload_n 0, 1) := by decide +kernel
theorem dX1_findLongest_39 : decode cX1_findLongest 39 = .ok (.getfield 35, 3) := by decide +kernel
theorem dX1_findLongest_42 : decode cX1_findLongest 42 = .ok (.isub, 1) := by decide +kernel
theorem dX1_findLongest_43 : decode cX1_findLongest 43 = .ok (.invokestatic 42, 3) := by decide +kernel
theorem dX1_findLongest_46 : decode cX1_findLongest 46 = .ok (.sipush 1500, 3) := by decide +kernel
theorem dX1_findLongest_49 : decode cX1_findLongest 49 = .ok (.invokestatic 42, 3) := by decide +kernel
theorem dX1_findLongest_52 : decode cX1_findLongest 52 = .ok (.istore 4, 2) := by decide +kernel
theorem dX1_findLongest_54 : decode cX1_findLongest 54 = .ok (.iconst 0, 1) := by decide +kernel
theorem dX1_findLongest_55 : decode cX1_findLongest 55 = .ok (.istore 5, 2) := by decide +kernel
theorem dX1_findLongest_57 : decode cX1_findLongest 57 = .ok (.iconst 0, 1) := by decide +kernel
theorem dX1_findLongest_58 : decode cX1_findLongest 58 = .ok (.istore 6, 2) := by decide +kernel
theorem dX1_findLongest_60 : decode cX1_findLongest 60 = .ok (.iconst 1, 1) := by decide +kernel
theorem dX1_findLongest_61 : decode cX1_findLongest 61 = .ok (.istore 7, 2) := by decide +kernel
theorem dX1_findLongest_63 : decode cX1_findLongest 63 = .ok (.iload 7, 2) := by decide +kernel
theorem dX1_findLongest_65 : decode cX1_findLongest 65 = .ok (.iload 4, 2) := by decide +kernel
theorem dX1_findLongest_67 : decode cX1_findLongest 67 = .ok (.if_icmp .gt 74, 3) := by decide +kernel
theorem dX1_findLongest_70 : decode cX1_findLongest 70 = .ok (.aload_n 2, 1) := by decide +kernel
theorem dX1_findLongest_71 : decode cX1_findLongest 71 = .ok (.iload_n 3, 1) := by decide +kernel
theorem dX1_findLongest_72 : decode cX1_findLongest 72 = .ok (.iaload, 1) := by decide +kernel
theorem dX1_findLongest_73 : decode cX1_findLongest 73 = .ok (.aload_n 2, 1) := by decide +kernel
theorem dX1_findLongest_74 : decode cX1_findLongest 74 = .ok (.iload_n 3, 1) := by decide +kernel
theorem dX1_findLongest_75 : decode cX1_findLongest 75 = .ok (.iload 7, 2) := by decide +kernel
theorem dX1_findLongest_77 : decode cX1_findLongest 77 = .ok (.isub, 1) := by decide +kernel
theorem dX1_findLongest_78 : decode cX1_findLongest 78 = .ok (.iaload, 1) := by decide +kernel
theorem dX1_findLongest_79 : decode cX1_findLongest 79 = .ok (.if_icmp .ne 15, 3) := by decide +kernel
theorem dX1_findLongest_82 : decode cX1_findLongest 82 = .ok (.aload_n 0, 1) := by decide +kernel
theorem dX1_findLongest_83 : decode cX1_findLongest 83 = .ok (.getfield 26, 3) := by decide +kernel
theorem dX1_findLongest_86 : decode cX1_findLongest 86 = .ok (.iload 7, 2) := by decide +kernel
theorem dX1_findLongest_88 : decode cX1_findLongest 88 = .ok (.iaload, 1) := by decide +kernel
theorem dX1_findLongest_89 : decode cX1_findLongest 89 = .ok (.iconst 1, 1) := by decide +kernel
theorem dX1_findLongest_90 : decode cX1_findLongest 90 = .ok (.iadd, 1) := by decide +kernel
theorem dX1_findLongest_91 : decode cX1_findLongest 91 = .ok (.goto 4, 3) := by decide +kernel
theorem dX1_findLongest_94 : decode cX1_findLongest 94 = .ok (.iconst 0, 1) := by decide +kernel
theorem dX1_findLongest_95 : decode cX1_findLongest 95 = .ok (.istore 8, 2) := by decide +kernel
theorem dX1_findLongest_97 : decode cX1_findLongest 97 = .ok (.aload_n 0, 1) := by decide +kernel
theorem dX1_findLongest_98 : decode cX1_findLongest 98 = .ok (.getfield 26, 3) := by decide +kernel
theorem dX1_findLongest_101 : decode cX1_findLongest 101 = .ok (.iload 7, 2) := by decide +kernel
theorem dX1_findLongest_103 : decode cX1_findLongest 103 = .ok (.iload 8, 2) := by decide +kernel
theorem dX1_findLongest_105 : decode cX1_findLongest 105 = .ok (.iastore, 1) := by decide +kernel
theorem dX1_findLongest_106 : decode cX1_findLongest 106 = .ok (.iload 8, 2) := by decide +kernel
theorem dX1_findLongest_108 : decode cX1_findLongest 108 = .ok (.iload 5, 2) := by decide +kernel
theorem dX1_findLongest_110 : decode cX1_findLongest 110 = .ok (.if_icmp .le 25, 3) := by decide +kernel
theorem dX1_findLongest_113 : decode cX1_findLongest 113 = .ok (.iload 5, 2) := by decide +kernel
theorem dX1_findLongest_115 : decode cX1_findLongest 115 = .ok (.sipush 273, 3) := by decide +kernel
theorem dX1_findLongest_118 : decode cX1_findLongest 118 = .ok (.if_icmp .ge 17, 3) := by decide +kernel
theorem dX1_findLongest_121 : decode cX1_findLongest 121 = .ok (.iload 8, 2) := by decide +kernel
theorem dX1_findLongest_123 : decode cX1_findLongest 123 = .ok (.sipush 273, 3) := by decide +kernel
theorem dX1_findLongest_126 : decode cX1_findLongest 126 = .ok (.invokestatic 42, 3) := by decide +kernel
theorem dX1_findLongest_129 : decode cX1_findLongest 129 = .ok (.istore 5, 2) := by decide +kernel
theorem dX1_findLongest_131 : decode cX1_findLongest 131 = .ok (.iload 7, 2) := by decide +kernel
theorem dX1_findLongest_133 : decode cX1_findLongest 133 = .ok (.istore 6, 2) := by decide +kernel
theorem dX1_findLongest_135 : decode cX1_findLongest 135 = .ok (.iinc 7 1, 3) := by decide +kernel
theorem dX1_findLongest_138 : decode cX1_findLongest 138 = .ok (.goto (-75), 3) := by decide +kernel
theorem dX1_findLongest_141 : decode cX1_findLongest 141 = .ok (.aload_n 0, 1) := by decide +kernel
theorem dX1_findLongest_142 : decode cX1_findLongest 142 = .ok (.getfield 19, 3) := by decide +kernel
theorem dX1_findLongest_145 : decode cX1_findLongest 145 = .ok (.iload_n 3, 1) := by decide +kernel
theorem dX1_findLongest_146 : decode cX1_findLongest 146 = .ok (.aload_n 0, 1) := by decide +kernel
theorem dX1_findLongest_147 : decode cX1_findLongest 147 = .ok (.getfield 39, 3) := by decide +kernel
theorem dX1_findLongest_150 : decode cX1_findLongest 150 = .ok (.isub, 1) := by decide +kernel
theorem dX1_findLongest_151 : decode cX1_findLongest 151 = .ok (.iload 5, 2) := by decide +kernel
theorem dX1_findLongest_153 : decode cX1_findLongest 153 = .ok (.iastore, 1) := by decide +kernel
theorem dX1_findLongest_154 : decode cX1_findLongest 154 = .ok (.aload_n 0, 1) := by decide +kernel
theorem dX1_findLongest_155 : decode cX1_findLongest 155 = .ok (.getfield 23, 3) := by decide +kernel
theorem dX1_findLongest_158 : decode cX1_findLongest 158 = .ok (.iload_n 3, 1) := by decide +kernel
theorem dX1_findLongest_159 : decode cX1_findLongest 159 = .ok (.aload_n 0, 1) := by decide +kernel
theorem dX1_findLongest_160 : decode cX1_findLongest 160 = .ok (.getfield 39, 3) := by decide +kernel
theorem dX1_findLongest_163 : decode cX1_findLongest 163 = .ok (.isub, 1) := by decide +kernel
theorem dX1_findLongest_164 : decode cX1_findLongest 164 = .ok (.iload 6, 2) := by decide +kernel
theorem dX1_findLongest_166 : decode cX1_findLongest 166 = .ok (.iastore, 1) := by decide +kernel
theorem dX1_findLongest_167 : decode cX1_findLongest 167 = .ok (.iinc 3 (-1), 3) := by decide +kernel
theorem dX1_findLongest_170 : decode cX1_findLongest 170 = .ok (.goto (-142), 3) := by decide +kernel
theorem dX1_findLongest_173 : decode cX1_findLongest 173 = .ok (.return_, 1) := by decide +kernel
theorem dX1_weigh_0 : decode cX1_weigh 0 = .ok (.aload_n 0, 1) := by decide +kernel
theorem dX1_weigh_1 : decode cX1_weigh 1 = .ok (.getfield 48, 3) := by decide +kernel
theorem dX1_weigh_4 : decode cX1_weigh 4 = .ok (.aload_n 0, 1) := by decide +kernel
theorem dX1_weigh_5 : decode cX1_weigh 5 = .ok (.getfield 39, 3) := by decide +kernel
theorem dX1_weigh_8 : decode cX1_weigh 8 = .ok (.isub, 1) := by decide +kernel
theorem dX1_weigh_9 : decode cX1_weigh 9 = .ok (.istore_n 1, 1) := by decide +kernel
theorem dX1_weigh_10 : decode cX1_weigh 10 = .ok (.aload_n 0, 1) := by decide +kernel
theorem dX1_weigh_11 : decode cX1_weigh 11 = .ok (.getfield 29, 3) := by decide +kernel
theorem dX1_weigh_14 : decode cX1_weigh 14 = .ok (.iload_n 1, 1) := by decide +kernel
theorem dX1_weigh_15 : decode cX1_weigh 15 = .ok (.iconst 0, 1) := by decide +kernel
theorem dX1_weigh_16 : decode cX1_weigh 16 = .ok (.iastore, 1) := by decide +kernel
theorem dX1_weigh_17 : decode cX1_weigh 17 = .ok (.iload_n 1, 1) := by decide +kernel
theorem dX1_weigh_18 : decode cX1_weigh 18 = .ok (.iconst 1, 1) := by decide +kernel
theorem dX1_weigh_19 : decode cX1_weigh 19 = .ok (.isub, 1) := by decide +kernel
theorem dX1_weigh_20 : decode cX1_weigh 20 = .ok (.istore_n 2, 1) := by decide +kernel
theorem dX1_weigh_21 : decode cX1_weigh 21 = .ok (.iload_n 2, 1) := by decide +kernel
theorem dX1_weigh_22 : decode cX1_weigh 22 = .ok (.ifCond .lt 137, 3) := by decide +kernel
theorem dX1_weigh_25 : decode cX1_weigh 25 = .ok (.bipush 9, 2) := by decide +kernel
theorem dX1_weigh_27 : decode cX1_weigh 27 = .ok (.aload_n 0, 1) := by decide +kernel
theorem dX1_weigh_28 : decode cX1_weigh 28 = .ok (.getfield 29, 3) := by decide +kernel
theorem dX1_weigh_31 : decode cX1_weigh 31 = .ok (.iload_n 2, 1) := by decide +kernel
theorem dX1_weigh_32 : decode cX1_weigh 32 = .ok (.iconst 1, 1) := by decide +kernel
theorem dX1_weigh_33 : decode cX1_weigh 33 = .ok (.iadd, 1) := by decide +kernel
theorem dX1_weigh_34 : decode cX1_weigh 34 = .ok (.iaload, 1) := by decide +kernel
theorem dX1_weigh_35 : decode cX1_weigh 35 = .ok (.iadd, 1) := by decide +kernel
theorem dX1_weigh_36 : decode cX1_weigh 36 = .ok (.istore_n 3, 1) := by decide +kernel
theorem dX1_weigh_37 : decode cX1_weigh 37 = .ok (.iconst 1, 1) := by decide +kernel
theorem dX1_weigh_38 : decode cX1_weigh 38 = .ok (.istore 4, 2) := by decide +kernel
theorem dX1_weigh_40 : decode cX1_weigh 40 = .ok (.bipush 32, 2) := by decide +kernel
theorem dX1_weigh_42 : decode cX1_weigh 42 = .ok (.aload_n 0, 1) := by decide +kernel
theorem dX1_weigh_43 : decode cX1_weigh 43 = .ok (.getfield 23, 3) := by decide +kernel
theorem dX1_weigh_46 : decode cX1_weigh 46 = .ok (.iload_n 2, 1) := by decide +kernel
theorem dX1_weigh_47 : decode cX1_weigh 47 = .ok (.iaload, 1) := by decide +kernel
theorem dX1_weigh_48 : decode cX1_weigh 48 = .ok (.invokestatic 69, 3) := by decide +kernel
theorem dX1_weigh_51 : decode cX1_weigh 51 = .ok (.isub, 1) := by decide +kernel
theorem dX1_weigh_52 : decode cX1_weigh 52 = .ok (.istore 5, 2) := by decide +kernel
theorem dX1_weigh_54 : decode cX1_weigh 54 = .ok (.iconst 2, 1) := by decide +kernel
theorem dX1_weigh_55 : decode cX1_weigh 55 = .ok (.istore 6, 2) := by decide +kernel
theorem dX1_weigh_57 : decode cX1_weigh 57 = .ok (.iload 6, 2) := by decide +kernel
theorem dX1_weigh_59 : decode cX1_weigh 59 = .ok (.aload_n 0, 1) := by decide +kernel
theorem dX1_weigh_60 : decode cX1_weigh 60 = .ok (.getfield 19, 3) := by decide +kernel
theorem dX1_weigh_63 : decode cX1_weigh 63 = .ok (.iload_n 2, 1) := by decide +kernel
theorem dX1_weigh_64 : decode cX1_weigh 64 = .ok (.iaload, 1) := by decide +kernel
theorem dX1_weigh_65 : decode cX1_weigh 65 = .ok (.if_icmp .gt 73, 3) := by decide +kernel
theorem dX1_weigh_68 : decode cX1_weigh 68 = .ok (.iload_n 2, 1) := by decide +kernel
theorem dX1_weigh_69 : decode cX1_weigh 69 = .ok (.iload 6, 2) := by decide +kernel
theorem dX1_weigh_71 : decode cX1_weigh 71 = .ok (.iadd, 1) := by decide +kernel
theorem dX1_weigh_72 : decode cX1_weigh 72 = .ok (.iload_n 1, 1) := by decide +kernel
theorem dX1_weigh_73 : decode cX1_weigh 73 = .ok (.if_icmp .gt 65, 3) := by decide +kernel
theorem dX1_weigh_76 : decode cX1_weigh 76 = .ok (.bipush 7, 2) := by decide +kernel
theorem dX1_weigh_78 : decode cX1_weigh 78 = .ok (.iload 6, 2) := by decide +kernel
theorem dX1_weigh_80 : decode cX1_weigh 80 = .ok (.bipush 9, 2) := by decide +kernel
theorem dX1_weigh_82 : decode cX1_weigh 82 = .ok (.if_icmp .le 7, 3) := by decide +kernel
theorem dX1_weigh_85 : decode cX1_weigh 85 = .ok (.iconst 3, 1) := by decide +kernel
theorem dX1_weigh_86 : decode cX1_weigh 86 = .ok (.goto 4, 3) := by decide +kernel
theorem dX1_weigh_89 : decode cX1_weigh 89 = .ok (.iconst 0, 1) := by decide +kernel
theorem dX1_weigh_90 : decode cX1_weigh 90 = .ok (.iadd, 1) := by decide +kernel
theorem dX1_weigh_91 : decode cX1_weigh 91 = .ok (.iload 6, 2) := by decide +kernel
theorem dX1_weigh_93 : decode cX1_weigh 93 = .ok (.bipush 17, 2) := by decide +kernel
theorem dX1_weigh_95 : decode cX1_weigh 95 = .ok (.if_icmp .le 7, 3) := by decide +kernel
theorem dX1_weigh_98 : decode cX1_weigh 98 = .ok (.iconst 5, 1) := by decide +kernel
theorem dX1_weigh_99 : decode cX1_weigh 99 = .ok (.goto 4, 3) := by decide +kernel
theorem dX1_weigh_102 : decode cX1_weigh 102 = .ok (.iconst 0, 1) := by decide +kernel
theorem dX1_weigh_103 : decode cX1_weigh 103 = .ok (.iadd, 1) := by decide +kernel
theorem dX1_weigh_104 : decode cX1_weigh 104 = .ok (.iload 5, 2) := by decide +kernel
theorem dX1_weigh_106 : decode cX1_weigh 106 = .ok (.iadd, 1) := by decide +kernel
theorem dX1_weigh_107 : decode cX1_weigh 107 = .ok (.aload_n 0, 1) := by decide +kernel
theorem dX1_weigh_108 : decode cX1_weigh 108 = .ok (.getfield 29, 3) := by decide +kernel
theorem dX1_weigh_111 : decode cX1_weigh 111 = .ok (.iload_n 2, 1) := by decide +kernel
theorem dX1_weigh_112 : decode cX1_weigh 112 = .ok (.iload 6, 2) := by decide +kernel
theorem dX1_weigh_114 : decode cX1_weigh 114 = .ok (.iadd, 1) := by decide +kernel
theorem dX1_weigh_115 : decode cX1_weigh 115 = .ok (.iaload, 1) := by decide +kernel
theorem dX1_weigh_116 : decode cX1_weigh 116 = .ok (.iadd, 1) := by decide +kernel
theorem dX1_weigh_117 : decode cX1_weigh 117 = .ok (.istore 7, 2) := by decide +kernel
theorem dX1_weigh_119 : decode cX1_weigh 119 = .ok (.iload 7, 2) := by decide +kernel
theorem dX1_weigh_121 : decode cX1_weigh 121 = .ok (.iload_n 3, 1) := by decide +kernel
theorem dX1_weigh_122 : decode cX1_weigh 122 = .ok (.if_icmp .gt 10, 3) := by decide +kernel
theorem dX1_weigh_125 : decode cX1_weigh 125 = .ok (.iload 7, 2) := by decide +kernel
theorem dX1_weigh_127 : decode cX1_weigh 127 = .ok (.istore_n 3, 1) := by decide +kernel
theorem dX1_weigh_128 : decode cX1_weigh 128 = .ok (.iload 6, 2) := by decide +kernel
theorem dX1_weigh_130 : decode cX1_weigh 130 = .ok (.istore 4, 2) := by decide +kernel
theorem dX1_weigh_132 : decode cX1_weigh 132 = .ok (.iinc 6 1, 3) := by decide +kernel
theorem dX1_weigh_135 : decode cX1_weigh 135 = .ok (.goto (-78), 3) := by decide +kernel
theorem dX1_weigh_138 : decode cX1_weigh 138 = .ok (.aload_n 0, 1) := by decide +kernel
theorem dX1_weigh_139 : decode cX1_weigh 139 = .ok (.getfield 29, 3) := by decide +kernel
theorem dX1_weigh_142 : decode cX1_weigh 142 = .ok (.iload_n 2, 1) := by decide +kernel
theorem dX1_weigh_143 : decode cX1_weigh 143 = .ok (.iload_n 3, 1) := by decide +kernel
theorem dX1_weigh_144 : decode cX1_weigh 144 = .ok (.iastore, 1) := by decide +kernel
theorem dX1_weigh_145 : decode cX1_weigh 145 = .ok (.aload_n 0, 1) := by decide +kernel
theorem dX1_weigh_146 : decode cX1_weigh 146 = .ok (.getfield 32, 3) := by decide +kernel
theorem dX1_weigh_149 : decode cX1_weigh 149 = .ok (.iload_n 2, 1) := by decide +kernel
theorem dX1_weigh_150 : decode cX1_weigh 150 = .ok (.iload 4, 2) := by decide +kernel
theorem dX1_weigh_152 : decode cX1_weigh 152 = .ok (.iastore, 1) := by decide +kernel
theorem dX1_weigh_153 : decode cX1_weigh 153 = .ok (.iinc 2 (-1), 3) := by decide +kernel
theorem dX1_weigh_156 : decode cX1_weigh 156 = .ok (.goto (-135), 3) := by decide +kernel
theorem dX1_weigh_159 : decode cX1_weigh 159 = .ok (.return_, 1) := by decide +kernel
theorem dX2_init_0 : decode cX2_init 0 = .ok (.aload_n 0, 1) := by decide +kernel
theorem dX2_init_1 : decode cX2_init 1 = .ok (.invokespecial 1, 3) := by decide +kernel
theorem dX2_init_4 : decode cX2_init 4 = .ok (.aload_n 0, 1) := by decide +kernel
theorem dX2_init_5 : decode cX2_init 5 = .ok (.aload_n 1, 1) := by decide +kernel
theorem dX2_init_6 : decode cX2_init 6 = .ok (.putfield 7, 3) := by decide +kernel
theorem dX2_init_9 : decode cX2_init 9 = .ok (.aload_n 0, 1) := by decide +kernel
theorem dX2_init_10 : decode cX2_init 10 = .ok (.aload_n 2, 1) := by decide +kernel
theorem dX2_init_11 : decode cX2_init 11 = .ok (.putfield 13, 3) := by decide +kernel
theorem dX2_init_14 : decode cX2_init 14 = .ok (.aload_n 0, 1) := by decide +kernel
theorem dX2_init_15 : decode cX2_init 15 = .ok (.sipush 14340, 3) := by decide +kernel
theorem dX2_init_18 : decode cX2_init 18 = .ok (.newarray .int, 2) := by decide +kernel
theorem dX2_init_20 : decode cX2_init 20 = .ok (.putfield 19, 3) := by decide +kernel
theorem dX2_init_23 : decode cX2_init 23 = .ok (.return_, 1) := by decide +kernel
theorem dX2_beginPacking_0 : decode cX2_beginPacking 0 = .ok (.aload_n 0, 1) := by decide +kernel
theorem dX2_beginPacking_1 : decode cX2_beginPacking 1 = .ok (.iconst 0, 1) := by decide +kernel
theorem dX2_beginPacking_2 : decode cX2_beginPacking 2 = .ok (.putfield 23, 3) := by decide +kernel
theorem dX2_beginPacking_5 : decode cX2_beginPacking 5 = .ok (.aload_n 0, 1) := by decide +kernel
theorem dX2_beginPacking_6 : decode cX2_beginPacking 6 = .ok (.lconst 0, 1) := by decide +kernel
theorem dX2_beginPacking_7 : decode cX2_beginPacking 7 = .ok (.putfield 27, 3) := by decide +kernel
theorem dX2_beginPacking_10 : decode cX2_beginPacking 10 = .ok (.aload_n 0, 1) := by decide +kernel
theorem dX2_beginPacking_11 : decode cX2_beginPacking 11 = .ok (.ldc2_w 31, 3) := by decide +kernel
theorem dX2_beginPacking_14 : decode cX2_beginPacking 14 = .ok (.putfield 33, 3) := by decide +kernel
theorem dX2_beginPacking_17 : decode cX2_beginPacking 17 = .ok (.aload_n 0, 1) := by decide +kernel
theorem dX2_beginPacking_18 : decode cX2_beginPacking 18 = .ok (.iconst 0, 1) := by decide +kernel
theorem dX2_beginPacking_19 : decode cX2_beginPacking 19 = .ok (.putfield 36, 3) := by decide +kernel
theorem dX2_beginPacking_22 : decode cX2_beginPacking 22 = .ok (.aload_n 0, 1) := by decide +kernel
theorem dX2_beginPacking_23 : decode cX2_beginPacking 23 = .ok (.iconst 1, 1) := by decide +kernel
theorem dX2_beginPacking_24 : decode cX2_beginPacking 24 = .ok (.putfield 40, 3) := by decide +kernel
theorem dX2_beginPacking_27 : decode cX2_beginPacking 27 = .ok (.return_, 1) := by decide +kernel
theorem dX2_shift_0 : decode cX2_shift 0 = .ok (.aload_n 0, 1) := by decide +kernel
theorem dX2_shift_1 : decode cX2_shift 1 = .ok (.getfield 27, 3) := by decide +kernel
theorem dX2_shift_4 : decode cX2_shift 4 = .ok (.ldc2_w 77, 3) := by decide +kernel
theorem dX2_shift_7 : decode cX2_shift 7 = .ok (.lcmp, 1) := by decide +kernel
theorem dX2_shift_8 : decode cX2_shift 8 = .ok (.ifCond .lt 14, 3) := by decide +kernel
theorem dX2_shift_11 : decode cX2_shift 11 = .ok (.aload_n 0, 1) := by decide +kernel
theorem dX2_shift_12 : decode cX2_shift 12 = .ok (.getfield 27, 3) := by decide +kernel
theorem dX2_shift_15 : decode cX2_shift 15 = .ok (.ldc2_w 79, 3) := by decide +kernel
theorem dX2_shift_18 : decode cX2_shift 18 = .ok (.lcmp, 1) := by decide +kernel
theorem dX2_shift_19 : decode cX2_shift 19 = .ok (.ifCond .lt 135, 3) := by decide +kernel
theorem dX2_shift_22 : decode cX2_shift 22 = .ok (.aload_n 0, 1) := by decide +kernel
theorem dX2_shift_23 : decode cX2_shift 23 = .ok (.getfield 27, 3) := by decide +kernel
theorem dX2_shift_26 : decode cX2_shift 26 = .ok (.ldc2_w 79, 3) := by decide +kernel
theorem dX2_shift_29 : decode cX2_shift 29 = .ok (.lcmp, 1) := by decide +kernel
theorem dX2_shift_30 : decode cX2_shift 30 = .ok (.ifCond .lt 7, 3) := by decide +kernel
theorem dX2_shift_33 : decode cX2_shift 33 = .ok (.iconst 1, 1) := by decide +kernel
theorem dX2_shift_34 : decode cX2_shift 34 = .ok (.goto 4, 3) := by decide +kernel
theorem dX2_shift_37 : decode cX2_shift 37 = .ok (.iconst 0, 1) := by decide +kernel
theorem dX2_shift_38 : decode cX2_shift 38 = .ok (.istore_n 1, 1) := by decide +kernel
theorem dX2_shift_39 : decode cX2_shift 39 = .ok (.iconst 0, 1) := by decide +kernel
theorem dX2_shift_40 : decode cX2_shift 40 = .ok (.istore_n 2, 1) := by decide +kernel
theorem dX2_shift_41 : decode cX2_shift 41 = .ok (.iload_n 2, 1) := by decide +kernel
theorem dX2_shift_42 : decode cX2_shift 42 = .ok (.aload_n 0, 1) := by decide +kernel
theorem dX2_shift_43 : decode cX2_shift 43 = .ok (.getfield 40, 3) := by decide +kernel
theorem dX2_shift_46 : decode cX2_shift 46 = .ok (.if_icmp .ge 87, 3) := by decide +kernel
theorem dX2_shift_49 : decode cX2_shift 49 = .ok (.iload_n 2, 1) := by decide +kernel
theorem dX2_shift_50 : decode cX2_shift 50 = .ok (.ifCond .ne 10, 3) := by decide +kernel
theorem dX2_shift_53 : decode cX2_shift 53 = .ok (.aload_n 0, 1) := by decide +kernel
theorem dX2_shift_54 : decode cX2_shift 54 = .ok (.getfield 36, 3) := by decide +kernel
theorem dX2_shift_57 : decode cX2_shift 57 = .ok (.goto 6, 3) := by decide +kernel
theorem dX2_shift_60 : decode cX2_shift 60 = .ok (.sipush 255, 3) := by decide +kernel
theorem dX2_shift_63 : decode cX2_shift 63 = .ok (.iload_n 1, 1) := by decide +kernel
theorem dX2_shift_64 : decode cX2_shift 64 = .ok (.iadd, 1) := by decide +kernel
theorem dX2_shift_65 : decode cX2_shift 65 = .ok (.sipush 255, 3) := by decide +kernel
theorem dX2_shift_68 : decode cX2_shift 68 = .ok (.iand, 1) := by decide +kernel
theorem dX2_shift_69 : decode cX2_shift 69 = .ok (.istore_n 3, 1) := by decide +kernel
theorem dX2_shift_70 : decode cX2_shift 70 = .ok (.aload_n 0, 1) := by decide +kernel
theorem dX2_shift_71 : decode cX2_shift 71 = .ok (.getfield 13, 3) := by decide +kernel
theorem dX2_shift_74 : decode cX2_shift 74 = .ok (.getfield 81, 3) := by decide +kernel
theorem dX2_shift_77 : decode cX2_shift 77 = .ok (.ifCond .lt 37, 3) := by decide +kernel
theorem dX2_shift_80 : decode cX2_shift 80 = .ok (.aload_n 0, 1) := by decide +kernel
theorem dX2_shift_81 : decode cX2_shift 81 = .ok (.getfield 13, 3) := by decide +kernel
theorem dX2_shift_84 : decode cX2_shift 84 = .ok (.getfield 81, 3) := by decide +kernel
theorem dX2_shift_87 : decode cX2_shift 87 = .ok (.aload_n 0, 1) := by decide +kernel
theorem dX2_shift_88 : decode cX2_shift 88 = .ok (.getfield 13, 3) := by decide +kernel
theorem dX2_shift_91 : decode cX2_shift 91 = .ok (.getfield 86, 3) := by decide +kernel
theorem dX2_shift_94 : decode cX2_shift 94 = .ok (.arraylength, 1) := by decide +kernel
theorem dX2_shift_95 : decode cX2_shift 95 = .ok (.if_icmp .ge 19, 3) := by decide +kernel
theorem dX2_shift_98 : decode cX2_shift 98 = .ok (.aload_n 0, 1) := by decide +kernel
theorem dX2_shift_99 : decode cX2_shift 99 = .ok (.getfield 13, 3) := by decide +kernel
theorem dX2_shift_102 : decode cX2_shift 102 = .ok (.getfield 86, 3) := by decide +kernel
theorem dX2_shift_105 : decode cX2_shift 105 = .ok (.aload_n 0, 1) := by decide +kernel
theorem dX2_shift_106 : decode cX2_shift 106 = .ok (.getfield 13, 3) := by decide +kernel
theorem dX2_shift_109 : decode cX2_shift 109 = .ok (.getfield 81, 3) := by decide +kernel
theorem dX2_shift_112 : decode cX2_shift 112 = .ok (.iload_n 3, 1) := by decide +kernel
theorem dX2_shift_113 : decode cX2_shift 113 = .ok (.iastore, 1) := by decide +kernel
theorem dX2_shift_114 : decode cX2_shift 114 = .ok (.aload_n 0, 1) := by decide +kernel
theorem dX2_shift_115 : decode cX2_shift 115 = .ok (.getfield 13, 3) := by decide +kernel
theorem dX2_shift_118 : decode cX2_shift 118 = .ok (.dup, 1) := by decide +kernel
theorem dX2_shift_119 : decode cX2_shift 119 = .ok (.getfield 81, 3) := by decide +kernel
theorem dX2_shift_122 : decode cX2_shift 122 = .ok (.iconst 1, 1) := by decide +kernel
theorem dX2_shift_123 : decode cX2_shift 123 = .ok (.iadd, 1) := by decide +kernel
theorem dX2_shift_124 : decode cX2_shift 124 = .ok (.putfield 81, 3) := by decide +kernel
theorem dX2_shift_127 : decode cX2_shift 127 = .ok (.iinc 2 1, 3) := by decide +kernel
theorem dX2_shift_130 : decode cX2_shift 130 = .ok (.goto (-89), 3) := by decide +kernel
theorem dX2_shift_133 : decode cX2_shift 133 = .ok (.aload_n 0, 1) := by decide +kernel
theorem dX2_shift_134 : decode cX2_shift 134 = .ok (.iconst 0, 1) := by decide +kernel
theorem dX2_shift_135 : decode cX2_shift 135 = .ok (.putfield 40, 3) := by decide +kernel
theorem dX2_shift_138 : decode cX2_shift 138 = .ok (.aload_n 0, 1) := by decide +kernel
theorem dX2_shift_139 : decode cX2_shift 139 = .ok (.aload_n 0, 1) := by decide +kernel
theorem dX2_shift_140 : decode cX2_shift 140 = .ok (.getfield 27, 3) := by decide +kernel
theorem dX2_shift_143 : decode cX2_shift 143 = .ok (.bipush 24, 2) := by decide +kernel
theorem dX2_shift_145 : decode cX2_shift 145 = .ok (.lushr, 1) := by decide +kernel
theorem dX2_shift_146 : decode cX2_shift 146 = .ok (.l2i, 1) := by decide +kernel
theorem dX2_shift_147 : decode cX2_shift 147 = .ok (.sipush 255, 3) := by decide +kernel
theorem dX2_shift_150 : decode cX2_shift 150 = .ok (.iand, 1) := by decide +kernel
theorem dX2_shift_151 : decode cX2_shift 151 = .ok (.putfield 36, 3) := by decide +kernel
theorem dX2_shift_154 : decode cX2_shift 154 = .ok (.aload_n 0, 1) := by decide +kernel
theorem dX2_shift_155 : decode cX2_shift 155 = .ok (.dup, 1) := by decide +kernel
theorem dX2_shift_156 : decode cX2_shift 156 = .ok (.getfield 40, 3) := by decide +kernel
theorem dX2_shift_159 : decode cX2_shift 159 = .ok (.iconst 1, 1) := by decide +kernel
theorem dX2_shift_160 : decode cX2_shift 160 = .ok (.iadd, 1) := by decide +kernel
theorem dX2_shift_161 : decode cX2_shift 161 = .ok (.putfield 40, 3) := by decide +kernel
theorem dX2_shift_164 : decode cX2_shift 164 = .ok (.aload_n 0, 1) := by decide +kernel
theorem dX2_shift_165 : decode cX2_shift 165 = .ok (.aload_n 0, 1) := by decide +kernel
theorem dX2_shift_166 : decode cX2_shift 166 = .ok (.getfield 27, 3) := by decide +kernel
theorem dX2_shift_169 : decode cX2_shift 169 = .ok (.ldc2_w 89, 3) := by decide +kernel
theorem dX2_shift_172 : decode cX2_shift 172 = .ok (.land, 1) := by decide +kernel
theorem dX2_shift_173 : decode cX2_shift 173 = .ok (.bipush 8, 2) := by decide +kernel
theorem dX2_shift_175 : decode cX2_shift 175 = .ok (.lshl, 1) := by decide +kernel
theorem dX2_shift_176 : decode cX2_shift 176 = .ok (.putfield 27, 3) := by decide +kernel
theorem dX2_shift_179 : decode cX2_shift 179 = .ok (.return_, 1) := by decide +kernel
theorem dX2_flush_0 : decode cX2_flush 0 = .ok (.iconst 0, 1) := by decide +kernel
theorem dX2_flush_1 : decode cX2_flush 1 = .ok (.istore_n 1, 1) := by decide +kernel
theorem dX2_flush_2 : decode cX2_flush 2 = .ok (.iload_n 1, 1) := by decide +kernel
theorem dX2_flush_3 : decode cX2_flush 3 = .ok (.iconst 5, 1) := by decide +kernel
theorem dX2_flush_4 : decode cX2_flush 4 = .ok (.if_icmp .ge 13, 3) := by decide +kernel
theorem dX2_flush_7 : decode cX2_flush 7 = .ok (.aload_n 0, 1) := by decide +kernel
theorem dX2_flush_8 : decode cX2_flush 8 = .ok (.invokevirtual 74, 3) := by decide +kernel
theorem dX2_flush_11 : decode cX2_flush 11 = .ok (.iinc 1 1, 3) := by decide +kernel
theorem dX2_flush_14 : decode cX2_flush 14 = .ok (.goto (-12), 3) := by decide +kernel
theorem dX2_flush_17 : decode cX2_flush 17 = .ok (.return_, 1) := by decide +kernel
theorem dX3_init_0 : decode cX3_init 0 = .ok (.aload_n 0, 1) := by decide +kernel
theorem dX3_init_1 : decode cX3_init 1 = .ok (.invokespecial 3, 3) := by decide +kernel
theorem dX3_init_4 : decode cX3_init 4 = .ok (.aload_n 0, 1) := by decide +kernel
theorem dX3_init_5 : decode cX3_init 5 = .ok (.aload_n 1, 1) := by decide +kernel
theorem dX3_init_6 : decode cX3_init 6 = .ok (.putfield 9, 3) := by decide +kernel
theorem dX3_init_9 : decode cX3_init 9 = .ok (.aload_n 0, 1) := by decide +kernel
theorem dX3_init_10 : decode cX3_init 10 = .ok (.iconst 4, 1) := by decide +kernel
theorem dX3_init_11 : decode cX3_init 11 = .ok (.newarray .int, 2) := by decide +kernel
theorem dX3_init_13 : decode cX3_init 13 = .ok (.putfield 15, 3) := by decide +kernel
theorem dX3_init_16 : decode cX3_init 16 = .ok (.aload_n 0, 1) := by decide +kernel
theorem dX3_init_17 : decode cX3_init 17 = .ok (.iconst 4, 1) := by decide +kernel
theorem dX3_init_18 : decode cX3_init 18 = .ok (.newarray .int, 2) := by decide +kernel
theorem dX3_init_20 : decode cX3_init 20 = .ok (.putfield 19, 3) := by decide +kernel
theorem dX3_init_23 : decode cX3_init 23 = .ok (.return_, 1) := by decide +kernel
theorem dX4_init_0 : decode cX4_init 0 = .ok (.aload_n 0, 1) := by decide +kernel
theorem dX4_init_1 : decode cX4_init 1 = .ok (.invokespecial 3, 3) := by decide +kernel
theorem dX4_init_4 : decode cX4_init 4 = .ok (.aload_n 0, 1) := by decide +kernel
theorem dX4_init_5 : decode cX4_init 5 = .ok (.sipush 8000, 3) := by decide +kernel
theorem dX4_init_8 : decode cX4_init 8 = .ok (.newarray .int, 2) := by decide +kernel
theorem dX4_init_10 : decode cX4_init 10 = .ok (.putfield 9, 3) := by decide +kernel
theorem dX4_init_13 : decode cX4_init 13 = .ok (.aload_n 0, 1) := by decide +kernel
theorem dX4_init_14 : decode cX4_init 14 = .ok (.sipush 1000, 3) := by decide +kernel
theorem dX4_init_17 : decode cX4_init 17 = .ok (.newarray .int, 2) := by decide +kernel
theorem dX4_init_19 : decode cX4_init 19 = .ok (.putfield 15, 3) := by decide +kernel
theorem dX4_init_22 : decode cX4_init 22 = .ok (.return_, 1) := by decide +kernel
theorem dX4_clear_0 : decode cX4_clear 0 = .ok (.aload_n 0, 1) := by decide +kernel
theorem dX4_clear_1 : decode cX4_clear 1 = .ok (.iconst 0, 1) := by decide +kernel
theorem dX4_clear_2 : decode cX4_clear 2 = .ok (.putfield 18, 3) := by decide +kernel
theorem dX4_clear_5 : decode cX4_clear 5 = .ok (.aload_n 0, 1) := by decide +kernel
theorem dX4_clear_6 : decode cX4_clear 6 = .ok (.iconst 0, 1) := by decide +kernel
theorem dX4_clear_7 : decode cX4_clear 7 = .ok (.putfield 22, 3) := by decide +kernel
theorem dX4_clear_10 : decode cX4_clear 10 = .ok (.return_, 1) := by decide +kernel
theorem dX4_stepPart_0 : decode cX4_stepPart 0 = .ok (.iload_n 1, 1) := by decide +kernel
theorem dX4_stepPart_1 : decode cX4_stepPart 1 = .ok (.ifCond .lt 27, 3) := by decide +kernel
theorem dX4_stepPart_4 : decode cX4_stepPart 4 = .ok (.iload_n 1, 1) := by decide +kernel
theorem dX4_stepPart_5 : decode cX4_stepPart 5 = .ok (.aload_n 0, 1) := by decide +kernel
theorem dX4_stepPart_6 : decode cX4_stepPart 6 = .ok (.getfield 18, 3) := by decide +kernel
theorem dX4_stepPart_9 : decode cX4_stepPart 9 = .ok (.if_icmp .ge 19, 3) := by decide +kernel
theorem dX4_stepPart_12 : decode cX4_stepPart 12 = .ok (.iload_n 1, 1) := by decide +kernel
theorem dX4_stepPart_13 : decode cX4_stepPart 13 = .ok (.sipush 2000, 3) := by decide +kernel
theorem dX4_stepPart_16 : decode cX4_stepPart 16 = .ok (.if_icmp .ge 12, 3) := by decide +kernel
theorem dX4_stepPart_19 : decode cX4_stepPart 19 = .ok (.iload_n 2, 1) := by decide +kernel
theorem dX4_stepPart_20 : decode cX4_stepPart 20 = .ok (.ifCond .lt 8, 3) := by decide +kernel
theorem dX4_stepPart_23 : decode cX4_stepPart 23 = .ok (.iload_n 2, 1) := by decide +kernel
theorem dX4_stepPart_24 : decode cX4_stepPart 24 = .ok (.iconst 3, 1) := by decide +kernel
theorem dX4_stepPart_25 : decode cX4_stepPart 25 = .ok (.if_icmp .le 5, 3) := by decide +kernel
theorem dX4_stepPart_28 : decode cX4_stepPart 28 = .ok (.iconst (-1), 1) := by decide +kernel
theorem dX4_stepPart_29 : decode cX4_stepPart 29 = .ok (.ireturn, 1) := by decide +kernel
theorem dX4_stepPart_30 : decode cX4_stepPart 30 = .ok (.aload_n 0, 1) := by decide +kernel
theorem dX4_stepPart_31 : decode cX4_stepPart 31 = .ok (.getfield 9, 3) := by decide +kernel
theorem dX4_stepPart_34 : decode cX4_stepPart 34 = .ok (.iconst 4, 1) := by decide +kernel
theorem dX4_stepPart_35 : decode cX4_stepPart 35 = .ok (.iload_n 1, 1) := by decide +kernel
theorem dX4_stepPart_36 : decode cX4_stepPart 36 = .ok (.imul, 1) := by decide +kernel
theorem dX4_stepPart_37 : decode cX4_stepPart 37 = .ok (.iload_n 2, 1) := by decide +kernel
theorem dX4_stepPart_38 : decode cX4_stepPart 38 = .ok (.iadd, 1) := by decide +kernel
theorem dX4_stepPart_39 : decode cX4_stepPart 39 = .ok (.iaload, 1) := by decide +kernel
theorem dX4_stepPart_40 : decode cX4_stepPart 40 = .ok (.ireturn, 1) := by decide +kernel
theorem dX4_addBlock_0 : decode cX4_addBlock 0 = .ok (.aload_n 0, 1) := by decide +kernel
theorem dX4_addBlock_1 : decode cX4_addBlock 1 = .ok (.getfield 22, 3) := by decide +kernel
theorem dX4_addBlock_4 : decode cX4_addBlock 4 = .ok (.ifCond .lt 81, 3) := by decide +kernel
theorem dX4_addBlock_7 : decode cX4_addBlock 7 = .ok (.aload_n 0, 1) := by decide +kernel
theorem dX4_addBlock_8 : decode cX4_addBlock 8 = .ok (.getfield 22, 3) := by decide +kernel
theorem dX4_addBlock_11 : decode cX4_addBlock 11 = .ok (.sipush 200, 3) := by decide +kernel
theorem dX4_addBlock_14 : decode cX4_addBlock 14 = .ok (.if_icmp .ge 71, 3) := by decide +kernel
theorem dX4_addBlock_17 : decode cX4_addBlock 17 = .ok (.iconst 5, 1) := by decide +kernel
theorem dX4_addBlock_18 : decode cX4_addBlock 18 = .ok (.aload_n 0, 1) := by decide +kernel
theorem dX4_addBlock_19 : decode cX4_addBlock 19 = .ok (.getfield 22, 3) := by decide +kernel
theorem dX4_addBlock_22 : decode cX4_addBlock 22 = .ok (.imul, 1) := by decide +kernel
theorem dX4_addBlock_23 : decode cX4_addBlock 23 = .ok (.istore 6, 2) := by decide +kernel
theorem dX4_addBlock_25 : decode cX4_addBlock 25 = .ok (.aload_n 0, 1) := by decide +kernel
theorem dX4_addBlock_26 : decode cX4_addBlock 26 = .ok (.getfield 15, 3) := by decide +kernel
theorem dX4_addBlock_29 : decode cX4_addBlock 29 = .ok (.iload 6, 2) := by decide +kernel
theorem dX4_addBlock_31 : decode cX4_addBlock 31 = .ok (.iload_n 1, 1) := by decide +kernel
theorem dX4_addBlock_32 : decode cX4_addBlock 32 = .ok (.iastore, 1) := by decide +kernel
theorem dX4_addBlock_33 : decode cX4_addBlock 33 = .ok (.aload_n 0, 1) := by decide +kernel
theorem dX4_addBlock_34 : decode cX4_addBlock 34 = .ok (.getfield 15, 3) := by decide +kernel
theorem dX4_addBlock_37 : decode cX4_addBlock 37 = .ok (.iload 6, 2) := by decide +kernel
theorem dX4_addBlock_39 : decode cX4_addBlock 39 = .ok (.iconst 1, 1) := by decide +kernel
theorem dX4_addBlock_40 : decode cX4_addBlock 40 = .ok (.iadd, 1) := by decide +kernel
theorem dX4_addBlock_41 : decode cX4_addBlock 41 = .ok (.iload_n 2, 1) := by decide +kernel
theorem dX4_addBlock_42 : decode cX4_addBlock 42 = .ok (.iastore, 1) := by decide +kernel
theorem dX4_addBlock_43 : decode cX4_addBlock 43 = .ok (.aload_n 0, 1) := by decide +kernel
theorem dX4_addBlock_44 : decode cX4_addBlock 44 = .ok (.getfield 15, 3) := by decide +kernel
theorem dX4_addBlock_47 : decode cX4_addBlock 47 = .ok (.iload 6, 2) := by decide +kernel
theorem dX4_addBlock_49 : decode cX4_addBlock 49 = .ok (.iconst 2, 1) := by decide +kernel
theorem dX4_addBlock_50 : decode cX4_addBlock 50 = .ok (.iadd, 1) := by decide +kernel
theorem dX4_addBlock_51 : decode cX4_addBlock 51 = .ok (.iload_n 3, 1) := by decide +kernel
theorem dX4_addBlock_52 : decode cX4_addBlock 52 = .ok (.iastore, 1) := by decide +kernel
theorem dX4_addBlock_53 : decode cX4_addBlock 53 = .ok (.aload_n 0, 1) := by decide +kernel
theorem dX4_addBlock_54 : decode cX4_addBlock 54 = .ok (.getfield 15, 3) := by decide +kernel
theorem dX4_addBlock_57 : decode cX4_addBlock 57 = .ok (.iload 6, 2) := by decide +kernel
theorem dX4_addBlock_59 : decode cX4_addBlock 59 = .ok (.iconst 3, 1) := by decide +kernel
theorem dX4_addBlock_60 : decode cX4_addBlock 60 = .ok (.iadd, 1) := by decide +kernel
theorem dX4_addBlock_61 : decode cX4_addBlock 61 = .ok (.iload 4, 2) := by decide +kernel
theorem dX4_addBlock_63 : decode cX4_addBlock 63 = .ok (.iastore, 1) := by decide +kernel
theorem dX4_addBlock_64 : decode cX4_addBlock 64 = .ok (.aload_n 0, 1) := by decide +kernel
theorem dX4_addBlock_65 : decode cX4_addBlock 65 = .ok (.getfield 15, 3) := by decide +kernel
theorem dX4_addBlock_68 : decode cX4_addBlock 68 = .ok (.iload 6, 2) := by decide +kernel
theorem dX4_addBlock_70 : decode cX4_addBlock 70 = .ok (.iconst 4, 1) := by decide +kernel
theorem dX4_addBlock_71 : decode cX4_addBlock 71 = .ok (.iadd, 1) := by decide +kernel
theorem dX4_addBlock_72 : decode cX4_addBlock 72 = .ok (.iload 5, 2) := by decide +kernel
theorem dX4_addBlock_74 : decode cX4_addBlock 74 = .ok (.iastore, 1) := by decide +kernel
theorem dX4_addBlock_75 : decode cX4_addBlock 75 = .ok (.aload_n 0, 1) := by decide +kernel
theorem dX4_addBlock_76 : decode cX4_addBlock 76 = .ok (.dup, 1) := by decide +kernel
theorem dX4_addBlock_77 : decode cX4_addBlock 77 = .ok (.getfield 22, 3) := by decide +kernel
theorem dX4_addBlock_80 : decode cX4_addBlock 80 = .ok (.iconst 1, 1) := by decide +kernel
theorem dX4_addBlock_81 : decode cX4_addBlock 81 = .ok (.iadd, 1) := by decide +kernel
theorem dX4_addBlock_82 : decode cX4_addBlock 82 = .ok (.putfield 22, 3) := by decide +kernel
theorem dX4_addBlock_85 : decode cX4_addBlock 85 = .ok (.return_, 1) := by decide +kernel
theorem dX4_blockPart_0 : decode cX4_blockPart 0 = .ok (.iload_n 1, 1) := by decide +kernel
theorem dX4_blockPart_1 : decode cX4_blockPart 1 = .ok (.ifCond .lt 27, 3) := by decide +kernel
theorem dX4_blockPart_4 : decode cX4_blockPart 4 = .ok (.iload_n 1, 1) := by decide +kernel
theorem dX4_blockPart_5 : decode cX4_blockPart 5 = .ok (.aload_n 0, 1) := by decide +kernel
theorem dX4_blockPart_6 : decode cX4_blockPart 6 = .ok (.getfield 22, 3) := by decide +kernel
theorem dX4_blockPart_9 : decode cX4_blockPart 9 = .ok (.if_icmp .ge 19, 3) := by decide +kernel
theorem dX4_blockPart_12 : decode cX4_blockPart 12 = .ok (.iload_n 1, 1) := by decide +kernel
theorem dX4_blockPart_13 : decode cX4_blockPart 13 = .ok (.sipush 200, 3) := by decide +kernel
theorem dX4_blockPart_16 : decode cX4_blockPart 16 = .ok (.if_icmp .ge 12, 3) := by decide +kernel
theorem dX4_blockPart_19 : decode cX4_blockPart 19 = .ok (.iload_n 2, 1) := by decide +kernel
theorem dX4_blockPart_20 : decode cX4_blockPart 20 = .ok (.ifCond .lt 8, 3) := by decide +kernel
theorem dX4_blockPart_23 : decode cX4_blockPart 23 = .ok (.iload_n 2, 1) := by decide +kernel
theorem dX4_blockPart_24 : decode cX4_blockPart 24 = .ok (.iconst 4, 1) := by decide +kernel
theorem dX4_blockPart_25 : decode cX4_blockPart 25 = .ok (.if_icmp .le 5, 3) := by decide +kernel
theorem dX4_blockPart_28 : decode cX4_blockPart 28 = .ok (.iconst (-1), 1) := by decide +kernel
theorem dX4_blockPart_29 : decode cX4_blockPart 29 = .ok (.ireturn, 1) := by decide +kernel
theorem dX4_blockPart_30 : decode cX4_blockPart 30 = .ok (.aload_n 0, 1) := by decide +kernel
theorem dX4_blockPart_31 : decode cX4_blockPart 31 = .ok (.getfield 15, 3) := by decide +kernel
theorem dX4_blockPart_34 : decode cX4_blockPart 34 = .ok (.iconst 5, 1) := by decide +kernel
theorem dX4_blockPart_35 : decode cX4_blockPart 35 = .ok (.iload_n 1, 1) := by decide +kernel
theorem dX4_blockPart_36 : decode cX4_blockPart 36 = .ok (.imul, 1) := by decide +kernel
theorem dX4_blockPart_37 : decode cX4_blockPart 37 = .ok (.iload_n 2, 1) := by decide +kernel
theorem dX4_blockPart_38 : decode cX4_blockPart 38 = .ok (.iadd, 1) := by decide +kernel
theorem dX4_blockPart_39 : decode cX4_blockPart 39 = .ok (.iaload, 1) := by decide +kernel
theorem dX4_blockPart_40 : decode cX4_blockPart 40 = .ok (.ireturn, 1) := by decide +kernel
theorem dX4_bytesOfBlocks_0 : decode cX4_bytesOfBlocks 0 = .ok (.iconst 0, 1) := by decide +kernel
theorem dX4_bytesOfBlocks_1 : decode cX4_bytesOfBlocks 1 = .ok (.istore_n 1, 1) := by decide +kernel
theorem dX4_bytesOfBlocks_2 : decode cX4_bytesOfBlocks 2 = .ok (.iconst 0, 1) := by decide +kernel
theorem dX4_bytesOfBlocks_3 : decode cX4_bytesOfBlocks 3 = .ok (.istore_n 2, 1) := by decide +kernel
theorem dX4_bytesOfBlocks_4 : decode cX4_bytesOfBlocks 4 = .ok (.iload_n 2, 1) := by decide +kernel
theorem dX4_bytesOfBlocks_5 : decode cX4_bytesOfBlocks 5 = .ok (.aload_n 0, 1) := by decide +kernel
theorem dX4_bytesOfBlocks_6 : decode cX4_bytesOfBlocks 6 = .ok (.getfield 22, 3) := by decide +kernel
theorem dX4_bytesOfBlocks_9 : decode cX4_bytesOfBlocks 9 = .ok (.if_icmp .ge 18, 3) := by decide +kernel
theorem dX4_bytesOfBlocks_12 : decode cX4_bytesOfBlocks 12 = .ok (.iload_n 1, 1) := by decide +kernel
theorem dX4_bytesOfBlocks_13 : decode cX4_bytesOfBlocks 13 = .ok (.aload_n 0, 1) := by decide +kernel
theorem dX4_bytesOfBlocks_14 : decode cX4_bytesOfBlocks 14 = .ok (.iload_n 2, 1) := by decide +kernel
theorem dX4_bytesOfBlocks_15 : decode cX4_bytesOfBlocks 15 = .ok (.iconst 3, 1) := by decide +kernel
theorem dX4_bytesOfBlocks_16 : decode cX4_bytesOfBlocks 16 = .ok (.invokevirtual 25, 3) := by decide +kernel
theorem dX4_bytesOfBlocks_19 : decode cX4_bytesOfBlocks 19 = .ok (.iadd, 1) := by decide +kernel
theorem dX4_bytesOfBlocks_20 : decode cX4_bytesOfBlocks 20 = .ok (.istore_n 1, 1) := by decide +kernel
theorem dX4_bytesOfBlocks_21 : decode cX4_bytesOfBlocks 21 = .ok (.iinc 2 1, 3) := by decide +kernel
theorem dX4_bytesOfBlocks_24 : decode cX4_bytesOfBlocks 24 = .ok (.goto (-20), 3) := by decide +kernel
theorem dX4_bytesOfBlocks_27 : decode cX4_bytesOfBlocks 27 = .ok (.iload_n 1, 1) := by decide +kernel
theorem dX4_bytesOfBlocks_28 : decode cX4_bytesOfBlocks 28 = .ok (.ireturn, 1) := by decide +kernel
theorem dX4_putIndex_0 : decode cX4_putIndex 0 = .ok (.aload_n 1, 1) := by decide +kernel
theorem dX4_putIndex_1 : decode cX4_putIndex 1 = .ok (.getfield 29, 3) := by decide +kernel
theorem dX4_putIndex_4 : decode cX4_putIndex 4 = .ok (.istore_n 3, 1) := by decide +kernel
theorem dX4_putIndex_5 : decode cX4_putIndex 5 = .ok (.aload_n 1, 1) := by decide +kernel
theorem dX4_putIndex_6 : decode cX4_putIndex 6 = .ok (.iconst 0, 1) := by decide +kernel
theorem dX4_putIndex_7 : decode cX4_putIndex 7 = .ok (.invokevirtual 34, 3) := by decide +kernel
theorem dX4_putIndex_10 : decode cX4_putIndex 10 = .ok (.aload_n 1, 1) := by decide +kernel
theorem dX4_putIndex_11 : decode cX4_putIndex 11 = .ok (.aload_n 0, 1) := by decide +kernel
theorem dX4_putIndex_12 : decode cX4_putIndex 12 = .ok (.getfield 22, 3) := by decide +kernel
theorem dX4_putIndex_15 : decode cX4_putIndex 15 = .ok (.invokevirtual 38, 3) := by decide +kernel
theorem dX4_putIndex_18 : decode cX4_putIndex 18 = .ok (.iconst 0, 1) := by decide +kernel
theorem dX4_putIndex_19 : decode cX4_putIndex 19 = .ok (.istore 4, 2) := by decide +kernel
theorem dX4_putIndex_21 : decode cX4_putIndex 21 = .ok (.iload 4, 2) := by decide +kernel
theorem dX4_putIndex_23 : decode cX4_putIndex 23 = .ok (.aload_n 0, 1) := by decide +kernel
theorem dX4_putIndex_24 : decode cX4_putIndex 24 = .ok (.getfield 22, 3) := by decide +kernel
theorem dX4_putIndex_27 : decode cX4_putIndex 27 = .ok (.if_icmp .ge 41, 3) := by decide +kernel
theorem dX4_putIndex_30 : decode cX4_putIndex 30 = .ok (.aload_n 1, 1) := by decide +kernel
theorem dX4_putIndex_31 : decode cX4_putIndex 31 = .ok (.aload_n 0, 1) := by decide +kernel
theorem dX4_putIndex_32 : decode cX4_putIndex 32 = .ok (.iload 4, 2) := by decide +kernel
theorem dX4_putIndex_34 : decode cX4_putIndex 34 = .ok (.iconst 1, 1) := by decide +kernel
theorem dX4_putIndex_35 : decode cX4_putIndex 35 = .ok (.invokevirtual 25, 3) := by decide +kernel
theorem dX4_putIndex_38 : decode cX4_putIndex 38 = .ok (.aload_n 0, 1) := by decide +kernel
theorem dX4_putIndex_39 : decode cX4_putIndex 39 = .ok (.iload 4, 2) := by decide +kernel
theorem dX4_putIndex_41 : decode cX4_putIndex 41 = .ok (.iconst 2, 1) := by decide +kernel
theorem dX4_putIndex_42 : decode cX4_putIndex 42 = .ok (.invokevirtual 25, 3) := by decide +kernel
theorem dX4_putIndex_45 : decode cX4_putIndex 45 = .ok (.iadd, 1) := by decide +kernel
theorem dX4_putIndex_46 : decode cX4_putIndex 46 = .ok (.iload_n 2, 1) := by decide +kernel
theorem dX4_putIndex_47 : decode cX4_putIndex 47 = .ok (.iadd, 1) := by decide +kernel
theorem dX4_putIndex_48 : decode cX4_putIndex 48 = .ok (.invokevirtual 38, 3) := by decide +kernel
theorem dX4_putIndex_51 : decode cX4_putIndex 51 = .ok (.aload_n 1, 1) := by decide +kernel
theorem dX4_putIndex_52 : decode cX4_putIndex 52 = .ok (.aload_n 0, 1) := by decide +kernel
theorem dX4_putIndex_53 : decode cX4_putIndex 53 = .ok (.iload 4, 2) := by decide +kernel
theorem dX4_putIndex_55 : decode cX4_putIndex 55 = .ok (.iconst 3, 1) := by decide +kernel
theorem dX4_putIndex_56 : decode cX4_putIndex 56 = .ok (.invokevirtual 25, 3) := by decide +kernel
theorem dX4_putIndex_59 : decode cX4_putIndex 59 = .ok (.invokevirtual 38, 3) := by decide +kernel
theorem dX4_putIndex_62 : decode cX4_putIndex 62 = .ok (.iinc 4 1, 3) := by decide +kernel
theorem dX4_putIndex_65 : decode cX4_putIndex 65 = .ok (.goto (-44), 3) := by decide +kernel
theorem dX4_putIndex_68 : decode cX4_putIndex 68 = .ok (.aload_n 1, 1) := by decide +kernel
theorem dX4_putIndex_69 : decode cX4_putIndex 69 = .ok (.iload_n 3, 1) := by decide +kernel
theorem dX4_putIndex_70 : decode cX4_putIndex 70 = .ok (.invokevirtual 41, 3) := by decide +kernel
theorem dX4_putIndex_73 : decode cX4_putIndex 73 = .ok (.return_, 1) := by decide +kernel
theorem dX5_init_0 : decode cX5_init 0 = .ok (.aload_n 0, 1) := by decide +kernel
theorem dX5_init_1 : decode cX5_init 1 = .ok (.invokespecial 5, 3) := by decide +kernel
theorem dX5_init_4 : decode cX5_init 4 = .ok (.aload_n 0, 1) := by decide +kernel
theorem dX5_init_5 : decode cX5_init 5 = .ok (.aload_n 1, 1) := by decide +kernel
theorem dX5_init_6 : decode cX5_init 6 = .ok (.putfield 11, 3) := by decide +kernel
theorem dX5_init_9 : decode cX5_init 9 = .ok (.aload_n 0, 1) := by decide +kernel
theorem dX5_init_10 : decode cX5_init 10 = .ok (.iconst 4, 1) := by decide +kernel
theorem dX5_init_11 : decode cX5_init 11 = .ok (.newarray .long, 2) := by decide +kernel
theorem dX5_init_13 : decode cX5_init 13 = .ok (.putfield 15, 3) := by decide +kernel
theorem dX5_init_16 : decode cX5_init 16 = .ok (.return_, 1) := by decide +kernel
theorem dX5_use_0 : decode cX5_use 0 = .ok (.aload_n 0, 1) := by decide +kernel
theorem dX5_use_1 : decode cX5_use 1 = .ok (.iload_n 1, 1) := by decide +kernel
theorem dX5_use_2 : decode cX5_use 2 = .ok (.putfield 19, 3) := by decide +kernel
theorem dX5_use_5 : decode cX5_use 5 = .ok (.aload_n 0, 1) := by decide +kernel
theorem dX5_use_6 : decode cX5_use 6 = .ok (.iload_n 2, 1) := by decide +kernel
theorem dX5_use_7 : decode cX5_use 7 = .ok (.putfield 23, 3) := by decide +kernel
theorem dX5_use_10 : decode cX5_use 10 = .ok (.aload_n 0, 1) := by decide +kernel
theorem dX5_use_11 : decode cX5_use 11 = .ok (.iload_n 3, 1) := by decide +kernel
theorem dX5_use_12 : decode cX5_use 12 = .ok (.putfield 26, 3) := by decide +kernel
theorem dX5_use_15 : decode cX5_use 15 = .ok (.return_, 1) := by decide +kernel
theorem dX5_reset_0 : decode cX5_reset 0 = .ok (.sipush 2052, 3) := by decide +kernel
theorem dX5_reset_3 : decode cX5_reset 3 = .ok (.sipush 768, 3) := by decide +kernel
theorem dX5_reset_6 : decode cX5_reset 6 = .ok (.aload_n 0, 1) := by decide +kernel
theorem dX5_reset_7 : decode cX5_reset 7 = .ok (.getfield 19, 3) := by decide +kernel
theorem dX5_reset_10 : decode cX5_reset 10 = .ok (.aload_n 0, 1) := by decide +kernel
theorem dX5_reset_11 : decode cX5_reset 11 = .ok (.getfield 23, 3) := by decide +kernel
theorem dX5_reset_14 : decode cX5_reset 14 = .ok (.iadd, 1) := by decide +kernel
theorem dX5_reset_15 : decode cX5_reset 15 = .ok (.ishl, 1) := by decide +kernel
theorem dX5_reset_16 : decode cX5_reset 16 = .ok (.iadd, 1) := by decide +kernel
theorem dX5_reset_17 : decode cX5_reset 17 = .ok (.istore_n 1, 1) := by decide +kernel
theorem dX5_reset_18 : decode cX5_reset 18 = .ok (.aload_n 0, 1) := by decide +kernel
theorem dX5_reset_19 : decode cX5_reset 19 = .ok (.getfield 11, 3) := by decide +kernel
theorem dX5_reset_22 : decode cX5_reset 22 = .ok (.getfield 29, 3) := by decide +kernel
theorem dX5_reset_25 : decode cX5_reset 25 = .ok (.iconst 0, 1) := by decide +kernel
theorem dX5_reset_26 : decode cX5_reset 26 = .ok (.iload_n 1, 1) := by decide +kernel
theorem dX5_reset_27 : decode cX5_reset 27 = .ok (.sipush 14340, 3) := by decide +kernel
theorem dX5_reset_30 : decode cX5_reset 30 = .ok (.invokestatic 35, 3) := by decide +kernel
theorem dX5_reset_33 : decode cX5_reset 33 = .ok (.sipush 1024, 3) := by decide +kernel
theorem dX5_reset_36 : decode cX5_reset 36 = .ok (.invokestatic 41, 3) := by decide +kernel
theorem dX5_reset_39 : decode cX5_reset 39 = .ok (.aload_n 0, 1) := by decide +kernel
theorem dX5_reset_40 : decode cX5_reset 40 = .ok (.getfield 15, 3) := by decide +kernel
theorem dX5_reset_43 : decode cX5_reset 43 = .ok (.lconst 1, 1) := by decide +kernel
theorem dX5_reset_44 : decode cX5_reset 44 = .ok (.invokestatic 47, 3) := by decide +kernel
theorem dX5_reset_47 : decode cX5_reset 47 = .ok (.aload_n 0, 1) := by decide +kernel
theorem dX5_reset_48 : decode cX5_reset 48 = .ok (.iconst 0, 1) := by decide +kernel
theorem dX5_reset_49 : decode cX5_reset 49 = .ok (.putfield 50, 3) := by decide +kernel
theorem dX5_reset_52 : decode cX5_reset 52 = .ok (.return_, 1) := by decide +kernel
theorem dX6_init_0 : decode cX6_init 0 = .ok (.aload_n 0, 1) := by decide +kernel
theorem dX6_init_1 : decode cX6_init 1 = .ok (.invokespecial 3, 3) := by decide +kernel
theorem dX6_init_4 : decode cX6_init 4 = .ok (.aload_n 0, 1) := by decide +kernel
theorem dX6_init_5 : decode cX6_init 5 = .ok (.aload_n 1, 1) := by decide +kernel
theorem dX6_init_6 : decode cX6_init 6 = .ok (.putfield 9, 3) := by decide +kernel
theorem dX6_init_9 : decode cX6_init 9 = .ok (.aload_n 0, 1) := by decide +kernel
theorem dX6_init_10 : decode cX6_init 10 = .ok (.aload_n 2, 1) := by decide +kernel
theorem dX6_init_11 : decode cX6_init 11 = .ok (.putfield 15, 3) := by decide +kernel
theorem dX6_init_14 : decode cX6_init 14 = .ok (.aload_n 0, 1) := by decide +kernel
theorem dX6_init_15 : decode cX6_init 15 = .ok (.aload_n 3, 1) := by decide +kernel
theorem dX6_init_16 : decode cX6_init 16 = .ok (.putfield 19, 3) := by decide +kernel
theorem dX6_init_19 : decode cX6_init 19 = .ok (.aload_n 0, 1) := by decide +kernel
theorem dX6_init_20 : decode cX6_init 20 = .ok (.aload 4, 2) := by decide +kernel
theorem dX6_init_22 : decode cX6_init 22 = .ok (.putfield 23, 3) := by decide +kernel
theorem dX6_init_25 : decode cX6_init 25 = .ok (.aload_n 0, 1) := by decide +kernel
theorem dX6_init_26 : decode cX6_init 26 = .ok (.aload 5, 2) := by decide +kernel
theorem dX6_init_28 : decode cX6_init 28 = .ok (.putfield 27, 3) := by decide +kernel
theorem dX6_init_31 : decode cX6_init 31 = .ok (.aload_n 0, 1) := by decide +kernel
theorem dX6_init_32 : decode cX6_init 32 = .ok (.new 31, 3) := by decide +kernel
theorem dX6_init_35 : decode cX6_init 35 = .ok (.dup, 1) := by decide +kernel
theorem dX6_init_36 : decode cX6_init 36 = .ok (.aload_n 1, 1) := by decide +kernel
theorem dX6_init_37 : decode cX6_init 37 = .ok (.invokespecial 33, 3) := by decide +kernel
theorem dX6_init_40 : decode cX6_init 40 = .ok (.putfield 36, 3) := by decide +kernel
theorem dX6_init_43 : decode cX6_init 43 = .ok (.aload_n 0, 1) := by decide +kernel
theorem dX6_init_44 : decode cX6_init 44 = .ok (.new 40, 3) := by decide +kernel
theorem dX6_init_47 : decode cX6_init 47 = .ok (.dup, 1) := by decide +kernel
theorem dX6_init_48 : decode cX6_init 48 = .ok (.sipush 1024, 3) := by decide +kernel
theorem dX6_init_51 : decode cX6_init 51 = .ok (.invokespecial 42, 3) := by decide +kernel
theorem dX6_init_54 : decode cX6_init 54 = .ok (.putfield 45, 3) := by decide +kernel
theorem dX6_init_57 : decode cX6_init 57 = .ok (.return_, 1) := by decide +kernel
theorem dX6_begin_0 : decode cX6_begin 0 = .ok (.aload_n 0, 1) := by decide +kernel
theorem dX6_begin_1 : decode cX6_begin 1 = .ok (.getfield 9, 3) := by decide +kernel
theorem dX6_begin_4 : decode cX6_begin 4 = .ok (.invokevirtual 48, 3) := by decide +kernel
theorem dX6_begin_7 : decode cX6_begin 7 = .ok (.aload_n 0, 1) := by decide +kernel
theorem dX6_begin_8 : decode cX6_begin 8 = .ok (.getfield 15, 3) := by decide +kernel
theorem dX6_begin_11 : decode cX6_begin 11 = .ok (.iconst 0, 1) := by decide +kernel
theorem dX6_begin_12 : decode cX6_begin 12 = .ok (.putfield 53, 3) := by decide +kernel
theorem dX6_begin_15 : decode cX6_begin 15 = .ok (.aload_n 0, 1) := by decide +kernel
theorem dX6_begin_16 : decode cX6_begin 16 = .ok (.getfield 27, 3) := by decide +kernel
theorem dX6_begin_19 : decode cX6_begin 19 = .ok (.invokevirtual 57, 3) := by decide +kernel
theorem dX6_begin_22 : decode cX6_begin 22 = .ok (.aload_n 0, 1) := by decide +kernel
theorem dX6_begin_23 : decode cX6_begin 23 = .ok (.getfield 19, 3) := by decide +kernel
theorem dX6_begin_26 : decode cX6_begin 26 = .ok (.iconst 0, 1) := by decide +kernel
theorem dX6_begin_27 : decode cX6_begin 27 = .ok (.iconst 0, 1) := by decide +kernel
theorem dX6_begin_28 : decode cX6_begin 28 = .ok (.iconst 0, 1) := by decide +kernel
theorem dX6_begin_29 : decode cX6_begin 29 = .ok (.invokevirtual 62, 3) := by decide +kernel
theorem dX6_begin_32 : decode cX6_begin 32 = .ok (.aload_n 0, 1) := by decide +kernel
theorem dX6_begin_33 : decode cX6_begin 33 = .ok (.getfield 19, 3) := by decide +kernel
theorem dX6_begin_36 : decode cX6_begin 36 = .ok (.invokevirtual 68, 3) := by decide +kernel
theorem dX6_begin_39 : decode cX6_begin 39 = .ok (.aload_n 0, 1) := by decide +kernel
theorem dX6_begin_40 : decode cX6_begin 40 = .ok (.iload_n 1, 1) := by decide +kernel
theorem dX6_begin_41 : decode cX6_begin 41 = .ok (.i2l, 1) := by decide +kernel
theorem dX6_begin_42 : decode cX6_begin 42 = .ok (.putfield 71, 3) := by decide +kernel
theorem dX6_begin_45 : decode cX6_begin 45 = .ok (.aload_n 0, 1) := by decide +kernel
theorem dX6_begin_46 : decode cX6_begin 46 = .ok (.iconst 0, 1) := by decide +kernel
theorem dX6_begin_47 : decode cX6_begin 47 = .ok (.putfield 75, 3) := by decide +kernel
theorem dX6_begin_50 : decode cX6_begin 50 = .ok (.aload_n 0, 1) := by decide +kernel
theorem dX6_begin_51 : decode cX6_begin 51 = .ok (.getfield 36, 3) := by decide +kernel
theorem dX6_begin_54 : decode cX6_begin 54 = .ok (.iconst 0, 1) := by decide +kernel
theorem dX6_begin_55 : decode cX6_begin 55 = .ok (.putfield 78, 3) := by decide +kernel
theorem dX6_begin_58 : decode cX6_begin 58 = .ok (.aload_n 0, 1) := by decide +kernel
theorem dX6_begin_59 : decode cX6_begin 59 = .ok (.getfield 36, 3) := by decide +kernel
theorem dX6_begin_62 : decode cX6_begin 62 = .ok (.iconst 0, 1) := by decide +kernel
theorem dX6_begin_63 : decode cX6_begin 63 = .ok (.putfield 81, 3) := by decide +kernel
theorem dX6_begin_66 : decode cX6_begin 66 = .ok (.return_, 1) := by decide +kernel
theorem dX6_askMemory_0 : decode cX6_askMemory 0 = .ok (.aload_n 0, 1) := by decide +kernel
theorem dX6_askMemory_1 : decode cX6_askMemory 1 = .ok (.lload_n 1, 1) := by decide +kernel
theorem dX6_askMemory_2 : decode cX6_askMemory 2 = .ok (.putfield 82, 3) := by decide +kernel
theorem dX6_askMemory_5 : decode cX6_askMemory 5 = .ok (.lload_n 1, 1) := by decide +kernel
theorem dX6_askMemory_6 : decode cX6_askMemory 6 = .ok (.aload_n 0, 1) := by decide +kernel
theorem dX6_askMemory_7 : decode cX6_askMemory 7 = .ok (.getfield 71, 3) := by decide +kernel
theorem dX6_askMemory_10 : decode cX6_askMemory 10 = .ok (.lcmp, 1) := by decide +kernel
theorem dX6_askMemory_11 : decode cX6_askMemory 11 = .ok (.ifCond .le 12, 3) := by decide +kernel
theorem dX6_askMemory_14 : decode cX6_askMemory 14 = .ok (.aload_n 0, 1) := by decide +kernel
theorem dX6_askMemory_15 : decode cX6_askMemory 15 = .ok (.getfield 9, 3) := by decide +kernel
theorem dX6_askMemory_18 : decode cX6_askMemory 18 = .ok (.bipush 15, 2) := by decide +kernel
theorem dX6_askMemory_20 : decode cX6_askMemory 20 = .ok (.invokevirtual 85, 3) := by decide +kernel
theorem dX6_askMemory_23 : decode cX6_askMemory 23 = .ok (.return_, 1) := by decide +kernel
theorem dX6_readAlone_0 : decode cX6_readAlone 0 = .ok (.aload_n 0, 1) := by decide +kernel
theorem dX6_readAlone_1 : decode cX6_readAlone 1 = .ok (.invokevirtual 94, 3) := by decide +kernel
theorem dX6_readAlone_4 : decode cX6_readAlone 4 = .ok (.aload_n 0, 1) := by decide +kernel
theorem dX6_readAlone_5 : decode cX6_readAlone 5 = .ok (.aload_n 0, 1) := by decide +kernel
theorem dX6_readAlone_6 : decode cX6_readAlone 6 = .ok (.getfield 9, 3) := by decide +kernel
theorem dX6_readAlone_9 : decode cX6_readAlone 9 = .ok (.iconst 4, 1) := by decide +kernel
theorem dX6_readAlone_10 : decode cX6_readAlone 10 = .ok (.invokevirtual 97, 3) := by decide +kernel
theorem dX6_readAlone_13 : decode cX6_readAlone 13 = .ok (.invokevirtual 101, 3) := by decide +kernel
theorem dX6_readAlone_16 : decode cX6_readAlone 16 = .ok (.aload_n 0, 1) := by decide +kernel
theorem dX6_readAlone_17 : decode cX6_readAlone 17 = .ok (.getfield 9, 3) := by decide +kernel
theorem dX6_readAlone_20 : decode cX6_readAlone 20 = .ok (.bipush 8, 2) := by decide +kernel
theorem dX6_readAlone_22 : decode cX6_readAlone 22 = .ok (.invokevirtual 97, 3) := by decide +kernel
theorem dX6_readAlone_25 : decode cX6_readAlone 25 = .ok (.lstore_n 1, 1) := by decide +kernel
theorem dX6_readAlone_26 : decode cX6_readAlone 26 = .ok (.lload_n 1, 1) := by decide +kernel
theorem dX6_readAlone_27 : decode cX6_readAlone 27 = .ok (.ldc2_w 105, 3) := by decide +kernel
theorem dX6_readAlone_30 : decode cX6_readAlone 30 = .ok (.lcmp, 1) := by decide +kernel
theorem dX6_readAlone_31 : decode cX6_readAlone 31 = .ok (.ifCond .lt 11, 3) := by decide +kernel
theorem dX6_readAlone_34 : decode cX6_readAlone 34 = .ok (.lload_n 1, 1) := by decide +kernel
theorem dX6_readAlone_35 : decode cX6_readAlone 35 = .ok (.ldc2_w 107, 3) := by decide +kernel
theorem dX6_readAlone_38 : decode cX6_readAlone 38 = .ok (.lcmp, 1) := by decide +kernel
theorem dX6_readAlone_39 : decode cX6_readAlone 39 = .ok (.ifCond .le 12, 3) := by decide +kernel
theorem dX6_readAlone_42 : decode cX6_readAlone 42 = .ok (.aload_n 0, 1) := by decide +kernel
theorem dX6_readAlone_43 : decode cX6_readAlone 43 = .ok (.getfield 9, 3) := by decide +kernel
theorem dX6_readAlone_46 : decode cX6_readAlone 46 = .ok (.bipush 13, 2) := by decide +kernel
theorem dX6_readAlone_48 : decode cX6_readAlone 48 = .ok (.invokevirtual 85, 3) := by decide +kernel
theorem dX6_readAlone_51 : decode cX6_readAlone 51 = .ok (.aload_n 0, 1) := by decide +kernel
theorem dX6_readAlone_52 : decode cX6_readAlone 52 = .ok (.getfield 19, 3) := by decide +kernel
theorem dX6_readAlone_55 : decode cX6_readAlone 55 = .ok (.invokevirtual 68, 3) := by decide +kernel
theorem dX6_readAlone_58 : decode cX6_readAlone 58 = .ok (.aload_n 0, 1) := by decide +kernel
theorem dX6_readAlone_59 : decode cX6_readAlone 59 = .ok (.lload_n 1, 1) := by decide +kernel
theorem dX6_readAlone_60 : decode cX6_readAlone 60 = .ok (.l2i, 1) := by decide +kernel
theorem dX6_readAlone_61 : decode cX6_readAlone 61 = .ok (.invokevirtual 109, 3) := by decide +kernel
theorem dX6_readAlone_64 : decode cX6_readAlone 64 = .ok (.lload_n 1, 1) := by decide +kernel
theorem dX6_readAlone_65 : decode cX6_readAlone 65 = .ok (.lconst 0, 1) := by decide +kernel
theorem dX6_readAlone_66 : decode cX6_readAlone 66 = .ok (.lcmp, 1) := by decide +kernel
theorem dX6_readAlone_67 : decode cX6_readAlone 67 = .ok (.ifCond .lt 22, 3) := by decide +kernel
theorem dX6_readAlone_70 : decode cX6_readAlone 70 = .ok (.aload_n 0, 1) := by decide +kernel
theorem dX6_readAlone_71 : decode cX6_readAlone 71 = .ok (.getfield 19, 3) := by decide +kernel
theorem dX6_readAlone_74 : decode cX6_readAlone 74 = .ok (.getfield 112, 3) := by decide +kernel
theorem dX6_readAlone_77 : decode cX6_readAlone 77 = .ok (.getfield 116, 3) := by decide +kernel
theorem dX6_readAlone_80 : decode cX6_readAlone 80 = .ok (.lconst 0, 1) := by decide +kernel
theorem dX6_readAlone_81 : decode cX6_readAlone 81 = .ok (.lcmp, 1) := by decide +kernel
theorem dX6_readAlone_82 : decode cX6_readAlone 82 = .ok (.ifCond .eq 7, 3) := by decide +kernel
theorem dX6_readAlone_85 : decode cX6_readAlone 85 = .ok (.aload_n 0, 1) := by decide +kernel
theorem dX6_readAlone_86 : decode cX6_readAlone 86 = .ok (.invokevirtual 121, 3) := by decide +kernel
theorem dX6_readAlone_89 : decode cX6_readAlone 89 = .ok (.aload_n 0, 1) := by decide +kernel
theorem dX6_readAlone_90 : decode cX6_readAlone 90 = .ok (.getfield 19, 3) := by decide +kernel
theorem dX6_readAlone_93 : decode cX6_readAlone 93 = .ok (.getfield 112, 3) := by decide +kernel
theorem dX6_readAlone_96 : decode cX6_readAlone 96 = .ok (.getfield 116, 3) := by decide +kernel
theorem dX6_readAlone_99 : decode cX6_readAlone 99 = .ok (.lconst 0, 1) := by decide +kernel
theorem dX6_readAlone_100 : decode cX6_readAlone 100 = .ok (.lcmp, 1) := by decide +kernel
theorem dX6_readAlone_101 : decode cX6_readAlone 101 = .ok (.ifCond .eq 12, 3) := by decide +kernel
theorem dX6_readAlone_104 : decode cX6_readAlone 104 = .ok (.aload_n 0, 1) := by decide +kernel
theorem dX6_readAlone_105 : decode cX6_readAlone 105 = .ok (.getfield 9, 3) := by decide +kernel
theorem dX6_readAlone_108 : decode cX6_readAlone 108 = .ok (.bipush 7, 2) := by decide +kernel
theorem dX6_readAlone_110 : decode cX6_readAlone 110 = .ok (.invokevirtual 85, 3) := by decide +kernel
theorem dX6_readAlone_113 : decode cX6_readAlone 113 = .ok (.return_, 1) := by decide +kernel
theorem dX6_readProperties_0 : decode cX6_readProperties 0 = .ok (.aload_n 0, 1) := by decide +kernel
theorem dX6_readProperties_1 : decode cX6_readProperties 1 = .ok (.getfield 9, 3) := by decide +kernel
theorem dX6_readProperties_4 : decode cX6_readProperties 4 = .ok (.invokevirtual 124, 3) := by decide +kernel
theorem dX6_readProperties_7 : decode cX6_readProperties 7 = .ok (.istore_n 1, 1) := by decide +kernel
theorem dX6_readProperties_8 : decode cX6_readProperties 8 = .ok (.iload_n 1, 1) := by decide +kernel
theorem dX6_readProperties_9 : decode cX6_readProperties 9 = .ok (.bipush 9, 2) := by decide +kernel
theorem dX6_readProperties_11 : decode cX6_readProperties 11 = .ok (.irem, 1) := by decide +kernel
theorem dX6_readProperties_12 : decode cX6_readProperties 12 = .ok (.istore_n 2, 1) := by decide +kernel
theorem dX6_readProperties_13 : decode cX6_readProperties 13 = .ok (.iload_n 1, 1) := by decide +kernel
theorem dX6_readProperties_14 : decode cX6_readProperties 14 = .ok (.bipush 9, 2) := by decide +kernel
theorem dX6_readProperties_16 : decode cX6_readProperties 16 = .ok (.idiv, 1) := by decide +kernel
theorem dX6_readProperties_17 : decode cX6_readProperties 17 = .ok (.iconst 5, 1) := by decide +kernel
theorem dX6_readProperties_18 : decode cX6_readProperties 18 = .ok (.irem, 1) := by decide +kernel
theorem dX6_readProperties_19 : decode cX6_readProperties 19 = .ok (.istore_n 3, 1) := by decide +kernel
theorem dX6_readProperties_20 : decode cX6_readProperties 20 = .ok (.iload_n 1, 1) := by decide +kernel
theorem dX6_readProperties_21 : decode cX6_readProperties 21 = .ok (.sipush 225, 3) := by decide +kernel
theorem dX6_readProperties_24 : decode cX6_readProperties 24 = .ok (.if_icmp .ge 10, 3) := by decide +kernel
theorem dX6_readProperties_27 : decode cX6_readProperties 27 = .ok (.iload_n 2, 1) := by decide +kernel
theorem dX6_readProperties_28 : decode cX6_readProperties 28 = .ok (.iload_n 3, 1) := by decide +kernel
theorem dX6_readProperties_29 : decode cX6_readProperties 29 = .ok (.iadd, 1) := by decide +kernel
theorem dX6_readProperties_30 : decode cX6_readProperties 30 = .ok (.iconst 4, 1) := by decide +kernel
theorem dX6_readProperties_31 : decode cX6_readProperties 31 = .ok (.if_icmp .le 11, 3) := by decide +kernel
theorem dX6_readProperties_34 : decode cX6_readProperties 34 = .ok (.aload_n 0, 1) := by decide +kernel
theorem dX6_readProperties_35 : decode cX6_readProperties 35 = .ok (.getfield 9, 3) := by decide +kernel
theorem dX6_readProperties_38 : decode cX6_readProperties 38 = .ok (.iconst 3, 1) := by decide +kernel
theorem dX6_readProperties_39 : decode cX6_readProperties 39 = .ok (.invokevirtual 85, 3) := by decide +kernel
theorem dX6_readProperties_42 : decode cX6_readProperties 42 = .ok (.aload_n 0, 1) := by decide +kernel
theorem dX6_readProperties_43 : decode cX6_readProperties 43 = .ok (.getfield 19, 3) := by decide +kernel
theorem dX6_readProperties_46 : decode cX6_readProperties 46 = .ok (.iload_n 2, 1) := by decide +kernel
theorem dX6_readProperties_47 : decode cX6_readProperties 47 = .ok (.iload_n 3, 1) := by decide +kernel
theorem dX6_readProperties_48 : decode cX6_readProperties 48 = .ok (.iload_n 1, 1) := by decide +kernel
theorem dX6_readProperties_49 : decode cX6_readProperties 49 = .ok (.bipush 45, 2) := by decide +kernel
theorem dX6_readProperties_51 : decode cX6_readProperties 51 = .ok (.idiv, 1) := by decide +kernel
theorem dX6_readProperties_52 : decode cX6_readProperties 52 = .ok (.invokevirtual 62, 3) := by decide +kernel
theorem dX6_readProperties_55 : decode cX6_readProperties 55 = .ok (.return_, 1) := by decide +kernel
theorem dX6_readChunks_0 : decode cX6_readChunks 0 = .ok (.aload_n 0, 1) := by decide +kernel
theorem dX6_readChunks_1 : decode cX6_readChunks 1 = .ok (.aload_n 0, 1) := by decide +kernel
theorem dX6_readChunks_2 : decode cX6_readChunks 2 = .ok (.getfield 15, 3) := by decide +kernel
theorem dX6_readChunks_5 : decode cX6_readChunks 5 = .ok (.getfield 53, 3) := by decide +kernel
theorem dX6_readChunks_8 : decode cX6_readChunks 8 = .ok (.putfield 185, 3) := by decide +kernel
theorem dX6_readChunks_11 : decode cX6_readChunks 11 = .ok (.aload_n 0, 1) := by decide +kernel
theorem dX6_readChunks_12 : decode cX6_readChunks 12 = .ok (.aload_n 0, 1) := by decide +kernel
theorem dX6_readChunks_13 : decode cX6_readChunks 13 = .ok (.getfield 15, 3) := by decide +kernel
theorem dX6_readChunks_16 : decode cX6_readChunks 16 = .ok (.getfield 53, 3) := by decide +kernel
theorem dX6_readChunks_19 : decode cX6_readChunks 19 = .ok (.putfield 75, 3) := by decide +kernel
theorem dX6_readChunks_22 : decode cX6_readChunks 22 = .ok (.aload_n 0, 1) := by decide +kernel
theorem dX6_readChunks_23 : decode cX6_readChunks 23 = .ok (.aload_n 0, 1) := by decide +kernel
theorem dX6_readChunks_24 : decode cX6_readChunks 24 = .ok (.getfield 9, 3) := by decide +kernel
theorem dX6_readChunks_27 : decode cX6_readChunks 27 = .ok (.getfield 88, 3) := by decide +kernel
theorem dX6_readChunks_30 : decode cX6_readChunks 30 = .ok (.putfield 188, 3) := by decide +kernel
theorem dX6_readChunks_33 : decode cX6_readChunks 33 = .ok (.aload_n 0, 1) := by decide +kernel
theorem dX6_readChunks_34 : decode cX6_readChunks 34 = .ok (.iconst 0, 1) := by decide +kernel
theorem dX6_readChunks_35 : decode cX6_readChunks 35 = .ok (.putfield 191, 3) := by decide +kernel
theorem dX6_readChunks_38 : decode cX6_readChunks 38 = .ok (.aload_n 0, 1) := by decide +kernel
theorem dX6_readChunks_39 : decode cX6_readChunks 39 = .ok (.getfield 19, 3) := by decide +kernel
theorem dX6_readChunks_42 : decode cX6_readChunks 42 = .ok (.invokevirtual 68, 3) := by decide +kernel
theorem dX6_readChunks_45 : decode cX6_readChunks 45 = .ok (.iconst 3, 1) := by decide +kernel
theorem dX6_readChunks_46 : decode cX6_readChunks 46 = .ok (.istore_n 1, 1) := by decide +kernel
theorem dX6_readChunks_47 : decode cX6_readChunks 47 = .ok (.aload_n 0, 1) := by decide +kernel
theorem dX6_readChunks_48 : decode cX6_readChunks 48 = .ok (.getfield 9, 3) := by decide +kernel
theorem dX6_readChunks_51 : decode cX6_readChunks 51 = .ok (.invokevirtual 124, 3) := by decide +kernel
theorem dX6_readChunks_54 : decode cX6_readChunks 54 = .ok (.istore_n 2, 1) := by decide +kernel
theorem dX6_readChunks_55 : decode cX6_readChunks 55 = .ok (.iconst 0, 1) := by decide +kernel
theorem dX6_readChunks_56 : decode cX6_readChunks 56 = .ok (.istore_n 3, 1) := by decide +kernel
theorem dX6_readChunks_57 : decode cX6_readChunks 57 = .ok (.iload_n 3, 1) := by decide +kernel
theorem dX6_readChunks_58 : decode cX6_readChunks 58 = .ok (.sipush 1500, 3) := by decide +kernel
theorem dX6_readChunks_61 : decode cX6_readChunks 61 = .ok (.if_icmp .ge 90, 3) := by decide +kernel
theorem dX6_readChunks_64 : decode cX6_readChunks 64 = .ok (.iload_n 2, 1) := by decide +kernel
theorem dX6_readChunks_65 : decode cX6_readChunks 65 = .ok (.ifCond .eq 86, 3) := by decide +kernel
theorem dX6_readChunks_68 : decode cX6_readChunks 68 = .ok (.aload_n 0, 1) := by decide +kernel
theorem dX6_readChunks_69 : decode cX6_readChunks 69 = .ok (.iload_n 2, 1) := by decide +kernel
theorem dX6_readChunks_70 : decode cX6_readChunks 70 = .ok (.iload_n 1, 1) := by decide +kernel
theorem dX6_readChunks_71 : decode cX6_readChunks 71 = .ok (.invokevirtual 194, 3) := by decide +kernel
theorem dX6_readChunks_74 : decode cX6_readChunks 74 = .ok (.iload_n 2, 1) := by decide +kernel
theorem dX6_readChunks_75 : decode cX6_readChunks 75 = .ok (.sipush 128, 3) := by decide +kernel
theorem dX6_readChunks_78 : decode cX6_readChunks 78 = .ok (.if_icmp .ge 26, 3) := by decide +kernel
theorem dX6_readChunks_81 : decode cX6_readChunks 81 = .ok (.aload_n 0, 1) := by decide +kernel
theorem dX6_readChunks_82 : decode cX6_readChunks 82 = .ok (.iload_n 2, 1) := by decide +kernel
theorem dX6_readChunks_83 : decode cX6_readChunks 83 = .ok (.invokevirtual 198, 3) := by decide +kernel
theorem dX6_readChunks_86 : decode cX6_readChunks 86 = .ok (.iload_n 2, 1) := by decide +kernel
theorem dX6_readChunks_87 : decode cX6_readChunks 87 = .ok (.iconst 1, 1) := by decide +kernel
theorem dX6_readChunks_88 : decode cX6_readChunks 88 = .ok (.if_icmp .ne 7, 3) := by decide +kernel
theorem dX6_readChunks_91 : decode cX6_readChunks 91 = .ok (.iconst 2, 1) := by decide +kernel
theorem dX6_readChunks_92 : decode cX6_readChunks 92 = .ok (.goto 8, 3) := by decide +kernel
theorem dX6_readChunks_95 : decode cX6_readChunks 95 = .ok (.iload_n 1, 1) := by decide +kernel
theorem dX6_readChunks_96 : decode cX6_readChunks 96 = .ok (.iconst 1, 1) := by decide +kernel
theorem dX6_readChunks_97 : decode cX6_readChunks 97 = .ok (.invokestatic 201, 3) := by decide +kernel
theorem dX6_readChunks_100 : decode cX6_readChunks 100 = .ok (.istore_n 1, 1) := by decide +kernel
theorem dX6_readChunks_101 : decode cX6_readChunks 101 = .ok (.goto 26, 3) := by decide +kernel
theorem dX6_readChunks_104 : decode cX6_readChunks 104 = .ok (.aload_n 0, 1) := by decide +kernel
theorem dX6_readChunks_105 : decode cX6_readChunks 105 = .ok (.aload_n 0, 1) := by decide +kernel
theorem dX6_readChunks_106 : decode cX6_readChunks 106 = .ok (.getfield 15, 3) := by decide +kernel
theorem dX6_readChunks_109 : decode cX6_readChunks 109 = .ok (.getfield 53, 3) := by decide +kernel
theorem dX6_readChunks_112 : decode cX6_readChunks 112 = .ok (.aload_n 0, 1) := by decide +kernel
theorem dX6_readChunks_113 : decode cX6_readChunks 113 = .ok (.iload_n 2, 1) := by decide +kernel
theorem dX6_readChunks_114 : decode cX6_readChunks 114 = .ok (.invokevirtual 206, 3) := by decide +kernel
theorem dX6_readChunks_117 : decode cX6_readChunks 117 = .ok (.iadd, 1) := by decide +kernel
theorem dX6_readChunks_118 : decode cX6_readChunks 118 = .ok (.invokevirtual 109, 3) := by decide +kernel
theorem dX6_readChunks_121 : decode cX6_readChunks 121 = .ok (.aload_n 0, 1) := by decide +kernel
theorem dX6_readChunks_122 : decode cX6_readChunks 122 = .ok (.invokevirtual 209, 3) := by decide +kernel
theorem dX6_readChunks_125 : decode cX6_readChunks 125 = .ok (.iconst 0, 1) := by decide +kernel
theorem dX6_readChunks_126 : decode cX6_readChunks 126 = .ok (.istore_n 1, 1) := by decide +kernel
theorem dX6_readChunks_127 : decode cX6_readChunks 127 = .ok (.aload_n 0, 1) := by decide +kernel
theorem dX6_readChunks_128 : decode cX6_readChunks 128 = .ok (.dup, 1) := by decide +kernel
theorem dX6_readChunks_129 : decode cX6_readChunks 129 = .ok (.getfield 191, 3) := by decide +kernel
theorem dX6_readChunks_132 : decode cX6_readChunks 132 = .ok (.iconst 1, 1) := by decide +kernel
theorem dX6_readChunks_133 : decode cX6_readChunks 133 = .ok (.iadd, 1) := by decide +kernel
theorem dX6_readChunks_134 : decode cX6_readChunks 134 = .ok (.putfield 191, 3) := by decide +kernel
theorem dX6_readChunks_137 : decode cX6_readChunks 137 = .ok (.aload_n 0, 1) := by decide +kernel
theorem dX6_readChunks_138 : decode cX6_readChunks 138 = .ok (.getfield 9, 3) := by decide +kernel
theorem dX6_readChunks_141 : decode cX6_readChunks 141 = .ok (.invokevirtual 124, 3) := by decide +kernel
theorem dX6_readChunks_144 : decode cX6_readChunks 144 = .ok (.istore_n 2, 1) := by decide +kernel
theorem dX6_readChunks_145 : decode cX6_readChunks 145 = .ok (.iinc 3 1, 3) := by decide +kernel
theorem dX6_readChunks_148 : decode cX6_readChunks 148 = .ok (.goto (-91), 3) := by decide +kernel
theorem dX6_readChunks_151 : decode cX6_readChunks 151 = .ok (.aload_n 0, 1) := by decide +kernel
theorem dX6_readChunks_152 : decode cX6_readChunks 152 = .ok (.aload_n 0, 1) := by decide +kernel
theorem dX6_readChunks_153 : decode cX6_readChunks 153 = .ok (.getfield 9, 3) := by decide +kernel
theorem dX6_readChunks_156 : decode cX6_readChunks 156 = .ok (.getfield 88, 3) := by decide +kernel
theorem dX6_readChunks_159 : decode cX6_readChunks 159 = .ok (.aload_n 0, 1) := by decide +kernel
theorem dX6_readChunks_160 : decode cX6_readChunks 160 = .ok (.getfield 188, 3) := by decide +kernel
theorem dX6_readChunks_163 : decode cX6_readChunks 163 = .ok (.isub, 1) := by decide +kernel
theorem dX6_readChunks_164 : decode cX6_readChunks 164 = .ok (.putfield 212, 3) := by decide +kernel
theorem dX6_readChunks_167 : decode cX6_readChunks 167 = .ok (.return_, 1) := by decide +kernel
theorem dX6_readStart_0 : decode cX6_readStart 0 = .ok (.aload_n 0, 1) := by decide +kernel
theorem dX6_readStart_1 : decode cX6_readStart 1 = .ok (.sipush 253, 3) := by decide +kernel
theorem dX6_readStart_4 : decode cX6_readStart 4 = .ok (.iconst 2, 1) := by decide +kernel
theorem dX6_readStart_5 : decode cX6_readStart 5 = .ok (.invokevirtual 231, 3) := by decide +kernel
theorem dX6_readStart_8 : decode cX6_readStart 8 = .ok (.aload_n 0, 1) := by decide +kernel
theorem dX6_readStart_9 : decode cX6_readStart 9 = .ok (.bipush 55, 2) := by decide +kernel
theorem dX6_readStart_11 : decode cX6_readStart 11 = .ok (.iconst 2, 1) := by decide +kernel
theorem dX6_readStart_12 : decode cX6_readStart 12 = .ok (.invokevirtual 231, 3) := by decide +kernel
theorem dX6_readStart_15 : decode cX6_readStart 15 = .ok (.aload_n 0, 1) := by decide +kernel
theorem dX6_readStart_16 : decode cX6_readStart 16 = .ok (.bipush 122, 2) := by decide +kernel
theorem dX6_readStart_18 : decode cX6_readStart 18 = .ok (.iconst 2, 1) := by decide +kernel
theorem dX6_readStart_19 : decode cX6_readStart 19 = .ok (.invokevirtual 231, 3) := by decide +kernel
theorem dX6_readStart_22 : decode cX6_readStart 22 = .ok (.aload_n 0, 1) := by decide +kernel
theorem dX6_readStart_23 : decode cX6_readStart 23 = .ok (.bipush 88, 2) := by decide +kernel
theorem dX6_readStart_25 : decode cX6_readStart 25 = .ok (.iconst 2, 1) := by decide +kernel
theorem dX6_readStart_26 : decode cX6_readStart 26 = .ok (.invokevirtual 231, 3) := by decide +kernel
theorem dX6_readStart_29 : decode cX6_readStart 29 = .ok (.aload_n 0, 1) := by decide +kernel
theorem dX6_readStart_30 : decode cX6_readStart 30 = .ok (.bipush 90, 2) := by decide +kernel
theorem dX6_readStart_32 : decode cX6_readStart 32 = .ok (.iconst 2, 1) := by decide +kernel
theorem dX6_readStart_33 : decode cX6_readStart 33 = .ok (.invokevirtual 231, 3) := by decide +kernel
theorem dX6_readStart_36 : decode cX6_readStart 36 = .ok (.aload_n 0, 1) := by decide +kernel
theorem dX6_readStart_37 : decode cX6_readStart 37 = .ok (.iconst 0, 1) := by decide +kernel
theorem dX6_readStart_38 : decode cX6_readStart 38 = .ok (.iconst 2, 1) := by decide +kernel
theorem dX6_readStart_39 : decode cX6_readStart 39 = .ok (.invokevirtual 231, 3) := by decide +kernel
theorem dX6_readStart_42 : decode cX6_readStart 42 = .ok (.aload_n 0, 1) := by decide +kernel
theorem dX6_readStart_43 : decode cX6_readStart 43 = .ok (.iconst 0, 1) := by decide +kernel
theorem dX6_readStart_44 : decode cX6_readStart 44 = .ok (.bipush 8, 2) := by decide +kernel
theorem dX6_readStart_46 : decode cX6_readStart 46 = .ok (.invokevirtual 231, 3) := by decide +kernel
theorem dX6_readStart_49 : decode cX6_readStart 49 = .ok (.aload_n 0, 1) := by decide +kernel
theorem dX6_readStart_50 : decode cX6_readStart 50 = .ok (.aload_n 0, 1) := by decide +kernel
theorem dX6_readStart_51 : decode cX6_readStart 51 = .ok (.getfield 9, 3) := by decide +kernel
theorem dX6_readStart_54 : decode cX6_readStart 54 = .ok (.invokevirtual 124, 3) := by decide +kernel
theorem dX6_readStart_57 : decode cX6_readStart 57 = .ok (.putfield 234, 3) := by decide +kernel
theorem dX6_readStart_60 : decode cX6_readStart 60 = .ok (.aload_n 0, 1) := by decide +kernel
theorem dX6_readStart_61 : decode cX6_readStart 61 = .ok (.getfield 234, 3) := by decide +kernel
theorem dX6_readStart_64 : decode cX6_readStart 64 = .ok (.invokestatic 237, 3) := by decide +kernel
theorem dX6_readStart_67 : decode cX6_readStart 67 = .ok (.ifCond .ne 12, 3) := by decide +kernel
theorem dX6_readStart_70 : decode cX6_readStart 70 = .ok (.aload_n 0, 1) := by decide +kernel
theorem dX6_readStart_71 : decode cX6_readStart 71 = .ok (.getfield 9, 3) := by decide +kernel
theorem dX6_readStart_74 : decode cX6_readStart 74 = .ok (.bipush 14, 2) := by decide +kernel
theorem dX6_readStart_76 : decode cX6_readStart 76 = .ok (.invokevirtual 85, 3) := by decide +kernel
theorem dX6_readStart_79 : decode cX6_readStart 79 = .ok (.aload_n 0, 1) := by decide +kernel
theorem dX6_readStart_80 : decode cX6_readStart 80 = .ok (.getfield 9, 3) := by decide +kernel
theorem dX6_readStart_83 : decode cX6_readStart 83 = .ok (.iconst 4, 1) := by decide +kernel
theorem dX6_readStart_84 : decode cX6_readStart 84 = .ok (.invokevirtual 97, 3) := by decide +kernel
