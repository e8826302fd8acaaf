theorem dX2_flush_8 : decode cX2_flush 8 = .ok (.invokevirtual 74, 3) := by decide +kernel
theorem dX2_flush_11 : decode cX2_flush 11 = .ok (.iinc 1 1, 3) := by decide +kernel
theorem dX2_flush_14 : decode cX2_flush 14 = .ok (.goto (-12), 3) := by decide +kernel
theorem dX2_flush_17 : decode cX2_flush 17 = .ok (.return_, 1) := by decide +kernel
theorem dX2_tree_0 : decode cX2_tree 0 = .ok (.iconst 1, 1) := by decide +kernel
theorem dX2_tree_1 : decode cX2_tree 1 = .ok (.istore 4, 2) := by decide +kernel
theorem dX2_tree_3 : decode cX2_tree 3 = .ok (.iload_n 2, 1) := by decide +kernel
theorem dX2_tree_4 : decode cX2_tree 4 = .ok (.iconst 1, 1) := by decide +kernel
theorem dX2_tree_5 : decode cX2_tree 5 = .ok (.isub, 1) := by decide +kernel
theorem dX2_tree_6 : decode cX2_tree 6 = .ok (.istore 5, 2) := by decide +kernel
theorem dX2_tree_8 : decode cX2_tree 8 = .ok (.iload 5, 2) := by decide +kernel
theorem dX2_tree_10 : decode cX2_tree 10 = .ok (.ifCond .lt 30, 3) := by decide +kernel
theorem dX2_tree_13 : decode cX2_tree 13 = .ok (.iload 4, 2) := by decide +kernel
theorem dX2_tree_15 : decode cX2_tree 15 = .ok (.iconst 1, 1) := by decide +kernel
theorem dX2_tree_16 : decode cX2_tree 16 = .ok (.ishl, 1) := by decide +kernel
theorem dX2_tree_17 : decode cX2_tree 17 = .ok (.aload_n 0, 1) := by decide +kernel
theorem dX2_tree_18 : decode cX2_tree 18 = .ok (.iload_n 1, 1) := by decide +kernel
theorem dX2_tree_19 : decode cX2_tree 19 = .ok (.iload 4, 2) := by decide +kernel
theorem dX2_tree_21 : decode cX2_tree 21 = .ok (.iadd, 1) := by decide +kernel
theorem dX2_tree_22 : decode cX2_tree 22 = .ok (.iload_n 3, 1) := by decide +kernel
theorem dX2_tree_23 : decode cX2_tree 23 = .ok (.iload 5, 2) := by decide +kernel
theorem dX2_tree_25 : decode cX2_tree 25 = .ok (.ishr, 1) := by decide +kernel
theorem dX2_tree_26 : decode cX2_tree 26 = .ok (.iconst 1, 1) := by decide +kernel
theorem dX2_tree_27 : decode cX2_tree 27 = .ok (.iand, 1) := by decide +kernel
theorem dX2_tree_28 : decode cX2_tree 28 = .ok (.invokevirtual 91, 3) := by decide +kernel
theorem dX2_tree_31 : decode cX2_tree 31 = .ok (.ior, 1) := by decide +kernel
theorem dX2_tree_32 : decode cX2_tree 32 = .ok (.istore 4, 2) := by decide +kernel
theorem dX2_tree_34 : decode cX2_tree 34 = .ok (.iinc 5 (-1), 3) := by decide +kernel
theorem dX2_tree_37 : decode cX2_tree 37 = .ok (.goto (-29), 3) := by decide +kernel
theorem dX2_tree_40 : decode cX2_tree 40 = .ok (.iload 4, 2) := by decide +kernel
theorem dX2_tree_42 : decode cX2_tree 42 = .ok (.iconst 1, 1) := by decide +kernel
theorem dX2_tree_43 : decode cX2_tree 43 = .ok (.iload_n 2, 1) := by decide +kernel
theorem dX2_tree_44 : decode cX2_tree 44 = .ok (.ishl, 1) := by decide +kernel
theorem dX2_tree_45 : decode cX2_tree 45 = .ok (.isub, 1) := by decide +kernel
theorem dX2_tree_46 : decode cX2_tree 46 = .ok (.ireturn, 1) := by decide +kernel
theorem dX2_turned_0 : decode cX2_turned 0 = .ok (.iconst 1, 1) := by decide +kernel
theorem dX2_turned_1 : decode cX2_turned 1 = .ok (.istore 4, 2) := by decide +kernel
theorem dX2_turned_3 : decode cX2_turned 3 = .ok (.iconst 0, 1) := by decide +kernel
theorem dX2_turned_4 : decode cX2_turned 4 = .ok (.istore 5, 2) := by decide +kernel
theorem dX2_turned_6 : decode cX2_turned 6 = .ok (.iconst 0, 1) := by decide +kernel
theorem dX2_turned_7 : decode cX2_turned 7 = .ok (.istore 6, 2) := by decide +kernel
theorem dX2_turned_9 : decode cX2_turned 9 = .ok (.iload 6, 2) := by decide +kernel
theorem dX2_turned_11 : decode cX2_turned 11 = .ok (.iload_n 2, 1) := by decide +kernel
theorem dX2_turned_12 : decode cX2_turned 12 = .ok (.if_icmp .ge 44, 3) := by decide +kernel
theorem dX2_turned_15 : decode cX2_turned 15 = .ok (.aload_n 0, 1) := by decide +kernel
theorem dX2_turned_16 : decode cX2_turned 16 = .ok (.iload_n 1, 1) := by decide +kernel
theorem dX2_turned_17 : decode cX2_turned 17 = .ok (.iload 4, 2) := by decide +kernel
theorem dX2_turned_19 : decode cX2_turned 19 = .ok (.iadd, 1) := by decide +kernel
theorem dX2_turned_20 : decode cX2_turned 20 = .ok (.iload_n 3, 1) := by decide +kernel
theorem dX2_turned_21 : decode cX2_turned 21 = .ok (.iload 6, 2) := by decide +kernel
theorem dX2_turned_23 : decode cX2_turned 23 = .ok (.ishr, 1) := by decide +kernel
theorem dX2_turned_24 : decode cX2_turned 24 = .ok (.iconst 1, 1) := by decide +kernel
theorem dX2_turned_25 : decode cX2_turned 25 = .ok (.iand, 1) := by decide +kernel
theorem dX2_turned_26 : decode cX2_turned 26 = .ok (.invokevirtual 91, 3) := by decide +kernel
theorem dX2_turned_29 : decode cX2_turned 29 = .ok (.istore 7, 2) := by decide +kernel
theorem dX2_turned_31 : decode cX2_turned 31 = .ok (.iload 4, 2) := by decide +kernel
theorem dX2_turned_33 : decode cX2_turned 33 = .ok (.iconst 1, 1) := by decide +kernel
theorem dX2_turned_34 : decode cX2_turned 34 = .ok (.ishl, 1) := by decide +kernel
theorem dX2_turned_35 : decode cX2_turned 35 = .ok (.iload 7, 2) := by decide +kernel
theorem dX2_turned_37 : decode cX2_turned 37 = .ok (.ior, 1) := by decide +kernel
theorem dX2_turned_38 : decode cX2_turned 38 = .ok (.istore 4, 2) := by decide +kernel
theorem dX2_turned_40 : decode cX2_turned 40 = .ok (.iload 5, 2) := by decide +kernel
theorem dX2_turned_42 : decode cX2_turned 42 = .ok (.iload 7, 2) := by decide +kernel
theorem dX2_turned_44 : decode cX2_turned 44 = .ok (.iload 6, 2) := by decide +kernel
theorem dX2_turned_46 : decode cX2_turned 46 = .ok (.ishl, 1) := by decide +kernel
theorem dX2_turned_47 : decode cX2_turned 47 = .ok (.ior, 1) := by decide +kernel
theorem dX2_turned_48 : decode cX2_turned 48 = .ok (.istore 5, 2) := by decide +kernel
theorem dX2_turned_50 : decode cX2_turned 50 = .ok (.iinc 6 1, 3) := by decide +kernel
theorem dX2_turned_53 : decode cX2_turned 53 = .ok (.goto (-44), 3) := by decide +kernel
theorem dX2_turned_56 : decode cX2_turned 56 = .ok (.iload 5, 2) := by decide +kernel
theorem dX2_turned_58 : decode cX2_turned 58 = .ok (.ireturn, 1) := by decide +kernel
theorem dX2_plain_0 : decode cX2_plain 0 = .ok (.lconst 0, 1) := by decide +kernel
theorem dX2_plain_1 : decode cX2_plain 1 = .ok (.lstore 4, 2) := by decide +kernel
theorem dX2_plain_3 : decode cX2_plain 3 = .ok (.iload_n 1, 1) := by decide +kernel
theorem dX2_plain_4 : decode cX2_plain 4 = .ok (.iconst 1, 1) := by decide +kernel
theorem dX2_plain_5 : decode cX2_plain 5 = .ok (.isub, 1) := by decide +kernel
theorem dX2_plain_6 : decode cX2_plain 6 = .ok (.istore 6, 2) := by decide +kernel
theorem dX2_plain_8 : decode cX2_plain 8 = .ok (.iload 6, 2) := by decide +kernel
theorem dX2_plain_10 : decode cX2_plain 10 = .ok (.ifCond .lt 28, 3) := by decide +kernel
theorem dX2_plain_13 : decode cX2_plain 13 = .ok (.lload 4, 2) := by decide +kernel
theorem dX2_plain_15 : decode cX2_plain 15 = .ok (.iconst 1, 1) := by decide +kernel
theorem dX2_plain_16 : decode cX2_plain 16 = .ok (.lshl, 1) := by decide +kernel
theorem dX2_plain_17 : decode cX2_plain 17 = .ok (.aload_n 0, 1) := by decide +kernel
theorem dX2_plain_18 : decode cX2_plain 18 = .ok (.lload_n 2, 1) := by decide +kernel
theorem dX2_plain_19 : decode cX2_plain 19 = .ok (.iload 6, 2) := by decide +kernel
theorem dX2_plain_21 : decode cX2_plain 21 = .ok (.lushr, 1) := by decide +kernel
theorem dX2_plain_22 : decode cX2_plain 22 = .ok (.l2i, 1) := by decide +kernel
theorem dX2_plain_23 : decode cX2_plain 23 = .ok (.iconst 1, 1) := by decide +kernel
theorem dX2_plain_24 : decode cX2_plain 24 = .ok (.iand, 1) := by decide +kernel
theorem dX2_plain_25 : decode cX2_plain 25 = .ok (.invokevirtual 95, 3) := by decide +kernel
theorem dX2_plain_28 : decode cX2_plain 28 = .ok (.i2l, 1) := by decide +kernel
theorem dX2_plain_29 : decode cX2_plain 29 = .ok (.lor, 1) := by decide +kernel
theorem dX2_plain_30 : decode cX2_plain 30 = .ok (.lstore 4, 2) := by decide +kernel
theorem dX2_plain_32 : decode cX2_plain 32 = .ok (.iinc 6 (-1), 3) := by decide +kernel
theorem dX2_plain_35 : decode cX2_plain 35 = .ok (.goto (-27), 3) := by decide +kernel
theorem dX2_plain_38 : decode cX2_plain 38 = .ok (.lload 4, 2) := by decide +kernel
theorem dX2_plain_40 : decode cX2_plain 40 = .ok (.lreturn, 1) := by decide +kernel
theorem dX3_init_0 : decode cX3_init 0 = .ok (.aload_n 0, 1) := by decide +kernel
theorem dX3_init_1 : decode cX3_init 1 = .ok (.invokespecial 3, 3) := by decide +kernel
theorem dX3_init_4 : decode cX3_init 4 = .ok (.aload_n 0, 1) := by decide +kernel
theorem dX3_init_5 : decode cX3_init 5 = .ok (.aload_n 1, 1) := by decide +kernel
theorem dX3_init_6 : decode cX3_init 6 = .ok (.putfield 9, 3) := by decide +kernel
theorem dX3_init_9 : decode cX3_init 9 = .ok (.aload_n 0, 1) := by decide +kernel
theorem dX3_init_10 : decode cX3_init 10 = .ok (.iconst 4, 1) := by decide +kernel
theorem dX3_init_11 : decode cX3_init 11 = .ok (.newarray .int, 2) := by decide +kernel
theorem dX3_init_13 : decode cX3_init 13 = .ok (.putfield 15, 3) := by decide +kernel
theorem dX3_init_16 : decode cX3_init 16 = .ok (.aload_n 0, 1) := by decide +kernel
theorem dX3_init_17 : decode cX3_init 17 = .ok (.iconst 4, 1) := by decide +kernel
theorem dX3_init_18 : decode cX3_init 18 = .ok (.newarray .int, 2) := by decide +kernel
theorem dX3_init_20 : decode cX3_init 20 = .ok (.putfield 19, 3) := by decide +kernel
theorem dX3_init_23 : decode cX3_init 23 = .ok (.return_, 1) := by decide +kernel
theorem dX3_readSizes_0 : decode cX3_readSizes 0 = .ok (.aload_n 0, 1) := by decide +kernel
theorem dX3_readSizes_1 : decode cX3_readSizes 1 = .ok (.invokevirtual 22, 3) := by decide +kernel
theorem dX3_readSizes_4 : decode cX3_readSizes 4 = .ok (.istore_n 1, 1) := by decide +kernel
theorem dX3_readSizes_5 : decode cX3_readSizes 5 = .ok (.iload_n 1, 1) := by decide +kernel
theorem dX3_readSizes_6 : decode cX3_readSizes 6 = .ok (.bipush 60, 2) := by decide +kernel
theorem dX3_readSizes_8 : decode cX3_readSizes 8 = .ok (.iand, 1) := by decide +kernel
theorem dX3_readSizes_9 : decode cX3_readSizes 9 = .ok (.ifCond .eq 12, 3) := by decide +kernel
theorem dX3_readSizes_12 : decode cX3_readSizes 12 = .ok (.aload_n 0, 1) := by decide +kernel
theorem dX3_readSizes_13 : decode cX3_readSizes 13 = .ok (.getfield 9, 3) := by decide +kernel
theorem dX3_readSizes_16 : decode cX3_readSizes 16 = .ok (.bipush 8, 2) := by decide +kernel
theorem dX3_readSizes_18 : decode cX3_readSizes 18 = .ok (.invokevirtual 26, 3) := by decide +kernel
theorem dX3_readSizes_21 : decode cX3_readSizes 21 = .ok (.aload_n 0, 1) := by decide +kernel
theorem dX3_readSizes_22 : decode cX3_readSizes 22 = .ok (.iload_n 1, 1) := by decide +kernel
theorem dX3_readSizes_23 : decode cX3_readSizes 23 = .ok (.iconst 3, 1) := by decide +kernel
theorem dX3_readSizes_24 : decode cX3_readSizes 24 = .ok (.iand, 1) := by decide +kernel
theorem dX3_readSizes_25 : decode cX3_readSizes 25 = .ok (.iconst 1, 1) := by decide +kernel
theorem dX3_readSizes_26 : decode cX3_readSizes 26 = .ok (.iadd, 1) := by decide +kernel
theorem dX3_readSizes_27 : decode cX3_readSizes 27 = .ok (.putfield 32, 3) := by decide +kernel
theorem dX3_readSizes_30 : decode cX3_readSizes 30 = .ok (.aload_n 0, 1) := by decide +kernel
theorem dX3_readSizes_31 : decode cX3_readSizes 31 = .ok (.iload_n 1, 1) := by decide +kernel
theorem dX3_readSizes_32 : decode cX3_readSizes 32 = .ok (.bipush 64, 2) := by decide +kernel
theorem dX3_readSizes_34 : decode cX3_readSizes 34 = .ok (.iand, 1) := by decide +kernel
theorem dX3_readSizes_35 : decode cX3_readSizes 35 = .ok (.ifCond .eq 10, 3) := by decide +kernel
theorem dX3_readSizes_38 : decode cX3_readSizes 38 = .ok (.aload_n 0, 1) := by decide +kernel
theorem dX3_readSizes_39 : decode cX3_readSizes 39 = .ok (.invokevirtual 36, 3) := by decide +kernel
theorem dX3_readSizes_42 : decode cX3_readSizes 42 = .ok (.goto 6, 3) := by decide +kernel
theorem dX3_readSizes_45 : decode cX3_readSizes 45 = .ok (.ldc2_w 40, 3) := by decide +kernel
theorem dX3_readSizes_48 : decode cX3_readSizes 48 = .ok (.putfield 42, 3) := by decide +kernel
theorem dX3_readSizes_51 : decode cX3_readSizes 51 = .ok (.aload_n 0, 1) := by decide +kernel
theorem dX3_readSizes_52 : decode cX3_readSizes 52 = .ok (.iload_n 1, 1) := by decide +kernel
theorem dX3_readSizes_53 : decode cX3_readSizes 53 = .ok (.sipush 128, 3) := by decide +kernel
theorem dX3_readSizes_56 : decode cX3_readSizes 56 = .ok (.iand, 1) := by decide +kernel
theorem dX3_readSizes_57 : decode cX3_readSizes 57 = .ok (.ifCond .eq 10, 3) := by decide +kernel
theorem dX3_readSizes_60 : decode cX3_readSizes 60 = .ok (.aload_n 0, 1) := by decide +kernel
theorem dX3_readSizes_61 : decode cX3_readSizes 61 = .ok (.invokevirtual 36, 3) := by decide +kernel
theorem dX3_readSizes_64 : decode cX3_readSizes 64 = .ok (.goto 6, 3) := by decide +kernel
theorem dX3_readSizes_67 : decode cX3_readSizes 67 = .ok (.ldc2_w 40, 3) := by decide +kernel
theorem dX3_readSizes_70 : decode cX3_readSizes 70 = .ok (.putfield 46, 3) := by decide +kernel
theorem dX3_readSizes_73 : decode cX3_readSizes 73 = .ok (.return_, 1) := by decide +kernel
theorem dX3_readFilters_0 : decode cX3_readFilters 0 = .ok (.iconst 0, 1) := by decide +kernel
theorem dX3_readFilters_1 : decode cX3_readFilters 1 = .ok (.istore_n 1, 1) := by decide +kernel
theorem dX3_readFilters_2 : decode cX3_readFilters 2 = .ok (.iload_n 1, 1) := by decide +kernel
theorem dX3_readFilters_3 : decode cX3_readFilters 3 = .ok (.aload_n 0, 1) := by decide +kernel
theorem dX3_readFilters_4 : decode cX3_readFilters 4 = .ok (.getfield 32, 3) := by decide +kernel
theorem dX3_readFilters_7 : decode cX3_readFilters 7 = .ok (.if_icmp .ge 31, 3) := by decide +kernel
theorem dX3_readFilters_10 : decode cX3_readFilters 10 = .ok (.aload_n 0, 1) := by decide +kernel
theorem dX3_readFilters_11 : decode cX3_readFilters 11 = .ok (.iload_n 1, 1) := by decide +kernel
theorem dX3_readFilters_12 : decode cX3_readFilters 12 = .ok (.iconst 3, 1) := by decide +kernel
theorem dX3_readFilters_13 : decode cX3_readFilters 13 = .ok (.iand, 1) := by decide +kernel
theorem dX3_readFilters_14 : decode cX3_readFilters 14 = .ok (.iload_n 1, 1) := by decide +kernel
theorem dX3_readFilters_15 : decode cX3_readFilters 15 = .ok (.aload_n 0, 1) := by decide +kernel
theorem dX3_readFilters_16 : decode cX3_readFilters 16 = .ok (.getfield 32, 3) := by decide +kernel
theorem dX3_readFilters_19 : decode cX3_readFilters 19 = .ok (.iconst 1, 1) := by decide +kernel
theorem dX3_readFilters_20 : decode cX3_readFilters 20 = .ok (.isub, 1) := by decide +kernel
theorem dX3_readFilters_21 : decode cX3_readFilters 21 = .ok (.if_icmp .ne 7, 3) := by decide +kernel
theorem dX3_readFilters_24 : decode cX3_readFilters 24 = .ok (.iconst 1, 1) := by decide +kernel
theorem dX3_readFilters_25 : decode cX3_readFilters 25 = .ok (.goto 4, 3) := by decide +kernel
theorem dX3_readFilters_28 : decode cX3_readFilters 28 = .ok (.iconst 0, 1) := by decide +kernel
theorem dX3_readFilters_29 : decode cX3_readFilters 29 = .ok (.invokevirtual 49, 3) := by decide +kernel
theorem dX3_readFilters_32 : decode cX3_readFilters 32 = .ok (.iinc 1 1, 3) := by decide +kernel
theorem dX3_readFilters_35 : decode cX3_readFilters 35 = .ok (.goto (-33), 3) := by decide +kernel
theorem dX3_readFilters_38 : decode cX3_readFilters 38 = .ok (.return_, 1) := by decide +kernel
theorem dX3_readFilter_0 : decode cX3_readFilter 0 = .ok (.aload_n 0, 1) := by decide +kernel
theorem dX3_readFilter_1 : decode cX3_readFilter 1 = .ok (.invokevirtual 36, 3) := by decide +kernel
theorem dX3_readFilter_4 : decode cX3_readFilter 4 = .ok (.lstore_n 3, 1) := by decide +kernel
theorem dX3_readFilter_5 : decode cX3_readFilter 5 = .ok (.iload_n 2, 1) := by decide +kernel
theorem dX3_readFilter_6 : decode cX3_readFilter 6 = .ok (.ifCond .eq 14, 3) := by decide +kernel
theorem dX3_readFilter_9 : decode cX3_readFilter 9 = .ok (.lload_n 3, 1) := by decide +kernel
theorem dX3_readFilter_10 : decode cX3_readFilter 10 = .ok (.ldc2_w 53, 3) := by decide +kernel
theorem dX3_readFilter_13 : decode cX3_readFilter 13 = .ok (.lcmp, 1) := by decide +kernel
theorem dX3_readFilter_14 : decode cX3_readFilter 14 = .ok (.ifCond .eq 31, 3) := by decide +kernel
theorem dX3_readFilter_17 : decode cX3_readFilter 17 = .ok (.goto 19, 3) := by decide +kernel
theorem dX3_readFilter_20 : decode cX3_readFilter 20 = .ok (.lload_n 3, 1) := by decide +kernel
theorem dX3_readFilter_21 : decode cX3_readFilter 21 = .ok (.ldc2_w 55, 3) := by decide +kernel
theorem dX3_readFilter_24 : decode cX3_readFilter 24 = .ok (.lcmp, 1) := by decide +kernel
theorem dX3_readFilter_25 : decode cX3_readFilter 25 = .ok (.ifCond .eq 20, 3) := by decide +kernel
theorem dX3_readFilter_28 : decode cX3_readFilter 28 = .ok (.lload_n 3, 1) := by decide +kernel
theorem dX3_readFilter_29 : decode cX3_readFilter 29 = .ok (.ldc2_w 57, 3) := by decide +kernel
theorem dX3_readFilter_32 : decode cX3_readFilter 32 = .ok (.lcmp, 1) := by decide +kernel
theorem dX3_readFilter_33 : decode cX3_readFilter 33 = .ok (.ifCond .eq 12, 3) := by decide +kernel
theorem dX3_readFilter_36 : decode cX3_readFilter 36 = .ok (.aload_n 0, 1) := by decide +kernel
theorem dX3_readFilter_37 : decode cX3_readFilter 37 = .ok (.getfield 9, 3) := by decide +kernel
theorem dX3_readFilter_40 : decode cX3_readFilter 40 = .ok (.bipush 8, 2) := by decide +kernel
theorem dX3_readFilter_42 : decode cX3_readFilter 42 = .ok (.invokevirtual 26, 3) := by decide +kernel
theorem dX3_readFilter_45 : decode cX3_readFilter 45 = .ok (.lload_n 3, 1) := by decide +kernel
theorem dX3_readFilter_46 : decode cX3_readFilter 46 = .ok (.ldc2_w 57, 3) := by decide +kernel
theorem dX3_readFilter_49 : decode cX3_readFilter 49 = .ok (.lcmp, 1) := by decide +kernel
theorem dX3_readFilter_50 : decode cX3_readFilter 50 = .ok (.ifCond .ne 7, 3) := by decide +kernel
theorem dX3_readFilter_53 : decode cX3_readFilter 53 = .ok (.iconst 0, 1) := by decide +kernel
theorem dX3_readFilter_54 : decode cX3_readFilter 54 = .ok (.goto 4, 3) := by decide +kernel
theorem dX3_readFilter_57 : decode cX3_readFilter 57 = .ok (.iconst 1, 1) := by decide +kernel
theorem dX3_readFilter_58 : decode cX3_readFilter 58 = .ok (.istore 5, 2) := by decide +kernel
theorem dX3_readFilter_60 : decode cX3_readFilter 60 = .ok (.aload_n 0, 1) := by decide +kernel
theorem dX3_readFilter_61 : decode cX3_readFilter 61 = .ok (.invokevirtual 36, 3) := by decide +kernel
theorem dX3_readFilter_64 : decode cX3_readFilter 64 = .ok (.iload 5, 2) := by decide +kernel
theorem dX3_readFilter_66 : decode cX3_readFilter 66 = .ok (.i2l, 1) := by decide +kernel
theorem dX3_readFilter_67 : decode cX3_readFilter 67 = .ok (.lcmp, 1) := by decide +kernel
theorem dX3_readFilter_68 : decode cX3_readFilter 68 = .ok (.ifCond .eq 12, 3) := by decide +kernel
theorem dX3_readFilter_71 : decode cX3_readFilter 71 = .ok (.aload_n 0, 1) := by decide +kernel
theorem dX3_readFilter_72 : decode cX3_readFilter 72 = .ok (.getfield 9, 3) := by decide +kernel
theorem dX3_readFilter_75 : decode cX3_readFilter 75 = .ok (.bipush 8, 2) := by decide +kernel
theorem dX3_readFilter_77 : decode cX3_readFilter 77 = .ok (.invokevirtual 26, 3) := by decide +kernel
theorem dX3_readFilter_80 : decode cX3_readFilter 80 = .ok (.aload_n 0, 1) := by decide +kernel
theorem dX3_readFilter_81 : decode cX3_readFilter 81 = .ok (.getfield 15, 3) := by decide +kernel
theorem dX3_readFilter_84 : decode cX3_readFilter 84 = .ok (.iload_n 1, 1) := by decide +kernel
theorem dX3_readFilter_85 : decode cX3_readFilter 85 = .ok (.lload_n 3, 1) := by decide +kernel
theorem dX3_readFilter_86 : decode cX3_readFilter 86 = .ok (.l2i, 1) := by decide +kernel
theorem dX3_readFilter_87 : decode cX3_readFilter 87 = .ok (.iastore, 1) := by decide +kernel
theorem dX3_readFilter_88 : decode cX3_readFilter 88 = .ok (.aload_n 0, 1) := by decide +kernel
theorem dX3_readFilter_89 : decode cX3_readFilter 89 = .ok (.getfield 19, 3) := by decide +kernel
theorem dX3_readFilter_92 : decode cX3_readFilter 92 = .ok (.iload_n 1, 1) := by decide +kernel
theorem dX3_readFilter_93 : decode cX3_readFilter 93 = .ok (.iload 5, 2) := by decide +kernel
theorem dX3_readFilter_95 : decode cX3_readFilter 95 = .ok (.ifCond .le 10, 3) := by decide +kernel
theorem dX3_readFilter_98 : decode cX3_readFilter 98 = .ok (.aload_n 0, 1) := by decide +kernel
theorem dX3_readFilter_99 : decode cX3_readFilter 99 = .ok (.invokevirtual 22, 3) := by decide +kernel
theorem dX3_readFilter_102 : decode cX3_readFilter 102 = .ok (.goto 4, 3) := by decide +kernel
theorem dX3_readFilter_105 : decode cX3_readFilter 105 = .ok (.iconst 0, 1) := by decide +kernel
theorem dX3_readFilter_106 : decode cX3_readFilter 106 = .ok (.iastore, 1) := by decide +kernel
theorem dX3_readFilter_107 : decode cX3_readFilter 107 = .ok (.iload_n 2, 1) := by decide +kernel
theorem dX3_readFilter_108 : decode cX3_readFilter 108 = .ok (.ifCond .eq 13, 3) := by decide +kernel
theorem dX3_readFilter_111 : decode cX3_readFilter 111 = .ok (.aload_n 0, 1) := by decide +kernel
theorem dX3_readFilter_112 : decode cX3_readFilter 112 = .ok (.aload_n 0, 1) := by decide +kernel
theorem dX3_readFilter_113 : decode cX3_readFilter 113 = .ok (.getfield 19, 3) := by decide +kernel
theorem dX3_readFilter_116 : decode cX3_readFilter 116 = .ok (.iload_n 1, 1) := by decide +kernel
theorem dX3_readFilter_117 : decode cX3_readFilter 117 = .ok (.iaload, 1) := by decide +kernel
theorem dX3_readFilter_118 : decode cX3_readFilter 118 = .ok (.invokevirtual 59, 3) := by decide +kernel
theorem dX3_readFilter_121 : decode cX3_readFilter 121 = .ok (.return_, 1) := by decide +kernel
theorem dX3_readDictionary_0 : decode cX3_readDictionary 0 = .ok (.iload_n 1, 1) := by decide +kernel
theorem dX3_readDictionary_1 : decode cX3_readDictionary 1 = .ok (.bipush 40, 2) := by decide +kernel
theorem dX3_readDictionary_3 : decode cX3_readDictionary 3 = .ok (.if_icmp .le 12, 3) := by decide +kernel
theorem dX3_readDictionary_6 : decode cX3_readDictionary 6 = .ok (.aload_n 0, 1) := by decide +kernel
theorem dX3_readDictionary_7 : decode cX3_readDictionary 7 = .ok (.getfield 9, 3) := by decide +kernel
theorem dX3_readDictionary_10 : decode cX3_readDictionary 10 = .ok (.bipush 8, 2) := by decide +kernel
theorem dX3_readDictionary_12 : decode cX3_readDictionary 12 = .ok (.invokevirtual 26, 3) := by decide +kernel
theorem dX3_readDictionary_15 : decode cX3_readDictionary 15 = .ok (.aload_n 0, 1) := by decide +kernel
theorem dX3_readDictionary_16 : decode cX3_readDictionary 16 = .ok (.iload_n 1, 1) := by decide +kernel
theorem dX3_readDictionary_17 : decode cX3_readDictionary 17 = .ok (.bipush 40, 2) := by decide +kernel
theorem dX3_readDictionary_19 : decode cX3_readDictionary 19 = .ok (.if_icmp .ne 9, 3) := by decide +kernel
theorem dX3_readDictionary_22 : decode cX3_readDictionary 22 = .ok (.ldc2_w 62, 3) := by decide +kernel
theorem dX3_readDictionary_25 : decode cX3_readDictionary 25 = .ok (.goto 18, 3) := by decide +kernel
theorem dX3_readDictionary_28 : decode cX3_readDictionary 28 = .ok (.ldc2_w 64, 3) := by decide +kernel
theorem dX3_readDictionary_31 : decode cX3_readDictionary 31 = .ok (.iload_n 1, 1) := by decide +kernel
theorem dX3_readDictionary_32 : decode cX3_readDictionary 32 = .ok (.iconst 1, 1) := by decide +kernel
theorem dX3_readDictionary_33 : decode cX3_readDictionary 33 = .ok (.iand, 1) := by decide +kernel
theorem dX3_readDictionary_34 : decode cX3_readDictionary 34 = .ok (.i2l, 1) := by decide +kernel
theorem dX3_readDictionary_35 : decode cX3_readDictionary 35 = .ok (.ladd, 1) := by decide +kernel
theorem dX3_readDictionary_36 : decode cX3_readDictionary 36 = .ok (.iload_n 1, 1) := by decide +kernel
theorem dX3_readDictionary_37 : decode cX3_readDictionary 37 = .ok (.iconst 2, 1) := by decide +kernel
theorem dX3_readDictionary_38 : decode cX3_readDictionary 38 = .ok (.idiv, 1) := by decide +kernel
theorem dX3_readDictionary_39 : decode cX3_readDictionary 39 = .ok (.bipush 11, 2) := by decide +kernel
theorem dX3_readDictionary_41 : decode cX3_readDictionary 41 = .ok (.iadd, 1) := by decide +kernel
theorem dX3_readDictionary_42 : decode cX3_readDictionary 42 = .ok (.lshl, 1) := by decide +kernel
theorem dX3_readDictionary_43 : decode cX3_readDictionary 43 = .ok (.putfield 66, 3) := by decide +kernel
theorem dX3_readDictionary_46 : decode cX3_readDictionary 46 = .ok (.return_, 1) := by decide +kernel
theorem dX3_readRest_0 : decode cX3_readRest 0 = .ok (.aload_n 0, 1) := by decide +kernel
theorem dX3_readRest_1 : decode cX3_readRest 1 = .ok (.getfield 9, 3) := by decide +kernel
theorem dX3_readRest_4 : decode cX3_readRest 4 = .ok (.getfield 69, 3) := by decide +kernel
theorem dX3_readRest_7 : decode cX3_readRest 7 = .ok (.istore_n 1, 1) := by decide +kernel
theorem dX3_readRest_8 : decode cX3_readRest 8 = .ok (.iload_n 1, 1) := by decide +kernel
theorem dX3_readRest_9 : decode cX3_readRest 9 = .ok (.aload_n 0, 1) := by decide +kernel
theorem dX3_readRest_10 : decode cX3_readRest 10 = .ok (.getfield 72, 3) := by decide +kernel
theorem dX3_readRest_13 : decode cX3_readRest 13 = .ok (.aload_n 0, 1) := by decide +kernel
theorem dX3_readRest_14 : decode cX3_readRest 14 = .ok (.getfield 75, 3) := by decide +kernel
theorem dX3_readRest_17 : decode cX3_readRest 17 = .ok (.iadd, 1) := by decide +kernel
theorem dX3_readRest_18 : decode cX3_readRest 18 = .ok (.iconst 4, 1) := by decide +kernel
theorem dX3_readRest_19 : decode cX3_readRest 19 = .ok (.isub, 1) := by decide +kernel
theorem dX3_readRest_20 : decode cX3_readRest 20 = .ok (.if_icmp .ge 28, 3) := by decide +kernel
theorem dX3_readRest_23 : decode cX3_readRest 23 = .ok (.aload_n 0, 1) := by decide +kernel
theorem dX3_readRest_24 : decode cX3_readRest 24 = .ok (.getfield 9, 3) := by decide +kernel
theorem dX3_readRest_27 : decode cX3_readRest 27 = .ok (.invokevirtual 78, 3) := by decide +kernel
theorem dX3_readRest_30 : decode cX3_readRest 30 = .ok (.ifCond .eq 12, 3) := by decide +kernel
theorem dX3_readRest_33 : decode cX3_readRest 33 = .ok (.aload_n 0, 1) := by decide +kernel
theorem dX3_readRest_34 : decode cX3_readRest 34 = .ok (.getfield 9, 3) := by decide +kernel
theorem dX3_readRest_37 : decode cX3_readRest 37 = .ok (.bipush 8, 2) := by decide +kernel
theorem dX3_readRest_39 : decode cX3_readRest 39 = .ok (.invokevirtual 26, 3) := by decide +kernel
theorem dX3_readRest_42 : decode cX3_readRest 42 = .ok (.iinc 1 1, 3) := by decide +kernel
theorem dX3_readRest_45 : decode cX3_readRest 45 = .ok (.goto (-37), 3) := by decide +kernel
theorem dX3_readRest_48 : decode cX3_readRest 48 = .ok (.aload_n 0, 1) := by decide +kernel
theorem dX3_readRest_49 : decode cX3_readRest 49 = .ok (.getfield 9, 3) := by decide +kernel
theorem dX3_readRest_52 : decode cX3_readRest 52 = .ok (.getfield 81, 3) := by decide +kernel
theorem dX3_readRest_55 : decode cX3_readRest 55 = .ok (.aload_n 0, 1) := by decide +kernel
theorem dX3_readRest_56 : decode cX3_readRest 56 = .ok (.getfield 72, 3) := by decide +kernel
theorem dX3_readRest_59 : decode cX3_readRest 59 = .ok (.aload_n 0, 1) := by decide +kernel
theorem dX3_readRest_60 : decode cX3_readRest 60 = .ok (.getfield 9, 3) := by decide +kernel
theorem dX3_readRest_63 : decode cX3_readRest 63 = .ok (.getfield 69, 3) := by decide +kernel
theorem dX3_readRest_66 : decode cX3_readRest 66 = .ok (.invokestatic 85, 3) := by decide +kernel
theorem dX3_readRest_69 : decode cX3_readRest 69 = .ok (.istore_n 1, 1) := by decide +kernel
theorem dX3_readRest_70 : decode cX3_readRest 70 = .ok (.aload_n 0, 1) := by decide +kernel
theorem dX3_readRest_71 : decode cX3_readRest 71 = .ok (.getfield 9, 3) := by decide +kernel
theorem dX3_readRest_74 : decode cX3_readRest 74 = .ok (.iconst 4, 1) := by decide +kernel
theorem dX3_readRest_75 : decode cX3_readRest 75 = .ok (.invokevirtual 91, 3) := by decide +kernel
theorem dX3_readRest_78 : decode cX3_readRest 78 = .ok (.l2i, 1) := by decide +kernel
theorem dX3_readRest_79 : decode cX3_readRest 79 = .ok (.iload_n 1, 1) := by decide +kernel
theorem dX3_readRest_80 : decode cX3_readRest 80 = .ok (.if_icmp .eq 12, 3) := by decide +kernel
theorem dX3_readRest_83 : decode cX3_readRest 83 = .ok (.aload_n 0, 1) := by decide +kernel
theorem dX3_readRest_84 : decode cX3_readRest 84 = .ok (.getfield 9, 3) := by decide +kernel
theorem dX3_readRest_87 : decode cX3_readRest 87 = .ok (.bipush 9, 2) := by decide +kernel
theorem dX3_readRest_89 : decode cX3_readRest 89 = .ok (.invokevirtual 26, 3) := by decide +kernel
theorem dX3_readRest_92 : decode cX3_readRest 92 = .ok (.return_, 1) := by decide +kernel
theorem dX3_nextOfHead_0 : decode cX3_nextOfHead 0 = .ok (.aload_n 0, 1) := by decide +kernel
theorem dX3_nextOfHead_1 : decode cX3_nextOfHead 1 = .ok (.getfield 9, 3) := by decide +kernel
theorem dX3_nextOfHead_4 : decode cX3_nextOfHead 4 = .ok (.getfield 69, 3) := by decide +kernel
theorem dX3_nextOfHead_7 : decode cX3_nextOfHead 7 = .ok (.aload_n 0, 1) := by decide +kernel
theorem dX3_nextOfHead_8 : decode cX3_nextOfHead 8 = .ok (.getfield 72, 3) := by decide +kernel
theorem dX3_nextOfHead_11 : decode cX3_nextOfHead 11 = .ok (.aload_n 0, 1) := by decide +kernel
theorem dX3_nextOfHead_12 : decode cX3_nextOfHead 12 = .ok (.getfield 75, 3) := by decide +kernel
theorem dX3_nextOfHead_15 : decode cX3_nextOfHead 15 = .ok (.iadd, 1) := by decide +kernel
theorem dX3_nextOfHead_16 : decode cX3_nextOfHead 16 = .ok (.iconst 4, 1) := by decide +kernel
theorem dX3_nextOfHead_17 : decode cX3_nextOfHead 17 = .ok (.isub, 1) := by decide +kernel
theorem dX3_nextOfHead_18 : decode cX3_nextOfHead 18 = .ok (.if_icmp .lt 12, 3) := by decide +kernel
theorem dX3_nextOfHead_21 : decode cX3_nextOfHead 21 = .ok (.aload_n 0, 1) := by decide +kernel
theorem dX3_nextOfHead_22 : decode cX3_nextOfHead 22 = .ok (.getfield 9, 3) := by decide +kernel
theorem dX3_nextOfHead_25 : decode cX3_nextOfHead 25 = .ok (.bipush 8, 2) := by decide +kernel
theorem dX3_nextOfHead_27 : decode cX3_nextOfHead 27 = .ok (.invokevirtual 26, 3) := by decide +kernel
theorem dX3_nextOfHead_30 : decode cX3_nextOfHead 30 = .ok (.aload_n 0, 1) := by decide +kernel
theorem dX3_nextOfHead_31 : decode cX3_nextOfHead 31 = .ok (.getfield 9, 3) := by decide +kernel
theorem dX3_nextOfHead_34 : decode cX3_nextOfHead 34 = .ok (.invokevirtual 78, 3) := by decide +kernel
theorem dX3_nextOfHead_37 : decode cX3_nextOfHead 37 = .ok (.ireturn, 1) := by decide +kernel
theorem dX3_readNumber_0 : decode cX3_readNumber 0 = .ok (.lconst 0, 1) := by decide +kernel
theorem dX3_readNumber_1 : decode cX3_readNumber 1 = .ok (.lstore_n 1, 1) := by decide +kernel
theorem dX3_readNumber_2 : decode cX3_readNumber 2 = .ok (.iconst 0, 1) := by decide +kernel
theorem dX3_readNumber_3 : decode cX3_readNumber 3 = .ok (.istore_n 3, 1) := by decide +kernel
theorem dX3_readNumber_4 : decode cX3_readNumber 4 = .ok (.iload_n 3, 1) := by decide +kernel
theorem dX3_readNumber_5 : decode cX3_readNumber 5 = .ok (.bipush 9, 2) := by decide +kernel
theorem dX3_readNumber_7 : decode cX3_readNumber 7 = .ok (.if_icmp .ge 57, 3) := by decide +kernel
theorem dX3_readNumber_10 : decode cX3_readNumber 10 = .ok (.aload_n 0, 1) := by decide +kernel
theorem dX3_readNumber_11 : decode cX3_readNumber 11 = .ok (.invokevirtual 22, 3) := by decide +kernel
theorem dX3_readNumber_14 : decode cX3_readNumber 14 = .ok (.istore 4, 2) := by decide +kernel
theorem dX3_readNumber_16 : decode cX3_readNumber 16 = .ok (.lload_n 1, 1) := by decide +kernel
theorem dX3_readNumber_17 : decode cX3_readNumber 17 = .ok (.iload 4, 2) := by decide +kernel
theorem dX3_readNumber_19 : decode cX3_readNumber 19 = .ok (.bipush 127, 2) := by decide +kernel
theorem dX3_readNumber_21 : decode cX3_readNumber 21 = .ok (.iand, 1) := by decide +kernel
theorem dX3_readNumber_22 : decode cX3_readNumber 22 = .ok (.i2l, 1) := by decide +kernel
theorem dX3_readNumber_23 : decode cX3_readNumber 23 = .ok (.bipush 7, 2) := by decide +kernel
theorem dX3_readNumber_25 : decode cX3_readNumber 25 = .ok (.iload_n 3, 1) := by decide +kernel
theorem dX3_readNumber_26 : decode cX3_readNumber 26 = .ok (.imul, 1) := by decide +kernel
theorem dX3_readNumber_27 : decode cX3_readNumber 27 = .ok (.lshl, 1) := by decide +kernel
theorem dX3_readNumber_28 : decode cX3_readNumber 28 = .ok (.lor, 1) := by decide +kernel
theorem dX3_readNumber_29 : decode cX3_readNumber 29 = .ok (.lstore_n 1, 1) := by decide +kernel
theorem dX3_readNumber_30 : decode cX3_readNumber 30 = .ok (.iload 4, 2) := by decide +kernel
theorem dX3_readNumber_32 : decode cX3_readNumber 32 = .ok (.ifCond .ne 16, 3) := by decide +kernel
theorem dX3_readNumber_35 : decode cX3_readNumber 35 = .ok (.iload_n 3, 1) := by decide +kernel
theorem dX3_readNumber_36 : decode cX3_readNumber 36 = .ok (.ifCond .le 12, 3) := by decide +kernel
theorem dX3_readNumber_39 : decode cX3_readNumber 39 = .ok (.aload_n 0, 1) := by decide +kernel
theorem dX3_readNumber_40 : decode cX3_readNumber 40 = .ok (.getfield 9, 3) := by decide +kernel
theorem dX3_readNumber_43 : decode cX3_readNumber 43 = .ok (.bipush 8, 2) := by decide +kernel
theorem dX3_readNumber_45 : decode cX3_readNumber 45 = .ok (.invokevirtual 26, 3) := by decide +kernel
theorem dX3_readNumber_48 : decode cX3_readNumber 48 = .ok (.iload 4, 2) := by decide +kernel
theorem dX3_readNumber_50 : decode cX3_readNumber 50 = .ok (.sipush 128, 3) := by decide +kernel
theorem dX3_readNumber_53 : decode cX3_readNumber 53 = .ok (.if_icmp .ge 5, 3) := by decide +kernel
theorem dX3_readNumber_56 : decode cX3_readNumber 56 = .ok (.lload_n 1, 1) := by decide +kernel
theorem dX3_readNumber_57 : decode cX3_readNumber 57 = .ok (.lreturn, 1) := by decide +kernel
theorem dX3_readNumber_58 : decode cX3_readNumber 58 = .ok (.iinc 3 1, 3) := by decide +kernel
theorem dX3_readNumber_61 : decode cX3_readNumber 61 = .ok (.goto (-57), 3) := by decide +kernel
theorem dX3_readNumber_64 : decode cX3_readNumber 64 = .ok (.aload_n 0, 1) := by decide +kernel
theorem dX3_readNumber_65 : decode cX3_readNumber 65 = .ok (.getfield 9, 3) := by decide +kernel
theorem dX3_readNumber_68 : decode cX3_readNumber 68 = .ok (.bipush 8, 2) := by decide +kernel
theorem dX3_readNumber_70 : decode cX3_readNumber 70 = .ok (.invokevirtual 26, 3) := by decide +kernel
theorem dX3_readNumber_73 : decode cX3_readNumber 73 = .ok (.lload_n 1, 1) := by decide +kernel
theorem dX3_readNumber_74 : decode cX3_readNumber 74 = .ok (.lreturn, 1) := by decide +kernel
theorem dX3_undo_0 : decode cX3_undo 0 = .ok (.aload_n 0, 1) := by decide +kernel
theorem dX3_undo_1 : decode cX3_undo 1 = .ok (.getfield 32, 3) := by decide +kernel
theorem dX3_undo_4 : decode cX3_undo 4 = .ok (.iconst 2, 1) := by decide +kernel
theorem dX3_undo_5 : decode cX3_undo 5 = .ok (.isub, 1) := by decide +kernel
theorem dX3_undo_6 : decode cX3_undo 6 = .ok (.istore_n 3, 1) := by decide +kernel
theorem dX3_undo_7 : decode cX3_undo 7 = .ok (.iload_n 3, 1) := by decide +kernel
theorem dX3_undo_8 : decode cX3_undo 8 = .ok (.ifCond .lt 54, 3) := by decide +kernel
theorem dX3_undo_11 : decode cX3_undo 11 = .ok (.aload_n 0, 1) := by decide +kernel
theorem dX3_undo_12 : decode cX3_undo 12 = .ok (.getfield 15, 3) := by decide +kernel
theorem dX3_undo_15 : decode cX3_undo 15 = .ok (.iload_n 3, 1) := by decide +kernel
theorem dX3_undo_16 : decode cX3_undo 16 = .ok (.iconst 3, 1) := by decide +kernel
theorem dX3_undo_17 : decode cX3_undo 17 = .ok (.iand, 1) := by decide +kernel
theorem dX3_undo_18 : decode cX3_undo 18 = .ok (.iaload, 1) := by decide +kernel
theorem dX3_undo_19 : decode cX3_undo 19 = .ok (.iconst 3, 1) := by decide +kernel
theorem dX3_undo_20 : decode cX3_undo 20 = .ok (.if_icmp .ne 26, 3) := by decide +kernel
theorem dX3_undo_23 : decode cX3_undo 23 = .ok (.aload_n 1, 1) := by decide +kernel
theorem dX3_undo_24 : decode cX3_undo 24 = .ok (.iload_n 2, 1) := by decide +kernel
theorem dX3_undo_25 : decode cX3_undo 25 = .ok (.aload_n 1, 1) := by decide +kernel
theorem dX3_undo_26 : decode cX3_undo 26 = .ok (.getfield 95, 3) := by decide +kernel
theorem dX3_undo_29 : decode cX3_undo 29 = .ok (.aload_n 0, 1) := by decide +kernel
theorem dX3_undo_30 : decode cX3_undo 30 = .ok (.getfield 19, 3) := by decide +kernel
theorem dX3_undo_33 : decode cX3_undo 33 = .ok (.iload_n 3, 1) := by decide +kernel
theorem dX3_undo_34 : decode cX3_undo 34 = .ok (.iconst 3, 1) := by decide +kernel
theorem dX3_undo_35 : decode cX3_undo 35 = .ok (.iand, 1) := by decide +kernel
theorem dX3_undo_36 : decode cX3_undo 36 = .ok (.iaload, 1) := by decide +kernel
theorem dX3_undo_37 : decode cX3_undo 37 = .ok (.iconst 1, 1) := by decide +kernel
theorem dX3_undo_38 : decode cX3_undo 38 = .ok (.iadd, 1) := by decide +kernel
theorem dX3_undo_39 : decode cX3_undo 39 = .ok (.iconst 1, 1) := by decide +kernel
theorem dX3_undo_40 : decode cX3_undo 40 = .ok (.invokevirtual 98, 3) := by decide +kernel
theorem dX3_undo_43 : decode cX3_undo 43 = .ok (.goto 13, 3) := by decide +kernel
theorem dX3_undo_46 : decode cX3_undo 46 = .ok (.aload_n 1, 1) := by decide +kernel
theorem dX3_undo_47 : decode cX3_undo 47 = .ok (.iload_n 2, 1) := by decide +kernel
theorem dX3_undo_48 : decode cX3_undo 48 = .ok (.aload_n 1, 1) := by decide +kernel
theorem dX3_undo_49 : decode cX3_undo 49 = .ok (.getfield 95, 3) := by decide +kernel
theorem dX3_undo_52 : decode cX3_undo 52 = .ok (.iconst 1, 1) := by decide +kernel
theorem dX3_undo_53 : decode cX3_undo 53 = .ok (.invokevirtual 102, 3) := by decide +kernel
theorem dX3_undo_56 : decode cX3_undo 56 = .ok (.iinc 3 (-1), 3) := by decide +kernel
theorem dX3_undo_59 : decode cX3_undo 59 = .ok (.goto (-52), 3) := by decide +kernel
theorem dX3_undo_62 : decode cX3_undo 62 = .ok (.return_, 1) := by decide +kernel
theorem dX4_init_0 : decode cX4_init 0 = .ok (.aload_n 0, 1) := by decide +kernel
theorem dX4_init_1 : decode cX4_init 1 = .ok (.invokespecial 3, 3) := by decide +kernel
theorem dX4_init_4 : decode cX4_init 4 = .ok (.aload_n 0, 1) := by decide +kernel
theorem dX4_init_5 : decode cX4_init 5 = .ok (.sipush 8000, 3) := by decide +kernel
theorem dX4_init_8 : decode cX4_init 8 = .ok (.newarray .int, 2) := by decide +kernel
theorem dX4_init_10 : decode cX4_init 10 = .ok (.putfield 9, 3) := by decide +kernel
theorem dX4_init_13 : decode cX4_init 13 = .ok (.aload_n 0, 1) := by decide +kernel
theorem dX4_init_14 : decode cX4_init 14 = .ok (.sipush 1000, 3) := by decide +kernel
theorem dX4_init_17 : decode cX4_init 17 = .ok (.newarray .int, 2) := by decide +kernel
theorem dX4_init_19 : decode cX4_init 19 = .ok (.putfield 15, 3) := by decide +kernel
theorem dX4_init_22 : decode cX4_init 22 = .ok (.return_, 1) := by decide +kernel
theorem dX4_clear_0 : decode cX4_clear 0 = .ok (.aload_n 0, 1) := by decide +kernel
theorem dX4_clear_1 : decode cX4_clear 1 = .ok (.iconst 0, 1) := by decide +kernel
theorem dX4_clear_2 : decode cX4_clear 2 = .ok (.putfield 18, 3) := by decide +kernel
theorem dX4_clear_5 : decode cX4_clear 5 = .ok (.aload_n 0, 1) := by decide +kernel
theorem dX4_clear_6 : decode cX4_clear 6 = .ok (.iconst 0, 1) := by decide +kernel
theorem dX4_clear_7 : decode cX4_clear 7 = .ok (.putfield 22, 3) := by decide +kernel
theorem dX4_clear_10 : decode cX4_clear 10 = .ok (.return_, 1) := by decide +kernel
theorem dX4_addStep_0 : decode cX4_addStep 0 = .ok (.aload_n 0, 1) := by decide +kernel
theorem dX4_addStep_1 : decode cX4_addStep 1 = .ok (.getfield 18, 3) := by decide +kernel
theorem dX4_addStep_4 : decode cX4_addStep 4 = .ok (.ifCond .lt 60, 3) := by decide +kernel
theorem dX4_addStep_7 : decode cX4_addStep 7 = .ok (.aload_n 0, 1) := by decide +kernel
theorem dX4_addStep_8 : decode cX4_addStep 8 = .ok (.getfield 18, 3) := by decide +kernel
theorem dX4_addStep_11 : decode cX4_addStep 11 = .ok (.sipush 2000, 3) := by decide +kernel
theorem dX4_addStep_14 : decode cX4_addStep 14 = .ok (.if_icmp .ge 50, 3) := by decide +kernel
theorem dX4_addStep_17 : decode cX4_addStep 17 = .ok (.iconst 4, 1) := by decide +kernel
theorem dX4_addStep_18 : decode cX4_addStep 18 = .ok (.aload_n 0, 1) := by decide +kernel
theorem dX4_addStep_19 : decode cX4_addStep 19 = .ok (.getfield 18, 3) := by decide +kernel
theorem dX4_addStep_22 : decode cX4_addStep 22 = .ok (.imul, 1) := by decide +kernel
theorem dX4_addStep_23 : decode cX4_addStep 23 = .ok (.istore 5, 2) := by decide +kernel
theorem dX4_addStep_25 : decode cX4_addStep 25 = .ok (.aload_n 0, 1) := by decide +kernel
theorem dX4_addStep_26 : decode cX4_addStep 26 = .ok (.getfield 9, 3) := by decide +kernel
theorem dX4_addStep_29 : decode cX4_addStep 29 = .ok (.iload 5, 2) := by decide +kernel
theorem dX4_addStep_31 : decode cX4_addStep 31 = .ok (.iload_n 1, 1) := by decide +kernel
theorem dX4_addStep_32 : decode cX4_addStep 32 = .ok (.iastore, 1) := by decide +kernel
theorem dX4_addStep_33 : decode cX4_addStep 33 = .ok (.aload_n 0, 1) := by decide +kernel
theorem dX4_addStep_34 : decode cX4_addStep 34 = .ok (.getfield 9, 3) := by decide +kernel
theorem dX4_addStep_37 : decode cX4_addStep 37 = .ok (.iload 5, 2) := by decide +kernel
theorem dX4_addStep_39 : decode cX4_addStep 39 = .ok (.iconst 1, 1) := by decide +kernel
theorem dX4_addStep_40 : decode cX4_addStep 40 = .ok (.iadd, 1) := by decide +kernel
theorem dX4_addStep_41 : decode cX4_addStep 41 = .ok (.iload_n 2, 1) := by decide +kernel
theorem dX4_addStep_42 : decode cX4_addStep 42 = .ok (.iastore, 1) := by decide +kernel
theorem dX4_addStep_43 : decode cX4_addStep 43 = .ok (.aload_n 0, 1) := by decide +kernel
theorem dX4_addStep_44 : decode cX4_addStep 44 = .ok (.getfield 9, 3) := by decide +kernel
theorem dX4_addStep_47 : decode cX4_addStep 47 = .ok (.iload 5, 2) := by decide +kernel
theorem dX4_addStep_49 : decode cX4_addStep 49 = .ok (.iconst 2, 1) := by decide +kernel
theorem dX4_addStep_50 : decode cX4_addStep 50 = .ok (.iadd, 1) := by decide +kernel
theorem dX4_addStep_51 : decode cX4_addStep 51 = .ok (.iload_n 3, 1) := by decide +kernel
theorem dX4_addStep_52 : decode cX4_addStep 52 = .ok (.iastore, 1) := by decide +kernel
theorem dX4_addStep_53 : decode cX4_addStep 53 = .ok (.aload_n 0, 1) := by decide +kernel
theorem dX4_addStep_54 : decode cX4_addStep 54 = .ok (.getfield 9, 3) := by decide +kernel
theorem dX4_addStep_57 : decode cX4_addStep 57 = .ok (.iload 5, 2) := by decide +kernel
theorem dX4_addStep_59 : decode cX4_addStep 59 = .ok (.iconst 3, 1) := by decide +kernel
theorem dX4_addStep_60 : decode cX4_addStep 60 = .ok (.iadd, 1) := by decide +kernel
theorem dX4_addStep_61 : decode cX4_addStep 61 = .ok (.iload 4, 2) := by decide +kernel
theorem dX4_addStep_63 : decode cX4_addStep 63 = .ok (.iastore, 1) := by decide +kernel
theorem dX4_addStep_64 : decode cX4_addStep 64 = .ok (.aload_n 0, 1) := by decide +kernel
theorem dX4_addStep_65 : decode cX4_addStep 65 = .ok (.dup, 1) := by decide +kernel
theorem dX4_addStep_66 : decode cX4_addStep 66 = .ok (.getfield 18, 3) := by decide +kernel
theorem dX4_addStep_69 : decode cX4_addStep 69 = .ok (.iconst 1, 1) := by decide +kernel
theorem dX4_addStep_70 : decode cX4_addStep 70 = .ok (.iadd, 1) := by decide +kernel
theorem dX4_addStep_71 : decode cX4_addStep 71 = .ok (.putfield 18, 3) := by decide +kernel
theorem dX4_addStep_74 : decode cX4_addStep 74 = .ok (.return_, 1) := by decide +kernel
theorem dX4_stepPart_0 : decode cX4_stepPart 0 = .ok (.iload_n 1, 1) := by decide +kernel
theorem dX4_stepPart_1 : decode cX4_stepPart 1 = .ok (.ifCond .lt 27, 3) := by decide +kernel
theorem dX4_stepPart_4 : decode cX4_stepPart 4 = .ok (.iload_n 1, 1) := by decide +kernel
theorem dX4_stepPart_5 : decode cX4_stepPart 5 = .ok (.aload_n 0, 1) := by decide +kernel
theorem dX4_stepPart_6 : decode cX4_stepPart 6 = .ok (.getfield 18, 3) := by decide +kernel
theorem dX4_stepPart_9 : decode cX4_stepPart 9 = .ok (.if_icmp .ge 19, 3) := by decide +kernel
theorem dX4_stepPart_12 : decode cX4_stepPart 12 = .ok (.iload_n 1, 1) := by decide +kernel
theorem dX4_stepPart_13 : decode cX4_stepPart 13 = .ok (.sipush 2000, 3) := by decide +kernel
theorem dX4_stepPart_16 : decode cX4_stepPart 16 = .ok (.if_icmp .ge 12, 3) := by decide +kernel
theorem dX4_stepPart_19 : decode cX4_stepPart 19 = .ok (.iload_n 2, 1) := by decide +kernel
theorem dX4_stepPart_20 : decode cX4_stepPart 20 = .ok (.ifCond .lt 8, 3) := by decide +kernel
theorem dX4_stepPart_23 : decode cX4_stepPart 23 = .ok (.iload_n 2, 1) := by decide +kernel
theorem dX4_stepPart_24 : decode cX4_stepPart 24 = .ok (.iconst 3, 1) := by decide +kernel
theorem dX4_stepPart_25 : decode cX4_stepPart 25 = .ok (.if_icmp .le 5, 3) := by decide +kernel
theorem dX4_stepPart_28 : decode cX4_stepPart 28 = .ok (.iconst (-1), 1) := by decide +kernel
theorem dX4_stepPart_29 : decode cX4_stepPart 29 = .ok (.ireturn, 1) := by decide +kernel
theorem dX4_stepPart_30 : decode cX4_stepPart 30 = .ok (.aload_n 0, 1) := by decide +kernel
theorem dX4_stepPart_31 : decode cX4_stepPart 31 = .ok (.getfield 9, 3) := by decide +kernel
theorem dX4_stepPart_34 : decode cX4_stepPart 34 = .ok (.iconst 4, 1) := by decide +kernel
theorem dX4_stepPart_35 : decode cX4_stepPart 35 = .ok (.iload_n 1, 1) := by decide +kernel
theorem dX4_stepPart_36 : decode cX4_stepPart 36 = .ok (.imul, 1) := by decide +kernel
theorem dX4_stepPart_37 : decode cX4_stepPart 37 = .ok (.iload_n 2, 1) := by decide +kernel
theorem dX4_stepPart_38 : decode cX4_stepPart 38 = .ok (.iadd, 1) := by decide +kernel
theorem dX4_stepPart_39 : decode cX4_stepPart 39 = .ok (.iaload, 1) := by decide +kernel
theorem dX4_stepPart_40 : decode cX4_stepPart 40 = .ok (.ireturn, 1) := by decide +kernel
theorem dX4_addBlock_0 : decode cX4_addBlock 0 = .ok (.aload_n 0, 1) := by decide +kernel
theorem dX4_addBlock_1 : decode cX4_addBlock 1 = .ok (.getfield 22, 3) := by decide +kernel
theorem dX4_addBlock_4 : decode cX4_addBlock 4 = .ok (.ifCond .lt 81, 3) := by decide +kernel
theorem dX4_addBlock_7 : decode cX4_addBlock 7 = .ok (.aload_n 0, 1) := by decide +kernel
theorem dX4_addBlock_8 : decode cX4_addBlock 8 = .ok (.getfield 22, 3) := by decide +kernel
theorem dX4_addBlock_11 : decode cX4_addBlock 11 = .ok (.sipush 200, 3) := by decide +kernel
theorem dX4_addBlock_14 : decode cX4_addBlock 14 = .ok (.if_icmp .ge 71, 3) := by decide +kernel
theorem dX4_addBlock_17 : decode cX4_addBlock 17 = .ok (.iconst 5, 1) := by decide +kernel
theorem dX4_addBlock_18 : decode cX4_addBlock 18 = .ok (.aload_n 0, 1) := by decide +kernel
theorem dX4_addBlock_19 : decode cX4_addBlock 19 = .ok (.getfield 22, 3) := by decide +kernel
theorem dX4_addBlock_22 : decode cX4_addBlock 22 = .ok (.imul, 1) := by decide +kernel
theorem dX4_addBlock_23 : decode cX4_addBlock 23 = .ok (.istore 6, 2) := by decide +kernel
theorem dX4_addBlock_25 : decode cX4_addBlock 25 = .ok (.aload_n 0, 1) := by decide +kernel
theorem dX4_addBlock_26 : decode cX4_addBlock 26 = .ok (.getfield 15, 3) := by decide +kernel
theorem dX4_addBlock_29 : decode cX4_addBlock 29 = .ok (.iload 6, 2) := by decide +kernel
theorem dX4_addBlock_31 : decode cX4_addBlock 31 = .ok (.iload_n 1, 1) := by decide +kernel
theorem dX4_addBlock_32 : decode cX4_addBlock 32 = .ok (.iastore, 1) := by decide +kernel
theorem dX4_addBlock_33 : decode cX4_addBlock 33 = .ok (.aload_n 0, 1) := by decide +kernel
theorem dX4_addBlock_34 : decode cX4_addBlock 34 = .ok (.getfield 15, 3) := by decide +kernel
theorem dX4_addBlock_37 : decode cX4_addBlock 37 = .ok (.iload 6, 2) := by decide +kernel
theorem dX4_addBlock_39 : decode cX4_addBlock 39 = .ok (.iconst 1, 1) := by decide +kernel
theorem dX4_addBlock_40 : decode cX4_addBlock 40 = .ok (.iadd, 1) := by decide +kernel
theorem dX4_addBlock_41 : decode cX4_addBlock 41 = .ok (.iload_n 2, 1) := by decide +kernel
theorem dX4_addBlock_42 : decode cX4_addBlock 42 = .ok (.iastore, 1) := by decide +kernel
theorem dX4_addBlock_43 : decode cX4_addBlock 43 = .ok (.aload_n 0, 1) := by decide +kernel
theorem dX4_addBlock_44 : decode cX4_addBlock 44 = .ok (.getfield 15, 3) := by decide +kernel
theorem dX4_addBlock_47 : decode cX4_addBlock 47 = .ok (.iload 6, 2) := by decide +kernel
theorem dX4_addBlock_49 : decode cX4_addBlock 49 = .ok (.iconst 2, 1) := by decide +kernel
theorem dX4_addBlock_50 : decode cX4_addBlock 50 = .ok (.iadd, 1) := by decide +kernel
theorem dX4_addBlock_51 : decode cX4_addBlock 51 = .ok (.iload_n 3, 1) := by decide +kernel
theorem dX4_addBlock_52 : decode cX4_addBlock 52 = .ok (.iastore, 1) := by decide +kernel
theorem dX4_addBlock_53 : decode cX4_addBlock 53 = .ok (.aload_n 0, 1) := by decide +kernel
theorem dX4_addBlock_54 : decode cX4_addBlock 54 = .ok (.getfield 15, 3) := by decide +kernel
theorem dX4_addBlock_57 : decode cX4_addBlock 57 = .ok (.iload 6, 2) := by decide +kernel
theorem dX4_addBlock_59 : decode cX4_addBlock 59 = .ok (.iconst 3, 1) := by decide +kernel
theorem dX4_addBlock_60 : decode cX4_addBlock 60 = .ok (.iadd, 1) := by decide +kernel
theorem dX4_addBlock_61 : decode cX4_addBlock 61 = .ok (.iload 4, 2) := by decide +kernel
theorem dX4_addBlock_63 : decode cX4_addBlock 63 = .ok (.iastore, 1) := by decide +kernel
theorem dX4_addBlock_64 : decode cX4_addBlock 64 = .ok (.aload_n 0, 1) := by decide +kernel
theorem dX4_addBlock_65 : decode cX4_addBlock 65 = .ok (.getfield 15, 3) := by decide +kernel
theorem dX4_addBlock_68 : decode cX4_addBlock 68 = .ok (.iload 6, 2) := by decide +kernel
theorem dX4_addBlock_70 : decode cX4_addBlock 70 = .ok (.iconst 4, 1) := by decide +kernel
theorem dX4_addBlock_71 : decode cX4_addBlock 71 = .ok (.iadd, 1) := by decide +kernel
theorem dX4_addBlock_72 : decode cX4_addBlock 72 = .ok (.iload 5, 2) := by decide +kernel
theorem dX4_addBlock_74 : decode cX4_addBlock 74 = .ok (.iastore, 1) := by decide +kernel
theorem dX4_addBlock_75 : decode cX4_addBlock 75 = .ok (.aload_n 0, 1) := by decide +kernel
theorem dX4_addBlock_76 : decode cX4_addBlock 76 = .ok (.dup, 1) := by decide +kernel
theorem dX4_addBlock_77 : decode cX4_addBlock 77 = .ok (.getfield 22, 3) := by decide +kernel
theorem dX4_addBlock_80 : decode cX4_addBlock 80 = .ok (.iconst 1, 1) := by decide +kernel
theorem dX4_addBlock_81 : decode cX4_addBlock 81 = .ok (.iadd, 1) := by decide +kernel
theorem dX4_addBlock_82 : decode cX4_addBlock 82 = .ok (.putfield 22, 3) := by decide +kernel
theorem dX4_addBlock_85 : decode cX4_addBlock 85 = .ok (.return_, 1) := by decide +kernel
theorem dX4_blockPart_0 : decode cX4_blockPart 0 = .ok (.iload_n 1, 1) := by decide +kernel
theorem dX4_blockPart_1 : decode cX4_blockPart 1 = .ok (.ifCond .lt 27, 3) := by decide +kernel
theorem dX4_blockPart_4 : decode cX4_blockPart 4 = .ok (.iload_n 1, 1) := by decide +kernel
theorem dX4_blockPart_5 : decode cX4_blockPart 5 = .ok (.aload_n 0, 1) := by decide +kernel
theorem dX4_blockPart_6 : decode cX4_blockPart 6 = .ok (.getfield 22, 3) := by decide +kernel
theorem dX4_blockPart_9 : decode cX4_blockPart 9 = .ok (.if_icmp .ge 19, 3) := by decide +kernel
theorem dX4_blockPart_12 : decode cX4_blockPart 12 = .ok (.iload_n 1, 1) := by decide +kernel
theorem dX4_blockPart_13 : decode cX4_blockPart 13 = .ok (.sipush 200, 3) := by decide +kernel
theorem dX4_blockPart_16 : decode cX4_blockPart 16 = .ok (.if_icmp .ge 12, 3) := by decide +kernel
theorem dX4_blockPart_19 : decode cX4_blockPart 19 = .ok (.iload_n 2, 1) := by decide +kernel
theorem dX4_blockPart_20 : decode cX4_blockPart 20 = .ok (.ifCond .lt 8, 3) := by decide +kernel
theorem dX4_blockPart_23 : decode cX4_blockPart 23 = .ok (.iload_n 2, 1) := by decide +kernel
theorem dX4_blockPart_24 : decode cX4_blockPart 24 = .ok (.iconst 4, 1) := by decide +kernel
theorem dX4_blockPart_25 : decode cX4_blockPart 25 = .ok (.if_icmp .le 5, 3) := by decide +kernel
theorem dX4_blockPart_28 : decode cX4_blockPart 28 = .ok (.iconst (-1), 1) := by decide +kernel
theorem dX4_blockPart_29 : decode cX4_blockPart 29 = .ok (.ireturn, 1) := by decide +kernel
theorem dX4_blockPart_30 : decode cX4_blockPart 30 = .ok (.aload_n 0, 1) := by decide +kernel
theorem dX4_blockPart_31 : decode cX4_blockPart 31 = .ok (.getfield 15, 3) := by decide +kernel
theorem dX4_blockPart_34 : decode cX4_blockPart 34 = .ok (.iconst 5, 1) := by decide +kernel
theorem dX4_blockPart_35 : decode cX4_blockPart 35 = .ok (.iload_n 1, 1) := by decide +kernel
theorem dX4_blockPart_36 : decode cX4_blockPart 36 = .ok (.imul, 1) := by decide +kernel
theorem dX4_blockPart_37 : decode cX4_blockPart 37 = .ok (.iload_n 2, 1) := by decide +kernel
theorem dX4_blockPart_38 : decode cX4_blockPart 38 = .ok (.iadd, 1) := by decide +kernel
theorem dX4_blockPart_39 : decode cX4_blockPart 39 = .ok (.iaload, 1) := by decide +kernel
theorem dX4_blockPart_40 : decode cX4_blockPart 40 = .ok (.ireturn, 1) := by decide +kernel
theorem dX4_bytesOfBlocks_0 : decode cX4_bytesOfBlocks 0 = .ok (.iconst 0, 1) := by decide +kernel
theorem dX4_bytesOfBlocks_1 : decode cX4_bytesOfBlocks 1 = .ok (.istore_n 1, 1) := by decide +kernel
theorem dX4_bytesOfBlocks_2 : decode cX4_bytesOfBlocks 2 = .ok (.iconst 0, 1) := by decide +kernel
theorem dX4_bytesOfBlocks_3 : decode cX4_bytesOfBlocks 3 = .ok (.istore_n 2, 1) := by decide +kernel
theorem dX4_bytesOfBlocks_4 : decode cX4_bytesOfBlocks 4 = .ok (.iload_n 2, 1) := by decide +kernel
theorem dX4_bytesOfBlocks_5 : decode cX4_bytesOfBlocks 5 = .ok (.aload_n 0, 1) := by decide +kernel
theorem dX4_bytesOfBlocks_6 : decode cX4_bytesOfBlocks 6 = .ok (.getfield 22, 3) := by decide +kernel
theorem dX4_bytesOfBlocks_9 : decode cX4_bytesOfBlocks 9 = .ok (.if_icmp .ge 18, 3) := by decide +kernel
theorem dX4_bytesOfBlocks_12 : decode cX4_bytesOfBlocks 12 = .ok (.iload_n 1, 1) := by decide +kernel
theorem dX4_bytesOfBlocks_13 : decode cX4_bytesOfBlocks 13 = .ok (.aload_n 0, 1) := by decide +kernel
theorem dX4_bytesOfBlocks_14 : decode cX4_bytesOfBlocks 14 = .ok (.iload_n 2, 1) := by decide +kernel
theorem dX4_bytesOfBlocks_15 : decode cX4_bytesOfBlocks 15 = .ok (.iconst 3, 1) := by decide +kernel
theorem dX4_bytesOfBlocks_16 : decode cX4_bytesOfBlocks 16 = .ok (.invokevirtual 25, 3) := by decide +kernel
theorem dX4_bytesOfBlocks_19 : decode cX4_bytesOfBlocks 19 = .ok (.iadd, 1) := by decide +kernel
theorem dX4_bytesOfBlocks_20 : decode cX4_bytesOfBlocks 20 = .ok (.istore_n 1, 1) := by decide +kernel
theorem dX4_bytesOfBlocks_21 : decode cX4_bytesOfBlocks 21 = .ok (.iinc 2 1, 3) := by decide +kernel
theorem dX4_bytesOfBlocks_24 : decode cX4_bytesOfBlocks 24 = .ok (.goto (-20), 3) := by decide +kernel
theorem dX4_bytesOfBlocks_27 : decode cX4_bytesOfBlocks 27 = .ok (.iload_n 1, 1) := by decide +kernel
theorem dX4_bytesOfBlocks_28 : decode cX4_bytesOfBlocks 28 = .ok (.ireturn, 1) := by decide +kernel
theorem dX4_putIndex_0 : decode cX4_putIndex 0 = .ok (.aload_n 1, 1) := by decide +kernel
theorem dX4_putIndex_1 : decode cX4_putIndex 1 = .ok (.getfield 29, 3) := by decide +kernel
theorem dX4_putIndex_4 : decode cX4_putIndex 4 = .ok (.istore_n 3, 1) := by decide +kernel
theorem dX4_putIndex_5 : decode cX4_putIndex 5 = .ok (.aload_n 1, 1) := by decide +kernel
theorem dX4_putIndex_6 : decode cX4_putIndex 6 = .ok (.iconst 0, 1) := by decide +kernel
theorem dX4_putIndex_7 : decode cX4_putIndex 7 = .ok (.invokevirtual 34, 3) := by decide +kernel
theorem dX4_putIndex_10 : decode cX4_putIndex 10 = .ok (.aload_n 1, 1) := by decide +kernel
theorem dX4_putIndex_11 : decode cX4_putIndex 11 = .ok (.aload_n 0, 1) := by decide +kernel
theorem dX4_putIndex_12 : decode cX4_putIndex 12 = .ok (.getfield 22, 3) := by decide +kernel
theorem dX4_putIndex_15 : decode cX4_putIndex 15 = .ok (.invokevirtual 38, 3) := by decide +kernel
theorem dX4_putIndex_18 : decode cX4_putIndex 18 = .ok (.iconst 0, 1) := by decide +kernel
theorem dX4_putIndex_19 : decode cX4_putIndex 19 = .ok (.istore 4, 2) := by decide +kernel
theorem dX4_putIndex_21 : decode cX4_putIndex 21 = .ok (.iload 4, 2) := by decide +kernel
theorem dX4_putIndex_23 : decode cX4_putIndex 23 = .ok (.aload_n 0, 1) := by decide +kernel
theorem dX4_putIndex_24 : decode cX4_putIndex 24 = .ok (.getfield 22, 3) := by decide +kernel
theorem dX4_putIndex_27 : decode cX4_putIndex 27 = .ok (.if_icmp .ge 41, 3) := by decide +kernel
theorem dX4_putIndex_30 : decode cX4_putIndex 30 = .ok (.aload_n 1, 1) := by decide +kernel
theorem dX4_putIndex_31 : decode cX4_putIndex 31 = .ok (.aload_n 0, 1) := by decide +kernel
theorem dX4_putIndex_32 : decode cX4_putIndex 32 = .ok (.iload 4, 2) := by decide +kernel
theorem dX4_putIndex_34 : decode cX4_putIndex 34 = .ok (.iconst 1, 1) := by decide +kernel
theorem dX4_putIndex_35 : decode cX4_putIndex 35 = .ok (.invokevirtual 25, 3) := by decide +kernel
theorem dX4_putIndex_38 : decode cX4_putIndex 38 = .ok (.aload_n 0, 1) := by decide +kernel
theorem dX4_putIndex_39 : decode cX4_putIndex 39 = .ok (.iload 4, 2) := by decide +kernel
theorem dX4_putIndex_41 : decode cX4_putIndex 41 = .ok (.iconst 2, 1) := by decide +kernel
theorem dX4_putIndex_42 : decode cX4_putIndex 42 = .ok (.invokevirtual 25, 3) := by decide +kernel
theorem dX4_putIndex_45 : decode cX4_putIndex 45 = .ok (.iadd, 1) := by decide +kernel
theorem dX4_putIndex_46 : decode cX4_putIndex 46 = .ok (.iload_n 2, 1) := by decide +kernel
theorem dX4_putIndex_47 : decode cX4_putIndex 47 = .ok (.iadd, 1) := by decide +kernel
theorem dX4_putIndex_48 : decode cX4_putIndex 48 = .ok (.invokevirtual 38, 3) := by decide +kernel
theorem dX4_putIndex_51 : decode cX4_putIndex 51 = .ok (.aload_n 1, 1) := by decide +kernel
theorem dX4_putIndex_52 : decode cX4_putIndex 52 = .ok (.aload_n 0, 1) := by decide +kernel
theorem dX4_putIndex_53 : decode cX4_putIndex 53 = .ok (.iload 4, 2) := by decide +kernel
theorem dX4_putIndex_55 : decode cX4_putIndex 55 = .ok (.iconst 3, 1) := by decide +kernel
theorem dX4_putIndex_56 : decode cX4_putIndex 56 = .ok (.invokevirtual 25, 3) := by decide +kernel
theorem dX4_putIndex_59 : decode cX4_putIndex 59 = .ok (.invokevirtual 38, 3) := by decide +kernel
theorem dX4_putIndex_62 : decode cX4_putIndex 62 = .ok (.iinc 4 1, 3) := by decide +kernel
theorem dX4_putIndex_65 : decode cX4_putIndex 65 = .ok (.goto (-44), 3) := by decide +kernel
theorem dX4_putIndex_68 : decode cX4_putIndex 68 = .ok (.aload_n 1, 1) := by decide +kernel
theorem dX4_putIndex_69 : decode cX4_putIndex 69 = .ok (.iload_n 3, 1) := by decide +kernel
theorem dX4_putIndex_70 : decode cX4_putIndex 70 = .ok (.invokevirtual 41, 3) := by decide +kernel
theorem dX4_putIndex_73 : decode cX4_putIndex 73 = .ok (.return_, 1) := by decide +kernel
theorem dX5_init_0 : decode cX5_init 0 = .ok (.aload_n 0, 1) := by decide +kernel
theorem dX5_init_1 : decode cX5_init 1 = .ok (.invokespecial 5, 3) := by decide +kernel
theorem dX5_init_4 : decode cX5_init 4 = .ok (.aload_n 0, 1) := by decide +kernel
theorem dX5_init_5 : decode cX5_init 5 = .ok (.aload_n 1, 1) := by decide +kernel
theorem dX5_init_6 : decode cX5_init 6 = .ok (.putfield 11, 3) := by decide +kernel
theorem dX5_init_9 : decode cX5_init 9 = .ok (.aload_n 0, 1) := by decide +kernel
theorem dX5_init_10 : decode cX5_init 10 = .ok (.iconst 4, 1) := by decide +kernel
theorem dX5_init_11 : decode cX5_init 11 = .ok (.newarray .long, 2) := by decide +kernel
theorem dX5_init_13 : decode cX5_init 13 = .ok (.putfield 15, 3) := by decide +kernel
theorem dX5_init_16 : decode cX5_init 16 = .ok (.return_, 1) := by decide +kernel
theorem dX5_use_0 : decode cX5_use 0 = .ok (.aload_n 0, 1) := by decide +kernel
theorem dX5_use_1 : decode cX5_use 1 = .ok (.iload_n 1, 1) := by decide +kernel
theorem dX5_use_2 : decode cX5_use 2 = .ok (.putfield 19, 3) := by decide +kernel
theorem dX5_use_5 : decode cX5_use 5 = .ok (.aload_n 0, 1) := by decide +kernel
theorem dX5_use_6 : decode cX5_use 6 = .ok (.iload_n 2, 1) := by decide +kernel
theorem dX5_use_7 : decode cX5_use 7 = .ok (.putfield 23, 3) := by decide +kernel
theorem dX5_use_10 : decode cX5_use 10 = .ok (.aload_n 0, 1) := by decide +kernel
theorem dX5_use_11 : decode cX5_use 11 = .ok (.iload_n 3, 1) := by decide +kernel
theorem dX5_use_12 : decode cX5_use 12 = .ok (.putfield 26, 3) := by decide +kernel
theorem dX5_use_15 : decode cX5_use 15 = .ok (.return_, 1) := by decide +kernel
theorem dX5_reset_0 : decode cX5_reset 0 = .ok (.sipush 2052, 3) := by decide +kernel
theorem dX5_reset_3 : decode cX5_reset 3 = .ok (.sipush 768, 3) := by decide +kernel
theorem dX5_reset_6 : decode cX5_reset 6 = .ok (.aload_n 0, 1) := by decide +kernel
theorem dX5_reset_7 : decode cX5_reset 7 = .ok (.getfield 19, 3) := by decide +kernel
theorem dX5_reset_10 : decode cX5_reset 10 = .ok (.aload_n 0, 1) := by decide +kernel
theorem dX5_reset_11 : decode cX5_reset 11 = .ok (.getfield 23, 3) := by decide +kernel
theorem dX5_reset_14 : decode cX5_reset 14 = .ok (.iadd, 1) := by decide +kernel
theorem dX5_reset_15 : decode cX5_reset 15 = .ok (.ishl, 1) := by decide +kernel
theorem dX5_reset_16 : decode cX5_reset 16 = .ok (.iadd, 1) := by decide +kernel
theorem dX5_reset_17 : decode cX5_reset 17 = .ok (.istore_n 1, 1) := by decide +kernel
theorem dX5_reset_18 : decode cX5_reset 18 = .ok (.aload_n 0, 1) := by decide +kernel
theorem dX5_reset_19 : decode cX5_reset 19 = .ok (.getfield 11, 3) := by decide +kernel
theorem dX5_reset_22 : decode cX5_reset 22 = .ok (.getfield 29, 3) := by decide +kernel
theorem dX5_reset_25 : decode cX5_reset 25 = .ok (.iconst 0, 1) := by decide +kernel
theorem dX5_reset_26 : decode cX5_reset 26 = .ok (.iload_n 1, 1) := by decide +kernel
theorem dX5_reset_27 : decode cX5_reset 27 = .ok (.sipush 14340, 3) := by decide +kernel
theorem dX5_reset_30 : decode cX5_reset 30 = .ok (.invokestatic 35, 3) := by decide +kernel
theorem dX5_reset_33 : decode cX5_reset 33 = .ok (.sipush 1024, 3) := by decide +kernel
theorem dX5_reset_36 : decode cX5_reset 36 = .ok (.invokestatic 41, 3) := by decide +kernel
theorem dX5_reset_39 : decode cX5_reset 39 = .ok (.aload_n 0, 1) := by decide +kernel
theorem dX5_reset_40 : decode cX5_reset 40 = .ok (.getfield 15, 3) := by decide +kernel
theorem dX5_reset_43 : decode cX5_reset 43 = .ok (.lconst 1, 1) := by decide +kernel
theorem dX5_reset_44 : decode cX5_reset 44 = .ok (.invokestatic 47, 3) := by decide +kernel
theorem dX5_reset_47 : decode cX5_reset 47 = .ok (.aload_n 0, 1) := by decide +kernel
theorem dX5_reset_48 : decode cX5_reset 48 = .ok (.iconst 0, 1) := by decide +kernel
theorem dX5_reset_49 : decode cX5_reset 49 = .ok (.putfield 50, 3) := by decide +kernel
theorem dX5_reset_52 : decode cX5_reset 52 = .ok (.return_, 1) := by decide +kernel
theorem dX5_back_0 : decode cX5_back 0 = .ok (.iload_n 1, 1) := by decide +kernel
theorem dX5_back_1 : decode cX5_back 1 = .ok (.ifCond .lt 17, 3) := by decide +kernel
theorem dX5_back_4 : decode cX5_back 4 = .ok (.iload_n 1, 1) := by decide +kernel
theorem dX5_back_5 : decode cX5_back 5 = .ok (.iconst 4, 1) := by decide +kernel
theorem dX5_back_6 : decode cX5_back 6 = .ok (.if_icmp .ge 12, 3) := by decide +kernel
theorem dX5_back_9 : decode cX5_back 9 = .ok (.aload_n 0, 1) := by decide +kernel
theorem dX5_back_10 : decode cX5_back 10 = .ok (.getfield 15, 3) := by decide +kernel
theorem dX5_back_13 : decode cX5_back 13 = .ok (.iload_n 1, 1) := by decide +kernel
theorem dX5_back_14 : decode cX5_back 14 = .ok (.laload, 1) := by decide +kernel
theorem dX5_back_15 : decode cX5_back 15 = .ok (.goto 4, 3) := by decide +kernel
theorem dX5_back_18 : decode cX5_back 18 = .ok (.lconst 0, 1) := by decide +kernel
theorem dX5_back_19 : decode cX5_back 19 = .ok (.lreturn, 1) := by decide +kernel
theorem dX5_turnOf_0 : decode cX5_turnOf 0 = .ok (.iload_n 1, 1) := by decide +kernel
theorem dX5_turnOf_1 : decode cX5_turnOf 1 = .ok (.iconst 1, 1) := by decide +kernel
theorem dX5_turnOf_2 : decode cX5_turnOf 2 = .ok (.aload_n 0, 1) := by decide +kernel
theorem dX5_turnOf_3 : decode cX5_turnOf 3 = .ok (.getfield 26, 3) := by decide +kernel
theorem dX5_turnOf_6 : decode cX5_turnOf 6 = .ok (.ishl, 1) := by decide +kernel
theorem dX5_turnOf_7 : decode cX5_turnOf 7 = .ok (.iconst 1, 1) := by decide +kernel
theorem dX5_turnOf_8 : decode cX5_turnOf 8 = .ok (.isub, 1) := by decide +kernel
theorem dX5_turnOf_9 : decode cX5_turnOf 9 = .ok (.iand, 1) := by decide +kernel
theorem dX5_turnOf_10 : decode cX5_turnOf 10 = .ok (.ireturn, 1) := by decide +kernel
theorem dX5_codeKind_0 : decode cX5_codeKind 0 = .ok (.aload_n 0, 1) := by decide +kernel
theorem dX5_codeKind_1 : decode cX5_codeKind 1 = .ok (.iload_n 2, 1) := by decide +kernel
theorem dX5_codeKind_2 : decode cX5_codeKind 2 = .ok (.invokevirtual 53, 3) := by decide +kernel
theorem dX5_codeKind_5 : decode cX5_codeKind 5 = .ok (.istore_n 3, 1) := by decide +kernel
theorem dX5_codeKind_6 : decode cX5_codeKind 6 = .ok (.aload_n 0, 1) := by decide +kernel
theorem dX5_codeKind_7 : decode cX5_codeKind 7 = .ok (.getfield 11, 3) := by decide +kernel
theorem dX5_codeKind_10 : decode cX5_codeKind 10 = .ok (.iconst 0, 1) := by decide +kernel
theorem dX5_codeKind_11 : decode cX5_codeKind 11 = .ok (.aload_n 0, 1) := by decide +kernel
theorem dX5_codeKind_12 : decode cX5_codeKind 12 = .ok (.getfield 50, 3) := by decide +kernel
theorem dX5_codeKind_15 : decode cX5_codeKind 15 = .ok (.bipush 16, 2) := by decide +kernel
theorem dX5_codeKind_17 : decode cX5_codeKind 17 = .ok (.imul, 1) := by decide +kernel
theorem dX5_codeKind_18 : decode cX5_codeKind 18 = .ok (.iadd, 1) := by decide +kernel
theorem dX5_codeKind_19 : decode cX5_codeKind 19 = .ok (.iload_n 3, 1) := by decide +kernel
theorem dX5_codeKind_20 : decode cX5_codeKind 20 = .ok (.iadd, 1) := by decide +kernel
theorem dX5_codeKind_21 : decode cX5_codeKind 21 = .ok (.iload_n 1, 1) := by decide +kernel
theorem dX5_codeKind_22 : decode cX5_codeKind 22 = .ok (.ifCond .ne 7, 3) := by decide +kernel
theorem dX5_codeKind_25 : decode cX5_codeKind 25 = .ok (.iconst 0, 1) := by decide +kernel
theorem dX5_codeKind_26 : decode cX5_codeKind 26 = .ok (.goto 4, 3) := by decide +kernel
theorem dX5_codeKind_29 : decode cX5_codeKind 29 = .ok (.iconst 1, 1) := by decide +kernel
theorem dX5_codeKind_30 : decode cX5_codeKind 30 = .ok (.invokevirtual 57, 3) := by decide +kernel
theorem dX5_codeKind_33 : decode cX5_codeKind 33 = .ok (.ifCond .ne 5, 3) := by decide +kernel
theorem dX5_codeKind_36 : decode cX5_codeKind 36 = .ok (.iconst 0, 1) := by decide +kernel
theorem dX5_codeKind_37 : decode cX5_codeKind 37 = .ok (.ireturn, 1) := by decide +kernel
theorem dX5_codeKind_38 : decode cX5_codeKind 38 = .ok (.aload_n 0, 1) := by decide +kernel
theorem dX5_codeKind_39 : decode cX5_codeKind 39 = .ok (.getfield 11, 3) := by decide +kernel
theorem dX5_codeKind_42 : decode cX5_codeKind 42 = .ok (.sipush 192, 3) := by decide +kernel
theorem dX5_codeKind_45 : decode cX5_codeKind 45 = .ok (.aload_n 0, 1) := by decide +kernel
theorem dX5_codeKind_46 : decode cX5_codeKind 46 = .ok (.getfield 50, 3) := by decide +kernel
theorem dX5_codeKind_49 : decode cX5_codeKind 49 = .ok (.iadd, 1) := by decide +kernel
theorem dX5_codeKind_50 : decode cX5_codeKind 50 = .ok (.iload_n 1, 1) := by decide +kernel
theorem dX5_codeKind_51 : decode cX5_codeKind 51 = .ok (.iconst 1, 1) := by decide +kernel
theorem dX5_codeKind_52 : decode cX5_codeKind 52 = .ok (.if_icmp .eq 9, 3) := by decide +kernel
theorem dX5_codeKind_55 : decode cX5_codeKind 55 = .ok (.iload_n 1, 1) := by decide +kernel
theorem dX5_codeKind_56 : decode cX5_codeKind 56 = .ok (.bipush 7, 2) := by decide +kernel
theorem dX5_codeKind_58 : decode cX5_codeKind 58 = .ok (.if_icmp .ne 7, 3) := by decide +kernel
theorem dX5_codeKind_61 : decode cX5_codeKind 61 = .ok (.iconst 0, 1) := by decide +kernel
theorem dX5_codeKind_62 : decode cX5_codeKind 62 = .ok (.goto 4, 3) := by decide +kernel
theorem dX5_codeKind_65 : decode cX5_codeKind 65 = .ok (.iconst 1, 1) := by decide +kernel
theorem dX5_codeKind_66 : decode cX5_codeKind 66 = .ok (.invokevirtual 57, 3) := by decide +kernel
theorem dX5_codeKind_69 : decode cX5_codeKind 69 = .ok (.ifCond .ne 5, 3) := by decide +kernel
theorem dX5_codeKind_72 : decode cX5_codeKind 72 = .ok (.iconst 1, 1) := by decide +kernel
theorem dX5_codeKind_73 : decode cX5_codeKind 73 = .ok (.ireturn, 1) := by decide +kernel
theorem dX5_codeKind_74 : decode cX5_codeKind 74 = .ok (.aload_n 0, 1) := by decide +kernel
theorem dX5_codeKind_75 : decode cX5_codeKind 75 = .ok (.getfield 11, 3) := by decide +kernel
theorem dX5_codeKind_78 : decode cX5_codeKind 78 = .ok (.sipush 204, 3) := by decide +kernel
theorem dX5_codeKind_81 : decode cX5_codeKind 81 = .ok (.aload_n 0, 1) := by decide +kernel
theorem dX5_codeKind_82 : decode cX5_codeKind 82 = .ok (.getfield 50, 3) := by decide +kernel
theorem dX5_codeKind_85 : decode cX5_codeKind 85 = .ok (.iadd, 1) := by decide +kernel
theorem dX5_codeKind_86 : decode cX5_codeKind 86 = .ok (.iload_n 1, 1) := by decide +kernel
theorem dX5_codeKind_87 : decode cX5_codeKind 87 = .ok (.iconst 2, 1) := by decide +kernel
theorem dX5_codeKind_88 : decode cX5_codeKind 88 = .ok (.if_icmp .eq 9, 3) := by decide +kernel
theorem dX5_codeKind_91 : decode cX5_codeKind 91 = .ok (.iload_n 1, 1) := by decide +kernel
theorem dX5_codeKind_92 : decode cX5_codeKind 92 = .ok (.bipush 6, 2) := by decide +kernel
theorem dX5_codeKind_94 : decode cX5_codeKind 94 = .ok (.if_icmp .ne 7, 3) := by decide +kernel
theorem dX5_codeKind_97 : decode cX5_codeKind 97 = .ok (.iconst 0, 1) := by decide +kernel
theorem dX5_codeKind_98 : decode cX5_codeKind 98 = .ok (.goto 4, 3) := by decide +kernel
theorem dX5_codeKind_101 : decode cX5_codeKind 101 = .ok (.iconst 1, 1) := by decide +kernel
theorem dX5_codeKind_102 : decode cX5_codeKind 102 = .ok (.invokevirtual 57, 3) := by decide +kernel
theorem dX5_codeKind_105 : decode cX5_codeKind 105 = .ok (.ifCond .ne 44, 3) := by decide +kernel
theorem dX5_codeKind_108 : decode cX5_codeKind 108 = .ok (.aload_n 0, 1) := by decide +kernel
theorem dX5_codeKind_109 : decode cX5_codeKind 109 = .ok (.getfield 11, 3) := by decide +kernel
theorem dX5_codeKind_112 : decode cX5_codeKind 112 = .ok (.sipush 240, 3) := by decide +kernel
theorem dX5_codeKind_115 : decode cX5_codeKind 115 = .ok (.aload_n 0, 1) := by decide +kernel
theorem dX5_codeKind_116 : decode cX5_codeKind 116 = .ok (.getfield 50, 3) := by decide +kernel
theorem dX5_codeKind_119 : decode cX5_codeKind 119 = .ok (.bipush 16, 2) := by decide +kernel
theorem dX5_codeKind_121 : decode cX5_codeKind 121 = .ok (.imul, 1) := by decide +kernel
theorem dX5_codeKind_122 : decode cX5_codeKind 122 = .ok (.iadd, 1) := by decide +kernel
theorem dX5_codeKind_123 : decode cX5_codeKind 123 = .ok (.iload_n 3, 1) := by decide +kernel
theorem dX5_codeKind_124 : decode cX5_codeKind 124 = .ok (.iadd, 1) := by decide +kernel
theorem dX5_codeKind_125 : decode cX5_codeKind 125 = .ok (.iload_n 1, 1) := by decide +kernel
theorem dX5_codeKind_126 : decode cX5_codeKind 126 = .ok (.bipush 6, 2) := by decide +kernel
theorem dX5_codeKind_128 : decode cX5_codeKind 128 = .ok (.if_icmp .ne 7, 3) := by decide +kernel
theorem dX5_codeKind_131 : decode cX5_codeKind 131 = .ok (.iconst 0, 1) := by decide +kernel
theorem dX5_codeKind_132 : decode cX5_codeKind 132 = .ok (.goto 4, 3) := by decide +kernel
theorem dX5_codeKind_135 : decode cX5_codeKind 135 = .ok (.iconst 1, 1) := by decide +kernel
theorem dX5_codeKind_136 : decode cX5_codeKind 136 = .ok (.invokevirtual 57, 3) := by decide +kernel
theorem dX5_codeKind_139 : decode cX5_codeKind 139 = .ok (.ifCond .ne 8, 3) := by decide +kernel
theorem dX5_codeKind_142 : decode cX5_codeKind 142 = .ok (.bipush 6, 2) := by decide +kernel
theorem dX5_codeKind_144 : decode cX5_codeKind 144 = .ok (.goto 4, 3) := by decide +kernel
theorem dX5_codeKind_147 : decode cX5_codeKind 147 = .ok (.iconst 2, 1) := by decide +kernel
theorem dX5_codeKind_148 : decode cX5_codeKind 148 = .ok (.ireturn, 1) := by decide +kernel
theorem dX5_codeKind_149 : decode cX5_codeKind 149 = .ok (.aload_n 0, 1) := by decide +kernel
theorem dX5_codeKind_150 : decode cX5_codeKind 150 = .ok (.getfield 11, 3) := by decide +kernel
theorem dX5_codeKind_153 : decode cX5_codeKind 153 = .ok (.sipush 216, 3) := by decide +kernel
theorem dX5_codeKind_156 : decode cX5_codeKind 156 = .ok (.aload_n 0, 1) := by decide +kernel
theorem dX5_codeKind_157 : decode cX5_codeKind 157 = .ok (.getfield 50, 3) := by decide +kernel
theorem dX5_codeKind_160 : decode cX5_codeKind 160 = .ok (.iadd, 1) := by decide +kernel
theorem dX5_codeKind_161 : decode cX5_codeKind 161 = .ok (.iload_n 1, 1) := by decide +kernel
theorem dX5_codeKind_162 : decode cX5_codeKind 162 = .ok (.iconst 3, 1) := by decide +kernel
theorem dX5_codeKind_163 : decode cX5_codeKind 163 = .ok (.if_icmp .ne 7, 3) := by decide +kernel
theorem dX5_codeKind_166 : decode cX5_codeKind 166 = .ok (.iconst 0, 1) := by decide +kernel
theorem dX5_codeKind_167 : decode cX5_codeKind 167 = .ok (.goto 4, 3) := by decide +kernel
theorem dX5_codeKind_170 : decode cX5_codeKind 170 = .ok (.iconst 1, 1) := by decide +kernel
theorem dX5_codeKind_171 : decode cX5_codeKind 171 = .ok (.invokevirtual 57, 3) := by decide +kernel
theorem dX5_codeKind_174 : decode cX5_codeKind 174 = .ok (.ifCond .ne 5, 3) := by decide +kernel
theorem dX5_codeKind_177 : decode cX5_codeKind 177 = .ok (.iconst 3, 1) := by decide +kernel
theorem dX5_codeKind_178 : decode cX5_codeKind 178 = .ok (.ireturn, 1) := by decide +kernel
theorem dX5_codeKind_179 : decode cX5_codeKind 179 = .ok (.aload_n 0, 1) := by decide +kernel
theorem dX5_codeKind_180 : decode cX5_codeKind 180 = .ok (.getfield 11, 3) := by decide +kernel
theorem dX5_codeKind_183 : decode cX5_codeKind 183 = .ok (.sipush 228, 3) := by decide +kernel
theorem dX5_codeKind_186 : decode cX5_codeKind 186 = .ok (.aload_n 0, 1) := by decide +kernel
theorem dX5_codeKind_187 : decode cX5_codeKind 187 = .ok (.getfield 50, 3) := by decide +kernel
theorem dX5_codeKind_190 : decode cX5_codeKind 190 = .ok (.iadd, 1) := by decide +kernel
theorem dX5_codeKind_191 : decode cX5_codeKind 191 = .ok (.iload_n 1, 1) := by decide +kernel
theorem dX5_codeKind_192 : decode cX5_codeKind 192 = .ok (.iconst 4, 1) := by decide +kernel
theorem dX5_codeKind_193 : decode cX5_codeKind 193 = .ok (.if_icmp .ne 7, 3) := by decide +kernel
theorem dX5_codeKind_196 : decode cX5_codeKind 196 = .ok (.iconst 0, 1) := by decide +kernel
theorem dX5_codeKind_197 : decode cX5_codeKind 197 = .ok (.goto 4, 3) := by decide +kernel
theorem dX5_codeKind_200 : decode cX5_codeKind 200 = .ok (.iconst 1, 1) := by decide +kernel
theorem dX5_codeKind_201 : decode cX5_codeKind 201 = .ok (.invokevirtual 57, 3) := by decide +kernel
theorem dX5_codeKind_204 : decode cX5_codeKind 204 = .ok (.ifCond .ne 7, 3) := by decide +kernel
theorem dX5_codeKind_207 : decode cX5_codeKind 207 = .ok (.iconst 4, 1) := by decide +kernel
theorem dX5_codeKind_208 : decode cX5_codeKind 208 = .ok (.goto 4, 3) := by decide +kernel
theorem dX5_codeKind_211 : decode cX5_codeKind 211 = .ok (.iconst 5, 1) := by decide +kernel
theorem dX5_codeKind_212 : decode cX5_codeKind 212 = .ok (.ireturn, 1) := by decide +kernel
theorem dX5_codeMatch_0 : decode cX5_codeMatch 0 = .ok (.aload_n 0, 1) := by decide +kernel
theorem dX5_codeMatch_1 : decode cX5_codeMatch 1 = .ok (.getfield 11, 3) := by decide +kernel
theorem dX5_codeMatch_4 : decode cX5_codeMatch 4 = .ok (.iconst 0, 1) := by decide +kernel
theorem dX5_codeMatch_5 : decode cX5_codeMatch 5 = .ok (.aload_n 0, 1) := by decide +kernel
theorem dX5_codeMatch_6 : decode cX5_codeMatch 6 = .ok (.getfield 50, 3) := by decide +kernel
theorem dX5_codeMatch_9 : decode cX5_codeMatch 9 = .ok (.bipush 16, 2) := by decide +kernel
theorem dX5_codeMatch_11 : decode cX5_codeMatch 11 = .ok (.imul, 1) := by decide +kernel
theorem dX5_codeMatch_12 : decode cX5_codeMatch 12 = .ok (.iadd, 1) := by decide +kernel
theorem dX5_codeMatch_13 : decode cX5_codeMatch 13 = .ok (.aload_n 0, 1) := by decide +kernel
theorem dX5_codeMatch_14 : decode cX5_codeMatch 14 = .ok (.iload_n 1, 1) := by decide +kernel
theorem dX5_codeMatch_15 : decode cX5_codeMatch 15 = .ok (.invokevirtual 53, 3) := by decide +kernel
theorem dX5_codeMatch_18 : decode cX5_codeMatch 18 = .ok (.iadd, 1) := by decide +kernel
theorem dX5_codeMatch_19 : decode cX5_codeMatch 19 = .ok (.iconst 1, 1) := by decide +kernel
theorem dX5_codeMatch_20 : decode cX5_codeMatch 20 = .ok (.invokevirtual 57, 3) := by decide +kernel
theorem dX5_codeMatch_23 : decode cX5_codeMatch 23 = .ok (.iconst 1, 1) := by decide +kernel
theorem dX5_codeMatch_24 : decode cX5_codeMatch 24 = .ok (.if_icmp .ne 26, 3) := by decide +kernel
theorem dX5_codeMatch_27 : decode cX5_codeMatch 27 = .ok (.aload_n 0, 1) := by decide +kernel
theorem dX5_codeMatch_28 : decode cX5_codeMatch 28 = .ok (.getfield 11, 3) := by decide +kernel
theorem dX5_codeMatch_31 : decode cX5_codeMatch 31 = .ok (.sipush 192, 3) := by decide +kernel
theorem dX5_codeMatch_34 : decode cX5_codeMatch 34 = .ok (.aload_n 0, 1) := by decide +kernel
theorem dX5_codeMatch_35 : decode cX5_codeMatch 35 = .ok (.getfield 50, 3) := by decide +kernel
theorem dX5_codeMatch_38 : decode cX5_codeMatch 38 = .ok (.iadd, 1) := by decide +kernel
theorem dX5_codeMatch_39 : decode cX5_codeMatch 39 = .ok (.iconst 0, 1) := by decide +kernel
theorem dX5_codeMatch_40 : decode cX5_codeMatch 40 = .ok (.invokevirtual 57, 3) := by decide +kernel
theorem dX5_codeMatch_43 : decode cX5_codeMatch 43 = .ok (.ifCond .ne 7, 3) := by decide +kernel
theorem dX5_codeMatch_46 : decode cX5_codeMatch 46 = .ok (.iconst 1, 1) := by decide +kernel
theorem dX5_codeMatch_47 : decode cX5_codeMatch 47 = .ok (.goto 4, 3) := by decide +kernel
theorem dX5_codeMatch_50 : decode cX5_codeMatch 50 = .ok (.iconst 0, 1) := by decide +kernel
theorem dX5_codeMatch_51 : decode cX5_codeMatch 51 = .ok (.ireturn, 1) := by decide +kernel
theorem dX5_codeLiteral_0 : decode cX5_codeLiteral 0 = .ok (.iload_n 2, 1) := by decide +kernel
theorem dX5_codeLiteral_1 : decode cX5_codeLiteral 1 = .ok (.iconst 1, 1) := by decide +kernel
theorem dX5_codeLiteral_2 : decode cX5_codeLiteral 2 = .ok (.aload_n 0, 1) := by decide +kernel
theorem dX5_codeLiteral_3 : decode cX5_codeLiteral 3 = .ok (.getfield 23, 3) := by decide +kernel
theorem dX5_codeLiteral_6 : decode cX5_codeLiteral 6 = .ok (.ishl, 1) := by decide +kernel
theorem dX5_codeLiteral_7 : decode cX5_codeLiteral 7 = .ok (.iconst 1, 1) := by decide +kernel
theorem dX5_codeLiteral_8 : decode cX5_codeLiteral 8 = .ok (.isub, 1) := by decide +kernel
theorem dX5_codeLiteral_9 : decode cX5_codeLiteral 9 = .ok (.iand, 1) := by decide +kernel
theorem dX5_codeLiteral_10 : decode cX5_codeLiteral 10 = .ok (.aload_n 0, 1) := by decide +kernel
theorem dX5_codeLiteral_11 : decode cX5_codeLiteral 11 = .ok (.getfield 19, 3) := by decide +kernel
theorem dX5_codeLiteral_14 : decode cX5_codeLiteral 14 = .ok (.ishl, 1) := by decide +kernel
theorem dX5_codeLiteral_15 : decode cX5_codeLiteral 15 = .ok (.iload_n 3, 1) := by decide +kernel
theorem dX5_codeLiteral_16 : decode cX5_codeLiteral 16 = .ok (.bipush 8, 2) := by decide +kernel
theorem dX5_codeLiteral_18 : decode cX5_codeLiteral 18 = .ok (.aload_n 0, 1) := by decide +kernel
theorem dX5_codeLiteral_19 : decode cX5_codeLiteral 19 = .ok (.getfield 19, 3) := by decide +kernel
theorem dX5_codeLiteral_22 : decode cX5_codeLiteral 22 = .ok (.isub, 1) := by decide +kernel
theorem dX5_codeLiteral_23 : decode cX5_codeLiteral 23 = .ok (.ishr, 1) := by decide +kernel
theorem dX5_codeLiteral_24 : decode cX5_codeLiteral 24 = .ok (.iadd, 1) := by decide +kernel
theorem dX5_codeLiteral_25 : decode cX5_codeLiteral 25 = .ok (.istore 5, 2) := by decide +kernel
theorem dX5_codeLiteral_27 : decode cX5_codeLiteral 27 = .ok (.sipush 2052, 3) := by decide +kernel
theorem dX5_codeLiteral_30 : decode cX5_codeLiteral 30 = .ok (.sipush 768, 3) := by decide +kernel
theorem dX5_codeLiteral_33 : decode cX5_codeLiteral 33 = .ok (.iload 5, 2) := by decide +kernel
theorem dX5_codeLiteral_35 : decode cX5_codeLiteral 35 = .ok (.imul, 1) := by decide +kernel
theorem dX5_codeLiteral_36 : decode cX5_codeLiteral 36 = .ok (.iadd, 1) := by decide +kernel
theorem dX5_codeLiteral_37 : decode cX5_codeLiteral 37 = .ok (.istore 6, 2) := by decide +kernel
theorem dX5_codeLiteral_39 : decode cX5_codeLiteral 39 = .ok (.aload_n 0, 1) := by decide +kernel
theorem dX5_codeLiteral_40 : decode cX5_codeLiteral 40 = .ok (.getfield 50, 3) := by decide +kernel
theorem dX5_codeLiteral_43 : decode cX5_codeLiteral 43 = .ok (.bipush 7, 2) := by decide +kernel
theorem dX5_codeLiteral_45 : decode cX5_codeLiteral 45 = .ok (.if_icmp .lt 7, 3) := by decide +kernel
theorem dX5_codeLiteral_48 : decode cX5_codeLiteral 48 = .ok (.iconst 1, 1) := by decide +kernel
theorem dX5_codeLiteral_49 : decode cX5_codeLiteral 49 = .ok (.goto 4, 3) := by decide +kernel
theorem dX5_codeLiteral_52 : decode cX5_codeLiteral 52 = .ok (.iconst 0, 1) := by decide +kernel
theorem dX5_codeLiteral_53 : decode cX5_codeLiteral 53 = .ok (.istore 7, 2) := by decide +kernel
theorem dX5_codeLiteral_55 : decode cX5_codeLiteral 55 = .ok (.iconst 1, 1) := by decide +kernel
theorem dX5_codeLiteral_56 : decode cX5_codeLiteral 56 = .ok (.istore 8, 2) := by decide +kernel
theorem dX5_codeLiteral_58 : decode cX5_codeLiteral 58 = .ok (.bipush 7, 2) := by decide +kernel
theorem dX5_codeLiteral_60 : decode cX5_codeLiteral 60 = .ok (.istore 9, 2) := by decide +kernel
theorem dX5_codeLiteral_62 : decode cX5_codeLiteral 62 = .ok (.iload 9, 2) := by decide +kernel
theorem dX5_codeLiteral_64 : decode cX5_codeLiteral 64 = .ok (.ifCond .lt 93, 3) := by decide +kernel
theorem dX5_codeLiteral_67 : decode cX5_codeLiteral 67 = .ok (.iload 4, 2) := by decide +kernel
theorem dX5_codeLiteral_69 : decode cX5_codeLiteral 69 = .ok (.iload 9, 2) := by decide +kernel
theorem dX5_codeLiteral_71 : decode cX5_codeLiteral 71 = .ok (.ishr, 1) := by decide +kernel
theorem dX5_codeLiteral_72 : decode cX5_codeLiteral 72 = .ok (.iconst 1, 1) := by decide +kernel
theorem dX5_codeLiteral_73 : decode cX5_codeLiteral 73 = .ok (.iand, 1) := by decide +kernel
theorem dX5_codeLiteral_74 : decode cX5_codeLiteral 74 = .ok (.istore 10, 2) := by decide +kernel
theorem dX5_codeLiteral_76 : decode cX5_codeLiteral 76 = .ok (.iload 7, 2) := by decide +kernel
theorem dX5_codeLiteral_78 : decode cX5_codeLiteral 78 = .ok (.ifCond .eq 21, 3) := by decide +kernel
theorem dX5_codeLiteral_81 : decode cX5_codeLiteral 81 = .ok (.iload 6, 2) := by decide +kernel
theorem dX5_codeLiteral_83 : decode cX5_codeLiteral 83 = .ok (.iload 8, 2) := by decide +kernel
theorem dX5_codeLiteral_85 : decode cX5_codeLiteral 85 = .ok (.iadd, 1) := by decide +kernel
theorem dX5_codeLiteral_86 : decode cX5_codeLiteral 86 = .ok (.sipush 256, 3) := by decide +kernel
theorem dX5_codeLiteral_89 : decode cX5_codeLiteral 89 = .ok (.iadd, 1) := by decide +kernel
theorem dX5_codeLiteral_90 : decode cX5_codeLiteral 90 = .ok (.iload 10, 2) := by decide +kernel
theorem dX5_codeLiteral_92 : decode cX5_codeLiteral 92 = .ok (.bipush 8, 2) := by decide +kernel
theorem dX5_codeLiteral_94 : decode cX5_codeLiteral 94 = .ok (.ishl, 1) := by decide +kernel
theorem dX5_codeLiteral_95 : decode cX5_codeLiteral 95 = .ok (.iadd, 1) := by decide +kernel
theorem dX5_codeLiteral_96 : decode cX5_codeLiteral 96 = .ok (.goto 8, 3) := by decide +kernel
theorem dX5_codeLiteral_99 : decode cX5_codeLiteral 99 = .ok (.iload 6, 2) := by decide +kernel
theorem dX5_codeLiteral_101 : decode cX5_codeLiteral 101 = .ok (.iload 8, 2) := by decide +kernel
theorem dX5_codeLiteral_103 : decode cX5_codeLiteral 103 = .ok (.iadd, 1) := by decide +kernel
theorem dX5_codeLiteral_104 : decode cX5_codeLiteral 104 = .ok (.istore 11, 2) := by decide +kernel
theorem dX5_codeLiteral_106 : decode cX5_codeLiteral 106 = .ok (.aload_n 0, 1) := by decide +kernel
theorem dX5_codeLiteral_107 : decode cX5_codeLiteral 107 = .ok (.getfield 11, 3) := by decide +kernel
theorem dX5_codeLiteral_110 : decode cX5_codeLiteral 110 = .ok (.iload 11, 2) := by decide +kernel
theorem dX5_codeLiteral_112 : decode cX5_codeLiteral 112 = .ok (.iload_n 1, 1) := by decide +kernel
theorem dX5_codeLiteral_113 : decode cX5_codeLiteral 113 = .ok (.iload 9, 2) := by decide +kernel
theorem dX5_codeLiteral_115 : decode cX5_codeLiteral 115 = .ok (.ishr, 1) := by decide +kernel
theorem dX5_codeLiteral_116 : decode cX5_codeLiteral 116 = .ok (.iconst 1, 1) := by decide +kernel
theorem dX5_codeLiteral_117 : decode cX5_codeLiteral 117 = .ok (.iand, 1) := by decide +kernel
theorem dX5_codeLiteral_118 : decode cX5_codeLiteral 118 = .ok (.invokevirtual 57, 3) := by decide +kernel
theorem dX5_codeLiteral_121 : decode cX5_codeLiteral 121 = .ok (.istore 12, 2) := by decide +kernel
theorem dX5_codeLiteral_123 : decode cX5_codeLiteral 123 = .ok (.iload 8, 2) := by decide +kernel
theorem dX5_codeLiteral_125 : decode cX5_codeLiteral 125 = .ok (.iconst 1, 1) := by decide +kernel
theorem dX5_codeLiteral_126 : decode cX5_codeLiteral 126 = .ok (.ishl, 1) := by decide +kernel
theorem dX5_codeLiteral_127 : decode cX5_codeLiteral 127 = .ok (.iload 12, 2) := by decide +kernel
theorem dX5_codeLiteral_129 : decode cX5_codeLiteral 129 = .ok (.ior, 1) := by decide +kernel
theorem dX5_codeLiteral_130 : decode cX5_codeLiteral 130 = .ok (.istore 8, 2) := by decide +kernel
theorem dX5_codeLiteral_132 : decode cX5_codeLiteral 132 = .ok (.iload 7, 2) := by decide +kernel
theorem dX5_codeLiteral_134 : decode cX5_codeLiteral 134 = .ok (.ifCond .eq 14, 3) := by decide +kernel
theorem dX5_codeLiteral_137 : decode cX5_codeLiteral 137 = .ok (.iload 12, 2) := by decide +kernel
theorem dX5_codeLiteral_139 : decode cX5_codeLiteral 139 = .ok (.iload 10, 2) := by decide +kernel
theorem dX5_codeLiteral_141 : decode cX5_codeLiteral 141 = .ok (.if_icmp .ne 7, 3) := by decide +kernel
theorem dX5_codeLiteral_144 : decode cX5_codeLiteral 144 = .ok (.iconst 1, 1) := by decide +kernel
theorem dX5_codeLiteral_145 : decode cX5_codeLiteral 145 = .ok (.goto 4, 3) := by decide +kernel
theorem dX5_codeLiteral_148 : decode cX5_codeLiteral 148 = .ok (.iconst 0, 1) := by decide +kernel
theorem dX5_codeLiteral_149 : decode cX5_codeLiteral 149 = .ok (.istore 7, 2) := by decide +kernel
theorem dX5_codeLiteral_151 : decode cX5_codeLiteral 151 = .ok (.iinc 9 (-1), 3) := by decide +kernel
theorem dX5_codeLiteral_154 : decode cX5_codeLiteral 154 = .ok (.goto (-92), 3) := by decide +kernel
theorem dX5_codeLiteral_157 : decode cX5_codeLiteral 157 = .ok (.iload 8, 2) := by decide +kernel
theorem dX5_codeLiteral_159 : decode cX5_codeLiteral 159 = .ok (.sipush 255, 3) := by decide +kernel
theorem dX5_codeLiteral_162 : decode cX5_codeLiteral 162 = .ok (.iand, 1) := by decide +kernel
theorem dX5_codeLiteral_163 : decode cX5_codeLiteral 163 = .ok (.ireturn, 1) := by decide +kernel
theorem dX5_codeLength_0 : decode cX5_codeLength 0 = .ok (.aload_n 0, 1) := by decide +kernel
theorem dX5_codeLength_1 : decode cX5_codeLength 1 = .ok (.iload_n 3, 1) := by decide +kernel
theorem dX5_codeLength_2 : decode cX5_codeLength 2 = .ok (.invokevirtual 53, 3) := by decide +kernel
theorem dX5_codeLength_5 : decode cX5_codeLength 5 = .ok (.istore 4, 2) := by decide +kernel
theorem dX5_codeLength_7 : decode cX5_codeLength 7 = .ok (.iload_n 2, 1) := by decide +kernel
theorem dX5_codeLength_8 : decode cX5_codeLength 8 = .ok (.iconst 2, 1) := by decide +kernel
theorem dX5_codeLength_9 : decode cX5_codeLength 9 = .ok (.isub, 1) := by decide +kernel
theorem dX5_codeLength_10 : decode cX5_codeLength 10 = .ok (.istore 5, 2) := by decide +kernel
theorem dX5_codeLength_12 : decode cX5_codeLength 12 = .ok (.aload_n 0, 1) := by decide +kernel
theorem dX5_codeLength_13 : decode cX5_codeLength 13 = .ok (.getfield 11, 3) := by decide +kernel
theorem dX5_codeLength_16 : decode cX5_codeLength 16 = .ok (.iload_n 1, 1) := by decide +kernel
theorem dX5_codeLength_17 : decode cX5_codeLength 17 = .ok (.iload 5, 2) := by decide +kernel
theorem dX5_codeLength_19 : decode cX5_codeLength 19 = .ok (.bipush 8, 2) := by decide +kernel
theorem dX5_codeLength_21 : decode cX5_codeLength 21 = .ok (.if_icmp .ge 7, 3) := by decide +kernel
theorem dX5_codeLength_24 : decode cX5_codeLength 24 = .ok (.iconst 0, 1) := by decide +kernel
theorem dX5_codeLength_25 : decode cX5_codeLength 25 = .ok (.goto 4, 3) := by decide +kernel
theorem dX5_codeLength_28 : decode cX5_codeLength 28 = .ok (.iconst 1, 1) := by decide +kernel
theorem dX5_codeLength_29 : decode cX5_codeLength 29 = .ok (.invokevirtual 57, 3) := by decide +kernel
theorem dX5_codeLength_32 : decode cX5_codeLength 32 = .ok (.ifCond .ne 25, 3) := by decide +kernel
theorem dX5_codeLength_35 : decode cX5_codeLength 35 = .ok (.iconst 2, 1) := by decide +kernel
theorem dX5_codeLength_36 : decode cX5_codeLength 36 = .ok (.aload_n 0, 1) := by decide +kernel
theorem dX5_codeLength_37 : decode cX5_codeLength 37 = .ok (.getfield 11, 3) := by decide +kernel
theorem dX5_codeLength_40 : decode cX5_codeLength 40 = .ok (.iload_n 1, 1) := by decide +kernel
theorem dX5_codeLength_41 : decode cX5_codeLength 41 = .ok (.iconst 2, 1) := by decide +kernel
theorem dX5_codeLength_42 : decode cX5_codeLength 42 = .ok (.iadd, 1) := by decide +kernel
theorem dX5_codeLength_43 : decode cX5_codeLength 43 = .ok (.iload 4, 2) := by decide +kernel
theorem dX5_codeLength_45 : decode cX5_codeLength 45 = .ok (.bipush 8, 2) := by decide +kernel
theorem dX5_codeLength_47 : decode cX5_codeLength 47 = .ok (.imul, 1) := by decide +kernel
theorem dX5_codeLength_48 : decode cX5_codeLength 48 = .ok (.iadd, 1) := by decide +kernel
theorem dX5_codeLength_49 : decode cX5_codeLength 49 = .ok (.iconst 3, 1) := by decide +kernel
theorem dX5_codeLength_50 : decode cX5_codeLength 50 = .ok (.iload 5, 2) := by decide +kernel
theorem dX5_codeLength_52 : decode cX5_codeLength 52 = .ok (.invokevirtual 60, 3) := by decide +kernel
theorem dX5_codeLength_55 : decode cX5_codeLength 55 = .ok (.iadd, 1) := by decide +kernel
theorem dX5_codeLength_56 : decode cX5_codeLength 56 = .ok (.ireturn, 1) := by decide +kernel
theorem dX5_codeLength_57 : decode cX5_codeLength 57 = .ok (.aload_n 0, 1) := by decide +kernel
theorem dX5_codeLength_58 : decode cX5_codeLength 58 = .ok (.getfield 11, 3) := by decide +kernel
theorem dX5_codeLength_61 : decode cX5_codeLength 61 = .ok (.iload_n 1, 1) := by decide +kernel
theorem dX5_codeLength_62 : decode cX5_codeLength 62 = .ok (.iconst 1, 1) := by decide +kernel
theorem dX5_codeLength_63 : decode cX5_codeLength 63 = .ok (.iadd, 1) := by decide +kernel
theorem dX5_codeLength_64 : decode cX5_codeLength 64 = .ok (.iload 5, 2) := by decide +kernel
theorem dX5_codeLength_66 : decode cX5_codeLength 66 = .ok (.bipush 16, 2) := by decide +kernel
theorem dX5_codeLength_68 : decode cX5_codeLength 68 = .ok (.if_icmp .ge 7, 3) := by decide +kernel
theorem dX5_codeLength_71 : decode cX5_codeLength 71 = .ok (.iconst 0, 1) := by decide +kernel
theorem dX5_codeLength_72 : decode cX5_codeLength 72 = .ok (.goto 4, 3) := by decide +kernel
theorem dX5_codeLength_75 : decode cX5_codeLength 75 = .ok (.iconst 1, 1) := by decide +kernel
theorem dX5_codeLength_76 : decode cX5_codeLength 76 = .ok (.invokevirtual 57, 3) := by decide +kernel
theorem dX5_codeLength_79 : decode cX5_codeLength 79 = .ok (.ifCond .ne 31, 3) := by decide +kernel
theorem dX5_codeLength_82 : decode cX5_codeLength 82 = .ok (.bipush 10, 2) := by decide +kernel
theorem dX5_codeLength_84 : decode cX5_codeLength 84 = .ok (.aload_n 0, 1) := by decide +kernel
theorem dX5_codeLength_85 : decode cX5_codeLength 85 = .ok (.getfield 11, 3) := by decide +kernel
theorem dX5_codeLength_88 : decode cX5_codeLength 88 = .ok (.iload_n 1, 1) := by decide +kernel
theorem dX5_codeLength_89 : decode cX5_codeLength 89 = .ok (.sipush 130, 3) := by decide +kernel
theorem dX5_codeLength_92 : decode cX5_codeLength 92 = .ok (.iadd, 1) := by decide +kernel
theorem dX5_codeLength_93 : decode cX5_codeLength 93 = .ok (.iload 4, 2) := by decide +kernel
theorem dX5_codeLength_95 : decode cX5_codeLength 95 = .ok (.bipush 8, 2) := by decide +kernel
theorem dX5_codeLength_97 : decode cX5_codeLength 97 = .ok (.imul, 1) := by decide +kernel
theorem dX5_codeLength_98 : decode cX5_codeLength 98 = .ok (.iadd, 1) := by decide +kernel
theorem dX5_codeLength_99 : decode cX5_codeLength 99 = .ok (.iconst 3, 1) := by decide +kernel
theorem dX5_codeLength_100 : decode cX5_codeLength 100 = .ok (.iload 5, 2) := by decide +kernel
theorem dX5_codeLength_102 : decode cX5_codeLength 102 = .ok (.bipush 8, 2) := by decide +kernel
theorem dX5_codeLength_104 : decode cX5_codeLength 104 = .ok (.isub, 1) := by decide +kernel
theorem dX5_codeLength_105 : decode cX5_codeLength 105 = .ok (.invokevirtual 60, 3) := by decide +kernel
theorem dX5_codeLength_108 : decode cX5_codeLength 108 = .ok (.iadd, 1) := by decide +kernel
theorem dX5_codeLength_109 : decode cX5_codeLength 109 = .ok (.ireturn, 1) := by decide +kernel
theorem dX5_codeLength_110 : decode cX5_codeLength 110 = .ok (.bipush 18, 2) := by decide +kernel
theorem dX5_codeLength_112 : decode cX5_codeLength 112 = .ok (.aload_n 0, 1) := by decide +kernel
theorem dX5_codeLength_113 : decode cX5_codeLength 113 = .ok (.getfield 11, 3) := by decide +kernel
theorem dX5_codeLength_116 : decode cX5_codeLength 116 = .ok (.iload_n 1, 1) := by decide +kernel
theorem dX5_codeLength_117 : decode cX5_codeLength 117 = .ok (.sipush 258, 3) := by decide +kernel
theorem dX5_codeLength_120 : decode cX5_codeLength 120 = .ok (.iadd, 1) := by decide +kernel
theorem dX5_codeLength_121 : decode cX5_codeLength 121 = .ok (.bipush 8, 2) := by decide +kernel
theorem dX5_codeLength_123 : decode cX5_codeLength 123 = .ok (.iload 5, 2) := by decide +kernel
theorem dX5_codeLength_125 : decode cX5_codeLength 125 = .ok (.bipush 16, 2) := by decide +kernel
theorem dX5_codeLength_127 : decode cX5_codeLength 127 = .ok (.isub, 1) := by decide +kernel
theorem dX5_codeLength_128 : decode cX5_codeLength 128 = .ok (.invokevirtual 60, 3) := by decide +kernel
theorem dX5_codeLength_131 : decode cX5_codeLength 131 = .ok (.iadd, 1) := by decide +kernel
theorem dX5_codeLength_132 : decode cX5_codeLength 132 = .ok (.ireturn, 1) := by decide +kernel
theorem dX5_codeFar_0 : decode cX5_codeFar 0 = .ok (.iconst 0, 1) := by decide +kernel
theorem dX5_codeFar_1 : decode cX5_codeFar 1 = .ok (.iload_n 3, 1) := by decide +kernel
theorem dX5_codeFar_2 : decode cX5_codeFar 2 = .ok (.iconst 2, 1) := by decide +kernel
theorem dX5_codeFar_3 : decode cX5_codeFar 3 = .ok (.isub, 1) := by decide +kernel
theorem dX5_codeFar_4 : decode cX5_codeFar 4 = .ok (.iconst 3, 1) := by decide +kernel
theorem dX5_codeFar_5 : decode cX5_codeFar 5 = .ok (.invokestatic 35, 3) := by decide +kernel
theorem dX5_codeFar_8 : decode cX5_codeFar 8 = .ok (.invokestatic 64, 3) := by decide +kernel
theorem dX5_codeFar_11 : decode cX5_codeFar 11 = .ok (.istore 4, 2) := by decide +kernel
theorem dX5_codeFar_13 : decode cX5_codeFar 13 = .ok (.aload_n 0, 1) := by decide +kernel
theorem dX5_codeFar_14 : decode cX5_codeFar 14 = .ok (.getfield 11, 3) := by decide +kernel
theorem dX5_codeFar_17 : decode cX5_codeFar 17 = .ok (.sipush 432, 3) := by decide +kernel
theorem dX5_codeFar_20 : decode cX5_codeFar 20 = .ok (.iload 4, 2) := by decide +kernel
theorem dX5_codeFar_22 : decode cX5_codeFar 22 = .ok (.bipush 64, 2) := by decide +kernel
theorem dX5_codeFar_24 : decode cX5_codeFar 24 = .ok (.imul, 1) := by decide +kernel
theorem dX5_codeFar_25 : decode cX5_codeFar 25 = .ok (.iadd, 1) := by decide +kernel
theorem dX5_codeFar_26 : decode cX5_codeFar 26 = .ok (.bipush 6, 2) := by decide +kernel
theorem dX5_codeFar_28 : decode cX5_codeFar 28 = .ok (.lload_n 1, 1) := by decide +kernel
theorem dX5_codeFar_29 : decode cX5_codeFar 29 = .ok (.lconst 1, 1) := by decide +kernel
theorem dX5_codeFar_30 : decode cX5_codeFar 30 = .ok (.lsub, 1) := by decide +kernel
theorem dX5_codeFar_31 : decode cX5_codeFar 31 = .ok (.invokestatic 67, 3) := by decide +kernel
theorem dX5_codeFar_34 : decode cX5_codeFar 34 = .ok (.invokevirtual 60, 3) := by decide +kernel
theorem dX5_codeFar_37 : decode cX5_codeFar 37 = .ok (.istore 5, 2) := by decide +kernel
theorem dX5_codeFar_39 : decode cX5_codeFar 39 = .ok (.iload 5, 2) := by decide +kernel
theorem dX5_codeFar_41 : decode cX5_codeFar 41 = .ok (.iconst 4, 1) := by decide +kernel
theorem dX5_codeFar_42 : decode cX5_codeFar 42 = .ok (.if_icmp .ge 9, 3) := by decide +kernel
theorem dX5_codeFar_45 : decode cX5_codeFar 45 = .ok (.iload 5, 2) := by decide +kernel
theorem dX5_codeFar_47 : decode cX5_codeFar 47 = .ok (.iconst 1, 1) := by decide +kernel
theorem dX5_codeFar_48 : decode cX5_codeFar 48 = .ok (.iadd, 1) := by decide +kernel
theorem dX5_codeFar_49 : decode cX5_codeFar 49 = .ok (.i2l, 1) := by decide +kernel
theorem dX5_codeFar_50 : decode cX5_codeFar 50 = .ok (.lreturn, 1) := by decide +kernel
theorem dX5_codeFar_51 : decode cX5_codeFar 51 = .ok (.iload 5, 2) := by decide +kernel
theorem dX5_codeFar_53 : decode cX5_codeFar 53 = .ok (.iconst 2, 1) := by decide +kernel
theorem dX5_codeFar_54 : decode cX5_codeFar 54 = .ok (.idiv, 1) := by decide +kernel
theorem dX5_codeFar_55 : decode cX5_codeFar 55 = .ok (.iconst 1, 1) := by decide +kernel
theorem dX5_codeFar_56 : decode cX5_codeFar 56 = .ok (.isub, 1) := by decide +kernel
theorem dX5_codeFar_57 : decode cX5_codeFar 57 = .ok (.istore 6, 2) := by decide +kernel
theorem dX5_codeFar_59 : decode cX5_codeFar 59 = .ok (.ldc2_w 71, 3) := by decide +kernel
theorem dX5_codeFar_62 : decode cX5_codeFar 62 = .ok (.iload 5, 2) := by decide +kernel
theorem dX5_codeFar_64 : decode cX5_codeFar 64 = .ok (.iconst 1, 1) := by decide +kernel
theorem dX5_codeFar_65 : decode cX5_codeFar 65 = .ok (.iand, 1) := by decide +kernel
theorem dX5_codeFar_66 : decode cX5_codeFar 66 = .ok (.i2l, 1) := by decide +kernel
theorem dX5_codeFar_67 : decode cX5_codeFar 67 = .ok (.ladd, 1) := by decide +kernel
theorem dX5_codeFar_68 : decode cX5_codeFar 68 = .ok (.iload 6, 2) := by decide +kernel
theorem dX5_codeFar_70 : decode cX5_codeFar 70 = .ok (.lshl, 1) := by decide +kernel
theorem dX5_codeFar_71 : decode cX5_codeFar 71 = .ok (.lstore 7, 2) := by decide +kernel
theorem dX5_codeFar_73 : decode cX5_codeFar 73 = .ok (.lload_n 1, 1) := by decide +kernel
theorem dX5_codeFar_74 : decode cX5_codeFar 74 = .ok (.lconst 1, 1) := by decide +kernel
theorem dX5_codeFar_75 : decode cX5_codeFar 75 = .ok (.lsub, 1) := by decide +kernel
theorem dX5_codeFar_76 : decode cX5_codeFar 76 = .ok (.lload 7, 2) := by decide +kernel
theorem dX5_codeFar_78 : decode cX5_codeFar 78 = .ok (.lsub, 1) := by decide +kernel
theorem dX5_codeFar_79 : decode cX5_codeFar 79 = .ok (.lstore 9, 2) := by decide +kernel
theorem dX5_codeFar_81 : decode cX5_codeFar 81 = .ok (.iload 5, 2) := by decide +kernel
theorem dX5_codeFar_83 : decode cX5_codeFar 83 = .ok (.bipush 14, 2) := by decide +kernel
theorem dX5_codeFar_85 : decode cX5_codeFar 85 = .ok (.if_icmp .ge 33, 3) := by decide +kernel
theorem dX5_codeFar_88 : decode cX5_codeFar 88 = .ok (.lload 7, 2) := by decide +kernel
theorem dX5_codeFar_90 : decode cX5_codeFar 90 = .ok (.aload_n 0, 1) := by decide +kernel
theorem dX5_codeFar_91 : decode cX5_codeFar 91 = .ok (.getfield 11, 3) := by decide +kernel
theorem dX5_codeFar_94 : decode cX5_codeFar 94 = .ok (.sipush 688, 3) := by decide +kernel
theorem dX5_codeFar_97 : decode cX5_codeFar 97 = .ok (.iload 5, 2) := by decide +kernel
theorem dX5_codeFar_99 : decode cX5_codeFar 99 = .ok (.iconst 4, 1) := by decide +kernel
theorem dX5_codeFar_100 : decode cX5_codeFar 100 = .ok (.isub, 1) := by decide +kernel
theorem dX5_codeFar_101 : decode cX5_codeFar 101 = .ok (.bipush 32, 2) := by decide +kernel
theorem dX5_codeFar_103 : decode cX5_codeFar 103 = .ok (.imul, 1) := by decide +kernel
theorem dX5_codeFar_104 : decode cX5_codeFar 104 = .ok (.iadd, 1) := by decide +kernel
theorem dX5_codeFar_105 : decode cX5_codeFar 105 = .ok (.iload 6, 2) := by decide +kernel
theorem dX5_codeFar_107 : decode cX5_codeFar 107 = .ok (.lload 9, 2) := by decide +kernel
theorem dX5_codeFar_109 : decode cX5_codeFar 109 = .ok (.l2i, 1) := by decide +kernel
theorem dX5_codeFar_110 : decode cX5_codeFar 110 = .ok (.invokevirtual 73, 3) := by decide +kernel
theorem dX5_codeFar_113 : decode cX5_codeFar 113 = .ok (.i2l, 1) := by decide +kernel
theorem dX5_codeFar_114 : decode cX5_codeFar 114 = .ok (.ladd, 1) := by decide +kernel
theorem dX5_codeFar_115 : decode cX5_codeFar 115 = .ok (.lconst 1, 1) := by decide +kernel
theorem dX5_codeFar_116 : decode cX5_codeFar 116 = .ok (.ladd, 1) := by decide +kernel
theorem dX5_codeFar_117 : decode cX5_codeFar 117 = .ok (.lreturn, 1) := by decide +kernel
theorem dX5_codeFar_118 : decode cX5_codeFar 118 = .ok (.aload_n 0, 1) := by decide +kernel
theorem dX5_codeFar_119 : decode cX5_codeFar 119 = .ok (.getfield 11, 3) := by decide +kernel
theorem dX5_codeFar_122 : decode cX5_codeFar 122 = .ok (.iload 6, 2) := by decide +kernel
theorem dX5_codeFar_124 : decode cX5_codeFar 124 = .ok (.iconst 4, 1) := by decide +kernel
theorem dX5_codeFar_125 : decode cX5_codeFar 125 = .ok (.isub, 1) := by decide +kernel
theorem dX5_codeFar_126 : decode cX5_codeFar 126 = .ok (.lload 9, 2) := by decide +kernel
theorem dX5_codeFar_128 : decode cX5_codeFar 128 = .ok (.iconst 4, 1) := by decide +kernel
theorem dX5_codeFar_129 : decode cX5_codeFar 129 = .ok (.lushr, 1) := by decide +kernel
theorem dX5_codeFar_130 : decode cX5_codeFar 130 = .ok (.invokevirtual 76, 3) := by decide +kernel
theorem dX5_codeFar_133 : decode cX5_codeFar 133 = .ok (.iconst 4, 1) := by decide +kernel
theorem dX5_codeFar_134 : decode cX5_codeFar 134 = .ok (.lshl, 1) := by decide +kernel
theorem dX5_codeFar_135 : decode cX5_codeFar 135 = .ok (.lstore 11, 2) := by decide +kernel
theorem dX5_codeFar_137 : decode cX5_codeFar 137 = .ok (.lload 7, 2) := by decide +kernel
theorem dX5_codeFar_139 : decode cX5_codeFar 139 = .ok (.lload 11, 2) := by decide +kernel
theorem dX5_codeFar_141 : decode cX5_codeFar 141 = .ok (.ladd, 1) := by decide +kernel
theorem dX5_codeFar_142 : decode cX5_codeFar 142 = .ok (.aload_n 0, 1) := by decide +kernel
theorem dX5_codeFar_143 : decode cX5_codeFar 143 = .ok (.getfield 11, 3) := by decide +kernel
theorem dX5_codeFar_146 : decode cX5_codeFar 146 = .ok (.sipush 1008, 3) := by decide +kernel
theorem dX5_codeFar_149 : decode cX5_codeFar 149 = .ok (.iconst 4, 1) := by decide +kernel
theorem dX5_codeFar_150 : decode cX5_codeFar 150 = .ok (.lload 9, 2) := by decide +kernel
theorem dX5_codeFar_152 : decode cX5_codeFar 152 = .ok (.l2i, 1) := by decide +kernel
theorem dX5_codeFar_153 : decode cX5_codeFar 153 = .ok (.bipush 15, 2) := by decide +kernel
theorem dX5_codeFar_155 : decode cX5_codeFar 155 = .ok (.iand, 1) := by decide +kernel
theorem dX5_codeFar_156 : decode cX5_codeFar 156 = .ok (.invokevirtual 73, 3) := by decide +kernel
theorem dX5_codeFar_159 : decode cX5_codeFar 159 = .ok (.i2l, 1) := by decide +kernel
theorem dX5_codeFar_160 : decode cX5_codeFar 160 = .ok (.ladd, 1) := by decide +kernel
theorem dX5_codeFar_161 : decode cX5_codeFar 161 = .ok (.lconst 1, 1) := by decide +kernel
theorem dX5_codeFar_162 : decode cX5_codeFar 162 = .ok (.ladd, 1) := by decide +kernel
theorem dX5_codeFar_163 : decode cX5_codeFar 163 = .ok (.lreturn, 1) := by decide +kernel
theorem dX5_slotOf_0 : decode cX5_slotOf 0 = .ok (.lload_n 0, 1) := by decide +kernel
theorem dX5_slotOf_1 : decode cX5_slotOf 1 = .ok (.ldc2_w 80, 3) := by decide +kernel
theorem dX5_slotOf_4 : decode cX5_slotOf 4 = .ok (.lcmp, 1) := by decide +kernel
theorem dX5_slotOf_5 : decode cX5_slotOf 5 = .ok (.ifCond .ge 6, 3) := by decide +kernel
theorem dX5_slotOf_8 : decode cX5_slotOf 8 = .ok (.lload_n 0, 1) := by decide +kernel
theorem dX5_slotOf_9 : decode cX5_slotOf 9 = .ok (.l2i, 1) := by decide +kernel
theorem dX5_slotOf_10 : decode cX5_slotOf 10 = .ok (.ireturn, 1) := by decide +kernel
theorem dX5_slotOf_11 : decode cX5_slotOf 11 = .ok (.bipush 63, 2) := by decide +kernel
theorem dX5_slotOf_13 : decode cX5_slotOf 13 = .ok (.lload_n 0, 1) := by decide +kernel
theorem dX5_slotOf_14 : decode cX5_slotOf 14 = .ok (.invokestatic 82, 3) := by decide +kernel
theorem dX5_slotOf_17 : decode cX5_slotOf 17 = .ok (.isub, 1) := by decide +kernel
theorem dX5_slotOf_18 : decode cX5_slotOf 18 = .ok (.istore_n 2, 1) := by decide +kernel
theorem dX5_slotOf_19 : decode cX5_slotOf 19 = .ok (.iconst 2, 1) := by decide +kernel
theorem dX5_slotOf_20 : decode cX5_slotOf 20 = .ok (.iload_n 2, 1) := by decide +kernel
theorem dX5_slotOf_21 : decode cX5_slotOf 21 = .ok (.imul, 1) := by decide +kernel
theorem dX5_slotOf_22 : decode cX5_slotOf 22 = .ok (.lload_n 0, 1) := by decide +kernel
theorem dX5_slotOf_23 : decode cX5_slotOf 23 = .ok (.iload_n 2, 1) := by decide +kernel
theorem dX5_slotOf_24 : decode cX5_slotOf 24 = .ok (.iconst 1, 1) := by decide +kernel
theorem dX5_slotOf_25 : decode cX5_slotOf 25 = .ok (.isub, 1) := by decide +kernel
theorem dX5_slotOf_26 : decode cX5_slotOf 26 = .ok (.lushr, 1) := by decide +kernel
theorem dX5_slotOf_27 : decode cX5_slotOf 27 = .ok (.lconst 1, 1) := by decide +kernel
theorem dX5_slotOf_28 : decode cX5_slotOf 28 = .ok (.land, 1) := by decide +kernel
theorem dX5_slotOf_29 : decode cX5_slotOf 29 = .ok (.l2i, 1) := by decide +kernel
theorem dX5_slotOf_30 : decode cX5_slotOf 30 = .ok (.iadd, 1) := by decide +kernel
theorem dX5_slotOf_31 : decode cX5_slotOf 31 = .ok (.ireturn, 1) := by decide +kernel
theorem dX5_follow_0 : decode cX5_follow 0 = .ok (.iload_n 1, 1) := by decide +kernel
theorem dX5_follow_1 : decode cX5_follow 1 = .ok (.ifCond .ne 47, 3) := by decide +kernel
theorem dX5_follow_4 : decode cX5_follow 4 = .ok (.aload_n 0, 1) := by decide +kernel
theorem dX5_follow_5 : decode cX5_follow 5 = .ok (.aload_n 0, 1) := by decide +kernel
theorem dX5_follow_6 : decode cX5_follow 6 = .ok (.getfield 50, 3) := by decide +kernel
theorem dX5_follow_9 : decode cX5_follow 9 = .ok (.iconst 4, 1) := by decide +kernel
theorem dX5_follow_10 : decode cX5_follow 10 = .ok (.if_icmp .ge 7, 3) := by decide +kernel
theorem dX5_follow_13 : decode cX5_follow 13 = .ok (.iconst 0, 1) := by decide +kernel
theorem dX5_follow_14 : decode cX5_follow 14 = .ok (.goto 28, 3) := by decide +kernel
theorem dX5_follow_17 : decode cX5_follow 17 = .ok (.aload_n 0, 1) := by decide +kernel
theorem dX5_follow_18 : decode cX5_follow 18 = .ok (.getfield 50, 3) := by decide +kernel
theorem dX5_follow_21 : decode cX5_follow 21 = .ok (.bipush 10, 2) := by decide +kernel
theorem dX5_follow_23 : decode cX5_follow 23 = .ok (.if_icmp .ge 12, 3) := by decide +kernel
theorem dX5_follow_26 : decode cX5_follow 26 = .ok (.aload_n 0, 1) := by decide +kernel
theorem dX5_follow_27 : decode cX5_follow 27 = .ok (.getfield 50, 3) := by decide +kernel
theorem dX5_follow_30 : decode cX5_follow 30 = .ok (.iconst 3, 1) := by decide +kernel
theorem dX5_follow_31 : decode cX5_follow 31 = .ok (.isub, 1) := by decide +kernel
theorem dX5_follow_32 : decode cX5_follow 32 = .ok (.goto 10, 3) := by decide +kernel
theorem dX5_follow_35 : decode cX5_follow 35 = .ok (.aload_n 0, 1) := by decide +kernel
theorem dX5_follow_36 : decode cX5_follow 36 = .ok (.getfield 50, 3) := by decide +kernel
theorem dX5_follow_39 : decode cX5_follow 39 = .ok (.bipush 6, 2) := by decide +kernel
theorem dX5_follow_41 : decode cX5_follow 41 = .ok (.isub, 1) := by decide +kernel
theorem dX5_follow_42 : decode cX5_follow 42 = .ok (.putfield 50, 3) := by decide +kernel
theorem dX5_follow_45 : decode cX5_follow 45 = .ok (.goto 100, 3) := by decide +kernel
theorem dX5_follow_48 : decode cX5_follow 48 = .ok (.iload_n 1, 1) := by decide +kernel
theorem dX5_follow_49 : decode cX5_follow 49 = .ok (.bipush 6, 2) := by decide +kernel
theorem dX5_follow_51 : decode cX5_follow 51 = .ok (.if_icmp .ne 26, 3) := by decide +kernel
theorem dX5_follow_54 : decode cX5_follow 54 = .ok (.aload_n 0, 1) := by decide +kernel
theorem dX5_follow_55 : decode cX5_follow 55 = .ok (.aload_n 0, 1) := by decide +kernel
theorem dX5_follow_56 : decode cX5_follow 56 = .ok (.getfield 50, 3) := by decide +kernel
theorem dX5_follow_59 : decode cX5_follow 59 = .ok (.bipush 7, 2) := by decide +kernel
theorem dX5_follow_61 : decode cX5_follow 61 = .ok (.if_icmp .ge 8, 3) := by decide +kernel
theorem dX5_follow_64 : decode cX5_follow 64 = .ok (.bipush 9, 2) := by decide +kernel
theorem dX5_follow_66 : decode cX5_follow 66 = .ok (.goto 5, 3) := by decide +kernel
theorem dX5_follow_69 : decode cX5_follow 69 = .ok (.bipush 11, 2) := by decide +kernel
theorem dX5_follow_71 : decode cX5_follow 71 = .ok (.putfield 50, 3) := by decide +kernel
theorem dX5_follow_74 : decode cX5_follow 74 = .ok (.goto 71, 3) := by decide +kernel
theorem dX5_follow_77 : decode cX5_follow 77 = .ok (.iload_n 1, 1) := by decide +kernel
theorem dX5_follow_78 : decode cX5_follow 78 = .ok (.iconst 1, 1) := by decide +kernel
theorem dX5_follow_79 : decode cX5_follow 79 = .ok (.if_icmp .eq 9, 3) := by decide +kernel
theorem dX5_follow_82 : decode cX5_follow 82 = .ok (.iload_n 1, 1) := by decide +kernel
theorem dX5_follow_83 : decode cX5_follow 83 = .ok (.bipush 7, 2) := by decide +kernel
theorem dX5_follow_85 : decode cX5_follow 85 = .ok (.if_icmp .ne 32, 3) := by decide +kernel
theorem dX5_follow_88 : decode cX5_follow 88 = .ok (.aload_n 0, 1) := by decide +kernel
theorem dX5_follow_89 : decode cX5_follow 89 = .ok (.iconst 3, 1) := by decide +kernel
theorem dX5_follow_90 : decode cX5_follow 90 = .ok (.lload_n 2, 1) := by decide +kernel
theorem dX5_follow_91 : decode cX5_follow 91 = .ok (.invokevirtual 87, 3) := by decide +kernel
theorem dX5_follow_94 : decode cX5_follow 94 = .ok (.aload_n 0, 1) := by decide +kernel
theorem dX5_follow_95 : decode cX5_follow 95 = .ok (.aload_n 0, 1) := by decide +kernel
theorem dX5_follow_96 : decode cX5_follow 96 = .ok (.getfield 50, 3) := by decide +kernel
theorem dX5_follow_99 : decode cX5_follow 99 = .ok (.bipush 7, 2) := by decide +kernel
theorem dX5_follow_101 : decode cX5_follow 101 = .ok (.if_icmp .ge 8, 3) := by decide +kernel
theorem dX5_follow_104 : decode cX5_follow 104 = .ok (.bipush 7, 2) := by decide +kernel
theorem dX5_follow_106 : decode cX5_follow 106 = .ok (.goto 5, 3) := by decide +kernel
theorem dX5_follow_109 : decode cX5_follow 109 = .ok (.bipush 10, 2) := by decide +kernel
theorem dX5_follow_111 : decode cX5_follow 111 = .ok (.putfield 50, 3) := by decide +kernel
theorem dX5_follow_114 : decode cX5_follow 114 = .ok (.goto 31, 3) := by decide +kernel
theorem dX5_follow_117 : decode cX5_follow 117 = .ok (.aload_n 0, 1) := by decide +kernel
theorem dX5_follow_118 : decode cX5_follow 118 = .ok (.iload_n 1, 1) := by decide +kernel
theorem dX5_follow_119 : decode cX5_follow 119 = .ok (.iconst 2, 1) := by decide +kernel
theorem dX5_follow_120 : decode cX5_follow 120 = .ok (.isub, 1) := by decide +kernel
theorem dX5_follow_121 : decode cX5_follow 121 = .ok (.lload_n 2, 1) := by decide +kernel
theorem dX5_follow_122 : decode cX5_follow 122 = .ok (.invokevirtual 87, 3) := by decide +kernel
theorem dX5_follow_125 : decode cX5_follow 125 = .ok (.aload_n 0, 1) := by decide +kernel
theorem dX5_follow_126 : decode cX5_follow 126 = .ok (.aload_n 0, 1) := by decide +kernel
theorem dX5_follow_127 : decode cX5_follow 127 = .ok (.getfield 50, 3) := by decide +kernel
theorem dX5_follow_130 : decode cX5_follow 130 = .ok (.bipush 7, 2) := by decide +kernel
theorem dX5_follow_132 : decode cX5_follow 132 = .ok (.if_icmp .ge 8, 3) := by decide +kernel
theorem dX5_follow_135 : decode cX5_follow 135 = .ok (.bipush 8, 2) := by decide +kernel
theorem dX5_follow_137 : decode cX5_follow 137 = .ok (.goto 5, 3) := by decide +kernel
theorem dX5_follow_140 : decode cX5_follow 140 = .ok (.bipush 11, 2) := by decide +kernel
theorem dX5_follow_142 : decode cX5_follow 142 = .ok (.putfield 50, 3) := by decide +kernel
theorem dX5_follow_145 : decode cX5_follow 145 = .ok (.return_, 1) := by decide +kernel
theorem dX5_bringToFront_0 : decode cX5_bringToFront 0 = .ok (.iload_n 1, 1) := by decide +kernel
theorem dX5_bringToFront_1 : decode cX5_bringToFront 1 = .ok (.iconst 3, 1) := by decide +kernel
theorem dX5_bringToFront_2 : decode cX5_bringToFront 2 = .ok (.invokestatic 35, 3) := by decide +kernel
theorem dX5_bringToFront_5 : decode cX5_bringToFront 5 = .ok (.istore 4, 2) := by decide +kernel
theorem dX5_bringToFront_7 : decode cX5_bringToFront 7 = .ok (.iload 4, 2) := by decide +kernel
theorem dX5_bringToFront_9 : decode cX5_bringToFront 9 = .ok (.ifCond .le 25, 3) := by decide +kernel
theorem dX5_bringToFront_12 : decode cX5_bringToFront 12 = .ok (.aload_n 0, 1) := by decide +kernel
theorem dX5_bringToFront_13 : decode cX5_bringToFront 13 = .ok (.getfield 15, 3) := by decide +kernel
theorem dX5_bringToFront_16 : decode cX5_bringToFront 16 = .ok (.iload 4, 2) := by decide +kernel
theorem dX5_bringToFront_18 : decode cX5_bringToFront 18 = .ok (.aload_n 0, 1) := by decide +kernel
theorem dX5_bringToFront_19 : decode cX5_bringToFront 19 = .ok (.getfield 15, 3) := by decide +kernel
theorem dX5_bringToFront_22 : decode cX5_bringToFront 22 = .ok (.iload 4, 2) := by decide +kernel
theorem dX5_bringToFront_24 : decode cX5_bringToFront 24 = .ok (.iconst 1, 1) := by decide +kernel
theorem dX5_bringToFront_25 : decode cX5_bringToFront 25 = .ok (.isub, 1) := by decide +kernel
theorem dX5_bringToFront_26 : decode cX5_bringToFront 26 = .ok (.laload, 1) := by decide +kernel
theorem dX5_bringToFront_27 : decode cX5_bringToFront 27 = .ok (.lastore, 1) := by decide +kernel
theorem dX5_bringToFront_28 : decode cX5_bringToFront 28 = .ok (.iinc 4 (-1), 3) := by decide +kernel
theorem dX5_bringToFront_31 : decode cX5_bringToFront 31 = .ok (.goto (-24), 3) := by decide +kernel
theorem dX5_bringToFront_34 : decode cX5_bringToFront 34 = .ok (.aload_n 0, 1) := by decide +kernel
theorem dX5_bringToFront_35 : decode cX5_bringToFront 35 = .ok (.getfield 15, 3) := by decide +kernel
theorem dX5_bringToFront_38 : decode cX5_bringToFront 38 = .ok (.iconst 0, 1) := by decide +kernel
theorem dX5_bringToFront_39 : decode cX5_bringToFront 39 = .ok (.lload_n 2, 1) := by decide +kernel
theorem dX5_bringToFront_40 : decode cX5_bringToFront 40 = .ok (.lastore, 1) := by decide +kernel
theorem dX5_bringToFront_41 : decode cX5_bringToFront 41 = .ok (.return_, 1) := by decide +kernel
theorem dX6_init_0 : decode cX6_init 0 = .ok (.aload_n 0, 1) := by decide +kernel
theorem dX6_init_1 : decode cX6_init 1 = .ok (.invokespecial 3, 3) := by decide +kernel
theorem dX6_init_4 : decode cX6_init 4 = .ok (.aload_n 0, 1) := by decide +kernel
theorem dX6_init_5 : decode cX6_init 5 = .ok (.aload_n 1, 1) := by decide +kernel
theorem dX6_init_6 : decode cX6_init 6 = .ok (.putfield 9, 3) := by decide +kernel
theorem dX6_init_9 : decode cX6_init 9 = .ok (.aload_n 0, 1) := by decide +kernel
theorem dX6_init_10 : decode cX6_init 10 = .ok (.aload_n 2, 1) := by decide +kernel
theorem dX6_init_11 : decode cX6_init 11 = .ok (.putfield 15, 3) := by decide +kernel
theorem dX6_init_14 : decode cX6_init 14 = .ok (.aload_n 0, 1) := by decide +kernel
theorem dX6_init_15 : decode cX6_init 15 = .ok (.aload_n 3, 1) := by decide +kernel
theorem dX6_init_16 : decode cX6_init 16 = .ok (.putfield 19, 3) := by decide +kernel
theorem dX6_init_19 : decode cX6_init 19 = .ok (.aload_n 0, 1) := by decide +kernel
theorem dX6_init_20 : decode cX6_init 20 = .ok (.aload 4, 2) := by decide +kernel
theorem dX6_init_22 : decode cX6_init 22 = .ok (.putfield 23, 3) := by decide +kernel
theorem dX6_init_25 : decode cX6_init 25 = .ok (.aload_n 0, 1) := by decide +kernel
theorem dX6_init_26 : decode cX6_init 26 = .ok (.aload 5, 2) := by decide +kernel
theorem dX6_init_28 : decode cX6_init 28 = .ok (.putfield 27, 3) := by decide +kernel
theorem dX6_init_31 : decode cX6_init 31 = .ok (.aload_n 0, 1) := by decide +kernel
theorem dX6_init_32 : decode cX6_init 32 = .ok (.new 31, 3) := by decide +kernel
theorem dX6_init_35 : decode cX6_init 35 = .ok (.dup, 1) := by decide +kernel
theorem dX6_init_36 : decode cX6_init 36 = .ok (.aload_n 1, 1) := by decide +kernel
theorem dX6_init_37 : decode cX6_init 37 = .ok (.invokespecial 33, 3) := by decide +kernel
theorem dX6_init_40 : decode cX6_init 40 = .ok (.putfield 36, 3) := by decide +kernel
theorem dX6_init_43 : decode cX6_init 43 = .ok (.aload_n 0, 1) := by decide +kernel
theorem dX6_init_44 : decode cX6_init 44 = .ok (.new 40, 3) := by decide +kernel
theorem dX6_init_47 : decode cX6_init 47 = .ok (.dup, 1) := by decide +kernel
theorem dX6_init_48 : decode cX6_init 48 = .ok (.sipush 1024, 3) := by decide +kernel
theorem dX6_init_51 : decode cX6_init 51 = .ok (.invokespecial 42, 3) := by decide +kernel
theorem dX6_init_54 : decode cX6_init 54 = .ok (.putfield 45, 3) := by decide +kernel
theorem dX6_init_57 : decode cX6_init 57 = .ok (.return_, 1) := by decide +kernel
theorem dX6_begin_0 : decode cX6_begin 0 = .ok (.aload_n 0, 1) := by decide +kernel
theorem dX6_begin_1 : decode cX6_begin 1 = .ok (.getfield 9, 3) := by decide +kernel
theorem dX6_begin_4 : decode cX6_begin 4 = .ok (.invokevirtual 48, 3) := by decide +kernel
theorem dX6_begin_7 : decode cX6_begin 7 = .ok (.aload_n 0, 1) := by decide +kernel
theorem dX6_begin_8 : decode cX6_begin 8 = .ok (.getfield 15, 3) := by decide +kernel
theorem dX6_begin_11 : decode cX6_begin 11 = .ok (.iconst 0, 1) := by decide +kernel
theorem dX6_begin_12 : decode cX6_begin 12 = .ok (.putfield 53, 3) := by decide +kernel
theorem dX6_begin_15 : decode cX6_begin 15 = .ok (.aload_n 0, 1) := by decide +kernel
theorem dX6_begin_16 : decode cX6_begin 16 = .ok (.getfield 27, 3) := by decide +kernel
theorem dX6_begin_19 : decode cX6_begin 19 = .ok (.invokevirtual 57, 3) := by decide +kernel
theorem dX6_begin_22 : decode cX6_begin 22 = .ok (.aload_n 0, 1) := by decide +kernel
theorem dX6_begin_23 : decode cX6_begin 23 = .ok (.getfield 19, 3) := by decide +kernel
theorem dX6_begin_26 : decode cX6_begin 26 = .ok (.iconst 0, 1) := by decide +kernel
theorem dX6_begin_27 : decode cX6_begin 27 = .ok (.iconst 0, 1) := by decide +kernel
theorem dX6_begin_28 : decode cX6_begin 28 = .ok (.iconst 0, 1) := by decide +kernel
theorem dX6_begin_29 : decode cX6_begin 29 = .ok (.invokevirtual 62, 3) := by decide +kernel
theorem dX6_begin_32 : decode cX6_begin 32 = .ok (.aload_n 0, 1) := by decide +kernel
theorem dX6_begin_33 : decode cX6_begin 33 = .ok (.getfield 19, 3) := by decide +kernel
theorem dX6_begin_36 : decode cX6_begin 36 = .ok (.invokevirtual 68, 3) := by decide +kernel
theorem dX6_begin_39 : decode cX6_begin 39 = .ok (.aload_n 0, 1) := by decide +kernel
theorem dX6_begin_40 : decode cX6_begin 40 = .ok (.iload_n 1, 1) := by decide +kernel
theorem dX6_begin_41 : decode cX6_begin 41 = .ok (.i2l, 1) := by decide +kernel
theorem dX6_begin_42 : decode cX6_begin 42 = .ok (.putfield 71, 3) := by decide +kernel
theorem dX6_begin_45 : decode cX6_begin 45 = .ok (.aload_n 0, 1) := by decide +kernel
theorem dX6_begin_46 : decode cX6_begin 46 = .ok (.iconst 0, 1) := by decide +kernel
theorem dX6_begin_47 : decode cX6_begin 47 = .ok (.putfield 75, 3) := by decide +kernel
theorem dX6_begin_50 : decode cX6_begin 50 = .ok (.aload_n 0, 1) := by decide +kernel
theorem dX6_begin_51 : decode cX6_begin 51 = .ok (.getfield 36, 3) := by decide +kernel
theorem dX6_begin_54 : decode cX6_begin 54 = .ok (.iconst 0, 1) := by decide +kernel
theorem dX6_begin_55 : decode cX6_begin 55 = .ok (.putfield 78, 3) := by decide +kernel
theorem dX6_begin_58 : decode cX6_begin 58 = .ok (.aload_n 0, 1) := by decide +kernel
theorem dX6_begin_59 : decode cX6_begin 59 = .ok (.getfield 36, 3) := by decide +kernel
theorem dX6_begin_62 : decode cX6_begin 62 = .ok (.iconst 0, 1) := by decide +kernel
theorem dX6_begin_63 : decode cX6_begin 63 = .ok (.putfield 81, 3) := by decide +kernel
theorem dX6_begin_66 : decode cX6_begin 66 = .ok (.return_, 1) := by decide +kernel
theorem dX6_askMemory_0 : decode cX6_askMemory 0 = .ok (.aload_n 0, 1) := by decide +kernel
theorem dX6_askMemory_1 : decode cX6_askMemory 1 = .ok (.lload_n 1, 1) := by decide +kernel
theorem dX6_askMemory_2 : decode cX6_askMemory 2 = .ok (.putfield 82, 3) := by decide +kernel
theorem dX6_askMemory_5 : decode cX6_askMemory 5 = .ok (.lload_n 1, 1) := by decide +kernel
theorem dX6_askMemory_6 : decode cX6_askMemory 6 = .ok (.aload_n 0, 1) := by decide +kernel
theorem dX6_askMemory_7 : decode cX6_askMemory 7 = .ok (.getfield 71, 3) := by decide +kernel
theorem dX6_askMemory_10 : decode cX6_askMemory 10 = .ok (.lcmp, 1) := by decide +kernel
theorem dX6_askMemory_11 : decode cX6_askMemory 11 = .ok (.ifCond .le 12, 3) := by decide +kernel
theorem dX6_askMemory_14 : decode cX6_askMemory 14 = .ok (.aload_n 0, 1) := by decide +kernel
theorem dX6_askMemory_15 : decode cX6_askMemory 15 = .ok (.getfield 9, 3) := by decide +kernel
theorem dX6_askMemory_18 : decode cX6_askMemory 18 = .ok (.bipush 15, 2) := by decide +kernel
theorem dX6_askMemory_20 : decode cX6_askMemory 20 = .ok (.invokevirtual 85, 3) := by decide +kernel
theorem dX6_askMemory_23 : decode cX6_askMemory 23 = .ok (.return_, 1) := by decide +kernel
theorem dX6_askEnd_0 : decode cX6_askEnd 0 = .ok (.aload_n 0, 1) := by decide +kernel
theorem dX6_askEnd_1 : decode cX6_askEnd 1 = .ok (.getfield 9, 3) := by decide +kernel
theorem dX6_askEnd_4 : decode cX6_askEnd 4 = .ok (.getfield 88, 3) := by decide +kernel
theorem dX6_askEnd_7 : decode cX6_askEnd 7 = .ok (.aload_n 0, 1) := by decide +kernel
theorem dX6_askEnd_8 : decode cX6_askEnd 8 = .ok (.getfield 9, 3) := by decide +kernel
theorem dX6_askEnd_11 : decode cX6_askEnd 11 = .ok (.getfield 91, 3) := by decide +kernel
theorem dX6_askEnd_14 : decode cX6_askEnd 14 = .ok (.getfield 53, 3) := by decide +kernel
theorem dX6_askEnd_17 : decode cX6_askEnd 17 = .ok (.if_icmp .ge 12, 3) := by decide +kernel
theorem dX6_askEnd_20 : decode cX6_askEnd 20 = .ok (.aload_n 0, 1) := by decide +kernel
theorem dX6_askEnd_21 : decode cX6_askEnd 21 = .ok (.getfield 9, 3) := by decide +kernel
theorem dX6_askEnd_24 : decode cX6_askEnd 24 = .ok (.bipush 12, 2) := by decide +kernel
theorem dX6_askEnd_26 : decode cX6_askEnd 26 = .ok (.invokevirtual 85, 3) := by decide +kernel
theorem dX6_askEnd_29 : decode cX6_askEnd 29 = .ok (.return_, 1) := by decide +kernel
theorem dX6_readAlone_0 : decode cX6_readAlone 0 = .ok (.aload_n 0, 1) := by decide +kernel
theorem dX6_readAlone_1 : decode cX6_readAlone 1 = .ok (.invokevirtual 94, 3) := by decide +kernel
theorem dX6_readAlone_4 : decode cX6_readAlone 4 = .ok (.aload_n 0, 1) := by decide +kernel
theorem dX6_readAlone_5 : decode cX6_readAlone 5 = .ok (.aload_n 0, 1) := by decide +kernel
theorem dX6_readAlone_6 : decode cX6_readAlone 6 = .ok (.getfield 9, 3) := by decide +kernel
theorem dX6_readAlone_9 : decode cX6_readAlone 9 = .ok (.iconst 4, 1) := by decide +kernel
theorem dX6_readAlone_10 : decode cX6_readAlone 10 = .ok (.invokevirtual 97, 3) := by decide +kernel
theorem dX6_readAlone_13 : decode cX6_readAlone 13 = .ok (.invokevirtual 101, 3) := by decide +kernel
theorem dX6_readAlone_16 : decode cX6_readAlone 16 = .ok (.aload_n 0, 1) := by decide +kernel
theorem dX6_readAlone_17 : decode cX6_readAlone 17 = .ok (.getfield 9, 3) := by decide +kernel
theorem dX6_readAlone_20 : decode cX6_readAlone 20 = .ok (.bipush 8, 2) := by decide +kernel
theorem dX6_readAlone_22 : decode cX6_readAlone 22 = .ok (.invokevirtual 97, 3) := by decide +kernel
theorem dX6_readAlone_25 : decode cX6_readAlone 25 = .ok (.lstore_n 1, 1) := by decide +kernel
theorem dX6_readAlone_26 : decode cX6_readAlone 26 = .ok (.lload_n 1, 1) := by decide +kernel
theorem dX6_readAlone_27 : decode cX6_readAlone 27 = .ok (.ldc2_w 105, 3) := by decide +kernel
theorem dX6_readAlone_30 : decode cX6_readAlone 30 = .ok (.lcmp, 1) := by decide +kernel
theorem dX6_readAlone_31 : decode cX6_readAlone 31 = .ok (.ifCond .lt 11, 3) := by decide +kernel
theorem dX6_readAlone_34 : decode cX6_readAlone 34 = .ok (.lload_n 1, 1) := by decide +kernel
theorem dX6_readAlone_35 : decode cX6_readAlone 35 = .ok (.ldc2_w 107, 3) := by decide +kernel
theorem dX6_readAlone_38 : decode cX6_readAlone 38 = .ok (.lcmp, 1) := by decide +kernel
theorem dX6_readAlone_39 : decode cX6_readAlone 39 = .ok (.ifCond .le 12, 3) := by decide +kernel
theorem dX6_readAlone_42 : decode cX6_readAlone 42 = .ok (.aload_n 0, 1) := by decide +kernel
theorem dX6_readAlone_43 : decode cX6_readAlone 43 = .ok (.getfield 9, 3) := by decide +kernel
theorem dX6_readAlone_46 : decode cX6_readAlone 46 = .ok (.bipush 13, 2) := by decide +kernel
theorem dX6_readAlone_48 : decode cX6_readAlone 48 = .ok (.invokevirtual 85, 3) := by decide +kernel
theorem dX6_readAlone_51 : decode cX6_readAlone 51 = .ok (.aload_n 0, 1) := by decide +kernel
theorem dX6_readAlone_52 : decode cX6_readAlone 52 = .ok (.getfield 19, 3) := by decide +kernel
theorem dX6_readAlone_55 : decode cX6_readAlone 55 = .ok (.invokevirtual 68, 3) := by decide +kernel
theorem dX6_readAlone_58 : decode cX6_readAlone 58 = .ok (.aload_n 0, 1) := by decide +kernel
theorem dX6_readAlone_59 : decode cX6_readAlone 59 = .ok (.lload_n 1, 1) := by decide +kernel
theorem dX6_readAlone_60 : decode cX6_readAlone 60 = .ok (.l2i, 1) := by decide +kernel
theorem dX6_readAlone_61 : decode cX6_readAlone 61 = .ok (.invokevirtual 109, 3) := by decide +kernel
theorem dX6_readAlone_64 : decode cX6_readAlone 64 = .ok (.lload_n 1, 1) := by decide +kernel
theorem dX6_readAlone_65 : decode cX6_readAlone 65 = .ok (.lconst 0, 1) := by decide +kernel
theorem dX6_readAlone_66 : decode cX6_readAlone 66 = .ok (.lcmp, 1) := by decide +kernel
theorem dX6_readAlone_67 : decode cX6_readAlone 67 = .ok (.ifCond .lt 22, 3) := by decide +kernel
theorem dX6_readAlone_70 : decode cX6_readAlone 70 = .ok (.aload_n 0, 1) := by decide +kernel
theorem dX6_readAlone_71 : decode cX6_readAlone 71 = .ok (.getfield 19, 3) := by decide +kernel
theorem dX6_readAlone_74 : decode cX6_readAlone 74 = .ok (.getfield 112, 3) := by decide +kernel
theorem dX6_readAlone_77 : decode cX6_readAlone 77 = .ok (.getfield 116, 3) := by decide +kernel
theorem dX6_readAlone_80 : decode cX6_readAlone 80 = .ok (.lconst 0, 1) := by decide +kernel
theorem dX6_readAlone_81 : decode cX6_readAlone 81 = .ok (.lcmp, 1) := by decide +kernel
theorem dX6_readAlone_82 : decode cX6_readAlone 82 = .ok (.ifCond .eq 7, 3) := by decide +kernel
theorem dX6_readAlone_85 : decode cX6_readAlone 85 = .ok (.aload_n 0, 1) := by decide +kernel
theorem dX6_readAlone_86 : decode cX6_readAlone 86 = .ok (.invokevirtual 121, 3) := by decide +kernel
theorem dX6_readAlone_89 : decode cX6_readAlone 89 = .ok (.aload_n 0, 1) := by decide +kernel
theorem dX6_readAlone_90 : decode cX6_readAlone 90 = .ok (.getfield 19, 3) := by decide +kernel
theorem dX6_readAlone_93 : decode cX6_readAlone 93 = .ok (.getfield 112, 3) := by decide +kernel
theorem dX6_readAlone_96 : decode cX6_readAlone 96 = .ok (.getfield 116, 3) := by decide +kernel
theorem dX6_readAlone_99 : decode cX6_readAlone 99 = .ok (.lconst 0, 1) := by decide +kernel
theorem dX6_readAlone_100 : decode cX6_readAlone 100 = .ok (.lcmp, 1) := by decide +kernel
theorem dX6_readAlone_101 : decode cX6_readAlone 101 = .ok (.ifCond .eq 12, 3) := by decide +kernel
theorem dX6_readAlone_104 : decode cX6_readAlone 104 = .ok (.aload_n 0, 1) := by decide +kernel
theorem dX6_readAlone_105 : decode cX6_readAlone 105 = .ok (.getfield 9, 3) := by decide +kernel
theorem dX6_readAlone_108 : decode cX6_readAlone 108 = .ok (.bipush 7, 2) := by decide +kernel
theorem dX6_readAlone_110 : decode cX6_readAlone 110 = .ok (.invokevirtual 85, 3) := by decide +kernel
theorem dX6_readAlone_113 : decode cX6_readAlone 113 = .ok (.return_, 1) := by decide +kernel
theorem dX6_readProperties_0 : decode cX6_readProperties 0 = .ok (.aload_n 0, 1) := by decide +kernel
theorem dX6_readProperties_1 : decode cX6_readProperties 1 = .ok (.getfield 9, 3) := by decide +kernel
theorem dX6_readProperties_4 : decode cX6_readProperties 4 = .ok (.invokevirtual 124, 3) := by decide +kernel
theorem dX6_readProperties_7 : decode cX6_readProperties 7 = .ok (.istore_n 1, 1) := by decide +kernel
theorem dX6_readProperties_8 : decode cX6_readProperties 8 = .ok (.iload_n 1, 1) := by decide +kernel
theorem dX6_readProperties_9 : decode cX6_readProperties 9 = .ok (.bipush 9, 2) := by decide +kernel
theorem dX6_readProperties_11 : decode cX6_readProperties 11 = .ok (.irem, 1) := by decide +kernel
theorem dX6_readProperties_12 : decode cX6_readProperties 12 = .ok (.istore_n 2, 1) := by decide +kernel
theorem dX6_readProperties_13 : decode cX6_readProperties 13 = .ok (.iload_n 1, 1) := by decide +kernel
theorem dX6_readProperties_14 : decode cX6_readProperties 14 = .ok (.bipush 9, 2) := by decide +kernel
theorem dX6_readProperties_16 : decode cX6_readProperties 16 = .ok (.idiv, 1) := by decide +kernel
theorem dX6_readProperties_17 : decode cX6_readProperties 17 = .ok (.iconst 5, 1) := by decide +kernel
theorem dX6_readProperties_18 : decode cX6_readProperties 18 = .ok (.irem, 1) := by decide +kernel
