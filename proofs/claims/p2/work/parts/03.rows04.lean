theorem dX11_finishOpening_13 : decode cX11_finishOpening 13 = .ok (.getfield 205, 3) := by decide +kernel
theorem dX11_finishOpening_16 : decode cX11_finishOpening 16 = .ok (.getfield 209, 3) := by decide +kernel
theorem dX11_finishOpening_19 : decode cX11_finishOpening 19 = .ok (.putfield 83, 3) := by decide +kernel
theorem dX11_finishOpening_22 : decode cX11_finishOpening 22 = .ok (.iload_n 1, 1) := by decide +kernel
theorem dX11_finishOpening_23 : decode cX11_finishOpening 23 = .ok (.ifCond .eq 11, 3) := by decide +kernel
theorem dX11_finishOpening_26 : decode cX11_finishOpening 26 = .ok (.aload_n 0, 1) := by decide +kernel
theorem dX11_finishOpening_27 : decode cX11_finishOpening 27 = .ok (.getfield 29, 3) := by decide +kernel
theorem dX11_finishOpening_30 : decode cX11_finishOpening 30 = .ok (.getfield 100, 3) := by decide +kernel
theorem dX11_finishOpening_33 : decode cX11_finishOpening 33 = .ok (.ireturn, 1) := by decide +kernel
theorem dX11_finishOpening_34 : decode cX11_finishOpening 34 = .ok (.aload_n 0, 1) := by decide +kernel
theorem dX11_finishOpening_35 : decode cX11_finishOpening 35 = .ok (.getfield 9, 3) := by decide +kernel
theorem dX11_finishOpening_38 : decode cX11_finishOpening 38 = .ok (.iconst 2, 1) := by decide +kernel
theorem dX11_finishOpening_39 : decode cX11_finishOpening 39 = .ok (.if_icmp .ne 17, 3) := by decide +kernel
theorem dX11_finishOpening_42 : decode cX11_finishOpening 42 = .ok (.aload_n 0, 1) := by decide +kernel
theorem dX11_finishOpening_43 : decode cX11_finishOpening 43 = .ok (.getfield 29, 3) := by decide +kernel
theorem dX11_finishOpening_46 : decode cX11_finishOpening 46 = .ok (.aload_n 0, 1) := by decide +kernel
theorem dX11_finishOpening_47 : decode cX11_finishOpening 47 = .ok (.getfield 61, 3) := by decide +kernel
theorem dX11_finishOpening_50 : decode cX11_finishOpening 50 = .ok (.invokevirtual 210, 3) := by decide +kernel
theorem dX11_finishOpening_53 : decode cX11_finishOpening 53 = .ok (.putfield 100, 3) := by decide +kernel
theorem dX11_finishOpening_56 : decode cX11_finishOpening 56 = .ok (.bipush (-10), 2) := by decide +kernel
theorem dX11_finishOpening_58 : decode cX11_finishOpening 58 = .ok (.aload_n 0, 1) := by decide +kernel
theorem dX11_finishOpening_59 : decode cX11_finishOpening 59 = .ok (.getfield 79, 3) := by decide +kernel
theorem dX11_finishOpening_62 : decode cX11_finishOpening 62 = .ok (.getfield 205, 3) := by decide +kernel
theorem dX11_finishOpening_65 : decode cX11_finishOpening 65 = .ok (.getfield 213, 3) := by decide +kernel
theorem dX11_finishOpening_68 : decode cX11_finishOpening 68 = .ok (.isub, 1) := by decide +kernel
theorem dX11_finishOpening_69 : decode cX11_finishOpening 69 = .ok (.ireturn, 1) := by decide +kernel
theorem dX11_rule_0 : decode cX11_rule 0 = .ok (.aload_n 0, 1) := by decide +kernel
theorem dX11_rule_1 : decode cX11_rule 1 = .ok (.getfield 83, 3) := by decide +kernel
theorem dX11_rule_4 : decode cX11_rule 4 = .ok (.ireturn, 1) := by decide +kernel
theorem dX11_pass_0 : decode cX11_pass 0 = .ok (.aload_n 0, 1) := by decide +kernel
theorem dX11_pass_1 : decode cX11_pass 1 = .ok (.getfield 29, 3) := by decide +kernel
theorem dX11_pass_4 : decode cX11_pass 4 = .ok (.getfield 100, 3) := by decide +kernel
theorem dX11_pass_7 : decode cX11_pass 7 = .ok (.sipush 1500, 3) := by decide +kernel
theorem dX11_pass_10 : decode cX11_pass 10 = .ok (.if_icmp .le 6, 3) := by decide +kernel
theorem dX11_pass_13 : decode cX11_pass 13 = .ok (.bipush (-3), 2) := by decide +kernel
theorem dX11_pass_15 : decode cX11_pass 15 = .ok (.ireturn, 1) := by decide +kernel
theorem dX11_pass_16 : decode cX11_pass 16 = .ok (.aload_n 0, 1) := by decide +kernel
theorem dX11_pass_17 : decode cX11_pass 17 = .ok (.getfield 25, 3) := by decide +kernel
theorem dX11_pass_20 : decode cX11_pass 20 = .ok (.iconst 0, 1) := by decide +kernel
theorem dX11_pass_21 : decode cX11_pass 21 = .ok (.putfield 100, 3) := by decide +kernel
theorem dX11_pass_24 : decode cX11_pass 24 = .ok (.iconst 0, 1) := by decide +kernel
theorem dX11_pass_25 : decode cX11_pass 25 = .ok (.istore_n 1, 1) := by decide +kernel
theorem dX11_pass_26 : decode cX11_pass 26 = .ok (.iload_n 1, 1) := by decide +kernel
theorem dX11_pass_27 : decode cX11_pass 27 = .ok (.aload_n 0, 1) := by decide +kernel
theorem dX11_pass_28 : decode cX11_pass 28 = .ok (.getfield 29, 3) := by decide +kernel
theorem dX11_pass_31 : decode cX11_pass 31 = .ok (.getfield 100, 3) := by decide +kernel
theorem dX11_pass_34 : decode cX11_pass 34 = .ok (.if_icmp .ge 24, 3) := by decide +kernel
theorem dX11_pass_37 : decode cX11_pass 37 = .ok (.aload_n 0, 1) := by decide +kernel
theorem dX11_pass_38 : decode cX11_pass 38 = .ok (.getfield 25, 3) := by decide +kernel
theorem dX11_pass_41 : decode cX11_pass 41 = .ok (.aload_n 0, 1) := by decide +kernel
theorem dX11_pass_42 : decode cX11_pass 42 = .ok (.getfield 29, 3) := by decide +kernel
theorem dX11_pass_45 : decode cX11_pass 45 = .ok (.iload_n 1, 1) := by decide +kernel
theorem dX11_pass_46 : decode cX11_pass 46 = .ok (.invokevirtual 216, 3) := by decide +kernel
theorem dX11_pass_49 : decode cX11_pass 49 = .ok (.invokevirtual 107, 3) := by decide +kernel
theorem dX11_pass_52 : decode cX11_pass 52 = .ok (.iinc 1 1, 3) := by decide +kernel
theorem dX11_pass_55 : decode cX11_pass 55 = .ok (.goto (-29), 3) := by decide +kernel
theorem dX11_pass_58 : decode cX11_pass 58 = .ok (.aload_n 0, 1) := by decide +kernel
theorem dX11_pass_59 : decode cX11_pass 59 = .ok (.getfield 25, 3) := by decide +kernel
theorem dX11_pass_62 : decode cX11_pass 62 = .ok (.getfield 100, 3) := by decide +kernel
theorem dX11_pass_65 : decode cX11_pass 65 = .ok (.ireturn, 1) := by decide +kernel
theorem dX11_out_0 : decode cX11_out 0 = .ok (.iload_n 1, 1) := by decide +kernel
theorem dX11_out_1 : decode cX11_out 1 = .ok (.ifCond .lt 14, 3) := by decide +kernel
theorem dX11_out_4 : decode cX11_out 4 = .ok (.iload_n 1, 1) := by decide +kernel
theorem dX11_out_5 : decode cX11_out 5 = .ok (.aload_n 0, 1) := by decide +kernel
theorem dX11_out_6 : decode cX11_out 6 = .ok (.getfield 29, 3) := by decide +kernel
theorem dX11_out_9 : decode cX11_out 9 = .ok (.getfield 100, 3) := by decide +kernel
theorem dX11_out_12 : decode cX11_out 12 = .ok (.if_icmp .lt 11, 3) := by decide +kernel
theorem dX11_out_15 : decode cX11_out 15 = .ok (.new 220, 3) := by decide +kernel
theorem dX11_out_18 : decode cX11_out 18 = .ok (.dup, 1) := by decide +kernel
theorem dX11_out_19 : decode cX11_out 19 = .ok (.invokespecial 222, 3) := by decide +kernel
theorem dX11_out_22 : decode cX11_out 22 = .ok (.athrow, 1) := by decide +kernel
theorem dX11_out_23 : decode cX11_out 23 = .ok (.aload_n 0, 1) := by decide +kernel
theorem dX11_out_24 : decode cX11_out 24 = .ok (.getfield 29, 3) := by decide +kernel
theorem dX11_out_27 : decode cX11_out 27 = .ok (.iload_n 1, 1) := by decide +kernel
theorem dX11_out_28 : decode cX11_out 28 = .ok (.invokevirtual 216, 3) := by decide +kernel
theorem dX11_out_31 : decode cX11_out 31 = .ok (.ireturn, 1) := by decide +kernel
theorem dX11_step_0 : decode cX11_step 0 = .ok (.iload_n 1, 1) := by decide +kernel
theorem dX11_step_1 : decode cX11_step 1 = .ok (.iconst (-1), 1) := by decide +kernel
theorem dX11_step_2 : decode cX11_step 2 = .ok (.if_icmp .ne 15, 3) := by decide +kernel
theorem dX11_step_5 : decode cX11_step 5 = .ok (.iload_n 2, 1) := by decide +kernel
theorem dX11_step_6 : decode cX11_step 6 = .ok (.ifCond .ne 11, 3) := by decide +kernel
theorem dX11_step_9 : decode cX11_step 9 = .ok (.aload_n 0, 1) := by decide +kernel
theorem dX11_step_10 : decode cX11_step 10 = .ok (.getfield 61, 3) := by decide +kernel
theorem dX11_step_13 : decode cX11_step 13 = .ok (.getfield 223, 3) := by decide +kernel
theorem dX11_step_16 : decode cX11_step 16 = .ok (.ireturn, 1) := by decide +kernel
theorem dX11_step_17 : decode cX11_step 17 = .ok (.aload_n 0, 1) := by decide +kernel
theorem dX11_step_18 : decode cX11_step 18 = .ok (.getfield 61, 3) := by decide +kernel
theorem dX11_step_21 : decode cX11_step 21 = .ok (.iload_n 1, 1) := by decide +kernel
theorem dX11_step_22 : decode cX11_step 22 = .ok (.iload_n 2, 1) := by decide +kernel
theorem dX11_step_23 : decode cX11_step 23 = .ok (.invokevirtual 226, 3) := by decide +kernel
theorem dX11_step_26 : decode cX11_step 26 = .ok (.ireturn, 1) := by decide +kernel
theorem dX11_state_0 : decode cX11_state 0 = .ok (.aload_n 0, 1) := by decide +kernel
theorem dX11_state_1 : decode cX11_state 1 = .ok (.getfield 86, 3) := by decide +kernel
theorem dX11_state_4 : decode cX11_state 4 = .ok (.ireturn, 1) := by decide +kernel
theorem dX11_block_0 : decode cX11_block 0 = .ok (.iload_n 1, 1) := by decide +kernel
theorem dX11_block_1 : decode cX11_block 1 = .ok (.iconst (-1), 1) := by decide +kernel
theorem dX11_block_2 : decode cX11_block 2 = .ok (.if_icmp .ne 15, 3) := by decide +kernel
theorem dX11_block_5 : decode cX11_block 5 = .ok (.iload_n 2, 1) := by decide +kernel
theorem dX11_block_6 : decode cX11_block 6 = .ok (.ifCond .ne 11, 3) := by decide +kernel
theorem dX11_block_9 : decode cX11_block 9 = .ok (.aload_n 0, 1) := by decide +kernel
theorem dX11_block_10 : decode cX11_block 10 = .ok (.getfield 61, 3) := by decide +kernel
theorem dX11_block_13 : decode cX11_block 13 = .ok (.getfield 229, 3) := by decide +kernel
theorem dX11_block_16 : decode cX11_block 16 = .ok (.ireturn, 1) := by decide +kernel
theorem dX11_block_17 : decode cX11_block 17 = .ok (.aload_n 0, 1) := by decide +kernel
theorem dX11_block_18 : decode cX11_block 18 = .ok (.getfield 61, 3) := by decide +kernel
theorem dX11_block_21 : decode cX11_block 21 = .ok (.iload_n 1, 1) := by decide +kernel
theorem dX11_block_22 : decode cX11_block 22 = .ok (.iload_n 2, 1) := by decide +kernel
theorem dX11_block_23 : decode cX11_block 23 = .ok (.invokevirtual 232, 3) := by decide +kernel
theorem dX11_block_26 : decode cX11_block 26 = .ok (.ireturn, 1) := by decide +kernel
theorem dX11_check_0 : decode cX11_check 0 = .ok (.iload_n 1, 1) := by decide +kernel
theorem dX11_check_1 : decode cX11_check 1 = .ok (.invokestatic 235, 3) := by decide +kernel
theorem dX11_check_4 : decode cX11_check 4 = .ok (.ifCond .eq 17, 3) := by decide +kernel
theorem dX11_check_7 : decode cX11_check 7 = .ok (.iload_n 2, 1) := by decide +kernel
theorem dX11_check_8 : decode cX11_check 8 = .ok (.ifCond .lt 13, 3) := by decide +kernel
theorem dX11_check_11 : decode cX11_check 11 = .ok (.iload_n 2, 1) := by decide +kernel
theorem dX11_check_12 : decode cX11_check 12 = .ok (.iload_n 1, 1) := by decide +kernel
theorem dX11_check_13 : decode cX11_check 13 = .ok (.invokestatic 239, 3) := by decide +kernel
theorem dX11_check_16 : decode cX11_check 16 = .ok (.iconst 4, 1) := by decide +kernel
theorem dX11_check_17 : decode cX11_check 17 = .ok (.idiv, 1) := by decide +kernel
theorem dX11_check_18 : decode cX11_check 18 = .ok (.if_icmp .lt 5, 3) := by decide +kernel
theorem dX11_check_21 : decode cX11_check 21 = .ok (.iconst (-1), 1) := by decide +kernel
theorem dX11_check_22 : decode cX11_check 22 = .ok (.ireturn, 1) := by decide +kernel
theorem dX11_check_23 : decode cX11_check 23 = .ok (.aload_n 0, 1) := by decide +kernel
theorem dX11_check_24 : decode cX11_check 24 = .ok (.getfield 54, 3) := by decide +kernel
theorem dX11_check_27 : decode cX11_check 27 = .ok (.iload_n 1, 1) := by decide +kernel
theorem dX11_check_28 : decode cX11_check 28 = .ok (.aload_n 0, 1) := by decide +kernel
theorem dX11_check_29 : decode cX11_check 29 = .ok (.getfield 29, 3) := by decide +kernel
theorem dX11_check_32 : decode cX11_check 32 = .ok (.iconst 0, 1) := by decide +kernel
theorem dX11_check_33 : decode cX11_check 33 = .ok (.aload_n 0, 1) := by decide +kernel
theorem dX11_check_34 : decode cX11_check 34 = .ok (.getfield 29, 3) := by decide +kernel
theorem dX11_check_37 : decode cX11_check 37 = .ok (.getfield 100, 3) := by decide +kernel
theorem dX11_check_40 : decode cX11_check 40 = .ok (.invokevirtual 242, 3) := by decide +kernel
theorem dX11_check_43 : decode cX11_check 43 = .ok (.aload_n 0, 1) := by decide +kernel
theorem dX11_check_44 : decode cX11_check 44 = .ok (.getfield 54, 3) := by decide +kernel
theorem dX11_check_47 : decode cX11_check 47 = .ok (.getfield 246, 3) := by decide +kernel
theorem dX11_check_50 : decode cX11_check 50 = .ok (.iload_n 2, 1) := by decide +kernel
theorem dX11_check_51 : decode cX11_check 51 = .ok (.bipush 7, 2) := by decide +kernel
theorem dX11_check_53 : decode cX11_check 53 = .ok (.iand, 1) := by decide +kernel
theorem dX11_check_54 : decode cX11_check 54 = .ok (.iaload, 1) := by decide +kernel
theorem dX11_check_55 : decode cX11_check 55 = .ok (.ireturn, 1) := by decide +kernel
theorem dX11_turn_0 : decode cX11_turn 0 = .ok (.iload_n 1, 1) := by decide +kernel
theorem dX11_turn_1 : decode cX11_turn 1 = .ok (.ifCond .ne 40, 3) := by decide +kernel
theorem dX11_turn_4 : decode cX11_turn 4 = .ok (.iload_n 2, 1) := by decide +kernel
theorem dX11_turn_5 : decode cX11_turn 5 = .ok (.iconst 1, 1) := by decide +kernel
theorem dX11_turn_6 : decode cX11_turn 6 = .ok (.if_icmp .lt 35, 3) := by decide +kernel
theorem dX11_turn_9 : decode cX11_turn 9 = .ok (.iload_n 2, 1) := by decide +kernel
theorem dX11_turn_10 : decode cX11_turn 10 = .ok (.sipush 256, 3) := by decide +kernel
theorem dX11_turn_13 : decode cX11_turn 13 = .ok (.if_icmp .gt 28, 3) := by decide +kernel
theorem dX11_turn_16 : decode cX11_turn 16 = .ok (.aload_n 0, 1) := by decide +kernel
theorem dX11_turn_17 : decode cX11_turn 17 = .ok (.getfield 29, 3) := by decide +kernel
theorem dX11_turn_20 : decode cX11_turn 20 = .ok (.iconst 0, 1) := by decide +kernel
theorem dX11_turn_21 : decode cX11_turn 21 = .ok (.aload_n 0, 1) := by decide +kernel
theorem dX11_turn_22 : decode cX11_turn 22 = .ok (.getfield 29, 3) := by decide +kernel
theorem dX11_turn_25 : decode cX11_turn 25 = .ok (.getfield 100, 3) := by decide +kernel
theorem dX11_turn_28 : decode cX11_turn 28 = .ok (.iload_n 2, 1) := by decide +kernel
theorem dX11_turn_29 : decode cX11_turn 29 = .ok (.iload_n 3, 1) := by decide +kernel
theorem dX11_turn_30 : decode cX11_turn 30 = .ok (.invokevirtual 250, 3) := by decide +kernel
theorem dX11_turn_33 : decode cX11_turn 33 = .ok (.aload_n 0, 1) := by decide +kernel
theorem dX11_turn_34 : decode cX11_turn 34 = .ok (.getfield 29, 3) := by decide +kernel
theorem dX11_turn_37 : decode cX11_turn 37 = .ok (.getfield 100, 3) := by decide +kernel
theorem dX11_turn_40 : decode cX11_turn 40 = .ok (.ireturn, 1) := by decide +kernel
theorem dX11_turn_41 : decode cX11_turn 41 = .ok (.iload_n 1, 1) := by decide +kernel
theorem dX11_turn_42 : decode cX11_turn 42 = .ok (.iconst 1, 1) := by decide +kernel
theorem dX11_turn_43 : decode cX11_turn 43 = .ok (.if_icmp .ne 27, 3) := by decide +kernel
theorem dX11_turn_46 : decode cX11_turn 46 = .ok (.aload_n 0, 1) := by decide +kernel
theorem dX11_turn_47 : decode cX11_turn 47 = .ok (.getfield 29, 3) := by decide +kernel
theorem dX11_turn_50 : decode cX11_turn 50 = .ok (.iconst 0, 1) := by decide +kernel
theorem dX11_turn_51 : decode cX11_turn 51 = .ok (.aload_n 0, 1) := by decide +kernel
theorem dX11_turn_52 : decode cX11_turn 52 = .ok (.getfield 29, 3) := by decide +kernel
theorem dX11_turn_55 : decode cX11_turn 55 = .ok (.getfield 100, 3) := by decide +kernel
theorem dX11_turn_58 : decode cX11_turn 58 = .ok (.iload_n 3, 1) := by decide +kernel
theorem dX11_turn_59 : decode cX11_turn 59 = .ok (.invokevirtual 254, 3) := by decide +kernel
theorem dX11_turn_62 : decode cX11_turn 62 = .ok (.aload_n 0, 1) := by decide +kernel
theorem dX11_turn_63 : decode cX11_turn 63 = .ok (.getfield 29, 3) := by decide +kernel
theorem dX11_turn_66 : decode cX11_turn 66 = .ok (.getfield 100, 3) := by decide +kernel
theorem dX11_turn_69 : decode cX11_turn 69 = .ok (.ireturn, 1) := by decide +kernel
theorem dX11_turn_70 : decode cX11_turn 70 = .ok (.iconst (-1), 1) := by decide +kernel
theorem dX11_turn_71 : decode cX11_turn 71 = .ok (.ireturn, 1) := by decide +kernel
theorem dX11_count_0 : decode cX11_count 0 = .ok (.iload_n 1, 1) := by decide +kernel
theorem dX11_count_1 : decode cX11_count 1 = .ok (.ifCond .ne 11, 3) := by decide +kernel
theorem dX11_count_4 : decode cX11_count 4 = .ok (.aload_n 0, 1) := by decide +kernel
theorem dX11_count_5 : decode cX11_count 5 = .ok (.getfield 25, 3) := by decide +kernel
theorem dX11_count_8 : decode cX11_count 8 = .ok (.getfield 100, 3) := by decide +kernel
theorem dX11_count_11 : decode cX11_count 11 = .ok (.ireturn, 1) := by decide +kernel
theorem dX11_count_12 : decode cX11_count 12 = .ok (.iload_n 1, 1) := by decide +kernel
theorem dX11_count_13 : decode cX11_count 13 = .ok (.iconst 1, 1) := by decide +kernel
theorem dX11_count_14 : decode cX11_count 14 = .ok (.if_icmp .ne 13, 3) := by decide +kernel
theorem dX11_count_17 : decode cX11_count 17 = .ok (.aload_n 0, 1) := by decide +kernel
theorem dX11_count_18 : decode cX11_count 18 = .ok (.getfield 29, 3) := by decide +kernel
theorem dX11_count_21 : decode cX11_count 21 = .ok (.getfield 100, 3) := by decide +kernel
theorem dX11_count_24 : decode cX11_count 24 = .ok (.goto 4, 3) := by decide +kernel
theorem dX11_count_27 : decode cX11_count 27 = .ok (.iconst (-1), 1) := by decide +kernel
theorem dX11_count_28 : decode cX11_count 28 = .ok (.ireturn, 1) := by decide +kernel
theorem dX12_init_0 : decode cX12_init 0 = .ok (.aload_n 0, 1) := by decide +kernel
theorem dX12_init_1 : decode cX12_init 1 = .ok (.invokespecial 1, 3) := by decide +kernel
theorem dX12_init_4 : decode cX12_init 4 = .ok (.aload_n 0, 1) := by decide +kernel
theorem dX12_init_5 : decode cX12_init 5 = .ok (.iconst 3, 1) := by decide +kernel
theorem dX12_init_6 : decode cX12_init 6 = .ok (.putfield 7, 3) := by decide +kernel
theorem dX12_init_9 : decode cX12_init 9 = .ok (.aload_n 0, 1) := by decide +kernel
theorem dX12_init_10 : decode cX12_init 10 = .ok (.iconst 2, 1) := by decide +kernel
theorem dX12_init_11 : decode cX12_init 11 = .ok (.putfield 13, 3) := by decide +kernel
theorem dX12_init_14 : decode cX12_init 14 = .ok (.aload_n 0, 1) := by decide +kernel
theorem dX12_init_15 : decode cX12_init 15 = .ok (.sipush 4096, 3) := by decide +kernel
theorem dX12_init_18 : decode cX12_init 18 = .ok (.putfield 16, 3) := by decide +kernel
theorem dX12_init_21 : decode cX12_init 21 = .ok (.aload_n 0, 1) := by decide +kernel
theorem dX12_init_22 : decode cX12_init 22 = .ok (.sipush 512, 3) := by decide +kernel
theorem dX12_init_25 : decode cX12_init 25 = .ok (.putfield 19, 3) := by decide +kernel
theorem dX12_init_28 : decode cX12_init 28 = .ok (.aload_n 0, 1) := by decide +kernel
theorem dX12_init_29 : decode cX12_init 29 = .ok (.sipush 1024, 3) := by decide +kernel
theorem dX12_init_32 : decode cX12_init 32 = .ok (.putfield 22, 3) := by decide +kernel
theorem dX12_init_35 : decode cX12_init 35 = .ok (.aload_n 0, 1) := by decide +kernel
theorem dX12_init_36 : decode cX12_init 36 = .ok (.iconst 1, 1) := by decide +kernel
theorem dX12_init_37 : decode cX12_init 37 = .ok (.putfield 25, 3) := by decide +kernel
theorem dX12_init_40 : decode cX12_init 40 = .ok (.aload_n 0, 1) := by decide +kernel
theorem dX12_init_41 : decode cX12_init 41 = .ok (.sipush 1500, 3) := by decide +kernel
theorem dX12_init_44 : decode cX12_init 44 = .ok (.newarray .int, 2) := by decide +kernel
theorem dX12_init_46 : decode cX12_init 46 = .ok (.putfield 28, 3) := by decide +kernel
theorem dX12_init_49 : decode cX12_init 49 = .ok (.aload_n 0, 1) := by decide +kernel
theorem dX12_init_50 : decode cX12_init 50 = .ok (.sipush 3000, 3) := by decide +kernel
theorem dX12_init_53 : decode cX12_init 53 = .ok (.newarray .int, 2) := by decide +kernel
theorem dX12_init_55 : decode cX12_init 55 = .ok (.putfield 32, 3) := by decide +kernel
theorem dX12_init_58 : decode cX12_init 58 = .ok (.aload_n 0, 1) := by decide +kernel
theorem dX12_init_59 : decode cX12_init 59 = .ok (.sipush 256, 3) := by decide +kernel
theorem dX12_init_62 : decode cX12_init 62 = .ok (.newarray .int, 2) := by decide +kernel
theorem dX12_init_64 : decode cX12_init 64 = .ok (.putfield 35, 3) := by decide +kernel
theorem dX12_init_67 : decode cX12_init 67 = .ok (.aload_n 0, 1) := by decide +kernel
theorem dX12_init_68 : decode cX12_init 68 = .ok (.bipush 8, 2) := by decide +kernel
theorem dX12_init_70 : decode cX12_init 70 = .ok (.newarray .int, 2) := by decide +kernel
theorem dX12_init_72 : decode cX12_init 72 = .ok (.putfield 38, 3) := by decide +kernel
theorem dX12_init_75 : decode cX12_init 75 = .ok (.aload_n 0, 1) := by decide +kernel
theorem dX12_init_76 : decode cX12_init 76 = .ok (.bipush 64, 2) := by decide +kernel
theorem dX12_init_78 : decode cX12_init 78 = .ok (.newarray .int, 2) := by decide +kernel
theorem dX12_init_80 : decode cX12_init 80 = .ok (.putfield 41, 3) := by decide +kernel
theorem dX12_init_83 : decode cX12_init 83 = .ok (.aload_n 0, 1) := by decide +kernel
theorem dX12_init_84 : decode cX12_init 84 = .ok (.bipush 32, 2) := by decide +kernel
theorem dX12_init_86 : decode cX12_init 86 = .ok (.newarray .int, 2) := by decide +kernel
theorem dX12_init_88 : decode cX12_init 88 = .ok (.putfield 44, 3) := by decide +kernel
theorem dX12_init_91 : decode cX12_init 91 = .ok (.aload_n 0, 1) := by decide +kernel
theorem dX12_init_92 : decode cX12_init 92 = .ok (.sipush 3000, 3) := by decide +kernel
theorem dX12_init_95 : decode cX12_init 95 = .ok (.newarray .int, 2) := by decide +kernel
theorem dX12_init_97 : decode cX12_init 97 = .ok (.putfield 47, 3) := by decide +kernel
theorem dX12_init_100 : decode cX12_init 100 = .ok (.aload_n 0, 1) := by decide +kernel
theorem dX12_init_101 : decode cX12_init 101 = .ok (.sipush 2000, 3) := by decide +kernel
theorem dX12_init_104 : decode cX12_init 104 = .ok (.newarray .int, 2) := by decide +kernel
theorem dX12_init_106 : decode cX12_init 106 = .ok (.putfield 50, 3) := by decide +kernel
theorem dX12_init_109 : decode cX12_init 109 = .ok (.aload_n 0, 1) := by decide +kernel
theorem dX12_init_110 : decode cX12_init 110 = .ok (.sipush 2000, 3) := by decide +kernel
theorem dX12_init_113 : decode cX12_init 113 = .ok (.newarray .int, 2) := by decide +kernel
theorem dX12_init_115 : decode cX12_init 115 = .ok (.putfield 53, 3) := by decide +kernel
theorem dX12_init_118 : decode cX12_init 118 = .ok (.aload_n 0, 1) := by decide +kernel
theorem dX12_init_119 : decode cX12_init 119 = .ok (.sipush 2000, 3) := by decide +kernel
theorem dX12_init_122 : decode cX12_init 122 = .ok (.newarray .int, 2) := by decide +kernel
theorem dX12_init_124 : decode cX12_init 124 = .ok (.putfield 56, 3) := by decide +kernel
theorem dX12_init_127 : decode cX12_init 127 = .ok (.aload_n 0, 1) := by decide +kernel
theorem dX12_init_128 : decode cX12_init 128 = .ok (.sipush 2000, 3) := by decide +kernel
theorem dX12_init_131 : decode cX12_init 131 = .ok (.newarray .int, 2) := by decide +kernel
theorem dX12_init_133 : decode cX12_init 133 = .ok (.putfield 59, 3) := by decide +kernel
theorem dX12_init_136 : decode cX12_init 136 = .ok (.aload_n 0, 1) := by decide +kernel
theorem dX12_init_137 : decode cX12_init 137 = .ok (.sipush 3001, 3) := by decide +kernel
theorem dX12_init_140 : decode cX12_init 140 = .ok (.newarray .int, 2) := by decide +kernel
theorem dX12_init_142 : decode cX12_init 142 = .ok (.putfield 62, 3) := by decide +kernel
theorem dX12_init_145 : decode cX12_init 145 = .ok (.aload_n 0, 1) := by decide +kernel
theorem dX12_init_146 : decode cX12_init 146 = .ok (.sipush 3001, 3) := by decide +kernel
theorem dX12_init_149 : decode cX12_init 149 = .ok (.newarray .int, 2) := by decide +kernel
theorem dX12_init_151 : decode cX12_init 151 = .ok (.putfield 65, 3) := by decide +kernel
theorem dX12_init_154 : decode cX12_init 154 = .ok (.aload_n 0, 1) := by decide +kernel
theorem dX12_init_155 : decode cX12_init 155 = .ok (.sipush 3001, 3) := by decide +kernel
theorem dX12_init_158 : decode cX12_init 158 = .ok (.newarray .int, 2) := by decide +kernel
theorem dX12_init_160 : decode cX12_init 160 = .ok (.putfield 68, 3) := by decide +kernel
theorem dX12_init_163 : decode cX12_init 163 = .ok (.aload_n 0, 1) := by decide +kernel
theorem dX12_init_164 : decode cX12_init 164 = .ok (.sipush 3001, 3) := by decide +kernel
theorem dX12_init_167 : decode cX12_init 167 = .ok (.newarray .int, 2) := by decide +kernel
theorem dX12_init_169 : decode cX12_init 169 = .ok (.putfield 71, 3) := by decide +kernel
theorem dX12_init_172 : decode cX12_init 172 = .ok (.aload_n 0, 1) := by decide +kernel
theorem dX12_init_173 : decode cX12_init 173 = .ok (.sipush 3001, 3) := by decide +kernel
theorem dX12_init_176 : decode cX12_init 176 = .ok (.newarray .int, 2) := by decide +kernel
theorem dX12_init_178 : decode cX12_init 178 = .ok (.putfield 74, 3) := by decide +kernel
theorem dX12_init_181 : decode cX12_init 181 = .ok (.aload_n 0, 1) := by decide +kernel
theorem dX12_init_182 : decode cX12_init 182 = .ok (.iconst (-1), 1) := by decide +kernel
theorem dX12_init_183 : decode cX12_init 183 = .ok (.putfield 77, 3) := by decide +kernel
theorem dX12_init_186 : decode cX12_init 186 = .ok (.aload_n 0, 1) := by decide +kernel
theorem dX12_init_187 : decode cX12_init 187 = .ok (.sipush 14344, 3) := by decide +kernel
theorem dX12_init_190 : decode cX12_init 190 = .ok (.newarray .int, 2) := by decide +kernel
theorem dX12_init_192 : decode cX12_init 192 = .ok (.putfield 80, 3) := by decide +kernel
theorem dX12_init_195 : decode cX12_init 195 = .ok (.aload_n 0, 1) := by decide +kernel
theorem dX12_init_196 : decode cX12_init 196 = .ok (.sipush 14344, 3) := by decide +kernel
theorem dX12_init_199 : decode cX12_init 199 = .ok (.newarray .int, 2) := by decide +kernel
theorem dX12_init_201 : decode cX12_init 201 = .ok (.putfield 83, 3) := by decide +kernel
theorem dX12_init_204 : decode cX12_init 204 = .ok (.aload_n 0, 1) := by decide +kernel
theorem dX12_init_205 : decode cX12_init 205 = .ok (.sipush 8000, 3) := by decide +kernel
theorem dX12_init_208 : decode cX12_init 208 = .ok (.newarray .int, 2) := by decide +kernel
theorem dX12_init_210 : decode cX12_init 210 = .ok (.putfield 86, 3) := by decide +kernel
theorem dX12_init_213 : decode cX12_init 213 = .ok (.aload_n 0, 1) := by decide +kernel
theorem dX12_init_214 : decode cX12_init 214 = .ok (.sipush 3001, 3) := by decide +kernel
theorem dX12_init_217 : decode cX12_init 217 = .ok (.newarray .int, 2) := by decide +kernel
theorem dX12_init_219 : decode cX12_init 219 = .ok (.putfield 89, 3) := by decide +kernel
theorem dX12_init_222 : decode cX12_init 222 = .ok (.aload_n 0, 1) := by decide +kernel
theorem dX12_init_223 : decode cX12_init 223 = .ok (.sipush 3001, 3) := by decide +kernel
theorem dX12_init_226 : decode cX12_init 226 = .ok (.newarray .int, 2) := by decide +kernel
theorem dX12_init_228 : decode cX12_init 228 = .ok (.putfield 92, 3) := by decide +kernel
theorem dX12_init_231 : decode cX12_init 231 = .ok (.aload_n 0, 1) := by decide +kernel
theorem dX12_init_232 : decode cX12_init 232 = .ok (.sipush 3001, 3) := by decide +kernel
theorem dX12_init_235 : decode cX12_init 235 = .ok (.newarray .int, 2) := by decide +kernel
theorem dX12_init_237 : decode cX12_init 237 = .ok (.putfield 95, 3) := by decide +kernel
theorem dX12_init_240 : decode cX12_init 240 = .ok (.aload_n 0, 1) := by decide +kernel
theorem dX12_init_241 : decode cX12_init 241 = .ok (.sipush 20000, 3) := by decide +kernel
theorem dX12_init_244 : decode cX12_init 244 = .ok (.newarray .int, 2) := by decide +kernel
theorem dX12_init_246 : decode cX12_init 246 = .ok (.putfield 98, 3) := by decide +kernel
theorem dX12_init_249 : decode cX12_init 249 = .ok (.aload_n 0, 1) := by decide +kernel
theorem dX12_init_250 : decode cX12_init 250 = .ok (.iconst 4, 1) := by decide +kernel
theorem dX12_init_251 : decode cX12_init 251 = .ok (.newarray .int, 2) := by decide +kernel
theorem dX12_init_253 : decode cX12_init 253 = .ok (.putfield 101, 3) := by decide +kernel
theorem dX12_init_256 : decode cX12_init 256 = .ok (.aload_n 0, 1) := by decide +kernel
theorem dX12_init_257 : decode cX12_init 257 = .ok (.iconst 4, 1) := by decide +kernel
theorem dX12_init_258 : decode cX12_init 258 = .ok (.newarray .int, 2) := by decide +kernel
theorem dX12_init_260 : decode cX12_init 260 = .ok (.putfield 104, 3) := by decide +kernel
theorem dX12_init_263 : decode cX12_init 263 = .ok (.aload_n 0, 1) := by decide +kernel
theorem dX12_init_264 : decode cX12_init 264 = .ok (.iload_n 1, 1) := by decide +kernel
theorem dX12_init_265 : decode cX12_init 265 = .ok (.ifCond .lt 8, 3) := by decide +kernel
theorem dX12_init_268 : decode cX12_init 268 = .ok (.iload_n 1, 1) := by decide +kernel
theorem dX12_init_269 : decode cX12_init 269 = .ok (.iconst 2, 1) := by decide +kernel
theorem dX12_init_270 : decode cX12_init 270 = .ok (.if_icmp .le 7, 3) := by decide +kernel
theorem dX12_init_273 : decode cX12_init 273 = .ok (.iconst 0, 1) := by decide +kernel
theorem dX12_init_274 : decode cX12_init 274 = .ok (.goto 4, 3) := by decide +kernel
theorem dX12_init_277 : decode cX12_init 277 = .ok (.iload_n 1, 1) := by decide +kernel
theorem dX12_init_278 : decode cX12_init 278 = .ok (.putfield 107, 3) := by decide +kernel
theorem dX12_init_281 : decode cX12_init 281 = .ok (.iconst 0, 1) := by decide +kernel
theorem dX12_init_282 : decode cX12_init 282 = .ok (.istore_n 2, 1) := by decide +kernel
theorem dX12_init_283 : decode cX12_init 283 = .ok (.iload_n 2, 1) := by decide +kernel
theorem dX12_init_284 : decode cX12_init 284 = .ok (.sipush 256, 3) := by decide +kernel
theorem dX12_init_287 : decode cX12_init 287 = .ok (.if_icmp .ge 54, 3) := by decide +kernel
theorem dX12_init_290 : decode cX12_init 290 = .ok (.iload_n 2, 1) := by decide +kernel
theorem dX12_init_291 : decode cX12_init 291 = .ok (.istore_n 3, 1) := by decide +kernel
theorem dX12_init_292 : decode cX12_init 292 = .ok (.iconst 0, 1) := by decide +kernel
theorem dX12_init_293 : decode cX12_init 293 = .ok (.istore 4, 2) := by decide +kernel
theorem dX12_init_295 : decode cX12_init 295 = .ok (.iload 4, 2) := by decide +kernel
theorem dX12_init_297 : decode cX12_init 297 = .ok (.bipush 8, 2) := by decide +kernel
theorem dX12_init_299 : decode cX12_init 299 = .ok (.if_icmp .ge 29, 3) := by decide +kernel
theorem dX12_init_302 : decode cX12_init 302 = .ok (.iload_n 3, 1) := by decide +kernel
theorem dX12_init_303 : decode cX12_init 303 = .ok (.iconst 1, 1) := by decide +kernel
theorem dX12_init_304 : decode cX12_init 304 = .ok (.iand, 1) := by decide +kernel
theorem dX12_init_305 : decode cX12_init 305 = .ok (.iconst 1, 1) := by decide +kernel
theorem dX12_init_306 : decode cX12_init 306 = .ok (.if_icmp .ne 12, 3) := by decide +kernel
theorem dX12_init_309 : decode cX12_init 309 = .ok (.iload_n 3, 1) := by decide +kernel
theorem dX12_init_310 : decode cX12_init 310 = .ok (.iconst 1, 1) := by decide +kernel
theorem dX12_init_311 : decode cX12_init 311 = .ok (.iushr, 1) := by decide +kernel
theorem dX12_init_312 : decode cX12_init 312 = .ok (.ldc 110, 2) := by decide +kernel
theorem dX12_init_314 : decode cX12_init 314 = .ok (.ixor, 1) := by decide +kernel
theorem dX12_init_315 : decode cX12_init 315 = .ok (.goto 6, 3) := by decide +kernel
theorem dX12_init_318 : decode cX12_init 318 = .ok (.iload_n 3, 1) := by decide +kernel
theorem dX12_init_319 : decode cX12_init 319 = .ok (.iconst 1, 1) := by decide +kernel
theorem dX12_init_320 : decode cX12_init 320 = .ok (.iushr, 1) := by decide +kernel
theorem dX12_init_321 : decode cX12_init 321 = .ok (.istore_n 3, 1) := by decide +kernel
theorem dX12_init_322 : decode cX12_init 322 = .ok (.iinc 4 1, 3) := by decide +kernel
theorem dX12_init_325 : decode cX12_init 325 = .ok (.goto (-30), 3) := by decide +kernel
theorem dX12_init_328 : decode cX12_init 328 = .ok (.aload_n 0, 1) := by decide +kernel
theorem dX12_init_329 : decode cX12_init 329 = .ok (.getfield 35, 3) := by decide +kernel
theorem dX12_init_332 : decode cX12_init 332 = .ok (.iload_n 2, 1) := by decide +kernel
theorem dX12_init_333 : decode cX12_init 333 = .ok (.iload_n 3, 1) := by decide +kernel
theorem dX12_init_334 : decode cX12_init 334 = .ok (.iastore, 1) := by decide +kernel
theorem dX12_init_335 : decode cX12_init 335 = .ok (.iinc 2 1, 3) := by decide +kernel
theorem dX12_init_338 : decode cX12_init 338 = .ok (.goto (-55), 3) := by decide +kernel
theorem dX12_init_341 : decode cX12_init 341 = .ok (.return_, 1) := by decide +kernel
theorem dX12_property_0 : decode cX12_property 0 = .ok (.aload_n 0, 1) := by decide +kernel
theorem dX12_property_1 : decode cX12_property 1 = .ok (.iconst 0, 1) := by decide +kernel
theorem dX12_property_2 : decode cX12_property 2 = .ok (.putfield 111, 3) := by decide +kernel
theorem dX12_property_5 : decode cX12_property 5 = .ok (.iload_n 1, 1) := by decide +kernel
theorem dX12_property_6 : decode cX12_property 6 = .ok (.tableswitch 373 0 7 #[46, 90, 134, 168, 220, 257, 294, 339], 46) := by decide +kernel
theorem dX12_property_52 : decode cX12_property 52 = .ok (.iload_n 2, 1) := by decide +kernel
theorem dX12_property_53 : decode cX12_property 53 = .ok (.ifCond .lt 22, 3) := by decide +kernel
theorem dX12_property_56 : decode cX12_property 56 = .ok (.iload_n 2, 1) := by decide +kernel
theorem dX12_property_57 : decode cX12_property 57 = .ok (.iconst 4, 1) := by decide +kernel
theorem dX12_property_58 : decode cX12_property 58 = .ok (.if_icmp .gt 17, 3) := by decide +kernel
theorem dX12_property_61 : decode cX12_property 61 = .ok (.iload_n 2, 1) := by decide +kernel
theorem dX12_property_62 : decode cX12_property 62 = .ok (.aload_n 0, 1) := by decide +kernel
theorem dX12_property_63 : decode cX12_property 63 = .ok (.getfield 114, 3) := by decide +kernel
theorem dX12_property_66 : decode cX12_property 66 = .ok (.iadd, 1) := by decide +kernel
theorem dX12_property_67 : decode cX12_property 67 = .ok (.iconst 4, 1) := by decide +kernel
theorem dX12_property_68 : decode cX12_property 68 = .ok (.if_icmp .gt 7, 3) := by decide +kernel
theorem dX12_property_71 : decode cX12_property 71 = .ok (.iconst 1, 1) := by decide +kernel
theorem dX12_property_72 : decode cX12_property 72 = .ok (.goto 4, 3) := by decide +kernel
theorem dX12_property_75 : decode cX12_property 75 = .ok (.iconst 0, 1) := by decide +kernel
theorem dX12_property_76 : decode cX12_property 76 = .ok (.istore_n 3, 1) := by decide +kernel
theorem dX12_property_77 : decode cX12_property 77 = .ok (.aload_n 0, 1) := by decide +kernel
theorem dX12_property_78 : decode cX12_property 78 = .ok (.iload_n 3, 1) := by decide +kernel
theorem dX12_property_79 : decode cX12_property 79 = .ok (.ifCond .eq 7, 3) := by decide +kernel
theorem dX12_property_82 : decode cX12_property 82 = .ok (.iload_n 2, 1) := by decide +kernel
theorem dX12_property_83 : decode cX12_property 83 = .ok (.goto 7, 3) := by decide +kernel
theorem dX12_property_86 : decode cX12_property 86 = .ok (.aload_n 0, 1) := by decide +kernel
theorem dX12_property_87 : decode cX12_property 87 = .ok (.getfield 7, 3) := by decide +kernel
theorem dX12_property_90 : decode cX12_property 90 = .ok (.putfield 7, 3) := by decide +kernel
theorem dX12_property_93 : decode cX12_property 93 = .ok (.goto 288, 3) := by decide +kernel
theorem dX12_property_96 : decode cX12_property 96 = .ok (.iload_n 2, 1) := by decide +kernel
theorem dX12_property_97 : decode cX12_property 97 = .ok (.ifCond .lt 22, 3) := by decide +kernel
theorem dX12_property_100 : decode cX12_property 100 = .ok (.iload_n 2, 1) := by decide +kernel
theorem dX12_property_101 : decode cX12_property 101 = .ok (.iconst 4, 1) := by decide +kernel
theorem dX12_property_102 : decode cX12_property 102 = .ok (.if_icmp .gt 17, 3) := by decide +kernel
theorem dX12_property_105 : decode cX12_property 105 = .ok (.iload_n 2, 1) := by decide +kernel
theorem dX12_property_106 : decode cX12_property 106 = .ok (.aload_n 0, 1) := by decide +kernel
theorem dX12_property_107 : decode cX12_property 107 = .ok (.getfield 7, 3) := by decide +kernel
theorem dX12_property_110 : decode cX12_property 110 = .ok (.iadd, 1) := by decide +kernel
theorem dX12_property_111 : decode cX12_property 111 = .ok (.iconst 4, 1) := by decide +kernel
theorem dX12_property_112 : decode cX12_property 112 = .ok (.if_icmp .gt 7, 3) := by decide +kernel
theorem dX12_property_115 : decode cX12_property 115 = .ok (.iconst 1, 1) := by decide +kernel
theorem dX12_property_116 : decode cX12_property 116 = .ok (.goto 4, 3) := by decide +kernel
theorem dX12_property_119 : decode cX12_property 119 = .ok (.iconst 0, 1) := by decide +kernel
theorem dX12_property_120 : decode cX12_property 120 = .ok (.istore_n 3, 1) := by decide +kernel
theorem dX12_property_121 : decode cX12_property 121 = .ok (.aload_n 0, 1) := by decide +kernel
theorem dX12_property_122 : decode cX12_property 122 = .ok (.iload_n 3, 1) := by decide +kernel
theorem dX12_property_123 : decode cX12_property 123 = .ok (.ifCond .eq 7, 3) := by decide +kernel
theorem dX12_property_126 : decode cX12_property 126 = .ok (.iload_n 2, 1) := by decide +kernel
theorem dX12_property_127 : decode cX12_property 127 = .ok (.goto 7, 3) := by decide +kernel
theorem dX12_property_130 : decode cX12_property 130 = .ok (.aload_n 0, 1) := by decide +kernel
theorem dX12_property_131 : decode cX12_property 131 = .ok (.getfield 114, 3) := by decide +kernel
theorem dX12_property_134 : decode cX12_property 134 = .ok (.putfield 114, 3) := by decide +kernel
theorem dX12_property_137 : decode cX12_property 137 = .ok (.goto 244, 3) := by decide +kernel
theorem dX12_property_140 : decode cX12_property 140 = .ok (.iload_n 2, 1) := by decide +kernel
theorem dX12_property_141 : decode cX12_property 141 = .ok (.ifCond .lt 12, 3) := by decide +kernel
theorem dX12_property_144 : decode cX12_property 144 = .ok (.iload_n 2, 1) := by decide +kernel
theorem dX12_property_145 : decode cX12_property 145 = .ok (.iconst 4, 1) := by decide +kernel
theorem dX12_property_146 : decode cX12_property 146 = .ok (.if_icmp .gt 7, 3) := by decide +kernel
theorem dX12_property_149 : decode cX12_property 149 = .ok (.iconst 1, 1) := by decide +kernel
theorem dX12_property_150 : decode cX12_property 150 = .ok (.goto 4, 3) := by decide +kernel
theorem dX12_property_153 : decode cX12_property 153 = .ok (.iconst 0, 1) := by decide +kernel
theorem dX12_property_154 : decode cX12_property 154 = .ok (.istore_n 3, 1) := by decide +kernel
theorem dX12_property_155 : decode cX12_property 155 = .ok (.aload_n 0, 1) := by decide +kernel
theorem dX12_property_156 : decode cX12_property 156 = .ok (.iload_n 3, 1) := by decide +kernel
theorem dX12_property_157 : decode cX12_property 157 = .ok (.ifCond .eq 7, 3) := by decide +kernel
theorem dX12_property_160 : decode cX12_property 160 = .ok (.iload_n 2, 1) := by decide +kernel
theorem dX12_property_161 : decode cX12_property 161 = .ok (.goto 7, 3) := by decide +kernel
theorem dX12_property_164 : decode cX12_property 164 = .ok (.aload_n 0, 1) := by decide +kernel
theorem dX12_property_165 : decode cX12_property 165 = .ok (.getfield 13, 3) := by decide +kernel
theorem dX12_property_168 : decode cX12_property 168 = .ok (.putfield 13, 3) := by decide +kernel
theorem dX12_property_171 : decode cX12_property 171 = .ok (.goto 210, 3) := by decide +kernel
theorem dX12_property_174 : decode cX12_property 174 = .ok (.iload_n 2, 1) := by decide +kernel
theorem dX12_property_175 : decode cX12_property 175 = .ok (.iconst 1, 1) := by decide +kernel
theorem dX12_property_176 : decode cX12_property 176 = .ok (.if_icmp .lt 29, 3) := by decide +kernel
theorem dX12_property_179 : decode cX12_property 179 = .ok (.iload_n 2, 1) := by decide +kernel
theorem dX12_property_180 : decode cX12_property 180 = .ok (.sipush 4096, 3) := by decide +kernel
theorem dX12_property_183 : decode cX12_property 183 = .ok (.if_icmp .gt 22, 3) := by decide +kernel
theorem dX12_property_186 : decode cX12_property 186 = .ok (.aload_n 0, 1) := by decide +kernel
theorem dX12_property_187 : decode cX12_property 187 = .ok (.getfield 107, 3) := by decide +kernel
theorem dX12_property_190 : decode cX12_property 190 = .ok (.iconst 2, 1) := by decide +kernel
theorem dX12_property_191 : decode cX12_property 191 = .ok (.if_icmp .ne 10, 3) := by decide +kernel
theorem dX12_property_194 : decode cX12_property 194 = .ok (.iload_n 2, 1) := by decide +kernel
theorem dX12_property_195 : decode cX12_property 195 = .ok (.sipush 4096, 3) := by decide +kernel
theorem dX12_property_198 : decode cX12_property 198 = .ok (.if_icmp .ne 7, 3) := by decide +kernel
theorem dX12_property_201 : decode cX12_property 201 = .ok (.iconst 1, 1) := by decide +kernel
theorem dX12_property_202 : decode cX12_property 202 = .ok (.goto 4, 3) := by decide +kernel
theorem dX12_property_205 : decode cX12_property 205 = .ok (.iconst 0, 1) := by decide +kernel
theorem dX12_property_206 : decode cX12_property 206 = .ok (.istore_n 3, 1) := by decide +kernel
theorem dX12_property_207 : decode cX12_property 207 = .ok (.aload_n 0, 1) := by decide +kernel
theorem dX12_property_208 : decode cX12_property 208 = .ok (.iload_n 3, 1) := by decide +kernel
theorem dX12_property_209 : decode cX12_property 209 = .ok (.ifCond .eq 7, 3) := by decide +kernel
theorem dX12_property_212 : decode cX12_property 212 = .ok (.iload_n 2, 1) := by decide +kernel
theorem dX12_property_213 : decode cX12_property 213 = .ok (.goto 7, 3) := by decide +kernel
theorem dX12_property_216 : decode cX12_property 216 = .ok (.aload_n 0, 1) := by decide +kernel
theorem dX12_property_217 : decode cX12_property 217 = .ok (.getfield 16, 3) := by decide +kernel
theorem dX12_property_220 : decode cX12_property 220 = .ok (.putfield 16, 3) := by decide +kernel
theorem dX12_property_223 : decode cX12_property 223 = .ok (.goto 158, 3) := by decide +kernel
theorem dX12_property_226 : decode cX12_property 226 = .ok (.iload_n 2, 1) := by decide +kernel
theorem dX12_property_227 : decode cX12_property 227 = .ok (.iconst 1, 1) := by decide +kernel
theorem dX12_property_228 : decode cX12_property 228 = .ok (.if_icmp .lt 14, 3) := by decide +kernel
theorem dX12_property_231 : decode cX12_property 231 = .ok (.iload_n 2, 1) := by decide +kernel
theorem dX12_property_232 : decode cX12_property 232 = .ok (.sipush 1500, 3) := by decide +kernel
theorem dX12_property_235 : decode cX12_property 235 = .ok (.if_icmp .gt 7, 3) := by decide +kernel
theorem dX12_property_238 : decode cX12_property 238 = .ok (.iconst 1, 1) := by decide +kernel
theorem dX12_property_239 : decode cX12_property 239 = .ok (.goto 4, 3) := by decide +kernel
theorem dX12_property_242 : decode cX12_property 242 = .ok (.iconst 0, 1) := by decide +kernel
theorem dX12_property_243 : decode cX12_property 243 = .ok (.istore_n 3, 1) := by decide +kernel
theorem dX12_property_244 : decode cX12_property 244 = .ok (.aload_n 0, 1) := by decide +kernel
theorem dX12_property_245 : decode cX12_property 245 = .ok (.iload_n 3, 1) := by decide +kernel
theorem dX12_property_246 : decode cX12_property 246 = .ok (.ifCond .eq 7, 3) := by decide +kernel
theorem dX12_property_249 : decode cX12_property 249 = .ok (.iload_n 2, 1) := by decide +kernel
theorem dX12_property_250 : decode cX12_property 250 = .ok (.goto 7, 3) := by decide +kernel
theorem dX12_property_253 : decode cX12_property 253 = .ok (.aload_n 0, 1) := by decide +kernel
theorem dX12_property_254 : decode cX12_property 254 = .ok (.getfield 19, 3) := by decide +kernel
theorem dX12_property_257 : decode cX12_property 257 = .ok (.putfield 19, 3) := by decide +kernel
theorem dX12_property_260 : decode cX12_property 260 = .ok (.goto 121, 3) := by decide +kernel
theorem dX12_property_263 : decode cX12_property 263 = .ok (.iload_n 2, 1) := by decide +kernel
theorem dX12_property_264 : decode cX12_property 264 = .ok (.iconst 1, 1) := by decide +kernel
theorem dX12_property_265 : decode cX12_property 265 = .ok (.if_icmp .lt 14, 3) := by decide +kernel
theorem dX12_property_268 : decode cX12_property 268 = .ok (.iload_n 2, 1) := by decide +kernel
theorem dX12_property_269 : decode cX12_property 269 = .ok (.sipush 1500, 3) := by decide +kernel
theorem dX12_property_272 : decode cX12_property 272 = .ok (.if_icmp .gt 7, 3) := by decide +kernel
theorem dX12_property_275 : decode cX12_property 275 = .ok (.iconst 1, 1) := by decide +kernel
theorem dX12_property_276 : decode cX12_property 276 = .ok (.goto 4, 3) := by decide +kernel
theorem dX12_property_279 : decode cX12_property 279 = .ok (.iconst 0, 1) := by decide +kernel
theorem dX12_property_280 : decode cX12_property 280 = .ok (.istore_n 3, 1) := by decide +kernel
theorem dX12_property_281 : decode cX12_property 281 = .ok (.aload_n 0, 1) := by decide +kernel
theorem dX12_property_282 : decode cX12_property 282 = .ok (.iload_n 3, 1) := by decide +kernel
theorem dX12_property_283 : decode cX12_property 283 = .ok (.ifCond .eq 7, 3) := by decide +kernel
theorem dX12_property_286 : decode cX12_property 286 = .ok (.iload_n 2, 1) := by decide +kernel
theorem dX12_property_287 : decode cX12_property 287 = .ok (.goto 7, 3) := by decide +kernel
theorem dX12_property_290 : decode cX12_property 290 = .ok (.aload_n 0, 1) := by decide +kernel
theorem dX12_property_291 : decode cX12_property 291 = .ok (.getfield 22, 3) := by decide +kernel
theorem dX12_property_294 : decode cX12_property 294 = .ok (.putfield 22, 3) := by decide +kernel
theorem dX12_property_297 : decode cX12_property 297 = .ok (.goto 84, 3) := by decide +kernel
theorem dX12_property_300 : decode cX12_property 300 = .ok (.iload_n 2, 1) := by decide +kernel
theorem dX12_property_301 : decode cX12_property 301 = .ok (.ifCond .eq 19, 3) := by decide +kernel
theorem dX12_property_304 : decode cX12_property 304 = .ok (.iload_n 2, 1) := by decide +kernel
theorem dX12_property_305 : decode cX12_property 305 = .ok (.iconst 1, 1) := by decide +kernel
theorem dX12_property_306 : decode cX12_property 306 = .ok (.if_icmp .eq 14, 3) := by decide +kernel
theorem dX12_property_309 : decode cX12_property 309 = .ok (.iload_n 2, 1) := by decide +kernel
theorem dX12_property_310 : decode cX12_property 310 = .ok (.iconst 4, 1) := by decide +kernel
theorem dX12_property_311 : decode cX12_property 311 = .ok (.if_icmp .eq 9, 3) := by decide +kernel
theorem dX12_property_314 : decode cX12_property 314 = .ok (.iload_n 2, 1) := by decide +kernel
theorem dX12_property_315 : decode cX12_property 315 = .ok (.bipush 10, 2) := by decide +kernel
theorem dX12_property_317 : decode cX12_property 317 = .ok (.if_icmp .ne 7, 3) := by decide +kernel
theorem dX12_property_320 : decode cX12_property 320 = .ok (.iconst 1, 1) := by decide +kernel
theorem dX12_property_321 : decode cX12_property 321 = .ok (.goto 4, 3) := by decide +kernel
theorem dX12_property_324 : decode cX12_property 324 = .ok (.iconst 0, 1) := by decide +kernel
theorem dX12_property_325 : decode cX12_property 325 = .ok (.istore_n 3, 1) := by decide +kernel
theorem dX12_property_326 : decode cX12_property 326 = .ok (.aload_n 0, 1) := by decide +kernel
theorem dX12_property_327 : decode cX12_property 327 = .ok (.iload_n 3, 1) := by decide +kernel
theorem dX12_property_328 : decode cX12_property 328 = .ok (.ifCond .eq 7, 3) := by decide +kernel
theorem dX12_property_331 : decode cX12_property 331 = .ok (.iload_n 2, 1) := by decide +kernel
theorem dX12_property_332 : decode cX12_property 332 = .ok (.goto 7, 3) := by decide +kernel
theorem dX12_property_335 : decode cX12_property 335 = .ok (.aload_n 0, 1) := by decide +kernel
theorem dX12_property_336 : decode cX12_property 336 = .ok (.getfield 25, 3) := by decide +kernel
theorem dX12_property_339 : decode cX12_property 339 = .ok (.putfield 25, 3) := by decide +kernel
theorem dX12_property_342 : decode cX12_property 342 = .ok (.goto 39, 3) := by decide +kernel
theorem dX12_property_345 : decode cX12_property 345 = .ok (.iload_n 2, 1) := by decide +kernel
theorem dX12_property_346 : decode cX12_property 346 = .ok (.ifCond .lt 12, 3) := by decide +kernel
theorem dX12_property_349 : decode cX12_property 349 = .ok (.iload_n 2, 1) := by decide +kernel
theorem dX12_property_350 : decode cX12_property 350 = .ok (.iconst 1, 1) := by decide +kernel
theorem dX12_property_351 : decode cX12_property 351 = .ok (.if_icmp .gt 7, 3) := by decide +kernel
theorem dX12_property_354 : decode cX12_property 354 = .ok (.iconst 1, 1) := by decide +kernel
theorem dX12_property_355 : decode cX12_property 355 = .ok (.goto 4, 3) := by decide +kernel
theorem dX12_property_358 : decode cX12_property 358 = .ok (.iconst 0, 1) := by decide +kernel
theorem dX12_property_359 : decode cX12_property 359 = .ok (.istore_n 3, 1) := by decide +kernel
theorem dX12_property_360 : decode cX12_property 360 = .ok (.aload_n 0, 1) := by decide +kernel
theorem dX12_property_361 : decode cX12_property 361 = .ok (.iload_n 3, 1) := by decide +kernel
theorem dX12_property_362 : decode cX12_property 362 = .ok (.ifCond .eq 7, 3) := by decide +kernel
theorem dX12_property_365 : decode cX12_property 365 = .ok (.iload_n 2, 1) := by decide +kernel
theorem dX12_property_366 : decode cX12_property 366 = .ok (.goto 7, 3) := by decide +kernel
theorem dX12_property_369 : decode cX12_property 369 = .ok (.aload_n 0, 1) := by decide +kernel
theorem dX12_property_370 : decode cX12_property 370 = .ok (.getfield 117, 3) := by decide +kernel
theorem dX12_property_373 : decode cX12_property 373 = .ok (.putfield 117, 3) := by decide +kernel
theorem dX12_property_376 : decode cX12_property 376 = .ok (.goto 5, 3) := by decide +kernel
theorem dX12_property_379 : decode cX12_property 379 = .ok (.iconst 0, 1) := by decide +kernel
theorem dX12_property_380 : decode cX12_property 380 = .ok (.istore_n 3, 1) := by decide +kernel
theorem dX12_property_381 : decode cX12_property 381 = .ok (.iload_n 3, 1) := by decide +kernel
theorem dX12_property_382 : decode cX12_property 382 = .ok (.ifCond .eq 7, 3) := by decide +kernel
theorem dX12_property_385 : decode cX12_property 385 = .ok (.iconst 1, 1) := by decide +kernel
theorem dX12_property_386 : decode cX12_property 386 = .ok (.goto 4, 3) := by decide +kernel
theorem dX12_property_389 : decode cX12_property 389 = .ok (.iconst 0, 1) := by decide +kernel
theorem dX12_property_390 : decode cX12_property 390 = .ok (.ireturn, 1) := by decide +kernel
theorem dX12_filter_0 : decode cX12_filter 0 = .ok (.aload_n 0, 1) := by decide +kernel
theorem dX12_filter_1 : decode cX12_filter 1 = .ok (.iconst 0, 1) := by decide +kernel
theorem dX12_filter_2 : decode cX12_filter 2 = .ok (.putfield 111, 3) := by decide +kernel
theorem dX12_filter_5 : decode cX12_filter 5 = .ok (.iload_n 1, 1) := by decide +kernel
theorem dX12_filter_6 : decode cX12_filter 6 = .ok (.ifCond .ne 21, 3) := by decide +kernel
theorem dX12_filter_9 : decode cX12_filter 9 = .ok (.iload_n 2, 1) := by decide +kernel
theorem dX12_filter_10 : decode cX12_filter 10 = .ok (.ifCond .lt 17, 3) := by decide +kernel
theorem dX12_filter_13 : decode cX12_filter 13 = .ok (.iload_n 2, 1) := by decide +kernel
theorem dX12_filter_14 : decode cX12_filter 14 = .ok (.sipush 256, 3) := by decide +kernel
theorem dX12_filter_17 : decode cX12_filter 17 = .ok (.if_icmp .gt 10, 3) := by decide +kernel
theorem dX12_filter_20 : decode cX12_filter 20 = .ok (.aload_n 0, 1) := by decide +kernel
theorem dX12_filter_21 : decode cX12_filter 21 = .ok (.iload_n 2, 1) := by decide +kernel
theorem dX12_filter_22 : decode cX12_filter 22 = .ok (.putfield 120, 3) := by decide +kernel
theorem dX12_filter_25 : decode cX12_filter 25 = .ok (.iconst 1, 1) := by decide +kernel
theorem dX12_filter_26 : decode cX12_filter 26 = .ok (.ireturn, 1) := by decide +kernel
theorem dX12_filter_27 : decode cX12_filter 27 = .ok (.iload_n 1, 1) := by decide +kernel
theorem dX12_filter_28 : decode cX12_filter 28 = .ok (.iconst 1, 1) := by decide +kernel
theorem dX12_filter_29 : decode cX12_filter 29 = .ok (.if_icmp .ne 19, 3) := by decide +kernel
theorem dX12_filter_32 : decode cX12_filter 32 = .ok (.iload_n 2, 1) := by decide +kernel
theorem dX12_filter_33 : decode cX12_filter 33 = .ok (.ifCond .lt 15, 3) := by decide +kernel
theorem dX12_filter_36 : decode cX12_filter 36 = .ok (.iload_n 2, 1) := by decide +kernel
theorem dX12_filter_37 : decode cX12_filter 37 = .ok (.iconst 1, 1) := by decide +kernel
theorem dX12_filter_38 : decode cX12_filter 38 = .ok (.if_icmp .gt 10, 3) := by decide +kernel
theorem dX12_filter_41 : decode cX12_filter 41 = .ok (.aload_n 0, 1) := by decide +kernel
theorem dX12_filter_42 : decode cX12_filter 42 = .ok (.iload_n 2, 1) := by decide +kernel
theorem dX12_filter_43 : decode cX12_filter 43 = .ok (.putfield 123, 3) := by decide +kernel
theorem dX12_filter_46 : decode cX12_filter 46 = .ok (.iconst 1, 1) := by decide +kernel
theorem dX12_filter_47 : decode cX12_filter 47 = .ok (.ireturn, 1) := by decide +kernel
theorem dX12_filter_48 : decode cX12_filter 48 = .ok (.iconst 0, 1) := by decide +kernel
theorem dX12_filter_49 : decode cX12_filter 49 = .ok (.ireturn, 1) := by decide +kernel
theorem dX12_feed_0 : decode cX12_feed 0 = .ok (.aload_n 0, 1) := by decide +kernel
theorem dX12_feed_1 : decode cX12_feed 1 = .ok (.iconst 0, 1) := by decide +kernel
theorem dX12_feed_2 : decode cX12_feed 2 = .ok (.putfield 111, 3) := by decide +kernel
theorem dX12_feed_5 : decode cX12_feed 5 = .ok (.aload_n 0, 1) := by decide +kernel
theorem dX12_feed_6 : decode cX12_feed 6 = .ok (.getfield 126, 3) := by decide +kernel
theorem dX12_feed_9 : decode cX12_feed 9 = .ok (.bipush 20, 2) := by decide +kernel
theorem dX12_feed_11 : decode cX12_feed 11 = .ok (.iadd, 1) := by decide +kernel
theorem dX12_feed_12 : decode cX12_feed 12 = .ok (.sipush 1500, 3) := by decide +kernel
theorem dX12_feed_15 : decode cX12_feed 15 = .ok (.if_icmp .le 6, 3) := by decide +kernel
theorem dX12_feed_18 : decode cX12_feed 18 = .ok (.bipush (-3), 2) := by decide +kernel
theorem dX12_feed_20 : decode cX12_feed 20 = .ok (.ireturn, 1) := by decide +kernel
theorem dX12_feed_21 : decode cX12_feed 21 = .ok (.iconst 0, 1) := by decide +kernel
theorem dX12_feed_22 : decode cX12_feed 22 = .ok (.istore 6, 2) := by decide +kernel
theorem dX12_feed_24 : decode cX12_feed 24 = .ok (.iload 6, 2) := by decide +kernel
theorem dX12_feed_26 : decode cX12_feed 26 = .ok (.bipush 20, 2) := by decide +kernel
theorem dX12_feed_28 : decode cX12_feed 28 = .ok (.if_icmp .ge 93, 3) := by decide +kernel
theorem dX12_feed_31 : decode cX12_feed 31 = .ok (.iload 6, 2) := by decide +kernel
theorem dX12_feed_33 : decode cX12_feed 33 = .ok (.iconst 4, 1) := by decide +kernel
theorem dX12_feed_34 : decode cX12_feed 34 = .ok (.if_icmp .ge 7, 3) := by decide +kernel
theorem dX12_feed_37 : decode cX12_feed 37 = .ok (.iload_n 1, 1) := by decide +kernel
theorem dX12_feed_38 : decode cX12_feed 38 = .ok (.goto 39, 3) := by decide +kernel
theorem dX12_feed_41 : decode cX12_feed 41 = .ok (.iload 6, 2) := by decide +kernel
theorem dX12_feed_43 : decode cX12_feed 43 = .ok (.bipush 8, 2) := by decide +kernel
theorem dX12_feed_45 : decode cX12_feed 45 = .ok (.if_icmp .ge 7, 3) := by decide +kernel
theorem dX12_feed_48 : decode cX12_feed 48 = .ok (.iload_n 2, 1) := by decide +kernel
theorem dX12_feed_49 : decode cX12_feed 49 = .ok (.goto 28, 3) := by decide +kernel
theorem dX12_feed_52 : decode cX12_feed 52 = .ok (.iload 6, 2) := by decide +kernel
theorem dX12_feed_54 : decode cX12_feed 54 = .ok (.bipush 12, 2) := by decide +kernel
theorem dX12_feed_56 : decode cX12_feed 56 = .ok (.if_icmp .ge 7, 3) := by decide +kernel
theorem dX12_feed_59 : decode cX12_feed 59 = .ok (.iload_n 3, 1) := by decide +kernel
theorem dX12_feed_60 : decode cX12_feed 60 = .ok (.goto 17, 3) := by decide +kernel
theorem dX12_feed_63 : decode cX12_feed 63 = .ok (.iload 6, 2) := by decide +kernel
theorem dX12_feed_65 : decode cX12_feed 65 = .ok (.bipush 16, 2) := by decide +kernel
theorem dX12_feed_67 : decode cX12_feed 67 = .ok (.if_icmp .ge 8, 3) := by decide +kernel
theorem dX12_feed_70 : decode cX12_feed 70 = .ok (.iload 4, 2) := by decide +kernel
theorem dX12_feed_72 : decode cX12_feed 72 = .ok (.goto 5, 3) := by decide +kernel
theorem dX12_feed_75 : decode cX12_feed 75 = .ok (.iload 5, 2) := by decide +kernel
theorem dX12_feed_77 : decode cX12_feed 77 = .ok (.istore 7, 2) := by decide +kernel
theorem dX12_feed_79 : decode cX12_feed 79 = .ok (.aload_n 0, 1) := by decide +kernel
theorem dX12_feed_80 : decode cX12_feed 80 = .ok (.getfield 28, 3) := by decide +kernel
theorem dX12_feed_83 : decode cX12_feed 83 = .ok (.aload_n 0, 1) := by decide +kernel
theorem dX12_feed_84 : decode cX12_feed 84 = .ok (.getfield 126, 3) := by decide +kernel
theorem dX12_feed_87 : decode cX12_feed 87 = .ok (.iload 7, 2) := by decide +kernel
theorem dX12_feed_89 : decode cX12_feed 89 = .ok (.bipush 24, 2) := by decide +kernel
theorem dX12_feed_91 : decode cX12_feed 91 = .ok (.bipush 8, 2) := by decide +kernel
theorem dX12_feed_93 : decode cX12_feed 93 = .ok (.iload 6, 2) := by decide +kernel
theorem dX12_feed_95 : decode cX12_feed 95 = .ok (.iconst 4, 1) := by decide +kernel
theorem dX12_feed_96 : decode cX12_feed 96 = .ok (.irem, 1) := by decide +kernel
theorem dX12_feed_97 : decode cX12_feed 97 = .ok (.imul, 1) := by decide +kernel
theorem dX12_feed_98 : decode cX12_feed 98 = .ok (.isub, 1) := by decide +kernel
theorem dX12_feed_99 : decode cX12_feed 99 = .ok (.ishr, 1) := by decide +kernel
theorem dX12_feed_100 : decode cX12_feed 100 = .ok (.sipush 255, 3) := by decide +kernel
theorem dX12_feed_103 : decode cX12_feed 103 = .ok (.iand, 1) := by decide +kernel
theorem dX12_feed_104 : decode cX12_feed 104 = .ok (.iastore, 1) := by decide +kernel
theorem dX12_feed_105 : decode cX12_feed 105 = .ok (.aload_n 0, 1) := by decide +kernel
theorem dX12_feed_106 : decode cX12_feed 106 = .ok (.dup, 1) := by decide +kernel
theorem dX12_feed_107 : decode cX12_feed 107 = .ok (.getfield 126, 3) := by decide +kernel
theorem dX12_feed_110 : decode cX12_feed 110 = .ok (.iconst 1, 1) := by decide +kernel
theorem dX12_feed_111 : decode cX12_feed 111 = .ok (.iadd, 1) := by decide +kernel
theorem dX12_feed_112 : decode cX12_feed 112 = .ok (.putfield 126, 3) := by decide +kernel
theorem dX12_feed_115 : decode cX12_feed 115 = .ok (.iinc 6 1, 3) := by decide +kernel
theorem dX12_feed_118 : decode cX12_feed 118 = .ok (.goto (-94), 3) := by decide +kernel
theorem dX12_feed_121 : decode cX12_feed 121 = .ok (.aload_n 0, 1) := by decide +kernel
theorem dX12_feed_122 : decode cX12_feed 122 = .ok (.getfield 126, 3) := by decide +kernel
theorem dX12_feed_125 : decode cX12_feed 125 = .ok (.ireturn, 1) := by decide +kernel
theorem dX12_end_0 : decode cX12_end 0 = .ok (.aload_n 0, 1) := by decide +kernel
theorem dX12_end_1 : decode cX12_end 1 = .ok (.iconst 0, 1) := by decide +kernel
theorem dX12_end_2 : decode cX12_end 2 = .ok (.putfield 111, 3) := by decide +kernel
theorem dX12_end_5 : decode cX12_end 5 = .ok (.iload_n 1, 1) := by decide +kernel
theorem dX12_end_6 : decode cX12_end 6 = .ok (.ifCond .lt 18, 3) := by decide +kernel
theorem dX12_end_9 : decode cX12_end 9 = .ok (.iload_n 1, 1) := by decide +kernel
theorem dX12_end_10 : decode cX12_end 10 = .ok (.bipush 20, 2) := by decide +kernel
theorem dX12_end_12 : decode cX12_end 12 = .ok (.if_icmp .gt 12, 3) := by decide +kernel
theorem dX12_end_15 : decode cX12_end 15 = .ok (.aload_n 0, 1) := by decide +kernel
theorem dX12_end_16 : decode cX12_end 16 = .ok (.getfield 126, 3) := by decide +kernel
theorem dX12_end_19 : decode cX12_end 19 = .ok (.bipush 20, 2) := by decide +kernel
theorem dX12_end_21 : decode cX12_end 21 = .ok (.if_icmp .ge 5, 3) := by decide +kernel
theorem dX12_end_24 : decode cX12_end 24 = .ok (.iconst (-1), 1) := by decide +kernel
theorem dX12_end_25 : decode cX12_end 25 = .ok (.ireturn, 1) := by decide +kernel
theorem dX12_end_26 : decode cX12_end 26 = .ok (.aload_n 0, 1) := by decide +kernel
theorem dX12_end_27 : decode cX12_end 27 = .ok (.aload_n 0, 1) := by decide +kernel
theorem dX12_end_28 : decode cX12_end 28 = .ok (.getfield 126, 3) := by decide +kernel
theorem dX12_end_31 : decode cX12_end 31 = .ok (.bipush 20, 2) := by decide +kernel
theorem dX12_end_33 : decode cX12_end 33 = .ok (.isub, 1) := by decide +kernel
theorem dX12_end_34 : decode cX12_end 34 = .ok (.iload_n 1, 1) := by decide +kernel
theorem dX12_end_35 : decode cX12_end 35 = .ok (.iadd, 1) := by decide +kernel
theorem dX12_end_36 : decode cX12_end 36 = .ok (.putfield 126, 3) := by decide +kernel
theorem dX12_end_39 : decode cX12_end 39 = .ok (.aload_n 0, 1) := by decide +kernel
theorem dX12_end_40 : decode cX12_end 40 = .ok (.getfield 126, 3) := by decide +kernel
theorem dX12_end_43 : decode cX12_end 43 = .ok (.ireturn, 1) := by decide +kernel
theorem dX12_octet_0 : decode cX12_octet 0 = .ok (.aload_n 0, 1) := by decide +kernel
theorem dX12_octet_1 : decode cX12_octet 1 = .ok (.iconst 0, 1) := by decide +kernel
theorem dX12_octet_2 : decode cX12_octet 2 = .ok (.putfield 111, 3) := by decide +kernel
theorem dX12_octet_5 : decode cX12_octet 5 = .ok (.aload_n 0, 1) := by decide +kernel
theorem dX12_octet_6 : decode cX12_octet 6 = .ok (.getfield 126, 3) := by decide +kernel
theorem dX12_octet_9 : decode cX12_octet 9 = .ok (.sipush 1500, 3) := by decide +kernel
theorem dX12_octet_12 : decode cX12_octet 12 = .ok (.if_icmp .ne 6, 3) := by decide +kernel
theorem dX12_octet_15 : decode cX12_octet 15 = .ok (.bipush (-3), 2) := by decide +kernel
theorem dX12_octet_17 : decode cX12_octet 17 = .ok (.ireturn, 1) := by decide +kernel
theorem dX12_octet_18 : decode cX12_octet 18 = .ok (.aload_n 0, 1) := by decide +kernel
theorem dX12_octet_19 : decode cX12_octet 19 = .ok (.getfield 28, 3) := by decide +kernel
theorem dX12_octet_22 : decode cX12_octet 22 = .ok (.aload_n 0, 1) := by decide +kernel
theorem dX12_octet_23 : decode cX12_octet 23 = .ok (.getfield 126, 3) := by decide +kernel
theorem dX12_octet_26 : decode cX12_octet 26 = .ok (.iload_n 1, 1) := by decide +kernel
theorem dX12_octet_27 : decode cX12_octet 27 = .ok (.sipush 255, 3) := by decide +kernel
theorem dX12_octet_30 : decode cX12_octet 30 = .ok (.iand, 1) := by decide +kernel
theorem dX12_octet_31 : decode cX12_octet 31 = .ok (.iastore, 1) := by decide +kernel
theorem dX12_octet_32 : decode cX12_octet 32 = .ok (.aload_n 0, 1) := by decide +kernel
theorem dX12_octet_33 : decode cX12_octet 33 = .ok (.dup, 1) := by decide +kernel
theorem dX12_octet_34 : decode cX12_octet 34 = .ok (.getfield 126, 3) := by decide +kernel
theorem dX12_octet_37 : decode cX12_octet 37 = .ok (.iconst 1, 1) := by decide +kernel
theorem dX12_octet_38 : decode cX12_octet 38 = .ok (.iadd, 1) := by decide +kernel
theorem dX12_octet_39 : decode cX12_octet 39 = .ok (.putfield 126, 3) := by decide +kernel
theorem dX12_octet_42 : decode cX12_octet 42 = .ok (.aload_n 0, 1) := by decide +kernel
theorem dX12_octet_43 : decode cX12_octet 43 = .ok (.getfield 126, 3) := by decide +kernel
theorem dX12_octet_46 : decode cX12_octet 46 = .ok (.ireturn, 1) := by decide +kernel
theorem dX12_pass_0 : decode cX12_pass 0 = .ok (.aload_n 0, 1) := by decide +kernel
theorem dX12_pass_1 : decode cX12_pass 1 = .ok (.iconst 0, 1) := by decide +kernel
theorem dX12_pass_2 : decode cX12_pass 2 = .ok (.putfield 111, 3) := by decide +kernel
theorem dX12_pass_5 : decode cX12_pass 5 = .ok (.aload_n 0, 1) := by decide +kernel
theorem dX12_pass_6 : decode cX12_pass 6 = .ok (.getfield 129, 3) := by decide +kernel
theorem dX12_pass_9 : decode cX12_pass 9 = .ok (.sipush 1500, 3) := by decide +kernel
theorem dX12_pass_12 : decode cX12_pass 12 = .ok (.if_icmp .le 6, 3) := by decide +kernel
theorem dX12_pass_15 : decode cX12_pass 15 = .ok (.bipush (-3), 2) := by decide +kernel
theorem dX12_pass_17 : decode cX12_pass 17 = .ok (.ireturn, 1) := by decide +kernel
theorem dX12_pass_18 : decode cX12_pass 18 = .ok (.iconst 0, 1) := by decide +kernel
theorem dX12_pass_19 : decode cX12_pass 19 = .ok (.istore_n 1, 1) := by decide +kernel
theorem dX12_pass_20 : decode cX12_pass 20 = .ok (.iload_n 1, 1) := by decide +kernel
theorem dX12_pass_21 : decode cX12_pass 21 = .ok (.aload_n 0, 1) := by decide +kernel
theorem dX12_pass_22 : decode cX12_pass 22 = .ok (.getfield 129, 3) := by decide +kernel
theorem dX12_pass_25 : decode cX12_pass 25 = .ok (.if_icmp .ge 21, 3) := by decide +kernel
theorem dX12_pass_28 : decode cX12_pass 28 = .ok (.aload_n 0, 1) := by decide +kernel
theorem dX12_pass_29 : decode cX12_pass 29 = .ok (.getfield 28, 3) := by decide +kernel
theorem dX12_pass_32 : decode cX12_pass 32 = .ok (.iload_n 1, 1) := by decide +kernel
theorem dX12_pass_33 : decode cX12_pass 33 = .ok (.aload_n 0, 1) := by decide +kernel
theorem dX12_pass_34 : decode cX12_pass 34 = .ok (.getfield 32, 3) := by decide +kernel
theorem dX12_pass_37 : decode cX12_pass 37 = .ok (.iload_n 1, 1) := by decide +kernel
theorem dX12_pass_38 : decode cX12_pass 38 = .ok (.iaload, 1) := by decide +kernel
theorem dX12_pass_39 : decode cX12_pass 39 = .ok (.iastore, 1) := by decide +kernel
theorem dX12_pass_40 : decode cX12_pass 40 = .ok (.iinc 1 1, 3) := by decide +kernel
theorem dX12_pass_43 : decode cX12_pass 43 = .ok (.goto (-23), 3) := by decide +kernel
theorem dX12_pass_46 : decode cX12_pass 46 = .ok (.aload_n 0, 1) := by decide +kernel
theorem dX12_pass_47 : decode cX12_pass 47 = .ok (.aload_n 0, 1) := by decide +kernel
theorem dX12_pass_48 : decode cX12_pass 48 = .ok (.getfield 129, 3) := by decide +kernel
theorem dX12_pass_51 : decode cX12_pass 51 = .ok (.putfield 126, 3) := by decide +kernel
theorem dX12_pass_54 : decode cX12_pass 54 = .ok (.aload_n 0, 1) := by decide +kernel
theorem dX12_pass_55 : decode cX12_pass 55 = .ok (.getfield 126, 3) := by decide +kernel
theorem dX12_pass_58 : decode cX12_pass 58 = .ok (.ireturn, 1) := by decide +kernel
theorem dX12_out_0 : decode cX12_out 0 = .ok (.aload_n 0, 1) := by decide +kernel
theorem dX12_out_1 : decode cX12_out 1 = .ok (.iload_n 1, 1) := by decide +kernel
theorem dX12_out_2 : decode cX12_out 2 = .ok (.ifCond .lt 11, 3) := by decide +kernel
theorem dX12_out_5 : decode cX12_out 5 = .ok (.iload_n 1, 1) := by decide +kernel
theorem dX12_out_6 : decode cX12_out 6 = .ok (.aload_n 0, 1) := by decide +kernel
theorem dX12_out_7 : decode cX12_out 7 = .ok (.getfield 129, 3) := by decide +kernel
theorem dX12_out_10 : decode cX12_out 10 = .ok (.if_icmp .lt 7, 3) := by decide +kernel
theorem dX12_out_13 : decode cX12_out 13 = .ok (.iconst 1, 1) := by decide +kernel
theorem dX12_out_14 : decode cX12_out 14 = .ok (.goto 4, 3) := by decide +kernel
theorem dX12_out_17 : decode cX12_out 17 = .ok (.iconst 0, 1) := by decide +kernel
theorem dX12_out_18 : decode cX12_out 18 = .ok (.putfield 111, 3) := by decide +kernel
theorem dX12_out_21 : decode cX12_out 21 = .ok (.aload_n 0, 1) := by decide +kernel
theorem dX12_out_22 : decode cX12_out 22 = .ok (.getfield 111, 3) := by decide +kernel
theorem dX12_out_25 : decode cX12_out 25 = .ok (.ifCond .le 7, 3) := by decide +kernel
theorem dX12_out_28 : decode cX12_out 28 = .ok (.iconst 0, 1) := by decide +kernel
theorem dX12_out_29 : decode cX12_out 29 = .ok (.goto 9, 3) := by decide +kernel
theorem dX12_out_32 : decode cX12_out 32 = .ok (.aload_n 0, 1) := by decide +kernel
theorem dX12_out_33 : decode cX12_out 33 = .ok (.getfield 32, 3) := by decide +kernel
theorem dX12_out_36 : decode cX12_out 36 = .ok (.iload_n 1, 1) := by decide +kernel
theorem dX12_out_37 : decode cX12_out 37 = .ok (.iaload, 1) := by decide +kernel
theorem dX12_out_38 : decode cX12_out 38 = .ok (.ireturn, 1) := by decide +kernel
theorem dX12_count_0 : decode cX12_count 0 = .ok (.aload_n 0, 1) := by decide +kernel
theorem dX12_count_1 : decode cX12_count 1 = .ok (.iconst 0, 1) := by decide +kernel
theorem dX12_count_2 : decode cX12_count 2 = .ok (.putfield 111, 3) := by decide +kernel
theorem dX12_count_5 : decode cX12_count 5 = .ok (.iload_n 1, 1) := by decide +kernel
theorem dX12_count_6 : decode cX12_count 6 = .ok (.ifCond .ne 10, 3) := by decide +kernel
theorem dX12_count_9 : decode cX12_count 9 = .ok (.aload_n 0, 1) := by decide +kernel
theorem dX12_count_10 : decode cX12_count 10 = .ok (.getfield 126, 3) := by decide +kernel
theorem dX12_count_13 : decode cX12_count 13 = .ok (.goto 16, 3) := by decide +kernel
theorem dX12_count_16 : decode cX12_count 16 = .ok (.iload_n 1, 1) := by decide +kernel
theorem dX12_count_17 : decode cX12_count 17 = .ok (.iconst 1, 1) := by decide +kernel
theorem dX12_count_18 : decode cX12_count 18 = .ok (.if_icmp .ne 10, 3) := by decide +kernel
theorem dX12_count_21 : decode cX12_count 21 = .ok (.aload_n 0, 1) := by decide +kernel
theorem dX12_count_22 : decode cX12_count 22 = .ok (.getfield 129, 3) := by decide +kernel
theorem dX12_count_25 : decode cX12_count 25 = .ok (.goto 4, 3) := by decide +kernel
theorem dX12_count_28 : decode cX12_count 28 = .ok (.iconst (-1), 1) := by decide +kernel
theorem dX12_count_29 : decode cX12_count 29 = .ok (.ireturn, 1) := by decide +kernel
theorem dX12_begin32_0 : decode cX12_begin32 0 = .ok (.aload_n 0, 1) := by decide +kernel
theorem dX12_begin32_1 : decode cX12_begin32 1 = .ok (.iconst (-1), 1) := by decide +kernel
theorem dX12_begin32_2 : decode cX12_begin32 2 = .ok (.putfield 132, 3) := by decide +kernel
theorem dX12_begin32_5 : decode cX12_begin32 5 = .ok (.return_, 1) := by decide +kernel
theorem dX12_add32_0 : decode cX12_add32 0 = .ok (.aload_n 0, 1) := by decide +kernel
theorem dX12_add32_1 : decode cX12_add32 1 = .ok (.aload_n 0, 1) := by decide +kernel
theorem dX12_add32_2 : decode cX12_add32 2 = .ok (.getfield 132, 3) := by decide +kernel
theorem dX12_add32_5 : decode cX12_add32 5 = .ok (.bipush 8, 2) := by decide +kernel
theorem dX12_add32_7 : decode cX12_add32 7 = .ok (.iushr, 1) := by decide +kernel
theorem dX12_add32_8 : decode cX12_add32 8 = .ok (.aload_n 0, 1) := by decide +kernel
theorem dX12_add32_9 : decode cX12_add32 9 = .ok (.getfield 35, 3) := by decide +kernel
theorem dX12_add32_12 : decode cX12_add32 12 = .ok (.aload_n 0, 1) := by decide +kernel
theorem dX12_add32_13 : decode cX12_add32 13 = .ok (.getfield 132, 3) := by decide +kernel
theorem dX12_add32_16 : decode cX12_add32 16 = .ok (.iload_n 1, 1) := by decide +kernel
theorem dX12_add32_17 : decode cX12_add32 17 = .ok (.ixor, 1) := by decide +kernel
theorem dX12_add32_18 : decode cX12_add32 18 = .ok (.sipush 255, 3) := by decide +kernel
theorem dX12_add32_21 : decode cX12_add32 21 = .ok (.iand, 1) := by decide +kernel
theorem dX12_add32_22 : decode cX12_add32 22 = .ok (.iaload, 1) := by decide +kernel
theorem dX12_add32_23 : decode cX12_add32 23 = .ok (.ixor, 1) := by decide +kernel
theorem dX12_add32_24 : decode cX12_add32 24 = .ok (.putfield 132, 3) := by decide +kernel
theorem dX12_add32_27 : decode cX12_add32 27 = .ok (.return_, 1) := by decide +kernel
theorem dX12_end32_0 : decode cX12_end32 0 = .ok (.aload_n 0, 1) := by decide +kernel
theorem dX12_end32_1 : decode cX12_end32 1 = .ok (.getfield 132, 3) := by decide +kernel
theorem dX12_end32_4 : decode cX12_end32 4 = .ok (.iconst (-1), 1) := by decide +kernel
theorem dX12_end32_5 : decode cX12_end32 5 = .ok (.ixor, 1) := by decide +kernel
theorem dX12_end32_6 : decode cX12_end32 6 = .ok (.ireturn, 1) := by decide +kernel
theorem dX12_add64_0 : decode cX12_add64 0 = .ok (.aload_n 0, 1) := by decide +kernel
theorem dX12_add64_1 : decode cX12_add64 1 = .ok (.aload_n 0, 1) := by decide +kernel
theorem dX12_add64_2 : decode cX12_add64 2 = .ok (.getfield 135, 3) := by decide +kernel
theorem dX12_add64_5 : decode cX12_add64 5 = .ok (.iload_n 1, 1) := by decide +kernel
theorem dX12_add64_6 : decode cX12_add64 6 = .ok (.i2l, 1) := by decide +kernel
theorem dX12_add64_7 : decode cX12_add64 7 = .ok (.lxor, 1) := by decide +kernel
theorem dX12_add64_8 : decode cX12_add64 8 = .ok (.putfield 135, 3) := by decide +kernel
theorem dX12_add64_11 : decode cX12_add64 11 = .ok (.iconst 0, 1) := by decide +kernel
theorem dX12_add64_12 : decode cX12_add64 12 = .ok (.istore_n 2, 1) := by decide +kernel
theorem dX12_add64_13 : decode cX12_add64 13 = .ok (.iload_n 2, 1) := by decide +kernel
theorem dX12_add64_14 : decode cX12_add64 14 = .ok (.bipush 8, 2) := by decide +kernel
theorem dX12_add64_16 : decode cX12_add64 16 = .ok (.if_icmp .ge 43, 3) := by decide +kernel
theorem dX12_add64_19 : decode cX12_add64 19 = .ok (.aload_n 0, 1) := by decide +kernel
theorem dX12_add64_20 : decode cX12_add64 20 = .ok (.aload_n 0, 1) := by decide +kernel
theorem dX12_add64_21 : decode cX12_add64 21 = .ok (.getfield 135, 3) := by decide +kernel
theorem dX12_add64_24 : decode cX12_add64 24 = .ok (.lconst 1, 1) := by decide +kernel
theorem dX12_add64_25 : decode cX12_add64 25 = .ok (.land, 1) := by decide +kernel
theorem dX12_add64_26 : decode cX12_add64 26 = .ok (.lconst 1, 1) := by decide +kernel
theorem dX12_add64_27 : decode cX12_add64 27 = .ok (.lcmp, 1) := by decide +kernel
theorem dX12_add64_28 : decode cX12_add64 28 = .ok (.ifCond .ne 16, 3) := by decide +kernel
theorem dX12_add64_31 : decode cX12_add64 31 = .ok (.aload_n 0, 1) := by decide +kernel
theorem dX12_add64_32 : decode cX12_add64 32 = .ok (.getfield 135, 3) := by decide +kernel
theorem dX12_add64_35 : decode cX12_add64 35 = .ok (.iconst 1, 1) := by decide +kernel
theorem dX12_add64_36 : decode cX12_add64 36 = .ok (.lushr, 1) := by decide +kernel
theorem dX12_add64_37 : decode cX12_add64 37 = .ok (.ldc2_w 139, 3) := by decide +kernel
theorem dX12_add64_40 : decode cX12_add64 40 = .ok (.lxor, 1) := by decide +kernel
theorem dX12_add64_41 : decode cX12_add64 41 = .ok (.goto 9, 3) := by decide +kernel
theorem dX12_add64_44 : decode cX12_add64 44 = .ok (.aload_n 0, 1) := by decide +kernel
theorem dX12_add64_45 : decode cX12_add64 45 = .ok (.getfield 135, 3) := by decide +kernel
theorem dX12_add64_48 : decode cX12_add64 48 = .ok (.iconst 1, 1) := by decide +kernel
theorem dX12_add64_49 : decode cX12_add64 49 = .ok (.lushr, 1) := by decide +kernel
theorem dX12_add64_50 : decode cX12_add64 50 = .ok (.putfield 135, 3) := by decide +kernel
theorem dX12_add64_53 : decode cX12_add64 53 = .ok (.iinc 2 1, 3) := by decide +kernel
theorem dX12_add64_56 : decode cX12_add64 56 = .ok (.goto (-43), 3) := by decide +kernel
theorem dX12_add64_59 : decode cX12_add64 59 = .ok (.return_, 1) := by decide +kernel
theorem dX12_beginSha_0 : decode cX12_beginSha 0 = .ok (.aload_n 0, 1) := by decide +kernel
theorem dX12_beginSha_1 : decode cX12_beginSha 1 = .ok (.getfield 38, 3) := by decide +kernel
theorem dX12_beginSha_4 : decode cX12_beginSha 4 = .ok (.iconst 0, 1) := by decide +kernel
theorem dX12_beginSha_5 : decode cX12_beginSha 5 = .ok (.ldc 141, 2) := by decide +kernel
theorem dX12_beginSha_7 : decode cX12_beginSha 7 = .ok (.iastore, 1) := by decide +kernel
theorem dX12_beginSha_8 : decode cX12_beginSha 8 = .ok (.aload_n 0, 1) := by decide +kernel
theorem dX12_beginSha_9 : decode cX12_beginSha 9 = .ok (.getfield 38, 3) := by decide +kernel
theorem dX12_beginSha_12 : decode cX12_beginSha 12 = .ok (.iconst 1, 1) := by decide +kernel
theorem dX12_beginSha_13 : decode cX12_beginSha 13 = .ok (.ldc 142, 2) := by decide +kernel
theorem dX12_beginSha_15 : decode cX12_beginSha 15 = .ok (.iastore, 1) := by decide +kernel
theorem dX12_beginSha_16 : decode cX12_beginSha 16 = .ok (.aload_n 0, 1) := by decide +kernel
theorem dX12_beginSha_17 : decode cX12_beginSha 17 = .ok (.getfield 38, 3) := by decide +kernel
theorem dX12_beginSha_20 : decode cX12_beginSha 20 = .ok (.iconst 2, 1) := by decide +kernel
theorem dX12_beginSha_21 : decode cX12_beginSha 21 = .ok (.ldc 143, 2) := by decide +kernel
theorem dX12_beginSha_23 : decode cX12_beginSha 23 = .ok (.iastore, 1) := by decide +kernel
theorem dX12_beginSha_24 : decode cX12_beginSha 24 = .ok (.aload_n 0, 1) := by decide +kernel
theorem dX12_beginSha_25 : decode cX12_beginSha 25 = .ok (.getfield 38, 3) := by decide +kernel
theorem dX12_beginSha_28 : decode cX12_beginSha 28 = .ok (.iconst 3, 1) := by decide +kernel
theorem dX12_beginSha_29 : decode cX12_beginSha 29 = .ok (.ldc 144, 2) := by decide +kernel
theorem dX12_beginSha_31 : decode cX12_beginSha 31 = .ok (.iastore, 1) := by decide +kernel
theorem dX12_beginSha_32 : decode cX12_beginSha 32 = .ok (.aload_n 0, 1) := by decide +kernel
theorem dX12_beginSha_33 : decode cX12_beginSha 33 = .ok (.getfield 38, 3) := by decide +kernel
theorem dX12_beginSha_36 : decode cX12_beginSha 36 = .ok (.iconst 4, 1) := by decide +kernel
theorem dX12_beginSha_37 : decode cX12_beginSha 37 = .ok (.ldc 145, 2) := by decide +kernel
theorem dX12_beginSha_39 : decode cX12_beginSha 39 = .ok (.iastore, 1) := by decide +kernel
theorem dX12_beginSha_40 : decode cX12_beginSha 40 = .ok (.aload_n 0, 1) := by decide +kernel
theorem dX12_beginSha_41 : decode cX12_beginSha 41 = .ok (.getfield 38, 3) := by decide +kernel
theorem dX12_beginSha_44 : decode cX12_beginSha 44 = .ok (.iconst 5, 1) := by decide +kernel
theorem dX12_beginSha_45 : decode cX12_beginSha 45 = .ok (.ldc 146, 2) := by decide +kernel
theorem dX12_beginSha_47 : decode cX12_beginSha 47 = .ok (.iastore, 1) := by decide +kernel
theorem dX12_beginSha_48 : decode cX12_beginSha 48 = .ok (.aload_n 0, 1) := by decide +kernel
theorem dX12_beginSha_49 : decode cX12_beginSha 49 = .ok (.getfield 38, 3) := by decide +kernel
theorem dX12_beginSha_52 : decode cX12_beginSha 52 = .ok (.bipush 6, 2) := by decide +kernel
theorem dX12_beginSha_54 : decode cX12_beginSha 54 = .ok (.ldc 147, 2) := by decide +kernel
theorem dX12_beginSha_56 : decode cX12_beginSha 56 = .ok (.iastore, 1) := by decide +kernel
theorem dX12_beginSha_57 : decode cX12_beginSha 57 = .ok (.aload_n 0, 1) := by decide +kernel
theorem dX12_beginSha_58 : decode cX12_beginSha 58 = .ok (.getfield 38, 3) := by decide +kernel
theorem dX12_beginSha_61 : decode cX12_beginSha 61 = .ok (.bipush 7, 2) := by decide +kernel
theorem dX12_beginSha_63 : decode cX12_beginSha 63 = .ok (.ldc 148, 2) := by decide +kernel
theorem dX12_beginSha_65 : decode cX12_beginSha 65 = .ok (.iastore, 1) := by decide +kernel
theorem dX12_beginSha_66 : decode cX12_beginSha 66 = .ok (.aload_n 0, 1) := by decide +kernel
theorem dX12_beginSha_67 : decode cX12_beginSha 67 = .ok (.iconst 0, 1) := by decide +kernel
theorem dX12_beginSha_68 : decode cX12_beginSha 68 = .ok (.putfield 149, 3) := by decide +kernel
theorem dX12_beginSha_71 : decode cX12_beginSha 71 = .ok (.aload_n 0, 1) := by decide +kernel
theorem dX12_beginSha_72 : decode cX12_beginSha 72 = .ok (.lconst 0, 1) := by decide +kernel
theorem dX12_beginSha_73 : decode cX12_beginSha 73 = .ok (.putfield 152, 3) := by decide +kernel
theorem dX12_beginSha_76 : decode cX12_beginSha 76 = .ok (.return_, 1) := by decide +kernel
theorem dX12_addSha_0 : decode cX12_addSha 0 = .ok (.aload_n 0, 1) := by decide +kernel
theorem dX12_addSha_1 : decode cX12_addSha 1 = .ok (.getfield 149, 3) := by decide +kernel
theorem dX12_addSha_4 : decode cX12_addSha 4 = .ok (.iconst 4, 1) := by decide +kernel
theorem dX12_addSha_5 : decode cX12_addSha 5 = .ok (.idiv, 1) := by decide +kernel
theorem dX12_addSha_6 : decode cX12_addSha 6 = .ok (.istore_n 2, 1) := by decide +kernel
theorem dX12_addSha_7 : decode cX12_addSha 7 = .ok (.aload_n 0, 1) := by decide +kernel
theorem dX12_addSha_8 : decode cX12_addSha 8 = .ok (.getfield 41, 3) := by decide +kernel
theorem dX12_addSha_11 : decode cX12_addSha 11 = .ok (.iload_n 2, 1) := by decide +kernel
theorem dX12_addSha_12 : decode cX12_addSha 12 = .ok (.aload_n 0, 1) := by decide +kernel
theorem dX12_addSha_13 : decode cX12_addSha 13 = .ok (.getfield 149, 3) := by decide +kernel
theorem dX12_addSha_16 : decode cX12_addSha 16 = .ok (.iconst 4, 1) := by decide +kernel
theorem dX12_addSha_17 : decode cX12_addSha 17 = .ok (.irem, 1) := by decide +kernel
theorem dX12_addSha_18 : decode cX12_addSha 18 = .ok (.ifCond .ne 10, 3) := by decide +kernel
theorem dX12_addSha_21 : decode cX12_addSha 21 = .ok (.iload_n 1, 1) := by decide +kernel
theorem dX12_addSha_22 : decode cX12_addSha 22 = .ok (.bipush 24, 2) := by decide +kernel
theorem dX12_addSha_24 : decode cX12_addSha 24 = .ok (.ishl, 1) := by decide +kernel
theorem dX12_addSha_25 : decode cX12_addSha 25 = .ok (.goto 24, 3) := by decide +kernel
theorem dX12_addSha_28 : decode cX12_addSha 28 = .ok (.aload_n 0, 1) := by decide +kernel
theorem dX12_addSha_29 : decode cX12_addSha 29 = .ok (.getfield 41, 3) := by decide +kernel
theorem dX12_addSha_32 : decode cX12_addSha 32 = .ok (.iload_n 2, 1) := by decide +kernel
theorem dX12_addSha_33 : decode cX12_addSha 33 = .ok (.iaload, 1) := by decide +kernel
theorem dX12_addSha_34 : decode cX12_addSha 34 = .ok (.iload_n 1, 1) := by decide +kernel
theorem dX12_addSha_35 : decode cX12_addSha 35 = .ok (.bipush 24, 2) := by decide +kernel
theorem dX12_addSha_37 : decode cX12_addSha 37 = .ok (.bipush 8, 2) := by decide +kernel
theorem dX12_addSha_39 : decode cX12_addSha 39 = .ok (.aload_n 0, 1) := by decide +kernel
theorem dX12_addSha_40 : decode cX12_addSha 40 = .ok (.getfield 149, 3) := by decide +kernel
theorem dX12_addSha_43 : decode cX12_addSha 43 = .ok (.iconst 4, 1) := by decide +kernel
theorem dX12_addSha_44 : decode cX12_addSha 44 = .ok (.irem, 1) := by decide +kernel
theorem dX12_addSha_45 : decode cX12_addSha 45 = .ok (.imul, 1) := by decide +kernel
theorem dX12_addSha_46 : decode cX12_addSha 46 = .ok (.isub, 1) := by decide +kernel
theorem dX12_addSha_47 : decode cX12_addSha 47 = .ok (.ishl, 1) := by decide +kernel
theorem dX12_addSha_48 : decode cX12_addSha 48 = .ok (.ior, 1) := by decide +kernel
theorem dX12_addSha_49 : decode cX12_addSha 49 = .ok (.iastore, 1) := by decide +kernel
theorem dX12_addSha_50 : decode cX12_addSha 50 = .ok (.aload_n 0, 1) := by decide +kernel
theorem dX12_addSha_51 : decode cX12_addSha 51 = .ok (.dup, 1) := by decide +kernel
theorem dX12_addSha_52 : decode cX12_addSha 52 = .ok (.getfield 149, 3) := by decide +kernel
theorem dX12_addSha_55 : decode cX12_addSha 55 = .ok (.iconst 1, 1) := by decide +kernel
theorem dX12_addSha_56 : decode cX12_addSha 56 = .ok (.iadd, 1) := by decide +kernel
theorem dX12_addSha_57 : decode cX12_addSha 57 = .ok (.putfield 149, 3) := by decide +kernel
theorem dX12_addSha_60 : decode cX12_addSha 60 = .ok (.aload_n 0, 1) := by decide +kernel
theorem dX12_addSha_61 : decode cX12_addSha 61 = .ok (.dup, 1) := by decide +kernel
theorem dX12_addSha_62 : decode cX12_addSha 62 = .ok (.getfield 152, 3) := by decide +kernel
theorem dX12_addSha_65 : decode cX12_addSha 65 = .ok (.ldc2_w 155, 3) := by decide +kernel
theorem dX12_addSha_68 : decode cX12_addSha 68 = .ok (.ladd, 1) := by decide +kernel
theorem dX12_addSha_69 : decode cX12_addSha 69 = .ok (.putfield 152, 3) := by decide +kernel
theorem dX12_addSha_72 : decode cX12_addSha 72 = .ok (.aload_n 0, 1) := by decide +kernel
theorem dX12_addSha_73 : decode cX12_addSha 73 = .ok (.getfield 149, 3) := by decide +kernel
theorem dX12_addSha_76 : decode cX12_addSha 76 = .ok (.bipush 64, 2) := by decide +kernel
theorem dX12_addSha_78 : decode cX12_addSha 78 = .ok (.if_icmp .ne 12, 3) := by decide +kernel
theorem dX12_addSha_81 : decode cX12_addSha 81 = .ok (.aload_n 0, 1) := by decide +kernel
theorem dX12_addSha_82 : decode cX12_addSha 82 = .ok (.invokevirtual 157, 3) := by decide +kernel
theorem dX12_addSha_85 : decode cX12_addSha 85 = .ok (.aload_n 0, 1) := by decide +kernel
theorem dX12_addSha_86 : decode cX12_addSha 86 = .ok (.iconst 0, 1) := by decide +kernel
theorem dX12_addSha_87 : decode cX12_addSha 87 = .ok (.putfield 149, 3) := by decide +kernel
theorem dX12_addSha_90 : decode cX12_addSha 90 = .ok (.return_, 1) := by decide +kernel
theorem dX12_turned_0 : decode cX12_turned 0 = .ok (.iload_n 0, 1) := by decide +kernel
theorem dX12_turned_1 : decode cX12_turned 1 = .ok (.iload_n 1, 1) := by decide +kernel
theorem dX12_turned_2 : decode cX12_turned 2 = .ok (.iushr, 1) := by decide +kernel
theorem dX12_turned_3 : decode cX12_turned 3 = .ok (.iload_n 0, 1) := by decide +kernel
theorem dX12_turned_4 : decode cX12_turned 4 = .ok (.bipush 32, 2) := by decide +kernel
theorem dX12_turned_6 : decode cX12_turned 6 = .ok (.iload_n 1, 1) := by decide +kernel
theorem dX12_turned_7 : decode cX12_turned 7 = .ok (.isub, 1) := by decide +kernel
theorem dX12_turned_8 : decode cX12_turned 8 = .ok (.ishl, 1) := by decide +kernel
theorem dX12_turned_9 : decode cX12_turned 9 = .ok (.ior, 1) := by decide +kernel
theorem dX12_turned_10 : decode cX12_turned 10 = .ok (.ireturn, 1) := by decide +kernel
theorem dX12_mixSha_0 : decode cX12_mixSha 0 = .ok (.bipush 16, 2) := by decide +kernel
theorem dX12_mixSha_2 : decode cX12_mixSha 2 = .ok (.istore_n 1, 1) := by decide +kernel
theorem dX12_mixSha_3 : decode cX12_mixSha 3 = .ok (.iload_n 1, 1) := by decide +kernel
theorem dX12_mixSha_4 : decode cX12_mixSha 4 = .ok (.bipush 64, 2) := by decide +kernel
theorem dX12_mixSha_6 : decode cX12_mixSha 6 = .ok (.if_icmp .ge 90, 3) := by decide +kernel
theorem dX12_mixSha_9 : decode cX12_mixSha 9 = .ok (.aload_n 0, 1) := by decide +kernel
theorem dX12_mixSha_10 : decode cX12_mixSha 10 = .ok (.getfield 41, 3) := by decide +kernel
theorem dX12_mixSha_13 : decode cX12_mixSha 13 = .ok (.iload_n 1, 1) := by decide +kernel
theorem dX12_mixSha_14 : decode cX12_mixSha 14 = .ok (.bipush 15, 2) := by decide +kernel
theorem dX12_mixSha_16 : decode cX12_mixSha 16 = .ok (.isub, 1) := by decide +kernel
theorem dX12_mixSha_17 : decode cX12_mixSha 17 = .ok (.iaload, 1) := by decide +kernel
theorem dX12_mixSha_18 : decode cX12_mixSha 18 = .ok (.istore_n 2, 1) := by decide +kernel
theorem dX12_mixSha_19 : decode cX12_mixSha 19 = .ok (.aload_n 0, 1) := by decide +kernel
theorem dX12_mixSha_20 : decode cX12_mixSha 20 = .ok (.getfield 41, 3) := by decide +kernel
theorem dX12_mixSha_23 : decode cX12_mixSha 23 = .ok (.iload_n 1, 1) := by decide +kernel
theorem dX12_mixSha_24 : decode cX12_mixSha 24 = .ok (.iconst 2, 1) := by decide +kernel
theorem dX12_mixSha_25 : decode cX12_mixSha 25 = .ok (.isub, 1) := by decide +kernel
theorem dX12_mixSha_26 : decode cX12_mixSha 26 = .ok (.iaload, 1) := by decide +kernel
theorem dX12_mixSha_27 : decode cX12_mixSha 27 = .ok (.istore_n 3, 1) := by decide +kernel
theorem dX12_mixSha_28 : decode cX12_mixSha 28 = .ok (.aload_n 0, 1) := by decide +kernel
theorem dX12_mixSha_29 : decode cX12_mixSha 29 = .ok (.getfield 41, 3) := by decide +kernel
theorem dX12_mixSha_32 : decode cX12_mixSha 32 = .ok (.iload_n 1, 1) := by decide +kernel
theorem dX12_mixSha_33 : decode cX12_mixSha 33 = .ok (.aload_n 0, 1) := by decide +kernel
theorem dX12_mixSha_34 : decode cX12_mixSha 34 = .ok (.getfield 41, 3) := by decide +kernel
theorem dX12_mixSha_37 : decode cX12_mixSha 37 = .ok (.iload_n 1, 1) := by decide +kernel
theorem dX12_mixSha_38 : decode cX12_mixSha 38 = .ok (.bipush 16, 2) := by decide +kernel
theorem dX12_mixSha_40 : decode cX12_mixSha 40 = .ok (.isub, 1) := by decide +kernel
theorem dX12_mixSha_41 : decode cX12_mixSha 41 = .ok (.iaload, 1) := by decide +kernel
theorem dX12_mixSha_42 : decode cX12_mixSha 42 = .ok (.iload_n 2, 1) := by decide +kernel
theorem dX12_mixSha_43 : decode cX12_mixSha 43 = .ok (.bipush 7, 2) := by decide +kernel
theorem dX12_mixSha_45 : decode cX12_mixSha 45 = .ok (.invokestatic 160, 3) := by decide +kernel
theorem dX12_mixSha_48 : decode cX12_mixSha 48 = .ok (.iload_n 2, 1) := by decide +kernel
theorem dX12_mixSha_49 : decode cX12_mixSha 49 = .ok (.bipush 18, 2) := by decide +kernel
theorem dX12_mixSha_51 : decode cX12_mixSha 51 = .ok (.invokestatic 160, 3) := by decide +kernel
theorem dX12_mixSha_54 : decode cX12_mixSha 54 = .ok (.ixor, 1) := by decide +kernel
theorem dX12_mixSha_55 : decode cX12_mixSha 55 = .ok (.iload_n 2, 1) := by decide +kernel
theorem dX12_mixSha_56 : decode cX12_mixSha 56 = .ok (.iconst 3, 1) := by decide +kernel
theorem dX12_mixSha_57 : decode cX12_mixSha 57 = .ok (.iushr, 1) := by decide +kernel
theorem dX12_mixSha_58 : decode cX12_mixSha 58 = .ok (.ixor, 1) := by decide +kernel
theorem dX12_mixSha_59 : decode cX12_mixSha 59 = .ok (.iadd, 1) := by decide +kernel
theorem dX12_mixSha_60 : decode cX12_mixSha 60 = .ok (.aload_n 0, 1) := by decide +kernel
theorem dX12_mixSha_61 : decode cX12_mixSha 61 = .ok (.getfield 41, 3) := by decide +kernel
theorem dX12_mixSha_64 : decode cX12_mixSha 64 = .ok (.iload_n 1, 1) := by decide +kernel
theorem dX12_mixSha_65 : decode cX12_mixSha 65 = .ok (.bipush 7, 2) := by decide +kernel
theorem dX12_mixSha_67 : decode cX12_mixSha 67 = .ok (.isub, 1) := by decide +kernel
theorem dX12_mixSha_68 : decode cX12_mixSha 68 = .ok (.iaload, 1) := by decide +kernel
theorem dX12_mixSha_69 : decode cX12_mixSha 69 = .ok (.iadd, 1) := by decide +kernel
theorem dX12_mixSha_70 : decode cX12_mixSha 70 = .ok (.iload_n 3, 1) := by decide +kernel
theorem dX12_mixSha_71 : decode cX12_mixSha 71 = .ok (.bipush 17, 2) := by decide +kernel
theorem dX12_mixSha_73 : decode cX12_mixSha 73 = .ok (.invokestatic 160, 3) := by decide +kernel
theorem dX12_mixSha_76 : decode cX12_mixSha 76 = .ok (.iload_n 3, 1) := by decide +kernel
theorem dX12_mixSha_77 : decode cX12_mixSha 77 = .ok (.bipush 19, 2) := by decide +kernel
theorem dX12_mixSha_79 : decode cX12_mixSha 79 = .ok (.invokestatic 160, 3) := by decide +kernel
theorem dX12_mixSha_82 : decode cX12_mixSha 82 = .ok (.ixor, 1) := by decide +kernel
theorem dX12_mixSha_83 : decode cX12_mixSha 83 = .ok (.iload_n 3, 1) := by decide +kernel
theorem dX12_mixSha_84 : decode cX12_mixSha 84 = .ok (.bipush 10, 2) := by decide +kernel
theorem dX12_mixSha_86 : decode cX12_mixSha 86 = .ok (.iushr, 1) := by decide +kernel
theorem dX12_mixSha_87 : decode cX12_mixSha 87 = .ok (.ixor, 1) := by decide +kernel
theorem dX12_mixSha_88 : decode cX12_mixSha 88 = .ok (.iadd, 1) := by decide +kernel
theorem dX12_mixSha_89 : decode cX12_mixSha 89 = .ok (.iastore, 1) := by decide +kernel
theorem dX12_mixSha_90 : decode cX12_mixSha 90 = .ok (.iinc 1 1, 3) := by decide +kernel
theorem dX12_mixSha_93 : decode cX12_mixSha 93 = .ok (.goto (-90), 3) := by decide +kernel
theorem dX12_mixSha_96 : decode cX12_mixSha 96 = .ok (.aload_n 0, 1) := by decide +kernel
theorem dX12_mixSha_97 : decode cX12_mixSha 97 = .ok (.getfield 38, 3) := by decide +kernel
theorem dX12_mixSha_100 : decode cX12_mixSha 100 = .ok (.iconst 0, 1) := by decide +kernel
theorem dX12_mixSha_101 : decode cX12_mixSha 101 = .ok (.iaload, 1) := by decide +kernel
theorem dX12_mixSha_102 : decode cX12_mixSha 102 = .ok (.istore_n 1, 1) := by decide +kernel
theorem dX12_mixSha_103 : decode cX12_mixSha 103 = .ok (.aload_n 0, 1) := by decide +kernel
theorem dX12_mixSha_104 : decode cX12_mixSha 104 = .ok (.getfield 38, 3) := by decide +kernel
theorem dX12_mixSha_107 : decode cX12_mixSha 107 = .ok (.iconst 1, 1) := by decide +kernel
theorem dX12_mixSha_108 : decode cX12_mixSha 108 = .ok (.iaload, 1) := by decide +kernel
theorem dX12_mixSha_109 : decode cX12_mixSha 109 = .ok (.istore_n 2, 1) := by decide +kernel
theorem dX12_mixSha_110 : decode cX12_mixSha 110 = .ok (.aload_n 0, 1) := by decide +kernel
theorem dX12_mixSha_111 : decode cX12_mixSha 111 = .ok (.getfield 38, 3) := by decide +kernel
theorem dX12_mixSha_114 : decode cX12_mixSha 114 = .ok (.iconst 2, 1) := by decide +kernel
theorem dX12_mixSha_115 : decode cX12_mixSha 115 = .ok (.iaload, 1) := by decide +kernel
theorem dX12_mixSha_116 : decode cX12_mixSha 116 = .ok (.istore_n 3, 1) := by decide +kernel
theorem dX12_mixSha_117 : decode cX12_mixSha 117 = .ok (.aload_n 0, 1) := by decide +kernel
theorem dX12_mixSha_118 : decode cX12_mixSha 118 = .ok (.getfield 38, 3) := by decide +kernel
theorem dX12_mixSha_121 : decode cX12_mixSha 121 = .ok (.iconst 3, 1) := by decide +kernel
theorem dX12_mixSha_122 : decode cX12_mixSha 122 = .ok (.iaload, 1) := by decide +kernel
theorem dX12_mixSha_123 : decode cX12_mixSha 123 = .ok (.istore 4, 2) := by decide +kernel
theorem dX12_mixSha_125 : decode cX12_mixSha 125 = .ok (.aload_n 0, 1) := by decide +kernel
theorem dX12_mixSha_126 : decode cX12_mixSha 126 = .ok (.getfield 38, 3) := by decide +kernel
theorem dX12_mixSha_129 : decode cX12_mixSha 129 = .ok (.iconst 4, 1) := by decide +kernel
theorem dX12_mixSha_130 : decode cX12_mixSha 130 = .ok (.iaload, 1) := by decide +kernel
theorem dX12_mixSha_131 : decode cX12_mixSha 131 = .ok (.istore 5, 2) := by decide +kernel
theorem dX12_mixSha_133 : decode cX12_mixSha 133 = .ok (.aload_n 0, 1) := by decide +kernel
theorem dX12_mixSha_134 : decode cX12_mixSha 134 = .ok (.getfield 38, 3) := by decide +kernel
theorem dX12_mixSha_137 : decode cX12_mixSha 137 = .ok (.iconst 5, 1) := by decide +kernel
theorem dX12_mixSha_138 : decode cX12_mixSha 138 = .ok (.iaload, 1) := by decide +kernel
theorem dX12_mixSha_139 : decode cX12_mixSha 139 = .ok (.istore 6, 2) := by decide +kernel
theorem dX12_mixSha_141 : decode cX12_mixSha 141 = .ok (.aload_n 0, 1) := by decide +kernel
theorem dX12_mixSha_142 : decode cX12_mixSha 142 = .ok (.getfield 38, 3) := by decide +kernel
theorem dX12_mixSha_145 : decode cX12_mixSha 145 = .ok (.bipush 6, 2) := by decide +kernel
theorem dX12_mixSha_147 : decode cX12_mixSha 147 = .ok (.iaload, 1) := by decide +kernel
theorem dX12_mixSha_148 : decode cX12_mixSha 148 = .ok (.istore 7, 2) := by decide +kernel
theorem dX12_mixSha_150 : decode cX12_mixSha 150 = .ok (.aload_n 0, 1) := by decide +kernel
theorem dX12_mixSha_151 : decode cX12_mixSha 151 = .ok (.getfield 38, 3) := by decide +kernel
theorem dX12_mixSha_154 : decode cX12_mixSha 154 = .ok (.bipush 7, 2) := by decide +kernel
theorem dX12_mixSha_156 : decode cX12_mixSha 156 = .ok (.iaload, 1) := by decide +kernel
theorem dX12_mixSha_157 : decode cX12_mixSha 157 = .ok (.istore 8, 2) := by decide +kernel
theorem dX12_mixSha_159 : decode cX12_mixSha 159 = .ok (.iconst 0, 1) := by decide +kernel
theorem dX12_mixSha_160 : decode cX12_mixSha 160 = .ok (.istore 9, 2) := by decide +kernel
theorem dX12_mixSha_162 : decode cX12_mixSha 162 = .ok (.iload 9, 2) := by decide +kernel
theorem dX12_mixSha_164 : decode cX12_mixSha 164 = .ok (.bipush 64, 2) := by decide +kernel
theorem dX12_mixSha_166 : decode cX12_mixSha 166 = .ok (.if_icmp .ge 131, 3) := by decide +kernel
theorem dX12_mixSha_169 : decode cX12_mixSha 169 = .ok (.iload 8, 2) := by decide +kernel
theorem dX12_mixSha_171 : decode cX12_mixSha 171 = .ok (.iload 5, 2) := by decide +kernel
theorem dX12_mixSha_173 : decode cX12_mixSha 173 = .ok (.bipush 6, 2) := by decide +kernel
theorem dX12_mixSha_175 : decode cX12_mixSha 175 = .ok (.invokestatic 160, 3) := by decide +kernel
theorem dX12_mixSha_178 : decode cX12_mixSha 178 = .ok (.iload 5, 2) := by decide +kernel
theorem dX12_mixSha_180 : decode cX12_mixSha 180 = .ok (.bipush 11, 2) := by decide +kernel
theorem dX12_mixSha_182 : decode cX12_mixSha 182 = .ok (.invokestatic 160, 3) := by decide +kernel
theorem dX12_mixSha_185 : decode cX12_mixSha 185 = .ok (.ixor, 1) := by decide +kernel
theorem dX12_mixSha_186 : decode cX12_mixSha 186 = .ok (.iload 5, 2) := by decide +kernel
theorem dX12_mixSha_188 : decode cX12_mixSha 188 = .ok (.bipush 25, 2) := by decide +kernel
theorem dX12_mixSha_190 : decode cX12_mixSha 190 = .ok (.invokestatic 160, 3) := by decide +kernel
theorem dX12_mixSha_193 : decode cX12_mixSha 193 = .ok (.ixor, 1) := by decide +kernel
theorem dX12_mixSha_194 : decode cX12_mixSha 194 = .ok (.iadd, 1) := by decide +kernel
theorem dX12_mixSha_195 : decode cX12_mixSha 195 = .ok (.iload 5, 2) := by decide +kernel
theorem dX12_mixSha_197 : decode cX12_mixSha 197 = .ok (.iload 6, 2) := by decide +kernel
theorem dX12_mixSha_199 : decode cX12_mixSha 199 = .ok (.iand, 1) := by decide +kernel
theorem dX12_mixSha_200 : decode cX12_mixSha 200 = .ok (.iload 5, 2) := by decide +kernel
theorem dX12_mixSha_202 : decode cX12_mixSha 202 = .ok (.iconst (-1), 1) := by decide +kernel
theorem dX12_mixSha_203 : decode cX12_mixSha 203 = .ok (.ixor, 1) := by decide +kernel
theorem dX12_mixSha_204 : decode cX12_mixSha 204 = .ok (.iload 7, 2) := by decide +kernel
theorem dX12_mixSha_206 : decode cX12_mixSha 206 = .ok (.iand, 1) := by decide +kernel
theorem dX12_mixSha_207 : decode cX12_mixSha 207 = .ok (.ixor, 1) := by decide +kernel
theorem dX12_mixSha_208 : decode cX12_mixSha 208 = .ok (.iadd, 1) := by decide +kernel
theorem dX12_mixSha_209 : decode cX12_mixSha 209 = .ok (.getstatic 164, 3) := by decide +kernel
theorem dX12_mixSha_212 : decode cX12_mixSha 212 = .ok (.iload 9, 2) := by decide +kernel
theorem dX12_mixSha_214 : decode cX12_mixSha 214 = .ok (.iaload, 1) := by decide +kernel
theorem dX12_mixSha_215 : decode cX12_mixSha 215 = .ok (.iadd, 1) := by decide +kernel
theorem dX12_mixSha_216 : decode cX12_mixSha 216 = .ok (.aload_n 0, 1) := by decide +kernel
theorem dX12_mixSha_217 : decode cX12_mixSha 217 = .ok (.getfield 41, 3) := by decide +kernel
theorem dX12_mixSha_220 : decode cX12_mixSha 220 = .ok (.iload 9, 2) := by decide +kernel
theorem dX12_mixSha_222 : decode cX12_mixSha 222 = .ok (.iaload, 1) := by decide +kernel
theorem dX12_mixSha_223 : decode cX12_mixSha 223 = .ok (.iadd, 1) := by decide +kernel
theorem dX12_mixSha_224 : decode cX12_mixSha 224 = .ok (.istore 10, 2) := by decide +kernel
theorem dX12_mixSha_226 : decode cX12_mixSha 226 = .ok (.iload_n 1, 1) := by decide +kernel
theorem dX12_mixSha_227 : decode cX12_mixSha 227 = .ok (.iconst 2, 1) := by decide +kernel
theorem dX12_mixSha_228 : decode cX12_mixSha 228 = .ok (.invokestatic 160, 3) := by decide +kernel
theorem dX12_mixSha_231 : decode cX12_mixSha 231 = .ok (.iload_n 1, 1) := by decide +kernel
theorem dX12_mixSha_232 : decode cX12_mixSha 232 = .ok (.bipush 13, 2) := by decide +kernel
theorem dX12_mixSha_234 : decode cX12_mixSha 234 = .ok (.invokestatic 160, 3) := by decide +kernel
theorem dX12_mixSha_237 : decode cX12_mixSha 237 = .ok (.ixor, 1) := by decide +kernel
theorem dX12_mixSha_238 : decode cX12_mixSha 238 = .ok (.iload_n 1, 1) := by decide +kernel
theorem dX12_mixSha_239 : decode cX12_mixSha 239 = .ok (.bipush 22, 2) := by decide +kernel
theorem dX12_mixSha_241 : decode cX12_mixSha 241 = .ok (.invokestatic 160, 3) := by decide +kernel
theorem dX12_mixSha_244 : decode cX12_mixSha 244 = .ok (.ixor, 1) := by decide +kernel
theorem dX12_mixSha_245 : decode cX12_mixSha 245 = .ok (.iload_n 1, 1) := by decide +kernel
theorem dX12_mixSha_246 : decode cX12_mixSha 246 = .ok (.iload_n 2, 1) := by decide +kernel
theorem dX12_mixSha_247 : decode cX12_mixSha 247 = .ok (.iand, 1) := by decide +kernel
theorem dX12_mixSha_248 : decode cX12_mixSha 248 = .ok (.iload_n 1, 1) := by decide +kernel
theorem dX12_mixSha_249 : decode cX12_mixSha 249 = .ok (.iload_n 3, 1) := by decide +kernel
theorem dX12_mixSha_250 : decode cX12_mixSha 250 = .ok (.iand, 1) := by decide +kernel
theorem dX12_mixSha_251 : decode cX12_mixSha 251 = .ok (.ixor, 1) := by decide +kernel
theorem dX12_mixSha_252 : decode cX12_mixSha 252 = .ok (.iload_n 2, 1) := by decide +kernel
theorem dX12_mixSha_253 : decode cX12_mixSha 253 = .ok (.iload_n 3, 1) := by decide +kernel
theorem dX12_mixSha_254 : decode cX12_mixSha 254 = .ok (.iand, 1) := by decide +kernel
theorem dX12_mixSha_255 : decode cX12_mixSha 255 = .ok (.ixor, 1) := by decide +kernel
theorem dX12_mixSha_256 : decode cX12_mixSha 256 = .ok (.iadd, 1) := by decide +kernel
theorem dX12_mixSha_257 : decode cX12_mixSha 257 = .ok (.istore 11, 2) := by decide +kernel
theorem dX12_mixSha_259 : decode cX12_mixSha 259 = .ok (.iload 7, 2) := by decide +kernel
theorem dX12_mixSha_261 : decode cX12_mixSha 261 = .ok (.istore 8, 2) := by decide +kernel
theorem dX12_mixSha_263 : decode cX12_mixSha 263 = .ok (.iload 6, 2) := by decide +kernel
theorem dX12_mixSha_265 : decode cX12_mixSha 265 = .ok (.istore 7, 2) := by decide +kernel
theorem dX12_mixSha_267 : decode cX12_mixSha 267 = .ok (.iload 5, 2) := by decide +kernel
theorem dX12_mixSha_269 : decode cX12_mixSha 269 = .ok (.istore 6, 2) := by decide +kernel
theorem dX12_mixSha_271 : decode cX12_mixSha 271 = .ok (.iload 4, 2) := by decide +kernel
theorem dX12_mixSha_273 : decode cX12_mixSha 273 = .ok (.iload 10, 2) := by decide +kernel
theorem dX12_mixSha_275 : decode cX12_mixSha 275 = .ok (.iadd, 1) := by decide +kernel
theorem dX12_mixSha_276 : decode cX12_mixSha 276 = .ok (.istore 5, 2) := by decide +kernel
theorem dX12_mixSha_278 : decode cX12_mixSha 278 = .ok (.iload_n 3, 1) := by decide +kernel
theorem dX12_mixSha_279 : decode cX12_mixSha 279 = .ok (.istore 4, 2) := by decide +kernel
theorem dX12_mixSha_281 : decode cX12_mixSha 281 = .ok (.iload_n 2, 1) := by decide +kernel
theorem dX12_mixSha_282 : decode cX12_mixSha 282 = .ok (.istore_n 3, 1) := by decide +kernel
theorem dX12_mixSha_283 : decode cX12_mixSha 283 = .ok (.iload_n 1, 1) := by decide +kernel
theorem dX12_mixSha_284 : decode cX12_mixSha 284 = .ok (.istore_n 2, 1) := by decide +kernel
theorem dX12_mixSha_285 : decode cX12_mixSha 285 = .ok (.iload 10, 2) := by decide +kernel
theorem dX12_mixSha_287 : decode cX12_mixSha 287 = .ok (.iload 11, 2) := by decide +kernel
theorem dX12_mixSha_289 : decode cX12_mixSha 289 = .ok (.iadd, 1) := by decide +kernel
theorem dX12_mixSha_290 : decode cX12_mixSha 290 = .ok (.istore_n 1, 1) := by decide +kernel
theorem dX12_mixSha_291 : decode cX12_mixSha 291 = .ok (.iinc 9 1, 3) := by decide +kernel
theorem dX12_mixSha_294 : decode cX12_mixSha 294 = .ok (.goto (-132), 3) := by decide +kernel
theorem dX12_mixSha_297 : decode cX12_mixSha 297 = .ok (.aload_n 0, 1) := by decide +kernel
theorem dX12_mixSha_298 : decode cX12_mixSha 298 = .ok (.getfield 38, 3) := by decide +kernel
theorem dX12_mixSha_301 : decode cX12_mixSha 301 = .ok (.iconst 0, 1) := by decide +kernel
theorem dX12_mixSha_302 : decode cX12_mixSha 302 = .ok (.dup2, 1) := by decide +kernel
theorem dX12_mixSha_303 : decode cX12_mixSha 303 = .ok (.iaload, 1) := by decide +kernel
theorem dX12_mixSha_304 : decode cX12_mixSha 304 = .ok (.iload_n 1, 1) := by decide +kernel
theorem dX12_mixSha_305 : decode cX12_mixSha 305 = .ok (.iadd, 1) := by decide +kernel
theorem dX12_mixSha_306 : decode cX12_mixSha 306 = .ok (.iastore, 1) := by decide +kernel
theorem dX12_mixSha_307 : decode cX12_mixSha 307 = .ok (.aload_n 0, 1) := by decide +kernel
theorem dX12_mixSha_308 : decode cX12_mixSha 308 = .ok (.getfield 38, 3) := by decide +kernel
theorem dX12_mixSha_311 : decode cX12_mixSha 311 = .ok (.iconst 1, 1) := by decide +kernel
theorem dX12_mixSha_312 : decode cX12_mixSha 312 = .ok (.dup2, 1) := by decide +kernel
theorem dX12_mixSha_313 : decode cX12_mixSha 313 = .ok (.iaload, 1) := by decide +kernel
theorem dX12_mixSha_314 : decode cX12_mixSha 314 = .ok (.iload_n 2, 1) := by decide +kernel
theorem dX12_mixSha_315 : decode cX12_mixSha 315 = .ok (.iadd, 1) := by decide +kernel
theorem dX12_mixSha_316 : decode cX12_mixSha 316 = .ok (.iastore, 1) := by decide +kernel
theorem dX12_mixSha_317 : decode cX12_mixSha 317 = .ok (.aload_n 0, 1) := by decide +kernel
theorem dX12_mixSha_318 : decode cX12_mixSha 318 = .ok (.getfield 38, 3) := by decide +kernel
theorem dX12_mixSha_321 : decode cX12_mixSha 321 = .ok (.iconst 2, 1) := by decide +kernel
theorem dX12_mixSha_322 : decode cX12_mixSha 322 = .ok (.dup2, 1) := by decide +kernel
theorem dX12_mixSha_323 : decode cX12_mixSha 323 = .ok (.iaload, 1) := by decide +kernel
theorem dX12_mixSha_324 : decode cX12_mixSha 324 = .ok (.iload_n 3, 1) := by decide +kernel
theorem dX12_mixSha_325 : decode cX12_mixSha 325 = .ok (.iadd, 1) := by decide +kernel
theorem dX12_mixSha_326 : decode cX12_mixSha 326 = .ok (.iastore, 1) := by decide +kernel
theorem dX12_mixSha_327 : decode cX12_mixSha 327 = .ok (.aload_n 0, 1) := by decide +kernel
theorem dX12_mixSha_328 : decode cX12_mixSha 328 = .ok (.getfield 38, 3) := by decide +kernel
theorem dX12_mixSha_331 : decode cX12_mixSha 331 = .ok (.iconst 3, 1) := by decide +kernel
theorem dX12_mixSha_332 : decode cX12_mixSha 332 = .ok (.dup2, 1) := by decide +kernel
theorem dX12_mixSha_333 : decode cX12_mixSha 333 = .ok (.iaload, 1) := by decide +kernel
theorem dX12_mixSha_334 : decode cX12_mixSha 334 = .ok (.iload 4, 2) := by decide +kernel
theorem dX12_mixSha_336 : decode cX12_mixSha 336 = .ok (.iadd, 1) := by decide +kernel
theorem dX12_mixSha_337 : decode cX12_mixSha 337 = .ok (.iastore, 1) := by decide +kernel
theorem dX12_mixSha_338 : decode cX12_mixSha 338 = .ok (.aload_n 0, 1) := by decide +kernel
theorem dX12_mixSha_339 : decode cX12_mixSha 339 = .ok (.getfield 38, 3) := by decide +kernel
theorem dX12_mixSha_342 : decode cX12_mixSha 342 = .ok (.iconst 4, 1) := by decide +kernel
theorem dX12_mixSha_343 : decode cX12_mixSha 343 = .ok (.dup2, 1) := by decide +kernel
theorem dX12_mixSha_344 : decode cX12_mixSha 344 = .ok (.iaload, 1) := by decide +kernel
theorem dX12_mixSha_345 : decode cX12_mixSha 345 = .ok (.iload 5, 2) := by decide +kernel
theorem dX12_mixSha_347 : decode cX12_mixSha 347 = .ok (.iadd, 1) := by decide +kernel
theorem dX12_mixSha_348 : decode cX12_mixSha 348 = .ok (.iastore, 1) := by decide +kernel
theorem dX12_mixSha_349 : decode cX12_mixSha 349 = .ok (.aload_n 0, 1) := by decide +kernel
theorem dX12_mixSha_350 : decode cX12_mixSha 350 = .ok (.getfield 38, 3) := by decide +kernel
theorem dX12_mixSha_353 : decode cX12_mixSha 353 = .ok (.iconst 5, 1) := by decide +kernel
theorem dX12_mixSha_354 : decode cX12_mixSha 354 = .ok (.dup2, 1) := by decide +kernel
theorem dX12_mixSha_355 : decode cX12_mixSha 355 = .ok (.iaload, 1) := by decide +kernel
theorem dX12_mixSha_356 : decode cX12_mixSha 356 = .ok (.iload 6, 2) := by decide +kernel
theorem dX12_mixSha_358 : decode cX12_mixSha 358 = .ok (.iadd, 1) := by decide +kernel
theorem dX12_mixSha_359 : decode cX12_mixSha 359 = .ok (.iastore, 1) := by decide +kernel
theorem dX12_mixSha_360 : decode cX12_mixSha 360 = .ok (.aload_n 0, 1) := by decide +kernel
theorem dX12_mixSha_361 : decode cX12_mixSha 361 = .ok (.getfield 38, 3) := by decide +kernel
theorem dX12_mixSha_364 : decode cX12_mixSha 364 = .ok (.bipush 6, 2) := by decide +kernel
theorem dX12_mixSha_366 : decode cX12_mixSha 366 = .ok (.dup2, 1) := by decide +kernel
theorem dX12_mixSha_367 : decode cX12_mixSha 367 = .ok (.iaload, 1) := by decide +kernel
theorem dX12_mixSha_368 : decode cX12_mixSha 368 = .ok (.iload 7, 2) := by decide +kernel
theorem dX12_mixSha_370 : decode cX12_mixSha 370 = .ok (.iadd, 1) := by decide +kernel
theorem dX12_mixSha_371 : decode cX12_mixSha 371 = .ok (.iastore, 1) := by decide +kernel
theorem dX12_mixSha_372 : decode cX12_mixSha 372 = .ok (.aload_n 0, 1) := by decide +kernel
theorem dX12_mixSha_373 : decode cX12_mixSha 373 = .ok (.getfield 38, 3) := by decide +kernel
theorem dX12_mixSha_376 : decode cX12_mixSha 376 = .ok (.bipush 7, 2) := by decide +kernel
theorem dX12_mixSha_378 : decode cX12_mixSha 378 = .ok (.dup2, 1) := by decide +kernel
theorem dX12_mixSha_379 : decode cX12_mixSha 379 = .ok (.iaload, 1) := by decide +kernel
theorem dX12_mixSha_380 : decode cX12_mixSha 380 = .ok (.iload 8, 2) := by decide +kernel
theorem dX12_mixSha_382 : decode cX12_mixSha 382 = .ok (.iadd, 1) := by decide +kernel
theorem dX12_mixSha_383 : decode cX12_mixSha 383 = .ok (.iastore, 1) := by decide +kernel
theorem dX12_mixSha_384 : decode cX12_mixSha 384 = .ok (.return_, 1) := by decide +kernel
theorem dX12_endSha_0 : decode cX12_endSha 0 = .ok (.aload_n 0, 1) := by decide +kernel
theorem dX12_endSha_1 : decode cX12_endSha 1 = .ok (.getfield 152, 3) := by decide +kernel
theorem dX12_endSha_4 : decode cX12_endSha 4 = .ok (.lstore_n 1, 1) := by decide +kernel
theorem dX12_endSha_5 : decode cX12_endSha 5 = .ok (.aload_n 0, 1) := by decide +kernel
theorem dX12_endSha_6 : decode cX12_endSha 6 = .ok (.sipush 128, 3) := by decide +kernel
theorem dX12_endSha_9 : decode cX12_endSha 9 = .ok (.invokevirtual 167, 3) := by decide +kernel
theorem dX12_endSha_12 : decode cX12_endSha 12 = .ok (.aload_n 0, 1) := by decide +kernel
theorem dX12_endSha_13 : decode cX12_endSha 13 = .ok (.getfield 149, 3) := by decide +kernel
theorem dX12_endSha_16 : decode cX12_endSha 16 = .ok (.bipush 56, 2) := by decide +kernel
theorem dX12_endSha_18 : decode cX12_endSha 18 = .ok (.if_icmp .eq 11, 3) := by decide +kernel
theorem dX12_endSha_21 : decode cX12_endSha 21 = .ok (.aload_n 0, 1) := by decide +kernel
theorem dX12_endSha_22 : decode cX12_endSha 22 = .ok (.iconst 0, 1) := by decide +kernel
theorem dX12_endSha_23 : decode cX12_endSha 23 = .ok (.invokevirtual 167, 3) := by decide +kernel
theorem dX12_endSha_26 : decode cX12_endSha 26 = .ok (.goto (-14), 3) := by decide +kernel
theorem dX12_endSha_29 : decode cX12_endSha 29 = .ok (.bipush 56, 2) := by decide +kernel
theorem dX12_endSha_31 : decode cX12_endSha 31 = .ok (.istore_n 3, 1) := by decide +kernel
theorem dX12_endSha_32 : decode cX12_endSha 32 = .ok (.iload_n 3, 1) := by decide +kernel
theorem dX12_endSha_33 : decode cX12_endSha 33 = .ok (.ifCond .lt 21, 3) := by decide +kernel
theorem dX12_endSha_36 : decode cX12_endSha 36 = .ok (.aload_n 0, 1) := by decide +kernel
theorem dX12_endSha_37 : decode cX12_endSha 37 = .ok (.lload_n 1, 1) := by decide +kernel
theorem dX12_endSha_38 : decode cX12_endSha 38 = .ok (.iload_n 3, 1) := by decide +kernel
theorem dX12_endSha_39 : decode cX12_endSha 39 = .ok (.lshr, 1) := by decide +kernel
theorem dX12_endSha_40 : decode cX12_endSha 40 = .ok (.l2i, 1) := by decide +kernel
theorem dX12_endSha_41 : decode cX12_endSha 41 = .ok (.sipush 255, 3) := by decide +kernel
theorem dX12_endSha_44 : decode cX12_endSha 44 = .ok (.iand, 1) := by decide +kernel
theorem dX12_endSha_45 : decode cX12_endSha 45 = .ok (.invokevirtual 167, 3) := by decide +kernel
theorem dX12_endSha_48 : decode cX12_endSha 48 = .ok (.iinc 3 (-8), 3) := by decide +kernel
theorem dX12_endSha_51 : decode cX12_endSha 51 = .ok (.goto (-19), 3) := by decide +kernel
theorem dX12_endSha_54 : decode cX12_endSha 54 = .ok (.return_, 1) := by decide +kernel
theorem dX12_checkSize_0 : decode cX12_checkSize 0 = .ok (.iload_n 0, 1) := by decide +kernel
theorem dX12_checkSize_1 : decode cX12_checkSize 1 = .ok (.iconst 1, 1) := by decide +kernel
theorem dX12_checkSize_2 : decode cX12_checkSize 2 = .ok (.if_icmp .ne 7, 3) := by decide +kernel
theorem dX12_checkSize_5 : decode cX12_checkSize 5 = .ok (.iconst 4, 1) := by decide +kernel
theorem dX12_checkSize_6 : decode cX12_checkSize 6 = .ok (.goto 25, 3) := by decide +kernel
theorem dX12_checkSize_9 : decode cX12_checkSize 9 = .ok (.iload_n 0, 1) := by decide +kernel
theorem dX12_checkSize_10 : decode cX12_checkSize 10 = .ok (.iconst 4, 1) := by decide +kernel
theorem dX12_checkSize_11 : decode cX12_checkSize 11 = .ok (.if_icmp .ne 8, 3) := by decide +kernel
theorem dX12_checkSize_14 : decode cX12_checkSize 14 = .ok (.bipush 8, 2) := by decide +kernel
theorem dX12_checkSize_16 : decode cX12_checkSize 16 = .ok (.goto 15, 3) := by decide +kernel
theorem dX12_checkSize_19 : decode cX12_checkSize 19 = .ok (.iload_n 0, 1) := by decide +kernel
theorem dX12_checkSize_20 : decode cX12_checkSize 20 = .ok (.bipush 10, 2) := by decide +kernel
theorem dX12_checkSize_22 : decode cX12_checkSize 22 = .ok (.if_icmp .ne 8, 3) := by decide +kernel
theorem dX12_checkSize_25 : decode cX12_checkSize 25 = .ok (.bipush 32, 2) := by decide +kernel
theorem dX12_checkSize_27 : decode cX12_checkSize 27 = .ok (.goto 4, 3) := by decide +kernel
theorem dX12_checkSize_30 : decode cX12_checkSize 30 = .ok (.iconst 0, 1) := by decide +kernel
theorem dX12_checkSize_31 : decode cX12_checkSize 31 = .ok (.ireturn, 1) := by decide +kernel
theorem dX12_beginCheck_0 : decode cX12_beginCheck 0 = .ok (.aload_n 0, 1) := by decide +kernel
theorem dX12_beginCheck_1 : decode cX12_beginCheck 1 = .ok (.iload_n 1, 1) := by decide +kernel
theorem dX12_beginCheck_2 : decode cX12_beginCheck 2 = .ok (.putfield 171, 3) := by decide +kernel
theorem dX12_beginCheck_5 : decode cX12_beginCheck 5 = .ok (.aload_n 0, 1) := by decide +kernel
theorem dX12_beginCheck_6 : decode cX12_beginCheck 6 = .ok (.invokevirtual 174, 3) := by decide +kernel
theorem dX12_beginCheck_9 : decode cX12_beginCheck 9 = .ok (.aload_n 0, 1) := by decide +kernel
theorem dX12_beginCheck_10 : decode cX12_beginCheck 10 = .ok (.ldc2_w 177, 3) := by decide +kernel
theorem dX12_beginCheck_13 : decode cX12_beginCheck 13 = .ok (.putfield 135, 3) := by decide +kernel
theorem dX12_beginCheck_16 : decode cX12_beginCheck 16 = .ok (.aload_n 0, 1) := by decide +kernel
theorem dX12_beginCheck_17 : decode cX12_beginCheck 17 = .ok (.invokevirtual 179, 3) := by decide +kernel
theorem dX12_beginCheck_20 : decode cX12_beginCheck 20 = .ok (.return_, 1) := by decide +kernel
theorem dX12_addCheck_0 : decode cX12_addCheck 0 = .ok (.aload_n 0, 1) := by decide +kernel
theorem dX12_addCheck_1 : decode cX12_addCheck 1 = .ok (.getfield 171, 3) := by decide +kernel
theorem dX12_addCheck_4 : decode cX12_addCheck 4 = .ok (.iconst 1, 1) := by decide +kernel
theorem dX12_addCheck_5 : decode cX12_addCheck 5 = .ok (.if_icmp .ne 11, 3) := by decide +kernel
theorem dX12_addCheck_8 : decode cX12_addCheck 8 = .ok (.aload_n 0, 1) := by decide +kernel
theorem dX12_addCheck_9 : decode cX12_addCheck 9 = .ok (.iload_n 1, 1) := by decide +kernel
theorem dX12_addCheck_10 : decode cX12_addCheck 10 = .ok (.invokevirtual 182, 3) := by decide +kernel
theorem dX12_addCheck_13 : decode cX12_addCheck 13 = .ok (.goto 33, 3) := by decide +kernel
theorem dX12_addCheck_16 : decode cX12_addCheck 16 = .ok (.aload_n 0, 1) := by decide +kernel
theorem dX12_addCheck_17 : decode cX12_addCheck 17 = .ok (.getfield 171, 3) := by decide +kernel
theorem dX12_addCheck_20 : decode cX12_addCheck 20 = .ok (.iconst 4, 1) := by decide +kernel
theorem dX12_addCheck_21 : decode cX12_addCheck 21 = .ok (.if_icmp .ne 11, 3) := by decide +kernel
theorem dX12_addCheck_24 : decode cX12_addCheck 24 = .ok (.aload_n 0, 1) := by decide +kernel
theorem dX12_addCheck_25 : decode cX12_addCheck 25 = .ok (.iload_n 1, 1) := by decide +kernel
theorem dX12_addCheck_26 : decode cX12_addCheck 26 = .ok (.invokevirtual 185, 3) := by decide +kernel
theorem dX12_addCheck_29 : decode cX12_addCheck 29 = .ok (.goto 17, 3) := by decide +kernel
theorem dX12_addCheck_32 : decode cX12_addCheck 32 = .ok (.aload_n 0, 1) := by decide +kernel
theorem dX12_addCheck_33 : decode cX12_addCheck 33 = .ok (.getfield 171, 3) := by decide +kernel
theorem dX12_addCheck_36 : decode cX12_addCheck 36 = .ok (.bipush 10, 2) := by decide +kernel
theorem dX12_addCheck_38 : decode cX12_addCheck 38 = .ok (.if_icmp .ne 8, 3) := by decide +kernel
theorem dX12_addCheck_41 : decode cX12_addCheck 41 = .ok (.aload_n 0, 1) := by decide +kernel
theorem dX12_addCheck_42 : decode cX12_addCheck 42 = .ok (.iload_n 1, 1) := by decide +kernel
theorem dX12_addCheck_43 : decode cX12_addCheck 43 = .ok (.invokevirtual 167, 3) := by decide +kernel
theorem dX12_addCheck_46 : decode cX12_addCheck 46 = .ok (.return_, 1) := by decide +kernel
theorem dX12_endCheck_0 : decode cX12_endCheck 0 = .ok (.aload_n 0, 1) := by decide +kernel
theorem dX12_endCheck_1 : decode cX12_endCheck 1 = .ok (.getfield 171, 3) := by decide +kernel
theorem dX12_endCheck_4 : decode cX12_endCheck 4 = .ok (.bipush 10, 2) := by decide +kernel
theorem dX12_endCheck_6 : decode cX12_endCheck 6 = .ok (.if_icmp .ne 7, 3) := by decide +kernel
theorem dX12_endCheck_9 : decode cX12_endCheck 9 = .ok (.aload_n 0, 1) := by decide +kernel
theorem dX12_endCheck_10 : decode cX12_endCheck 10 = .ok (.invokevirtual 188, 3) := by decide +kernel
theorem dX12_endCheck_13 : decode cX12_endCheck 13 = .ok (.iconst 0, 1) := by decide +kernel
theorem dX12_endCheck_14 : decode cX12_endCheck 14 = .ok (.istore_n 1, 1) := by decide +kernel
theorem dX12_endCheck_15 : decode cX12_endCheck 15 = .ok (.iload_n 1, 1) := by decide +kernel
theorem dX12_endCheck_16 : decode cX12_endCheck 16 = .ok (.aload_n 0, 1) := by decide +kernel
theorem dX12_endCheck_17 : decode cX12_endCheck 17 = .ok (.getfield 171, 3) := by decide +kernel
theorem dX12_endCheck_20 : decode cX12_endCheck 20 = .ok (.invokestatic 191, 3) := by decide +kernel
theorem dX12_endCheck_23 : decode cX12_endCheck 23 = .ok (.if_icmp .ge 90, 3) := by decide +kernel
theorem dX12_endCheck_26 : decode cX12_endCheck 26 = .ok (.aload_n 0, 1) := by decide +kernel
theorem dX12_endCheck_27 : decode cX12_endCheck 27 = .ok (.getfield 44, 3) := by decide +kernel
theorem dX12_endCheck_30 : decode cX12_endCheck 30 = .ok (.iload_n 1, 1) := by decide +kernel
theorem dX12_endCheck_31 : decode cX12_endCheck 31 = .ok (.aload_n 0, 1) := by decide +kernel
theorem dX12_endCheck_32 : decode cX12_endCheck 32 = .ok (.getfield 171, 3) := by decide +kernel
theorem dX12_endCheck_35 : decode cX12_endCheck 35 = .ok (.iconst 1, 1) := by decide +kernel
theorem dX12_endCheck_36 : decode cX12_endCheck 36 = .ok (.if_icmp .ne 19, 3) := by decide +kernel
theorem dX12_endCheck_39 : decode cX12_endCheck 39 = .ok (.aload_n 0, 1) := by decide +kernel
theorem dX12_endCheck_40 : decode cX12_endCheck 40 = .ok (.invokevirtual 195, 3) := by decide +kernel
theorem dX12_endCheck_43 : decode cX12_endCheck 43 = .ok (.bipush 8, 2) := by decide +kernel
theorem dX12_endCheck_45 : decode cX12_endCheck 45 = .ok (.iload_n 1, 1) := by decide +kernel
theorem dX12_endCheck_46 : decode cX12_endCheck 46 = .ok (.imul, 1) := by decide +kernel
theorem dX12_endCheck_47 : decode cX12_endCheck 47 = .ok (.ishr, 1) := by decide +kernel
theorem dX12_endCheck_48 : decode cX12_endCheck 48 = .ok (.sipush 255, 3) := by decide +kernel
theorem dX12_endCheck_51 : decode cX12_endCheck 51 = .ok (.iand, 1) := by decide +kernel
theorem dX12_endCheck_52 : decode cX12_endCheck 52 = .ok (.goto 54, 3) := by decide +kernel
theorem dX12_endCheck_55 : decode cX12_endCheck 55 = .ok (.aload_n 0, 1) := by decide +kernel
theorem dX12_endCheck_56 : decode cX12_endCheck 56 = .ok (.getfield 171, 3) := by decide +kernel
theorem dX12_endCheck_59 : decode cX12_endCheck 59 = .ok (.iconst 4, 1) := by decide +kernel
theorem dX12_endCheck_60 : decode cX12_endCheck 60 = .ok (.if_icmp .ne 24, 3) := by decide +kernel
theorem dX12_endCheck_63 : decode cX12_endCheck 63 = .ok (.aload_n 0, 1) := by decide +kernel
theorem dX12_endCheck_64 : decode cX12_endCheck 64 = .ok (.getfield 135, 3) := by decide +kernel
theorem dX12_endCheck_67 : decode cX12_endCheck 67 = .ok (.ldc2_w 177, 3) := by decide +kernel
theorem dX12_endCheck_70 : decode cX12_endCheck 70 = .ok (.lxor, 1) := by decide +kernel
theorem dX12_endCheck_71 : decode cX12_endCheck 71 = .ok (.bipush 8, 2) := by decide +kernel
theorem dX12_endCheck_73 : decode cX12_endCheck 73 = .ok (.iload_n 1, 1) := by decide +kernel
theorem dX12_endCheck_74 : decode cX12_endCheck 74 = .ok (.imul, 1) := by decide +kernel
theorem dX12_endCheck_75 : decode cX12_endCheck 75 = .ok (.lshr, 1) := by decide +kernel
theorem dX12_endCheck_76 : decode cX12_endCheck 76 = .ok (.l2i, 1) := by decide +kernel
theorem dX12_endCheck_77 : decode cX12_endCheck 77 = .ok (.sipush 255, 3) := by decide +kernel
theorem dX12_endCheck_80 : decode cX12_endCheck 80 = .ok (.iand, 1) := by decide +kernel
theorem dX12_endCheck_81 : decode cX12_endCheck 81 = .ok (.goto 25, 3) := by decide +kernel
theorem dX12_endCheck_84 : decode cX12_endCheck 84 = .ok (.aload_n 0, 1) := by decide +kernel
theorem dX12_endCheck_85 : decode cX12_endCheck 85 = .ok (.getfield 38, 3) := by decide +kernel
theorem dX12_endCheck_88 : decode cX12_endCheck 88 = .ok (.iload_n 1, 1) := by decide +kernel
theorem dX12_endCheck_89 : decode cX12_endCheck 89 = .ok (.iconst 4, 1) := by decide +kernel
theorem dX12_endCheck_90 : decode cX12_endCheck 90 = .ok (.idiv, 1) := by decide +kernel
theorem dX12_endCheck_91 : decode cX12_endCheck 91 = .ok (.iaload, 1) := by decide +kernel
theorem dX12_endCheck_92 : decode cX12_endCheck 92 = .ok (.bipush 24, 2) := by decide +kernel
theorem dX12_endCheck_94 : decode cX12_endCheck 94 = .ok (.bipush 8, 2) := by decide +kernel
theorem dX12_endCheck_96 : decode cX12_endCheck 96 = .ok (.iload_n 1, 1) := by decide +kernel
theorem dX12_endCheck_97 : decode cX12_endCheck 97 = .ok (.iconst 4, 1) := by decide +kernel
theorem dX12_endCheck_98 : decode cX12_endCheck 98 = .ok (.irem, 1) := by decide +kernel
theorem dX12_endCheck_99 : decode cX12_endCheck 99 = .ok (.imul, 1) := by decide +kernel
theorem dX12_endCheck_100 : decode cX12_endCheck 100 = .ok (.isub, 1) := by decide +kernel
theorem dX12_endCheck_101 : decode cX12_endCheck 101 = .ok (.ishr, 1) := by decide +kernel
theorem dX12_endCheck_102 : decode cX12_endCheck 102 = .ok (.sipush 255, 3) := by decide +kernel
theorem dX12_endCheck_105 : decode cX12_endCheck 105 = .ok (.iand, 1) := by decide +kernel
theorem dX12_endCheck_106 : decode cX12_endCheck 106 = .ok (.iastore, 1) := by decide +kernel
theorem dX12_endCheck_107 : decode cX12_endCheck 107 = .ok (.iinc 1 1, 3) := by decide +kernel
theorem dX12_endCheck_110 : decode cX12_endCheck 110 = .ok (.goto (-95), 3) := by decide +kernel
theorem dX12_endCheck_113 : decode cX12_endCheck 113 = .ok (.return_, 1) := by decide +kernel
theorem dX12_check_0 : decode cX12_check 0 = .ok (.aload_n 0, 1) := by decide +kernel
theorem dX12_check_1 : decode cX12_check 1 = .ok (.iconst 0, 1) := by decide +kernel
theorem dX12_check_2 : decode cX12_check 2 = .ok (.putfield 111, 3) := by decide +kernel
theorem dX12_check_5 : decode cX12_check 5 = .ok (.iload_n 2, 1) := by decide +kernel
theorem dX12_check_6 : decode cX12_check 6 = .ok (.ifCond .lt 13, 3) := by decide +kernel
theorem dX12_check_9 : decode cX12_check 9 = .ok (.iload_n 2, 1) := by decide +kernel
theorem dX12_check_10 : decode cX12_check 10 = .ok (.iload_n 1, 1) := by decide +kernel
theorem dX12_check_11 : decode cX12_check 11 = .ok (.invokestatic 191, 3) := by decide +kernel
theorem dX12_check_14 : decode cX12_check 14 = .ok (.iconst 4, 1) := by decide +kernel
theorem dX12_check_15 : decode cX12_check 15 = .ok (.idiv, 1) := by decide +kernel
theorem dX12_check_16 : decode cX12_check 16 = .ok (.if_icmp .lt 5, 3) := by decide +kernel
theorem dX12_check_19 : decode cX12_check 19 = .ok (.iconst (-1), 1) := by decide +kernel
theorem dX12_check_20 : decode cX12_check 20 = .ok (.ireturn, 1) := by decide +kernel
theorem dX12_check_21 : decode cX12_check 21 = .ok (.aload_n 0, 1) := by decide +kernel
theorem dX12_check_22 : decode cX12_check 22 = .ok (.iload_n 1, 1) := by decide +kernel
theorem dX12_check_23 : decode cX12_check 23 = .ok (.invokevirtual 199, 3) := by decide +kernel
theorem dX12_check_26 : decode cX12_check 26 = .ok (.iconst 0, 1) := by decide +kernel
theorem dX12_check_27 : decode cX12_check 27 = .ok (.istore_n 3, 1) := by decide +kernel
theorem dX12_check_28 : decode cX12_check 28 = .ok (.iload_n 3, 1) := by decide +kernel
theorem dX12_check_29 : decode cX12_check 29 = .ok (.aload_n 0, 1) := by decide +kernel
theorem dX12_check_30 : decode cX12_check 30 = .ok (.getfield 129, 3) := by decide +kernel
theorem dX12_check_33 : decode cX12_check 33 = .ok (.if_icmp .ge 19, 3) := by decide +kernel
theorem dX12_check_36 : decode cX12_check 36 = .ok (.aload_n 0, 1) := by decide +kernel
theorem dX12_check_37 : decode cX12_check 37 = .ok (.aload_n 0, 1) := by decide +kernel
theorem dX12_check_38 : decode cX12_check 38 = .ok (.getfield 32, 3) := by decide +kernel
theorem dX12_check_41 : decode cX12_check 41 = .ok (.iload_n 3, 1) := by decide +kernel
theorem dX12_check_42 : decode cX12_check 42 = .ok (.iaload, 1) := by decide +kernel
theorem dX12_check_43 : decode cX12_check 43 = .ok (.invokevirtual 202, 3) := by decide +kernel
theorem dX12_check_46 : decode cX12_check 46 = .ok (.iinc 3 1, 3) := by decide +kernel
theorem dX12_check_49 : decode cX12_check 49 = .ok (.goto (-21), 3) := by decide +kernel
theorem dX12_check_52 : decode cX12_check 52 = .ok (.aload_n 0, 1) := by decide +kernel
theorem dX12_check_53 : decode cX12_check 53 = .ok (.invokevirtual 205, 3) := by decide +kernel
theorem dX12_check_56 : decode cX12_check 56 = .ok (.iconst 0, 1) := by decide +kernel
theorem dX12_check_57 : decode cX12_check 57 = .ok (.istore_n 3, 1) := by decide +kernel
theorem dX12_check_58 : decode cX12_check 58 = .ok (.iconst 0, 1) := by decide +kernel
theorem dX12_check_59 : decode cX12_check 59 = .ok (.istore 4, 2) := by decide +kernel
theorem dX12_check_61 : decode cX12_check 61 = .ok (.iload 4, 2) := by decide +kernel
theorem dX12_check_63 : decode cX12_check 63 = .ok (.iconst 4, 1) := by decide +kernel
theorem dX12_check_64 : decode cX12_check 64 = .ok (.if_icmp .ge 46, 3) := by decide +kernel
theorem dX12_check_67 : decode cX12_check 67 = .ok (.iload_n 3, 1) := by decide +kernel
theorem dX12_check_68 : decode cX12_check 68 = .ok (.aload_n 0, 1) := by decide +kernel
theorem dX12_check_69 : decode cX12_check 69 = .ok (.getfield 44, 3) := by decide +kernel
theorem dX12_check_72 : decode cX12_check 72 = .ok (.iconst 4, 1) := by decide +kernel
theorem dX12_check_73 : decode cX12_check 73 = .ok (.iload_n 2, 1) := by decide +kernel
theorem dX12_check_74 : decode cX12_check 74 = .ok (.imul, 1) := by decide +kernel
theorem dX12_check_75 : decode cX12_check 75 = .ok (.iload 4, 2) := by decide +kernel
theorem dX12_check_77 : decode cX12_check 77 = .ok (.iadd, 1) := by decide +kernel
theorem dX12_check_78 : decode cX12_check 78 = .ok (.iaload, 1) := by decide +kernel
theorem dX12_check_79 : decode cX12_check 79 = .ok (.iload_n 1, 1) := by decide +kernel
theorem dX12_check_80 : decode cX12_check 80 = .ok (.bipush 10, 2) := by decide +kernel
theorem dX12_check_82 : decode cX12_check 82 = .ok (.if_icmp .ne 14, 3) := by decide +kernel
theorem dX12_check_85 : decode cX12_check 85 = .ok (.bipush 24, 2) := by decide +kernel
theorem dX12_check_87 : decode cX12_check 87 = .ok (.bipush 8, 2) := by decide +kernel
theorem dX12_check_89 : decode cX12_check 89 = .ok (.iload 4, 2) := by decide +kernel
theorem dX12_check_91 : decode cX12_check 91 = .ok (.imul, 1) := by decide +kernel
theorem dX12_check_92 : decode cX12_check 92 = .ok (.isub, 1) := by decide +kernel
theorem dX12_check_93 : decode cX12_check 93 = .ok (.goto 8, 3) := by decide +kernel
theorem dX12_check_96 : decode cX12_check 96 = .ok (.bipush 8, 2) := by decide +kernel
theorem dX12_check_98 : decode cX12_check 98 = .ok (.iload 4, 2) := by decide +kernel
theorem dX12_check_100 : decode cX12_check 100 = .ok (.imul, 1) := by decide +kernel
theorem dX12_check_101 : decode cX12_check 101 = .ok (.ishl, 1) := by decide +kernel
theorem dX12_check_102 : decode cX12_check 102 = .ok (.ior, 1) := by decide +kernel
theorem dX12_check_103 : decode cX12_check 103 = .ok (.istore_n 3, 1) := by decide +kernel
theorem dX12_check_104 : decode cX12_check 104 = .ok (.iinc 4 1, 3) := by decide +kernel
theorem dX12_check_107 : decode cX12_check 107 = .ok (.goto (-46), 3) := by decide +kernel
theorem dX12_check_110 : decode cX12_check 110 = .ok (.iload_n 3, 1) := by decide +kernel
theorem dX12_check_111 : decode cX12_check 111 = .ok (.ireturn, 1) := by decide +kernel
theorem dX12_deltaAway_0 : decode cX12_deltaAway 0 = .ok (.aload_n 0, 1) := by decide +kernel
