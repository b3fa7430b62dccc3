theorem dL_cell_0 : decode cL_cell 0 = .ok (.iload_n 1, 1) := by decide +kernel
theorem dL_cell_1 : decode cL_cell 1 = .ok (.aload_n 0, 1) := by decide +kernel
theorem dL_cell_2 : decode cL_cell 2 = .ok (.arraylength, 1) := by decide +kernel
theorem dL_cell_3 : decode cL_cell 3 = .ok (.if_icmp .ge 9, 3) := by decide +kernel
theorem dL_cell_6 : decode cL_cell 6 = .ok (.aload_n 0, 1) := by decide +kernel
theorem dL_cell_7 : decode cL_cell 7 = .ok (.iload_n 1, 1) := by decide +kernel
theorem dL_cell_8 : decode cL_cell 8 = .ok (.iaload, 1) := by decide +kernel
theorem dL_cell_9 : decode cL_cell 9 = .ok (.goto 4, 3) := by decide +kernel
theorem dL_cell_12 : decode cL_cell 12 = .ok (.iconst 0, 1) := by decide +kernel
theorem dL_cell_13 : decode cL_cell 13 = .ok (.ireturn, 1) := by decide +kernel
theorem dL_encoding_0 : decode cL_encoding 0 = .ok (.aload 5, 2) := by decide +kernel
theorem dL_encoding_2 : decode cL_encoding 2 = .ok (.iconst 0, 1) := by decide +kernel
theorem dL_encoding_3 : decode cL_encoding 3 = .ok (.aload_n 0, 1) := by decide +kernel
theorem dL_encoding_4 : decode cL_encoding 4 = .ok (.lload_n 1, 1) := by decide +kernel
theorem dL_encoding_5 : decode cL_encoding 5 = .ok (.lload_n 3, 1) := by decide +kernel
theorem dL_encoding_6 : decode cL_encoding 6 = .ok (.invokevirtual 7, 3) := by decide +kernel
theorem dL_encoding_9 : decode cL_encoding 9 = .ok (.i2l, 1) := by decide +kernel
theorem dL_encoding_10 : decode cL_encoding 10 = .ok (.lastore, 1) := by decide +kernel
theorem dL_encoding_11 : decode cL_encoding 11 = .ok (.goto 11, 3) := by decide +kernel
theorem dL_encoding_14 : decode cL_encoding 14 = .ok (.astore 6, 2) := by decide +kernel
theorem dL_encoding_16 : decode cL_encoding 16 = .ok (.iconst 1, 1) := by decide +kernel
theorem dL_encoding_17 : decode cL_encoding 17 = .ok (.ireturn, 1) := by decide +kernel
theorem dL_encoding_18 : decode cL_encoding 18 = .ok (.astore 6, 2) := by decide +kernel
theorem dL_encoding_20 : decode cL_encoding 20 = .ok (.iconst 2, 1) := by decide +kernel
theorem dL_encoding_21 : decode cL_encoding 21 = .ok (.ireturn, 1) := by decide +kernel
theorem dL_encoding_22 : decode cL_encoding 22 = .ok (.iconst 0, 1) := by decide +kernel
theorem dL_encoding_23 : decode cL_encoding 23 = .ok (.ireturn, 1) := by decide +kernel
theorem dL_condition_0 : decode cL_condition 0 = .ok (.aload 6, 2) := by decide +kernel
theorem dL_condition_2 : decode cL_condition 2 = .ok (.iconst 0, 1) := by decide +kernel
theorem dL_condition_3 : decode cL_condition 3 = .ok (.aload_n 0, 1) := by decide +kernel
theorem dL_condition_4 : decode cL_condition 4 = .ok (.iload_n 1, 1) := by decide +kernel
theorem dL_condition_5 : decode cL_condition 5 = .ok (.iload_n 2, 1) := by decide +kernel
theorem dL_condition_6 : decode cL_condition 6 = .ok (.iload_n 3, 1) := by decide +kernel
theorem dL_condition_7 : decode cL_condition 7 = .ok (.iload 4, 2) := by decide +kernel
theorem dL_condition_9 : decode cL_condition 9 = .ok (.iload 5, 2) := by decide +kernel
theorem dL_condition_11 : decode cL_condition 11 = .ok (.invokevirtual 17, 3) := by decide +kernel
theorem dL_condition_14 : decode cL_condition 14 = .ok (.ifCond .eq 7, 3) := by decide +kernel
theorem dL_condition_17 : decode cL_condition 17 = .ok (.lconst 1, 1) := by decide +kernel
theorem dL_condition_18 : decode cL_condition 18 = .ok (.goto 4, 3) := by decide +kernel
theorem dL_condition_21 : decode cL_condition 21 = .ok (.lconst 0, 1) := by decide +kernel
theorem dL_condition_22 : decode cL_condition 22 = .ok (.lastore, 1) := by decide +kernel
theorem dL_condition_23 : decode cL_condition 23 = .ok (.goto 15, 3) := by decide +kernel
theorem dL_condition_26 : decode cL_condition 26 = .ok (.astore 7, 2) := by decide +kernel
theorem dL_condition_28 : decode cL_condition 28 = .ok (.iconst 1, 1) := by decide +kernel
theorem dL_condition_29 : decode cL_condition 29 = .ok (.ireturn, 1) := by decide +kernel
theorem dL_condition_30 : decode cL_condition 30 = .ok (.astore 7, 2) := by decide +kernel
theorem dL_condition_32 : decode cL_condition 32 = .ok (.iconst 2, 1) := by decide +kernel
theorem dL_condition_33 : decode cL_condition 33 = .ok (.ireturn, 1) := by decide +kernel
theorem dL_condition_34 : decode cL_condition 34 = .ok (.astore 7, 2) := by decide +kernel
theorem dL_condition_36 : decode cL_condition 36 = .ok (.iconst 3, 1) := by decide +kernel
theorem dL_condition_37 : decode cL_condition 37 = .ok (.ireturn, 1) := by decide +kernel
theorem dL_condition_38 : decode cL_condition 38 = .ok (.iconst 0, 1) := by decide +kernel
theorem dL_condition_39 : decode cL_condition 39 = .ok (.ireturn, 1) := by decide +kernel
theorem dL_operand_0 : decode cL_operand 0 = .ok (.aload 4, 2) := by decide +kernel
theorem dL_operand_2 : decode cL_operand 2 = .ok (.iconst 0, 1) := by decide +kernel
theorem dL_operand_3 : decode cL_operand 3 = .ok (.aload_n 0, 1) := by decide +kernel
theorem dL_operand_4 : decode cL_operand 4 = .ok (.iload_n 1, 1) := by decide +kernel
theorem dL_operand_5 : decode cL_operand 5 = .ok (.iload_n 2, 1) := by decide +kernel
theorem dL_operand_6 : decode cL_operand 6 = .ok (.iload_n 3, 1) := by decide +kernel
theorem dL_operand_7 : decode cL_operand 7 = .ok (.invokevirtual 23, 3) := by decide +kernel
theorem dL_operand_10 : decode cL_operand 10 = .ok (.i2l, 1) := by decide +kernel
theorem dL_operand_11 : decode cL_operand 11 = .ok (.lastore, 1) := by decide +kernel
theorem dL_operand_12 : decode cL_operand 12 = .ok (.goto 11, 3) := by decide +kernel
theorem dL_operand_15 : decode cL_operand 15 = .ok (.astore 5, 2) := by decide +kernel
theorem dL_operand_17 : decode cL_operand 17 = .ok (.iconst 1, 1) := by decide +kernel
theorem dL_operand_18 : decode cL_operand 18 = .ok (.ireturn, 1) := by decide +kernel
theorem dL_operand_19 : decode cL_operand 19 = .ok (.astore 5, 2) := by decide +kernel
theorem dL_operand_21 : decode cL_operand 21 = .ok (.iconst 2, 1) := by decide +kernel
theorem dL_operand_22 : decode cL_operand 22 = .ok (.ireturn, 1) := by decide +kernel
theorem dL_operand_23 : decode cL_operand 23 = .ok (.iconst 0, 1) := by decide +kernel
theorem dL_operand_24 : decode cL_operand 24 = .ok (.ireturn, 1) := by decide +kernel
theorem dL_needs_0 : decode cL_needs 0 = .ok (.aload_n 3, 1) := by decide +kernel
theorem dL_needs_1 : decode cL_needs 1 = .ok (.iconst 0, 1) := by decide +kernel
theorem dL_needs_2 : decode cL_needs 2 = .ok (.aload_n 0, 1) := by decide +kernel
theorem dL_needs_3 : decode cL_needs 3 = .ok (.iload_n 1, 1) := by decide +kernel
theorem dL_needs_4 : decode cL_needs 4 = .ok (.iload_n 2, 1) := by decide +kernel
theorem dL_needs_5 : decode cL_needs 5 = .ok (.invokevirtual 27, 3) := by decide +kernel
theorem dL_needs_8 : decode cL_needs 8 = .ok (.i2l, 1) := by decide +kernel
theorem dL_needs_9 : decode cL_needs 9 = .ok (.lastore, 1) := by decide +kernel
theorem dL_needs_10 : decode cL_needs 10 = .ok (.goto 11, 3) := by decide +kernel
theorem dL_needs_13 : decode cL_needs 13 = .ok (.astore 4, 2) := by decide +kernel
theorem dL_needs_15 : decode cL_needs 15 = .ok (.iconst 1, 1) := by decide +kernel
theorem dL_needs_16 : decode cL_needs 16 = .ok (.ireturn, 1) := by decide +kernel
theorem dL_needs_17 : decode cL_needs 17 = .ok (.astore 4, 2) := by decide +kernel
theorem dL_needs_19 : decode cL_needs 19 = .ok (.iconst 2, 1) := by decide +kernel
theorem dL_needs_20 : decode cL_needs 20 = .ok (.ireturn, 1) := by decide +kernel
theorem dL_needs_21 : decode cL_needs 21 = .ok (.iconst 0, 1) := by decide +kernel
theorem dL_needs_22 : decode cL_needs 22 = .ok (.ireturn, 1) := by decide +kernel
theorem dL_pair_0 : decode cL_pair 0 = .ok (.aload_n 3, 1) := by decide +kernel
theorem dL_pair_1 : decode cL_pair 1 = .ok (.iconst 0, 1) := by decide +kernel
theorem dL_pair_2 : decode cL_pair 2 = .ok (.aload_n 0, 1) := by decide +kernel
theorem dL_pair_3 : decode cL_pair 3 = .ok (.iload_n 1, 1) := by decide +kernel
theorem dL_pair_4 : decode cL_pair 4 = .ok (.iload_n 2, 1) := by decide +kernel
theorem dL_pair_5 : decode cL_pair 5 = .ok (.invokevirtual 31, 3) := by decide +kernel
theorem dL_pair_8 : decode cL_pair 8 = .ok (.i2l, 1) := by decide +kernel
theorem dL_pair_9 : decode cL_pair 9 = .ok (.lastore, 1) := by decide +kernel
theorem dL_pair_10 : decode cL_pair 10 = .ok (.goto 7, 3) := by decide +kernel
theorem dL_pair_13 : decode cL_pair 13 = .ok (.astore 4, 2) := by decide +kernel
theorem dL_pair_15 : decode cL_pair 15 = .ok (.iconst 1, 1) := by decide +kernel
theorem dL_pair_16 : decode cL_pair 16 = .ok (.ireturn, 1) := by decide +kernel
theorem dL_pair_17 : decode cL_pair 17 = .ok (.iconst 0, 1) := by decide +kernel
theorem dL_pair_18 : decode cL_pair 18 = .ok (.ireturn, 1) := by decide +kernel
theorem dL_alias_0 : decode cL_alias 0 = .ok (.aload_n 3, 1) := by decide +kernel
theorem dL_alias_1 : decode cL_alias 1 = .ok (.iconst 0, 1) := by decide +kernel
theorem dL_alias_2 : decode cL_alias 2 = .ok (.aload_n 0, 1) := by decide +kernel
theorem dL_alias_3 : decode cL_alias 3 = .ok (.iload_n 1, 1) := by decide +kernel
theorem dL_alias_4 : decode cL_alias 4 = .ok (.iload_n 2, 1) := by decide +kernel
theorem dL_alias_5 : decode cL_alias 5 = .ok (.invokevirtual 34, 3) := by decide +kernel
theorem dL_alias_8 : decode cL_alias 8 = .ok (.i2l, 1) := by decide +kernel
theorem dL_alias_9 : decode cL_alias 9 = .ok (.lastore, 1) := by decide +kernel
theorem dL_alias_10 : decode cL_alias 10 = .ok (.goto 7, 3) := by decide +kernel
theorem dL_alias_13 : decode cL_alias 13 = .ok (.astore 4, 2) := by decide +kernel
theorem dL_alias_15 : decode cL_alias 15 = .ok (.iconst 1, 1) := by decide +kernel
theorem dL_alias_16 : decode cL_alias 16 = .ok (.ireturn, 1) := by decide +kernel
theorem dL_alias_17 : decode cL_alias 17 = .ok (.iconst 0, 1) := by decide +kernel
theorem dL_alias_18 : decode cL_alias 18 = .ok (.ireturn, 1) := by decide +kernel
theorem dL_clashes_0 : decode cL_clashes 0 = .ok (.aload_n 2, 1) := by decide +kernel
theorem dL_clashes_1 : decode cL_clashes 1 = .ok (.iconst 0, 1) := by decide +kernel
theorem dL_clashes_2 : decode cL_clashes 2 = .ok (.aload_n 0, 1) := by decide +kernel
theorem dL_clashes_3 : decode cL_clashes 3 = .ok (.iload_n 1, 1) := by decide +kernel
theorem dL_clashes_4 : decode cL_clashes 4 = .ok (.invokevirtual 37, 3) := by decide +kernel
theorem dL_clashes_7 : decode cL_clashes 7 = .ok (.i2l, 1) := by decide +kernel
theorem dL_clashes_8 : decode cL_clashes 8 = .ok (.lastore, 1) := by decide +kernel
theorem dL_clashes_9 : decode cL_clashes 9 = .ok (.goto 6, 3) := by decide +kernel
theorem dL_clashes_12 : decode cL_clashes 12 = .ok (.astore_n 3, 1) := by decide +kernel
theorem dL_clashes_13 : decode cL_clashes 13 = .ok (.iconst 1, 1) := by decide +kernel
theorem dL_clashes_14 : decode cL_clashes 14 = .ok (.ireturn, 1) := by decide +kernel
theorem dL_clashes_15 : decode cL_clashes 15 = .ok (.iconst 0, 1) := by decide +kernel
theorem dL_clashes_16 : decode cL_clashes 16 = .ok (.ireturn, 1) := by decide +kernel
theorem dL_meaningless_0 : decode cL_meaningless 0 = .ok (.aload_n 2, 1) := by decide +kernel
theorem dL_meaningless_1 : decode cL_meaningless 1 = .ok (.iconst 0, 1) := by decide +kernel
theorem dL_meaningless_2 : decode cL_meaningless 2 = .ok (.aload_n 0, 1) := by decide +kernel
theorem dL_meaningless_3 : decode cL_meaningless 3 = .ok (.iload_n 1, 1) := by decide +kernel
theorem dL_meaningless_4 : decode cL_meaningless 4 = .ok (.invokevirtual 41, 3) := by decide +kernel
theorem dL_meaningless_7 : decode cL_meaningless 7 = .ok (.i2l, 1) := by decide +kernel
theorem dL_meaningless_8 : decode cL_meaningless 8 = .ok (.lastore, 1) := by decide +kernel
theorem dL_meaningless_9 : decode cL_meaningless 9 = .ok (.goto 6, 3) := by decide +kernel
theorem dL_meaningless_12 : decode cL_meaningless 12 = .ok (.astore_n 3, 1) := by decide +kernel
theorem dL_meaningless_13 : decode cL_meaningless 13 = .ok (.iconst 1, 1) := by decide +kernel
theorem dL_meaningless_14 : decode cL_meaningless 14 = .ok (.ireturn, 1) := by decide +kernel
theorem dL_meaningless_15 : decode cL_meaningless 15 = .ok (.iconst 0, 1) := by decide +kernel
theorem dL_meaningless_16 : decode cL_meaningless 16 = .ok (.ireturn, 1) := by decide +kernel
theorem dL_idle_0 : decode cL_idle 0 = .ok (.aload_n 3, 1) := by decide +kernel
theorem dL_idle_1 : decode cL_idle 1 = .ok (.iconst 0, 1) := by decide +kernel
theorem dL_idle_2 : decode cL_idle 2 = .ok (.aload_n 0, 1) := by decide +kernel
theorem dL_idle_3 : decode cL_idle 3 = .ok (.iload_n 1, 1) := by decide +kernel
theorem dL_idle_4 : decode cL_idle 4 = .ok (.iload_n 2, 1) := by decide +kernel
theorem dL_idle_5 : decode cL_idle 5 = .ok (.invokevirtual 44, 3) := by decide +kernel
theorem dL_idle_8 : decode cL_idle 8 = .ok (.i2l, 1) := by decide +kernel
theorem dL_idle_9 : decode cL_idle 9 = .ok (.lastore, 1) := by decide +kernel
theorem dL_idle_10 : decode cL_idle 10 = .ok (.goto 11, 3) := by decide +kernel
theorem dL_idle_13 : decode cL_idle 13 = .ok (.astore 4, 2) := by decide +kernel
theorem dL_idle_15 : decode cL_idle 15 = .ok (.iconst 1, 1) := by decide +kernel
theorem dL_idle_16 : decode cL_idle 16 = .ok (.ireturn, 1) := by decide +kernel
theorem dL_idle_17 : decode cL_idle 17 = .ok (.astore 4, 2) := by decide +kernel
theorem dL_idle_19 : decode cL_idle 19 = .ok (.iconst 2, 1) := by decide +kernel
theorem dL_idle_20 : decode cL_idle 20 = .ok (.ireturn, 1) := by decide +kernel
theorem dL_idle_21 : decode cL_idle 21 = .ok (.iconst 0, 1) := by decide +kernel
theorem dL_idle_22 : decode cL_idle 22 = .ok (.ireturn, 1) := by decide +kernel
theorem dL_count_0 : decode cL_count 0 = .ok (.aload_n 2, 1) := by decide +kernel
theorem dL_count_1 : decode cL_count 1 = .ok (.iconst 0, 1) := by decide +kernel
theorem dL_count_2 : decode cL_count 2 = .ok (.aload_n 0, 1) := by decide +kernel
theorem dL_count_3 : decode cL_count 3 = .ok (.iload_n 1, 1) := by decide +kernel
theorem dL_count_4 : decode cL_count 4 = .ok (.invokevirtual 47, 3) := by decide +kernel
theorem dL_count_7 : decode cL_count 7 = .ok (.i2l, 1) := by decide +kernel
theorem dL_count_8 : decode cL_count 8 = .ok (.lastore, 1) := by decide +kernel
theorem dL_count_9 : decode cL_count 9 = .ok (.goto 6, 3) := by decide +kernel
theorem dL_count_12 : decode cL_count 12 = .ok (.astore_n 3, 1) := by decide +kernel
theorem dL_count_13 : decode cL_count 13 = .ok (.iconst 1, 1) := by decide +kernel
theorem dL_count_14 : decode cL_count 14 = .ok (.ireturn, 1) := by decide +kernel
theorem dL_count_15 : decode cL_count 15 = .ok (.iconst 0, 1) := by decide +kernel
theorem dL_count_16 : decode cL_count 16 = .ok (.ireturn, 1) := by decide +kernel
theorem dL_blocks_0 : decode cL_blocks 0 = .ok (.aload_n 2, 1) := by decide +kernel
theorem dL_blocks_1 : decode cL_blocks 1 = .ok (.iconst 0, 1) := by decide +kernel
theorem dL_blocks_2 : decode cL_blocks 2 = .ok (.aload_n 0, 1) := by decide +kernel
theorem dL_blocks_3 : decode cL_blocks 3 = .ok (.iload_n 1, 1) := by decide +kernel
theorem dL_blocks_4 : decode cL_blocks 4 = .ok (.invokevirtual 50, 3) := by decide +kernel
theorem dL_blocks_7 : decode cL_blocks 7 = .ok (.i2l, 1) := by decide +kernel
theorem dL_blocks_8 : decode cL_blocks 8 = .ok (.lastore, 1) := by decide +kernel
theorem dL_blocks_9 : decode cL_blocks 9 = .ok (.goto 6, 3) := by decide +kernel
theorem dL_blocks_12 : decode cL_blocks 12 = .ok (.astore_n 3, 1) := by decide +kernel
theorem dL_blocks_13 : decode cL_blocks 13 = .ok (.iconst 1, 1) := by decide +kernel
theorem dL_blocks_14 : decode cL_blocks 14 = .ok (.ireturn, 1) := by decide +kernel
theorem dL_blocks_15 : decode cL_blocks 15 = .ok (.iconst 0, 1) := by decide +kernel
theorem dL_blocks_16 : decode cL_blocks 16 = .ok (.ireturn, 1) := by decide +kernel
theorem dL_block_0 : decode cL_block 0 = .ok (.aload 4, 2) := by decide +kernel
theorem dL_block_2 : decode cL_block 2 = .ok (.iconst 0, 1) := by decide +kernel
theorem dL_block_3 : decode cL_block 3 = .ok (.aload_n 0, 1) := by decide +kernel
theorem dL_block_4 : decode cL_block 4 = .ok (.iload_n 1, 1) := by decide +kernel
theorem dL_block_5 : decode cL_block 5 = .ok (.iload_n 2, 1) := by decide +kernel
theorem dL_block_6 : decode cL_block 6 = .ok (.iload_n 3, 1) := by decide +kernel
theorem dL_block_7 : decode cL_block 7 = .ok (.invokevirtual 53, 3) := by decide +kernel
theorem dL_block_10 : decode cL_block 10 = .ok (.i2l, 1) := by decide +kernel
theorem dL_block_11 : decode cL_block 11 = .ok (.lastore, 1) := by decide +kernel
theorem dL_block_12 : decode cL_block 12 = .ok (.goto 11, 3) := by decide +kernel
theorem dL_block_15 : decode cL_block 15 = .ok (.astore 5, 2) := by decide +kernel
theorem dL_block_17 : decode cL_block 17 = .ok (.iconst 1, 1) := by decide +kernel
theorem dL_block_18 : decode cL_block 18 = .ok (.ireturn, 1) := by decide +kernel
theorem dL_block_19 : decode cL_block 19 = .ok (.astore 5, 2) := by decide +kernel
theorem dL_block_21 : decode cL_block 21 = .ok (.iconst 2, 1) := by decide +kernel
theorem dL_block_22 : decode cL_block 22 = .ok (.ireturn, 1) := by decide +kernel
theorem dL_block_23 : decode cL_block 23 = .ok (.iconst 0, 1) := by decide +kernel
theorem dL_block_24 : decode cL_block 24 = .ok (.ireturn, 1) := by decide +kernel
theorem dL_decode_0 : decode cL_decode 0 = .ok (.aload_n 2, 1) := by decide +kernel
theorem dL_decode_1 : decode cL_decode 1 = .ok (.iconst 0, 1) := by decide +kernel
theorem dL_decode_2 : decode cL_decode 2 = .ok (.aload_n 0, 1) := by decide +kernel
theorem dL_decode_3 : decode cL_decode 3 = .ok (.iload_n 1, 1) := by decide +kernel
theorem dL_decode_4 : decode cL_decode 4 = .ok (.invokevirtual 56, 3) := by decide +kernel
theorem dL_decode_7 : decode cL_decode 7 = .ok (.i2l, 1) := by decide +kernel
theorem dL_decode_8 : decode cL_decode 8 = .ok (.lastore, 1) := by decide +kernel
theorem dL_decode_9 : decode cL_decode 9 = .ok (.goto 6, 3) := by decide +kernel
theorem dL_decode_12 : decode cL_decode 12 = .ok (.astore_n 3, 1) := by decide +kernel
theorem dL_decode_13 : decode cL_decode 13 = .ok (.iconst 1, 1) := by decide +kernel
theorem dL_decode_14 : decode cL_decode 14 = .ok (.ireturn, 1) := by decide +kernel
theorem dL_decode_15 : decode cL_decode 15 = .ok (.iconst 0, 1) := by decide +kernel
theorem dL_decode_16 : decode cL_decode 16 = .ok (.ireturn, 1) := by decide +kernel
theorem dL_order_0 : decode cL_order 0 = .ok (.aload_n 2, 1) := by decide +kernel
theorem dL_order_1 : decode cL_order 1 = .ok (.iconst 0, 1) := by decide +kernel
theorem dL_order_2 : decode cL_order 2 = .ok (.aload_n 0, 1) := by decide +kernel
theorem dL_order_3 : decode cL_order 3 = .ok (.iload_n 1, 1) := by decide +kernel
theorem dL_order_4 : decode cL_order 4 = .ok (.invokevirtual 59, 3) := by decide +kernel
theorem dL_order_7 : decode cL_order 7 = .ok (.i2l, 1) := by decide +kernel
theorem dL_order_8 : decode cL_order 8 = .ok (.lastore, 1) := by decide +kernel
theorem dL_order_9 : decode cL_order 9 = .ok (.goto 6, 3) := by decide +kernel
theorem dL_order_12 : decode cL_order 12 = .ok (.astore_n 3, 1) := by decide +kernel
theorem dL_order_13 : decode cL_order 13 = .ok (.iconst 1, 1) := by decide +kernel
theorem dL_order_14 : decode cL_order 14 = .ok (.ireturn, 1) := by decide +kernel
theorem dL_order_15 : decode cL_order 15 = .ok (.iconst 0, 1) := by decide +kernel
theorem dL_order_16 : decode cL_order 16 = .ok (.ireturn, 1) := by decide +kernel
