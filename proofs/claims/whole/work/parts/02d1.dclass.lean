theorem dC_init_0 : decode cC_init 0 = .ok (.aload_n 0, 1) := by decide +kernel
theorem dC_init_1 : decode cC_init 1 = .ok (.invokespecial 1, 3) := by decide +kernel
theorem dC_init_4 : decode cC_init 4 = .ok (.aload_n 0, 1) := by decide +kernel
theorem dC_init_5 : decode cC_init 5 = .ok (.iconst 1, 1) := by decide +kernel
theorem dC_init_6 : decode cC_init 6 = .ok (.iload_n 1, 1) := by decide +kernel
theorem dC_init_7 : decode cC_init 7 = .ok (.iconst 1, 1) := by decide +kernel
theorem dC_init_8 : decode cC_init 8 = .ok (.isub, 1) := by decide +kernel
theorem dC_init_9 : decode cC_init 9 = .ok (.bipush 16, 2) := by decide +kernel
theorem dC_init_11 : decode cC_init 11 = .ok (.invokestatic 9, 3) := by decide +kernel
theorem dC_init_14 : decode cC_init 14 = .ok (.iadd, 1) := by decide +kernel
theorem dC_init_15 : decode cC_init 15 = .ok (.putfield 15, 3) := by decide +kernel
theorem dC_init_18 : decode cC_init 18 = .ok (.aload_n 0, 1) := by decide +kernel
theorem dC_init_19 : decode cC_init 19 = .ok (.bipush 40, 2) := by decide +kernel
theorem dC_init_21 : decode cC_init 21 = .ok (.anewarray 19, 3) := by decide +kernel
theorem dC_init_24 : decode cC_init 24 = .ok (.putfield 21, 3) := by decide +kernel
theorem dC_init_27 : decode cC_init 27 = .ok (.iconst 0, 1) := by decide +kernel
theorem dC_init_28 : decode cC_init 28 = .ok (.istore_n 2, 1) := by decide +kernel
theorem dC_init_29 : decode cC_init 29 = .ok (.iload_n 2, 1) := by decide +kernel
theorem dC_init_30 : decode cC_init 30 = .ok (.aload_n 0, 1) := by decide +kernel
theorem dC_init_31 : decode cC_init 31 = .ok (.getfield 21, 3) := by decide +kernel
theorem dC_init_34 : decode cC_init 34 = .ok (.arraylength, 1) := by decide +kernel
theorem dC_init_35 : decode cC_init 35 = .ok (.if_icmp .ge 26, 3) := by decide +kernel
theorem dC_init_38 : decode cC_init 38 = .ok (.aload_n 0, 1) := by decide +kernel
theorem dC_init_39 : decode cC_init 39 = .ok (.getfield 21, 3) := by decide +kernel
theorem dC_init_42 : decode cC_init 42 = .ok (.iload_n 2, 1) := by decide +kernel
theorem dC_init_43 : decode cC_init 43 = .ok (.new 19, 3) := by decide +kernel
theorem dC_init_46 : decode cC_init 46 = .ok (.dup, 1) := by decide +kernel
theorem dC_init_47 : decode cC_init 47 = .ok (.aload_n 0, 1) := by decide +kernel
theorem dC_init_48 : decode cC_init 48 = .ok (.getfield 15, 3) := by decide +kernel
theorem dC_init_51 : decode cC_init 51 = .ok (.invokespecial 25, 3) := by decide +kernel
theorem dC_init_54 : decode cC_init 54 = .ok (.aastore, 1) := by decide +kernel
theorem dC_init_55 : decode cC_init 55 = .ok (.iinc 2 1, 3) := by decide +kernel
theorem dC_init_58 : decode cC_init 58 = .ok (.goto (-29), 3) := by decide +kernel
theorem dC_init_61 : decode cC_init 61 = .ok (.aload_n 0, 1) := by decide +kernel
theorem dC_init_62 : decode cC_init 62 = .ok (.iconst 0, 1) := by decide +kernel
theorem dC_init_63 : decode cC_init 63 = .ok (.putfield 28, 3) := by decide +kernel
theorem dC_init_66 : decode cC_init 66 = .ok (.aload_n 0, 1) := by decide +kernel
theorem dC_init_67 : decode cC_init 67 = .ok (.bipush 40, 2) := by decide +kernel
theorem dC_init_69 : decode cC_init 69 = .ok (.bipush 40, 2) := by decide +kernel
theorem dC_init_71 : decode cC_init 71 = .ok (.multianewarray 31 2, 4) := by decide +kernel
theorem dC_init_75 : decode cC_init 75 = .ok (.putfield 33, 3) := by decide +kernel
theorem dC_init_78 : decode cC_init 78 = .ok (.aload_n 0, 1) := by decide +kernel
theorem dC_init_79 : decode cC_init 79 = .ok (.new 36, 3) := by decide +kernel
theorem dC_init_82 : decode cC_init 82 = .ok (.dup, 1) := by decide +kernel
theorem dC_init_83 : decode cC_init 83 = .ok (.aload_n 0, 1) := by decide +kernel
theorem dC_init_84 : decode cC_init 84 = .ok (.getfield 15, 3) := by decide +kernel
theorem dC_init_87 : decode cC_init 87 = .ok (.invokespecial 38, 3) := by decide +kernel
theorem dC_init_90 : decode cC_init 90 = .ok (.putfield 39, 3) := by decide +kernel
theorem dC_init_93 : decode cC_init 93 = .ok (.aload_n 0, 1) := by decide +kernel
theorem dC_init_94 : decode cC_init 94 = .ok (.iconst 0, 1) := by decide +kernel
theorem dC_init_95 : decode cC_init 95 = .ok (.putfield 43, 3) := by decide +kernel
theorem dC_init_98 : decode cC_init 98 = .ok (.aload_n 0, 1) := by decide +kernel
theorem dC_init_99 : decode cC_init 99 = .ok (.bipush 40, 2) := by decide +kernel
theorem dC_init_101 : decode cC_init 101 = .ok (.newarray .long, 2) := by decide +kernel
theorem dC_init_103 : decode cC_init 103 = .ok (.putfield 47, 3) := by decide +kernel
theorem dC_init_106 : decode cC_init 106 = .ok (.return_, 1) := by decide +kernel
theorem dJM_floorMod_0 : decode cJM_floorMod 0 = .ok (.iload_n 0, 1) := by decide +kernel
theorem dJM_floorMod_1 : decode cJM_floorMod 1 = .ok (.iload_n 1, 1) := by decide +kernel
theorem dJM_floorMod_2 : decode cJM_floorMod 2 = .ok (.irem, 1) := by decide +kernel
theorem dJM_floorMod_3 : decode cJM_floorMod 3 = .ok (.istore_n 2, 1) := by decide +kernel
theorem dJM_floorMod_4 : decode cJM_floorMod 4 = .ok (.iload_n 0, 1) := by decide +kernel
theorem dJM_floorMod_5 : decode cJM_floorMod 5 = .ok (.iload_n 1, 1) := by decide +kernel
theorem dJM_floorMod_6 : decode cJM_floorMod 6 = .ok (.ixor, 1) := by decide +kernel
theorem dJM_floorMod_7 : decode cJM_floorMod 7 = .ok (.ifCond .ge 11, 3) := by decide +kernel
theorem dJM_floorMod_10 : decode cJM_floorMod 10 = .ok (.iload_n 2, 1) := by decide +kernel
theorem dJM_floorMod_11 : decode cJM_floorMod 11 = .ok (.ifCond .eq 7, 3) := by decide +kernel
theorem dJM_floorMod_14 : decode cJM_floorMod 14 = .ok (.iload_n 2, 1) := by decide +kernel
theorem dJM_floorMod_15 : decode cJM_floorMod 15 = .ok (.iload_n 1, 1) := by decide +kernel
theorem dJM_floorMod_16 : decode cJM_floorMod 16 = .ok (.iadd, 1) := by decide +kernel
theorem dJM_floorMod_17 : decode cJM_floorMod 17 = .ok (.ireturn, 1) := by decide +kernel
theorem dJM_floorMod_18 : decode cJM_floorMod 18 = .ok (.iload_n 2, 1) := by decide +kernel
theorem dJM_floorMod_19 : decode cJM_floorMod 19 = .ok (.ireturn, 1) := by decide +kernel
theorem dE_init_0 : decode cE_init 0 = .ok (.aload_n 0, 1) := by decide +kernel
theorem dE_init_1 : decode cE_init 1 = .ok (.invokespecial 1, 3) := by decide +kernel
theorem dE_init_4 : decode cE_init 4 = .ok (.aload_n 0, 1) := by decide +kernel
theorem dE_init_5 : decode cE_init 5 = .ok (.new 7, 3) := by decide +kernel
theorem dE_init_8 : decode cE_init 8 = .ok (.dup, 1) := by decide +kernel
theorem dE_init_9 : decode cE_init 9 = .ok (.iload_n 1, 1) := by decide +kernel
theorem dE_init_10 : decode cE_init 10 = .ok (.invokespecial 9, 3) := by decide +kernel
theorem dE_init_13 : decode cE_init 13 = .ok (.putfield 12, 3) := by decide +kernel
theorem dE_init_16 : decode cE_init 16 = .ok (.return_, 1) := by decide +kernel
theorem dS_init_0 : decode cS_init 0 = .ok (.aload_n 0, 1) := by decide +kernel
theorem dS_init_1 : decode cS_init 1 = .ok (.invokespecial 3, 3) := by decide +kernel
theorem dS_init_4 : decode cS_init 4 = .ok (.aload_n 0, 1) := by decide +kernel
theorem dS_init_5 : decode cS_init 5 = .ok (.iload_n 1, 1) := by decide +kernel
theorem dS_init_6 : decode cS_init 6 = .ok (.putfield 9, 3) := by decide +kernel
theorem dS_init_9 : decode cS_init 9 = .ok (.aload_n 0, 1) := by decide +kernel
theorem dS_init_10 : decode cS_init 10 = .ok (.iconst 0, 1) := by decide +kernel
theorem dS_init_11 : decode cS_init 11 = .ok (.newarray .long, 2) := by decide +kernel
theorem dS_init_13 : decode cS_init 13 = .ok (.putfield 15, 3) := by decide +kernel
theorem dS_init_16 : decode cS_init 16 = .ok (.return_, 1) := by decide +kernel
theorem dC_clear_0 : decode cC_clear 0 = .ok (.aload_n 0, 1) := by decide +kernel
theorem dC_clear_1 : decode cC_clear 1 = .ok (.getfield 28, 3) := by decide +kernel
theorem dC_clear_4 : decode cC_clear 4 = .ok (.istore_n 1, 1) := by decide +kernel
theorem dC_clear_5 : decode cC_clear 5 = .ok (.aload_n 0, 1) := by decide +kernel
theorem dC_clear_6 : decode cC_clear 6 = .ok (.iconst 0, 1) := by decide +kernel
theorem dC_clear_7 : decode cC_clear 7 = .ok (.putfield 28, 3) := by decide +kernel
theorem dC_clear_10 : decode cC_clear 10 = .ok (.aload_n 0, 1) := by decide +kernel
theorem dC_clear_11 : decode cC_clear 11 = .ok (.iconst 0, 1) := by decide +kernel
theorem dC_clear_12 : decode cC_clear 12 = .ok (.putfield 43, 3) := by decide +kernel
theorem dC_clear_15 : decode cC_clear 15 = .ok (.iload_n 1, 1) := by decide +kernel
theorem dC_clear_16 : decode cC_clear 16 = .ok (.ireturn, 1) := by decide +kernel
theorem dC_pairs_0 : decode cC_pairs 0 = .ok (.iconst 0, 1) := by decide +kernel
theorem dC_pairs_1 : decode cC_pairs 1 = .ok (.istore_n 1, 1) := by decide +kernel
theorem dC_pairs_2 : decode cC_pairs 2 = .ok (.iconst 0, 1) := by decide +kernel
theorem dC_pairs_3 : decode cC_pairs 3 = .ok (.istore_n 2, 1) := by decide +kernel
theorem dC_pairs_4 : decode cC_pairs 4 = .ok (.iload_n 2, 1) := by decide +kernel
theorem dC_pairs_5 : decode cC_pairs 5 = .ok (.aload_n 0, 1) := by decide +kernel
theorem dC_pairs_6 : decode cC_pairs 6 = .ok (.getfield 28, 3) := by decide +kernel
theorem dC_pairs_9 : decode cC_pairs 9 = .ok (.if_icmp .ge 41, 3) := by decide +kernel
theorem dC_pairs_12 : decode cC_pairs 12 = .ok (.iload_n 2, 1) := by decide +kernel
theorem dC_pairs_13 : decode cC_pairs 13 = .ok (.iconst 1, 1) := by decide +kernel
theorem dC_pairs_14 : decode cC_pairs 14 = .ok (.iadd, 1) := by decide +kernel
theorem dC_pairs_15 : decode cC_pairs 15 = .ok (.istore_n 3, 1) := by decide +kernel
theorem dC_pairs_16 : decode cC_pairs 16 = .ok (.iload_n 3, 1) := by decide +kernel
theorem dC_pairs_17 : decode cC_pairs 17 = .ok (.aload_n 0, 1) := by decide +kernel
theorem dC_pairs_18 : decode cC_pairs 18 = .ok (.getfield 28, 3) := by decide +kernel
theorem dC_pairs_21 : decode cC_pairs 21 = .ok (.if_icmp .ge 23, 3) := by decide +kernel
theorem dC_pairs_24 : decode cC_pairs 24 = .ok (.aload_n 0, 1) := by decide +kernel
theorem dC_pairs_25 : decode cC_pairs 25 = .ok (.getfield 33, 3) := by decide +kernel
theorem dC_pairs_28 : decode cC_pairs 28 = .ok (.iload_n 2, 1) := by decide +kernel
theorem dC_pairs_29 : decode cC_pairs 29 = .ok (.aaload, 1) := by decide +kernel
theorem dC_pairs_30 : decode cC_pairs 30 = .ok (.iload_n 3, 1) := by decide +kernel
theorem dC_pairs_31 : decode cC_pairs 31 = .ok (.iaload, 1) := by decide +kernel
theorem dC_pairs_32 : decode cC_pairs 32 = .ok (.ifCond .le 6, 3) := by decide +kernel
theorem dC_pairs_35 : decode cC_pairs 35 = .ok (.iinc 1 1, 3) := by decide +kernel
theorem dC_pairs_38 : decode cC_pairs 38 = .ok (.iinc 3 1, 3) := by decide +kernel
theorem dC_pairs_41 : decode cC_pairs 41 = .ok (.goto (-25), 3) := by decide +kernel
theorem dC_pairs_44 : decode cC_pairs 44 = .ok (.iinc 2 1, 3) := by decide +kernel
theorem dC_pairs_47 : decode cC_pairs 47 = .ok (.goto (-43), 3) := by decide +kernel
theorem dC_pairs_50 : decode cC_pairs 50 = .ok (.iload_n 1, 1) := by decide +kernel
theorem dC_pairs_51 : decode cC_pairs 51 = .ok (.ireturn, 1) := by decide +kernel
theorem dC_worst_0 : decode cC_worst 0 = .ok (.iconst 0, 1) := by decide +kernel
theorem dC_worst_1 : decode cC_worst 1 = .ok (.istore_n 1, 1) := by decide +kernel
theorem dC_worst_2 : decode cC_worst 2 = .ok (.iconst 0, 1) := by decide +kernel
theorem dC_worst_3 : decode cC_worst 3 = .ok (.istore_n 2, 1) := by decide +kernel
theorem dC_worst_4 : decode cC_worst 4 = .ok (.iload_n 2, 1) := by decide +kernel
theorem dC_worst_5 : decode cC_worst 5 = .ok (.aload_n 0, 1) := by decide +kernel
theorem dC_worst_6 : decode cC_worst 6 = .ok (.getfield 28, 3) := by decide +kernel
theorem dC_worst_9 : decode cC_worst 9 = .ok (.if_icmp .ge 45, 3) := by decide +kernel
theorem dC_worst_12 : decode cC_worst 12 = .ok (.iload_n 2, 1) := by decide +kernel
theorem dC_worst_13 : decode cC_worst 13 = .ok (.iconst 1, 1) := by decide +kernel
theorem dC_worst_14 : decode cC_worst 14 = .ok (.iadd, 1) := by decide +kernel
theorem dC_worst_15 : decode cC_worst 15 = .ok (.istore_n 3, 1) := by decide +kernel
theorem dC_worst_16 : decode cC_worst 16 = .ok (.iload_n 3, 1) := by decide +kernel
theorem dC_worst_17 : decode cC_worst 17 = .ok (.aload_n 0, 1) := by decide +kernel
theorem dC_worst_18 : decode cC_worst 18 = .ok (.getfield 28, 3) := by decide +kernel
theorem dC_worst_21 : decode cC_worst 21 = .ok (.if_icmp .ge 27, 3) := by decide +kernel
theorem dC_worst_24 : decode cC_worst 24 = .ok (.aload_n 0, 1) := by decide +kernel
theorem dC_worst_25 : decode cC_worst 25 = .ok (.iload_n 2, 1) := by decide +kernel
theorem dC_worst_26 : decode cC_worst 26 = .ok (.iload_n 3, 1) := by decide +kernel
theorem dC_worst_27 : decode cC_worst 27 = .ok (.invokevirtual 132, 3) := by decide +kernel
theorem dC_worst_30 : decode cC_worst 30 = .ok (.ifCond .eq 12, 3) := by decide +kernel
theorem dC_worst_33 : decode cC_worst 33 = .ok (.iload_n 1, 1) := by decide +kernel
theorem dC_worst_34 : decode cC_worst 34 = .ok (.aload_n 0, 1) := by decide +kernel
theorem dC_worst_35 : decode cC_worst 35 = .ok (.iload_n 2, 1) := by decide +kernel
theorem dC_worst_36 : decode cC_worst 36 = .ok (.iload_n 3, 1) := by decide +kernel
theorem dC_worst_37 : decode cC_worst 37 = .ok (.invokevirtual 129, 3) := by decide +kernel
theorem dC_worst_40 : decode cC_worst 40 = .ok (.ior, 1) := by decide +kernel
theorem dC_worst_41 : decode cC_worst 41 = .ok (.istore_n 1, 1) := by decide +kernel
theorem dC_worst_42 : decode cC_worst 42 = .ok (.iinc 3 1, 3) := by decide +kernel
theorem dC_worst_45 : decode cC_worst 45 = .ok (.goto (-29), 3) := by decide +kernel
theorem dC_worst_48 : decode cC_worst 48 = .ok (.iinc 2 1, 3) := by decide +kernel
theorem dC_worst_51 : decode cC_worst 51 = .ok (.goto (-47), 3) := by decide +kernel
theorem dC_worst_54 : decode cC_worst 54 = .ok (.iload_n 1, 1) := by decide +kernel
theorem dC_worst_55 : decode cC_worst 55 = .ok (.ireturn, 1) := by decide +kernel
theorem dC_clash_0 : decode cC_clash 0 = .ok (.aload_n 0, 1) := by decide +kernel
theorem dC_clash_1 : decode cC_clash 1 = .ok (.getfield 33, 3) := by decide +kernel
theorem dC_clash_4 : decode cC_clash 4 = .ok (.iload_n 1, 1) := by decide +kernel
theorem dC_clash_5 : decode cC_clash 5 = .ok (.aaload, 1) := by decide +kernel
theorem dC_clash_6 : decode cC_clash 6 = .ok (.iload_n 2, 1) := by decide +kernel
theorem dC_clash_7 : decode cC_clash 7 = .ok (.iaload, 1) := by decide +kernel
theorem dC_clash_8 : decode cC_clash 8 = .ok (.ifCond .le 25, 3) := by decide +kernel
theorem dC_clash_11 : decode cC_clash 11 = .ok (.aload_n 0, 1) := by decide +kernel
theorem dC_clash_12 : decode cC_clash 12 = .ok (.iload_n 1, 1) := by decide +kernel
theorem dC_clash_13 : decode cC_clash 13 = .ok (.iload_n 2, 1) := by decide +kernel
theorem dC_clash_14 : decode cC_clash 14 = .ok (.invokevirtual 125, 3) := by decide +kernel
theorem dC_clash_17 : decode cC_clash 17 = .ok (.ifCond .ne 16, 3) := by decide +kernel
theorem dC_clash_20 : decode cC_clash 20 = .ok (.aload_n 0, 1) := by decide +kernel
theorem dC_clash_21 : decode cC_clash 21 = .ok (.iload_n 2, 1) := by decide +kernel
theorem dC_clash_22 : decode cC_clash 22 = .ok (.iload_n 1, 1) := by decide +kernel
theorem dC_clash_23 : decode cC_clash 23 = .ok (.invokevirtual 125, 3) := by decide +kernel
theorem dC_clash_26 : decode cC_clash 26 = .ok (.ifCond .ne 7, 3) := by decide +kernel
theorem dC_clash_29 : decode cC_clash 29 = .ok (.iconst 1, 1) := by decide +kernel
theorem dC_clash_30 : decode cC_clash 30 = .ok (.goto 4, 3) := by decide +kernel
theorem dC_clash_33 : decode cC_clash 33 = .ok (.iconst 0, 1) := by decide +kernel
theorem dC_clash_34 : decode cC_clash 34 = .ok (.ireturn, 1) := by decide +kernel
theorem dC_liesIn_0 : decode cC_liesIn 0 = .ok (.aload_n 0, 1) := by decide +kernel
theorem dC_liesIn_1 : decode cC_liesIn 1 = .ok (.getfield 33, 3) := by decide +kernel
theorem dC_liesIn_4 : decode cC_liesIn 4 = .ok (.iload_n 1, 1) := by decide +kernel
theorem dC_liesIn_5 : decode cC_liesIn 5 = .ok (.aaload, 1) := by decide +kernel
theorem dC_liesIn_6 : decode cC_liesIn 6 = .ok (.iload_n 2, 1) := by decide +kernel
theorem dC_liesIn_7 : decode cC_liesIn 7 = .ok (.iaload, 1) := by decide +kernel
theorem dC_liesIn_8 : decode cC_liesIn 8 = .ok (.aload_n 0, 1) := by decide +kernel
theorem dC_liesIn_9 : decode cC_liesIn 9 = .ok (.getfield 33, 3) := by decide +kernel
theorem dC_liesIn_12 : decode cC_liesIn 12 = .ok (.iload_n 1, 1) := by decide +kernel
theorem dC_liesIn_13 : decode cC_liesIn 13 = .ok (.aaload, 1) := by decide +kernel
theorem dC_liesIn_14 : decode cC_liesIn 14 = .ok (.iload_n 1, 1) := by decide +kernel
theorem dC_liesIn_15 : decode cC_liesIn 15 = .ok (.iaload, 1) := by decide +kernel
theorem dC_liesIn_16 : decode cC_liesIn 16 = .ok (.if_icmp .ne 7, 3) := by decide +kernel
theorem dC_liesIn_19 : decode cC_liesIn 19 = .ok (.iconst 1, 1) := by decide +kernel
theorem dC_liesIn_20 : decode cC_liesIn 20 = .ok (.goto 4, 3) := by decide +kernel
theorem dC_liesIn_23 : decode cC_liesIn 23 = .ok (.iconst 0, 1) := by decide +kernel
theorem dC_liesIn_24 : decode cC_liesIn 24 = .ok (.ireturn, 1) := by decide +kernel
theorem dC_neededByBoth_0 : decode cC_neededByBoth 0 = .ok (.aload_n 0, 1) := by decide +kernel
theorem dC_neededByBoth_1 : decode cC_neededByBoth 1 = .ok (.getfield 21, 3) := by decide +kernel
theorem dC_neededByBoth_4 : decode cC_neededByBoth 4 = .ok (.iload_n 1, 1) := by decide +kernel
theorem dC_neededByBoth_5 : decode cC_neededByBoth 5 = .ok (.aaload, 1) := by decide +kernel
theorem dC_neededByBoth_6 : decode cC_neededByBoth 6 = .ok (.getfield 111, 3) := by decide +kernel
theorem dC_neededByBoth_9 : decode cC_neededByBoth 9 = .ok (.aload_n 0, 1) := by decide +kernel
theorem dC_neededByBoth_10 : decode cC_neededByBoth 10 = .ok (.getfield 21, 3) := by decide +kernel
theorem dC_neededByBoth_13 : decode cC_neededByBoth 13 = .ok (.iload_n 2, 1) := by decide +kernel
theorem dC_neededByBoth_14 : decode cC_neededByBoth 14 = .ok (.aaload, 1) := by decide +kernel
theorem dC_neededByBoth_15 : decode cC_neededByBoth 15 = .ok (.getfield 111, 3) := by decide +kernel
theorem dC_neededByBoth_18 : decode cC_neededByBoth 18 = .ok (.ior, 1) := by decide +kernel
theorem dC_neededByBoth_19 : decode cC_neededByBoth 19 = .ok (.ireturn, 1) := by decide +kernel
theorem dC_gaps_0 : decode cC_gaps 0 = .ok (.aload_n 0, 1) := by decide +kernel
theorem dC_gaps_1 : decode cC_gaps 1 = .ok (.invokevirtual 144, 3) := by decide +kernel
theorem dC_gaps_4 : decode cC_gaps 4 = .ok (.astore_n 1, 1) := by decide +kernel
theorem dC_gaps_5 : decode cC_gaps 5 = .ok (.aload_n 1, 1) := by decide +kernel
theorem dC_gaps_6 : decode cC_gaps 6 = .ok (.aload_n 1, 1) := by decide +kernel
theorem dC_gaps_7 : decode cC_gaps 7 = .ok (.invokevirtual 148, 3) := by decide +kernel
theorem dC_gaps_10 : decode cC_gaps 10 = .ok (.ireturn, 1) := by decide +kernel
theorem dC_wordsOfNone_0 : decode cC_wordsOfNone 0 = .ok (.aload_n 0, 1) := by decide +kernel
theorem dC_wordsOfNone_1 : decode cC_wordsOfNone 1 = .ok (.getfield 43, 3) := by decide +kernel
theorem dC_wordsOfNone_4 : decode cC_wordsOfNone 4 = .ok (.ifCond .ne 49, 3) := by decide +kernel
theorem dC_wordsOfNone_7 : decode cC_wordsOfNone 7 = .ok (.aload_n 0, 1) := by decide +kernel
theorem dC_wordsOfNone_8 : decode cC_wordsOfNone 8 = .ok (.getfield 39, 3) := by decide +kernel
theorem dC_wordsOfNone_11 : decode cC_wordsOfNone 11 = .ok (.iconst 0, 1) := by decide +kernel
theorem dC_wordsOfNone_12 : decode cC_wordsOfNone 12 = .ok (.iconst 0, 1) := by decide +kernel
theorem dC_wordsOfNone_13 : decode cC_wordsOfNone 13 = .ok (.invokevirtual 201, 3) := by decide +kernel
theorem dC_wordsOfNone_16 : decode cC_wordsOfNone 16 = .ok (.iconst 0, 1) := by decide +kernel
theorem dC_wordsOfNone_17 : decode cC_wordsOfNone 17 = .ok (.istore_n 1, 1) := by decide +kernel
theorem dC_wordsOfNone_18 : decode cC_wordsOfNone 18 = .ok (.iload_n 1, 1) := by decide +kernel
theorem dC_wordsOfNone_19 : decode cC_wordsOfNone 19 = .ok (.aload_n 0, 1) := by decide +kernel
theorem dC_wordsOfNone_20 : decode cC_wordsOfNone 20 = .ok (.getfield 28, 3) := by decide +kernel
theorem dC_wordsOfNone_23 : decode cC_wordsOfNone 23 = .ok (.if_icmp .ge 25, 3) := by decide +kernel
theorem dC_wordsOfNone_26 : decode cC_wordsOfNone 26 = .ok (.aload_n 0, 1) := by decide +kernel
theorem dC_wordsOfNone_27 : decode cC_wordsOfNone 27 = .ok (.getfield 39, 3) := by decide +kernel
theorem dC_wordsOfNone_30 : decode cC_wordsOfNone 30 = .ok (.aload_n 0, 1) := by decide +kernel
theorem dC_wordsOfNone_31 : decode cC_wordsOfNone 31 = .ok (.getfield 21, 3) := by decide +kernel
theorem dC_wordsOfNone_34 : decode cC_wordsOfNone 34 = .ok (.iload_n 1, 1) := by decide +kernel
theorem dC_wordsOfNone_35 : decode cC_wordsOfNone 35 = .ok (.aaload, 1) := by decide +kernel
theorem dC_wordsOfNone_36 : decode cC_wordsOfNone 36 = .ok (.getfield 92, 3) := by decide +kernel
theorem dC_wordsOfNone_39 : decode cC_wordsOfNone 39 = .ok (.invokevirtual 204, 3) := by decide +kernel
theorem dC_wordsOfNone_42 : decode cC_wordsOfNone 42 = .ok (.iinc 1 1, 3) := by decide +kernel
theorem dC_wordsOfNone_45 : decode cC_wordsOfNone 45 = .ok (.goto (-27), 3) := by decide +kernel
theorem dC_wordsOfNone_48 : decode cC_wordsOfNone 48 = .ok (.aload_n 0, 1) := by decide +kernel
theorem dC_wordsOfNone_49 : decode cC_wordsOfNone 49 = .ok (.iconst 1, 1) := by decide +kernel
theorem dC_wordsOfNone_50 : decode cC_wordsOfNone 50 = .ok (.putfield 43, 3) := by decide +kernel
theorem dC_wordsOfNone_53 : decode cC_wordsOfNone 53 = .ok (.aload_n 0, 1) := by decide +kernel
theorem dC_wordsOfNone_54 : decode cC_wordsOfNone 54 = .ok (.getfield 39, 3) := by decide +kernel
theorem dC_wordsOfNone_57 : decode cC_wordsOfNone 57 = .ok (.areturn, 1) := by decide +kernel
theorem dS_setToFixed_0 : decode cS_setToFixed 0 = .ok (.aload_n 0, 1) := by decide +kernel
theorem dS_setToFixed_1 : decode cS_setToFixed 1 = .ok (.getfield 15, 3) := by decide +kernel
theorem dS_setToFixed_4 : decode cS_setToFixed 4 = .ok (.arraylength, 1) := by decide +kernel
theorem dS_setToFixed_5 : decode cS_setToFixed 5 = .ok (.ifCond .ne 22, 3) := by decide +kernel
theorem dS_setToFixed_8 : decode cS_setToFixed 8 = .ok (.aload_n 0, 1) := by decide +kernel
theorem dS_setToFixed_9 : decode cS_setToFixed 9 = .ok (.iconst 1, 1) := by decide +kernel
theorem dS_setToFixed_10 : decode cS_setToFixed 10 = .ok (.iconst 0, 1) := by decide +kernel
theorem dS_setToFixed_11 : decode cS_setToFixed 11 = .ok (.aload_n 0, 1) := by decide +kernel
theorem dS_setToFixed_12 : decode cS_setToFixed 12 = .ok (.getfield 9, 3) := by decide +kernel
theorem dS_setToFixed_15 : decode cS_setToFixed 15 = .ok (.bipush 6, 2) := by decide +kernel
theorem dS_setToFixed_17 : decode cS_setToFixed 17 = .ok (.isub, 1) := by decide +kernel
theorem dS_setToFixed_18 : decode cS_setToFixed 18 = .ok (.invokestatic 19, 3) := by decide +kernel
theorem dS_setToFixed_21 : decode cS_setToFixed 21 = .ok (.ishl, 1) := by decide +kernel
theorem dS_setToFixed_22 : decode cS_setToFixed 22 = .ok (.newarray .long, 2) := by decide +kernel
theorem dS_setToFixed_24 : decode cS_setToFixed 24 = .ok (.putfield 15, 3) := by decide +kernel
theorem dS_setToFixed_27 : decode cS_setToFixed 27 = .ok (.aload_n 0, 1) := by decide +kernel
theorem dS_setToFixed_28 : decode cS_setToFixed 28 = .ok (.iload_n 1, 1) := by decide +kernel
theorem dS_setToFixed_29 : decode cS_setToFixed 29 = .ok (.bipush 63, 2) := by decide +kernel
theorem dS_setToFixed_31 : decode cS_setToFixed 31 = .ok (.iand, 1) := by decide +kernel
theorem dS_setToFixed_32 : decode cS_setToFixed 32 = .ok (.iload_n 2, 1) := by decide +kernel
theorem dS_setToFixed_33 : decode cS_setToFixed 33 = .ok (.bipush 63, 2) := by decide +kernel
theorem dS_setToFixed_35 : decode cS_setToFixed 35 = .ok (.iand, 1) := by decide +kernel
theorem dS_setToFixed_36 : decode cS_setToFixed 36 = .ok (.invokevirtual 25, 3) := by decide +kernel
theorem dS_setToFixed_39 : decode cS_setToFixed 39 = .ok (.lstore_n 3, 1) := by decide +kernel
theorem dS_setToFixed_40 : decode cS_setToFixed 40 = .ok (.iload_n 1, 1) := by decide +kernel
theorem dS_setToFixed_41 : decode cS_setToFixed 41 = .ok (.bipush 6, 2) := by decide +kernel
theorem dS_setToFixed_43 : decode cS_setToFixed 43 = .ok (.ishr, 1) := by decide +kernel
theorem dS_setToFixed_44 : decode cS_setToFixed 44 = .ok (.istore 5, 2) := by decide +kernel
theorem dS_setToFixed_46 : decode cS_setToFixed 46 = .ok (.iload_n 2, 1) := by decide +kernel
theorem dS_setToFixed_47 : decode cS_setToFixed 47 = .ok (.bipush 6, 2) := by decide +kernel
theorem dS_setToFixed_49 : decode cS_setToFixed 49 = .ok (.ishr, 1) := by decide +kernel
theorem dS_setToFixed_50 : decode cS_setToFixed 50 = .ok (.istore 6, 2) := by decide +kernel
theorem dS_setToFixed_52 : decode cS_setToFixed 52 = .ok (.iconst 0, 1) := by decide +kernel
theorem dS_setToFixed_53 : decode cS_setToFixed 53 = .ok (.istore 7, 2) := by decide +kernel
theorem dS_setToFixed_55 : decode cS_setToFixed 55 = .ok (.iload 7, 2) := by decide +kernel
theorem dS_setToFixed_57 : decode cS_setToFixed 57 = .ok (.aload_n 0, 1) := by decide +kernel
theorem dS_setToFixed_58 : decode cS_setToFixed 58 = .ok (.getfield 15, 3) := by decide +kernel
theorem dS_setToFixed_61 : decode cS_setToFixed 61 = .ok (.arraylength, 1) := by decide +kernel
theorem dS_setToFixed_62 : decode cS_setToFixed 62 = .ok (.if_icmp .ge 31, 3) := by decide +kernel
theorem dS_setToFixed_65 : decode cS_setToFixed 65 = .ok (.aload_n 0, 1) := by decide +kernel
theorem dS_setToFixed_66 : decode cS_setToFixed 66 = .ok (.getfield 15, 3) := by decide +kernel
theorem dS_setToFixed_69 : decode cS_setToFixed 69 = .ok (.iload 7, 2) := by decide +kernel
theorem dS_setToFixed_71 : decode cS_setToFixed 71 = .ok (.iload 7, 2) := by decide +kernel
theorem dS_setToFixed_73 : decode cS_setToFixed 73 = .ok (.iload 5, 2) := by decide +kernel
theorem dS_setToFixed_75 : decode cS_setToFixed 75 = .ok (.iand, 1) := by decide +kernel
theorem dS_setToFixed_76 : decode cS_setToFixed 76 = .ok (.iload 6, 2) := by decide +kernel
theorem dS_setToFixed_78 : decode cS_setToFixed 78 = .ok (.if_icmp .ne 7, 3) := by decide +kernel
theorem dS_setToFixed_81 : decode cS_setToFixed 81 = .ok (.lload_n 3, 1) := by decide +kernel
theorem dS_setToFixed_82 : decode cS_setToFixed 82 = .ok (.goto 4, 3) := by decide +kernel
theorem dS_setToFixed_85 : decode cS_setToFixed 85 = .ok (.lconst 0, 1) := by decide +kernel
theorem dS_setToFixed_86 : decode cS_setToFixed 86 = .ok (.lastore, 1) := by decide +kernel
theorem dS_setToFixed_87 : decode cS_setToFixed 87 = .ok (.iinc 7 1, 3) := by decide +kernel
theorem dS_setToFixed_90 : decode cS_setToFixed 90 = .ok (.goto (-35), 3) := by decide +kernel
theorem dS_setToFixed_93 : decode cS_setToFixed 93 = .ok (.return_, 1) := by decide +kernel
theorem dJM_max_0 : decode cJM_max 0 = .ok (.iload_n 0, 1) := by decide +kernel
theorem dJM_max_1 : decode cJM_max 1 = .ok (.iload_n 1, 1) := by decide +kernel
theorem dJM_max_2 : decode cJM_max 2 = .ok (.if_icmp .lt 7, 3) := by decide +kernel
theorem dJM_max_5 : decode cJM_max 5 = .ok (.iload_n 0, 1) := by decide +kernel
theorem dJM_max_6 : decode cJM_max 6 = .ok (.goto 4, 3) := by decide +kernel
theorem dJM_max_9 : decode cJM_max 9 = .ok (.iload_n 1, 1) := by decide +kernel
theorem dJM_max_10 : decode cJM_max 10 = .ok (.ireturn, 1) := by decide +kernel
theorem dS_lowWords_0 : decode cS_lowWords 0 = .ok (.lconst 0, 1) := by decide +kernel
theorem dS_lowWords_1 : decode cS_lowWords 1 = .ok (.lstore_n 3, 1) := by decide +kernel
theorem dS_lowWords_2 : decode cS_lowWords 2 = .ok (.iconst 1, 1) := by decide +kernel
theorem dS_lowWords_3 : decode cS_lowWords 3 = .ok (.bipush 6, 2) := by decide +kernel
theorem dS_lowWords_5 : decode cS_lowWords 5 = .ok (.aload_n 0, 1) := by decide +kernel
theorem dS_lowWords_6 : decode cS_lowWords 6 = .ok (.getfield 9, 3) := by decide +kernel
theorem dS_lowWords_9 : decode cS_lowWords 9 = .ok (.invokestatic 29, 3) := by decide +kernel
theorem dS_lowWords_12 : decode cS_lowWords 12 = .ok (.ishl, 1) := by decide +kernel
theorem dS_lowWords_13 : decode cS_lowWords 13 = .ok (.istore 5, 2) := by decide +kernel
theorem dS_lowWords_15 : decode cS_lowWords 15 = .ok (.iconst 0, 1) := by decide +kernel
theorem dS_lowWords_16 : decode cS_lowWords 16 = .ok (.istore 6, 2) := by decide +kernel
theorem dS_lowWords_18 : decode cS_lowWords 18 = .ok (.iload 6, 2) := by decide +kernel
theorem dS_lowWords_20 : decode cS_lowWords 20 = .ok (.iload 5, 2) := by decide +kernel
theorem dS_lowWords_22 : decode cS_lowWords 22 = .ok (.if_icmp .ge 24, 3) := by decide +kernel
theorem dS_lowWords_25 : decode cS_lowWords 25 = .ok (.iload 6, 2) := by decide +kernel
theorem dS_lowWords_27 : decode cS_lowWords 27 = .ok (.iload_n 1, 1) := by decide +kernel
theorem dS_lowWords_28 : decode cS_lowWords 28 = .ok (.iand, 1) := by decide +kernel
theorem dS_lowWords_29 : decode cS_lowWords 29 = .ok (.iload_n 2, 1) := by decide +kernel
theorem dS_lowWords_30 : decode cS_lowWords 30 = .ok (.if_icmp .ne 10, 3) := by decide +kernel
theorem dS_lowWords_33 : decode cS_lowWords 33 = .ok (.lload_n 3, 1) := by decide +kernel
theorem dS_lowWords_34 : decode cS_lowWords 34 = .ok (.lconst 1, 1) := by decide +kernel
theorem dS_lowWords_35 : decode cS_lowWords 35 = .ok (.iload 6, 2) := by decide +kernel
theorem dS_lowWords_37 : decode cS_lowWords 37 = .ok (.lshl, 1) := by decide +kernel
theorem dS_lowWords_38 : decode cS_lowWords 38 = .ok (.lor, 1) := by decide +kernel
theorem dS_lowWords_39 : decode cS_lowWords 39 = .ok (.lstore_n 3, 1) := by decide +kernel
theorem dS_lowWords_40 : decode cS_lowWords 40 = .ok (.iinc 6 1, 3) := by decide +kernel
theorem dS_lowWords_43 : decode cS_lowWords 43 = .ok (.goto (-25), 3) := by decide +kernel
theorem dS_lowWords_46 : decode cS_lowWords 46 = .ok (.lload_n 3, 1) := by decide +kernel
theorem dS_lowWords_47 : decode cS_lowWords 47 = .ok (.lreturn, 1) := by decide +kernel
theorem dJM_min_0 : decode cJM_min 0 = .ok (.iload_n 0, 1) := by decide +kernel
theorem dJM_min_1 : decode cJM_min 1 = .ok (.iload_n 1, 1) := by decide +kernel
theorem dJM_min_2 : decode cJM_min 2 = .ok (.if_icmp .gt 7, 3) := by decide +kernel
theorem dJM_min_5 : decode cJM_min 5 = .ok (.iload_n 0, 1) := by decide +kernel
theorem dJM_min_6 : decode cJM_min 6 = .ok (.goto 4, 3) := by decide +kernel
theorem dJM_min_9 : decode cJM_min 9 = .ok (.iload_n 1, 1) := by decide +kernel
theorem dJM_min_10 : decode cJM_min 10 = .ok (.ireturn, 1) := by decide +kernel
theorem dS_takeOut_0 : decode cS_takeOut 0 = .ok (.iconst 0, 1) := by decide +kernel
theorem dS_takeOut_1 : decode cS_takeOut 1 = .ok (.istore_n 2, 1) := by decide +kernel
theorem dS_takeOut_2 : decode cS_takeOut 2 = .ok (.iload_n 2, 1) := by decide +kernel
theorem dS_takeOut_3 : decode cS_takeOut 3 = .ok (.aload_n 0, 1) := by decide +kernel
theorem dS_takeOut_4 : decode cS_takeOut 4 = .ok (.getfield 15, 3) := by decide +kernel
theorem dS_takeOut_7 : decode cS_takeOut 7 = .ok (.arraylength, 1) := by decide +kernel
theorem dS_takeOut_8 : decode cS_takeOut 8 = .ok (.if_icmp .ge 37, 3) := by decide +kernel
theorem dS_takeOut_11 : decode cS_takeOut 11 = .ok (.iload_n 2, 1) := by decide +kernel
theorem dS_takeOut_12 : decode cS_takeOut 12 = .ok (.aload_n 1, 1) := by decide +kernel
theorem dS_takeOut_13 : decode cS_takeOut 13 = .ok (.getfield 15, 3) := by decide +kernel
theorem dS_takeOut_16 : decode cS_takeOut 16 = .ok (.arraylength, 1) := by decide +kernel
theorem dS_takeOut_17 : decode cS_takeOut 17 = .ok (.if_icmp .ge 28, 3) := by decide +kernel
theorem dS_takeOut_20 : decode cS_takeOut 20 = .ok (.aload_n 0, 1) := by decide +kernel
theorem dS_takeOut_21 : decode cS_takeOut 21 = .ok (.getfield 15, 3) := by decide +kernel
theorem dS_takeOut_24 : decode cS_takeOut 24 = .ok (.iload_n 2, 1) := by decide +kernel
theorem dS_takeOut_25 : decode cS_takeOut 25 = .ok (.dup2, 1) := by decide +kernel
theorem dS_takeOut_26 : decode cS_takeOut 26 = .ok (.laload, 1) := by decide +kernel
theorem dS_takeOut_27 : decode cS_takeOut 27 = .ok (.aload_n 1, 1) := by decide +kernel
theorem dS_takeOut_28 : decode cS_takeOut 28 = .ok (.getfield 15, 3) := by decide +kernel
theorem dS_takeOut_31 : decode cS_takeOut 31 = .ok (.iload_n 2, 1) := by decide +kernel
theorem dS_takeOut_32 : decode cS_takeOut 32 = .ok (.laload, 1) := by decide +kernel
theorem dS_takeOut_33 : decode cS_takeOut 33 = .ok (.ldc2_w 42, 3) := by decide +kernel
theorem dS_takeOut_36 : decode cS_takeOut 36 = .ok (.lxor, 1) := by decide +kernel
theorem dS_takeOut_37 : decode cS_takeOut 37 = .ok (.land, 1) := by decide +kernel
theorem dS_takeOut_38 : decode cS_takeOut 38 = .ok (.lastore, 1) := by decide +kernel
theorem dS_takeOut_39 : decode cS_takeOut 39 = .ok (.iinc 2 1, 3) := by decide +kernel
theorem dS_takeOut_42 : decode cS_takeOut 42 = .ok (.goto (-40), 3) := by decide +kernel
theorem dS_takeOut_45 : decode cS_takeOut 45 = .ok (.return_, 1) := by decide +kernel
theorem dS_howManyCommon_0 : decode cS_howManyCommon 0 = .ok (.iconst 0, 1) := by decide +kernel
theorem dS_howManyCommon_1 : decode cS_howManyCommon 1 = .ok (.istore_n 2, 1) := by decide +kernel
theorem dS_howManyCommon_2 : decode cS_howManyCommon 2 = .ok (.iconst 0, 1) := by decide +kernel
theorem dS_howManyCommon_3 : decode cS_howManyCommon 3 = .ok (.istore_n 3, 1) := by decide +kernel
theorem dS_howManyCommon_4 : decode cS_howManyCommon 4 = .ok (.iload_n 3, 1) := by decide +kernel
theorem dS_howManyCommon_5 : decode cS_howManyCommon 5 = .ok (.aload_n 0, 1) := by decide +kernel
theorem dS_howManyCommon_6 : decode cS_howManyCommon 6 = .ok (.getfield 15, 3) := by decide +kernel
theorem dS_howManyCommon_9 : decode cS_howManyCommon 9 = .ok (.arraylength, 1) := by decide +kernel
theorem dS_howManyCommon_10 : decode cS_howManyCommon 10 = .ok (.if_icmp .ge 37, 3) := by decide +kernel
theorem dS_howManyCommon_13 : decode cS_howManyCommon 13 = .ok (.iload_n 3, 1) := by decide +kernel
theorem dS_howManyCommon_14 : decode cS_howManyCommon 14 = .ok (.aload_n 1, 1) := by decide +kernel
theorem dS_howManyCommon_15 : decode cS_howManyCommon 15 = .ok (.getfield 15, 3) := by decide +kernel
theorem dS_howManyCommon_18 : decode cS_howManyCommon 18 = .ok (.arraylength, 1) := by decide +kernel
theorem dS_howManyCommon_19 : decode cS_howManyCommon 19 = .ok (.if_icmp .ge 28, 3) := by decide +kernel
theorem dS_howManyCommon_22 : decode cS_howManyCommon 22 = .ok (.iload_n 2, 1) := by decide +kernel
theorem dS_howManyCommon_23 : decode cS_howManyCommon 23 = .ok (.aload_n 0, 1) := by decide +kernel
theorem dS_howManyCommon_24 : decode cS_howManyCommon 24 = .ok (.getfield 15, 3) := by decide +kernel
theorem dS_howManyCommon_27 : decode cS_howManyCommon 27 = .ok (.iload_n 3, 1) := by decide +kernel
theorem dS_howManyCommon_28 : decode cS_howManyCommon 28 = .ok (.laload, 1) := by decide +kernel
theorem dS_howManyCommon_29 : decode cS_howManyCommon 29 = .ok (.aload_n 1, 1) := by decide +kernel
theorem dS_howManyCommon_30 : decode cS_howManyCommon 30 = .ok (.getfield 15, 3) := by decide +kernel
theorem dS_howManyCommon_33 : decode cS_howManyCommon 33 = .ok (.iload_n 3, 1) := by decide +kernel
theorem dS_howManyCommon_34 : decode cS_howManyCommon 34 = .ok (.laload, 1) := by decide +kernel
theorem dS_howManyCommon_35 : decode cS_howManyCommon 35 = .ok (.land, 1) := by decide +kernel
theorem dS_howManyCommon_36 : decode cS_howManyCommon 36 = .ok (.invokestatic 44, 3) := by decide +kernel
theorem dS_howManyCommon_39 : decode cS_howManyCommon 39 = .ok (.iadd, 1) := by decide +kernel
theorem dS_howManyCommon_40 : decode cS_howManyCommon 40 = .ok (.istore_n 2, 1) := by decide +kernel
theorem dS_howManyCommon_41 : decode cS_howManyCommon 41 = .ok (.iinc 3 1, 3) := by decide +kernel
theorem dS_howManyCommon_44 : decode cS_howManyCommon 44 = .ok (.goto (-40), 3) := by decide +kernel
theorem dS_howManyCommon_47 : decode cS_howManyCommon 47 = .ok (.iload_n 2, 1) := by decide +kernel
theorem dS_howManyCommon_48 : decode cS_howManyCommon 48 = .ok (.ireturn, 1) := by decide +kernel
theorem dJL_bitCount_0 : decode cJL_bitCount 0 = .ok (.lload_n 0, 1) := by decide +kernel
theorem dJL_bitCount_1 : decode cJL_bitCount 1 = .ok (.lload_n 0, 1) := by decide +kernel
theorem dJL_bitCount_2 : decode cJL_bitCount 2 = .ok (.iconst 1, 1) := by decide +kernel
theorem dJL_bitCount_3 : decode cJL_bitCount 3 = .ok (.lushr, 1) := by decide +kernel
theorem dJL_bitCount_4 : decode cJL_bitCount 4 = .ok (.ldc2_w 314, 3) := by decide +kernel
theorem dJL_bitCount_7 : decode cJL_bitCount 7 = .ok (.land, 1) := by decide +kernel
theorem dJL_bitCount_8 : decode cJL_bitCount 8 = .ok (.lsub, 1) := by decide +kernel
theorem dJL_bitCount_9 : decode cJL_bitCount 9 = .ok (.lstore_n 0, 1) := by decide +kernel
theorem dJL_bitCount_10 : decode cJL_bitCount 10 = .ok (.lload_n 0, 1) := by decide +kernel
theorem dJL_bitCount_11 : decode cJL_bitCount 11 = .ok (.ldc2_w 316, 3) := by decide +kernel
theorem dJL_bitCount_14 : decode cJL_bitCount 14 = .ok (.land, 1) := by decide +kernel
theorem dJL_bitCount_15 : decode cJL_bitCount 15 = .ok (.lload_n 0, 1) := by decide +kernel
theorem dJL_bitCount_16 : decode cJL_bitCount 16 = .ok (.iconst 2, 1) := by decide +kernel
theorem dJL_bitCount_17 : decode cJL_bitCount 17 = .ok (.lushr, 1) := by decide +kernel
theorem dJL_bitCount_18 : decode cJL_bitCount 18 = .ok (.ldc2_w 316, 3) := by decide +kernel
theorem dJL_bitCount_21 : decode cJL_bitCount 21 = .ok (.land, 1) := by decide +kernel
theorem dJL_bitCount_22 : decode cJL_bitCount 22 = .ok (.ladd, 1) := by decide +kernel
theorem dJL_bitCount_23 : decode cJL_bitCount 23 = .ok (.lstore_n 0, 1) := by decide +kernel
theorem dJL_bitCount_24 : decode cJL_bitCount 24 = .ok (.lload_n 0, 1) := by decide +kernel
theorem dJL_bitCount_25 : decode cJL_bitCount 25 = .ok (.lload_n 0, 1) := by decide +kernel
theorem dJL_bitCount_26 : decode cJL_bitCount 26 = .ok (.iconst 4, 1) := by decide +kernel
theorem dJL_bitCount_27 : decode cJL_bitCount 27 = .ok (.lushr, 1) := by decide +kernel
theorem dJL_bitCount_28 : decode cJL_bitCount 28 = .ok (.ladd, 1) := by decide +kernel
theorem dJL_bitCount_29 : decode cJL_bitCount 29 = .ok (.ldc2_w 318, 3) := by decide +kernel
theorem dJL_bitCount_32 : decode cJL_bitCount 32 = .ok (.land, 1) := by decide +kernel
theorem dJL_bitCount_33 : decode cJL_bitCount 33 = .ok (.lstore_n 0, 1) := by decide +kernel
theorem dJL_bitCount_34 : decode cJL_bitCount 34 = .ok (.lload_n 0, 1) := by decide +kernel
theorem dJL_bitCount_35 : decode cJL_bitCount 35 = .ok (.lload_n 0, 1) := by decide +kernel
theorem dJL_bitCount_36 : decode cJL_bitCount 36 = .ok (.bipush 8, 2) := by decide +kernel
theorem dJL_bitCount_38 : decode cJL_bitCount 38 = .ok (.lushr, 1) := by decide +kernel
theorem dJL_bitCount_39 : decode cJL_bitCount 39 = .ok (.ladd, 1) := by decide +kernel
theorem dJL_bitCount_40 : decode cJL_bitCount 40 = .ok (.lstore_n 0, 1) := by decide +kernel
theorem dJL_bitCount_41 : decode cJL_bitCount 41 = .ok (.lload_n 0, 1) := by decide +kernel
theorem dJL_bitCount_42 : decode cJL_bitCount 42 = .ok (.lload_n 0, 1) := by decide +kernel
theorem dJL_bitCount_43 : decode cJL_bitCount 43 = .ok (.bipush 16, 2) := by decide +kernel
theorem dJL_bitCount_45 : decode cJL_bitCount 45 = .ok (.lushr, 1) := by decide +kernel
theorem dJL_bitCount_46 : decode cJL_bitCount 46 = .ok (.ladd, 1) := by decide +kernel
theorem dJL_bitCount_47 : decode cJL_bitCount 47 = .ok (.lstore_n 0, 1) := by decide +kernel
theorem dJL_bitCount_48 : decode cJL_bitCount 48 = .ok (.lload_n 0, 1) := by decide +kernel
theorem dJL_bitCount_49 : decode cJL_bitCount 49 = .ok (.lload_n 0, 1) := by decide +kernel
theorem dJL_bitCount_50 : decode cJL_bitCount 50 = .ok (.bipush 32, 2) := by decide +kernel
theorem dJL_bitCount_52 : decode cJL_bitCount 52 = .ok (.lushr, 1) := by decide +kernel
theorem dJL_bitCount_53 : decode cJL_bitCount 53 = .ok (.ladd, 1) := by decide +kernel
theorem dJL_bitCount_54 : decode cJL_bitCount 54 = .ok (.lstore_n 0, 1) := by decide +kernel
theorem dJL_bitCount_55 : decode cJL_bitCount 55 = .ok (.lload_n 0, 1) := by decide +kernel
theorem dJL_bitCount_56 : decode cJL_bitCount 56 = .ok (.l2i, 1) := by decide +kernel
theorem dJL_bitCount_57 : decode cJL_bitCount 57 = .ok (.bipush 127, 2) := by decide +kernel
theorem dJL_bitCount_59 : decode cJL_bitCount 59 = .ok (.iand, 1) := by decide +kernel
theorem dJL_bitCount_60 : decode cJL_bitCount 60 = .ok (.ireturn, 1) := by decide +kernel
theorem dC_size_0 : decode cC_size 0 = .ok (.iload_n 1, 1) := by decide +kernel
theorem dC_size_1 : decode cC_size 1 = .ok (.ifCond .ne 8, 3) := by decide +kernel
theorem dC_size_4 : decode cC_size 4 = .ok (.aload_n 0, 1) := by decide +kernel
theorem dC_size_5 : decode cC_size 5 = .ok (.getfield 28, 3) := by decide +kernel
theorem dC_size_8 : decode cC_size 8 = .ok (.ireturn, 1) := by decide +kernel
theorem dC_size_9 : decode cC_size 9 = .ok (.iload_n 1, 1) := by decide +kernel
theorem dC_size_10 : decode cC_size 10 = .ok (.iconst 1, 1) := by decide +kernel
theorem dC_size_11 : decode cC_size 11 = .ok (.if_icmp .ne 10, 3) := by decide +kernel
theorem dC_size_14 : decode cC_size 14 = .ok (.aload_n 0, 1) := by decide +kernel
theorem dC_size_15 : decode cC_size 15 = .ok (.getfield 15, 3) := by decide +kernel
theorem dC_size_18 : decode cC_size 18 = .ok (.goto 4, 3) := by decide +kernel
theorem dC_size_21 : decode cC_size 21 = .ok (.iconst (-1), 1) := by decide +kernel
theorem dC_size_22 : decode cC_size 22 = .ok (.ireturn, 1) := by decide +kernel
theorem dC_encoding_0 : decode cC_encoding 0 = .ok (.lconst 1, 1) := by decide +kernel
theorem dC_encoding_1 : decode cC_encoding 1 = .ok (.aload_n 0, 1) := by decide +kernel
theorem dC_encoding_2 : decode cC_encoding 2 = .ok (.getfield 15, 3) := by decide +kernel
theorem dC_encoding_5 : decode cC_encoding 5 = .ok (.lshl, 1) := by decide +kernel
theorem dC_encoding_6 : decode cC_encoding 6 = .ok (.lconst 1, 1) := by decide +kernel
theorem dC_encoding_7 : decode cC_encoding 7 = .ok (.lsub, 1) := by decide +kernel
theorem dC_encoding_8 : decode cC_encoding 8 = .ok (.lstore 5, 2) := by decide +kernel
theorem dC_encoding_10 : decode cC_encoding 10 = .ok (.lload_n 1, 1) := by decide +kernel
theorem dC_encoding_11 : decode cC_encoding 11 = .ok (.lload 5, 2) := by decide +kernel
theorem dC_encoding_13 : decode cC_encoding 13 = .ok (.ldc2_w 51, 3) := by decide +kernel
theorem dC_encoding_16 : decode cC_encoding 16 = .ok (.lxor, 1) := by decide +kernel
theorem dC_encoding_17 : decode cC_encoding 17 = .ok (.land, 1) := by decide +kernel
theorem dC_encoding_18 : decode cC_encoding 18 = .ok (.lconst 0, 1) := by decide +kernel
theorem dC_encoding_19 : decode cC_encoding 19 = .ok (.lcmp, 1) := by decide +kernel
theorem dC_encoding_20 : decode cC_encoding 20 = .ok (.ifCond .ne 15, 3) := by decide +kernel
theorem dC_encoding_23 : decode cC_encoding 23 = .ok (.lload_n 3, 1) := by decide +kernel
theorem dC_encoding_24 : decode cC_encoding 24 = .ok (.lload_n 1, 1) := by decide +kernel
theorem dC_encoding_25 : decode cC_encoding 25 = .ok (.ldc2_w 51, 3) := by decide +kernel
theorem dC_encoding_28 : decode cC_encoding 28 = .ok (.lxor, 1) := by decide +kernel
theorem dC_encoding_29 : decode cC_encoding 29 = .ok (.land, 1) := by decide +kernel
theorem dC_encoding_30 : decode cC_encoding 30 = .ok (.lconst 0, 1) := by decide +kernel
theorem dC_encoding_31 : decode cC_encoding 31 = .ok (.lcmp, 1) := by decide +kernel
theorem dC_encoding_32 : decode cC_encoding 32 = .ok (.ifCond .eq 13, 3) := by decide +kernel
theorem dC_encoding_35 : decode cC_encoding 35 = .ok (.new 53, 3) := by decide +kernel
theorem dC_encoding_38 : decode cC_encoding 38 = .ok (.dup, 1) := by decide +kernel
theorem dC_encoding_39 : decode cC_encoding 39 = .ok (.ldc 55, 2) := by decide +kernel
theorem dC_encoding_41 : decode cC_encoding 41 = .ok (.invokespecial 57, 3) := by decide +kernel
theorem dC_encoding_44 : decode cC_encoding 44 = .ok (.athrow, 1) := by decide +kernel
theorem dC_encoding_45 : decode cC_encoding 45 = .ok (.aload_n 0, 1) := by decide +kernel
theorem dC_encoding_46 : decode cC_encoding 46 = .ok (.getfield 28, 3) := by decide +kernel
theorem dC_encoding_49 : decode cC_encoding 49 = .ok (.bipush 40, 2) := by decide +kernel
theorem dC_encoding_51 : decode cC_encoding 51 = .ok (.if_icmp .lt 13, 3) := by decide +kernel
theorem dC_encoding_54 : decode cC_encoding 54 = .ok (.new 60, 3) := by decide +kernel
theorem dC_encoding_57 : decode cC_encoding 57 = .ok (.dup, 1) := by decide +kernel
theorem dC_encoding_58 : decode cC_encoding 58 = .ok (.ldc 62, 2) := by decide +kernel
theorem dC_encoding_60 : decode cC_encoding 60 = .ok (.invokespecial 64, 3) := by decide +kernel
theorem dC_encoding_63 : decode cC_encoding 63 = .ok (.athrow, 1) := by decide +kernel
theorem dC_encoding_64 : decode cC_encoding 64 = .ok (.aload_n 0, 1) := by decide +kernel
theorem dC_encoding_65 : decode cC_encoding 65 = .ok (.getfield 28, 3) := by decide +kernel
theorem dC_encoding_68 : decode cC_encoding 68 = .ok (.istore 7, 2) := by decide +kernel
theorem dC_encoding_70 : decode cC_encoding 70 = .ok (.aload_n 0, 1) := by decide +kernel
theorem dC_encoding_71 : decode cC_encoding 71 = .ok (.dup, 1) := by decide +kernel
theorem dC_encoding_72 : decode cC_encoding 72 = .ok (.getfield 28, 3) := by decide +kernel
theorem dC_encoding_75 : decode cC_encoding 75 = .ok (.iconst 1, 1) := by decide +kernel
theorem dC_encoding_76 : decode cC_encoding 76 = .ok (.iadd, 1) := by decide +kernel
theorem dC_encoding_77 : decode cC_encoding 77 = .ok (.putfield 28, 3) := by decide +kernel
theorem dC_encoding_80 : decode cC_encoding 80 = .ok (.aload_n 0, 1) := by decide +kernel
theorem dC_encoding_81 : decode cC_encoding 81 = .ok (.getfield 21, 3) := by decide +kernel
theorem dC_encoding_84 : decode cC_encoding 84 = .ok (.iload 7, 2) := by decide +kernel
theorem dC_encoding_86 : decode cC_encoding 86 = .ok (.aaload, 1) := by decide +kernel
theorem dC_encoding_87 : decode cC_encoding 87 = .ok (.lload_n 1, 1) := by decide +kernel
theorem dC_encoding_88 : decode cC_encoding 88 = .ok (.l2i, 1) := by decide +kernel
theorem dC_encoding_89 : decode cC_encoding 89 = .ok (.lload_n 3, 1) := by decide +kernel
theorem dC_encoding_90 : decode cC_encoding 90 = .ok (.l2i, 1) := by decide +kernel
theorem dC_encoding_91 : decode cC_encoding 91 = .ok (.invokevirtual 65, 3) := by decide +kernel
theorem dC_encoding_94 : decode cC_encoding 94 = .ok (.aload_n 0, 1) := by decide +kernel
theorem dC_encoding_95 : decode cC_encoding 95 = .ok (.iload 7, 2) := by decide +kernel
theorem dC_encoding_97 : decode cC_encoding 97 = .ok (.invokevirtual 69, 3) := by decide +kernel
theorem dC_encoding_100 : decode cC_encoding 100 = .ok (.iload 7, 2) := by decide +kernel
theorem dC_encoding_102 : decode cC_encoding 102 = .ok (.ireturn, 1) := by decide +kernel
theorem dE_begin_0 : decode cE_begin 0 = .ok (.aload_n 0, 1) := by decide +kernel
theorem dE_begin_1 : decode cE_begin 1 = .ok (.getfield 12, 3) := by decide +kernel
theorem dE_begin_4 : decode cE_begin 4 = .ok (.iload_n 1, 1) := by decide +kernel
theorem dE_begin_5 : decode cE_begin 5 = .ok (.iload_n 2, 1) := by decide +kernel
theorem dE_begin_6 : decode cE_begin 6 = .ok (.invokevirtual 18, 3) := by decide +kernel
theorem dE_begin_9 : decode cE_begin 9 = .ok (.aload_n 0, 1) := by decide +kernel
theorem dE_begin_10 : decode cE_begin 10 = .ok (.iload_n 1, 1) := by decide +kernel
theorem dE_begin_11 : decode cE_begin 11 = .ok (.putfield 22, 3) := by decide +kernel
theorem dE_begin_14 : decode cE_begin 14 = .ok (.aload_n 0, 1) := by decide +kernel
theorem dE_begin_15 : decode cE_begin 15 = .ok (.iconst 0, 1) := by decide +kernel
theorem dE_begin_16 : decode cE_begin 16 = .ok (.putfield 26, 3) := by decide +kernel
theorem dE_begin_19 : decode cE_begin 19 = .ok (.aload_n 0, 1) := by decide +kernel
theorem dE_begin_20 : decode cE_begin 20 = .ok (.iconst 0, 1) := by decide +kernel
theorem dE_begin_21 : decode cE_begin 21 = .ok (.putfield 29, 3) := by decide +kernel
theorem dE_begin_24 : decode cE_begin 24 = .ok (.aload_n 0, 1) := by decide +kernel
theorem dE_begin_25 : decode cE_begin 25 = .ok (.iconst 0, 1) := by decide +kernel
theorem dE_begin_26 : decode cE_begin 26 = .ok (.putfield 32, 3) := by decide +kernel
theorem dE_begin_29 : decode cE_begin 29 = .ok (.aload_n 0, 1) := by decide +kernel
theorem dE_begin_30 : decode cE_begin 30 = .ok (.iconst 0, 1) := by decide +kernel
theorem dE_begin_31 : decode cE_begin 31 = .ok (.putfield 35, 3) := by decide +kernel
theorem dE_begin_34 : decode cE_begin 34 = .ok (.return_, 1) := by decide +kernel
theorem dC_wordsChanged_0 : decode cC_wordsChanged 0 = .ok (.aload_n 0, 1) := by decide +kernel
theorem dC_wordsChanged_1 : decode cC_wordsChanged 1 = .ok (.iconst 0, 1) := by decide +kernel
theorem dC_wordsChanged_2 : decode cC_wordsChanged 2 = .ok (.putfield 43, 3) := by decide +kernel
theorem dC_wordsChanged_5 : decode cC_wordsChanged 5 = .ok (.aload_n 0, 1) := by decide +kernel
theorem dC_wordsChanged_6 : decode cC_wordsChanged 6 = .ok (.getfield 21, 3) := by decide +kernel
theorem dC_wordsChanged_9 : decode cC_wordsChanged 9 = .ok (.iload_n 1, 1) := by decide +kernel
theorem dC_wordsChanged_10 : decode cC_wordsChanged 10 = .ok (.aaload, 1) := by decide +kernel
theorem dC_wordsChanged_11 : decode cC_wordsChanged 11 = .ok (.getfield 92, 3) := by decide +kernel
theorem dC_wordsChanged_14 : decode cC_wordsChanged 14 = .ok (.astore_n 2, 1) := by decide +kernel
theorem dC_wordsChanged_15 : decode cC_wordsChanged 15 = .ok (.iconst 0, 1) := by decide +kernel
theorem dC_wordsChanged_16 : decode cC_wordsChanged 16 = .ok (.istore_n 3, 1) := by decide +kernel
theorem dC_wordsChanged_17 : decode cC_wordsChanged 17 = .ok (.iload_n 3, 1) := by decide +kernel
theorem dC_wordsChanged_18 : decode cC_wordsChanged 18 = .ok (.aload_n 0, 1) := by decide +kernel
theorem dC_wordsChanged_19 : decode cC_wordsChanged 19 = .ok (.getfield 28, 3) := by decide +kernel
theorem dC_wordsChanged_22 : decode cC_wordsChanged 22 = .ok (.if_icmp .ge 44, 3) := by decide +kernel
theorem dC_wordsChanged_25 : decode cC_wordsChanged 25 = .ok (.aload_n 2, 1) := by decide +kernel
theorem dC_wordsChanged_26 : decode cC_wordsChanged 26 = .ok (.aload_n 0, 1) := by decide +kernel
theorem dC_wordsChanged_27 : decode cC_wordsChanged 27 = .ok (.getfield 21, 3) := by decide +kernel
theorem dC_wordsChanged_30 : decode cC_wordsChanged 30 = .ok (.iload_n 3, 1) := by decide +kernel
theorem dC_wordsChanged_31 : decode cC_wordsChanged 31 = .ok (.aaload, 1) := by decide +kernel
theorem dC_wordsChanged_32 : decode cC_wordsChanged 32 = .ok (.getfield 92, 3) := by decide +kernel
theorem dC_wordsChanged_35 : decode cC_wordsChanged 35 = .ok (.invokevirtual 148, 3) := by decide +kernel
theorem dC_wordsChanged_38 : decode cC_wordsChanged 38 = .ok (.istore 4, 2) := by decide +kernel
theorem dC_wordsChanged_40 : decode cC_wordsChanged 40 = .ok (.aload_n 0, 1) := by decide +kernel
theorem dC_wordsChanged_41 : decode cC_wordsChanged 41 = .ok (.getfield 33, 3) := by decide +kernel
theorem dC_wordsChanged_44 : decode cC_wordsChanged 44 = .ok (.iload_n 1, 1) := by decide +kernel
theorem dC_wordsChanged_45 : decode cC_wordsChanged 45 = .ok (.aaload, 1) := by decide +kernel
theorem dC_wordsChanged_46 : decode cC_wordsChanged 46 = .ok (.iload_n 3, 1) := by decide +kernel
theorem dC_wordsChanged_47 : decode cC_wordsChanged 47 = .ok (.iload 4, 2) := by decide +kernel
theorem dC_wordsChanged_49 : decode cC_wordsChanged 49 = .ok (.iastore, 1) := by decide +kernel
theorem dC_wordsChanged_50 : decode cC_wordsChanged 50 = .ok (.aload_n 0, 1) := by decide +kernel
theorem dC_wordsChanged_51 : decode cC_wordsChanged 51 = .ok (.getfield 33, 3) := by decide +kernel
theorem dC_wordsChanged_54 : decode cC_wordsChanged 54 = .ok (.iload_n 3, 1) := by decide +kernel
theorem dC_wordsChanged_55 : decode cC_wordsChanged 55 = .ok (.aaload, 1) := by decide +kernel
theorem dC_wordsChanged_56 : decode cC_wordsChanged 56 = .ok (.iload_n 1, 1) := by decide +kernel
theorem dC_wordsChanged_57 : decode cC_wordsChanged 57 = .ok (.iload 4, 2) := by decide +kernel
theorem dC_wordsChanged_59 : decode cC_wordsChanged 59 = .ok (.iastore, 1) := by decide +kernel
theorem dC_wordsChanged_60 : decode cC_wordsChanged 60 = .ok (.iinc 3 1, 3) := by decide +kernel
theorem dC_wordsChanged_63 : decode cC_wordsChanged 63 = .ok (.goto (-46), 3) := by decide +kernel
theorem dC_wordsChanged_66 : decode cC_wordsChanged 66 = .ok (.return_, 1) := by decide +kernel
theorem dC_condition_0 : decode cC_condition 0 = .ok (.aload_n 0, 1) := by decide +kernel
theorem dC_condition_1 : decode cC_condition 1 = .ok (.iload_n 1, 1) := by decide +kernel
theorem dC_condition_2 : decode cC_condition 2 = .ok (.invokevirtual 72, 3) := by decide +kernel
theorem dC_condition_5 : decode cC_condition 5 = .ok (.aload_n 0, 1) := by decide +kernel
theorem dC_condition_6 : decode cC_condition 6 = .ok (.iload_n 2, 1) := by decide +kernel
theorem dC_condition_7 : decode cC_condition 7 = .ok (.iload_n 3, 1) := by decide +kernel
theorem dC_condition_8 : decode cC_condition 8 = .ok (.invokevirtual 75, 3) := by decide +kernel
theorem dC_condition_11 : decode cC_condition 11 = .ok (.iload 4, 2) := by decide +kernel
theorem dC_condition_13 : decode cC_condition 13 = .ok (.ifCond .lt 21, 3) := by decide +kernel
theorem dC_condition_16 : decode cC_condition 16 = .ok (.iload 4, 2) := by decide +kernel
theorem dC_condition_18 : decode cC_condition 18 = .ok (.iconst 5, 1) := by decide +kernel
theorem dC_condition_19 : decode cC_condition 19 = .ok (.if_icmp .gt 15, 3) := by decide +kernel
theorem dC_condition_22 : decode cC_condition 22 = .ok (.iload 5, 2) := by decide +kernel
theorem dC_condition_24 : decode cC_condition 24 = .ok (.ifCond .lt 10, 3) := by decide +kernel
theorem dC_condition_27 : decode cC_condition 27 = .ok (.iload 5, 2) := by decide +kernel
theorem dC_condition_29 : decode cC_condition 29 = .ok (.ldc 78, 2) := by decide +kernel
theorem dC_condition_31 : decode cC_condition 31 = .ok (.if_icmp .le 13, 3) := by decide +kernel
theorem dC_condition_34 : decode cC_condition 34 = .ok (.new 53, 3) := by decide +kernel
theorem dC_condition_37 : decode cC_condition 37 = .ok (.dup, 1) := by decide +kernel
theorem dC_condition_38 : decode cC_condition 38 = .ok (.ldc 79, 2) := by decide +kernel
theorem dC_condition_40 : decode cC_condition 40 = .ok (.invokespecial 57, 3) := by decide +kernel
theorem dC_condition_43 : decode cC_condition 43 = .ok (.athrow, 1) := by decide +kernel
theorem dC_condition_44 : decode cC_condition 44 = .ok (.aload_n 0, 1) := by decide +kernel
theorem dC_condition_45 : decode cC_condition 45 = .ok (.getfield 21, 3) := by decide +kernel
theorem dC_condition_48 : decode cC_condition 48 = .ok (.iload_n 1, 1) := by decide +kernel
theorem dC_condition_49 : decode cC_condition 49 = .ok (.aaload, 1) := by decide +kernel
theorem dC_condition_50 : decode cC_condition 50 = .ok (.astore 6, 2) := by decide +kernel
theorem dC_condition_52 : decode cC_condition 52 = .ok (.aload 6, 2) := by decide +kernel
theorem dC_condition_54 : decode cC_condition 54 = .ok (.getfield 81, 3) := by decide +kernel
theorem dC_condition_57 : decode cC_condition 57 = .ok (.iconst 4, 1) := by decide +kernel
theorem dC_condition_58 : decode cC_condition 58 = .ok (.if_icmp .lt 13, 3) := by decide +kernel
theorem dC_condition_61 : decode cC_condition 61 = .ok (.new 60, 3) := by decide +kernel
theorem dC_condition_64 : decode cC_condition 64 = .ok (.dup, 1) := by decide +kernel
theorem dC_condition_65 : decode cC_condition 65 = .ok (.ldc 84, 2) := by decide +kernel
theorem dC_condition_67 : decode cC_condition 67 = .ok (.invokespecial 64, 3) := by decide +kernel
theorem dC_condition_70 : decode cC_condition 70 = .ok (.athrow, 1) := by decide +kernel
theorem dC_condition_71 : decode cC_condition 71 = .ok (.aload 6, 2) := by decide +kernel
theorem dC_condition_73 : decode cC_condition 73 = .ok (.dup, 1) := by decide +kernel
theorem dC_condition_74 : decode cC_condition 74 = .ok (.getfield 81, 3) := by decide +kernel
theorem dC_condition_77 : decode cC_condition 77 = .ok (.iconst 1, 1) := by decide +kernel
theorem dC_condition_78 : decode cC_condition 78 = .ok (.iadd, 1) := by decide +kernel
theorem dC_condition_79 : decode cC_condition 79 = .ok (.putfield 81, 3) := by decide +kernel
theorem dC_condition_82 : decode cC_condition 82 = .ok (.aload 6, 2) := by decide +kernel
theorem dC_condition_84 : decode cC_condition 84 = .ok (.dup, 1) := by decide +kernel
theorem dC_condition_85 : decode cC_condition 85 = .ok (.getfield 86, 3) := by decide +kernel
theorem dC_condition_88 : decode cC_condition 88 = .ok (.iload_n 2, 1) := by decide +kernel
theorem dC_condition_89 : decode cC_condition 89 = .ok (.iload_n 3, 1) := by decide +kernel
theorem dC_condition_90 : decode cC_condition 90 = .ok (.invokestatic 89, 3) := by decide +kernel
theorem dC_condition_93 : decode cC_condition 93 = .ok (.ior, 1) := by decide +kernel
theorem dC_condition_94 : decode cC_condition 94 = .ok (.putfield 86, 3) := by decide +kernel
theorem dC_condition_97 : decode cC_condition 97 = .ok (.aload 6, 2) := by decide +kernel
theorem dC_condition_99 : decode cC_condition 99 = .ok (.getfield 92, 3) := by decide +kernel
theorem dC_condition_102 : decode cC_condition 102 = .ok (.iload_n 2, 1) := by decide +kernel
theorem dC_condition_103 : decode cC_condition 103 = .ok (.iload_n 3, 1) := by decide +kernel
theorem dC_condition_104 : decode cC_condition 104 = .ok (.iload 4, 2) := by decide +kernel
theorem dC_condition_106 : decode cC_condition 106 = .ok (.iload 5, 2) := by decide +kernel
theorem dC_condition_108 : decode cC_condition 108 = .ok (.invokevirtual 95, 3) := by decide +kernel
theorem dC_condition_111 : decode cC_condition 111 = .ok (.istore 7, 2) := by decide +kernel
theorem dC_condition_113 : decode cC_condition 113 = .ok (.iload 7, 2) := by decide +kernel
theorem dC_condition_115 : decode cC_condition 115 = .ok (.ifCond .eq 8, 3) := by decide +kernel
theorem dC_condition_118 : decode cC_condition 118 = .ok (.aload_n 0, 1) := by decide +kernel
theorem dC_condition_119 : decode cC_condition 119 = .ok (.iload_n 1, 1) := by decide +kernel
theorem dC_condition_120 : decode cC_condition 120 = .ok (.invokevirtual 69, 3) := by decide +kernel
theorem dC_condition_123 : decode cC_condition 123 = .ok (.iload 7, 2) := by decide +kernel
theorem dC_condition_125 : decode cC_condition 125 = .ok (.ireturn, 1) := by decide +kernel
theorem dC_requireEncoding_0 : decode cC_requireEncoding 0 = .ok (.iload_n 1, 1) := by decide +kernel
theorem dC_requireEncoding_1 : decode cC_requireEncoding 1 = .ok (.ifCond .lt 11, 3) := by decide +kernel
theorem dC_requireEncoding_4 : decode cC_requireEncoding 4 = .ok (.iload_n 1, 1) := by decide +kernel
theorem dC_requireEncoding_5 : decode cC_requireEncoding 5 = .ok (.aload_n 0, 1) := by decide +kernel
theorem dC_requireEncoding_6 : decode cC_requireEncoding 6 = .ok (.getfield 28, 3) := by decide +kernel
theorem dC_requireEncoding_9 : decode cC_requireEncoding 9 = .ok (.if_icmp .lt 13, 3) := by decide +kernel
theorem dC_requireEncoding_12 : decode cC_requireEncoding 12 = .ok (.new 114, 3) := by decide +kernel
theorem dC_requireEncoding_15 : decode cC_requireEncoding 15 = .ok (.dup, 1) := by decide +kernel
theorem dC_requireEncoding_16 : decode cC_requireEncoding 16 = .ok (.ldc 189, 2) := by decide +kernel
theorem dC_requireEncoding_18 : decode cC_requireEncoding 18 = .ok (.invokespecial 118, 3) := by decide +kernel
theorem dC_requireEncoding_21 : decode cC_requireEncoding 21 = .ok (.athrow, 1) := by decide +kernel
theorem dC_requireEncoding_22 : decode cC_requireEncoding 22 = .ok (.return_, 1) := by decide +kernel
theorem dC_requireField_0 : decode cC_requireField 0 = .ok (.iload_n 1, 1) := by decide +kernel
theorem dC_requireField_1 : decode cC_requireField 1 = .ok (.ifCond .lt 16, 3) := by decide +kernel
theorem dC_requireField_4 : decode cC_requireField 4 = .ok (.iload_n 2, 1) := by decide +kernel
theorem dC_requireField_5 : decode cC_requireField 5 = .ok (.iload_n 1, 1) := by decide +kernel
theorem dC_requireField_6 : decode cC_requireField 6 = .ok (.if_icmp .lt 11, 3) := by decide +kernel
theorem dC_requireField_9 : decode cC_requireField 9 = .ok (.iload_n 2, 1) := by decide +kernel
theorem dC_requireField_10 : decode cC_requireField 10 = .ok (.aload_n 0, 1) := by decide +kernel
theorem dC_requireField_11 : decode cC_requireField 11 = .ok (.getfield 15, 3) := by decide +kernel
theorem dC_requireField_14 : decode cC_requireField 14 = .ok (.if_icmp .lt 13, 3) := by decide +kernel
theorem dC_requireField_17 : decode cC_requireField 17 = .ok (.new 53, 3) := by decide +kernel
theorem dC_requireField_20 : decode cC_requireField 20 = .ok (.dup, 1) := by decide +kernel
theorem dC_requireField_21 : decode cC_requireField 21 = .ok (.ldc 191, 2) := by decide +kernel
theorem dC_requireField_23 : decode cC_requireField 23 = .ok (.invokespecial 57, 3) := by decide +kernel
theorem dC_requireField_26 : decode cC_requireField 26 = .ok (.athrow, 1) := by decide +kernel
theorem dC_requireField_27 : decode cC_requireField 27 = .ok (.return_, 1) := by decide +kernel
theorem dC_fieldBits_0 : decode cC_fieldBits 0 = .ok (.iconst 2, 1) := by decide +kernel
theorem dC_fieldBits_1 : decode cC_fieldBits 1 = .ok (.iload_n 1, 1) := by decide +kernel
theorem dC_fieldBits_2 : decode cC_fieldBits 2 = .ok (.iload_n 0, 1) := by decide +kernel
theorem dC_fieldBits_3 : decode cC_fieldBits 3 = .ok (.isub, 1) := by decide +kernel
theorem dC_fieldBits_4 : decode cC_fieldBits 4 = .ok (.ishl, 1) := by decide +kernel
theorem dC_fieldBits_5 : decode cC_fieldBits 5 = .ok (.iconst 1, 1) := by decide +kernel
theorem dC_fieldBits_6 : decode cC_fieldBits 6 = .ok (.isub, 1) := by decide +kernel
theorem dC_fieldBits_7 : decode cC_fieldBits 7 = .ok (.iload_n 0, 1) := by decide +kernel
theorem dC_fieldBits_8 : decode cC_fieldBits 8 = .ok (.ishl, 1) := by decide +kernel
theorem dC_fieldBits_9 : decode cC_fieldBits 9 = .ok (.ireturn, 1) := by decide +kernel
theorem dS_keepOnly_0 : decode cS_keepOnly 0 = .ok (.iconst 0, 1) := by decide +kernel
theorem dS_keepOnly_1 : decode cS_keepOnly 1 = .ok (.istore 5, 2) := by decide +kernel
theorem dS_keepOnly_3 : decode cS_keepOnly 3 = .ok (.iconst 0, 1) := by decide +kernel
theorem dS_keepOnly_4 : decode cS_keepOnly 4 = .ok (.istore 6, 2) := by decide +kernel
theorem dS_keepOnly_6 : decode cS_keepOnly 6 = .ok (.iload 6, 2) := by decide +kernel
theorem dS_keepOnly_8 : decode cS_keepOnly 8 = .ok (.aload_n 0, 1) := by decide +kernel
theorem dS_keepOnly_9 : decode cS_keepOnly 9 = .ok (.getfield 15, 3) := by decide +kernel
theorem dS_keepOnly_12 : decode cS_keepOnly 12 = .ok (.arraylength, 1) := by decide +kernel
theorem dS_keepOnly_13 : decode cS_keepOnly 13 = .ok (.if_icmp .ge 70, 3) := by decide +kernel
theorem dS_keepOnly_16 : decode cS_keepOnly 16 = .ok (.aload_n 0, 1) := by decide +kernel
theorem dS_keepOnly_17 : decode cS_keepOnly 17 = .ok (.getfield 15, 3) := by decide +kernel
theorem dS_keepOnly_20 : decode cS_keepOnly 20 = .ok (.iload 6, 2) := by decide +kernel
theorem dS_keepOnly_22 : decode cS_keepOnly 22 = .ok (.laload, 1) := by decide +kernel
theorem dS_keepOnly_23 : decode cS_keepOnly 23 = .ok (.lconst 0, 1) := by decide +kernel
theorem dS_keepOnly_24 : decode cS_keepOnly 24 = .ok (.lcmp, 1) := by decide +kernel
theorem dS_keepOnly_25 : decode cS_keepOnly 25 = .ok (.ifCond .ne 7, 3) := by decide +kernel
theorem dS_keepOnly_28 : decode cS_keepOnly 28 = .ok (.lconst 0, 1) := by decide +kernel
theorem dS_keepOnly_29 : decode cS_keepOnly 29 = .ok (.goto 14, 3) := by decide +kernel
theorem dS_keepOnly_32 : decode cS_keepOnly 32 = .ok (.aload_n 0, 1) := by decide +kernel
theorem dS_keepOnly_33 : decode cS_keepOnly 33 = .ok (.iload 6, 2) := by decide +kernel
theorem dS_keepOnly_35 : decode cS_keepOnly 35 = .ok (.iload_n 1, 1) := by decide +kernel
theorem dS_keepOnly_36 : decode cS_keepOnly 36 = .ok (.iload_n 2, 1) := by decide +kernel
theorem dS_keepOnly_37 : decode cS_keepOnly 37 = .ok (.iload_n 3, 1) := by decide +kernel
theorem dS_keepOnly_38 : decode cS_keepOnly 38 = .ok (.iload 4, 2) := by decide +kernel
theorem dS_keepOnly_40 : decode cS_keepOnly 40 = .ok (.invokevirtual 32, 3) := by decide +kernel
theorem dS_keepOnly_43 : decode cS_keepOnly 43 = .ok (.lstore 7, 2) := by decide +kernel
theorem dS_keepOnly_45 : decode cS_keepOnly 45 = .ok (.iload 5, 2) := by decide +kernel
theorem dS_keepOnly_47 : decode cS_keepOnly 47 = .ok (.lload 7, 2) := by decide +kernel
theorem dS_keepOnly_49 : decode cS_keepOnly 49 = .ok (.aload_n 0, 1) := by decide +kernel
theorem dS_keepOnly_50 : decode cS_keepOnly 50 = .ok (.getfield 15, 3) := by decide +kernel
theorem dS_keepOnly_53 : decode cS_keepOnly 53 = .ok (.iload 6, 2) := by decide +kernel
theorem dS_keepOnly_55 : decode cS_keepOnly 55 = .ok (.laload, 1) := by decide +kernel
theorem dS_keepOnly_56 : decode cS_keepOnly 56 = .ok (.lcmp, 1) := by decide +kernel
theorem dS_keepOnly_57 : decode cS_keepOnly 57 = .ok (.ifCond .eq 7, 3) := by decide +kernel
theorem dS_keepOnly_60 : decode cS_keepOnly 60 = .ok (.iconst 1, 1) := by decide +kernel
theorem dS_keepOnly_61 : decode cS_keepOnly 61 = .ok (.goto 4, 3) := by decide +kernel
theorem dS_keepOnly_64 : decode cS_keepOnly 64 = .ok (.iconst 0, 1) := by decide +kernel
theorem dS_keepOnly_65 : decode cS_keepOnly 65 = .ok (.ior, 1) := by decide +kernel
theorem dS_keepOnly_66 : decode cS_keepOnly 66 = .ok (.istore 5, 2) := by decide +kernel
theorem dS_keepOnly_68 : decode cS_keepOnly 68 = .ok (.aload_n 0, 1) := by decide +kernel
theorem dS_keepOnly_69 : decode cS_keepOnly 69 = .ok (.getfield 15, 3) := by decide +kernel
theorem dS_keepOnly_72 : decode cS_keepOnly 72 = .ok (.iload 6, 2) := by decide +kernel
theorem dS_keepOnly_74 : decode cS_keepOnly 74 = .ok (.lload 7, 2) := by decide +kernel
theorem dS_keepOnly_76 : decode cS_keepOnly 76 = .ok (.lastore, 1) := by decide +kernel
theorem dS_keepOnly_77 : decode cS_keepOnly 77 = .ok (.iinc 6 1, 3) := by decide +kernel
theorem dS_keepOnly_80 : decode cS_keepOnly 80 = .ok (.goto (-74), 3) := by decide +kernel
theorem dS_keepOnly_83 : decode cS_keepOnly 83 = .ok (.iload 5, 2) := by decide +kernel
theorem dS_keepOnly_85 : decode cS_keepOnly 85 = .ok (.ireturn, 1) := by decide +kernel
theorem dS_keptOfChunk_0 : decode cS_keptOfChunk 0 = .ok (.iconst 2, 1) := by decide +kernel
theorem dS_keptOfChunk_1 : decode cS_keptOfChunk 1 = .ok (.iload_n 3, 1) := by decide +kernel
theorem dS_keptOfChunk_2 : decode cS_keptOfChunk 2 = .ok (.iload_n 2, 1) := by decide +kernel
theorem dS_keptOfChunk_3 : decode cS_keptOfChunk 3 = .ok (.isub, 1) := by decide +kernel
theorem dS_keptOfChunk_4 : decode cS_keptOfChunk 4 = .ok (.ishl, 1) := by decide +kernel
theorem dS_keptOfChunk_5 : decode cS_keptOfChunk 5 = .ok (.iconst 1, 1) := by decide +kernel
theorem dS_keptOfChunk_6 : decode cS_keptOfChunk 6 = .ok (.isub, 1) := by decide +kernel
theorem dS_keptOfChunk_7 : decode cS_keptOfChunk 7 = .ok (.istore 6, 2) := by decide +kernel
theorem dS_keptOfChunk_9 : decode cS_keptOfChunk 9 = .ok (.aload_n 0, 1) := by decide +kernel
theorem dS_keptOfChunk_10 : decode cS_keptOfChunk 10 = .ok (.getfield 15, 3) := by decide +kernel
theorem dS_keptOfChunk_13 : decode cS_keptOfChunk 13 = .ok (.iload_n 1, 1) := by decide +kernel
theorem dS_keptOfChunk_14 : decode cS_keptOfChunk 14 = .ok (.laload, 1) := by decide +kernel
theorem dS_keptOfChunk_15 : decode cS_keptOfChunk 15 = .ok (.lstore 7, 2) := by decide +kernel
theorem dS_keptOfChunk_17 : decode cS_keptOfChunk 17 = .ok (.iconst 0, 1) := by decide +kernel
theorem dS_keptOfChunk_18 : decode cS_keptOfChunk 18 = .ok (.istore 9, 2) := by decide +kernel
theorem dS_keptOfChunk_20 : decode cS_keptOfChunk 20 = .ok (.iload 9, 2) := by decide +kernel
theorem dS_keptOfChunk_22 : decode cS_keptOfChunk 22 = .ok (.bipush 64, 2) := by decide +kernel
theorem dS_keptOfChunk_24 : decode cS_keptOfChunk 24 = .ok (.if_icmp .ge 56, 3) := by decide +kernel
theorem dS_keptOfChunk_27 : decode cS_keptOfChunk 27 = .ok (.iload_n 1, 1) := by decide +kernel
theorem dS_keptOfChunk_28 : decode cS_keptOfChunk 28 = .ok (.bipush 64, 2) := by decide +kernel
theorem dS_keptOfChunk_30 : decode cS_keptOfChunk 30 = .ok (.imul, 1) := by decide +kernel
theorem dS_keptOfChunk_31 : decode cS_keptOfChunk 31 = .ok (.iload 9, 2) := by decide +kernel
theorem dS_keptOfChunk_33 : decode cS_keptOfChunk 33 = .ok (.iadd, 1) := by decide +kernel
theorem dS_keptOfChunk_34 : decode cS_keptOfChunk 34 = .ok (.iload_n 2, 1) := by decide +kernel
theorem dS_keptOfChunk_35 : decode cS_keptOfChunk 35 = .ok (.ishr, 1) := by decide +kernel
theorem dS_keptOfChunk_36 : decode cS_keptOfChunk 36 = .ok (.iload 6, 2) := by decide +kernel
theorem dS_keptOfChunk_38 : decode cS_keptOfChunk 38 = .ok (.iand, 1) := by decide +kernel
theorem dS_keptOfChunk_39 : decode cS_keptOfChunk 39 = .ok (.istore 10, 2) := by decide +kernel
theorem dS_keptOfChunk_41 : decode cS_keptOfChunk 41 = .ok (.lload 7, 2) := by decide +kernel
theorem dS_keptOfChunk_43 : decode cS_keptOfChunk 43 = .ok (.lconst 1, 1) := by decide +kernel
theorem dS_keptOfChunk_44 : decode cS_keptOfChunk 44 = .ok (.iload 9, 2) := by decide +kernel
theorem dS_keptOfChunk_46 : decode cS_keptOfChunk 46 = .ok (.lshl, 1) := by decide +kernel
theorem dS_keptOfChunk_47 : decode cS_keptOfChunk 47 = .ok (.land, 1) := by decide +kernel
theorem dS_keptOfChunk_48 : decode cS_keptOfChunk 48 = .ok (.lconst 0, 1) := by decide +kernel
theorem dS_keptOfChunk_49 : decode cS_keptOfChunk 49 = .ok (.lcmp, 1) := by decide +kernel
theorem dS_keptOfChunk_50 : decode cS_keptOfChunk 50 = .ok (.ifCond .eq 24, 3) := by decide +kernel
theorem dS_keptOfChunk_53 : decode cS_keptOfChunk 53 = .ok (.iload 10, 2) := by decide +kernel
theorem dS_keptOfChunk_55 : decode cS_keptOfChunk 55 = .ok (.iload 4, 2) := by decide +kernel
theorem dS_keptOfChunk_57 : decode cS_keptOfChunk 57 = .ok (.iload 5, 2) := by decide +kernel
theorem dS_keptOfChunk_59 : decode cS_keptOfChunk 59 = .ok (.invokestatic 36, 3) := by decide +kernel
theorem dS_keptOfChunk_62 : decode cS_keptOfChunk 62 = .ok (.ifCond .ne 12, 3) := by decide +kernel
theorem dS_keptOfChunk_65 : decode cS_keptOfChunk 65 = .ok (.lload 7, 2) := by decide +kernel
theorem dS_keptOfChunk_67 : decode cS_keptOfChunk 67 = .ok (.lconst 1, 1) := by decide +kernel
theorem dS_keptOfChunk_68 : decode cS_keptOfChunk 68 = .ok (.iload 9, 2) := by decide +kernel
theorem dS_keptOfChunk_70 : decode cS_keptOfChunk 70 = .ok (.lshl, 1) := by decide +kernel
theorem dS_keptOfChunk_71 : decode cS_keptOfChunk 71 = .ok (.lxor, 1) := by decide +kernel
theorem dS_keptOfChunk_72 : decode cS_keptOfChunk 72 = .ok (.lstore 7, 2) := by decide +kernel
theorem dS_keptOfChunk_74 : decode cS_keptOfChunk 74 = .ok (.iinc 9 1, 3) := by decide +kernel
theorem dS_keptOfChunk_77 : decode cS_keptOfChunk 77 = .ok (.goto (-57), 3) := by decide +kernel
theorem dS_keptOfChunk_80 : decode cS_keptOfChunk 80 = .ok (.lload 7, 2) := by decide +kernel
theorem dS_keptOfChunk_82 : decode cS_keptOfChunk 82 = .ok (.lreturn, 1) := by decide +kernel
theorem dE_holds_0 : decode cE_holds 0 = .ok (.iload_n 1, 1) := by decide +kernel
theorem dE_holds_1 : decode cE_holds 1 = .ok (.tableswitch 98 0 4 #[35, 46, 57, 68, 79], 35) := by decide +kernel
theorem dE_holds_36 : decode cE_holds 36 = .ok (.iload_n 0, 1) := by decide +kernel
theorem dE_holds_37 : decode cE_holds 37 = .ok (.iload_n 2, 1) := by decide +kernel
theorem dE_holds_38 : decode cE_holds 38 = .ok (.if_icmp .ne 7, 3) := by decide +kernel
theorem dE_holds_41 : decode cE_holds 41 = .ok (.iconst 1, 1) := by decide +kernel
theorem dE_holds_42 : decode cE_holds 42 = .ok (.goto 4, 3) := by decide +kernel
theorem dE_holds_45 : decode cE_holds 45 = .ok (.iconst 0, 1) := by decide +kernel
theorem dE_holds_46 : decode cE_holds 46 = .ok (.ireturn, 1) := by decide +kernel
theorem dE_holds_47 : decode cE_holds 47 = .ok (.iload_n 0, 1) := by decide +kernel
theorem dE_holds_48 : decode cE_holds 48 = .ok (.iload_n 2, 1) := by decide +kernel
theorem dE_holds_49 : decode cE_holds 49 = .ok (.if_icmp .eq 7, 3) := by decide +kernel
theorem dE_holds_52 : decode cE_holds 52 = .ok (.iconst 1, 1) := by decide +kernel
theorem dE_holds_53 : decode cE_holds 53 = .ok (.goto 4, 3) := by decide +kernel
theorem dE_holds_56 : decode cE_holds 56 = .ok (.iconst 0, 1) := by decide +kernel
theorem dE_holds_57 : decode cE_holds 57 = .ok (.ireturn, 1) := by decide +kernel
theorem dE_holds_58 : decode cE_holds 58 = .ok (.iload_n 0, 1) := by decide +kernel
theorem dE_holds_59 : decode cE_holds 59 = .ok (.iload_n 2, 1) := by decide +kernel
theorem dE_holds_60 : decode cE_holds 60 = .ok (.if_icmp .ge 7, 3) := by decide +kernel
theorem dE_holds_63 : decode cE_holds 63 = .ok (.iconst 1, 1) := by decide +kernel
theorem dE_holds_64 : decode cE_holds 64 = .ok (.goto 4, 3) := by decide +kernel
theorem dE_holds_67 : decode cE_holds 67 = .ok (.iconst 0, 1) := by decide +kernel
theorem dE_holds_68 : decode cE_holds 68 = .ok (.ireturn, 1) := by decide +kernel
theorem dE_holds_69 : decode cE_holds 69 = .ok (.iload_n 0, 1) := by decide +kernel
theorem dE_holds_70 : decode cE_holds 70 = .ok (.iload_n 2, 1) := by decide +kernel
theorem dE_holds_71 : decode cE_holds 71 = .ok (.if_icmp .le 7, 3) := by decide +kernel
theorem dE_holds_74 : decode cE_holds 74 = .ok (.iconst 1, 1) := by decide +kernel
theorem dE_holds_75 : decode cE_holds 75 = .ok (.goto 4, 3) := by decide +kernel
theorem dE_holds_78 : decode cE_holds 78 = .ok (.iconst 0, 1) := by decide +kernel
theorem dE_holds_79 : decode cE_holds 79 = .ok (.ireturn, 1) := by decide +kernel
theorem dE_holds_80 : decode cE_holds 80 = .ok (.iload_n 0, 1) := by decide +kernel
theorem dE_holds_81 : decode cE_holds 81 = .ok (.iload_n 2, 1) := by decide +kernel
theorem dE_holds_82 : decode cE_holds 82 = .ok (.if_icmp .gt 15, 3) := by decide +kernel
theorem dE_holds_85 : decode cE_holds 85 = .ok (.iload_n 0, 1) := by decide +kernel
theorem dE_holds_86 : decode cE_holds 86 = .ok (.invokestatic 38, 3) := by decide +kernel
theorem dE_holds_89 : decode cE_holds 89 = .ok (.iconst 1, 1) := by decide +kernel
theorem dE_holds_90 : decode cE_holds 90 = .ok (.if_icmp .ne 7, 3) := by decide +kernel
theorem dE_holds_93 : decode cE_holds 93 = .ok (.iconst 1, 1) := by decide +kernel
theorem dE_holds_94 : decode cE_holds 94 = .ok (.goto 4, 3) := by decide +kernel
theorem dE_holds_97 : decode cE_holds 97 = .ok (.iconst 0, 1) := by decide +kernel
theorem dE_holds_98 : decode cE_holds 98 = .ok (.ireturn, 1) := by decide +kernel
theorem dE_holds_99 : decode cE_holds 99 = .ok (.iload_n 0, 1) := by decide +kernel
theorem dE_holds_100 : decode cE_holds 100 = .ok (.iload_n 2, 1) := by decide +kernel
theorem dE_holds_101 : decode cE_holds 101 = .ok (.if_icmp .lt 13, 3) := by decide +kernel
theorem dE_holds_104 : decode cE_holds 104 = .ok (.iload_n 0, 1) := by decide +kernel
theorem dE_holds_105 : decode cE_holds 105 = .ok (.iconst 1, 1) := by decide +kernel
theorem dE_holds_106 : decode cE_holds 106 = .ok (.iand, 1) := by decide +kernel
theorem dE_holds_107 : decode cE_holds 107 = .ok (.ifCond .ne 7, 3) := by decide +kernel
theorem dE_holds_110 : decode cE_holds 110 = .ok (.iconst 1, 1) := by decide +kernel
theorem dE_holds_111 : decode cE_holds 111 = .ok (.goto 4, 3) := by decide +kernel
theorem dE_holds_114 : decode cE_holds 114 = .ok (.iconst 0, 1) := by decide +kernel
theorem dE_holds_115 : decode cE_holds 115 = .ok (.ireturn, 1) := by decide +kernel
theorem dJI_bitCount_0 : decode cJI_bitCount 0 = .ok (.iload_n 0, 1) := by decide +kernel
theorem dJI_bitCount_1 : decode cJI_bitCount 1 = .ok (.iload_n 0, 1) := by decide +kernel
theorem dJI_bitCount_2 : decode cJI_bitCount 2 = .ok (.iconst 1, 1) := by decide +kernel
theorem dJI_bitCount_3 : decode cJI_bitCount 3 = .ok (.iushr, 1) := by decide +kernel
theorem dJI_bitCount_4 : decode cJI_bitCount 4 = .ok (.ldc_w 265, 3) := by decide +kernel
theorem dJI_bitCount_7 : decode cJI_bitCount 7 = .ok (.iand, 1) := by decide +kernel
theorem dJI_bitCount_8 : decode cJI_bitCount 8 = .ok (.isub, 1) := by decide +kernel
theorem dJI_bitCount_9 : decode cJI_bitCount 9 = .ok (.istore_n 0, 1) := by decide +kernel
theorem dJI_bitCount_10 : decode cJI_bitCount 10 = .ok (.iload_n 0, 1) := by decide +kernel
theorem dJI_bitCount_11 : decode cJI_bitCount 11 = .ok (.ldc_w 266, 3) := by decide +kernel
theorem dJI_bitCount_14 : decode cJI_bitCount 14 = .ok (.iand, 1) := by decide +kernel
theorem dJI_bitCount_15 : decode cJI_bitCount 15 = .ok (.iload_n 0, 1) := by decide +kernel
theorem dJI_bitCount_16 : decode cJI_bitCount 16 = .ok (.iconst 2, 1) := by decide +kernel
theorem dJI_bitCount_17 : decode cJI_bitCount 17 = .ok (.iushr, 1) := by decide +kernel
theorem dJI_bitCount_18 : decode cJI_bitCount 18 = .ok (.ldc_w 266, 3) := by decide +kernel
theorem dJI_bitCount_21 : decode cJI_bitCount 21 = .ok (.iand, 1) := by decide +kernel
theorem dJI_bitCount_22 : decode cJI_bitCount 22 = .ok (.iadd, 1) := by decide +kernel
theorem dJI_bitCount_23 : decode cJI_bitCount 23 = .ok (.istore_n 0, 1) := by decide +kernel
theorem dJI_bitCount_24 : decode cJI_bitCount 24 = .ok (.iload_n 0, 1) := by decide +kernel
theorem dJI_bitCount_25 : decode cJI_bitCount 25 = .ok (.iload_n 0, 1) := by decide +kernel
theorem dJI_bitCount_26 : decode cJI_bitCount 26 = .ok (.iconst 4, 1) := by decide +kernel
theorem dJI_bitCount_27 : decode cJI_bitCount 27 = .ok (.iushr, 1) := by decide +kernel
theorem dJI_bitCount_28 : decode cJI_bitCount 28 = .ok (.iadd, 1) := by decide +kernel
theorem dJI_bitCount_29 : decode cJI_bitCount 29 = .ok (.ldc_w 267, 3) := by decide +kernel
theorem dJI_bitCount_32 : decode cJI_bitCount 32 = .ok (.iand, 1) := by decide +kernel
theorem dJI_bitCount_33 : decode cJI_bitCount 33 = .ok (.istore_n 0, 1) := by decide +kernel
theorem dJI_bitCount_34 : decode cJI_bitCount 34 = .ok (.iload_n 0, 1) := by decide +kernel
theorem dJI_bitCount_35 : decode cJI_bitCount 35 = .ok (.iload_n 0, 1) := by decide +kernel
theorem dJI_bitCount_36 : decode cJI_bitCount 36 = .ok (.bipush 8, 2) := by decide +kernel
theorem dJI_bitCount_38 : decode cJI_bitCount 38 = .ok (.iushr, 1) := by decide +kernel
theorem dJI_bitCount_39 : decode cJI_bitCount 39 = .ok (.iadd, 1) := by decide +kernel
theorem dJI_bitCount_40 : decode cJI_bitCount 40 = .ok (.istore_n 0, 1) := by decide +kernel
theorem dJI_bitCount_41 : decode cJI_bitCount 41 = .ok (.iload_n 0, 1) := by decide +kernel
theorem dJI_bitCount_42 : decode cJI_bitCount 42 = .ok (.iload_n 0, 1) := by decide +kernel
theorem dJI_bitCount_43 : decode cJI_bitCount 43 = .ok (.bipush 16, 2) := by decide +kernel
theorem dJI_bitCount_45 : decode cJI_bitCount 45 = .ok (.iushr, 1) := by decide +kernel
theorem dJI_bitCount_46 : decode cJI_bitCount 46 = .ok (.iadd, 1) := by decide +kernel
theorem dJI_bitCount_47 : decode cJI_bitCount 47 = .ok (.istore_n 0, 1) := by decide +kernel
theorem dJI_bitCount_48 : decode cJI_bitCount 48 = .ok (.iload_n 0, 1) := by decide +kernel
theorem dJI_bitCount_49 : decode cJI_bitCount 49 = .ok (.bipush 63, 2) := by decide +kernel
theorem dJI_bitCount_51 : decode cJI_bitCount 51 = .ok (.iand, 1) := by decide +kernel
theorem dJI_bitCount_52 : decode cJI_bitCount 52 = .ok (.ireturn, 1) := by decide +kernel
theorem dC_operand_0 : decode cC_operand 0 = .ok (.aload_n 0, 1) := by decide +kernel
theorem dC_operand_1 : decode cC_operand 1 = .ok (.iload_n 1, 1) := by decide +kernel
theorem dC_operand_2 : decode cC_operand 2 = .ok (.invokevirtual 72, 3) := by decide +kernel
theorem dC_operand_5 : decode cC_operand 5 = .ok (.aload_n 0, 1) := by decide +kernel
theorem dC_operand_6 : decode cC_operand 6 = .ok (.iload_n 2, 1) := by decide +kernel
theorem dC_operand_7 : decode cC_operand 7 = .ok (.iload_n 3, 1) := by decide +kernel
theorem dC_operand_8 : decode cC_operand 8 = .ok (.invokevirtual 75, 3) := by decide +kernel
theorem dC_operand_11 : decode cC_operand 11 = .ok (.aload_n 0, 1) := by decide +kernel
theorem dC_operand_12 : decode cC_operand 12 = .ok (.getfield 21, 3) := by decide +kernel
theorem dC_operand_15 : decode cC_operand 15 = .ok (.iload_n 1, 1) := by decide +kernel
theorem dC_operand_16 : decode cC_operand 16 = .ok (.aaload, 1) := by decide +kernel
theorem dC_operand_17 : decode cC_operand 17 = .ok (.astore 4, 2) := by decide +kernel
theorem dC_operand_19 : decode cC_operand 19 = .ok (.iload_n 2, 1) := by decide +kernel
theorem dC_operand_20 : decode cC_operand 20 = .ok (.iload_n 3, 1) := by decide +kernel
theorem dC_operand_21 : decode cC_operand 21 = .ok (.invokestatic 89, 3) := by decide +kernel
theorem dC_operand_24 : decode cC_operand 24 = .ok (.aload 4, 2) := by decide +kernel
theorem dC_operand_26 : decode cC_operand 26 = .ok (.getfield 99, 3) := by decide +kernel
theorem dC_operand_29 : decode cC_operand 29 = .ok (.iconst (-1), 1) := by decide +kernel
theorem dC_operand_30 : decode cC_operand 30 = .ok (.ixor, 1) := by decide +kernel
theorem dC_operand_31 : decode cC_operand 31 = .ok (.iand, 1) := by decide +kernel
theorem dC_operand_32 : decode cC_operand 32 = .ok (.istore 5, 2) := by decide +kernel
theorem dC_operand_34 : decode cC_operand 34 = .ok (.aload 4, 2) := by decide +kernel
theorem dC_operand_36 : decode cC_operand 36 = .ok (.dup, 1) := by decide +kernel
theorem dC_operand_37 : decode cC_operand 37 = .ok (.getfield 99, 3) := by decide +kernel
theorem dC_operand_40 : decode cC_operand 40 = .ok (.iload 5, 2) := by decide +kernel
theorem dC_operand_42 : decode cC_operand 42 = .ok (.ior, 1) := by decide +kernel
theorem dC_operand_43 : decode cC_operand 43 = .ok (.putfield 99, 3) := by decide +kernel
theorem dC_operand_46 : decode cC_operand 46 = .ok (.iload 5, 2) := by decide +kernel
theorem dC_operand_48 : decode cC_operand 48 = .ok (.invokestatic 102, 3) := by decide +kernel
theorem dC_operand_51 : decode cC_operand 51 = .ok (.ireturn, 1) := by decide +kernel
theorem dC_needs_0 : decode cC_needs 0 = .ok (.aload_n 0, 1) := by decide +kernel
theorem dC_needs_1 : decode cC_needs 1 = .ok (.iload_n 1, 1) := by decide +kernel
theorem dC_needs_2 : decode cC_needs 2 = .ok (.invokevirtual 72, 3) := by decide +kernel
theorem dC_needs_5 : decode cC_needs 5 = .ok (.aload_n 0, 1) := by decide +kernel
theorem dC_needs_6 : decode cC_needs 6 = .ok (.iload_n 2, 1) := by decide +kernel
theorem dC_needs_7 : decode cC_needs 7 = .ok (.invokevirtual 108, 3) := by decide +kernel
theorem dC_needs_10 : decode cC_needs 10 = .ok (.aload_n 0, 1) := by decide +kernel
theorem dC_needs_11 : decode cC_needs 11 = .ok (.getfield 21, 3) := by decide +kernel
theorem dC_needs_14 : decode cC_needs 14 = .ok (.iload_n 1, 1) := by decide +kernel
theorem dC_needs_15 : decode cC_needs 15 = .ok (.aaload, 1) := by decide +kernel
theorem dC_needs_16 : decode cC_needs 16 = .ok (.getfield 111, 3) := by decide +kernel
theorem dC_needs_19 : decode cC_needs 19 = .ok (.istore_n 3, 1) := by decide +kernel
theorem dC_needs_20 : decode cC_needs 20 = .ok (.aload_n 0, 1) := by decide +kernel
theorem dC_needs_21 : decode cC_needs 21 = .ok (.getfield 21, 3) := by decide +kernel
theorem dC_needs_24 : decode cC_needs 24 = .ok (.iload_n 1, 1) := by decide +kernel
theorem dC_needs_25 : decode cC_needs 25 = .ok (.aaload, 1) := by decide +kernel
theorem dC_needs_26 : decode cC_needs 26 = .ok (.iload_n 2, 1) := by decide +kernel
theorem dC_needs_27 : decode cC_needs 27 = .ok (.putfield 111, 3) := by decide +kernel
theorem dC_needs_30 : decode cC_needs 30 = .ok (.iload_n 3, 1) := by decide +kernel
theorem dC_needs_31 : decode cC_needs 31 = .ok (.ireturn, 1) := by decide +kernel
theorem dC_requireVariants_0 : decode cC_requireVariants 0 = .ok (.iload_n 1, 1) := by decide +kernel
theorem dC_requireVariants_1 : decode cC_requireVariants 1 = .ok (.ifCond .lt 10, 3) := by decide +kernel
theorem dC_requireVariants_4 : decode cC_requireVariants 4 = .ok (.iload_n 1, 1) := by decide +kernel
theorem dC_requireVariants_5 : decode cC_requireVariants 5 = .ok (.sipush 256, 3) := by decide +kernel
theorem dC_requireVariants_8 : decode cC_requireVariants 8 = .ok (.if_icmp .lt 13, 3) := by decide +kernel
theorem dC_requireVariants_11 : decode cC_requireVariants 11 = .ok (.new 53, 3) := by decide +kernel
theorem dC_requireVariants_14 : decode cC_requireVariants 14 = .ok (.dup, 1) := by decide +kernel
theorem dC_requireVariants_15 : decode cC_requireVariants 15 = .ok (.ldc 193, 2) := by decide +kernel
theorem dC_requireVariants_17 : decode cC_requireVariants 17 = .ok (.invokespecial 57, 3) := by decide +kernel
theorem dC_requireVariants_20 : decode cC_requireVariants 20 = .ok (.athrow, 1) := by decide +kernel
theorem dC_requireVariants_21 : decode cC_requireVariants 21 = .ok (.return_, 1) := by decide +kernel
theorem dC_pair_0 : decode cC_pair 0 = .ok (.iload_n 1, 1) := by decide +kernel
theorem dC_pair_1 : decode cC_pair 1 = .ok (.ifCond .lt 12, 3) := by decide +kernel
theorem dC_pair_4 : decode cC_pair 4 = .ok (.iload_n 2, 1) := by decide +kernel
theorem dC_pair_5 : decode cC_pair 5 = .ok (.ifCond .lt 8, 3) := by decide +kernel
theorem dC_pair_8 : decode cC_pair 8 = .ok (.iload_n 2, 1) := by decide +kernel
theorem dC_pair_9 : decode cC_pair 9 = .ok (.iconst 3, 1) := by decide +kernel
theorem dC_pair_10 : decode cC_pair 10 = .ok (.if_icmp .le 13, 3) := by decide +kernel
theorem dC_pair_13 : decode cC_pair 13 = .ok (.new 114, 3) := by decide +kernel
theorem dC_pair_16 : decode cC_pair 16 = .ok (.dup, 1) := by decide +kernel
theorem dC_pair_17 : decode cC_pair 17 = .ok (.ldc 116, 2) := by decide +kernel
theorem dC_pair_19 : decode cC_pair 19 = .ok (.invokespecial 118, 3) := by decide +kernel
theorem dC_pair_22 : decode cC_pair 22 = .ok (.athrow, 1) := by decide +kernel
theorem dC_pair_23 : decode cC_pair 23 = .ok (.iload_n 1, 1) := by decide +kernel
theorem dC_pair_24 : decode cC_pair 24 = .ok (.istore_n 3, 1) := by decide +kernel
theorem dC_pair_25 : decode cC_pair 25 = .ok (.iconst 0, 1) := by decide +kernel
theorem dC_pair_26 : decode cC_pair 26 = .ok (.istore 4, 2) := by decide +kernel
theorem dC_pair_28 : decode cC_pair 28 = .ok (.iload 4, 2) := by decide +kernel
theorem dC_pair_30 : decode cC_pair 30 = .ok (.aload_n 0, 1) := by decide +kernel
theorem dC_pair_31 : decode cC_pair 31 = .ok (.getfield 28, 3) := by decide +kernel
theorem dC_pair_34 : decode cC_pair 34 = .ok (.if_icmp .ge 60, 3) := by decide +kernel
theorem dC_pair_37 : decode cC_pair 37 = .ok (.iload 4, 2) := by decide +kernel
theorem dC_pair_39 : decode cC_pair 39 = .ok (.iconst 1, 1) := by decide +kernel
theorem dC_pair_40 : decode cC_pair 40 = .ok (.iadd, 1) := by decide +kernel
theorem dC_pair_41 : decode cC_pair 41 = .ok (.istore 5, 2) := by decide +kernel
theorem dC_pair_43 : decode cC_pair 43 = .ok (.iload 5, 2) := by decide +kernel
theorem dC_pair_45 : decode cC_pair 45 = .ok (.aload_n 0, 1) := by decide +kernel
theorem dC_pair_46 : decode cC_pair 46 = .ok (.getfield 28, 3) := by decide +kernel
theorem dC_pair_49 : decode cC_pair 49 = .ok (.if_icmp .ge 39, 3) := by decide +kernel
theorem dC_pair_52 : decode cC_pair 52 = .ok (.aload_n 0, 1) := by decide +kernel
theorem dC_pair_53 : decode cC_pair 53 = .ok (.getfield 33, 3) := by decide +kernel
theorem dC_pair_56 : decode cC_pair 56 = .ok (.iload 4, 2) := by decide +kernel
theorem dC_pair_58 : decode cC_pair 58 = .ok (.aaload, 1) := by decide +kernel
theorem dC_pair_59 : decode cC_pair 59 = .ok (.iload 5, 2) := by decide +kernel
theorem dC_pair_61 : decode cC_pair 61 = .ok (.iaload, 1) := by decide +kernel
theorem dC_pair_62 : decode cC_pair 62 = .ok (.ifCond .le 20, 3) := by decide +kernel
theorem dC_pair_65 : decode cC_pair 65 = .ok (.iload_n 3, 1) := by decide +kernel
theorem dC_pair_66 : decode cC_pair 66 = .ok (.ifCond .ne 13, 3) := by decide +kernel
theorem dC_pair_69 : decode cC_pair 69 = .ok (.aload_n 0, 1) := by decide +kernel
theorem dC_pair_70 : decode cC_pair 70 = .ok (.iload 4, 2) := by decide +kernel
theorem dC_pair_72 : decode cC_pair 72 = .ok (.iload 5, 2) := by decide +kernel
theorem dC_pair_74 : decode cC_pair 74 = .ok (.iload_n 2, 1) := by decide +kernel
theorem dC_pair_75 : decode cC_pair 75 = .ok (.invokevirtual 119, 3) := by decide +kernel
theorem dC_pair_78 : decode cC_pair 78 = .ok (.ireturn, 1) := by decide +kernel
theorem dC_pair_79 : decode cC_pair 79 = .ok (.iinc 3 (-1), 3) := by decide +kernel
theorem dC_pair_82 : decode cC_pair 82 = .ok (.iinc 5 1, 3) := by decide +kernel
theorem dC_pair_85 : decode cC_pair 85 = .ok (.goto (-42), 3) := by decide +kernel
theorem dC_pair_88 : decode cC_pair 88 = .ok (.iinc 4 1, 3) := by decide +kernel
theorem dC_pair_91 : decode cC_pair 91 = .ok (.goto (-63), 3) := by decide +kernel
theorem dC_pair_94 : decode cC_pair 94 = .ok (.new 114, 3) := by decide +kernel
theorem dC_pair_97 : decode cC_pair 97 = .ok (.dup, 1) := by decide +kernel
theorem dC_pair_98 : decode cC_pair 98 = .ok (.ldc 123, 2) := by decide +kernel
theorem dC_pair_100 : decode cC_pair 100 = .ok (.invokespecial 118, 3) := by decide +kernel
theorem dC_pair_103 : decode cC_pair 103 = .ok (.athrow, 1) := by decide +kernel
theorem dC_ofPair_0 : decode cC_ofPair 0 = .ok (.iload_n 3, 1) := by decide +kernel
theorem dC_ofPair_1 : decode cC_ofPair 1 = .ok (.tableswitch 53 0 2 #[27, 29, 31], 27) := by decide +kernel
theorem dC_ofPair_28 : decode cC_ofPair 28 = .ok (.iload_n 1, 1) := by decide +kernel
theorem dC_ofPair_29 : decode cC_ofPair 29 = .ok (.ireturn, 1) := by decide +kernel
theorem dC_ofPair_30 : decode cC_ofPair 30 = .ok (.iload_n 2, 1) := by decide +kernel
theorem dC_ofPair_31 : decode cC_ofPair 31 = .ok (.ireturn, 1) := by decide +kernel
theorem dC_ofPair_32 : decode cC_ofPair 32 = .ok (.aload_n 0, 1) := by decide +kernel
theorem dC_ofPair_33 : decode cC_ofPair 33 = .ok (.getfield 21, 3) := by decide +kernel
theorem dC_ofPair_36 : decode cC_ofPair 36 = .ok (.iload_n 1, 1) := by decide +kernel
theorem dC_ofPair_37 : decode cC_ofPair 37 = .ok (.aaload, 1) := by decide +kernel
theorem dC_ofPair_38 : decode cC_ofPair 38 = .ok (.getfield 92, 3) := by decide +kernel
theorem dC_ofPair_41 : decode cC_ofPair 41 = .ok (.aload_n 0, 1) := by decide +kernel
theorem dC_ofPair_42 : decode cC_ofPair 42 = .ok (.getfield 21, 3) := by decide +kernel
theorem dC_ofPair_45 : decode cC_ofPair 45 = .ok (.iload_n 2, 1) := by decide +kernel
theorem dC_ofPair_46 : decode cC_ofPair 46 = .ok (.aaload, 1) := by decide +kernel
theorem dC_ofPair_47 : decode cC_ofPair 47 = .ok (.getfield 92, 3) := by decide +kernel
theorem dC_ofPair_50 : decode cC_ofPair 50 = .ok (.invokevirtual 195, 3) := by decide +kernel
theorem dC_ofPair_53 : decode cC_ofPair 53 = .ok (.ireturn, 1) := by decide +kernel
theorem dC_ofPair_54 : decode cC_ofPair 54 = .ok (.aload_n 0, 1) := by decide +kernel
theorem dC_ofPair_55 : decode cC_ofPair 55 = .ok (.getfield 33, 3) := by decide +kernel
theorem dC_ofPair_58 : decode cC_ofPair 58 = .ok (.iload_n 1, 1) := by decide +kernel
theorem dC_ofPair_59 : decode cC_ofPair 59 = .ok (.aaload, 1) := by decide +kernel
theorem dC_ofPair_60 : decode cC_ofPair 60 = .ok (.iload_n 2, 1) := by decide +kernel
theorem dC_ofPair_61 : decode cC_ofPair 61 = .ok (.iaload, 1) := by decide +kernel
theorem dC_ofPair_62 : decode cC_ofPair 62 = .ok (.ireturn, 1) := by decide +kernel
theorem dS_lowestCommon_0 : decode cS_lowestCommon 0 = .ok (.iconst 0, 1) := by decide +kernel
theorem dS_lowestCommon_1 : decode cS_lowestCommon 1 = .ok (.istore_n 2, 1) := by decide +kernel
theorem dS_lowestCommon_2 : decode cS_lowestCommon 2 = .ok (.iload_n 2, 1) := by decide +kernel
theorem dS_lowestCommon_3 : decode cS_lowestCommon 3 = .ok (.aload_n 0, 1) := by decide +kernel
theorem dS_lowestCommon_4 : decode cS_lowestCommon 4 = .ok (.getfield 15, 3) := by decide +kernel
theorem dS_lowestCommon_7 : decode cS_lowestCommon 7 = .ok (.arraylength, 1) := by decide +kernel
theorem dS_lowestCommon_8 : decode cS_lowestCommon 8 = .ok (.if_icmp .ge 48, 3) := by decide +kernel
theorem dS_lowestCommon_11 : decode cS_lowestCommon 11 = .ok (.iload_n 2, 1) := by decide +kernel
theorem dS_lowestCommon_12 : decode cS_lowestCommon 12 = .ok (.aload_n 1, 1) := by decide +kernel
theorem dS_lowestCommon_13 : decode cS_lowestCommon 13 = .ok (.getfield 15, 3) := by decide +kernel
theorem dS_lowestCommon_16 : decode cS_lowestCommon 16 = .ok (.arraylength, 1) := by decide +kernel
theorem dS_lowestCommon_17 : decode cS_lowestCommon 17 = .ok (.if_icmp .ge 39, 3) := by decide +kernel
theorem dS_lowestCommon_20 : decode cS_lowestCommon 20 = .ok (.aload_n 0, 1) := by decide +kernel
theorem dS_lowestCommon_21 : decode cS_lowestCommon 21 = .ok (.getfield 15, 3) := by decide +kernel
theorem dS_lowestCommon_24 : decode cS_lowestCommon 24 = .ok (.iload_n 2, 1) := by decide +kernel
theorem dS_lowestCommon_25 : decode cS_lowestCommon 25 = .ok (.laload, 1) := by decide +kernel
theorem dS_lowestCommon_26 : decode cS_lowestCommon 26 = .ok (.aload_n 1, 1) := by decide +kernel
theorem dS_lowestCommon_27 : decode cS_lowestCommon 27 = .ok (.getfield 15, 3) := by decide +kernel
theorem dS_lowestCommon_30 : decode cS_lowestCommon 30 = .ok (.iload_n 2, 1) := by decide +kernel
theorem dS_lowestCommon_31 : decode cS_lowestCommon 31 = .ok (.laload, 1) := by decide +kernel
theorem dS_lowestCommon_32 : decode cS_lowestCommon 32 = .ok (.land, 1) := by decide +kernel
theorem dS_lowestCommon_33 : decode cS_lowestCommon 33 = .ok (.lstore_n 3, 1) := by decide +kernel
theorem dS_lowestCommon_34 : decode cS_lowestCommon 34 = .ok (.lload_n 3, 1) := by decide +kernel
theorem dS_lowestCommon_35 : decode cS_lowestCommon 35 = .ok (.lconst 0, 1) := by decide +kernel
theorem dS_lowestCommon_36 : decode cS_lowestCommon 36 = .ok (.lcmp, 1) := by decide +kernel
theorem dS_lowestCommon_37 : decode cS_lowestCommon 37 = .ok (.ifCond .eq 13, 3) := by decide +kernel
theorem dS_lowestCommon_40 : decode cS_lowestCommon 40 = .ok (.iload_n 2, 1) := by decide +kernel
theorem dS_lowestCommon_41 : decode cS_lowestCommon 41 = .ok (.bipush 64, 2) := by decide +kernel
theorem dS_lowestCommon_43 : decode cS_lowestCommon 43 = .ok (.imul, 1) := by decide +kernel
theorem dS_lowestCommon_44 : decode cS_lowestCommon 44 = .ok (.lload_n 3, 1) := by decide +kernel
theorem dS_lowestCommon_45 : decode cS_lowestCommon 45 = .ok (.invokestatic 50, 3) := by decide +kernel
theorem dS_lowestCommon_48 : decode cS_lowestCommon 48 = .ok (.iadd, 1) := by decide +kernel
theorem dS_lowestCommon_49 : decode cS_lowestCommon 49 = .ok (.ireturn, 1) := by decide +kernel
theorem dS_lowestCommon_50 : decode cS_lowestCommon 50 = .ok (.iinc 2 1, 3) := by decide +kernel
theorem dS_lowestCommon_53 : decode cS_lowestCommon 53 = .ok (.goto (-51), 3) := by decide +kernel
theorem dS_lowestCommon_56 : decode cS_lowestCommon 56 = .ok (.iconst (-1), 1) := by decide +kernel
theorem dS_lowestCommon_57 : decode cS_lowestCommon 57 = .ok (.ireturn, 1) := by decide +kernel
theorem dJL_numberOfTrailingZeros_0 : decode cJL_numberOfTrailingZeros 0 = .ok (.lload_n 0, 1) := by decide +kernel
theorem dJL_numberOfTrailingZeros_1 : decode cJL_numberOfTrailingZeros 1 = .ok (.l2i, 1) := by decide +kernel
theorem dJL_numberOfTrailingZeros_2 : decode cJL_numberOfTrailingZeros 2 = .ok (.istore_n 2, 1) := by decide +kernel
theorem dJL_numberOfTrailingZeros_3 : decode cJL_numberOfTrailingZeros 3 = .ok (.iload_n 2, 1) := by decide +kernel
theorem dJL_numberOfTrailingZeros_4 : decode cJL_numberOfTrailingZeros 4 = .ok (.ifCond .ne 17, 3) := by decide +kernel
theorem dJL_numberOfTrailingZeros_7 : decode cJL_numberOfTrailingZeros 7 = .ok (.bipush 32, 2) := by decide +kernel
theorem dJL_numberOfTrailingZeros_9 : decode cJL_numberOfTrailingZeros 9 = .ok (.lload_n 0, 1) := by decide +kernel
theorem dJL_numberOfTrailingZeros_10 : decode cJL_numberOfTrailingZeros 10 = .ok (.bipush 32, 2) := by decide +kernel
theorem dJL_numberOfTrailingZeros_12 : decode cJL_numberOfTrailingZeros 12 = .ok (.lushr, 1) := by decide +kernel
theorem dJL_numberOfTrailingZeros_13 : decode cJL_numberOfTrailingZeros 13 = .ok (.l2i, 1) := by decide +kernel
theorem dJL_numberOfTrailingZeros_14 : decode cJL_numberOfTrailingZeros 14 = .ok (.invokestatic 311, 3) := by decide +kernel
theorem dJL_numberOfTrailingZeros_17 : decode cJL_numberOfTrailingZeros 17 = .ok (.iadd, 1) := by decide +kernel
theorem dJL_numberOfTrailingZeros_18 : decode cJL_numberOfTrailingZeros 18 = .ok (.goto 7, 3) := by decide +kernel
theorem dJL_numberOfTrailingZeros_21 : decode cJL_numberOfTrailingZeros 21 = .ok (.iload_n 2, 1) := by decide +kernel
theorem dJL_numberOfTrailingZeros_22 : decode cJL_numberOfTrailingZeros 22 = .ok (.invokestatic 311, 3) := by decide +kernel
theorem dJL_numberOfTrailingZeros_25 : decode cJL_numberOfTrailingZeros 25 = .ok (.ireturn, 1) := by decide +kernel
theorem dJI_numberOfTrailingZeros_0 : decode cJI_numberOfTrailingZeros 0 = .ok (.iload_n 0, 1) := by decide +kernel
theorem dJI_numberOfTrailingZeros_1 : decode cJI_numberOfTrailingZeros 1 = .ok (.iconst (-1), 1) := by decide +kernel
theorem dJI_numberOfTrailingZeros_2 : decode cJI_numberOfTrailingZeros 2 = .ok (.ixor, 1) := by decide +kernel
theorem dJI_numberOfTrailingZeros_3 : decode cJI_numberOfTrailingZeros 3 = .ok (.iload_n 0, 1) := by decide +kernel
theorem dJI_numberOfTrailingZeros_4 : decode cJI_numberOfTrailingZeros 4 = .ok (.iconst 1, 1) := by decide +kernel
theorem dJI_numberOfTrailingZeros_5 : decode cJI_numberOfTrailingZeros 5 = .ok (.isub, 1) := by decide +kernel
theorem dJI_numberOfTrailingZeros_6 : decode cJI_numberOfTrailingZeros 6 = .ok (.iand, 1) := by decide +kernel
theorem dJI_numberOfTrailingZeros_7 : decode cJI_numberOfTrailingZeros 7 = .ok (.istore_n 0, 1) := by decide +kernel
theorem dJI_numberOfTrailingZeros_8 : decode cJI_numberOfTrailingZeros 8 = .ok (.iload_n 0, 1) := by decide +kernel
theorem dJI_numberOfTrailingZeros_9 : decode cJI_numberOfTrailingZeros 9 = .ok (.ifCond .gt 8, 3) := by decide +kernel
theorem dJI_numberOfTrailingZeros_12 : decode cJI_numberOfTrailingZeros 12 = .ok (.iload_n 0, 1) := by decide +kernel
theorem dJI_numberOfTrailingZeros_13 : decode cJI_numberOfTrailingZeros 13 = .ok (.bipush 32, 2) := by decide +kernel
theorem dJI_numberOfTrailingZeros_15 : decode cJI_numberOfTrailingZeros 15 = .ok (.iand, 1) := by decide +kernel
theorem dJI_numberOfTrailingZeros_16 : decode cJI_numberOfTrailingZeros 16 = .ok (.ireturn, 1) := by decide +kernel
theorem dJI_numberOfTrailingZeros_17 : decode cJI_numberOfTrailingZeros 17 = .ok (.iconst 1, 1) := by decide +kernel
theorem dJI_numberOfTrailingZeros_18 : decode cJI_numberOfTrailingZeros 18 = .ok (.istore_n 1, 1) := by decide +kernel
theorem dJI_numberOfTrailingZeros_19 : decode cJI_numberOfTrailingZeros 19 = .ok (.iload_n 0, 1) := by decide +kernel
theorem dJI_numberOfTrailingZeros_20 : decode cJI_numberOfTrailingZeros 20 = .ok (.ldc_w 264, 3) := by decide +kernel
theorem dJI_numberOfTrailingZeros_23 : decode cJI_numberOfTrailingZeros 23 = .ok (.if_icmp .le 11, 3) := by decide +kernel
theorem dJI_numberOfTrailingZeros_26 : decode cJI_numberOfTrailingZeros 26 = .ok (.iinc 1 16, 3) := by decide +kernel
theorem dJI_numberOfTrailingZeros_29 : decode cJI_numberOfTrailingZeros 29 = .ok (.iload_n 0, 1) := by decide +kernel
theorem dJI_numberOfTrailingZeros_30 : decode cJI_numberOfTrailingZeros 30 = .ok (.bipush 16, 2) := by decide +kernel
theorem dJI_numberOfTrailingZeros_32 : decode cJI_numberOfTrailingZeros 32 = .ok (.iushr, 1) := by decide +kernel
theorem dJI_numberOfTrailingZeros_33 : decode cJI_numberOfTrailingZeros 33 = .ok (.istore_n 0, 1) := by decide +kernel
theorem dJI_numberOfTrailingZeros_34 : decode cJI_numberOfTrailingZeros 34 = .ok (.iload_n 0, 1) := by decide +kernel
theorem dJI_numberOfTrailingZeros_35 : decode cJI_numberOfTrailingZeros 35 = .ok (.sipush 256, 3) := by decide +kernel
theorem dJI_numberOfTrailingZeros_38 : decode cJI_numberOfTrailingZeros 38 = .ok (.if_icmp .le 11, 3) := by decide +kernel
theorem dJI_numberOfTrailingZeros_41 : decode cJI_numberOfTrailingZeros 41 = .ok (.iinc 1 8, 3) := by decide +kernel
theorem dJI_numberOfTrailingZeros_44 : decode cJI_numberOfTrailingZeros 44 = .ok (.iload_n 0, 1) := by decide +kernel
theorem dJI_numberOfTrailingZeros_45 : decode cJI_numberOfTrailingZeros 45 = .ok (.bipush 8, 2) := by decide +kernel
theorem dJI_numberOfTrailingZeros_47 : decode cJI_numberOfTrailingZeros 47 = .ok (.iushr, 1) := by decide +kernel
theorem dJI_numberOfTrailingZeros_48 : decode cJI_numberOfTrailingZeros 48 = .ok (.istore_n 0, 1) := by decide +kernel
theorem dJI_numberOfTrailingZeros_49 : decode cJI_numberOfTrailingZeros 49 = .ok (.iload_n 0, 1) := by decide +kernel
theorem dJI_numberOfTrailingZeros_50 : decode cJI_numberOfTrailingZeros 50 = .ok (.bipush 16, 2) := by decide +kernel
theorem dJI_numberOfTrailingZeros_52 : decode cJI_numberOfTrailingZeros 52 = .ok (.if_icmp .le 10, 3) := by decide +kernel
theorem dJI_numberOfTrailingZeros_55 : decode cJI_numberOfTrailingZeros 55 = .ok (.iinc 1 4, 3) := by decide +kernel
theorem dJI_numberOfTrailingZeros_58 : decode cJI_numberOfTrailingZeros 58 = .ok (.iload_n 0, 1) := by decide +kernel
theorem dJI_numberOfTrailingZeros_59 : decode cJI_numberOfTrailingZeros 59 = .ok (.iconst 4, 1) := by decide +kernel
theorem dJI_numberOfTrailingZeros_60 : decode cJI_numberOfTrailingZeros 60 = .ok (.iushr, 1) := by decide +kernel
theorem dJI_numberOfTrailingZeros_61 : decode cJI_numberOfTrailingZeros 61 = .ok (.istore_n 0, 1) := by decide +kernel
theorem dJI_numberOfTrailingZeros_62 : decode cJI_numberOfTrailingZeros 62 = .ok (.iload_n 0, 1) := by decide +kernel
theorem dJI_numberOfTrailingZeros_63 : decode cJI_numberOfTrailingZeros 63 = .ok (.iconst 4, 1) := by decide +kernel
theorem dJI_numberOfTrailingZeros_64 : decode cJI_numberOfTrailingZeros 64 = .ok (.if_icmp .le 10, 3) := by decide +kernel
theorem dJI_numberOfTrailingZeros_67 : decode cJI_numberOfTrailingZeros 67 = .ok (.iinc 1 2, 3) := by decide +kernel
theorem dJI_numberOfTrailingZeros_70 : decode cJI_numberOfTrailingZeros 70 = .ok (.iload_n 0, 1) := by decide +kernel
theorem dJI_numberOfTrailingZeros_71 : decode cJI_numberOfTrailingZeros 71 = .ok (.iconst 2, 1) := by decide +kernel
theorem dJI_numberOfTrailingZeros_72 : decode cJI_numberOfTrailingZeros 72 = .ok (.iushr, 1) := by decide +kernel
theorem dJI_numberOfTrailingZeros_73 : decode cJI_numberOfTrailingZeros 73 = .ok (.istore_n 0, 1) := by decide +kernel
theorem dJI_numberOfTrailingZeros_74 : decode cJI_numberOfTrailingZeros 74 = .ok (.iload_n 1, 1) := by decide +kernel
theorem dJI_numberOfTrailingZeros_75 : decode cJI_numberOfTrailingZeros 75 = .ok (.iload_n 0, 1) := by decide +kernel
theorem dJI_numberOfTrailingZeros_76 : decode cJI_numberOfTrailingZeros 76 = .ok (.iconst 1, 1) := by decide +kernel
theorem dJI_numberOfTrailingZeros_77 : decode cJI_numberOfTrailingZeros 77 = .ok (.iushr, 1) := by decide +kernel
theorem dJI_numberOfTrailingZeros_78 : decode cJI_numberOfTrailingZeros 78 = .ok (.iadd, 1) := by decide +kernel
theorem dJI_numberOfTrailingZeros_79 : decode cJI_numberOfTrailingZeros 79 = .ok (.ireturn, 1) := by decide +kernel
theorem dC_alias_0 : decode cC_alias 0 = .ok (.aload_n 0, 1) := by decide +kernel
theorem dC_alias_1 : decode cC_alias 1 = .ok (.iload_n 1, 1) := by decide +kernel
theorem dC_alias_2 : decode cC_alias 2 = .ok (.invokevirtual 72, 3) := by decide +kernel
theorem dC_alias_5 : decode cC_alias 5 = .ok (.aload_n 0, 1) := by decide +kernel
theorem dC_alias_6 : decode cC_alias 6 = .ok (.iload_n 2, 1) := by decide +kernel
theorem dC_alias_7 : decode cC_alias 7 = .ok (.invokevirtual 72, 3) := by decide +kernel
theorem dC_alias_10 : decode cC_alias 10 = .ok (.aload_n 0, 1) := by decide +kernel
theorem dC_alias_11 : decode cC_alias 11 = .ok (.getfield 33, 3) := by decide +kernel
theorem dC_alias_14 : decode cC_alias 14 = .ok (.iload_n 1, 1) := by decide +kernel
theorem dC_alias_15 : decode cC_alias 15 = .ok (.aaload, 1) := by decide +kernel
theorem dC_alias_16 : decode cC_alias 16 = .ok (.iload_n 2, 1) := by decide +kernel
theorem dC_alias_17 : decode cC_alias 17 = .ok (.iaload, 1) := by decide +kernel
theorem dC_alias_18 : decode cC_alias 18 = .ok (.ifCond .ne 5, 3) := by decide +kernel
theorem dC_alias_21 : decode cC_alias 21 = .ok (.iconst 0, 1) := by decide +kernel
theorem dC_alias_22 : decode cC_alias 22 = .ok (.ireturn, 1) := by decide +kernel
theorem dC_alias_23 : decode cC_alias 23 = .ok (.aload_n 0, 1) := by decide +kernel
theorem dC_alias_24 : decode cC_alias 24 = .ok (.iload_n 1, 1) := by decide +kernel
theorem dC_alias_25 : decode cC_alias 25 = .ok (.iload_n 2, 1) := by decide +kernel
theorem dC_alias_26 : decode cC_alias 26 = .ok (.invokevirtual 125, 3) := by decide +kernel
theorem dC_alias_29 : decode cC_alias 29 = .ok (.ifCond .eq 18, 3) := by decide +kernel
theorem dC_alias_32 : decode cC_alias 32 = .ok (.aload_n 0, 1) := by decide +kernel
theorem dC_alias_33 : decode cC_alias 33 = .ok (.iload_n 2, 1) := by decide +kernel
theorem dC_alias_34 : decode cC_alias 34 = .ok (.iload_n 1, 1) := by decide +kernel
theorem dC_alias_35 : decode cC_alias 35 = .ok (.invokevirtual 125, 3) := by decide +kernel
theorem dC_alias_38 : decode cC_alias 38 = .ok (.ifCond .eq 7, 3) := by decide +kernel
theorem dC_alias_41 : decode cC_alias 41 = .ok (.iconst 1, 1) := by decide +kernel
theorem dC_alias_42 : decode cC_alias 42 = .ok (.goto 4, 3) := by decide +kernel
theorem dC_alias_45 : decode cC_alias 45 = .ok (.iconst 2, 1) := by decide +kernel
theorem dC_alias_46 : decode cC_alias 46 = .ok (.ireturn, 1) := by decide +kernel
theorem dC_alias_47 : decode cC_alias 47 = .ok (.aload_n 0, 1) := by decide +kernel
theorem dC_alias_48 : decode cC_alias 48 = .ok (.iload_n 2, 1) := by decide +kernel
theorem dC_alias_49 : decode cC_alias 49 = .ok (.iload_n 1, 1) := by decide +kernel
theorem dC_alias_50 : decode cC_alias 50 = .ok (.invokevirtual 125, 3) := by decide +kernel
theorem dC_alias_53 : decode cC_alias 53 = .ok (.ifCond .eq 7, 3) := by decide +kernel
theorem dC_alias_56 : decode cC_alias 56 = .ok (.iconst 3, 1) := by decide +kernel
theorem dC_alias_57 : decode cC_alias 57 = .ok (.goto 4, 3) := by decide +kernel
theorem dC_alias_60 : decode cC_alias 60 = .ok (.iconst 4, 1) := by decide +kernel
theorem dC_alias_61 : decode cC_alias 61 = .ok (.ireturn, 1) := by decide +kernel
theorem dC_clashes_0 : decode cC_clashes 0 = .ok (.aload_n 0, 1) := by decide +kernel
theorem dC_clashes_1 : decode cC_clashes 1 = .ok (.iload_n 1, 1) := by decide +kernel
theorem dC_clashes_2 : decode cC_clashes 2 = .ok (.invokevirtual 108, 3) := by decide +kernel
theorem dC_clashes_5 : decode cC_clashes 5 = .ok (.iconst 0, 1) := by decide +kernel
theorem dC_clashes_6 : decode cC_clashes 6 = .ok (.istore_n 2, 1) := by decide +kernel
theorem dC_clashes_7 : decode cC_clashes 7 = .ok (.iconst 0, 1) := by decide +kernel
theorem dC_clashes_8 : decode cC_clashes 8 = .ok (.istore_n 3, 1) := by decide +kernel
theorem dC_clashes_9 : decode cC_clashes 9 = .ok (.iload_n 3, 1) := by decide +kernel
theorem dC_clashes_10 : decode cC_clashes 10 = .ok (.aload_n 0, 1) := by decide +kernel
theorem dC_clashes_11 : decode cC_clashes 11 = .ok (.getfield 28, 3) := by decide +kernel
theorem dC_clashes_14 : decode cC_clashes 14 = .ok (.if_icmp .ge 56, 3) := by decide +kernel
theorem dC_clashes_17 : decode cC_clashes 17 = .ok (.iload_n 3, 1) := by decide +kernel
theorem dC_clashes_18 : decode cC_clashes 18 = .ok (.iconst 1, 1) := by decide +kernel
theorem dC_clashes_19 : decode cC_clashes 19 = .ok (.iadd, 1) := by decide +kernel
theorem dC_clashes_20 : decode cC_clashes 20 = .ok (.istore 4, 2) := by decide +kernel
theorem dC_clashes_22 : decode cC_clashes 22 = .ok (.iload 4, 2) := by decide +kernel
theorem dC_clashes_24 : decode cC_clashes 24 = .ok (.aload_n 0, 1) := by decide +kernel
theorem dC_clashes_25 : decode cC_clashes 25 = .ok (.getfield 28, 3) := by decide +kernel
theorem dC_clashes_28 : decode cC_clashes 28 = .ok (.if_icmp .ge 36, 3) := by decide +kernel
theorem dC_clashes_31 : decode cC_clashes 31 = .ok (.aload_n 0, 1) := by decide +kernel
theorem dC_clashes_32 : decode cC_clashes 32 = .ok (.iload_n 3, 1) := by decide +kernel
theorem dC_clashes_33 : decode cC_clashes 33 = .ok (.iload 4, 2) := by decide +kernel
theorem dC_clashes_35 : decode cC_clashes 35 = .ok (.invokevirtual 129, 3) := by decide +kernel
theorem dC_clashes_38 : decode cC_clashes 38 = .ok (.iload_n 1, 1) := by decide +kernel
theorem dC_clashes_39 : decode cC_clashes 39 = .ok (.iconst (-1), 1) := by decide +kernel
theorem dC_clashes_40 : decode cC_clashes 40 = .ok (.ixor, 1) := by decide +kernel
theorem dC_clashes_41 : decode cC_clashes 41 = .ok (.iand, 1) := by decide +kernel
theorem dC_clashes_42 : decode cC_clashes 42 = .ok (.ifCond .ne 16, 3) := by decide +kernel
theorem dC_clashes_45 : decode cC_clashes 45 = .ok (.aload_n 0, 1) := by decide +kernel
theorem dC_clashes_46 : decode cC_clashes 46 = .ok (.iload_n 3, 1) := by decide +kernel
theorem dC_clashes_47 : decode cC_clashes 47 = .ok (.iload 4, 2) := by decide +kernel
theorem dC_clashes_49 : decode cC_clashes 49 = .ok (.invokevirtual 132, 3) := by decide +kernel
theorem dC_clashes_52 : decode cC_clashes 52 = .ok (.ifCond .eq 6, 3) := by decide +kernel
theorem dC_clashes_55 : decode cC_clashes 55 = .ok (.iinc 2 1, 3) := by decide +kernel
theorem dC_clashes_58 : decode cC_clashes 58 = .ok (.iinc 4 1, 3) := by decide +kernel
theorem dC_clashes_61 : decode cC_clashes 61 = .ok (.goto (-39), 3) := by decide +kernel
theorem dC_clashes_64 : decode cC_clashes 64 = .ok (.iinc 3 1, 3) := by decide +kernel
theorem dC_clashes_67 : decode cC_clashes 67 = .ok (.goto (-58), 3) := by decide +kernel
theorem dC_clashes_70 : decode cC_clashes 70 = .ok (.iload_n 2, 1) := by decide +kernel
theorem dC_clashes_71 : decode cC_clashes 71 = .ok (.ireturn, 1) := by decide +kernel
theorem dC_meaningless_0 : decode cC_meaningless 0 = .ok (.aload_n 0, 1) := by decide +kernel
theorem dC_meaningless_1 : decode cC_meaningless 1 = .ok (.iload_n 1, 1) := by decide +kernel
theorem dC_meaningless_2 : decode cC_meaningless 2 = .ok (.invokevirtual 72, 3) := by decide +kernel
theorem dC_meaningless_5 : decode cC_meaningless 5 = .ok (.aload_n 0, 1) := by decide +kernel
theorem dC_meaningless_6 : decode cC_meaningless 6 = .ok (.iload_n 1, 1) := by decide +kernel
theorem dC_meaningless_7 : decode cC_meaningless 7 = .ok (.invokevirtual 135, 3) := by decide +kernel
theorem dC_meaningless_10 : decode cC_meaningless 10 = .ok (.invokestatic 102, 3) := by decide +kernel
theorem dC_meaningless_13 : decode cC_meaningless 13 = .ok (.ireturn, 1) := by decide +kernel
theorem dC_idleBits_0 : decode cC_idleBits 0 = .ok (.aload_n 0, 1) := by decide +kernel
theorem dC_idleBits_1 : decode cC_idleBits 1 = .ok (.getfield 21, 3) := by decide +kernel
theorem dC_idleBits_4 : decode cC_idleBits 4 = .ok (.iload_n 1, 1) := by decide +kernel
theorem dC_idleBits_5 : decode cC_idleBits 5 = .ok (.aaload, 1) := by decide +kernel
theorem dC_idleBits_6 : decode cC_idleBits 6 = .ok (.astore_n 2, 1) := by decide +kernel
theorem dC_idleBits_7 : decode cC_idleBits 7 = .ok (.iconst 1, 1) := by decide +kernel
theorem dC_idleBits_8 : decode cC_idleBits 8 = .ok (.aload_n 0, 1) := by decide +kernel
theorem dC_idleBits_9 : decode cC_idleBits 9 = .ok (.getfield 15, 3) := by decide +kernel
theorem dC_idleBits_12 : decode cC_idleBits 12 = .ok (.ishl, 1) := by decide +kernel
theorem dC_idleBits_13 : decode cC_idleBits 13 = .ok (.iconst 1, 1) := by decide +kernel
theorem dC_idleBits_14 : decode cC_idleBits 14 = .ok (.isub, 1) := by decide +kernel
theorem dC_idleBits_15 : decode cC_idleBits 15 = .ok (.istore_n 3, 1) := by decide +kernel
theorem dC_idleBits_16 : decode cC_idleBits 16 = .ok (.iload_n 3, 1) := by decide +kernel
theorem dC_idleBits_17 : decode cC_idleBits 17 = .ok (.aload_n 2, 1) := by decide +kernel
theorem dC_idleBits_18 : decode cC_idleBits 18 = .ok (.getfield 198, 3) := by decide +kernel
theorem dC_idleBits_21 : decode cC_idleBits 21 = .ok (.aload_n 2, 1) := by decide +kernel
theorem dC_idleBits_22 : decode cC_idleBits 22 = .ok (.getfield 86, 3) := by decide +kernel
theorem dC_idleBits_25 : decode cC_idleBits 25 = .ok (.ior, 1) := by decide +kernel
theorem dC_idleBits_26 : decode cC_idleBits 26 = .ok (.aload_n 2, 1) := by decide +kernel
theorem dC_idleBits_27 : decode cC_idleBits 27 = .ok (.getfield 99, 3) := by decide +kernel
theorem dC_idleBits_30 : decode cC_idleBits 30 = .ok (.ior, 1) := by decide +kernel
theorem dC_idleBits_31 : decode cC_idleBits 31 = .ok (.iconst (-1), 1) := by decide +kernel
theorem dC_idleBits_32 : decode cC_idleBits 32 = .ok (.ixor, 1) := by decide +kernel
theorem dC_idleBits_33 : decode cC_idleBits 33 = .ok (.iand, 1) := by decide +kernel
theorem dC_idleBits_34 : decode cC_idleBits 34 = .ok (.ireturn, 1) := by decide +kernel
theorem dC_idle_0 : decode cC_idle 0 = .ok (.aload_n 0, 1) := by decide +kernel
theorem dC_idle_1 : decode cC_idle 1 = .ok (.iload_n 1, 1) := by decide +kernel
theorem dC_idle_2 : decode cC_idle 2 = .ok (.invokevirtual 72, 3) := by decide +kernel
theorem dC_idle_5 : decode cC_idle 5 = .ok (.aload_n 0, 1) := by decide +kernel
theorem dC_idle_6 : decode cC_idle 6 = .ok (.iload_n 1, 1) := by decide +kernel
theorem dC_idle_7 : decode cC_idle 7 = .ok (.invokevirtual 135, 3) := by decide +kernel
theorem dC_idle_10 : decode cC_idle 10 = .ok (.istore_n 3, 1) := by decide +kernel
theorem dC_idle_11 : decode cC_idle 11 = .ok (.iload_n 2, 1) := by decide +kernel
theorem dC_idle_12 : decode cC_idle 12 = .ok (.ifCond .lt 11, 3) := by decide +kernel
theorem dC_idle_15 : decode cC_idle 15 = .ok (.iload_n 2, 1) := by decide +kernel
theorem dC_idle_16 : decode cC_idle 16 = .ok (.iload_n 3, 1) := by decide +kernel
theorem dC_idle_17 : decode cC_idle 17 = .ok (.invokestatic 102, 3) := by decide +kernel
theorem dC_idle_20 : decode cC_idle 20 = .ok (.if_icmp .lt 13, 3) := by decide +kernel
theorem dC_idle_23 : decode cC_idle 23 = .ok (.new 53, 3) := by decide +kernel
theorem dC_idle_26 : decode cC_idle 26 = .ok (.dup, 1) := by decide +kernel
theorem dC_idle_27 : decode cC_idle 27 = .ok (.ldc 138, 2) := by decide +kernel
theorem dC_idle_29 : decode cC_idle 29 = .ok (.invokespecial 57, 3) := by decide +kernel
theorem dC_idle_32 : decode cC_idle 32 = .ok (.athrow, 1) := by decide +kernel
theorem dC_idle_33 : decode cC_idle 33 = .ok (.iload_n 3, 1) := by decide +kernel
theorem dC_idle_34 : decode cC_idle 34 = .ok (.i2l, 1) := by decide +kernel
theorem dC_idle_35 : decode cC_idle 35 = .ok (.iload_n 2, 1) := by decide +kernel
theorem dC_idle_36 : decode cC_idle 36 = .ok (.invokestatic 140, 3) := by decide +kernel
theorem dC_idle_39 : decode cC_idle 39 = .ok (.ireturn, 1) := by decide +kernel
theorem dS_placeOfBit_0 : decode cS_placeOfBit 0 = .ok (.iload_n 2, 1) := by decide +kernel
theorem dS_placeOfBit_1 : decode cS_placeOfBit 1 = .ok (.istore_n 3, 1) := by decide +kernel
theorem dS_placeOfBit_2 : decode cS_placeOfBit 2 = .ok (.iconst 0, 1) := by decide +kernel
theorem dS_placeOfBit_3 : decode cS_placeOfBit 3 = .ok (.istore 4, 2) := by decide +kernel
theorem dS_placeOfBit_5 : decode cS_placeOfBit 5 = .ok (.iload 4, 2) := by decide +kernel
theorem dS_placeOfBit_7 : decode cS_placeOfBit 7 = .ok (.bipush 64, 2) := by decide +kernel
theorem dS_placeOfBit_9 : decode cS_placeOfBit 9 = .ok (.if_icmp .ge 30, 3) := by decide +kernel
theorem dS_placeOfBit_12 : decode cS_placeOfBit 12 = .ok (.lload_n 0, 1) := by decide +kernel
theorem dS_placeOfBit_13 : decode cS_placeOfBit 13 = .ok (.lconst 1, 1) := by decide +kernel
theorem dS_placeOfBit_14 : decode cS_placeOfBit 14 = .ok (.iload 4, 2) := by decide +kernel
theorem dS_placeOfBit_16 : decode cS_placeOfBit 16 = .ok (.lshl, 1) := by decide +kernel
theorem dS_placeOfBit_17 : decode cS_placeOfBit 17 = .ok (.land, 1) := by decide +kernel
theorem dS_placeOfBit_18 : decode cS_placeOfBit 18 = .ok (.lconst 0, 1) := by decide +kernel
theorem dS_placeOfBit_19 : decode cS_placeOfBit 19 = .ok (.lcmp, 1) := by decide +kernel
theorem dS_placeOfBit_20 : decode cS_placeOfBit 20 = .ok (.ifCond .eq 13, 3) := by decide +kernel
theorem dS_placeOfBit_23 : decode cS_placeOfBit 23 = .ok (.iload_n 3, 1) := by decide +kernel
theorem dS_placeOfBit_24 : decode cS_placeOfBit 24 = .ok (.ifCond .ne 6, 3) := by decide +kernel
theorem dS_placeOfBit_27 : decode cS_placeOfBit 27 = .ok (.iload 4, 2) := by decide +kernel
theorem dS_placeOfBit_29 : decode cS_placeOfBit 29 = .ok (.ireturn, 1) := by decide +kernel
theorem dS_placeOfBit_30 : decode cS_placeOfBit 30 = .ok (.iinc 3 (-1), 3) := by decide +kernel
theorem dS_placeOfBit_33 : decode cS_placeOfBit 33 = .ok (.iinc 4 1, 3) := by decide +kernel
theorem dS_placeOfBit_36 : decode cS_placeOfBit 36 = .ok (.goto (-31), 3) := by decide +kernel
theorem dS_placeOfBit_39 : decode cS_placeOfBit 39 = .ok (.iconst (-1), 1) := by decide +kernel
theorem dS_placeOfBit_40 : decode cS_placeOfBit 40 = .ok (.ireturn, 1) := by decide +kernel
theorem dC_count_0 : decode cC_count 0 = .ok (.aload_n 0, 1) := by decide +kernel
theorem dC_count_1 : decode cC_count 1 = .ok (.iload_n 1, 1) := by decide +kernel
theorem dC_count_2 : decode cC_count 2 = .ok (.invokevirtual 72, 3) := by decide +kernel
theorem dC_count_5 : decode cC_count 5 = .ok (.aload_n 0, 1) := by decide +kernel
theorem dC_count_6 : decode cC_count 6 = .ok (.getfield 33, 3) := by decide +kernel
theorem dC_count_9 : decode cC_count 9 = .ok (.iload_n 1, 1) := by decide +kernel
theorem dC_count_10 : decode cC_count 10 = .ok (.aaload, 1) := by decide +kernel
theorem dC_count_11 : decode cC_count 11 = .ok (.iload_n 1, 1) := by decide +kernel
theorem dC_count_12 : decode cC_count 12 = .ok (.iaload, 1) := by decide +kernel
theorem dC_count_13 : decode cC_count 13 = .ok (.ireturn, 1) := by decide +kernel
theorem dC_blocks_0 : decode cC_blocks 0 = .ok (.aload_n 0, 1) := by decide +kernel
theorem dC_blocks_1 : decode cC_blocks 1 = .ok (.iload_n 1, 1) := by decide +kernel
theorem dC_blocks_2 : decode cC_blocks 2 = .ok (.invokevirtual 152, 3) := by decide +kernel
theorem dC_blocks_5 : decode cC_blocks 5 = .ok (.invokevirtual 156, 3) := by decide +kernel
theorem dC_blocks_8 : decode cC_blocks 8 = .ok (.ireturn, 1) := by decide +kernel
theorem dC_wordsOrNone_0 : decode cC_wordsOrNone 0 = .ok (.iload_n 1, 1) := by decide +kernel
theorem dC_wordsOrNone_1 : decode cC_wordsOrNone 1 = .ok (.iconst (-1), 1) := by decide +kernel
theorem dC_wordsOrNone_2 : decode cC_wordsOrNone 2 = .ok (.if_icmp .ne 8, 3) := by decide +kernel
theorem dC_wordsOrNone_5 : decode cC_wordsOrNone 5 = .ok (.aload_n 0, 1) := by decide +kernel
theorem dC_wordsOrNone_6 : decode cC_wordsOrNone 6 = .ok (.invokevirtual 144, 3) := by decide +kernel
theorem dC_wordsOrNone_9 : decode cC_wordsOrNone 9 = .ok (.areturn, 1) := by decide +kernel
theorem dC_wordsOrNone_10 : decode cC_wordsOrNone 10 = .ok (.aload_n 0, 1) := by decide +kernel
theorem dC_wordsOrNone_11 : decode cC_wordsOrNone 11 = .ok (.iload_n 1, 1) := by decide +kernel
theorem dC_wordsOrNone_12 : decode cC_wordsOrNone 12 = .ok (.invokevirtual 72, 3) := by decide +kernel
theorem dC_wordsOrNone_15 : decode cC_wordsOrNone 15 = .ok (.aload_n 0, 1) := by decide +kernel
theorem dC_wordsOrNone_16 : decode cC_wordsOrNone 16 = .ok (.getfield 21, 3) := by decide +kernel
theorem dC_wordsOrNone_19 : decode cC_wordsOrNone 19 = .ok (.iload_n 1, 1) := by decide +kernel
theorem dC_wordsOrNone_20 : decode cC_wordsOrNone 20 = .ok (.aaload, 1) := by decide +kernel
theorem dC_wordsOrNone_21 : decode cC_wordsOrNone 21 = .ok (.getfield 92, 3) := by decide +kernel
theorem dC_wordsOrNone_24 : decode cC_wordsOrNone 24 = .ok (.areturn, 1) := by decide +kernel
theorem dS_howManyBlocks_0 : decode cS_howManyBlocks 0 = .ok (.iconst 0, 1) := by decide +kernel
theorem dS_howManyBlocks_1 : decode cS_howManyBlocks 1 = .ok (.istore_n 1, 1) := by decide +kernel
theorem dS_howManyBlocks_2 : decode cS_howManyBlocks 2 = .ok (.iconst 0, 1) := by decide +kernel
theorem dS_howManyBlocks_3 : decode cS_howManyBlocks 3 = .ok (.istore_n 2, 1) := by decide +kernel
theorem dS_howManyBlocks_4 : decode cS_howManyBlocks 4 = .ok (.iconst 0, 1) := by decide +kernel
theorem dS_howManyBlocks_5 : decode cS_howManyBlocks 5 = .ok (.istore_n 3, 1) := by decide +kernel
theorem dS_howManyBlocks_6 : decode cS_howManyBlocks 6 = .ok (.iload_n 3, 1) := by decide +kernel
theorem dS_howManyBlocks_7 : decode cS_howManyBlocks 7 = .ok (.aload_n 0, 1) := by decide +kernel
theorem dS_howManyBlocks_8 : decode cS_howManyBlocks 8 = .ok (.getfield 15, 3) := by decide +kernel
theorem dS_howManyBlocks_11 : decode cS_howManyBlocks 11 = .ok (.arraylength, 1) := by decide +kernel
theorem dS_howManyBlocks_12 : decode cS_howManyBlocks 12 = .ok (.if_icmp .ge 37, 3) := by decide +kernel
theorem dS_howManyBlocks_15 : decode cS_howManyBlocks 15 = .ok (.iload_n 3, 1) := by decide +kernel
theorem dS_howManyBlocks_16 : decode cS_howManyBlocks 16 = .ok (.iload_n 2, 1) := by decide +kernel
theorem dS_howManyBlocks_17 : decode cS_howManyBlocks 17 = .ok (.if_icmp .ne 26, 3) := by decide +kernel
theorem dS_howManyBlocks_20 : decode cS_howManyBlocks 20 = .ok (.iload_n 1, 1) := by decide +kernel
theorem dS_howManyBlocks_21 : decode cS_howManyBlocks 21 = .ok (.aload_n 0, 1) := by decide +kernel
theorem dS_howManyBlocks_22 : decode cS_howManyBlocks 22 = .ok (.getfield 15, 3) := by decide +kernel
theorem dS_howManyBlocks_25 : decode cS_howManyBlocks 25 = .ok (.iload_n 3, 1) := by decide +kernel
theorem dS_howManyBlocks_26 : decode cS_howManyBlocks 26 = .ok (.laload, 1) := by decide +kernel
theorem dS_howManyBlocks_27 : decode cS_howManyBlocks 27 = .ok (.invokestatic 53, 3) := by decide +kernel
theorem dS_howManyBlocks_30 : decode cS_howManyBlocks 30 = .ok (.invokestatic 44, 3) := by decide +kernel
theorem dS_howManyBlocks_33 : decode cS_howManyBlocks 33 = .ok (.iadd, 1) := by decide +kernel
theorem dS_howManyBlocks_34 : decode cS_howManyBlocks 34 = .ok (.istore_n 1, 1) := by decide +kernel
theorem dS_howManyBlocks_35 : decode cS_howManyBlocks 35 = .ok (.iload_n 2, 1) := by decide +kernel
theorem dS_howManyBlocks_36 : decode cS_howManyBlocks 36 = .ok (.aload_n 0, 1) := by decide +kernel
theorem dS_howManyBlocks_37 : decode cS_howManyBlocks 37 = .ok (.iload_n 3, 1) := by decide +kernel
theorem dS_howManyBlocks_38 : decode cS_howManyBlocks 38 = .ok (.invokevirtual 57, 3) := by decide +kernel
theorem dS_howManyBlocks_41 : decode cS_howManyBlocks 41 = .ok (.iadd, 1) := by decide +kernel
theorem dS_howManyBlocks_42 : decode cS_howManyBlocks 42 = .ok (.istore_n 2, 1) := by decide +kernel
theorem dS_howManyBlocks_43 : decode cS_howManyBlocks 43 = .ok (.iinc 3 1, 3) := by decide +kernel
theorem dS_howManyBlocks_46 : decode cS_howManyBlocks 46 = .ok (.goto (-40), 3) := by decide +kernel
theorem dS_howManyBlocks_49 : decode cS_howManyBlocks 49 = .ok (.iload_n 1, 1) := by decide +kernel
theorem dS_howManyBlocks_50 : decode cS_howManyBlocks 50 = .ok (.ireturn, 1) := by decide +kernel
theorem dS_blockStarts_0 : decode cS_blockStarts 0 = .ok (.lconst 0, 1) := by decide +kernel
theorem dS_blockStarts_1 : decode cS_blockStarts 1 = .ok (.lstore_n 2, 1) := by decide +kernel
theorem dS_blockStarts_2 : decode cS_blockStarts 2 = .ok (.lload_n 0, 1) := by decide +kernel
theorem dS_blockStarts_3 : decode cS_blockStarts 3 = .ok (.lstore 4, 2) := by decide +kernel
theorem dS_blockStarts_5 : decode cS_blockStarts 5 = .ok (.iconst 1, 1) := by decide +kernel
theorem dS_blockStarts_6 : decode cS_blockStarts 6 = .ok (.istore 6, 2) := by decide +kernel
theorem dS_blockStarts_8 : decode cS_blockStarts 8 = .ok (.getstatic 69, 3) := by decide +kernel
theorem dS_blockStarts_11 : decode cS_blockStarts 11 = .ok (.astore 7, 2) := by decide +kernel
theorem dS_blockStarts_13 : decode cS_blockStarts 13 = .ok (.aload 7, 2) := by decide +kernel
theorem dS_blockStarts_15 : decode cS_blockStarts 15 = .ok (.arraylength, 1) := by decide +kernel
theorem dS_blockStarts_16 : decode cS_blockStarts 16 = .ok (.istore 8, 2) := by decide +kernel
theorem dS_blockStarts_18 : decode cS_blockStarts 18 = .ok (.iconst 0, 1) := by decide +kernel
theorem dS_blockStarts_19 : decode cS_blockStarts 19 = .ok (.istore 9, 2) := by decide +kernel
theorem dS_blockStarts_21 : decode cS_blockStarts 21 = .ok (.iload 9, 2) := by decide +kernel
theorem dS_blockStarts_23 : decode cS_blockStarts 23 = .ok (.iload 8, 2) := by decide +kernel
theorem dS_blockStarts_25 : decode cS_blockStarts 25 = .ok (.if_icmp .ge 57, 3) := by decide +kernel
theorem dS_blockStarts_28 : decode cS_blockStarts 28 = .ok (.aload 7, 2) := by decide +kernel
theorem dS_blockStarts_30 : decode cS_blockStarts 30 = .ok (.iload 9, 2) := by decide +kernel
theorem dS_blockStarts_32 : decode cS_blockStarts 32 = .ok (.laload, 1) := by decide +kernel
theorem dS_blockStarts_33 : decode cS_blockStarts 33 = .ok (.lstore 10, 2) := by decide +kernel
theorem dS_blockStarts_35 : decode cS_blockStarts 35 = .ok (.lload 4, 2) := by decide +kernel
theorem dS_blockStarts_37 : decode cS_blockStarts 37 = .ok (.lload 4, 2) := by decide +kernel
theorem dS_blockStarts_39 : decode cS_blockStarts 39 = .ok (.iload 6, 2) := by decide +kernel
theorem dS_blockStarts_41 : decode cS_blockStarts 41 = .ok (.lushr, 1) := by decide +kernel
theorem dS_blockStarts_42 : decode cS_blockStarts 42 = .ok (.land, 1) := by decide +kernel
theorem dS_blockStarts_43 : decode cS_blockStarts 43 = .ok (.lload 10, 2) := by decide +kernel
theorem dS_blockStarts_45 : decode cS_blockStarts 45 = .ok (.land, 1) := by decide +kernel
theorem dS_blockStarts_46 : decode cS_blockStarts 46 = .ok (.lstore 12, 2) := by decide +kernel
theorem dS_blockStarts_48 : decode cS_blockStarts 48 = .ok (.lload_n 2, 1) := by decide +kernel
theorem dS_blockStarts_49 : decode cS_blockStarts 49 = .ok (.lload 4, 2) := by decide +kernel
theorem dS_blockStarts_51 : decode cS_blockStarts 51 = .ok (.lload 12, 2) := by decide +kernel
theorem dS_blockStarts_53 : decode cS_blockStarts 53 = .ok (.lload 12, 2) := by decide +kernel
theorem dS_blockStarts_55 : decode cS_blockStarts 55 = .ok (.iload 6, 2) := by decide +kernel
theorem dS_blockStarts_57 : decode cS_blockStarts 57 = .ok (.lshl, 1) := by decide +kernel
theorem dS_blockStarts_58 : decode cS_blockStarts 58 = .ok (.lor, 1) := by decide +kernel
theorem dS_blockStarts_59 : decode cS_blockStarts 59 = .ok (.ldc2_w 42, 3) := by decide +kernel
theorem dS_blockStarts_62 : decode cS_blockStarts 62 = .ok (.lxor, 1) := by decide +kernel
theorem dS_blockStarts_63 : decode cS_blockStarts 63 = .ok (.land, 1) := by decide +kernel
theorem dS_blockStarts_64 : decode cS_blockStarts 64 = .ok (.lor, 1) := by decide +kernel
theorem dS_blockStarts_65 : decode cS_blockStarts 65 = .ok (.lstore_n 2, 1) := by decide +kernel
theorem dS_blockStarts_66 : decode cS_blockStarts 66 = .ok (.lload 12, 2) := by decide +kernel
theorem dS_blockStarts_68 : decode cS_blockStarts 68 = .ok (.lstore 4, 2) := by decide +kernel
theorem dS_blockStarts_70 : decode cS_blockStarts 70 = .ok (.iload 6, 2) := by decide +kernel
theorem dS_blockStarts_72 : decode cS_blockStarts 72 = .ok (.iconst 2, 1) := by decide +kernel
theorem dS_blockStarts_73 : decode cS_blockStarts 73 = .ok (.imul, 1) := by decide +kernel
theorem dS_blockStarts_74 : decode cS_blockStarts 74 = .ok (.istore 6, 2) := by decide +kernel
theorem dS_blockStarts_76 : decode cS_blockStarts 76 = .ok (.iinc 9 1, 3) := by decide +kernel
theorem dS_blockStarts_79 : decode cS_blockStarts 79 = .ok (.goto (-58), 3) := by decide +kernel
theorem dS_blockStarts_82 : decode cS_blockStarts 82 = .ok (.lload_n 2, 1) := by decide +kernel
theorem dS_blockStarts_83 : decode cS_blockStarts 83 = .ok (.lload 4, 2) := by decide +kernel
theorem dS_blockStarts_85 : decode cS_blockStarts 85 = .ok (.lor, 1) := by decide +kernel
theorem dS_blockStarts_86 : decode cS_blockStarts 86 = .ok (.lreturn, 1) := by decide +kernel
theorem dS_chunksToNext_0 : decode cS_chunksToNext 0 = .ok (.iload_n 1, 1) := by decide +kernel
theorem dS_chunksToNext_1 : decode cS_chunksToNext 1 = .ok (.ifCond .lt 25, 3) := by decide +kernel
theorem dS_chunksToNext_4 : decode cS_chunksToNext 4 = .ok (.iload_n 1, 1) := by decide +kernel
theorem dS_chunksToNext_5 : decode cS_chunksToNext 5 = .ok (.aload_n 0, 1) := by decide +kernel
theorem dS_chunksToNext_6 : decode cS_chunksToNext 6 = .ok (.getfield 15, 3) := by decide +kernel
theorem dS_chunksToNext_9 : decode cS_chunksToNext 9 = .ok (.arraylength, 1) := by decide +kernel
theorem dS_chunksToNext_10 : decode cS_chunksToNext 10 = .ok (.if_icmp .ge 16, 3) := by decide +kernel
theorem dS_chunksToNext_13 : decode cS_chunksToNext 13 = .ok (.aload_n 0, 1) := by decide +kernel
theorem dS_chunksToNext_14 : decode cS_chunksToNext 14 = .ok (.getfield 15, 3) := by decide +kernel
theorem dS_chunksToNext_17 : decode cS_chunksToNext 17 = .ok (.iload_n 1, 1) := by decide +kernel
theorem dS_chunksToNext_18 : decode cS_chunksToNext 18 = .ok (.laload, 1) := by decide +kernel
theorem dS_chunksToNext_19 : decode cS_chunksToNext 19 = .ok (.ldc2_w 42, 3) := by decide +kernel
theorem dS_chunksToNext_22 : decode cS_chunksToNext 22 = .ok (.lcmp, 1) := by decide +kernel
theorem dS_chunksToNext_23 : decode cS_chunksToNext 23 = .ok (.ifCond .eq 5, 3) := by decide +kernel
theorem dS_chunksToNext_26 : decode cS_chunksToNext 26 = .ok (.iconst 1, 1) := by decide +kernel
theorem dS_chunksToNext_27 : decode cS_chunksToNext 27 = .ok (.ireturn, 1) := by decide +kernel
theorem dS_chunksToNext_28 : decode cS_chunksToNext 28 = .ok (.iconst 1, 1) := by decide +kernel
theorem dS_chunksToNext_29 : decode cS_chunksToNext 29 = .ok (.istore_n 2, 1) := by decide +kernel
theorem dS_chunksToNext_30 : decode cS_chunksToNext 30 = .ok (.bipush 6, 2) := by decide +kernel
theorem dS_chunksToNext_32 : decode cS_chunksToNext 32 = .ok (.istore_n 3, 1) := by decide +kernel
theorem dS_chunksToNext_33 : decode cS_chunksToNext 33 = .ok (.iload_n 3, 1) := by decide +kernel
theorem dS_chunksToNext_34 : decode cS_chunksToNext 34 = .ok (.aload_n 0, 1) := by decide +kernel
theorem dS_chunksToNext_35 : decode cS_chunksToNext 35 = .ok (.getfield 9, 3) := by decide +kernel
theorem dS_chunksToNext_38 : decode cS_chunksToNext 38 = .ok (.if_icmp .ge 37, 3) := by decide +kernel
theorem dS_chunksToNext_41 : decode cS_chunksToNext 41 = .ok (.iload_n 1, 1) := by decide +kernel
theorem dS_chunksToNext_42 : decode cS_chunksToNext 42 = .ok (.iconst 2, 1) := by decide +kernel
theorem dS_chunksToNext_43 : decode cS_chunksToNext 43 = .ok (.iload_n 2, 1) := by decide +kernel
theorem dS_chunksToNext_44 : decode cS_chunksToNext 44 = .ok (.imul, 1) := by decide +kernel
theorem dS_chunksToNext_45 : decode cS_chunksToNext 45 = .ok (.iconst 1, 1) := by decide +kernel
theorem dS_chunksToNext_46 : decode cS_chunksToNext 46 = .ok (.isub, 1) := by decide +kernel
theorem dS_chunksToNext_47 : decode cS_chunksToNext 47 = .ok (.iand, 1) := by decide +kernel
theorem dS_chunksToNext_48 : decode cS_chunksToNext 48 = .ok (.ifCond .ne 27, 3) := by decide +kernel
theorem dS_chunksToNext_51 : decode cS_chunksToNext 51 = .ok (.aload_n 0, 1) := by decide +kernel
theorem dS_chunksToNext_52 : decode cS_chunksToNext 52 = .ok (.iload_n 1, 1) := by decide +kernel
theorem dS_chunksToNext_53 : decode cS_chunksToNext 53 = .ok (.iload_n 2, 1) := by decide +kernel
theorem dS_chunksToNext_54 : decode cS_chunksToNext 54 = .ok (.iadd, 1) := by decide +kernel
theorem dS_chunksToNext_55 : decode cS_chunksToNext 55 = .ok (.iload_n 2, 1) := by decide +kernel
theorem dS_chunksToNext_56 : decode cS_chunksToNext 56 = .ok (.invokevirtual 72, 3) := by decide +kernel
theorem dS_chunksToNext_59 : decode cS_chunksToNext 59 = .ok (.ifCond .ne 6, 3) := by decide +kernel
theorem dS_chunksToNext_62 : decode cS_chunksToNext 62 = .ok (.goto 13, 3) := by decide +kernel
theorem dS_chunksToNext_65 : decode cS_chunksToNext 65 = .ok (.iload_n 2, 1) := by decide +kernel
theorem dS_chunksToNext_66 : decode cS_chunksToNext 66 = .ok (.iconst 2, 1) := by decide +kernel
theorem dS_chunksToNext_67 : decode cS_chunksToNext 67 = .ok (.imul, 1) := by decide +kernel
theorem dS_chunksToNext_68 : decode cS_chunksToNext 68 = .ok (.istore_n 2, 1) := by decide +kernel
theorem dS_chunksToNext_69 : decode cS_chunksToNext 69 = .ok (.iinc 3 1, 3) := by decide +kernel
theorem dS_chunksToNext_72 : decode cS_chunksToNext 72 = .ok (.goto (-39), 3) := by decide +kernel
theorem dS_chunksToNext_75 : decode cS_chunksToNext 75 = .ok (.iload_n 2, 1) := by decide +kernel
theorem dS_chunksToNext_76 : decode cS_chunksToNext 76 = .ok (.ireturn, 1) := by decide +kernel
theorem dS_allFull_0 : decode cS_allFull 0 = .ok (.iload_n 1, 1) := by decide +kernel
theorem dS_allFull_1 : decode cS_allFull 1 = .ok (.ifCond .lt 14, 3) := by decide +kernel
theorem dS_allFull_4 : decode cS_allFull 4 = .ok (.iload_n 1, 1) := by decide +kernel
theorem dS_allFull_5 : decode cS_allFull 5 = .ok (.iload_n 2, 1) := by decide +kernel
theorem dS_allFull_6 : decode cS_allFull 6 = .ok (.iadd, 1) := by decide +kernel
theorem dS_allFull_7 : decode cS_allFull 7 = .ok (.aload_n 0, 1) := by decide +kernel
theorem dS_allFull_8 : decode cS_allFull 8 = .ok (.getfield 15, 3) := by decide +kernel
theorem dS_allFull_11 : decode cS_allFull 11 = .ok (.arraylength, 1) := by decide +kernel
theorem dS_allFull_12 : decode cS_allFull 12 = .ok (.if_icmp .le 5, 3) := by decide +kernel
theorem dS_allFull_15 : decode cS_allFull 15 = .ok (.iconst 0, 1) := by decide +kernel
theorem dS_allFull_16 : decode cS_allFull 16 = .ok (.ireturn, 1) := by decide +kernel
theorem dS_allFull_17 : decode cS_allFull 17 = .ok (.iload_n 1, 1) := by decide +kernel
theorem dS_allFull_18 : decode cS_allFull 18 = .ok (.istore_n 3, 1) := by decide +kernel
theorem dS_allFull_19 : decode cS_allFull 19 = .ok (.iload_n 3, 1) := by decide +kernel
theorem dS_allFull_20 : decode cS_allFull 20 = .ok (.iload_n 1, 1) := by decide +kernel
theorem dS_allFull_21 : decode cS_allFull 21 = .ok (.iload_n 2, 1) := by decide +kernel
theorem dS_allFull_22 : decode cS_allFull 22 = .ok (.iadd, 1) := by decide +kernel
theorem dS_allFull_23 : decode cS_allFull 23 = .ok (.if_icmp .ge 24, 3) := by decide +kernel
theorem dS_allFull_26 : decode cS_allFull 26 = .ok (.aload_n 0, 1) := by decide +kernel
theorem dS_allFull_27 : decode cS_allFull 27 = .ok (.getfield 15, 3) := by decide +kernel
theorem dS_allFull_30 : decode cS_allFull 30 = .ok (.iload_n 3, 1) := by decide +kernel
theorem dS_allFull_31 : decode cS_allFull 31 = .ok (.laload, 1) := by decide +kernel
theorem dS_allFull_32 : decode cS_allFull 32 = .ok (.ldc2_w 42, 3) := by decide +kernel
theorem dS_allFull_35 : decode cS_allFull 35 = .ok (.lcmp, 1) := by decide +kernel
theorem dS_allFull_36 : decode cS_allFull 36 = .ok (.ifCond .eq 5, 3) := by decide +kernel
theorem dS_allFull_39 : decode cS_allFull 39 = .ok (.iconst 0, 1) := by decide +kernel
theorem dS_allFull_40 : decode cS_allFull 40 = .ok (.ireturn, 1) := by decide +kernel
theorem dS_allFull_41 : decode cS_allFull 41 = .ok (.iinc 3 1, 3) := by decide +kernel
theorem dS_allFull_44 : decode cS_allFull 44 = .ok (.goto (-25), 3) := by decide +kernel
theorem dS_allFull_47 : decode cS_allFull 47 = .ok (.iconst 1, 1) := by decide +kernel
theorem dS_allFull_48 : decode cS_allFull 48 = .ok (.ireturn, 1) := by decide +kernel
theorem dC_block_0 : decode cC_block 0 = .ok (.aload_n 0, 1) := by decide +kernel
theorem dC_block_1 : decode cC_block 1 = .ok (.iload_n 1, 1) := by decide +kernel
theorem dC_block_2 : decode cC_block 2 = .ok (.invokevirtual 152, 3) := by decide +kernel
theorem dC_block_5 : decode cC_block 5 = .ok (.astore 4, 2) := by decide +kernel
theorem dC_block_7 : decode cC_block 7 = .ok (.iload_n 2, 1) := by decide +kernel
theorem dC_block_8 : decode cC_block 8 = .ok (.ifCond .lt 12, 3) := by decide +kernel
theorem dC_block_11 : decode cC_block 11 = .ok (.iload_n 3, 1) := by decide +kernel
theorem dC_block_12 : decode cC_block 12 = .ok (.ifCond .lt 8, 3) := by decide +kernel
theorem dC_block_15 : decode cC_block 15 = .ok (.iload_n 3, 1) := by decide +kernel
theorem dC_block_16 : decode cC_block 16 = .ok (.iconst 1, 1) := by decide +kernel
theorem dC_block_17 : decode cC_block 17 = .ok (.if_icmp .le 13, 3) := by decide +kernel
theorem dC_block_20 : decode cC_block 20 = .ok (.new 53, 3) := by decide +kernel
theorem dC_block_23 : decode cC_block 23 = .ok (.dup, 1) := by decide +kernel
theorem dC_block_24 : decode cC_block 24 = .ok (.ldc 160, 2) := by decide +kernel
theorem dC_block_26 : decode cC_block 26 = .ok (.invokespecial 57, 3) := by decide +kernel
theorem dC_block_29 : decode cC_block 29 = .ok (.athrow, 1) := by decide +kernel
theorem dC_block_30 : decode cC_block 30 = .ok (.aload 4, 2) := by decide +kernel
theorem dC_block_32 : decode cC_block 32 = .ok (.iload_n 2, 1) := by decide +kernel
theorem dC_block_33 : decode cC_block 33 = .ok (.invokevirtual 162, 3) := by decide +kernel
theorem dC_block_36 : decode cC_block 36 = .ok (.istore 5, 2) := by decide +kernel
theorem dC_block_38 : decode cC_block 38 = .ok (.iload 5, 2) := by decide +kernel
theorem dC_block_40 : decode cC_block 40 = .ok (.iconst (-1), 1) := by decide +kernel
theorem dC_block_41 : decode cC_block 41 = .ok (.if_icmp .ne 13, 3) := by decide +kernel
theorem dC_block_44 : decode cC_block 44 = .ok (.new 53, 3) := by decide +kernel
theorem dC_block_47 : decode cC_block 47 = .ok (.dup, 1) := by decide +kernel
theorem dC_block_48 : decode cC_block 48 = .ok (.ldc 165, 2) := by decide +kernel
theorem dC_block_50 : decode cC_block 50 = .ok (.invokespecial 57, 3) := by decide +kernel
theorem dC_block_53 : decode cC_block 53 = .ok (.athrow, 1) := by decide +kernel
theorem dC_block_54 : decode cC_block 54 = .ok (.iload_n 3, 1) := by decide +kernel
theorem dC_block_55 : decode cC_block 55 = .ok (.ifCond .ne 8, 3) := by decide +kernel
theorem dC_block_58 : decode cC_block 58 = .ok (.iload 5, 2) := by decide +kernel
theorem dC_block_60 : decode cC_block 60 = .ok (.goto 10, 3) := by decide +kernel
theorem dC_block_63 : decode cC_block 63 = .ok (.aload 4, 2) := by decide +kernel
theorem dC_block_65 : decode cC_block 65 = .ok (.iload 5, 2) := by decide +kernel
theorem dC_block_67 : decode cC_block 67 = .ok (.invokevirtual 167, 3) := by decide +kernel
theorem dC_block_70 : decode cC_block 70 = .ok (.ireturn, 1) := by decide +kernel
theorem dS_lowestOfBlock_0 : decode cS_lowestOfBlock 0 = .ok (.iload_n 1, 1) := by decide +kernel
theorem dS_lowestOfBlock_1 : decode cS_lowestOfBlock 1 = .ok (.istore_n 2, 1) := by decide +kernel
theorem dS_lowestOfBlock_2 : decode cS_lowestOfBlock 2 = .ok (.iconst 0, 1) := by decide +kernel
theorem dS_lowestOfBlock_3 : decode cS_lowestOfBlock 3 = .ok (.istore_n 3, 1) := by decide +kernel
theorem dS_lowestOfBlock_4 : decode cS_lowestOfBlock 4 = .ok (.iconst 0, 1) := by decide +kernel
theorem dS_lowestOfBlock_5 : decode cS_lowestOfBlock 5 = .ok (.istore 4, 2) := by decide +kernel
theorem dS_lowestOfBlock_7 : decode cS_lowestOfBlock 7 = .ok (.iload 4, 2) := by decide +kernel
theorem dS_lowestOfBlock_9 : decode cS_lowestOfBlock 9 = .ok (.aload_n 0, 1) := by decide +kernel
theorem dS_lowestOfBlock_10 : decode cS_lowestOfBlock 10 = .ok (.getfield 15, 3) := by decide +kernel
theorem dS_lowestOfBlock_13 : decode cS_lowestOfBlock 13 = .ok (.arraylength, 1) := by decide +kernel
theorem dS_lowestOfBlock_14 : decode cS_lowestOfBlock 14 = .ok (.if_icmp .ge 67, 3) := by decide +kernel
theorem dS_lowestOfBlock_17 : decode cS_lowestOfBlock 17 = .ok (.iload 4, 2) := by decide +kernel
theorem dS_lowestOfBlock_19 : decode cS_lowestOfBlock 19 = .ok (.iload_n 3, 1) := by decide +kernel
theorem dS_lowestOfBlock_20 : decode cS_lowestOfBlock 20 = .ok (.if_icmp .ne 55, 3) := by decide +kernel
theorem dS_lowestOfBlock_23 : decode cS_lowestOfBlock 23 = .ok (.aload_n 0, 1) := by decide +kernel
theorem dS_lowestOfBlock_24 : decode cS_lowestOfBlock 24 = .ok (.getfield 15, 3) := by decide +kernel
theorem dS_lowestOfBlock_27 : decode cS_lowestOfBlock 27 = .ok (.iload 4, 2) := by decide +kernel
theorem dS_lowestOfBlock_29 : decode cS_lowestOfBlock 29 = .ok (.laload, 1) := by decide +kernel
theorem dS_lowestOfBlock_30 : decode cS_lowestOfBlock 30 = .ok (.invokestatic 53, 3) := by decide +kernel
theorem dS_lowestOfBlock_33 : decode cS_lowestOfBlock 33 = .ok (.lstore 5, 2) := by decide +kernel
theorem dS_lowestOfBlock_35 : decode cS_lowestOfBlock 35 = .ok (.lload 5, 2) := by decide +kernel
theorem dS_lowestOfBlock_37 : decode cS_lowestOfBlock 37 = .ok (.invokestatic 44, 3) := by decide +kernel
theorem dS_lowestOfBlock_40 : decode cS_lowestOfBlock 40 = .ok (.istore 7, 2) := by decide +kernel
theorem dS_lowestOfBlock_42 : decode cS_lowestOfBlock 42 = .ok (.iload_n 2, 1) := by decide +kernel
theorem dS_lowestOfBlock_43 : decode cS_lowestOfBlock 43 = .ok (.iload 7, 2) := by decide +kernel
theorem dS_lowestOfBlock_45 : decode cS_lowestOfBlock 45 = .ok (.if_icmp .ge 16, 3) := by decide +kernel
theorem dS_lowestOfBlock_48 : decode cS_lowestOfBlock 48 = .ok (.iload 4, 2) := by decide +kernel
theorem dS_lowestOfBlock_50 : decode cS_lowestOfBlock 50 = .ok (.bipush 64, 2) := by decide +kernel
theorem dS_lowestOfBlock_52 : decode cS_lowestOfBlock 52 = .ok (.imul, 1) := by decide +kernel
theorem dS_lowestOfBlock_53 : decode cS_lowestOfBlock 53 = .ok (.lload 5, 2) := by decide +kernel
theorem dS_lowestOfBlock_55 : decode cS_lowestOfBlock 55 = .ok (.iload_n 2, 1) := by decide +kernel
theorem dS_lowestOfBlock_56 : decode cS_lowestOfBlock 56 = .ok (.invokestatic 61, 3) := by decide +kernel
theorem dS_lowestOfBlock_59 : decode cS_lowestOfBlock 59 = .ok (.iadd, 1) := by decide +kernel
theorem dS_lowestOfBlock_60 : decode cS_lowestOfBlock 60 = .ok (.ireturn, 1) := by decide +kernel
theorem dS_lowestOfBlock_61 : decode cS_lowestOfBlock 61 = .ok (.iload_n 2, 1) := by decide +kernel
theorem dS_lowestOfBlock_62 : decode cS_lowestOfBlock 62 = .ok (.iload 7, 2) := by decide +kernel
theorem dS_lowestOfBlock_64 : decode cS_lowestOfBlock 64 = .ok (.isub, 1) := by decide +kernel
theorem dS_lowestOfBlock_65 : decode cS_lowestOfBlock 65 = .ok (.istore_n 2, 1) := by decide +kernel
theorem dS_lowestOfBlock_66 : decode cS_lowestOfBlock 66 = .ok (.iload_n 3, 1) := by decide +kernel
theorem dS_lowestOfBlock_67 : decode cS_lowestOfBlock 67 = .ok (.aload_n 0, 1) := by decide +kernel
theorem dS_lowestOfBlock_68 : decode cS_lowestOfBlock 68 = .ok (.iload 4, 2) := by decide +kernel
theorem dS_lowestOfBlock_70 : decode cS_lowestOfBlock 70 = .ok (.invokevirtual 57, 3) := by decide +kernel
theorem dS_lowestOfBlock_73 : decode cS_lowestOfBlock 73 = .ok (.iadd, 1) := by decide +kernel
theorem dS_lowestOfBlock_74 : decode cS_lowestOfBlock 74 = .ok (.istore_n 3, 1) := by decide +kernel
theorem dS_lowestOfBlock_75 : decode cS_lowestOfBlock 75 = .ok (.iinc 4 1, 3) := by decide +kernel
theorem dS_lowestOfBlock_78 : decode cS_lowestOfBlock 78 = .ok (.goto (-71), 3) := by decide +kernel
theorem dS_lowestOfBlock_81 : decode cS_lowestOfBlock 81 = .ok (.iconst (-1), 1) := by decide +kernel
theorem dS_lowestOfBlock_82 : decode cS_lowestOfBlock 82 = .ok (.ireturn, 1) := by decide +kernel
theorem dS_freeBitsOfBlock_0 : decode cS_freeBitsOfBlock 0 = .ok (.iload_n 1, 1) := by decide +kernel
theorem dS_freeBitsOfBlock_1 : decode cS_freeBitsOfBlock 1 = .ok (.bipush 6, 2) := by decide +kernel
theorem dS_freeBitsOfBlock_3 : decode cS_freeBitsOfBlock 3 = .ok (.ishr, 1) := by decide +kernel
theorem dS_freeBitsOfBlock_4 : decode cS_freeBitsOfBlock 4 = .ok (.istore_n 2, 1) := by decide +kernel
theorem dS_freeBitsOfBlock_5 : decode cS_freeBitsOfBlock 5 = .ok (.iload_n 2, 1) := by decide +kernel
theorem dS_freeBitsOfBlock_6 : decode cS_freeBitsOfBlock 6 = .ok (.ifCond .lt 12, 3) := by decide +kernel
theorem dS_freeBitsOfBlock_9 : decode cS_freeBitsOfBlock 9 = .ok (.iload_n 2, 1) := by decide +kernel
theorem dS_freeBitsOfBlock_10 : decode cS_freeBitsOfBlock 10 = .ok (.aload_n 0, 1) := by decide +kernel
theorem dS_freeBitsOfBlock_11 : decode cS_freeBitsOfBlock 11 = .ok (.getfield 15, 3) := by decide +kernel
theorem dS_freeBitsOfBlock_14 : decode cS_freeBitsOfBlock 14 = .ok (.arraylength, 1) := by decide +kernel
theorem dS_freeBitsOfBlock_15 : decode cS_freeBitsOfBlock 15 = .ok (.if_icmp .lt 5, 3) := by decide +kernel
theorem dS_freeBitsOfBlock_18 : decode cS_freeBitsOfBlock 18 = .ok (.iconst (-1), 1) := by decide +kernel
theorem dS_freeBitsOfBlock_19 : decode cS_freeBitsOfBlock 19 = .ok (.ireturn, 1) := by decide +kernel
theorem dS_freeBitsOfBlock_20 : decode cS_freeBitsOfBlock 20 = .ok (.aload_n 0, 1) := by decide +kernel
theorem dS_freeBitsOfBlock_21 : decode cS_freeBitsOfBlock 21 = .ok (.getfield 15, 3) := by decide +kernel
theorem dS_freeBitsOfBlock_24 : decode cS_freeBitsOfBlock 24 = .ok (.iload_n 2, 1) := by decide +kernel
theorem dS_freeBitsOfBlock_25 : decode cS_freeBitsOfBlock 25 = .ok (.laload, 1) := by decide +kernel
theorem dS_freeBitsOfBlock_26 : decode cS_freeBitsOfBlock 26 = .ok (.ldc2_w 42, 3) := by decide +kernel
theorem dS_freeBitsOfBlock_29 : decode cS_freeBitsOfBlock 29 = .ok (.lcmp, 1) := by decide +kernel
theorem dS_freeBitsOfBlock_30 : decode cS_freeBitsOfBlock 30 = .ok (.ifCond .ne 15, 3) := by decide +kernel
theorem dS_freeBitsOfBlock_33 : decode cS_freeBitsOfBlock 33 = .ok (.bipush 6, 2) := by decide +kernel
theorem dS_freeBitsOfBlock_35 : decode cS_freeBitsOfBlock 35 = .ok (.aload_n 0, 1) := by decide +kernel
theorem dS_freeBitsOfBlock_36 : decode cS_freeBitsOfBlock 36 = .ok (.iload_n 2, 1) := by decide +kernel
theorem dS_freeBitsOfBlock_37 : decode cS_freeBitsOfBlock 37 = .ok (.invokevirtual 57, 3) := by decide +kernel
theorem dS_freeBitsOfBlock_40 : decode cS_freeBitsOfBlock 40 = .ok (.invokestatic 65, 3) := by decide +kernel
theorem dS_freeBitsOfBlock_43 : decode cS_freeBitsOfBlock 43 = .ok (.iadd, 1) := by decide +kernel
theorem dS_freeBitsOfBlock_44 : decode cS_freeBitsOfBlock 44 = .ok (.ireturn, 1) := by decide +kernel
theorem dS_freeBitsOfBlock_45 : decode cS_freeBitsOfBlock 45 = .ok (.iload_n 1, 1) := by decide +kernel
theorem dS_freeBitsOfBlock_46 : decode cS_freeBitsOfBlock 46 = .ok (.bipush 63, 2) := by decide +kernel
theorem dS_freeBitsOfBlock_48 : decode cS_freeBitsOfBlock 48 = .ok (.iand, 1) := by decide +kernel
theorem dS_freeBitsOfBlock_49 : decode cS_freeBitsOfBlock 49 = .ok (.istore_n 3, 1) := by decide +kernel
theorem dS_freeBitsOfBlock_50 : decode cS_freeBitsOfBlock 50 = .ok (.iconst 0, 1) := by decide +kernel
theorem dS_freeBitsOfBlock_51 : decode cS_freeBitsOfBlock 51 = .ok (.istore 4, 2) := by decide +kernel
theorem dS_freeBitsOfBlock_53 : decode cS_freeBitsOfBlock 53 = .ok (.iconst 1, 1) := by decide +kernel
theorem dS_freeBitsOfBlock_54 : decode cS_freeBitsOfBlock 54 = .ok (.istore 5, 2) := by decide +kernel
theorem dS_freeBitsOfBlock_56 : decode cS_freeBitsOfBlock 56 = .ok (.iload 5, 2) := by decide +kernel
theorem dS_freeBitsOfBlock_58 : decode cS_freeBitsOfBlock 58 = .ok (.bipush 6, 2) := by decide +kernel
theorem dS_freeBitsOfBlock_60 : decode cS_freeBitsOfBlock 60 = .ok (.if_icmp .ge 69, 3) := by decide +kernel
theorem dS_freeBitsOfBlock_63 : decode cS_freeBitsOfBlock 63 = .ok (.lconst 1, 1) := by decide +kernel
theorem dS_freeBitsOfBlock_64 : decode cS_freeBitsOfBlock 64 = .ok (.iconst 1, 1) := by decide +kernel
theorem dS_freeBitsOfBlock_65 : decode cS_freeBitsOfBlock 65 = .ok (.iload 5, 2) := by decide +kernel
theorem dS_freeBitsOfBlock_67 : decode cS_freeBitsOfBlock 67 = .ok (.ishl, 1) := by decide +kernel
theorem dS_freeBitsOfBlock_68 : decode cS_freeBitsOfBlock 68 = .ok (.lshl, 1) := by decide +kernel
theorem dS_freeBitsOfBlock_69 : decode cS_freeBitsOfBlock 69 = .ok (.lconst 1, 1) := by decide +kernel
theorem dS_freeBitsOfBlock_70 : decode cS_freeBitsOfBlock 70 = .ok (.lsub, 1) := by decide +kernel
theorem dS_freeBitsOfBlock_71 : decode cS_freeBitsOfBlock 71 = .ok (.lstore 6, 2) := by decide +kernel
theorem dS_freeBitsOfBlock_73 : decode cS_freeBitsOfBlock 73 = .ok (.getstatic 69, 3) := by decide +kernel
theorem dS_freeBitsOfBlock_76 : decode cS_freeBitsOfBlock 76 = .ok (.iload 5, 2) := by decide +kernel
theorem dS_freeBitsOfBlock_78 : decode cS_freeBitsOfBlock 78 = .ok (.iconst 1, 1) := by decide +kernel
theorem dS_freeBitsOfBlock_79 : decode cS_freeBitsOfBlock 79 = .ok (.isub, 1) := by decide +kernel
theorem dS_freeBitsOfBlock_80 : decode cS_freeBitsOfBlock 80 = .ok (.laload, 1) := by decide +kernel
theorem dS_freeBitsOfBlock_81 : decode cS_freeBitsOfBlock 81 = .ok (.lconst 1, 1) := by decide +kernel
theorem dS_freeBitsOfBlock_82 : decode cS_freeBitsOfBlock 82 = .ok (.iload_n 3, 1) := by decide +kernel
theorem dS_freeBitsOfBlock_83 : decode cS_freeBitsOfBlock 83 = .ok (.lshl, 1) := by decide +kernel
theorem dS_freeBitsOfBlock_84 : decode cS_freeBitsOfBlock 84 = .ok (.land, 1) := by decide +kernel
theorem dS_freeBitsOfBlock_85 : decode cS_freeBitsOfBlock 85 = .ok (.lconst 0, 1) := by decide +kernel
theorem dS_freeBitsOfBlock_86 : decode cS_freeBitsOfBlock 86 = .ok (.lcmp, 1) := by decide +kernel
theorem dS_freeBitsOfBlock_87 : decode cS_freeBitsOfBlock 87 = .ok (.ifCond .eq 7, 3) := by decide +kernel
theorem dS_freeBitsOfBlock_90 : decode cS_freeBitsOfBlock 90 = .ok (.iconst 1, 1) := by decide +kernel
theorem dS_freeBitsOfBlock_91 : decode cS_freeBitsOfBlock 91 = .ok (.goto 4, 3) := by decide +kernel
theorem dS_freeBitsOfBlock_94 : decode cS_freeBitsOfBlock 94 = .ok (.iconst 0, 1) := by decide +kernel
theorem dS_freeBitsOfBlock_95 : decode cS_freeBitsOfBlock 95 = .ok (.istore 8, 2) := by decide +kernel
theorem dS_freeBitsOfBlock_97 : decode cS_freeBitsOfBlock 97 = .ok (.iload 8, 2) := by decide +kernel
theorem dS_freeBitsOfBlock_99 : decode cS_freeBitsOfBlock 99 = .ok (.ifCond .eq 24, 3) := by decide +kernel
theorem dS_freeBitsOfBlock_102 : decode cS_freeBitsOfBlock 102 = .ok (.aload_n 0, 1) := by decide +kernel
theorem dS_freeBitsOfBlock_103 : decode cS_freeBitsOfBlock 103 = .ok (.getfield 15, 3) := by decide +kernel
theorem dS_freeBitsOfBlock_106 : decode cS_freeBitsOfBlock 106 = .ok (.iload_n 2, 1) := by decide +kernel
theorem dS_freeBitsOfBlock_107 : decode cS_freeBitsOfBlock 107 = .ok (.laload, 1) := by decide +kernel
theorem dS_freeBitsOfBlock_108 : decode cS_freeBitsOfBlock 108 = .ok (.iload_n 3, 1) := by decide +kernel
theorem dS_freeBitsOfBlock_109 : decode cS_freeBitsOfBlock 109 = .ok (.lushr, 1) := by decide +kernel
theorem dS_freeBitsOfBlock_110 : decode cS_freeBitsOfBlock 110 = .ok (.lload 6, 2) := by decide +kernel
theorem dS_freeBitsOfBlock_112 : decode cS_freeBitsOfBlock 112 = .ok (.land, 1) := by decide +kernel
theorem dS_freeBitsOfBlock_113 : decode cS_freeBitsOfBlock 113 = .ok (.lload 6, 2) := by decide +kernel
theorem dS_freeBitsOfBlock_115 : decode cS_freeBitsOfBlock 115 = .ok (.lcmp, 1) := by decide +kernel
theorem dS_freeBitsOfBlock_116 : decode cS_freeBitsOfBlock 116 = .ok (.ifCond .ne 7, 3) := by decide +kernel
theorem dS_freeBitsOfBlock_119 : decode cS_freeBitsOfBlock 119 = .ok (.iload 5, 2) := by decide +kernel
theorem dS_freeBitsOfBlock_121 : decode cS_freeBitsOfBlock 121 = .ok (.istore 4, 2) := by decide +kernel
theorem dS_freeBitsOfBlock_123 : decode cS_freeBitsOfBlock 123 = .ok (.iinc 5 1, 3) := by decide +kernel
theorem dS_freeBitsOfBlock_126 : decode cS_freeBitsOfBlock 126 = .ok (.goto (-70), 3) := by decide +kernel
theorem dS_freeBitsOfBlock_129 : decode cS_freeBitsOfBlock 129 = .ok (.iload 4, 2) := by decide +kernel
theorem dS_freeBitsOfBlock_131 : decode cS_freeBitsOfBlock 131 = .ok (.ireturn, 1) := by decide +kernel
theorem dC_decode_0 : decode cC_decode 0 = .ok (.iload_n 1, 1) := by decide +kernel
theorem dC_decode_1 : decode cC_decode 1 = .ok (.ifCond .lt 13, 3) := by decide +kernel
theorem dC_decode_4 : decode cC_decode 4 = .ok (.iload_n 1, 1) := by decide +kernel
theorem dC_decode_5 : decode cC_decode 5 = .ok (.iconst 1, 1) := by decide +kernel
theorem dC_decode_6 : decode cC_decode 6 = .ok (.aload_n 0, 1) := by decide +kernel
theorem dC_decode_7 : decode cC_decode 7 = .ok (.getfield 15, 3) := by decide +kernel
theorem dC_decode_10 : decode cC_decode 10 = .ok (.ishl, 1) := by decide +kernel
theorem dC_decode_11 : decode cC_decode 11 = .ok (.if_icmp .lt 13, 3) := by decide +kernel
theorem dC_decode_14 : decode cC_decode 14 = .ok (.new 53, 3) := by decide +kernel
theorem dC_decode_17 : decode cC_decode 17 = .ok (.dup, 1) := by decide +kernel
theorem dC_decode_18 : decode cC_decode 18 = .ok (.ldc 170, 2) := by decide +kernel
theorem dC_decode_20 : decode cC_decode 20 = .ok (.invokespecial 57, 3) := by decide +kernel
theorem dC_decode_23 : decode cC_decode 23 = .ok (.athrow, 1) := by decide +kernel
theorem dC_decode_24 : decode cC_decode 24 = .ok (.iconst (-1), 1) := by decide +kernel
theorem dC_decode_25 : decode cC_decode 25 = .ok (.istore_n 2, 1) := by decide +kernel
theorem dC_decode_26 : decode cC_decode 26 = .ok (.iconst 0, 1) := by decide +kernel
theorem dC_decode_27 : decode cC_decode 27 = .ok (.istore_n 3, 1) := by decide +kernel
theorem dC_decode_28 : decode cC_decode 28 = .ok (.iload_n 3, 1) := by decide +kernel
theorem dC_decode_29 : decode cC_decode 29 = .ok (.aload_n 0, 1) := by decide +kernel
theorem dC_decode_30 : decode cC_decode 30 = .ok (.getfield 28, 3) := by decide +kernel
theorem dC_decode_33 : decode cC_decode 33 = .ok (.if_icmp .ge 43, 3) := by decide +kernel
theorem dC_decode_36 : decode cC_decode 36 = .ok (.aload_n 0, 1) := by decide +kernel
theorem dC_decode_37 : decode cC_decode 37 = .ok (.getfield 21, 3) := by decide +kernel
theorem dC_decode_40 : decode cC_decode 40 = .ok (.iload_n 3, 1) := by decide +kernel
theorem dC_decode_41 : decode cC_decode 41 = .ok (.aaload, 1) := by decide +kernel
theorem dC_decode_42 : decode cC_decode 42 = .ok (.getfield 92, 3) := by decide +kernel
theorem dC_decode_45 : decode cC_decode 45 = .ok (.iload_n 1, 1) := by decide +kernel
theorem dC_decode_46 : decode cC_decode 46 = .ok (.invokevirtual 172, 3) := by decide +kernel
theorem dC_decode_49 : decode cC_decode 49 = .ok (.ifCond .eq 21, 3) := by decide +kernel
theorem dC_decode_52 : decode cC_decode 52 = .ok (.aload_n 0, 1) := by decide +kernel
theorem dC_decode_53 : decode cC_decode 53 = .ok (.iload_n 3, 1) := by decide +kernel
theorem dC_decode_54 : decode cC_decode 54 = .ok (.iload_n 1, 1) := by decide +kernel
theorem dC_decode_55 : decode cC_decode 55 = .ok (.invokevirtual 176, 3) := by decide +kernel
theorem dC_decode_58 : decode cC_decode 58 = .ok (.ifCond .eq 5, 3) := by decide +kernel
theorem dC_decode_61 : decode cC_decode 61 = .ok (.iload_n 3, 1) := by decide +kernel
theorem dC_decode_62 : decode cC_decode 62 = .ok (.ireturn, 1) := by decide +kernel
theorem dC_decode_63 : decode cC_decode 63 = .ok (.iload_n 2, 1) := by decide +kernel
theorem dC_decode_64 : decode cC_decode 64 = .ok (.iconst (-1), 1) := by decide +kernel
theorem dC_decode_65 : decode cC_decode 65 = .ok (.if_icmp .ne 5, 3) := by decide +kernel
theorem dC_decode_68 : decode cC_decode 68 = .ok (.iload_n 3, 1) := by decide +kernel
theorem dC_decode_69 : decode cC_decode 69 = .ok (.istore_n 2, 1) := by decide +kernel
theorem dC_decode_70 : decode cC_decode 70 = .ok (.iinc 3 1, 3) := by decide +kernel
theorem dC_decode_73 : decode cC_decode 73 = .ok (.goto (-45), 3) := by decide +kernel
theorem dC_decode_76 : decode cC_decode 76 = .ok (.iload_n 2, 1) := by decide +kernel
theorem dC_decode_77 : decode cC_decode 77 = .ok (.ireturn, 1) := by decide +kernel
theorem dS_has_0 : decode cS_has 0 = .ok (.iload_n 1, 1) := by decide +kernel
theorem dS_has_1 : decode cS_has 1 = .ok (.bipush 6, 2) := by decide +kernel
theorem dS_has_3 : decode cS_has 3 = .ok (.ishr, 1) := by decide +kernel
theorem dS_has_4 : decode cS_has 4 = .ok (.istore_n 2, 1) := by decide +kernel
theorem dS_has_5 : decode cS_has 5 = .ok (.iload_n 2, 1) := by decide +kernel
theorem dS_has_6 : decode cS_has 6 = .ok (.ifCond .lt 31, 3) := by decide +kernel
theorem dS_has_9 : decode cS_has 9 = .ok (.iload_n 2, 1) := by decide +kernel
theorem dS_has_10 : decode cS_has 10 = .ok (.aload_n 0, 1) := by decide +kernel
theorem dS_has_11 : decode cS_has 11 = .ok (.getfield 15, 3) := by decide +kernel
theorem dS_has_14 : decode cS_has 14 = .ok (.arraylength, 1) := by decide +kernel
theorem dS_has_15 : decode cS_has 15 = .ok (.if_icmp .ge 22, 3) := by decide +kernel
theorem dS_has_18 : decode cS_has 18 = .ok (.aload_n 0, 1) := by decide +kernel
theorem dS_has_19 : decode cS_has 19 = .ok (.getfield 15, 3) := by decide +kernel
theorem dS_has_22 : decode cS_has 22 = .ok (.iload_n 2, 1) := by decide +kernel
theorem dS_has_23 : decode cS_has 23 = .ok (.laload, 1) := by decide +kernel
theorem dS_has_24 : decode cS_has 24 = .ok (.lconst 1, 1) := by decide +kernel
theorem dS_has_25 : decode cS_has 25 = .ok (.iload_n 1, 1) := by decide +kernel
theorem dS_has_26 : decode cS_has 26 = .ok (.lshl, 1) := by decide +kernel
theorem dS_has_27 : decode cS_has 27 = .ok (.land, 1) := by decide +kernel
theorem dS_has_28 : decode cS_has 28 = .ok (.lconst 0, 1) := by decide +kernel
theorem dS_has_29 : decode cS_has 29 = .ok (.lcmp, 1) := by decide +kernel
theorem dS_has_30 : decode cS_has 30 = .ok (.ifCond .eq 7, 3) := by decide +kernel
theorem dS_has_33 : decode cS_has 33 = .ok (.iconst 1, 1) := by decide +kernel
theorem dS_has_34 : decode cS_has 34 = .ok (.goto 4, 3) := by decide +kernel
theorem dS_has_37 : decode cS_has 37 = .ok (.iconst 0, 1) := by decide +kernel
theorem dS_has_38 : decode cS_has 38 = .ok (.ireturn, 1) := by decide +kernel
theorem dC_liesInAllWith_0 : decode cC_liesInAllWith 0 = .ok (.iconst 0, 1) := by decide +kernel
theorem dC_liesInAllWith_1 : decode cC_liesInAllWith 1 = .ok (.istore_n 3, 1) := by decide +kernel
theorem dC_liesInAllWith_2 : decode cC_liesInAllWith 2 = .ok (.iload_n 3, 1) := by decide +kernel
theorem dC_liesInAllWith_3 : decode cC_liesInAllWith 3 = .ok (.aload_n 0, 1) := by decide +kernel
theorem dC_liesInAllWith_4 : decode cC_liesInAllWith 4 = .ok (.getfield 28, 3) := by decide +kernel
theorem dC_liesInAllWith_7 : decode cC_liesInAllWith 7 = .ok (.if_icmp .ge 36, 3) := by decide +kernel
theorem dC_liesInAllWith_10 : decode cC_liesInAllWith 10 = .ok (.aload_n 0, 1) := by decide +kernel
theorem dC_liesInAllWith_11 : decode cC_liesInAllWith 11 = .ok (.getfield 21, 3) := by decide +kernel
theorem dC_liesInAllWith_14 : decode cC_liesInAllWith 14 = .ok (.iload_n 3, 1) := by decide +kernel
theorem dC_liesInAllWith_15 : decode cC_liesInAllWith 15 = .ok (.aaload, 1) := by decide +kernel
theorem dC_liesInAllWith_16 : decode cC_liesInAllWith 16 = .ok (.getfield 92, 3) := by decide +kernel
theorem dC_liesInAllWith_19 : decode cC_liesInAllWith 19 = .ok (.iload_n 2, 1) := by decide +kernel
theorem dC_liesInAllWith_20 : decode cC_liesInAllWith 20 = .ok (.invokevirtual 172, 3) := by decide +kernel
theorem dC_liesInAllWith_23 : decode cC_liesInAllWith 23 = .ok (.ifCond .eq 14, 3) := by decide +kernel
theorem dC_liesInAllWith_26 : decode cC_liesInAllWith 26 = .ok (.aload_n 0, 1) := by decide +kernel
theorem dC_liesInAllWith_27 : decode cC_liesInAllWith 27 = .ok (.iload_n 1, 1) := by decide +kernel
theorem dC_liesInAllWith_28 : decode cC_liesInAllWith 28 = .ok (.iload_n 3, 1) := by decide +kernel
theorem dC_liesInAllWith_29 : decode cC_liesInAllWith 29 = .ok (.invokevirtual 125, 3) := by decide +kernel
theorem dC_liesInAllWith_32 : decode cC_liesInAllWith 32 = .ok (.ifCond .ne 5, 3) := by decide +kernel
theorem dC_liesInAllWith_35 : decode cC_liesInAllWith 35 = .ok (.iconst 0, 1) := by decide +kernel
theorem dC_liesInAllWith_36 : decode cC_liesInAllWith 36 = .ok (.ireturn, 1) := by decide +kernel
theorem dC_liesInAllWith_37 : decode cC_liesInAllWith 37 = .ok (.iinc 3 1, 3) := by decide +kernel
theorem dC_liesInAllWith_40 : decode cC_liesInAllWith 40 = .ok (.goto (-38), 3) := by decide +kernel
theorem dC_liesInAllWith_43 : decode cC_liesInAllWith 43 = .ok (.iconst 1, 1) := by decide +kernel
theorem dC_liesInAllWith_44 : decode cC_liesInAllWith 44 = .ok (.ireturn, 1) := by decide +kernel
theorem dC_order_0 : decode cC_order 0 = .ok (.iload_n 1, 1) := by decide +kernel
theorem dC_order_1 : decode cC_order 1 = .ok (.ifCond .lt 11, 3) := by decide +kernel
theorem dC_order_4 : decode cC_order 4 = .ok (.iload_n 1, 1) := by decide +kernel
theorem dC_order_5 : decode cC_order 5 = .ok (.aload_n 0, 1) := by decide +kernel
theorem dC_order_6 : decode cC_order 6 = .ok (.getfield 28, 3) := by decide +kernel
theorem dC_order_9 : decode cC_order 9 = .ok (.if_icmp .lt 13, 3) := by decide +kernel
theorem dC_order_12 : decode cC_order 12 = .ok (.new 114, 3) := by decide +kernel
theorem dC_order_15 : decode cC_order 15 = .ok (.dup, 1) := by decide +kernel
theorem dC_order_16 : decode cC_order 16 = .ok (.ldc 179, 2) := by decide +kernel
theorem dC_order_18 : decode cC_order 18 = .ok (.invokespecial 118, 3) := by decide +kernel
theorem dC_order_21 : decode cC_order 21 = .ok (.athrow, 1) := by decide +kernel
theorem dC_order_22 : decode cC_order 22 = .ok (.iconst 0, 1) := by decide +kernel
theorem dC_order_23 : decode cC_order 23 = .ok (.istore_n 2, 1) := by decide +kernel
theorem dC_order_24 : decode cC_order 24 = .ok (.iload_n 2, 1) := by decide +kernel
theorem dC_order_25 : decode cC_order 25 = .ok (.aload_n 0, 1) := by decide +kernel
theorem dC_order_26 : decode cC_order 26 = .ok (.getfield 28, 3) := by decide +kernel
theorem dC_order_29 : decode cC_order 29 = .ok (.if_icmp .ge 20, 3) := by decide +kernel
theorem dC_order_32 : decode cC_order 32 = .ok (.aload_n 0, 1) := by decide +kernel
theorem dC_order_33 : decode cC_order 33 = .ok (.getfield 47, 3) := by decide +kernel
theorem dC_order_36 : decode cC_order 36 = .ok (.iload_n 2, 1) := by decide +kernel
theorem dC_order_37 : decode cC_order 37 = .ok (.aload_n 0, 1) := by decide +kernel
theorem dC_order_38 : decode cC_order 38 = .ok (.iload_n 2, 1) := by decide +kernel
theorem dC_order_39 : decode cC_order 39 = .ok (.invokevirtual 181, 3) := by decide +kernel
theorem dC_order_42 : decode cC_order 42 = .ok (.lastore, 1) := by decide +kernel
theorem dC_order_43 : decode cC_order 43 = .ok (.iinc 2 1, 3) := by decide +kernel
theorem dC_order_46 : decode cC_order 46 = .ok (.goto (-22), 3) := by decide +kernel
theorem dC_order_49 : decode cC_order 49 = .ok (.lconst 0, 1) := by decide +kernel
theorem dC_order_50 : decode cC_order 50 = .ok (.lstore_n 2, 1) := by decide +kernel
theorem dC_order_51 : decode cC_order 51 = .ok (.iconst (-1), 1) := by decide +kernel
theorem dC_order_52 : decode cC_order 52 = .ok (.istore 4, 2) := by decide +kernel
theorem dC_order_54 : decode cC_order 54 = .ok (.iconst 0, 1) := by decide +kernel
theorem dC_order_55 : decode cC_order 55 = .ok (.istore 5, 2) := by decide +kernel
theorem dC_order_57 : decode cC_order 57 = .ok (.iload 5, 2) := by decide +kernel
theorem dC_order_59 : decode cC_order 59 = .ok (.iload_n 1, 1) := by decide +kernel
theorem dC_order_60 : decode cC_order 60 = .ok (.if_icmp .gt 23, 3) := by decide +kernel
theorem dC_order_63 : decode cC_order 63 = .ok (.aload_n 0, 1) := by decide +kernel
theorem dC_order_64 : decode cC_order 64 = .ok (.lload_n 2, 1) := by decide +kernel
theorem dC_order_65 : decode cC_order 65 = .ok (.invokevirtual 185, 3) := by decide +kernel
theorem dC_order_68 : decode cC_order 68 = .ok (.istore 4, 2) := by decide +kernel
theorem dC_order_70 : decode cC_order 70 = .ok (.lload_n 2, 1) := by decide +kernel
theorem dC_order_71 : decode cC_order 71 = .ok (.lconst 1, 1) := by decide +kernel
theorem dC_order_72 : decode cC_order 72 = .ok (.iload 4, 2) := by decide +kernel
theorem dC_order_74 : decode cC_order 74 = .ok (.lshl, 1) := by decide +kernel
theorem dC_order_75 : decode cC_order 75 = .ok (.lor, 1) := by decide +kernel
theorem dC_order_76 : decode cC_order 76 = .ok (.lstore_n 2, 1) := by decide +kernel
theorem dC_order_77 : decode cC_order 77 = .ok (.iinc 5 1, 3) := by decide +kernel
theorem dC_order_80 : decode cC_order 80 = .ok (.goto (-23), 3) := by decide +kernel
theorem dC_order_83 : decode cC_order 83 = .ok (.iload 4, 2) := by decide +kernel
theorem dC_order_85 : decode cC_order 85 = .ok (.ireturn, 1) := by decide +kernel
theorem dC_setOfSmaller_0 : decode cC_setOfSmaller 0 = .ok (.lconst 0, 1) := by decide +kernel
theorem dC_setOfSmaller_1 : decode cC_setOfSmaller 1 = .ok (.lstore_n 2, 1) := by decide +kernel
theorem dC_setOfSmaller_2 : decode cC_setOfSmaller 2 = .ok (.iconst 0, 1) := by decide +kernel
theorem dC_setOfSmaller_3 : decode cC_setOfSmaller 3 = .ok (.istore 4, 2) := by decide +kernel
theorem dC_setOfSmaller_5 : decode cC_setOfSmaller 5 = .ok (.iload 4, 2) := by decide +kernel
theorem dC_setOfSmaller_7 : decode cC_setOfSmaller 7 = .ok (.aload_n 0, 1) := by decide +kernel
theorem dC_setOfSmaller_8 : decode cC_setOfSmaller 8 = .ok (.getfield 28, 3) := by decide +kernel
theorem dC_setOfSmaller_11 : decode cC_setOfSmaller 11 = .ok (.if_icmp .ge 36, 3) := by decide +kernel
theorem dC_setOfSmaller_14 : decode cC_setOfSmaller 14 = .ok (.aload_n 0, 1) := by decide +kernel
theorem dC_setOfSmaller_15 : decode cC_setOfSmaller 15 = .ok (.iload 4, 2) := by decide +kernel
theorem dC_setOfSmaller_17 : decode cC_setOfSmaller 17 = .ok (.iload_n 1, 1) := by decide +kernel
theorem dC_setOfSmaller_18 : decode cC_setOfSmaller 18 = .ok (.invokevirtual 125, 3) := by decide +kernel
theorem dC_setOfSmaller_21 : decode cC_setOfSmaller 21 = .ok (.ifCond .eq 20, 3) := by decide +kernel
theorem dC_setOfSmaller_24 : decode cC_setOfSmaller 24 = .ok (.aload_n 0, 1) := by decide +kernel
theorem dC_setOfSmaller_25 : decode cC_setOfSmaller 25 = .ok (.iload_n 1, 1) := by decide +kernel
theorem dC_setOfSmaller_26 : decode cC_setOfSmaller 26 = .ok (.iload 4, 2) := by decide +kernel
theorem dC_setOfSmaller_28 : decode cC_setOfSmaller 28 = .ok (.invokevirtual 125, 3) := by decide +kernel
theorem dC_setOfSmaller_31 : decode cC_setOfSmaller 31 = .ok (.ifCond .ne 10, 3) := by decide +kernel
theorem dC_setOfSmaller_34 : decode cC_setOfSmaller 34 = .ok (.lload_n 2, 1) := by decide +kernel
theorem dC_setOfSmaller_35 : decode cC_setOfSmaller 35 = .ok (.lconst 1, 1) := by decide +kernel
theorem dC_setOfSmaller_36 : decode cC_setOfSmaller 36 = .ok (.iload 4, 2) := by decide +kernel
theorem dC_setOfSmaller_38 : decode cC_setOfSmaller 38 = .ok (.lshl, 1) := by decide +kernel
theorem dC_setOfSmaller_39 : decode cC_setOfSmaller 39 = .ok (.lor, 1) := by decide +kernel
theorem dC_setOfSmaller_40 : decode cC_setOfSmaller 40 = .ok (.lstore_n 2, 1) := by decide +kernel
theorem dC_setOfSmaller_41 : decode cC_setOfSmaller 41 = .ok (.iinc 4 1, 3) := by decide +kernel
theorem dC_setOfSmaller_44 : decode cC_setOfSmaller 44 = .ok (.goto (-39), 3) := by decide +kernel
theorem dC_setOfSmaller_47 : decode cC_setOfSmaller 47 = .ok (.lload_n 2, 1) := by decide +kernel
theorem dC_setOfSmaller_48 : decode cC_setOfSmaller 48 = .ok (.lreturn, 1) := by decide +kernel
theorem dC_nextInOrder_0 : decode cC_nextInOrder 0 = .ok (.iconst 0, 1) := by decide +kernel
theorem dC_nextInOrder_1 : decode cC_nextInOrder 1 = .ok (.istore_n 3, 1) := by decide +kernel
theorem dC_nextInOrder_2 : decode cC_nextInOrder 2 = .ok (.iload_n 3, 1) := by decide +kernel
theorem dC_nextInOrder_3 : decode cC_nextInOrder 3 = .ok (.aload_n 0, 1) := by decide +kernel
theorem dC_nextInOrder_4 : decode cC_nextInOrder 4 = .ok (.getfield 28, 3) := by decide +kernel
theorem dC_nextInOrder_7 : decode cC_nextInOrder 7 = .ok (.if_icmp .ge 50, 3) := by decide +kernel
theorem dC_nextInOrder_10 : decode cC_nextInOrder 10 = .ok (.lload_n 1, 1) := by decide +kernel
theorem dC_nextInOrder_11 : decode cC_nextInOrder 11 = .ok (.lconst 1, 1) := by decide +kernel
theorem dC_nextInOrder_12 : decode cC_nextInOrder 12 = .ok (.iload_n 3, 1) := by decide +kernel
theorem dC_nextInOrder_13 : decode cC_nextInOrder 13 = .ok (.lshl, 1) := by decide +kernel
theorem dC_nextInOrder_14 : decode cC_nextInOrder 14 = .ok (.land, 1) := by decide +kernel
theorem dC_nextInOrder_15 : decode cC_nextInOrder 15 = .ok (.lconst 0, 1) := by decide +kernel
theorem dC_nextInOrder_16 : decode cC_nextInOrder 16 = .ok (.lcmp, 1) := by decide +kernel
theorem dC_nextInOrder_17 : decode cC_nextInOrder 17 = .ok (.ifCond .eq 7, 3) := by decide +kernel
theorem dC_nextInOrder_20 : decode cC_nextInOrder 20 = .ok (.iconst 1, 1) := by decide +kernel
theorem dC_nextInOrder_21 : decode cC_nextInOrder 21 = .ok (.goto 4, 3) := by decide +kernel
theorem dC_nextInOrder_24 : decode cC_nextInOrder 24 = .ok (.iconst 0, 1) := by decide +kernel
theorem dC_nextInOrder_25 : decode cC_nextInOrder 25 = .ok (.istore 4, 2) := by decide +kernel
theorem dC_nextInOrder_27 : decode cC_nextInOrder 27 = .ok (.iload 4, 2) := by decide +kernel
theorem dC_nextInOrder_29 : decode cC_nextInOrder 29 = .ok (.ifCond .ne 22, 3) := by decide +kernel
theorem dC_nextInOrder_32 : decode cC_nextInOrder 32 = .ok (.aload_n 0, 1) := by decide +kernel
theorem dC_nextInOrder_33 : decode cC_nextInOrder 33 = .ok (.getfield 47, 3) := by decide +kernel
theorem dC_nextInOrder_36 : decode cC_nextInOrder 36 = .ok (.iload_n 3, 1) := by decide +kernel
theorem dC_nextInOrder_37 : decode cC_nextInOrder 37 = .ok (.laload, 1) := by decide +kernel
theorem dC_nextInOrder_38 : decode cC_nextInOrder 38 = .ok (.lload_n 1, 1) := by decide +kernel
theorem dC_nextInOrder_39 : decode cC_nextInOrder 39 = .ok (.ldc2_w 51, 3) := by decide +kernel
theorem dC_nextInOrder_42 : decode cC_nextInOrder 42 = .ok (.lxor, 1) := by decide +kernel
theorem dC_nextInOrder_43 : decode cC_nextInOrder 43 = .ok (.land, 1) := by decide +kernel
theorem dC_nextInOrder_44 : decode cC_nextInOrder 44 = .ok (.lconst 0, 1) := by decide +kernel
theorem dC_nextInOrder_45 : decode cC_nextInOrder 45 = .ok (.lcmp, 1) := by decide +kernel
theorem dC_nextInOrder_46 : decode cC_nextInOrder 46 = .ok (.ifCond .ne 5, 3) := by decide +kernel
theorem dC_nextInOrder_49 : decode cC_nextInOrder 49 = .ok (.iload_n 3, 1) := by decide +kernel
theorem dC_nextInOrder_50 : decode cC_nextInOrder 50 = .ok (.ireturn, 1) := by decide +kernel
theorem dC_nextInOrder_51 : decode cC_nextInOrder 51 = .ok (.iinc 3 1, 3) := by decide +kernel
theorem dC_nextInOrder_54 : decode cC_nextInOrder 54 = .ok (.goto (-52), 3) := by decide +kernel
theorem dC_nextInOrder_57 : decode cC_nextInOrder 57 = .ok (.iconst (-1), 1) := by decide +kernel
theorem dC_nextInOrder_58 : decode cC_nextInOrder 58 = .ok (.ireturn, 1) := by decide +kernel
