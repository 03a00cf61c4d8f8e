theorem dL_cell_0 : decode cL_cell 0 = .ok (.iload_n 1, 1) := by decide +kernel
theorem dL_cell_1 : decode cL_cell 1 = .ok (.aload_n 0, 1) := by decide +kernel
theorem dL_cell_2 : decode cL_cell 2 = .ok (.arraylength, 1) := by decide +kernel
theorem dL_cell_3 : decode cL_cell 3 = .ok (.if_icmp .ge 9, 3) := by decide +kernel
theorem dL_cell_6 : decode cL_cell 6 = .ok (.aload_n 0, 1) := by decide +kernel
theorem dL_cell_7 : decode cL_cell 7 = .ok (.iload_n 1, 1) := by decide +kernel
theorem dL_cell_8 : decode cL_cell 8 = .ok (.iaload, 1) := by decide +kernel
theorem dL_cell_9 : decode cL_cell 9 = .ok (.goto 4, 3) := by decide +kernel
theorem dL_cell_12 : decode cL_cell 12 = .ok (.iconst 0, 1) := by decide +kernel
theorem dL_cell_13 : decode cL_cell 13 = .ok (.ireturn, 1) := by decide +kernel
theorem dL_grid_0 : decode cL_grid 0 = .ok (.aload_n 0, 1) := by decide +kernel
theorem dL_grid_1 : decode cL_grid 1 = .ok (.iload_n 1, 1) := by decide +kernel
theorem dL_grid_2 : decode cL_grid 2 = .ok (.iload_n 2, 1) := by decide +kernel
theorem dL_grid_3 : decode cL_grid 3 = .ok (.invokevirtual 7, 3) := by decide +kernel
theorem dL_grid_6 : decode cL_grid 6 = .ok (.goto 6, 3) := by decide +kernel
theorem dL_grid_9 : decode cL_grid 9 = .ok (.astore_n 3, 1) := by decide +kernel
theorem dL_grid_10 : decode cL_grid 10 = .ok (.iconst 1, 1) := by decide +kernel
theorem dL_grid_11 : decode cL_grid 11 = .ok (.ireturn, 1) := by decide +kernel
theorem dL_grid_12 : decode cL_grid 12 = .ok (.iconst 0, 1) := by decide +kernel
theorem dL_grid_13 : decode cL_grid 13 = .ok (.ireturn, 1) := by decide +kernel
theorem dL_wall_0 : decode cL_wall 0 = .ok (.aload 4, 2) := by decide +kernel
theorem dL_wall_2 : decode cL_wall 2 = .ok (.iconst 0, 1) := by decide +kernel
theorem dL_wall_3 : decode cL_wall 3 = .ok (.aload_n 0, 1) := by decide +kernel
theorem dL_wall_4 : decode cL_wall 4 = .ok (.iload_n 1, 1) := by decide +kernel
theorem dL_wall_5 : decode cL_wall 5 = .ok (.iload_n 2, 1) := by decide +kernel
theorem dL_wall_6 : decode cL_wall 6 = .ok (.iload_n 3, 1) := by decide +kernel
theorem dL_wall_7 : decode cL_wall 7 = .ok (.invokevirtual 15, 3) := by decide +kernel
theorem dL_wall_10 : decode cL_wall 10 = .ok (.ifCond .eq 7, 3) := by decide +kernel
theorem dL_wall_13 : decode cL_wall 13 = .ok (.lconst 1, 1) := by decide +kernel
theorem dL_wall_14 : decode cL_wall 14 = .ok (.goto 4, 3) := by decide +kernel
theorem dL_wall_17 : decode cL_wall 17 = .ok (.lconst 0, 1) := by decide +kernel
theorem dL_wall_18 : decode cL_wall 18 = .ok (.lastore, 1) := by decide +kernel
theorem dL_wall_19 : decode cL_wall 19 = .ok (.goto 11, 3) := by decide +kernel
theorem dL_wall_22 : decode cL_wall 22 = .ok (.astore 5, 2) := by decide +kernel
theorem dL_wall_24 : decode cL_wall 24 = .ok (.iconst 1, 1) := by decide +kernel
theorem dL_wall_25 : decode cL_wall 25 = .ok (.ireturn, 1) := by decide +kernel
theorem dL_wall_26 : decode cL_wall 26 = .ok (.astore 5, 2) := by decide +kernel
theorem dL_wall_28 : decode cL_wall 28 = .ok (.iconst 2, 1) := by decide +kernel
theorem dL_wall_29 : decode cL_wall 29 = .ok (.ireturn, 1) := by decide +kernel
theorem dL_wall_30 : decode cL_wall 30 = .ok (.iconst 0, 1) := by decide +kernel
theorem dL_wall_31 : decode cL_wall 31 = .ok (.ireturn, 1) := by decide +kernel
theorem dL_start_0 : decode cL_start 0 = .ok (.aload 4, 2) := by decide +kernel
theorem dL_start_2 : decode cL_start 2 = .ok (.iconst 0, 1) := by decide +kernel
theorem dL_start_3 : decode cL_start 3 = .ok (.aload_n 0, 1) := by decide +kernel
theorem dL_start_4 : decode cL_start 4 = .ok (.iload_n 1, 1) := by decide +kernel
theorem dL_start_5 : decode cL_start 5 = .ok (.iload_n 2, 1) := by decide +kernel
theorem dL_start_6 : decode cL_start 6 = .ok (.iload_n 3, 1) := by decide +kernel
theorem dL_start_7 : decode cL_start 7 = .ok (.invokevirtual 23, 3) := by decide +kernel
theorem dL_start_10 : decode cL_start 10 = .ok (.ifCond .eq 7, 3) := by decide +kernel
theorem dL_start_13 : decode cL_start 13 = .ok (.lconst 1, 1) := by decide +kernel
theorem dL_start_14 : decode cL_start 14 = .ok (.goto 4, 3) := by decide +kernel
theorem dL_start_17 : decode cL_start 17 = .ok (.lconst 0, 1) := by decide +kernel
theorem dL_start_18 : decode cL_start 18 = .ok (.lastore, 1) := by decide +kernel
theorem dL_start_19 : decode cL_start 19 = .ok (.goto 11, 3) := by decide +kernel
theorem dL_start_22 : decode cL_start 22 = .ok (.astore 5, 2) := by decide +kernel
theorem dL_start_24 : decode cL_start 24 = .ok (.iconst 1, 1) := by decide +kernel
theorem dL_start_25 : decode cL_start 25 = .ok (.ireturn, 1) := by decide +kernel
theorem dL_start_26 : decode cL_start 26 = .ok (.astore 5, 2) := by decide +kernel
theorem dL_start_28 : decode cL_start 28 = .ok (.iconst 2, 1) := by decide +kernel
theorem dL_start_29 : decode cL_start 29 = .ok (.ireturn, 1) := by decide +kernel
theorem dL_start_30 : decode cL_start 30 = .ok (.iconst 0, 1) := by decide +kernel
theorem dL_start_31 : decode cL_start 31 = .ok (.ireturn, 1) := by decide +kernel
theorem dL_end_0 : decode cL_end 0 = .ok (.aload 4, 2) := by decide +kernel
theorem dL_end_2 : decode cL_end 2 = .ok (.iconst 0, 1) := by decide +kernel
theorem dL_end_3 : decode cL_end 3 = .ok (.aload_n 0, 1) := by decide +kernel
theorem dL_end_4 : decode cL_end 4 = .ok (.iload_n 1, 1) := by decide +kernel
theorem dL_end_5 : decode cL_end 5 = .ok (.iload_n 2, 1) := by decide +kernel
theorem dL_end_6 : decode cL_end 6 = .ok (.iload_n 3, 1) := by decide +kernel
theorem dL_end_7 : decode cL_end 7 = .ok (.invokevirtual 27, 3) := by decide +kernel
theorem dL_end_10 : decode cL_end 10 = .ok (.ifCond .eq 7, 3) := by decide +kernel
theorem dL_end_13 : decode cL_end 13 = .ok (.lconst 1, 1) := by decide +kernel
theorem dL_end_14 : decode cL_end 14 = .ok (.goto 4, 3) := by decide +kernel
theorem dL_end_17 : decode cL_end 17 = .ok (.lconst 0, 1) := by decide +kernel
theorem dL_end_18 : decode cL_end 18 = .ok (.lastore, 1) := by decide +kernel
theorem dL_end_19 : decode cL_end 19 = .ok (.goto 11, 3) := by decide +kernel
theorem dL_end_22 : decode cL_end 22 = .ok (.astore 5, 2) := by decide +kernel
theorem dL_end_24 : decode cL_end 24 = .ok (.iconst 1, 1) := by decide +kernel
theorem dL_end_25 : decode cL_end 25 = .ok (.ireturn, 1) := by decide +kernel
theorem dL_end_26 : decode cL_end 26 = .ok (.astore 5, 2) := by decide +kernel
theorem dL_end_28 : decode cL_end 28 = .ok (.iconst 2, 1) := by decide +kernel
theorem dL_end_29 : decode cL_end 29 = .ok (.ireturn, 1) := by decide +kernel
theorem dL_end_30 : decode cL_end 30 = .ok (.iconst 0, 1) := by decide +kernel
theorem dL_end_31 : decode cL_end 31 = .ok (.ireturn, 1) := by decide +kernel
theorem dL_seed_0 : decode cL_seed 0 = .ok (.aload_n 0, 1) := by decide +kernel
theorem dL_seed_1 : decode cL_seed 1 = .ok (.iload_n 1, 1) := by decide +kernel
theorem dL_seed_2 : decode cL_seed 2 = .ok (.invokevirtual 30, 3) := by decide +kernel
theorem dL_seed_5 : decode cL_seed 5 = .ok (.goto 6, 3) := by decide +kernel
theorem dL_seed_8 : decode cL_seed 8 = .ok (.astore_n 2, 1) := by decide +kernel
theorem dL_seed_9 : decode cL_seed 9 = .ok (.iconst 1, 1) := by decide +kernel
theorem dL_seed_10 : decode cL_seed 10 = .ok (.ireturn, 1) := by decide +kernel
theorem dL_seed_11 : decode cL_seed 11 = .ok (.iconst 0, 1) := by decide +kernel
theorem dL_seed_12 : decode cL_seed 12 = .ok (.ireturn, 1) := by decide +kernel
theorem dL_solve_0 : decode cL_solve 0 = .ok (.aload_n 2, 1) := by decide +kernel
theorem dL_solve_1 : decode cL_solve 1 = .ok (.iconst 0, 1) := by decide +kernel
theorem dL_solve_2 : decode cL_solve 2 = .ok (.aload_n 0, 1) := by decide +kernel
theorem dL_solve_3 : decode cL_solve 3 = .ok (.iload_n 1, 1) := by decide +kernel
theorem dL_solve_4 : decode cL_solve 4 = .ok (.invokevirtual 34, 3) := by decide +kernel
theorem dL_solve_7 : decode cL_solve 7 = .ok (.i2l, 1) := by decide +kernel
theorem dL_solve_8 : decode cL_solve 8 = .ok (.lastore, 1) := by decide +kernel
theorem dL_solve_9 : decode cL_solve 9 = .ok (.goto 9, 3) := by decide +kernel
theorem dL_solve_12 : decode cL_solve 12 = .ok (.astore_n 3, 1) := by decide +kernel
theorem dL_solve_13 : decode cL_solve 13 = .ok (.iconst 1, 1) := by decide +kernel
theorem dL_solve_14 : decode cL_solve 14 = .ok (.ireturn, 1) := by decide +kernel
theorem dL_solve_15 : decode cL_solve 15 = .ok (.astore_n 3, 1) := by decide +kernel
theorem dL_solve_16 : decode cL_solve 16 = .ok (.iconst 2, 1) := by decide +kernel
theorem dL_solve_17 : decode cL_solve 17 = .ok (.ireturn, 1) := by decide +kernel
theorem dL_solve_18 : decode cL_solve 18 = .ok (.iconst 0, 1) := by decide +kernel
theorem dL_solve_19 : decode cL_solve 19 = .ok (.ireturn, 1) := by decide +kernel
theorem dL_at_0 : decode cL_at 0 = .ok (.aload 4, 2) := by decide +kernel
theorem dL_at_2 : decode cL_at 2 = .ok (.iconst 0, 1) := by decide +kernel
theorem dL_at_3 : decode cL_at 3 = .ok (.aload_n 0, 1) := by decide +kernel
theorem dL_at_4 : decode cL_at 4 = .ok (.iload_n 1, 1) := by decide +kernel
theorem dL_at_5 : decode cL_at 5 = .ok (.iload_n 2, 1) := by decide +kernel
theorem dL_at_6 : decode cL_at 6 = .ok (.iload_n 3, 1) := by decide +kernel
theorem dL_at_7 : decode cL_at 7 = .ok (.invokevirtual 38, 3) := by decide +kernel
theorem dL_at_10 : decode cL_at 10 = .ok (.i2l, 1) := by decide +kernel
theorem dL_at_11 : decode cL_at 11 = .ok (.lastore, 1) := by decide +kernel
theorem dL_at_12 : decode cL_at 12 = .ok (.goto 11, 3) := by decide +kernel
theorem dL_at_15 : decode cL_at 15 = .ok (.astore 5, 2) := by decide +kernel
theorem dL_at_17 : decode cL_at 17 = .ok (.iconst 1, 1) := by decide +kernel
theorem dL_at_18 : decode cL_at 18 = .ok (.ireturn, 1) := by decide +kernel
theorem dL_at_19 : decode cL_at 19 = .ok (.astore 5, 2) := by decide +kernel
theorem dL_at_21 : decode cL_at 21 = .ok (.iconst 2, 1) := by decide +kernel
theorem dL_at_22 : decode cL_at 22 = .ok (.ireturn, 1) := by decide +kernel
theorem dL_at_23 : decode cL_at 23 = .ok (.iconst 0, 1) := by decide +kernel
theorem dL_at_24 : decode cL_at 24 = .ok (.ireturn, 1) := by decide +kernel
theorem dL_last_0 : decode cL_last 0 = .ok (.aload_n 1, 1) := by decide +kernel
theorem dL_last_1 : decode cL_last 1 = .ok (.iconst 0, 1) := by decide +kernel
theorem dL_last_2 : decode cL_last 2 = .ok (.aload_n 0, 1) := by decide +kernel
theorem dL_last_3 : decode cL_last 3 = .ok (.invokevirtual 42, 3) := by decide +kernel
theorem dL_last_6 : decode cL_last 6 = .ok (.i2l, 1) := by decide +kernel
theorem dL_last_7 : decode cL_last 7 = .ok (.lastore, 1) := by decide +kernel
theorem dL_last_8 : decode cL_last 8 = .ok (.goto 6, 3) := by decide +kernel
theorem dL_last_11 : decode cL_last 11 = .ok (.astore_n 2, 1) := by decide +kernel
theorem dL_last_12 : decode cL_last 12 = .ok (.iconst 1, 1) := by decide +kernel
theorem dL_last_13 : decode cL_last 13 = .ok (.ireturn, 1) := by decide +kernel
theorem dL_last_14 : decode cL_last 14 = .ok (.iconst 0, 1) := by decide +kernel
theorem dL_last_15 : decode cL_last 15 = .ok (.ireturn, 1) := by decide +kernel
theorem dL_alone_0 : decode cL_alone 0 = .ok (.aload_n 2, 1) := by decide +kernel
theorem dL_alone_1 : decode cL_alone 1 = .ok (.iconst 0, 1) := by decide +kernel
theorem dL_alone_2 : decode cL_alone 2 = .ok (.aload_n 0, 1) := by decide +kernel
theorem dL_alone_3 : decode cL_alone 3 = .ok (.iload_n 1, 1) := by decide +kernel
theorem dL_alone_4 : decode cL_alone 4 = .ok (.invokevirtual 46, 3) := by decide +kernel
theorem dL_alone_7 : decode cL_alone 7 = .ok (.i2l, 1) := by decide +kernel
theorem dL_alone_8 : decode cL_alone 8 = .ok (.lastore, 1) := by decide +kernel
theorem dL_alone_9 : decode cL_alone 9 = .ok (.goto 9, 3) := by decide +kernel
theorem dL_alone_12 : decode cL_alone 12 = .ok (.astore_n 3, 1) := by decide +kernel
theorem dL_alone_13 : decode cL_alone 13 = .ok (.iconst 1, 1) := by decide +kernel
theorem dL_alone_14 : decode cL_alone 14 = .ok (.ireturn, 1) := by decide +kernel
theorem dL_alone_15 : decode cL_alone 15 = .ok (.astore_n 3, 1) := by decide +kernel
theorem dL_alone_16 : decode cL_alone 16 = .ok (.iconst 2, 1) := by decide +kernel
theorem dL_alone_17 : decode cL_alone 17 = .ok (.ireturn, 1) := by decide +kernel
theorem dL_alone_18 : decode cL_alone 18 = .ok (.iconst 0, 1) := by decide +kernel
theorem dL_alone_19 : decode cL_alone 19 = .ok (.ireturn, 1) := by decide +kernel
theorem dL_bound_0 : decode cL_bound 0 = .ok (.aload_n 1, 1) := by decide +kernel
theorem dL_bound_1 : decode cL_bound 1 = .ok (.iconst 0, 1) := by decide +kernel
theorem dL_bound_2 : decode cL_bound 2 = .ok (.aload_n 0, 1) := by decide +kernel
theorem dL_bound_3 : decode cL_bound 3 = .ok (.invokevirtual 49, 3) := by decide +kernel
theorem dL_bound_6 : decode cL_bound 6 = .ok (.i2l, 1) := by decide +kernel
theorem dL_bound_7 : decode cL_bound 7 = .ok (.lastore, 1) := by decide +kernel
theorem dL_bound_8 : decode cL_bound 8 = .ok (.goto 6, 3) := by decide +kernel
theorem dL_bound_11 : decode cL_bound 11 = .ok (.astore_n 2, 1) := by decide +kernel
theorem dL_bound_12 : decode cL_bound 12 = .ok (.iconst 1, 1) := by decide +kernel
theorem dL_bound_13 : decode cL_bound 13 = .ok (.ireturn, 1) := by decide +kernel
theorem dL_bound_14 : decode cL_bound 14 = .ok (.iconst 0, 1) := by decide +kernel
theorem dL_bound_15 : decode cL_bound 15 = .ok (.ireturn, 1) := by decide +kernel
theorem dL_share_0 : decode cL_share 0 = .ok (.aload_n 1, 1) := by decide +kernel
theorem dL_share_1 : decode cL_share 1 = .ok (.iconst 0, 1) := by decide +kernel
theorem dL_share_2 : decode cL_share 2 = .ok (.aload_n 0, 1) := by decide +kernel
theorem dL_share_3 : decode cL_share 3 = .ok (.invokevirtual 52, 3) := by decide +kernel
theorem dL_share_6 : decode cL_share 6 = .ok (.i2l, 1) := by decide +kernel
theorem dL_share_7 : decode cL_share 7 = .ok (.lastore, 1) := by decide +kernel
theorem dL_share_8 : decode cL_share 8 = .ok (.goto 9, 3) := by decide +kernel
theorem dL_share_11 : decode cL_share 11 = .ok (.astore_n 2, 1) := by decide +kernel
theorem dL_share_12 : decode cL_share 12 = .ok (.iconst 1, 1) := by decide +kernel
theorem dL_share_13 : decode cL_share 13 = .ok (.ireturn, 1) := by decide +kernel
theorem dL_share_14 : decode cL_share 14 = .ok (.astore_n 2, 1) := by decide +kernel
theorem dL_share_15 : decode cL_share 15 = .ok (.iconst 2, 1) := by decide +kernel
theorem dL_share_16 : decode cL_share 16 = .ok (.ireturn, 1) := by decide +kernel
theorem dL_share_17 : decode cL_share 17 = .ok (.iconst 0, 1) := by decide +kernel
theorem dL_share_18 : decode cL_share 18 = .ok (.ireturn, 1) := by decide +kernel
theorem dL_law_0 : decode cL_law 0 = .ok (.new 8, 3) := by decide +kernel
theorem dL_law_3 : decode cL_law 3 = .ok (.dup, 1) := by decide +kernel
theorem dL_law_4 : decode cL_law 4 = .ok (.aload_n 0, 1) := by decide +kernel
theorem dL_law_5 : decode cL_law 5 = .ok (.iconst 0, 1) := by decide +kernel
theorem dL_law_6 : decode cL_law 6 = .ok (.invokestatic 57, 3) := by decide +kernel
theorem dL_law_9 : decode cL_law 9 = .ok (.invokespecial 63, 3) := by decide +kernel
theorem dL_law_12 : decode cL_law 12 = .ok (.astore_n 1, 1) := by decide +kernel
theorem dL_law_13 : decode cL_law 13 = .ok (.new 65, 3) := by decide +kernel
theorem dL_law_16 : decode cL_law 16 = .ok (.dup, 1) := by decide +kernel
theorem dL_law_17 : decode cL_law 17 = .ok (.aload_n 0, 1) := by decide +kernel
theorem dL_law_18 : decode cL_law 18 = .ok (.iconst 0, 1) := by decide +kernel
theorem dL_law_19 : decode cL_law 19 = .ok (.invokestatic 57, 3) := by decide +kernel
theorem dL_law_22 : decode cL_law 22 = .ok (.invokespecial 67, 3) := by decide +kernel
theorem dL_law_25 : decode cL_law 25 = .ok (.astore_n 2, 1) := by decide +kernel
theorem dL_law_26 : decode cL_law 26 = .ok (.iconst 1, 1) := by decide +kernel
theorem dL_law_27 : decode cL_law 27 = .ok (.newarray .long, 2) := by decide +kernel
theorem dL_law_29 : decode cL_law 29 = .ok (.astore_n 3, 1) := by decide +kernel
theorem dL_law_30 : decode cL_law 30 = .ok (.iconst 1, 1) := by decide +kernel
theorem dL_law_31 : decode cL_law 31 = .ok (.istore 4, 2) := by decide +kernel
theorem dL_law_33 : decode cL_law 33 = .ok (.iload 4, 2) := by decide +kernel
theorem dL_law_35 : decode cL_law 35 = .ok (.aload_n 0, 1) := by decide +kernel
theorem dL_law_36 : decode cL_law 36 = .ok (.arraylength, 1) := by decide +kernel
theorem dL_law_37 : decode cL_law 37 = .ok (.iconst 4, 1) := by decide +kernel
theorem dL_law_38 : decode cL_law 38 = .ok (.isub, 1) := by decide +kernel
theorem dL_law_39 : decode cL_law 39 = .ok (.if_icmp .gt 851, 3) := by decide +kernel
theorem dL_law_42 : decode cL_law 42 = .ok (.aload_n 0, 1) := by decide +kernel
theorem dL_law_43 : decode cL_law 43 = .ok (.iload 4, 2) := by decide +kernel
theorem dL_law_45 : decode cL_law 45 = .ok (.iaload, 1) := by decide +kernel
theorem dL_law_46 : decode cL_law 46 = .ok (.bipush 15, 2) := by decide +kernel
theorem dL_law_48 : decode cL_law 48 = .ok (.iand, 1) := by decide +kernel
theorem dL_law_49 : decode cL_law 49 = .ok (.tableswitch 835 0 13 #[71, 119, 222, 309, 396, 437, 473, 529, 542, 622, 666, 722, 766, 810], 71) := by decide +kernel
theorem dL_law_120 : decode cL_law 120 = .ok (.aload_n 1, 1) := by decide +kernel
theorem dL_law_121 : decode cL_law 121 = .ok (.aload_n 0, 1) := by decide +kernel
theorem dL_law_122 : decode cL_law 122 = .ok (.iload 4, 2) := by decide +kernel
theorem dL_law_124 : decode cL_law 124 = .ok (.iconst 1, 1) := by decide +kernel
theorem dL_law_125 : decode cL_law 125 = .ok (.iadd, 1) := by decide +kernel
theorem dL_law_126 : decode cL_law 126 = .ok (.iaload, 1) := by decide +kernel
theorem dL_law_127 : decode cL_law 127 = .ok (.aload_n 0, 1) := by decide +kernel
theorem dL_law_128 : decode cL_law 128 = .ok (.iload 4, 2) := by decide +kernel
theorem dL_law_130 : decode cL_law 130 = .ok (.iconst 2, 1) := by decide +kernel
theorem dL_law_131 : decode cL_law 131 = .ok (.iadd, 1) := by decide +kernel
theorem dL_law_132 : decode cL_law 132 = .ok (.iaload, 1) := by decide +kernel
theorem dL_law_133 : decode cL_law 133 = .ok (.invokestatic 68, 3) := by decide +kernel
theorem dL_law_136 : decode cL_law 136 = .ok (.istore 5, 2) := by decide +kernel
theorem dL_law_138 : decode cL_law 138 = .ok (.aload_n 2, 1) := by decide +kernel
theorem dL_law_139 : decode cL_law 139 = .ok (.aload_n 0, 1) := by decide +kernel
theorem dL_law_140 : decode cL_law 140 = .ok (.iload 4, 2) := by decide +kernel
theorem dL_law_142 : decode cL_law 142 = .ok (.iconst 1, 1) := by decide +kernel
theorem dL_law_143 : decode cL_law 143 = .ok (.iadd, 1) := by decide +kernel
theorem dL_law_144 : decode cL_law 144 = .ok (.iaload, 1) := by decide +kernel
theorem dL_law_145 : decode cL_law 145 = .ok (.aload_n 0, 1) := by decide +kernel
theorem dL_law_146 : decode cL_law 146 = .ok (.iload 4, 2) := by decide +kernel
theorem dL_law_148 : decode cL_law 148 = .ok (.iconst 2, 1) := by decide +kernel
theorem dL_law_149 : decode cL_law 149 = .ok (.iadd, 1) := by decide +kernel
theorem dL_law_150 : decode cL_law 150 = .ok (.iaload, 1) := by decide +kernel
theorem dL_law_151 : decode cL_law 151 = .ok (.invokevirtual 71, 3) := by decide +kernel
theorem dL_law_154 : decode cL_law 154 = .ok (.aload_n 2, 1) := by decide +kernel
theorem dL_law_155 : decode cL_law 155 = .ok (.invokevirtual 72, 3) := by decide +kernel
theorem dL_law_158 : decode cL_law 158 = .ok (.iload 5, 2) := by decide +kernel
theorem dL_law_160 : decode cL_law 160 = .ok (.if_icmp .eq 5, 3) := by decide +kernel
theorem dL_law_163 : decode cL_law 163 = .ok (.iconst 0, 1) := by decide +kernel
theorem dL_law_164 : decode cL_law 164 = .ok (.ireturn, 1) := by decide +kernel
theorem dL_law_165 : decode cL_law 165 = .ok (.goto 719, 3) := by decide +kernel
theorem dL_law_168 : decode cL_law 168 = .ok (.aload_n 1, 1) := by decide +kernel
theorem dL_law_169 : decode cL_law 169 = .ok (.aload_n 0, 1) := by decide +kernel
theorem dL_law_170 : decode cL_law 170 = .ok (.iload 4, 2) := by decide +kernel
theorem dL_law_172 : decode cL_law 172 = .ok (.iconst 1, 1) := by decide +kernel
theorem dL_law_173 : decode cL_law 173 = .ok (.iadd, 1) := by decide +kernel
theorem dL_law_174 : decode cL_law 174 = .ok (.iaload, 1) := by decide +kernel
theorem dL_law_175 : decode cL_law 175 = .ok (.aload_n 0, 1) := by decide +kernel
theorem dL_law_176 : decode cL_law 176 = .ok (.iload 4, 2) := by decide +kernel
theorem dL_law_178 : decode cL_law 178 = .ok (.iconst 2, 1) := by decide +kernel
theorem dL_law_179 : decode cL_law 179 = .ok (.iadd, 1) := by decide +kernel
theorem dL_law_180 : decode cL_law 180 = .ok (.iaload, 1) := by decide +kernel
theorem dL_law_181 : decode cL_law 181 = .ok (.aload_n 0, 1) := by decide +kernel
theorem dL_law_182 : decode cL_law 182 = .ok (.iload 4, 2) := by decide +kernel
theorem dL_law_184 : decode cL_law 184 = .ok (.iconst 3, 1) := by decide +kernel
theorem dL_law_185 : decode cL_law 185 = .ok (.iadd, 1) := by decide +kernel
theorem dL_law_186 : decode cL_law 186 = .ok (.iaload, 1) := by decide +kernel
theorem dL_law_187 : decode cL_law 187 = .ok (.ifCond .eq 7, 3) := by decide +kernel
theorem dL_law_190 : decode cL_law 190 = .ok (.iconst 1, 1) := by decide +kernel
theorem dL_law_191 : decode cL_law 191 = .ok (.goto 4, 3) := by decide +kernel
theorem dL_law_194 : decode cL_law 194 = .ok (.iconst 0, 1) := by decide +kernel
theorem dL_law_195 : decode cL_law 195 = .ok (.aload_n 3, 1) := by decide +kernel
theorem dL_law_196 : decode cL_law 196 = .ok (.invokestatic 75, 3) := by decide +kernel
theorem dL_law_199 : decode cL_law 199 = .ok (.istore 5, 2) := by decide +kernel
theorem dL_law_201 : decode cL_law 201 = .ok (.aload_n 2, 1) := by decide +kernel
theorem dL_law_202 : decode cL_law 202 = .ok (.aload_n 0, 1) := by decide +kernel
theorem dL_law_203 : decode cL_law 203 = .ok (.iload 4, 2) := by decide +kernel
theorem dL_law_205 : decode cL_law 205 = .ok (.iconst 1, 1) := by decide +kernel
theorem dL_law_206 : decode cL_law 206 = .ok (.iadd, 1) := by decide +kernel
theorem dL_law_207 : decode cL_law 207 = .ok (.iaload, 1) := by decide +kernel
theorem dL_law_208 : decode cL_law 208 = .ok (.aload_n 0, 1) := by decide +kernel
theorem dL_law_209 : decode cL_law 209 = .ok (.iload 4, 2) := by decide +kernel
theorem dL_law_211 : decode cL_law 211 = .ok (.iconst 2, 1) := by decide +kernel
theorem dL_law_212 : decode cL_law 212 = .ok (.iadd, 1) := by decide +kernel
theorem dL_law_213 : decode cL_law 213 = .ok (.iaload, 1) := by decide +kernel
theorem dL_law_214 : decode cL_law 214 = .ok (.aload_n 0, 1) := by decide +kernel
theorem dL_law_215 : decode cL_law 215 = .ok (.iload 4, 2) := by decide +kernel
theorem dL_law_217 : decode cL_law 217 = .ok (.iconst 3, 1) := by decide +kernel
theorem dL_law_218 : decode cL_law 218 = .ok (.iadd, 1) := by decide +kernel
theorem dL_law_219 : decode cL_law 219 = .ok (.iaload, 1) := by decide +kernel
theorem dL_law_220 : decode cL_law 220 = .ok (.ifCond .eq 7, 3) := by decide +kernel
theorem dL_law_223 : decode cL_law 223 = .ok (.iconst 1, 1) := by decide +kernel
theorem dL_law_224 : decode cL_law 224 = .ok (.goto 4, 3) := by decide +kernel
theorem dL_law_227 : decode cL_law 227 = .ok (.iconst 0, 1) := by decide +kernel
theorem dL_law_228 : decode cL_law 228 = .ok (.invokevirtual 78, 3) := by decide +kernel
theorem dL_law_231 : decode cL_law 231 = .ok (.istore 6, 2) := by decide +kernel
theorem dL_law_233 : decode cL_law 233 = .ok (.aload_n 2, 1) := by decide +kernel
theorem dL_law_234 : decode cL_law 234 = .ok (.invokevirtual 72, 3) := by decide +kernel
theorem dL_law_237 : decode cL_law 237 = .ok (.iload 5, 2) := by decide +kernel
theorem dL_law_239 : decode cL_law 239 = .ok (.if_icmp .eq 5, 3) := by decide +kernel
theorem dL_law_242 : decode cL_law 242 = .ok (.iconst 0, 1) := by decide +kernel
theorem dL_law_243 : decode cL_law 243 = .ok (.ireturn, 1) := by decide +kernel
theorem dL_law_244 : decode cL_law 244 = .ok (.iload 5, 2) := by decide +kernel
theorem dL_law_246 : decode cL_law 246 = .ok (.ifCond .ne 22, 3) := by decide +kernel
theorem dL_law_249 : decode cL_law 249 = .ok (.aload_n 3, 1) := by decide +kernel
theorem dL_law_250 : decode cL_law 250 = .ok (.iconst 0, 1) := by decide +kernel
theorem dL_law_251 : decode cL_law 251 = .ok (.laload, 1) := by decide +kernel
theorem dL_law_252 : decode cL_law 252 = .ok (.iload 6, 2) := by decide +kernel
theorem dL_law_254 : decode cL_law 254 = .ok (.ifCond .eq 7, 3) := by decide +kernel
theorem dL_law_257 : decode cL_law 257 = .ok (.lconst 1, 1) := by decide +kernel
theorem dL_law_258 : decode cL_law 258 = .ok (.goto 4, 3) := by decide +kernel
theorem dL_law_261 : decode cL_law 261 = .ok (.lconst 0, 1) := by decide +kernel
theorem dL_law_262 : decode cL_law 262 = .ok (.lcmp, 1) := by decide +kernel
theorem dL_law_263 : decode cL_law 263 = .ok (.ifCond .eq 5, 3) := by decide +kernel
theorem dL_law_266 : decode cL_law 266 = .ok (.iconst 0, 1) := by decide +kernel
theorem dL_law_267 : decode cL_law 267 = .ok (.ireturn, 1) := by decide +kernel
theorem dL_law_268 : decode cL_law 268 = .ok (.goto 616, 3) := by decide +kernel
theorem dL_law_271 : decode cL_law 271 = .ok (.aload_n 1, 1) := by decide +kernel
theorem dL_law_272 : decode cL_law 272 = .ok (.aload_n 0, 1) := by decide +kernel
theorem dL_law_273 : decode cL_law 273 = .ok (.iload 4, 2) := by decide +kernel
theorem dL_law_275 : decode cL_law 275 = .ok (.iconst 1, 1) := by decide +kernel
theorem dL_law_276 : decode cL_law 276 = .ok (.iadd, 1) := by decide +kernel
theorem dL_law_277 : decode cL_law 277 = .ok (.iaload, 1) := by decide +kernel
theorem dL_law_278 : decode cL_law 278 = .ok (.aload_n 0, 1) := by decide +kernel
theorem dL_law_279 : decode cL_law 279 = .ok (.iload 4, 2) := by decide +kernel
theorem dL_law_281 : decode cL_law 281 = .ok (.iconst 2, 1) := by decide +kernel
theorem dL_law_282 : decode cL_law 282 = .ok (.iadd, 1) := by decide +kernel
theorem dL_law_283 : decode cL_law 283 = .ok (.iaload, 1) := by decide +kernel
theorem dL_law_284 : decode cL_law 284 = .ok (.aload_n 0, 1) := by decide +kernel
theorem dL_law_285 : decode cL_law 285 = .ok (.iload 4, 2) := by decide +kernel
theorem dL_law_287 : decode cL_law 287 = .ok (.iconst 3, 1) := by decide +kernel
theorem dL_law_288 : decode cL_law 288 = .ok (.iadd, 1) := by decide +kernel
theorem dL_law_289 : decode cL_law 289 = .ok (.iaload, 1) := by decide +kernel
theorem dL_law_290 : decode cL_law 290 = .ok (.aload_n 3, 1) := by decide +kernel
theorem dL_law_291 : decode cL_law 291 = .ok (.invokestatic 79, 3) := by decide +kernel
theorem dL_law_294 : decode cL_law 294 = .ok (.istore 5, 2) := by decide +kernel
theorem dL_law_296 : decode cL_law 296 = .ok (.aload_n 2, 1) := by decide +kernel
theorem dL_law_297 : decode cL_law 297 = .ok (.aload_n 0, 1) := by decide +kernel
theorem dL_law_298 : decode cL_law 298 = .ok (.iload 4, 2) := by decide +kernel
theorem dL_law_300 : decode cL_law 300 = .ok (.iconst 1, 1) := by decide +kernel
theorem dL_law_301 : decode cL_law 301 = .ok (.iadd, 1) := by decide +kernel
theorem dL_law_302 : decode cL_law 302 = .ok (.iaload, 1) := by decide +kernel
theorem dL_law_303 : decode cL_law 303 = .ok (.aload_n 0, 1) := by decide +kernel
theorem dL_law_304 : decode cL_law 304 = .ok (.iload 4, 2) := by decide +kernel
theorem dL_law_306 : decode cL_law 306 = .ok (.iconst 2, 1) := by decide +kernel
theorem dL_law_307 : decode cL_law 307 = .ok (.iadd, 1) := by decide +kernel
theorem dL_law_308 : decode cL_law 308 = .ok (.iaload, 1) := by decide +kernel
theorem dL_law_309 : decode cL_law 309 = .ok (.aload_n 0, 1) := by decide +kernel
theorem dL_law_310 : decode cL_law 310 = .ok (.iload 4, 2) := by decide +kernel
theorem dL_law_312 : decode cL_law 312 = .ok (.iconst 3, 1) := by decide +kernel
theorem dL_law_313 : decode cL_law 313 = .ok (.iadd, 1) := by decide +kernel
theorem dL_law_314 : decode cL_law 314 = .ok (.iaload, 1) := by decide +kernel
theorem dL_law_315 : decode cL_law 315 = .ok (.invokevirtual 82, 3) := by decide +kernel
theorem dL_law_318 : decode cL_law 318 = .ok (.istore 6, 2) := by decide +kernel
theorem dL_law_320 : decode cL_law 320 = .ok (.aload_n 2, 1) := by decide +kernel
theorem dL_law_321 : decode cL_law 321 = .ok (.invokevirtual 72, 3) := by decide +kernel
theorem dL_law_324 : decode cL_law 324 = .ok (.iload 5, 2) := by decide +kernel
theorem dL_law_326 : decode cL_law 326 = .ok (.if_icmp .eq 5, 3) := by decide +kernel
theorem dL_law_329 : decode cL_law 329 = .ok (.iconst 0, 1) := by decide +kernel
theorem dL_law_330 : decode cL_law 330 = .ok (.ireturn, 1) := by decide +kernel
theorem dL_law_331 : decode cL_law 331 = .ok (.iload 5, 2) := by decide +kernel
theorem dL_law_333 : decode cL_law 333 = .ok (.ifCond .ne 22, 3) := by decide +kernel
theorem dL_law_336 : decode cL_law 336 = .ok (.aload_n 3, 1) := by decide +kernel
theorem dL_law_337 : decode cL_law 337 = .ok (.iconst 0, 1) := by decide +kernel
theorem dL_law_338 : decode cL_law 338 = .ok (.laload, 1) := by decide +kernel
theorem dL_law_339 : decode cL_law 339 = .ok (.iload 6, 2) := by decide +kernel
theorem dL_law_341 : decode cL_law 341 = .ok (.ifCond .eq 7, 3) := by decide +kernel
theorem dL_law_344 : decode cL_law 344 = .ok (.lconst 1, 1) := by decide +kernel
theorem dL_law_345 : decode cL_law 345 = .ok (.goto 4, 3) := by decide +kernel
theorem dL_law_348 : decode cL_law 348 = .ok (.lconst 0, 1) := by decide +kernel
theorem dL_law_349 : decode cL_law 349 = .ok (.lcmp, 1) := by decide +kernel
theorem dL_law_350 : decode cL_law 350 = .ok (.ifCond .eq 5, 3) := by decide +kernel
theorem dL_law_353 : decode cL_law 353 = .ok (.iconst 0, 1) := by decide +kernel
theorem dL_law_354 : decode cL_law 354 = .ok (.ireturn, 1) := by decide +kernel
theorem dL_law_355 : decode cL_law 355 = .ok (.goto 529, 3) := by decide +kernel
theorem dL_law_358 : decode cL_law 358 = .ok (.aload_n 1, 1) := by decide +kernel
theorem dL_law_359 : decode cL_law 359 = .ok (.aload_n 0, 1) := by decide +kernel
theorem dL_law_360 : decode cL_law 360 = .ok (.iload 4, 2) := by decide +kernel
theorem dL_law_362 : decode cL_law 362 = .ok (.iconst 1, 1) := by decide +kernel
theorem dL_law_363 : decode cL_law 363 = .ok (.iadd, 1) := by decide +kernel
theorem dL_law_364 : decode cL_law 364 = .ok (.iaload, 1) := by decide +kernel
theorem dL_law_365 : decode cL_law 365 = .ok (.aload_n 0, 1) := by decide +kernel
theorem dL_law_366 : decode cL_law 366 = .ok (.iload 4, 2) := by decide +kernel
theorem dL_law_368 : decode cL_law 368 = .ok (.iconst 2, 1) := by decide +kernel
theorem dL_law_369 : decode cL_law 369 = .ok (.iadd, 1) := by decide +kernel
theorem dL_law_370 : decode cL_law 370 = .ok (.iaload, 1) := by decide +kernel
theorem dL_law_371 : decode cL_law 371 = .ok (.aload_n 0, 1) := by decide +kernel
theorem dL_law_372 : decode cL_law 372 = .ok (.iload 4, 2) := by decide +kernel
theorem dL_law_374 : decode cL_law 374 = .ok (.iconst 3, 1) := by decide +kernel
theorem dL_law_375 : decode cL_law 375 = .ok (.iadd, 1) := by decide +kernel
theorem dL_law_376 : decode cL_law 376 = .ok (.iaload, 1) := by decide +kernel
theorem dL_law_377 : decode cL_law 377 = .ok (.aload_n 3, 1) := by decide +kernel
theorem dL_law_378 : decode cL_law 378 = .ok (.invokestatic 83, 3) := by decide +kernel
theorem dL_law_381 : decode cL_law 381 = .ok (.istore 5, 2) := by decide +kernel
theorem dL_law_383 : decode cL_law 383 = .ok (.aload_n 2, 1) := by decide +kernel
theorem dL_law_384 : decode cL_law 384 = .ok (.aload_n 0, 1) := by decide +kernel
theorem dL_law_385 : decode cL_law 385 = .ok (.iload 4, 2) := by decide +kernel
theorem dL_law_387 : decode cL_law 387 = .ok (.iconst 1, 1) := by decide +kernel
theorem dL_law_388 : decode cL_law 388 = .ok (.iadd, 1) := by decide +kernel
theorem dL_law_389 : decode cL_law 389 = .ok (.iaload, 1) := by decide +kernel
theorem dL_law_390 : decode cL_law 390 = .ok (.aload_n 0, 1) := by decide +kernel
theorem dL_law_391 : decode cL_law 391 = .ok (.iload 4, 2) := by decide +kernel
theorem dL_law_393 : decode cL_law 393 = .ok (.iconst 2, 1) := by decide +kernel
theorem dL_law_394 : decode cL_law 394 = .ok (.iadd, 1) := by decide +kernel
theorem dL_law_395 : decode cL_law 395 = .ok (.iaload, 1) := by decide +kernel
theorem dL_law_396 : decode cL_law 396 = .ok (.aload_n 0, 1) := by decide +kernel
theorem dL_law_397 : decode cL_law 397 = .ok (.iload 4, 2) := by decide +kernel
theorem dL_law_399 : decode cL_law 399 = .ok (.iconst 3, 1) := by decide +kernel
theorem dL_law_400 : decode cL_law 400 = .ok (.iadd, 1) := by decide +kernel
theorem dL_law_401 : decode cL_law 401 = .ok (.iaload, 1) := by decide +kernel
theorem dL_law_402 : decode cL_law 402 = .ok (.invokevirtual 85, 3) := by decide +kernel
theorem dL_law_405 : decode cL_law 405 = .ok (.istore 6, 2) := by decide +kernel
theorem dL_law_407 : decode cL_law 407 = .ok (.aload_n 2, 1) := by decide +kernel
theorem dL_law_408 : decode cL_law 408 = .ok (.invokevirtual 72, 3) := by decide +kernel
theorem dL_law_411 : decode cL_law 411 = .ok (.iload 5, 2) := by decide +kernel
theorem dL_law_413 : decode cL_law 413 = .ok (.if_icmp .eq 5, 3) := by decide +kernel
theorem dL_law_416 : decode cL_law 416 = .ok (.iconst 0, 1) := by decide +kernel
theorem dL_law_417 : decode cL_law 417 = .ok (.ireturn, 1) := by decide +kernel
theorem dL_law_418 : decode cL_law 418 = .ok (.iload 5, 2) := by decide +kernel
theorem dL_law_420 : decode cL_law 420 = .ok (.ifCond .ne 22, 3) := by decide +kernel
theorem dL_law_423 : decode cL_law 423 = .ok (.aload_n 3, 1) := by decide +kernel
theorem dL_law_424 : decode cL_law 424 = .ok (.iconst 0, 1) := by decide +kernel
theorem dL_law_425 : decode cL_law 425 = .ok (.laload, 1) := by decide +kernel
theorem dL_law_426 : decode cL_law 426 = .ok (.iload 6, 2) := by decide +kernel
theorem dL_law_428 : decode cL_law 428 = .ok (.ifCond .eq 7, 3) := by decide +kernel
theorem dL_law_431 : decode cL_law 431 = .ok (.lconst 1, 1) := by decide +kernel
theorem dL_law_432 : decode cL_law 432 = .ok (.goto 4, 3) := by decide +kernel
theorem dL_law_435 : decode cL_law 435 = .ok (.lconst 0, 1) := by decide +kernel
theorem dL_law_436 : decode cL_law 436 = .ok (.lcmp, 1) := by decide +kernel
theorem dL_law_437 : decode cL_law 437 = .ok (.ifCond .eq 5, 3) := by decide +kernel
theorem dL_law_440 : decode cL_law 440 = .ok (.iconst 0, 1) := by decide +kernel
theorem dL_law_441 : decode cL_law 441 = .ok (.ireturn, 1) := by decide +kernel
theorem dL_law_442 : decode cL_law 442 = .ok (.goto 442, 3) := by decide +kernel
theorem dL_law_445 : decode cL_law 445 = .ok (.aload_n 1, 1) := by decide +kernel
theorem dL_law_446 : decode cL_law 446 = .ok (.aload_n 0, 1) := by decide +kernel
theorem dL_law_447 : decode cL_law 447 = .ok (.iload 4, 2) := by decide +kernel
theorem dL_law_449 : decode cL_law 449 = .ok (.iconst 1, 1) := by decide +kernel
theorem dL_law_450 : decode cL_law 450 = .ok (.iadd, 1) := by decide +kernel
theorem dL_law_451 : decode cL_law 451 = .ok (.iaload, 1) := by decide +kernel
theorem dL_law_452 : decode cL_law 452 = .ok (.ifCond .eq 7, 3) := by decide +kernel
theorem dL_law_455 : decode cL_law 455 = .ok (.iconst 1, 1) := by decide +kernel
theorem dL_law_456 : decode cL_law 456 = .ok (.goto 4, 3) := by decide +kernel
theorem dL_law_459 : decode cL_law 459 = .ok (.iconst 0, 1) := by decide +kernel
theorem dL_law_460 : decode cL_law 460 = .ok (.invokevirtual 86, 3) := by decide +kernel
theorem dL_law_463 : decode cL_law 463 = .ok (.aload_n 2, 1) := by decide +kernel
theorem dL_law_464 : decode cL_law 464 = .ok (.aload_n 0, 1) := by decide +kernel
theorem dL_law_465 : decode cL_law 465 = .ok (.iload 4, 2) := by decide +kernel
theorem dL_law_467 : decode cL_law 467 = .ok (.iconst 1, 1) := by decide +kernel
theorem dL_law_468 : decode cL_law 468 = .ok (.iadd, 1) := by decide +kernel
theorem dL_law_469 : decode cL_law 469 = .ok (.iaload, 1) := by decide +kernel
theorem dL_law_470 : decode cL_law 470 = .ok (.ifCond .eq 7, 3) := by decide +kernel
theorem dL_law_473 : decode cL_law 473 = .ok (.iconst 1, 1) := by decide +kernel
theorem dL_law_474 : decode cL_law 474 = .ok (.goto 4, 3) := by decide +kernel
theorem dL_law_477 : decode cL_law 477 = .ok (.iconst 0, 1) := by decide +kernel
theorem dL_law_478 : decode cL_law 478 = .ok (.invokevirtual 90, 3) := by decide +kernel
theorem dL_law_481 : decode cL_law 481 = .ok (.if_icmp .eq 403, 3) := by decide +kernel
theorem dL_law_484 : decode cL_law 484 = .ok (.iconst 0, 1) := by decide +kernel
theorem dL_law_485 : decode cL_law 485 = .ok (.ireturn, 1) := by decide +kernel
theorem dL_law_486 : decode cL_law 486 = .ok (.aload_n 1, 1) := by decide +kernel
theorem dL_law_487 : decode cL_law 487 = .ok (.aload_n 0, 1) := by decide +kernel
theorem dL_law_488 : decode cL_law 488 = .ok (.iload 4, 2) := by decide +kernel
theorem dL_law_490 : decode cL_law 490 = .ok (.iconst 1, 1) := by decide +kernel
theorem dL_law_491 : decode cL_law 491 = .ok (.iadd, 1) := by decide +kernel
theorem dL_law_492 : decode cL_law 492 = .ok (.iaload, 1) := by decide +kernel
theorem dL_law_493 : decode cL_law 493 = .ok (.invokestatic 91, 3) := by decide +kernel
theorem dL_law_496 : decode cL_law 496 = .ok (.istore 5, 2) := by decide +kernel
theorem dL_law_498 : decode cL_law 498 = .ok (.aload_n 2, 1) := by decide +kernel
theorem dL_law_499 : decode cL_law 499 = .ok (.aload_n 0, 1) := by decide +kernel
theorem dL_law_500 : decode cL_law 500 = .ok (.iload 4, 2) := by decide +kernel
theorem dL_law_502 : decode cL_law 502 = .ok (.iconst 1, 1) := by decide +kernel
theorem dL_law_503 : decode cL_law 503 = .ok (.iadd, 1) := by decide +kernel
theorem dL_law_504 : decode cL_law 504 = .ok (.iaload, 1) := by decide +kernel
theorem dL_law_505 : decode cL_law 505 = .ok (.invokevirtual 94, 3) := by decide +kernel
theorem dL_law_508 : decode cL_law 508 = .ok (.aload_n 2, 1) := by decide +kernel
theorem dL_law_509 : decode cL_law 509 = .ok (.invokevirtual 72, 3) := by decide +kernel
theorem dL_law_512 : decode cL_law 512 = .ok (.iload 5, 2) := by decide +kernel
theorem dL_law_514 : decode cL_law 514 = .ok (.if_icmp .eq 5, 3) := by decide +kernel
theorem dL_law_517 : decode cL_law 517 = .ok (.iconst 0, 1) := by decide +kernel
theorem dL_law_518 : decode cL_law 518 = .ok (.ireturn, 1) := by decide +kernel
theorem dL_law_519 : decode cL_law 519 = .ok (.goto 365, 3) := by decide +kernel
theorem dL_law_522 : decode cL_law 522 = .ok (.aload_n 1, 1) := by decide +kernel
theorem dL_law_523 : decode cL_law 523 = .ok (.aload_n 0, 1) := by decide +kernel
theorem dL_law_524 : decode cL_law 524 = .ok (.iload 4, 2) := by decide +kernel
theorem dL_law_526 : decode cL_law 526 = .ok (.iconst 1, 1) := by decide +kernel
theorem dL_law_527 : decode cL_law 527 = .ok (.iadd, 1) := by decide +kernel
theorem dL_law_528 : decode cL_law 528 = .ok (.iaload, 1) := by decide +kernel
theorem dL_law_529 : decode cL_law 529 = .ok (.aload_n 3, 1) := by decide +kernel
theorem dL_law_530 : decode cL_law 530 = .ok (.invokestatic 95, 3) := by decide +kernel
theorem dL_law_533 : decode cL_law 533 = .ok (.istore 5, 2) := by decide +kernel
theorem dL_law_535 : decode cL_law 535 = .ok (.aload_n 2, 1) := by decide +kernel
theorem dL_law_536 : decode cL_law 536 = .ok (.aload_n 0, 1) := by decide +kernel
theorem dL_law_537 : decode cL_law 537 = .ok (.iload 4, 2) := by decide +kernel
theorem dL_law_539 : decode cL_law 539 = .ok (.iconst 1, 1) := by decide +kernel
theorem dL_law_540 : decode cL_law 540 = .ok (.iadd, 1) := by decide +kernel
theorem dL_law_541 : decode cL_law 541 = .ok (.iaload, 1) := by decide +kernel
theorem dL_law_542 : decode cL_law 542 = .ok (.invokevirtual 98, 3) := by decide +kernel
theorem dL_law_545 : decode cL_law 545 = .ok (.istore 6, 2) := by decide +kernel
theorem dL_law_547 : decode cL_law 547 = .ok (.aload_n 2, 1) := by decide +kernel
theorem dL_law_548 : decode cL_law 548 = .ok (.invokevirtual 72, 3) := by decide +kernel
theorem dL_law_551 : decode cL_law 551 = .ok (.iload 5, 2) := by decide +kernel
theorem dL_law_553 : decode cL_law 553 = .ok (.if_icmp .eq 5, 3) := by decide +kernel
theorem dL_law_556 : decode cL_law 556 = .ok (.iconst 0, 1) := by decide +kernel
theorem dL_law_557 : decode cL_law 557 = .ok (.ireturn, 1) := by decide +kernel
theorem dL_law_558 : decode cL_law 558 = .ok (.iload 5, 2) := by decide +kernel
theorem dL_law_560 : decode cL_law 560 = .ok (.ifCond .ne 15, 3) := by decide +kernel
theorem dL_law_563 : decode cL_law 563 = .ok (.aload_n 3, 1) := by decide +kernel
theorem dL_law_564 : decode cL_law 564 = .ok (.iconst 0, 1) := by decide +kernel
theorem dL_law_565 : decode cL_law 565 = .ok (.laload, 1) := by decide +kernel
theorem dL_law_566 : decode cL_law 566 = .ok (.iload 6, 2) := by decide +kernel
theorem dL_law_568 : decode cL_law 568 = .ok (.i2l, 1) := by decide +kernel
theorem dL_law_569 : decode cL_law 569 = .ok (.lcmp, 1) := by decide +kernel
theorem dL_law_570 : decode cL_law 570 = .ok (.ifCond .eq 5, 3) := by decide +kernel
theorem dL_law_573 : decode cL_law 573 = .ok (.iconst 0, 1) := by decide +kernel
theorem dL_law_574 : decode cL_law 574 = .ok (.ireturn, 1) := by decide +kernel
theorem dL_law_575 : decode cL_law 575 = .ok (.goto 309, 3) := by decide +kernel
theorem dL_law_578 : decode cL_law 578 = .ok (.aload_n 1, 1) := by decide +kernel
theorem dL_law_579 : decode cL_law 579 = .ok (.invokevirtual 99, 3) := by decide +kernel
theorem dL_law_582 : decode cL_law 582 = .ok (.aload_n 2, 1) := by decide +kernel
theorem dL_law_583 : decode cL_law 583 = .ok (.invokevirtual 103, 3) := by decide +kernel
theorem dL_law_586 : decode cL_law 586 = .ok (.if_icmp .eq 298, 3) := by decide +kernel
theorem dL_law_589 : decode cL_law 589 = .ok (.iconst 0, 1) := by decide +kernel
theorem dL_law_590 : decode cL_law 590 = .ok (.ireturn, 1) := by decide +kernel
theorem dL_law_591 : decode cL_law 591 = .ok (.aload_n 1, 1) := by decide +kernel
theorem dL_law_592 : decode cL_law 592 = .ok (.aload_n 0, 1) := by decide +kernel
theorem dL_law_593 : decode cL_law 593 = .ok (.iload 4, 2) := by decide +kernel
theorem dL_law_595 : decode cL_law 595 = .ok (.iconst 1, 1) := by decide +kernel
theorem dL_law_596 : decode cL_law 596 = .ok (.iadd, 1) := by decide +kernel
theorem dL_law_597 : decode cL_law 597 = .ok (.iaload, 1) := by decide +kernel
theorem dL_law_598 : decode cL_law 598 = .ok (.aload_n 0, 1) := by decide +kernel
theorem dL_law_599 : decode cL_law 599 = .ok (.iload 4, 2) := by decide +kernel
theorem dL_law_601 : decode cL_law 601 = .ok (.iconst 2, 1) := by decide +kernel
theorem dL_law_602 : decode cL_law 602 = .ok (.iadd, 1) := by decide +kernel
theorem dL_law_603 : decode cL_law 603 = .ok (.iaload, 1) := by decide +kernel
theorem dL_law_604 : decode cL_law 604 = .ok (.aload_n 0, 1) := by decide +kernel
theorem dL_law_605 : decode cL_law 605 = .ok (.iload 4, 2) := by decide +kernel
theorem dL_law_607 : decode cL_law 607 = .ok (.iconst 3, 1) := by decide +kernel
theorem dL_law_608 : decode cL_law 608 = .ok (.iadd, 1) := by decide +kernel
theorem dL_law_609 : decode cL_law 609 = .ok (.iaload, 1) := by decide +kernel
theorem dL_law_610 : decode cL_law 610 = .ok (.aload_n 3, 1) := by decide +kernel
theorem dL_law_611 : decode cL_law 611 = .ok (.invokestatic 104, 3) := by decide +kernel
theorem dL_law_614 : decode cL_law 614 = .ok (.istore 5, 2) := by decide +kernel
theorem dL_law_616 : decode cL_law 616 = .ok (.aload_n 2, 1) := by decide +kernel
theorem dL_law_617 : decode cL_law 617 = .ok (.aload_n 0, 1) := by decide +kernel
theorem dL_law_618 : decode cL_law 618 = .ok (.iload 4, 2) := by decide +kernel
theorem dL_law_620 : decode cL_law 620 = .ok (.iconst 1, 1) := by decide +kernel
theorem dL_law_621 : decode cL_law 621 = .ok (.iadd, 1) := by decide +kernel
theorem dL_law_622 : decode cL_law 622 = .ok (.iaload, 1) := by decide +kernel
theorem dL_law_623 : decode cL_law 623 = .ok (.aload_n 0, 1) := by decide +kernel
theorem dL_law_624 : decode cL_law 624 = .ok (.iload 4, 2) := by decide +kernel
theorem dL_law_626 : decode cL_law 626 = .ok (.iconst 2, 1) := by decide +kernel
theorem dL_law_627 : decode cL_law 627 = .ok (.iadd, 1) := by decide +kernel
theorem dL_law_628 : decode cL_law 628 = .ok (.iaload, 1) := by decide +kernel
theorem dL_law_629 : decode cL_law 629 = .ok (.aload_n 0, 1) := by decide +kernel
theorem dL_law_630 : decode cL_law 630 = .ok (.iload 4, 2) := by decide +kernel
theorem dL_law_632 : decode cL_law 632 = .ok (.iconst 3, 1) := by decide +kernel
theorem dL_law_633 : decode cL_law 633 = .ok (.iadd, 1) := by decide +kernel
theorem dL_law_634 : decode cL_law 634 = .ok (.iaload, 1) := by decide +kernel
theorem dL_law_635 : decode cL_law 635 = .ok (.invokevirtual 106, 3) := by decide +kernel
theorem dL_law_638 : decode cL_law 638 = .ok (.istore 6, 2) := by decide +kernel
theorem dL_law_640 : decode cL_law 640 = .ok (.aload_n 2, 1) := by decide +kernel
theorem dL_law_641 : decode cL_law 641 = .ok (.invokevirtual 72, 3) := by decide +kernel
theorem dL_law_644 : decode cL_law 644 = .ok (.iload 5, 2) := by decide +kernel
theorem dL_law_646 : decode cL_law 646 = .ok (.if_icmp .eq 5, 3) := by decide +kernel
theorem dL_law_649 : decode cL_law 649 = .ok (.iconst 0, 1) := by decide +kernel
theorem dL_law_650 : decode cL_law 650 = .ok (.ireturn, 1) := by decide +kernel
theorem dL_law_651 : decode cL_law 651 = .ok (.iload 5, 2) := by decide +kernel
theorem dL_law_653 : decode cL_law 653 = .ok (.ifCond .ne 15, 3) := by decide +kernel
theorem dL_law_656 : decode cL_law 656 = .ok (.aload_n 3, 1) := by decide +kernel
theorem dL_law_657 : decode cL_law 657 = .ok (.iconst 0, 1) := by decide +kernel
theorem dL_law_658 : decode cL_law 658 = .ok (.laload, 1) := by decide +kernel
theorem dL_law_659 : decode cL_law 659 = .ok (.iload 6, 2) := by decide +kernel
theorem dL_law_661 : decode cL_law 661 = .ok (.i2l, 1) := by decide +kernel
theorem dL_law_662 : decode cL_law 662 = .ok (.lcmp, 1) := by decide +kernel
theorem dL_law_663 : decode cL_law 663 = .ok (.ifCond .eq 5, 3) := by decide +kernel
theorem dL_law_666 : decode cL_law 666 = .ok (.iconst 0, 1) := by decide +kernel
theorem dL_law_667 : decode cL_law 667 = .ok (.ireturn, 1) := by decide +kernel
theorem dL_law_668 : decode cL_law 668 = .ok (.goto 216, 3) := by decide +kernel
theorem dL_law_671 : decode cL_law 671 = .ok (.aload_n 1, 1) := by decide +kernel
theorem dL_law_672 : decode cL_law 672 = .ok (.aload_n 3, 1) := by decide +kernel
theorem dL_law_673 : decode cL_law 673 = .ok (.invokestatic 107, 3) := by decide +kernel
theorem dL_law_676 : decode cL_law 676 = .ok (.istore 5, 2) := by decide +kernel
theorem dL_law_678 : decode cL_law 678 = .ok (.aload_n 2, 1) := by decide +kernel
theorem dL_law_679 : decode cL_law 679 = .ok (.invokevirtual 110, 3) := by decide +kernel
theorem dL_law_682 : decode cL_law 682 = .ok (.istore 6, 2) := by decide +kernel
theorem dL_law_684 : decode cL_law 684 = .ok (.aload_n 2, 1) := by decide +kernel
theorem dL_law_685 : decode cL_law 685 = .ok (.invokevirtual 72, 3) := by decide +kernel
theorem dL_law_688 : decode cL_law 688 = .ok (.iload 5, 2) := by decide +kernel
theorem dL_law_690 : decode cL_law 690 = .ok (.if_icmp .eq 5, 3) := by decide +kernel
theorem dL_law_693 : decode cL_law 693 = .ok (.iconst 0, 1) := by decide +kernel
theorem dL_law_694 : decode cL_law 694 = .ok (.ireturn, 1) := by decide +kernel
theorem dL_law_695 : decode cL_law 695 = .ok (.iload 5, 2) := by decide +kernel
theorem dL_law_697 : decode cL_law 697 = .ok (.ifCond .ne 15, 3) := by decide +kernel
theorem dL_law_700 : decode cL_law 700 = .ok (.aload_n 3, 1) := by decide +kernel
theorem dL_law_701 : decode cL_law 701 = .ok (.iconst 0, 1) := by decide +kernel
theorem dL_law_702 : decode cL_law 702 = .ok (.laload, 1) := by decide +kernel
theorem dL_law_703 : decode cL_law 703 = .ok (.iload 6, 2) := by decide +kernel
theorem dL_law_705 : decode cL_law 705 = .ok (.i2l, 1) := by decide +kernel
theorem dL_law_706 : decode cL_law 706 = .ok (.lcmp, 1) := by decide +kernel
theorem dL_law_707 : decode cL_law 707 = .ok (.ifCond .eq 5, 3) := by decide +kernel
theorem dL_law_710 : decode cL_law 710 = .ok (.iconst 0, 1) := by decide +kernel
theorem dL_law_711 : decode cL_law 711 = .ok (.ireturn, 1) := by decide +kernel
theorem dL_law_712 : decode cL_law 712 = .ok (.goto 172, 3) := by decide +kernel
theorem dL_law_715 : decode cL_law 715 = .ok (.aload_n 1, 1) := by decide +kernel
theorem dL_law_716 : decode cL_law 716 = .ok (.aload_n 0, 1) := by decide +kernel
theorem dL_law_717 : decode cL_law 717 = .ok (.iload 4, 2) := by decide +kernel
theorem dL_law_719 : decode cL_law 719 = .ok (.iconst 1, 1) := by decide +kernel
theorem dL_law_720 : decode cL_law 720 = .ok (.iadd, 1) := by decide +kernel
theorem dL_law_721 : decode cL_law 721 = .ok (.iaload, 1) := by decide +kernel
theorem dL_law_722 : decode cL_law 722 = .ok (.aload_n 3, 1) := by decide +kernel
theorem dL_law_723 : decode cL_law 723 = .ok (.invokestatic 111, 3) := by decide +kernel
theorem dL_law_726 : decode cL_law 726 = .ok (.istore 5, 2) := by decide +kernel
theorem dL_law_728 : decode cL_law 728 = .ok (.aload_n 2, 1) := by decide +kernel
theorem dL_law_729 : decode cL_law 729 = .ok (.aload_n 0, 1) := by decide +kernel
theorem dL_law_730 : decode cL_law 730 = .ok (.iload 4, 2) := by decide +kernel
theorem dL_law_732 : decode cL_law 732 = .ok (.iconst 1, 1) := by decide +kernel
theorem dL_law_733 : decode cL_law 733 = .ok (.iadd, 1) := by decide +kernel
theorem dL_law_734 : decode cL_law 734 = .ok (.iaload, 1) := by decide +kernel
theorem dL_law_735 : decode cL_law 735 = .ok (.invokevirtual 113, 3) := by decide +kernel
theorem dL_law_738 : decode cL_law 738 = .ok (.istore 6, 2) := by decide +kernel
theorem dL_law_740 : decode cL_law 740 = .ok (.aload_n 2, 1) := by decide +kernel
theorem dL_law_741 : decode cL_law 741 = .ok (.invokevirtual 72, 3) := by decide +kernel
theorem dL_law_744 : decode cL_law 744 = .ok (.iload 5, 2) := by decide +kernel
theorem dL_law_746 : decode cL_law 746 = .ok (.if_icmp .eq 5, 3) := by decide +kernel
theorem dL_law_749 : decode cL_law 749 = .ok (.iconst 0, 1) := by decide +kernel
theorem dL_law_750 : decode cL_law 750 = .ok (.ireturn, 1) := by decide +kernel
theorem dL_law_751 : decode cL_law 751 = .ok (.iload 5, 2) := by decide +kernel
theorem dL_law_753 : decode cL_law 753 = .ok (.ifCond .ne 15, 3) := by decide +kernel
theorem dL_law_756 : decode cL_law 756 = .ok (.aload_n 3, 1) := by decide +kernel
theorem dL_law_757 : decode cL_law 757 = .ok (.iconst 0, 1) := by decide +kernel
theorem dL_law_758 : decode cL_law 758 = .ok (.laload, 1) := by decide +kernel
theorem dL_law_759 : decode cL_law 759 = .ok (.iload 6, 2) := by decide +kernel
theorem dL_law_761 : decode cL_law 761 = .ok (.i2l, 1) := by decide +kernel
theorem dL_law_762 : decode cL_law 762 = .ok (.lcmp, 1) := by decide +kernel
theorem dL_law_763 : decode cL_law 763 = .ok (.ifCond .eq 5, 3) := by decide +kernel
theorem dL_law_766 : decode cL_law 766 = .ok (.iconst 0, 1) := by decide +kernel
theorem dL_law_767 : decode cL_law 767 = .ok (.ireturn, 1) := by decide +kernel
theorem dL_law_768 : decode cL_law 768 = .ok (.goto 116, 3) := by decide +kernel
theorem dL_law_771 : decode cL_law 771 = .ok (.aload_n 1, 1) := by decide +kernel
theorem dL_law_772 : decode cL_law 772 = .ok (.aload_n 3, 1) := by decide +kernel
theorem dL_law_773 : decode cL_law 773 = .ok (.invokestatic 114, 3) := by decide +kernel
theorem dL_law_776 : decode cL_law 776 = .ok (.istore 5, 2) := by decide +kernel
theorem dL_law_778 : decode cL_law 778 = .ok (.aload_n 2, 1) := by decide +kernel
theorem dL_law_779 : decode cL_law 779 = .ok (.invokevirtual 116, 3) := by decide +kernel
theorem dL_law_782 : decode cL_law 782 = .ok (.istore 6, 2) := by decide +kernel
theorem dL_law_784 : decode cL_law 784 = .ok (.aload_n 2, 1) := by decide +kernel
theorem dL_law_785 : decode cL_law 785 = .ok (.invokevirtual 72, 3) := by decide +kernel
theorem dL_law_788 : decode cL_law 788 = .ok (.iload 5, 2) := by decide +kernel
theorem dL_law_790 : decode cL_law 790 = .ok (.if_icmp .eq 5, 3) := by decide +kernel
theorem dL_law_793 : decode cL_law 793 = .ok (.iconst 0, 1) := by decide +kernel
theorem dL_law_794 : decode cL_law 794 = .ok (.ireturn, 1) := by decide +kernel
theorem dL_law_795 : decode cL_law 795 = .ok (.iload 5, 2) := by decide +kernel
theorem dL_law_797 : decode cL_law 797 = .ok (.ifCond .ne 15, 3) := by decide +kernel
theorem dL_law_800 : decode cL_law 800 = .ok (.aload_n 3, 1) := by decide +kernel
theorem dL_law_801 : decode cL_law 801 = .ok (.iconst 0, 1) := by decide +kernel
theorem dL_law_802 : decode cL_law 802 = .ok (.laload, 1) := by decide +kernel
theorem dL_law_803 : decode cL_law 803 = .ok (.iload 6, 2) := by decide +kernel
theorem dL_law_805 : decode cL_law 805 = .ok (.i2l, 1) := by decide +kernel
theorem dL_law_806 : decode cL_law 806 = .ok (.lcmp, 1) := by decide +kernel
theorem dL_law_807 : decode cL_law 807 = .ok (.ifCond .eq 5, 3) := by decide +kernel
theorem dL_law_810 : decode cL_law 810 = .ok (.iconst 0, 1) := by decide +kernel
theorem dL_law_811 : decode cL_law 811 = .ok (.ireturn, 1) := by decide +kernel
theorem dL_law_812 : decode cL_law 812 = .ok (.goto 72, 3) := by decide +kernel
theorem dL_law_815 : decode cL_law 815 = .ok (.aload_n 1, 1) := by decide +kernel
theorem dL_law_816 : decode cL_law 816 = .ok (.aload_n 3, 1) := by decide +kernel
theorem dL_law_817 : decode cL_law 817 = .ok (.invokestatic 117, 3) := by decide +kernel
theorem dL_law_820 : decode cL_law 820 = .ok (.istore 5, 2) := by decide +kernel
theorem dL_law_822 : decode cL_law 822 = .ok (.aload_n 2, 1) := by decide +kernel
theorem dL_law_823 : decode cL_law 823 = .ok (.invokevirtual 119, 3) := by decide +kernel
theorem dL_law_826 : decode cL_law 826 = .ok (.istore 6, 2) := by decide +kernel
theorem dL_law_828 : decode cL_law 828 = .ok (.aload_n 2, 1) := by decide +kernel
theorem dL_law_829 : decode cL_law 829 = .ok (.invokevirtual 72, 3) := by decide +kernel
theorem dL_law_832 : decode cL_law 832 = .ok (.iload 5, 2) := by decide +kernel
theorem dL_law_834 : decode cL_law 834 = .ok (.if_icmp .eq 5, 3) := by decide +kernel
theorem dL_law_837 : decode cL_law 837 = .ok (.iconst 0, 1) := by decide +kernel
theorem dL_law_838 : decode cL_law 838 = .ok (.ireturn, 1) := by decide +kernel
theorem dL_law_839 : decode cL_law 839 = .ok (.iload 5, 2) := by decide +kernel
theorem dL_law_841 : decode cL_law 841 = .ok (.ifCond .ne 15, 3) := by decide +kernel
theorem dL_law_844 : decode cL_law 844 = .ok (.aload_n 3, 1) := by decide +kernel
theorem dL_law_845 : decode cL_law 845 = .ok (.iconst 0, 1) := by decide +kernel
theorem dL_law_846 : decode cL_law 846 = .ok (.laload, 1) := by decide +kernel
theorem dL_law_847 : decode cL_law 847 = .ok (.iload 6, 2) := by decide +kernel
theorem dL_law_849 : decode cL_law 849 = .ok (.i2l, 1) := by decide +kernel
theorem dL_law_850 : decode cL_law 850 = .ok (.lcmp, 1) := by decide +kernel
theorem dL_law_851 : decode cL_law 851 = .ok (.ifCond .eq 5, 3) := by decide +kernel
theorem dL_law_854 : decode cL_law 854 = .ok (.iconst 0, 1) := by decide +kernel
theorem dL_law_855 : decode cL_law 855 = .ok (.ireturn, 1) := by decide +kernel
theorem dL_law_856 : decode cL_law 856 = .ok (.goto 28, 3) := by decide +kernel
theorem dL_law_859 : decode cL_law 859 = .ok (.aload_n 1, 1) := by decide +kernel
theorem dL_law_860 : decode cL_law 860 = .ok (.aload_n 0, 1) := by decide +kernel
theorem dL_law_861 : decode cL_law 861 = .ok (.iload 4, 2) := by decide +kernel
theorem dL_law_863 : decode cL_law 863 = .ok (.iconst 1, 1) := by decide +kernel
theorem dL_law_864 : decode cL_law 864 = .ok (.iadd, 1) := by decide +kernel
theorem dL_law_865 : decode cL_law 865 = .ok (.iaload, 1) := by decide +kernel
theorem dL_law_866 : decode cL_law 866 = .ok (.invokevirtual 120, 3) := by decide +kernel
theorem dL_law_869 : decode cL_law 869 = .ok (.aload_n 2, 1) := by decide +kernel
theorem dL_law_870 : decode cL_law 870 = .ok (.aload_n 0, 1) := by decide +kernel
theorem dL_law_871 : decode cL_law 871 = .ok (.iload 4, 2) := by decide +kernel
theorem dL_law_873 : decode cL_law 873 = .ok (.iconst 1, 1) := by decide +kernel
theorem dL_law_874 : decode cL_law 874 = .ok (.iadd, 1) := by decide +kernel
theorem dL_law_875 : decode cL_law 875 = .ok (.iaload, 1) := by decide +kernel
theorem dL_law_876 : decode cL_law 876 = .ok (.invokevirtual 123, 3) := by decide +kernel
theorem dL_law_879 : decode cL_law 879 = .ok (.if_icmp .eq 5, 3) := by decide +kernel
theorem dL_law_882 : decode cL_law 882 = .ok (.iconst 0, 1) := by decide +kernel
theorem dL_law_883 : decode cL_law 883 = .ok (.ireturn, 1) := by decide +kernel
theorem dL_law_884 : decode cL_law 884 = .ok (.iinc 4 4, 3) := by decide +kernel
theorem dL_law_887 : decode cL_law 887 = .ok (.goto (-854), 3) := by decide +kernel
theorem dL_law_890 : decode cL_law 890 = .ok (.iconst 1, 1) := by decide +kernel
theorem dL_law_891 : decode cL_law 891 = .ok (.ireturn, 1) := by decide +kernel
