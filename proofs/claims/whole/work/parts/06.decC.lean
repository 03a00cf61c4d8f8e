theorem dX7_init_0 : decode cX7_init 0 = .ok (.aload_n 0, 1) := by decide +kernel
theorem dX7_init_1 : decode cX7_init 1 = .ok (.invokespecial 1, 3) := by decide +kernel
theorem dX7_init_4 : decode cX7_init 4 = .ok (.aload_n 0, 1) := by decide +kernel
theorem dX7_init_5 : decode cX7_init 5 = .ok (.iconst 0, 1) := by decide +kernel
theorem dX7_init_6 : decode cX7_init 6 = .ok (.iconst 4, 1) := by decide +kernel
theorem dX7_init_7 : decode cX7_init 7 = .ok (.iload_n 1, 1) := by decide +kernel
theorem dX7_init_8 : decode cX7_init 8 = .ok (.invokestatic 9, 3) := by decide +kernel
theorem dX7_init_11 : decode cX7_init 11 = .ok (.invokestatic 15, 3) := by decide +kernel
theorem dX7_init_14 : decode cX7_init 14 = .ok (.putfield 18, 3) := by decide +kernel
theorem dX7_init_17 : decode cX7_init 17 = .ok (.aload_n 0, 1) := by decide +kernel
theorem dX7_init_18 : decode cX7_init 18 = .ok (.new 22, 3) := by decide +kernel
theorem dX7_init_21 : decode cX7_init 21 = .ok (.dup, 1) := by decide +kernel
theorem dX7_init_22 : decode cX7_init 22 = .ok (.aload_n 0, 1) := by decide +kernel
theorem dX7_init_23 : decode cX7_init 23 = .ok (.getfield 18, 3) := by decide +kernel
theorem dX7_init_26 : decode cX7_init 26 = .ok (.invokespecial 24, 3) := by decide +kernel
theorem dX7_init_29 : decode cX7_init 29 = .ok (.putfield 27, 3) := by decide +kernel
theorem dX7_init_32 : decode cX7_init 32 = .ok (.aload_n 0, 1) := by decide +kernel
theorem dX7_init_33 : decode cX7_init 33 = .ok (.getfield 27, 3) := by decide +kernel
theorem dX7_init_36 : decode cX7_init 36 = .ok (.iconst 1, 1) := by decide +kernel
theorem dX7_init_37 : decode cX7_init 37 = .ok (.iconst 1, 1) := by decide +kernel
theorem dX7_init_38 : decode cX7_init 38 = .ok (.invokevirtual 31, 3) := by decide +kernel
theorem dX7_init_41 : decode cX7_init 41 = .ok (.aload_n 0, 1) := by decide +kernel
theorem dX7_init_42 : decode cX7_init 42 = .ok (.new 35, 3) := by decide +kernel
theorem dX7_init_45 : decode cX7_init 45 = .ok (.dup, 1) := by decide +kernel
theorem dX7_init_46 : decode cX7_init 46 = .ok (.aload_n 0, 1) := by decide +kernel
theorem dX7_init_47 : decode cX7_init 47 = .ok (.getfield 18, 3) := by decide +kernel
theorem dX7_init_50 : decode cX7_init 50 = .ok (.invokespecial 37, 3) := by decide +kernel
theorem dX7_init_53 : decode cX7_init 53 = .ok (.putfield 38, 3) := by decide +kernel
theorem dX7_init_56 : decode cX7_init 56 = .ok (.aload_n 0, 1) := by decide +kernel
theorem dX7_init_57 : decode cX7_init 57 = .ok (.aload_n 0, 1) := by decide +kernel
theorem dX7_init_58 : decode cX7_init 58 = .ok (.getfield 18, 3) := by decide +kernel
theorem dX7_init_61 : decode cX7_init 61 = .ok (.iconst 2, 1) := by decide +kernel
theorem dX7_init_62 : decode cX7_init 62 = .ok (.if_icmp .gt 17, 3) := by decide +kernel
theorem dX7_init_65 : decode cX7_init 65 = .ok (.new 42, 3) := by decide +kernel
theorem dX7_init_68 : decode cX7_init 68 = .ok (.dup, 1) := by decide +kernel
theorem dX7_init_69 : decode cX7_init 69 = .ok (.aload_n 0, 1) := by decide +kernel
theorem dX7_init_70 : decode cX7_init 70 = .ok (.getfield 27, 3) := by decide +kernel
theorem dX7_init_73 : decode cX7_init 73 = .ok (.invokespecial 44, 3) := by decide +kernel
theorem dX7_init_76 : decode cX7_init 76 = .ok (.goto 18, 3) := by decide +kernel
theorem dX7_init_79 : decode cX7_init 79 = .ok (.new 47, 3) := by decide +kernel
theorem dX7_init_82 : decode cX7_init 82 = .ok (.dup, 1) := by decide +kernel
theorem dX7_init_83 : decode cX7_init 83 = .ok (.aload_n 0, 1) := by decide +kernel
theorem dX7_init_84 : decode cX7_init 84 = .ok (.getfield 27, 3) := by decide +kernel
theorem dX7_init_87 : decode cX7_init 87 = .ok (.aload_n 0, 1) := by decide +kernel
theorem dX7_init_88 : decode cX7_init 88 = .ok (.getfield 38, 3) := by decide +kernel
theorem dX7_init_91 : decode cX7_init 91 = .ok (.invokespecial 49, 3) := by decide +kernel
theorem dX7_init_94 : decode cX7_init 94 = .ok (.putfield 52, 3) := by decide +kernel
theorem dX7_init_97 : decode cX7_init 97 = .ok (.aload_n 0, 1) := by decide +kernel
theorem dX7_init_98 : decode cX7_init 98 = .ok (.new 56, 3) := by decide +kernel
theorem dX7_init_101 : decode cX7_init 101 = .ok (.dup, 1) := by decide +kernel
theorem dX7_init_102 : decode cX7_init 102 = .ok (.aload_n 0, 1) := by decide +kernel
theorem dX7_init_103 : decode cX7_init 103 = .ok (.getfield 18, 3) := by decide +kernel
theorem dX7_init_106 : decode cX7_init 106 = .ok (.aload_n 0, 1) := by decide +kernel
theorem dX7_init_107 : decode cX7_init 107 = .ok (.getfield 18, 3) := by decide +kernel
theorem dX7_init_110 : decode cX7_init 110 = .ok (.invokestatic 58, 3) := by decide +kernel
theorem dX7_init_113 : decode cX7_init 113 = .ok (.invokespecial 62, 3) := by decide +kernel
theorem dX7_init_116 : decode cX7_init 116 = .ok (.putfield 64, 3) := by decide +kernel
theorem dX7_init_119 : decode cX7_init 119 = .ok (.return_, 1) := by decide +kernel
theorem dX7_grid_0 : decode cX7_grid 0 = .ok (.iload_n 1, 1) := by decide +kernel
theorem dX7_grid_1 : decode cX7_grid 1 = .ok (.iconst 1, 1) := by decide +kernel
theorem dX7_grid_2 : decode cX7_grid 2 = .ok (.if_icmp .lt 20, 3) := by decide +kernel
theorem dX7_grid_5 : decode cX7_grid 5 = .ok (.iload_n 1, 1) := by decide +kernel
theorem dX7_grid_6 : decode cX7_grid 6 = .ok (.bipush 6, 2) := by decide +kernel
theorem dX7_grid_8 : decode cX7_grid 8 = .ok (.if_icmp .gt 14, 3) := by decide +kernel
theorem dX7_grid_11 : decode cX7_grid 11 = .ok (.iload_n 2, 1) := by decide +kernel
theorem dX7_grid_12 : decode cX7_grid 12 = .ok (.iconst 1, 1) := by decide +kernel
theorem dX7_grid_13 : decode cX7_grid 13 = .ok (.if_icmp .lt 9, 3) := by decide +kernel
theorem dX7_grid_16 : decode cX7_grid 16 = .ok (.iload_n 2, 1) := by decide +kernel
theorem dX7_grid_17 : decode cX7_grid 17 = .ok (.bipush 6, 2) := by decide +kernel
theorem dX7_grid_19 : decode cX7_grid 19 = .ok (.if_icmp .le 13, 3) := by decide +kernel
theorem dX7_grid_22 : decode cX7_grid 22 = .ok (.new 68, 3) := by decide +kernel
theorem dX7_grid_25 : decode cX7_grid 25 = .ok (.dup, 1) := by decide +kernel
theorem dX7_grid_26 : decode cX7_grid 26 = .ok (.ldc 70, 2) := by decide +kernel
theorem dX7_grid_28 : decode cX7_grid 28 = .ok (.invokespecial 72, 3) := by decide +kernel
theorem dX7_grid_31 : decode cX7_grid 31 = .ok (.athrow, 1) := by decide +kernel
theorem dX7_grid_32 : decode cX7_grid 32 = .ok (.aload_n 0, 1) := by decide +kernel
theorem dX7_grid_33 : decode cX7_grid 33 = .ok (.getfield 27, 3) := by decide +kernel
theorem dX7_grid_36 : decode cX7_grid 36 = .ok (.iload_n 1, 1) := by decide +kernel
theorem dX7_grid_37 : decode cX7_grid 37 = .ok (.iload_n 2, 1) := by decide +kernel
theorem dX7_grid_38 : decode cX7_grid 38 = .ok (.invokevirtual 31, 3) := by decide +kernel
theorem dX7_grid_41 : decode cX7_grid 41 = .ok (.aload_n 0, 1) := by decide +kernel
theorem dX7_grid_42 : decode cX7_grid 42 = .ok (.getfield 64, 3) := by decide +kernel
theorem dX7_grid_45 : decode cX7_grid 45 = .ok (.invokevirtual 75, 3) := by decide +kernel
theorem dX7_grid_48 : decode cX7_grid 48 = .ok (.return_, 1) := by decide +kernel
theorem dX7_wall_0 : decode cX7_wall 0 = .ok (.aload_n 0, 1) := by decide +kernel
theorem dX7_wall_1 : decode cX7_wall 1 = .ok (.getfield 27, 3) := by decide +kernel
theorem dX7_wall_4 : decode cX7_wall 4 = .ok (.getfield 78, 3) := by decide +kernel
theorem dX7_wall_7 : decode cX7_wall 7 = .ok (.iload_n 1, 1) := by decide +kernel
theorem dX7_wall_8 : decode cX7_wall 8 = .ok (.iload_n 2, 1) := by decide +kernel
theorem dX7_wall_9 : decode cX7_wall 9 = .ok (.invokevirtual 82, 3) := by decide +kernel
theorem dX7_wall_12 : decode cX7_wall 12 = .ok (.istore 4, 2) := by decide +kernel
theorem dX7_wall_14 : decode cX7_wall 14 = .ok (.iload 4, 2) := by decide +kernel
theorem dX7_wall_16 : decode cX7_wall 16 = .ok (.iconst (-1), 1) := by decide +kernel
theorem dX7_wall_17 : decode cX7_wall 17 = .ok (.if_icmp .ne 13, 3) := by decide +kernel
theorem dX7_wall_20 : decode cX7_wall 20 = .ok (.new 87, 3) := by decide +kernel
theorem dX7_wall_23 : decode cX7_wall 23 = .ok (.dup, 1) := by decide +kernel
theorem dX7_wall_24 : decode cX7_wall 24 = .ok (.ldc 89, 2) := by decide +kernel
theorem dX7_wall_26 : decode cX7_wall 26 = .ok (.invokespecial 91, 3) := by decide +kernel
theorem dX7_wall_29 : decode cX7_wall 29 = .ok (.athrow, 1) := by decide +kernel
theorem dX7_wall_30 : decode cX7_wall 30 = .ok (.aload_n 0, 1) := by decide +kernel
theorem dX7_wall_31 : decode cX7_wall 31 = .ok (.getfield 27, 3) := by decide +kernel
theorem dX7_wall_34 : decode cX7_wall 34 = .ok (.getfield 92, 3) := by decide +kernel
theorem dX7_wall_37 : decode cX7_wall 37 = .ok (.iload 4, 2) := by decide +kernel
theorem dX7_wall_39 : decode cX7_wall 39 = .ok (.invokestatic 96, 3) := by decide +kernel
theorem dX7_wall_42 : decode cX7_wall 42 = .ok (.iconst (-1), 1) := by decide +kernel
theorem dX7_wall_43 : decode cX7_wall 43 = .ok (.if_icmp .ne 19, 3) := by decide +kernel
theorem dX7_wall_46 : decode cX7_wall 46 = .ok (.aload_n 0, 1) := by decide +kernel
theorem dX7_wall_47 : decode cX7_wall 47 = .ok (.getfield 27, 3) := by decide +kernel
theorem dX7_wall_50 : decode cX7_wall 50 = .ok (.getfield 100, 3) := by decide +kernel
theorem dX7_wall_53 : decode cX7_wall 53 = .ok (.iload 4, 2) := by decide +kernel
theorem dX7_wall_55 : decode cX7_wall 55 = .ok (.invokestatic 96, 3) := by decide +kernel
theorem dX7_wall_58 : decode cX7_wall 58 = .ok (.iconst (-1), 1) := by decide +kernel
theorem dX7_wall_59 : decode cX7_wall 59 = .ok (.if_icmp .eq 13, 3) := by decide +kernel
theorem dX7_wall_62 : decode cX7_wall 62 = .ok (.new 103, 3) := by decide +kernel
theorem dX7_wall_65 : decode cX7_wall 65 = .ok (.dup, 1) := by decide +kernel
theorem dX7_wall_66 : decode cX7_wall 66 = .ok (.ldc 105, 2) := by decide +kernel
theorem dX7_wall_68 : decode cX7_wall 68 = .ok (.invokespecial 107, 3) := by decide +kernel
theorem dX7_wall_71 : decode cX7_wall 71 = .ok (.athrow, 1) := by decide +kernel
theorem dX7_wall_72 : decode cX7_wall 72 = .ok (.aload_n 0, 1) := by decide +kernel
theorem dX7_wall_73 : decode cX7_wall 73 = .ok (.getfield 27, 3) := by decide +kernel
theorem dX7_wall_76 : decode cX7_wall 76 = .ok (.getfield 78, 3) := by decide +kernel
theorem dX7_wall_79 : decode cX7_wall 79 = .ok (.iload 4, 2) := by decide +kernel
theorem dX7_wall_81 : decode cX7_wall 81 = .ok (.iload_n 3, 1) := by decide +kernel
theorem dX7_wall_82 : decode cX7_wall 82 = .ok (.invokevirtual 108, 3) := by decide +kernel
theorem dX7_wall_85 : decode cX7_wall 85 = .ok (.ireturn, 1) := by decide +kernel
theorem dX7_start_0 : decode cX7_start 0 = .ok (.aload_n 0, 1) := by decide +kernel
theorem dX7_start_1 : decode cX7_start 1 = .ok (.aload_n 0, 1) := by decide +kernel
theorem dX7_start_2 : decode cX7_start 2 = .ok (.getfield 27, 3) := by decide +kernel
theorem dX7_start_5 : decode cX7_start 5 = .ok (.getfield 92, 3) := by decide +kernel
theorem dX7_start_8 : decode cX7_start 8 = .ok (.iload_n 1, 1) := by decide +kernel
theorem dX7_start_9 : decode cX7_start 9 = .ok (.iload_n 2, 1) := by decide +kernel
theorem dX7_start_10 : decode cX7_start 10 = .ok (.iload_n 3, 1) := by decide +kernel
theorem dX7_start_11 : decode cX7_start 11 = .ok (.invokevirtual 112, 3) := by decide +kernel
theorem dX7_start_14 : decode cX7_start 14 = .ok (.ireturn, 1) := by decide +kernel
theorem dX7_end_0 : decode cX7_end 0 = .ok (.aload_n 0, 1) := by decide +kernel
theorem dX7_end_1 : decode cX7_end 1 = .ok (.aload_n 0, 1) := by decide +kernel
theorem dX7_end_2 : decode cX7_end 2 = .ok (.getfield 27, 3) := by decide +kernel
theorem dX7_end_5 : decode cX7_end 5 = .ok (.getfield 100, 3) := by decide +kernel
theorem dX7_end_8 : decode cX7_end 8 = .ok (.iload_n 1, 1) := by decide +kernel
theorem dX7_end_9 : decode cX7_end 9 = .ok (.iload_n 2, 1) := by decide +kernel
theorem dX7_end_10 : decode cX7_end 10 = .ok (.iload_n 3, 1) := by decide +kernel
theorem dX7_end_11 : decode cX7_end 11 = .ok (.invokevirtual 112, 3) := by decide +kernel
theorem dX7_end_14 : decode cX7_end 14 = .ok (.ireturn, 1) := by decide +kernel
theorem dX7_swap_0 : decode cX7_swap 0 = .ok (.aload_n 0, 1) := by decide +kernel
theorem dX7_swap_1 : decode cX7_swap 1 = .ok (.getfield 27, 3) := by decide +kernel
theorem dX7_swap_4 : decode cX7_swap 4 = .ok (.getfield 116, 3) := by decide +kernel
theorem dX7_swap_7 : decode cX7_swap 7 = .ok (.istore_n 2, 1) := by decide +kernel
theorem dX7_swap_8 : decode cX7_swap 8 = .ok (.aload_n 0, 1) := by decide +kernel
theorem dX7_swap_9 : decode cX7_swap 9 = .ok (.getfield 27, 3) := by decide +kernel
theorem dX7_swap_12 : decode cX7_swap 12 = .ok (.iload_n 1, 1) := by decide +kernel
theorem dX7_swap_13 : decode cX7_swap 13 = .ok (.putfield 116, 3) := by decide +kernel
theorem dX7_swap_16 : decode cX7_swap 16 = .ok (.iload_n 2, 1) := by decide +kernel
theorem dX7_swap_17 : decode cX7_swap 17 = .ok (.ireturn, 1) := by decide +kernel
theorem dX7_seed_0 : decode cX7_seed 0 = .ok (.iload_n 1, 1) := by decide +kernel
theorem dX7_seed_1 : decode cX7_seed 1 = .ok (.ifCond .ge 13, 3) := by decide +kernel
theorem dX7_seed_4 : decode cX7_seed 4 = .ok (.new 68, 3) := by decide +kernel
theorem dX7_seed_7 : decode cX7_seed 7 = .ok (.dup, 1) := by decide +kernel
theorem dX7_seed_8 : decode cX7_seed 8 = .ok (.ldc 120, 2) := by decide +kernel
theorem dX7_seed_10 : decode cX7_seed 10 = .ok (.invokespecial 72, 3) := by decide +kernel
theorem dX7_seed_13 : decode cX7_seed 13 = .ok (.athrow, 1) := by decide +kernel
theorem dX7_seed_14 : decode cX7_seed 14 = .ok (.aload_n 0, 1) := by decide +kernel
theorem dX7_seed_15 : decode cX7_seed 15 = .ok (.getfield 38, 3) := by decide +kernel
theorem dX7_seed_18 : decode cX7_seed 18 = .ok (.iload_n 1, 1) := by decide +kernel
theorem dX7_seed_19 : decode cX7_seed 19 = .ok (.i2l, 1) := by decide +kernel
theorem dX7_seed_20 : decode cX7_seed 20 = .ok (.putfield 122, 3) := by decide +kernel
theorem dX7_seed_23 : decode cX7_seed 23 = .ok (.return_, 1) := by decide +kernel
theorem dX7_solve_0 : decode cX7_solve 0 = .ok (.iload_n 1, 1) := by decide +kernel
theorem dX7_solve_1 : decode cX7_solve 1 = .ok (.ifCond .lt 8, 3) := by decide +kernel
theorem dX7_solve_4 : decode cX7_solve 4 = .ok (.iload_n 1, 1) := by decide +kernel
theorem dX7_solve_5 : decode cX7_solve 5 = .ok (.iconst 5, 1) := by decide +kernel
theorem dX7_solve_6 : decode cX7_solve 6 = .ok (.if_icmp .le 13, 3) := by decide +kernel
theorem dX7_solve_9 : decode cX7_solve 9 = .ok (.new 68, 3) := by decide +kernel
theorem dX7_solve_12 : decode cX7_solve 12 = .ok (.dup, 1) := by decide +kernel
theorem dX7_solve_13 : decode cX7_solve 13 = .ok (.ldc 126, 2) := by decide +kernel
theorem dX7_solve_15 : decode cX7_solve 15 = .ok (.invokespecial 72, 3) := by decide +kernel
theorem dX7_solve_18 : decode cX7_solve 18 = .ok (.athrow, 1) := by decide +kernel
theorem dX7_solve_19 : decode cX7_solve 19 = .ok (.aload_n 0, 1) := by decide +kernel
theorem dX7_solve_20 : decode cX7_solve 20 = .ok (.invokevirtual 128, 3) := by decide +kernel
theorem dX7_solve_23 : decode cX7_solve 23 = .ok (.aload_n 0, 1) := by decide +kernel
theorem dX7_solve_24 : decode cX7_solve 24 = .ok (.getfield 64, 3) := by decide +kernel
theorem dX7_solve_27 : decode cX7_solve 27 = .ok (.invokevirtual 75, 3) := by decide +kernel
theorem dX7_solve_30 : decode cX7_solve 30 = .ok (.aload_n 0, 1) := by decide +kernel
theorem dX7_solve_31 : decode cX7_solve 31 = .ok (.getfield 52, 3) := by decide +kernel
theorem dX7_solve_34 : decode cX7_solve 34 = .ok (.aload_n 0, 1) := by decide +kernel
theorem dX7_solve_35 : decode cX7_solve 35 = .ok (.getfield 64, 3) := by decide +kernel
theorem dX7_solve_38 : decode cX7_solve 38 = .ok (.iload_n 1, 1) := by decide +kernel
theorem dX7_solve_39 : decode cX7_solve 39 = .ok (.invokeinterface 131 3, 5) := by decide +kernel
theorem dX7_solve_44 : decode cX7_solve 44 = .ok (.aload_n 0, 1) := by decide +kernel
theorem dX7_solve_45 : decode cX7_solve 45 = .ok (.getfield 64, 3) := by decide +kernel
theorem dX7_solve_48 : decode cX7_solve 48 = .ok (.getfield 137, 3) := by decide +kernel
theorem dX7_solve_51 : decode cX7_solve 51 = .ok (.ireturn, 1) := by decide +kernel
theorem dX7_exact_0 : decode cX7_exact 0 = .ok (.aload_n 0, 1) := by decide +kernel
theorem dX7_exact_1 : decode cX7_exact 1 = .ok (.getfield 18, 3) := by decide +kernel
theorem dX7_exact_4 : decode cX7_exact 4 = .ok (.iconst 2, 1) := by decide +kernel
theorem dX7_exact_5 : decode cX7_exact 5 = .ok (.if_icmp .gt 17, 3) := by decide +kernel
theorem dX7_exact_8 : decode cX7_exact 8 = .ok (.aload_n 0, 1) := by decide +kernel
theorem dX7_exact_9 : decode cX7_exact 9 = .ok (.getfield 64, 3) := by decide +kernel
theorem dX7_exact_12 : decode cX7_exact 12 = .ok (.invokevirtual 140, 3) := by decide +kernel
theorem dX7_exact_15 : decode cX7_exact 15 = .ok (.ifCond .eq 7, 3) := by decide +kernel
theorem dX7_exact_18 : decode cX7_exact 18 = .ok (.iconst 1, 1) := by decide +kernel
theorem dX7_exact_19 : decode cX7_exact 19 = .ok (.goto 4, 3) := by decide +kernel
theorem dX7_exact_22 : decode cX7_exact 22 = .ok (.iconst 0, 1) := by decide +kernel
theorem dX7_exact_23 : decode cX7_exact 23 = .ok (.ireturn, 1) := by decide +kernel
theorem dX7_at_0 : decode cX7_at 0 = .ok (.aload_n 0, 1) := by decide +kernel
theorem dX7_at_1 : decode cX7_at 1 = .ok (.iload_n 1, 1) := by decide +kernel
theorem dX7_at_2 : decode cX7_at 2 = .ok (.invokevirtual 144, 3) := by decide +kernel
theorem dX7_at_5 : decode cX7_at 5 = .ok (.iload_n 2, 1) := by decide +kernel
theorem dX7_at_6 : decode cX7_at 6 = .ok (.ifCond .lt 12, 3) := by decide +kernel
theorem dX7_at_9 : decode cX7_at 9 = .ok (.iload_n 3, 1) := by decide +kernel
theorem dX7_at_10 : decode cX7_at 10 = .ok (.ifCond .lt 8, 3) := by decide +kernel
theorem dX7_at_13 : decode cX7_at 13 = .ok (.iload_n 3, 1) := by decide +kernel
theorem dX7_at_14 : decode cX7_at 14 = .ok (.iconst 1, 1) := by decide +kernel
theorem dX7_at_15 : decode cX7_at 15 = .ok (.if_icmp .le 13, 3) := by decide +kernel
theorem dX7_at_18 : decode cX7_at 18 = .ok (.new 68, 3) := by decide +kernel
theorem dX7_at_21 : decode cX7_at 21 = .ok (.dup, 1) := by decide +kernel
theorem dX7_at_22 : decode cX7_at 22 = .ok (.ldc 147, 2) := by decide +kernel
theorem dX7_at_24 : decode cX7_at 24 = .ok (.invokespecial 72, 3) := by decide +kernel
theorem dX7_at_27 : decode cX7_at 27 = .ok (.athrow, 1) := by decide +kernel
theorem dX7_at_28 : decode cX7_at 28 = .ok (.aload_n 0, 1) := by decide +kernel
theorem dX7_at_29 : decode cX7_at 29 = .ok (.invokevirtual 149, 3) := by decide +kernel
theorem dX7_at_32 : decode cX7_at 32 = .ok (.aload_n 0, 1) := by decide +kernel
theorem dX7_at_33 : decode cX7_at 33 = .ok (.getfield 64, 3) := by decide +kernel
theorem dX7_at_36 : decode cX7_at 36 = .ok (.iload_n 1, 1) := by decide +kernel
theorem dX7_at_37 : decode cX7_at 37 = .ok (.iload_n 2, 1) := by decide +kernel
theorem dX7_at_38 : decode cX7_at 38 = .ok (.aload_n 0, 1) := by decide +kernel
theorem dX7_at_39 : decode cX7_at 39 = .ok (.getfield 64, 3) := by decide +kernel
theorem dX7_at_42 : decode cX7_at 42 = .ok (.getfield 152, 3) := by decide +kernel
theorem dX7_at_45 : decode cX7_at 45 = .ok (.invokestatic 9, 3) := by decide +kernel
theorem dX7_at_48 : decode cX7_at 48 = .ok (.invokevirtual 155, 3) := by decide +kernel
theorem dX7_at_51 : decode cX7_at 51 = .ok (.istore 4, 2) := by decide +kernel
theorem dX7_at_53 : decode cX7_at 53 = .ok (.iload_n 3, 1) := by decide +kernel
theorem dX7_at_54 : decode cX7_at 54 = .ok (.ifCond .ne 11, 3) := by decide +kernel
theorem dX7_at_57 : decode cX7_at 57 = .ok (.iload 4, 2) := by decide +kernel
theorem dX7_at_59 : decode cX7_at 59 = .ok (.bipush 6, 2) := by decide +kernel
theorem dX7_at_61 : decode cX7_at 61 = .ok (.irem, 1) := by decide +kernel
theorem dX7_at_62 : decode cX7_at 62 = .ok (.goto 8, 3) := by decide +kernel
theorem dX7_at_65 : decode cX7_at 65 = .ok (.iload 4, 2) := by decide +kernel
theorem dX7_at_67 : decode cX7_at 67 = .ok (.bipush 6, 2) := by decide +kernel
theorem dX7_at_69 : decode cX7_at 69 = .ok (.idiv, 1) := by decide +kernel
theorem dX7_at_70 : decode cX7_at 70 = .ok (.ireturn, 1) := by decide +kernel
theorem dX7_last_0 : decode cX7_last 0 = .ok (.aload_n 0, 1) := by decide +kernel
theorem dX7_last_1 : decode cX7_last 1 = .ok (.invokevirtual 149, 3) := by decide +kernel
theorem dX7_last_4 : decode cX7_last 4 = .ok (.aload_n 0, 1) := by decide +kernel
theorem dX7_last_5 : decode cX7_last 5 = .ok (.getfield 64, 3) := by decide +kernel
theorem dX7_last_8 : decode cX7_last 8 = .ok (.getfield 152, 3) := by decide +kernel
theorem dX7_last_11 : decode cX7_last 11 = .ok (.ireturn, 1) := by decide +kernel
theorem dX7_alone_0 : decode cX7_alone 0 = .ok (.aload_n 0, 1) := by decide +kernel
theorem dX7_alone_1 : decode cX7_alone 1 = .ok (.iload_n 1, 1) := by decide +kernel
theorem dX7_alone_2 : decode cX7_alone 2 = .ok (.invokevirtual 144, 3) := by decide +kernel
theorem dX7_alone_5 : decode cX7_alone 5 = .ok (.aload_n 0, 1) := by decide +kernel
theorem dX7_alone_6 : decode cX7_alone 6 = .ok (.getfield 27, 3) := by decide +kernel
theorem dX7_alone_9 : decode cX7_alone 9 = .ok (.iload_n 1, 1) := by decide +kernel
theorem dX7_alone_10 : decode cX7_alone 10 = .ok (.invokevirtual 158, 3) := by decide +kernel
theorem dX7_alone_13 : decode cX7_alone 13 = .ok (.ifCond .ne 13, 3) := by decide +kernel
theorem dX7_alone_16 : decode cX7_alone 16 = .ok (.new 103, 3) := by decide +kernel
theorem dX7_alone_19 : decode cX7_alone 19 = .ok (.dup, 1) := by decide +kernel
theorem dX7_alone_20 : decode cX7_alone 20 = .ok (.ldc 162, 2) := by decide +kernel
theorem dX7_alone_22 : decode cX7_alone 22 = .ok (.invokespecial 107, 3) := by decide +kernel
theorem dX7_alone_25 : decode cX7_alone 25 = .ok (.athrow, 1) := by decide +kernel
theorem dX7_alone_26 : decode cX7_alone 26 = .ok (.aload_n 0, 1) := by decide +kernel
theorem dX7_alone_27 : decode cX7_alone 27 = .ok (.getfield 27, 3) := by decide +kernel
theorem dX7_alone_30 : decode cX7_alone 30 = .ok (.iload_n 1, 1) := by decide +kernel
theorem dX7_alone_31 : decode cX7_alone 31 = .ok (.invokevirtual 164, 3) := by decide +kernel
theorem dX7_alone_34 : decode cX7_alone 34 = .ok (.ireturn, 1) := by decide +kernel
theorem dX7_bound_0 : decode cX7_bound 0 = .ok (.aload_n 0, 1) := by decide +kernel
theorem dX7_bound_1 : decode cX7_bound 1 = .ok (.invokevirtual 128, 3) := by decide +kernel
theorem dX7_bound_4 : decode cX7_bound 4 = .ok (.aload_n 0, 1) := by decide +kernel
theorem dX7_bound_5 : decode cX7_bound 5 = .ok (.getfield 27, 3) := by decide +kernel
theorem dX7_bound_8 : decode cX7_bound 8 = .ok (.invokevirtual 167, 3) := by decide +kernel
theorem dX7_bound_11 : decode cX7_bound 11 = .ok (.ireturn, 1) := by decide +kernel
theorem dX7_share_0 : decode cX7_share 0 = .ok (.aload_n 0, 1) := by decide +kernel
theorem dX7_share_1 : decode cX7_share 1 = .ok (.invokevirtual 149, 3) := by decide +kernel
theorem dX7_share_4 : decode cX7_share 4 = .ok (.aload_n 0, 1) := by decide +kernel
theorem dX7_share_5 : decode cX7_share 5 = .ok (.invokevirtual 128, 3) := by decide +kernel
theorem dX7_share_8 : decode cX7_share 8 = .ok (.aload_n 0, 1) := by decide +kernel
theorem dX7_share_9 : decode cX7_share 9 = .ok (.getfield 64, 3) := by decide +kernel
theorem dX7_share_12 : decode cX7_share 12 = .ok (.getfield 137, 3) := by decide +kernel
theorem dX7_share_15 : decode cX7_share 15 = .ok (.istore_n 1, 1) := by decide +kernel
theorem dX7_share_16 : decode cX7_share 16 = .ok (.iload_n 1, 1) := by decide +kernel
theorem dX7_share_17 : decode cX7_share 17 = .ok (.ifCond .ne 13, 3) := by decide +kernel
theorem dX7_share_20 : decode cX7_share 20 = .ok (.new 171, 3) := by decide +kernel
theorem dX7_share_23 : decode cX7_share 23 = .ok (.dup, 1) := by decide +kernel
theorem dX7_share_24 : decode cX7_share 24 = .ok (.ldc 173, 2) := by decide +kernel
theorem dX7_share_26 : decode cX7_share 26 = .ok (.invokespecial 175, 3) := by decide +kernel
theorem dX7_share_29 : decode cX7_share 29 = .ok (.athrow, 1) := by decide +kernel
theorem dX7_share_30 : decode cX7_share 30 = .ok (.bipush 100, 2) := by decide +kernel
theorem dX7_share_32 : decode cX7_share 32 = .ok (.aload_n 0, 1) := by decide +kernel
theorem dX7_share_33 : decode cX7_share 33 = .ok (.getfield 27, 3) := by decide +kernel
theorem dX7_share_36 : decode cX7_share 36 = .ok (.invokevirtual 167, 3) := by decide +kernel
theorem dX7_share_39 : decode cX7_share 39 = .ok (.imul, 1) := by decide +kernel
theorem dX7_share_40 : decode cX7_share 40 = .ok (.iload_n 1, 1) := by decide +kernel
theorem dX7_share_41 : decode cX7_share 41 = .ok (.idiv, 1) := by decide +kernel
theorem dX7_share_42 : decode cX7_share 42 = .ok (.ireturn, 1) := by decide +kernel
theorem dX7_count_0 : decode cX7_count 0 = .ok (.iload_n 1, 1) := by decide +kernel
theorem dX7_count_1 : decode cX7_count 1 = .ok (.tableswitch 81 0 4 #[35, 40, 51, 62, 73], 35) := by decide +kernel
theorem dX7_count_36 : decode cX7_count 36 = .ok (.aload_n 0, 1) := by decide +kernel
theorem dX7_count_37 : decode cX7_count 37 = .ok (.getfield 18, 3) := by decide +kernel
theorem dX7_count_40 : decode cX7_count 40 = .ok (.ireturn, 1) := by decide +kernel
theorem dX7_count_41 : decode cX7_count 41 = .ok (.aload_n 0, 1) := by decide +kernel
theorem dX7_count_42 : decode cX7_count 42 = .ok (.getfield 27, 3) := by decide +kernel
theorem dX7_count_45 : decode cX7_count 45 = .ok (.getfield 78, 3) := by decide +kernel
theorem dX7_count_48 : decode cX7_count 48 = .ok (.getfield 176, 3) := by decide +kernel
theorem dX7_count_51 : decode cX7_count 51 = .ok (.ireturn, 1) := by decide +kernel
theorem dX7_count_52 : decode cX7_count 52 = .ok (.aload_n 0, 1) := by decide +kernel
theorem dX7_count_53 : decode cX7_count 53 = .ok (.getfield 27, 3) := by decide +kernel
theorem dX7_count_56 : decode cX7_count 56 = .ok (.getfield 78, 3) := by decide +kernel
theorem dX7_count_59 : decode cX7_count 59 = .ok (.getfield 179, 3) := by decide +kernel
theorem dX7_count_62 : decode cX7_count 62 = .ok (.ireturn, 1) := by decide +kernel
theorem dX7_count_63 : decode cX7_count 63 = .ok (.aload_n 0, 1) := by decide +kernel
theorem dX7_count_64 : decode cX7_count 64 = .ok (.getfield 27, 3) := by decide +kernel
theorem dX7_count_67 : decode cX7_count 67 = .ok (.getfield 78, 3) := by decide +kernel
theorem dX7_count_70 : decode cX7_count 70 = .ok (.getfield 182, 3) := by decide +kernel
theorem dX7_count_73 : decode cX7_count 73 = .ok (.ireturn, 1) := by decide +kernel
theorem dX7_count_74 : decode cX7_count 74 = .ok (.aload_n 0, 1) := by decide +kernel
theorem dX7_count_75 : decode cX7_count 75 = .ok (.getfield 64, 3) := by decide +kernel
theorem dX7_count_78 : decode cX7_count 78 = .ok (.getfield 137, 3) := by decide +kernel
theorem dX7_count_81 : decode cX7_count 81 = .ok (.ireturn, 1) := by decide +kernel
theorem dX7_count_82 : decode cX7_count 82 = .ok (.iconst (-1), 1) := by decide +kernel
theorem dX7_count_83 : decode cX7_count 83 = .ok (.ireturn, 1) := by decide +kernel
theorem dX7_settle_0 : decode cX7_settle 0 = .ok (.aload_n 0, 1) := by decide +kernel
theorem dX7_settle_1 : decode cX7_settle 1 = .ok (.iload_n 2, 1) := by decide +kernel
theorem dX7_settle_2 : decode cX7_settle 2 = .ok (.invokevirtual 144, 3) := by decide +kernel
theorem dX7_settle_5 : decode cX7_settle 5 = .ok (.aload_n 0, 1) := by decide +kernel
theorem dX7_settle_6 : decode cX7_settle 6 = .ok (.getfield 27, 3) := by decide +kernel
theorem dX7_settle_9 : decode cX7_settle 9 = .ok (.getfield 78, 3) := by decide +kernel
theorem dX7_settle_12 : decode cX7_settle 12 = .ok (.iload_n 3, 1) := by decide +kernel
theorem dX7_settle_13 : decode cX7_settle 13 = .ok (.iload 4, 2) := by decide +kernel
theorem dX7_settle_15 : decode cX7_settle 15 = .ok (.invokevirtual 82, 3) := by decide +kernel
theorem dX7_settle_18 : decode cX7_settle 18 = .ok (.istore 5, 2) := by decide +kernel
theorem dX7_settle_20 : decode cX7_settle 20 = .ok (.iload 5, 2) := by decide +kernel
theorem dX7_settle_22 : decode cX7_settle 22 = .ok (.iconst (-1), 1) := by decide +kernel
theorem dX7_settle_23 : decode cX7_settle 23 = .ok (.if_icmp .ne 13, 3) := by decide +kernel
theorem dX7_settle_26 : decode cX7_settle 26 = .ok (.new 68, 3) := by decide +kernel
theorem dX7_settle_29 : decode cX7_settle 29 = .ok (.dup, 1) := by decide +kernel
theorem dX7_settle_30 : decode cX7_settle 30 = .ok (.ldc 89, 2) := by decide +kernel
theorem dX7_settle_32 : decode cX7_settle 32 = .ok (.invokespecial 72, 3) := by decide +kernel
theorem dX7_settle_35 : decode cX7_settle 35 = .ok (.athrow, 1) := by decide +kernel
theorem dX7_settle_36 : decode cX7_settle 36 = .ok (.aload_n 0, 1) := by decide +kernel
theorem dX7_settle_37 : decode cX7_settle 37 = .ok (.getfield 27, 3) := by decide +kernel
theorem dX7_settle_40 : decode cX7_settle 40 = .ok (.getfield 78, 3) := by decide +kernel
theorem dX7_settle_43 : decode cX7_settle 43 = .ok (.iload 5, 2) := by decide +kernel
theorem dX7_settle_45 : decode cX7_settle 45 = .ok (.invokevirtual 185, 3) := by decide +kernel
theorem dX7_settle_48 : decode cX7_settle 48 = .ok (.ifCond .eq 13, 3) := by decide +kernel
theorem dX7_settle_51 : decode cX7_settle 51 = .ok (.new 103, 3) := by decide +kernel
theorem dX7_settle_54 : decode cX7_settle 54 = .ok (.dup, 1) := by decide +kernel
theorem dX7_settle_55 : decode cX7_settle 55 = .ok (.ldc 188, 2) := by decide +kernel
theorem dX7_settle_57 : decode cX7_settle 57 = .ok (.invokespecial 107, 3) := by decide +kernel
theorem dX7_settle_60 : decode cX7_settle 60 = .ok (.athrow, 1) := by decide +kernel
theorem dX7_settle_61 : decode cX7_settle 61 = .ok (.aload_n 1, 1) := by decide +kernel
theorem dX7_settle_62 : decode cX7_settle 62 = .ok (.iload 5, 2) := by decide +kernel
theorem dX7_settle_64 : decode cX7_settle 64 = .ok (.invokestatic 96, 3) := by decide +kernel
theorem dX7_settle_67 : decode cX7_settle 67 = .ok (.istore 6, 2) := by decide +kernel
theorem dX7_settle_69 : decode cX7_settle 69 = .ok (.iload 6, 2) := by decide +kernel
theorem dX7_settle_71 : decode cX7_settle 71 = .ok (.iconst (-1), 1) := by decide +kernel
theorem dX7_settle_72 : decode cX7_settle 72 = .ok (.if_icmp .eq 11, 3) := by decide +kernel
theorem dX7_settle_75 : decode cX7_settle 75 = .ok (.iload 6, 2) := by decide +kernel
theorem dX7_settle_77 : decode cX7_settle 77 = .ok (.iload_n 2, 1) := by decide +kernel
theorem dX7_settle_78 : decode cX7_settle 78 = .ok (.if_icmp .eq 5, 3) := by decide +kernel
theorem dX7_settle_81 : decode cX7_settle 81 = .ok (.iconst 0, 1) := by decide +kernel
theorem dX7_settle_82 : decode cX7_settle 82 = .ok (.ireturn, 1) := by decide +kernel
theorem dX7_settle_83 : decode cX7_settle 83 = .ok (.aload_n 1, 1) := by decide +kernel
theorem dX7_settle_84 : decode cX7_settle 84 = .ok (.iload_n 2, 1) := by decide +kernel
theorem dX7_settle_85 : decode cX7_settle 85 = .ok (.iload 5, 2) := by decide +kernel
theorem dX7_settle_87 : decode cX7_settle 87 = .ok (.invokestatic 190, 3) := by decide +kernel
theorem dX7_settle_90 : decode cX7_settle 90 = .ok (.iconst 1, 1) := by decide +kernel
theorem dX7_settle_91 : decode cX7_settle 91 = .ok (.ireturn, 1) := by decide +kernel
theorem dX7_needRobot_0 : decode cX7_needRobot 0 = .ok (.iload_n 1, 1) := by decide +kernel
theorem dX7_needRobot_1 : decode cX7_needRobot 1 = .ok (.ifCond .lt 11, 3) := by decide +kernel
theorem dX7_needRobot_4 : decode cX7_needRobot 4 = .ok (.iload_n 1, 1) := by decide +kernel
theorem dX7_needRobot_5 : decode cX7_needRobot 5 = .ok (.aload_n 0, 1) := by decide +kernel
theorem dX7_needRobot_6 : decode cX7_needRobot 6 = .ok (.getfield 18, 3) := by decide +kernel
theorem dX7_needRobot_9 : decode cX7_needRobot 9 = .ok (.if_icmp .lt 13, 3) := by decide +kernel
theorem dX7_needRobot_12 : decode cX7_needRobot 12 = .ok (.new 68, 3) := by decide +kernel
theorem dX7_needRobot_15 : decode cX7_needRobot 15 = .ok (.dup, 1) := by decide +kernel
theorem dX7_needRobot_16 : decode cX7_needRobot 16 = .ok (.ldc 194, 2) := by decide +kernel
theorem dX7_needRobot_18 : decode cX7_needRobot 18 = .ok (.invokespecial 72, 3) := by decide +kernel
theorem dX7_needRobot_21 : decode cX7_needRobot 21 = .ok (.athrow, 1) := by decide +kernel
theorem dX7_needRobot_22 : decode cX7_needRobot 22 = .ok (.return_, 1) := by decide +kernel
theorem dX7_needComplete_0 : decode cX7_needComplete 0 = .ok (.iconst 0, 1) := by decide +kernel
theorem dX7_needComplete_1 : decode cX7_needComplete 1 = .ok (.istore_n 1, 1) := by decide +kernel
theorem dX7_needComplete_2 : decode cX7_needComplete 2 = .ok (.iload_n 1, 1) := by decide +kernel
theorem dX7_needComplete_3 : decode cX7_needComplete 3 = .ok (.aload_n 0, 1) := by decide +kernel
theorem dX7_needComplete_4 : decode cX7_needComplete 4 = .ok (.getfield 18, 3) := by decide +kernel
theorem dX7_needComplete_7 : decode cX7_needComplete 7 = .ok (.if_icmp .ge 30, 3) := by decide +kernel
theorem dX7_needComplete_10 : decode cX7_needComplete 10 = .ok (.aload_n 0, 1) := by decide +kernel
theorem dX7_needComplete_11 : decode cX7_needComplete 11 = .ok (.getfield 27, 3) := by decide +kernel
theorem dX7_needComplete_14 : decode cX7_needComplete 14 = .ok (.iload_n 1, 1) := by decide +kernel
theorem dX7_needComplete_15 : decode cX7_needComplete 15 = .ok (.invokevirtual 158, 3) := by decide +kernel
theorem dX7_needComplete_18 : decode cX7_needComplete 18 = .ok (.ifCond .ne 13, 3) := by decide +kernel
theorem dX7_needComplete_21 : decode cX7_needComplete 21 = .ok (.new 103, 3) := by decide +kernel
theorem dX7_needComplete_24 : decode cX7_needComplete 24 = .ok (.dup, 1) := by decide +kernel
theorem dX7_needComplete_25 : decode cX7_needComplete 25 = .ok (.ldc 196, 2) := by decide +kernel
theorem dX7_needComplete_27 : decode cX7_needComplete 27 = .ok (.invokespecial 107, 3) := by decide +kernel
theorem dX7_needComplete_30 : decode cX7_needComplete 30 = .ok (.athrow, 1) := by decide +kernel
theorem dX7_needComplete_31 : decode cX7_needComplete 31 = .ok (.iinc 1 1, 3) := by decide +kernel
theorem dX7_needComplete_34 : decode cX7_needComplete 34 = .ok (.goto (-32), 3) := by decide +kernel
theorem dX7_needComplete_37 : decode cX7_needComplete 37 = .ok (.return_, 1) := by decide +kernel
theorem dX7_needPlan_0 : decode cX7_needPlan 0 = .ok (.aload_n 0, 1) := by decide +kernel
theorem dX7_needPlan_1 : decode cX7_needPlan 1 = .ok (.getfield 64, 3) := by decide +kernel
theorem dX7_needPlan_4 : decode cX7_needPlan 4 = .ok (.invokevirtual 140, 3) := by decide +kernel
theorem dX7_needPlan_7 : decode cX7_needPlan 7 = .ok (.ifCond .ne 13, 3) := by decide +kernel
theorem dX7_needPlan_10 : decode cX7_needPlan 10 = .ok (.new 103, 3) := by decide +kernel
theorem dX7_needPlan_13 : decode cX7_needPlan 13 = .ok (.dup, 1) := by decide +kernel
theorem dX7_needPlan_14 : decode cX7_needPlan 14 = .ok (.ldc 198, 2) := by decide +kernel
theorem dX7_needPlan_16 : decode cX7_needPlan 16 = .ok (.invokespecial 107, 3) := by decide +kernel
theorem dX7_needPlan_19 : decode cX7_needPlan 19 = .ok (.athrow, 1) := by decide +kernel
theorem dX7_needPlan_20 : decode cX7_needPlan 20 = .ok (.return_, 1) := by decide +kernel
theorem dX7_mostSteps_0 : decode cX7_mostSteps 0 = .ok (.iload_n 0, 1) := by decide +kernel
theorem dX7_mostSteps_1 : decode cX7_mostSteps 1 = .ok (.iconst 2, 1) := by decide +kernel
theorem dX7_mostSteps_2 : decode cX7_mostSteps 2 = .ok (.if_icmp .gt 12, 3) := by decide +kernel
theorem dX7_mostSteps_5 : decode cX7_mostSteps 5 = .ok (.iload_n 0, 1) := by decide +kernel
theorem dX7_mostSteps_6 : decode cX7_mostSteps 6 = .ok (.invokestatic 200, 3) := by decide +kernel
theorem dX7_mostSteps_9 : decode cX7_mostSteps 9 = .ok (.iconst 1, 1) := by decide +kernel
theorem dX7_mostSteps_10 : decode cX7_mostSteps 10 = .ok (.isub, 1) := by decide +kernel
theorem dX7_mostSteps_11 : decode cX7_mostSteps 11 = .ok (.goto 5, 3) := by decide +kernel
theorem dX7_mostSteps_14 : decode cX7_mostSteps 14 = .ok (.bipush 40, 2) := by decide +kernel
theorem dX7_mostSteps_16 : decode cX7_mostSteps 16 = .ok (.ireturn, 1) := by decide +kernel
theorem dX7_jointStates_0 : decode cX7_jointStates 0 = .ok (.iload_n 0, 1) := by decide +kernel
theorem dX7_jointStates_1 : decode cX7_jointStates 1 = .ok (.ifCond .gt 7, 3) := by decide +kernel
theorem dX7_jointStates_4 : decode cX7_jointStates 4 = .ok (.iconst 1, 1) := by decide +kernel
theorem dX7_jointStates_5 : decode cX7_jointStates 5 = .ok (.goto 16, 3) := by decide +kernel
theorem dX7_jointStates_8 : decode cX7_jointStates 8 = .ok (.iload_n 0, 1) := by decide +kernel
theorem dX7_jointStates_9 : decode cX7_jointStates 9 = .ok (.iconst 1, 1) := by decide +kernel
theorem dX7_jointStates_10 : decode cX7_jointStates 10 = .ok (.if_icmp .ne 8, 3) := by decide +kernel
theorem dX7_jointStates_13 : decode cX7_jointStates 13 = .ok (.bipush 36, 2) := by decide +kernel
theorem dX7_jointStates_15 : decode cX7_jointStates 15 = .ok (.goto 6, 3) := by decide +kernel
theorem dX7_jointStates_18 : decode cX7_jointStates 18 = .ok (.sipush 1296, 3) := by decide +kernel
theorem dX7_jointStates_21 : decode cX7_jointStates 21 = .ok (.ireturn, 1) := by decide +kernel
theorem dX7_ownerOf_0 : decode cX7_ownerOf 0 = .ok (.iconst 0, 1) := by decide +kernel
theorem dX7_ownerOf_1 : decode cX7_ownerOf 1 = .ok (.istore_n 2, 1) := by decide +kernel
theorem dX7_ownerOf_2 : decode cX7_ownerOf 2 = .ok (.iload_n 2, 1) := by decide +kernel
theorem dX7_ownerOf_3 : decode cX7_ownerOf 3 = .ok (.aload_n 0, 1) := by decide +kernel
theorem dX7_ownerOf_4 : decode cX7_ownerOf 4 = .ok (.arraylength, 1) := by decide +kernel
theorem dX7_ownerOf_5 : decode cX7_ownerOf 5 = .ok (.if_icmp .ge 18, 3) := by decide +kernel
theorem dX7_ownerOf_8 : decode cX7_ownerOf 8 = .ok (.aload_n 0, 1) := by decide +kernel
theorem dX7_ownerOf_9 : decode cX7_ownerOf 9 = .ok (.iload_n 2, 1) := by decide +kernel
theorem dX7_ownerOf_10 : decode cX7_ownerOf 10 = .ok (.iaload, 1) := by decide +kernel
theorem dX7_ownerOf_11 : decode cX7_ownerOf 11 = .ok (.iload_n 1, 1) := by decide +kernel
theorem dX7_ownerOf_12 : decode cX7_ownerOf 12 = .ok (.if_icmp .ne 5, 3) := by decide +kernel
theorem dX7_ownerOf_15 : decode cX7_ownerOf 15 = .ok (.iload_n 2, 1) := by decide +kernel
theorem dX7_ownerOf_16 : decode cX7_ownerOf 16 = .ok (.ireturn, 1) := by decide +kernel
theorem dX7_ownerOf_17 : decode cX7_ownerOf 17 = .ok (.iinc 2 1, 3) := by decide +kernel
theorem dX7_ownerOf_20 : decode cX7_ownerOf 20 = .ok (.goto (-18), 3) := by decide +kernel
theorem dX7_ownerOf_23 : decode cX7_ownerOf 23 = .ok (.iconst (-1), 1) := by decide +kernel
theorem dX7_ownerOf_24 : decode cX7_ownerOf 24 = .ok (.ireturn, 1) := by decide +kernel
theorem dX7_ownCost_0 : decode cX7_ownCost 0 = .ok (.iload_n 0, 1) := by decide +kernel
theorem dX7_ownCost_1 : decode cX7_ownCost 1 = .ok (.iload_n 1, 1) := by decide +kernel
theorem dX7_ownCost_2 : decode cX7_ownCost 2 = .ok (.if_icmp .ne 12, 3) := by decide +kernel
theorem dX7_ownCost_5 : decode cX7_ownCost 5 = .ok (.iload_n 1, 1) := by decide +kernel
theorem dX7_ownCost_6 : decode cX7_ownCost 6 = .ok (.iload_n 2, 1) := by decide +kernel
theorem dX7_ownCost_7 : decode cX7_ownCost 7 = .ok (.if_icmp .ne 7, 3) := by decide +kernel
theorem dX7_ownCost_10 : decode cX7_ownCost 10 = .ok (.iconst 0, 1) := by decide +kernel
theorem dX7_ownCost_11 : decode cX7_ownCost 11 = .ok (.goto 4, 3) := by decide +kernel
theorem dX7_ownCost_14 : decode cX7_ownCost 14 = .ok (.iconst 1, 1) := by decide +kernel
theorem dX7_ownCost_15 : decode cX7_ownCost 15 = .ok (.ireturn, 1) := by decide +kernel
theorem dX7_read_0 : decode cX7_read 0 = .ok (.iload_n 1, 1) := by decide +kernel
theorem dX7_read_1 : decode cX7_read 1 = .ok (.ifCond .lt 15, 3) := by decide +kernel
theorem dX7_read_4 : decode cX7_read 4 = .ok (.iload_n 1, 1) := by decide +kernel
theorem dX7_read_5 : decode cX7_read 5 = .ok (.aload_n 0, 1) := by decide +kernel
theorem dX7_read_6 : decode cX7_read 6 = .ok (.arraylength, 1) := by decide +kernel
theorem dX7_read_7 : decode cX7_read 7 = .ok (.if_icmp .ge 9, 3) := by decide +kernel
theorem dX7_read_10 : decode cX7_read 10 = .ok (.aload_n 0, 1) := by decide +kernel
theorem dX7_read_11 : decode cX7_read 11 = .ok (.iload_n 1, 1) := by decide +kernel
theorem dX7_read_12 : decode cX7_read 12 = .ok (.iaload, 1) := by decide +kernel
theorem dX7_read_13 : decode cX7_read 13 = .ok (.goto 4, 3) := by decide +kernel
theorem dX7_read_16 : decode cX7_read 16 = .ok (.iconst (-1), 1) := by decide +kernel
theorem dX7_read_17 : decode cX7_read 17 = .ok (.ireturn, 1) := by decide +kernel
theorem dX7_write_0 : decode cX7_write 0 = .ok (.iload_n 1, 1) := by decide +kernel
theorem dX7_write_1 : decode cX7_write 1 = .ok (.ifCond .lt 13, 3) := by decide +kernel
theorem dX7_write_4 : decode cX7_write 4 = .ok (.iload_n 1, 1) := by decide +kernel
theorem dX7_write_5 : decode cX7_write 5 = .ok (.aload_n 0, 1) := by decide +kernel
theorem dX7_write_6 : decode cX7_write 6 = .ok (.arraylength, 1) := by decide +kernel
theorem dX7_write_7 : decode cX7_write 7 = .ok (.if_icmp .ge 7, 3) := by decide +kernel
theorem dX7_write_10 : decode cX7_write 10 = .ok (.aload_n 0, 1) := by decide +kernel
theorem dX7_write_11 : decode cX7_write 11 = .ok (.iload_n 1, 1) := by decide +kernel
theorem dX7_write_12 : decode cX7_write 12 = .ok (.iload_n 2, 1) := by decide +kernel
theorem dX7_write_13 : decode cX7_write 13 = .ok (.iastore, 1) := by decide +kernel
theorem dX7_write_14 : decode cX7_write 14 = .ok (.return_, 1) := by decide +kernel
