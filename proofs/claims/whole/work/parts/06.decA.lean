theorem dX0_init_0 : decode cX0_init 0 = .ok (.aload_n 0, 1) := by decide +kernel
theorem dX0_init_1 : decode cX0_init 1 = .ok (.invokespecial 3, 3) := by decide +kernel
theorem dX0_init_4 : decode cX0_init 4 = .ok (.aload_n 0, 1) := by decide +kernel
theorem dX0_init_5 : decode cX0_init 5 = .ok (.bipush 36, 2) := by decide +kernel
theorem dX0_init_7 : decode cX0_init 7 = .ok (.newarray .int, 2) := by decide +kernel
theorem dX0_init_9 : decode cX0_init 9 = .ok (.putfield 9, 3) := by decide +kernel
theorem dX0_init_12 : decode cX0_init 12 = .ok (.aload_n 0, 1) := by decide +kernel
theorem dX0_init_13 : decode cX0_init 13 = .ok (.sipush 180, 3) := by decide +kernel
theorem dX0_init_16 : decode cX0_init 16 = .ok (.newarray .int, 2) := by decide +kernel
theorem dX0_init_18 : decode cX0_init 18 = .ok (.putfield 15, 3) := by decide +kernel
theorem dX0_init_21 : decode cX0_init 21 = .ok (.aload_n 0, 1) := by decide +kernel
theorem dX0_init_22 : decode cX0_init 22 = .ok (.bipush 36, 2) := by decide +kernel
theorem dX0_init_24 : decode cX0_init 24 = .ok (.newarray .int, 2) := by decide +kernel
theorem dX0_init_26 : decode cX0_init 26 = .ok (.putfield 18, 3) := by decide +kernel
theorem dX0_init_29 : decode cX0_init 29 = .ok (.aload_n 0, 1) := by decide +kernel
theorem dX0_init_30 : decode cX0_init 30 = .ok (.bipush 36, 2) := by decide +kernel
theorem dX0_init_32 : decode cX0_init 32 = .ok (.newarray .int, 2) := by decide +kernel
theorem dX0_init_34 : decode cX0_init 34 = .ok (.putfield 21, 3) := by decide +kernel
theorem dX0_init_37 : decode cX0_init 37 = .ok (.return_, 1) := by decide +kernel
theorem dX0_clear_0 : decode cX0_clear 0 = .ok (.aload_n 0, 1) := by decide +kernel
theorem dX0_clear_1 : decode cX0_clear 1 = .ok (.iload_n 1, 1) := by decide +kernel
theorem dX0_clear_2 : decode cX0_clear 2 = .ok (.putfield 24, 3) := by decide +kernel
theorem dX0_clear_5 : decode cX0_clear 5 = .ok (.aload_n 0, 1) := by decide +kernel
theorem dX0_clear_6 : decode cX0_clear 6 = .ok (.iload_n 2, 1) := by decide +kernel
theorem dX0_clear_7 : decode cX0_clear 7 = .ok (.putfield 28, 3) := by decide +kernel
theorem dX0_clear_10 : decode cX0_clear 10 = .ok (.aload_n 0, 1) := by decide +kernel
theorem dX0_clear_11 : decode cX0_clear 11 = .ok (.iconst 0, 1) := by decide +kernel
theorem dX0_clear_12 : decode cX0_clear 12 = .ok (.putfield 31, 3) := by decide +kernel
theorem dX0_clear_15 : decode cX0_clear 15 = .ok (.aload_n 0, 1) := by decide +kernel
theorem dX0_clear_16 : decode cX0_clear 16 = .ok (.getfield 9, 3) := by decide +kernel
theorem dX0_clear_19 : decode cX0_clear 19 = .ok (.iconst 0, 1) := by decide +kernel
theorem dX0_clear_20 : decode cX0_clear 20 = .ok (.invokestatic 34, 3) := by decide +kernel
theorem dX0_clear_23 : decode cX0_clear 23 = .ok (.aload_n 0, 1) := by decide +kernel
theorem dX0_clear_24 : decode cX0_clear 24 = .ok (.invokevirtual 40, 3) := by decide +kernel
theorem dX0_clear_27 : decode cX0_clear 27 = .ok (.return_, 1) := by decide +kernel
theorem dX0_cellAt_0 : decode cX0_cellAt 0 = .ok (.iload_n 1, 1) := by decide +kernel
theorem dX0_cellAt_1 : decode cX0_cellAt 1 = .ok (.ifCond .lt 32, 3) := by decide +kernel
theorem dX0_cellAt_4 : decode cX0_cellAt 4 = .ok (.iload_n 1, 1) := by decide +kernel
theorem dX0_cellAt_5 : decode cX0_cellAt 5 = .ok (.aload_n 0, 1) := by decide +kernel
theorem dX0_cellAt_6 : decode cX0_cellAt 6 = .ok (.getfield 24, 3) := by decide +kernel
theorem dX0_cellAt_9 : decode cX0_cellAt 9 = .ok (.if_icmp .ge 24, 3) := by decide +kernel
theorem dX0_cellAt_12 : decode cX0_cellAt 12 = .ok (.iload_n 2, 1) := by decide +kernel
theorem dX0_cellAt_13 : decode cX0_cellAt 13 = .ok (.ifCond .lt 20, 3) := by decide +kernel
theorem dX0_cellAt_16 : decode cX0_cellAt 16 = .ok (.iload_n 2, 1) := by decide +kernel
theorem dX0_cellAt_17 : decode cX0_cellAt 17 = .ok (.aload_n 0, 1) := by decide +kernel
theorem dX0_cellAt_18 : decode cX0_cellAt 18 = .ok (.getfield 28, 3) := by decide +kernel
theorem dX0_cellAt_21 : decode cX0_cellAt 21 = .ok (.if_icmp .ge 12, 3) := by decide +kernel
theorem dX0_cellAt_24 : decode cX0_cellAt 24 = .ok (.iload_n 1, 1) := by decide +kernel
theorem dX0_cellAt_25 : decode cX0_cellAt 25 = .ok (.bipush 6, 2) := by decide +kernel
theorem dX0_cellAt_27 : decode cX0_cellAt 27 = .ok (.iload_n 2, 1) := by decide +kernel
theorem dX0_cellAt_28 : decode cX0_cellAt 28 = .ok (.imul, 1) := by decide +kernel
theorem dX0_cellAt_29 : decode cX0_cellAt 29 = .ok (.iadd, 1) := by decide +kernel
theorem dX0_cellAt_30 : decode cX0_cellAt 30 = .ok (.goto 4, 3) := by decide +kernel
theorem dX0_cellAt_33 : decode cX0_cellAt 33 = .ok (.iconst (-1), 1) := by decide +kernel
theorem dX0_cellAt_34 : decode cX0_cellAt 34 = .ok (.ireturn, 1) := by decide +kernel
theorem dX0_isWall_0 : decode cX0_isWall 0 = .ok (.aload_n 0, 1) := by decide +kernel
theorem dX0_isWall_1 : decode cX0_isWall 1 = .ok (.getfield 9, 3) := by decide +kernel
theorem dX0_isWall_4 : decode cX0_isWall 4 = .ok (.iload_n 1, 1) := by decide +kernel
theorem dX0_isWall_5 : decode cX0_isWall 5 = .ok (.invokestatic 43, 3) := by decide +kernel
theorem dX0_isWall_8 : decode cX0_isWall 8 = .ok (.iconst 1, 1) := by decide +kernel
theorem dX0_isWall_9 : decode cX0_isWall 9 = .ok (.if_icmp .ne 7, 3) := by decide +kernel
theorem dX0_isWall_12 : decode cX0_isWall 12 = .ok (.iconst 1, 1) := by decide +kernel
theorem dX0_isWall_13 : decode cX0_isWall 13 = .ok (.goto 4, 3) := by decide +kernel
theorem dX0_isWall_16 : decode cX0_isWall 16 = .ok (.iconst 0, 1) := by decide +kernel
theorem dX0_isWall_17 : decode cX0_isWall 17 = .ok (.ireturn, 1) := by decide +kernel
theorem dX0_build_0 : decode cX0_build 0 = .ok (.aload_n 0, 1) := by decide +kernel
theorem dX0_build_1 : decode cX0_build 1 = .ok (.iload_n 1, 1) := by decide +kernel
theorem dX0_build_2 : decode cX0_build 2 = .ok (.invokevirtual 47, 3) := by decide +kernel
theorem dX0_build_5 : decode cX0_build 5 = .ok (.istore_n 3, 1) := by decide +kernel
theorem dX0_build_6 : decode cX0_build 6 = .ok (.iload_n 3, 1) := by decide +kernel
theorem dX0_build_7 : decode cX0_build 7 = .ok (.iload_n 2, 1) := by decide +kernel
theorem dX0_build_8 : decode cX0_build 8 = .ok (.if_icmp .eq 42, 3) := by decide +kernel
theorem dX0_build_11 : decode cX0_build 11 = .ok (.aload_n 0, 1) := by decide +kernel
theorem dX0_build_12 : decode cX0_build 12 = .ok (.getfield 9, 3) := by decide +kernel
theorem dX0_build_15 : decode cX0_build 15 = .ok (.iload_n 1, 1) := by decide +kernel
theorem dX0_build_16 : decode cX0_build 16 = .ok (.iload_n 2, 1) := by decide +kernel
theorem dX0_build_17 : decode cX0_build 17 = .ok (.ifCond .eq 7, 3) := by decide +kernel
theorem dX0_build_20 : decode cX0_build 20 = .ok (.iconst 1, 1) := by decide +kernel
theorem dX0_build_21 : decode cX0_build 21 = .ok (.goto 4, 3) := by decide +kernel
theorem dX0_build_24 : decode cX0_build 24 = .ok (.iconst 0, 1) := by decide +kernel
theorem dX0_build_25 : decode cX0_build 25 = .ok (.invokestatic 51, 3) := by decide +kernel
theorem dX0_build_28 : decode cX0_build 28 = .ok (.aload_n 0, 1) := by decide +kernel
theorem dX0_build_29 : decode cX0_build 29 = .ok (.dup, 1) := by decide +kernel
theorem dX0_build_30 : decode cX0_build 30 = .ok (.getfield 31, 3) := by decide +kernel
theorem dX0_build_33 : decode cX0_build 33 = .ok (.iload_n 2, 1) := by decide +kernel
theorem dX0_build_34 : decode cX0_build 34 = .ok (.ifCond .eq 7, 3) := by decide +kernel
theorem dX0_build_37 : decode cX0_build 37 = .ok (.iconst 1, 1) := by decide +kernel
theorem dX0_build_38 : decode cX0_build 38 = .ok (.goto 4, 3) := by decide +kernel
theorem dX0_build_41 : decode cX0_build 41 = .ok (.iconst (-1), 1) := by decide +kernel
theorem dX0_build_42 : decode cX0_build 42 = .ok (.iadd, 1) := by decide +kernel
theorem dX0_build_43 : decode cX0_build 43 = .ok (.putfield 31, 3) := by decide +kernel
theorem dX0_build_46 : decode cX0_build 46 = .ok (.aload_n 0, 1) := by decide +kernel
theorem dX0_build_47 : decode cX0_build 47 = .ok (.invokevirtual 40, 3) := by decide +kernel
theorem dX0_build_50 : decode cX0_build 50 = .ok (.iload_n 3, 1) := by decide +kernel
theorem dX0_build_51 : decode cX0_build 51 = .ok (.ireturn, 1) := by decide +kernel
theorem dX0_chart_0 : decode cX0_chart 0 = .ok (.iconst 0, 1) := by decide +kernel
theorem dX0_chart_1 : decode cX0_chart 1 = .ok (.istore_n 1, 1) := by decide +kernel
theorem dX0_chart_2 : decode cX0_chart 2 = .ok (.iload_n 1, 1) := by decide +kernel
theorem dX0_chart_3 : decode cX0_chart 3 = .ok (.bipush 36, 2) := by decide +kernel
theorem dX0_chart_5 : decode cX0_chart 5 = .ok (.if_icmp .ge 40, 3) := by decide +kernel
theorem dX0_chart_8 : decode cX0_chart 8 = .ok (.iconst 0, 1) := by decide +kernel
theorem dX0_chart_9 : decode cX0_chart 9 = .ok (.istore_n 2, 1) := by decide +kernel
theorem dX0_chart_10 : decode cX0_chart 10 = .ok (.iload_n 2, 1) := by decide +kernel
theorem dX0_chart_11 : decode cX0_chart 11 = .ok (.iconst 5, 1) := by decide +kernel
theorem dX0_chart_12 : decode cX0_chart 12 = .ok (.if_icmp .ge 27, 3) := by decide +kernel
theorem dX0_chart_15 : decode cX0_chart 15 = .ok (.aload_n 0, 1) := by decide +kernel
theorem dX0_chart_16 : decode cX0_chart 16 = .ok (.getfield 15, 3) := by decide +kernel
theorem dX0_chart_19 : decode cX0_chart 19 = .ok (.iload_n 1, 1) := by decide +kernel
theorem dX0_chart_20 : decode cX0_chart 20 = .ok (.iconst 5, 1) := by decide +kernel
theorem dX0_chart_21 : decode cX0_chart 21 = .ok (.imul, 1) := by decide +kernel
theorem dX0_chart_22 : decode cX0_chart 22 = .ok (.iload_n 2, 1) := by decide +kernel
theorem dX0_chart_23 : decode cX0_chart 23 = .ok (.iadd, 1) := by decide +kernel
theorem dX0_chart_24 : decode cX0_chart 24 = .ok (.aload_n 0, 1) := by decide +kernel
theorem dX0_chart_25 : decode cX0_chart 25 = .ok (.iload_n 1, 1) := by decide +kernel
theorem dX0_chart_26 : decode cX0_chart 26 = .ok (.iload_n 2, 1) := by decide +kernel
theorem dX0_chart_27 : decode cX0_chart 27 = .ok (.invokevirtual 55, 3) := by decide +kernel
theorem dX0_chart_30 : decode cX0_chart 30 = .ok (.invokestatic 51, 3) := by decide +kernel
theorem dX0_chart_33 : decode cX0_chart 33 = .ok (.iinc 2 1, 3) := by decide +kernel
theorem dX0_chart_36 : decode cX0_chart 36 = .ok (.goto (-26), 3) := by decide +kernel
theorem dX0_chart_39 : decode cX0_chart 39 = .ok (.iinc 1 1, 3) := by decide +kernel
theorem dX0_chart_42 : decode cX0_chart 42 = .ok (.goto (-40), 3) := by decide +kernel
theorem dX0_chart_45 : decode cX0_chart 45 = .ok (.return_, 1) := by decide +kernel
theorem dX0_target_0 : decode cX0_target 0 = .ok (.iload_n 1, 1) := by decide +kernel
theorem dX0_target_1 : decode cX0_target 1 = .ok (.bipush 6, 2) := by decide +kernel
theorem dX0_target_3 : decode cX0_target 3 = .ok (.irem, 1) := by decide +kernel
theorem dX0_target_4 : decode cX0_target 4 = .ok (.istore_n 3, 1) := by decide +kernel
theorem dX0_target_5 : decode cX0_target 5 = .ok (.iload_n 1, 1) := by decide +kernel
theorem dX0_target_6 : decode cX0_target 6 = .ok (.bipush 6, 2) := by decide +kernel
theorem dX0_target_8 : decode cX0_target 8 = .ok (.idiv, 1) := by decide +kernel
theorem dX0_target_9 : decode cX0_target 9 = .ok (.istore 4, 2) := by decide +kernel
theorem dX0_target_11 : decode cX0_target 11 = .ok (.aload_n 0, 1) := by decide +kernel
theorem dX0_target_12 : decode cX0_target 12 = .ok (.iload_n 3, 1) := by decide +kernel
theorem dX0_target_13 : decode cX0_target 13 = .ok (.getstatic 59, 3) := by decide +kernel
theorem dX0_target_16 : decode cX0_target 16 = .ok (.iload_n 2, 1) := by decide +kernel
theorem dX0_target_17 : decode cX0_target 17 = .ok (.invokestatic 43, 3) := by decide +kernel
theorem dX0_target_20 : decode cX0_target 20 = .ok (.iadd, 1) := by decide +kernel
theorem dX0_target_21 : decode cX0_target 21 = .ok (.iload 4, 2) := by decide +kernel
theorem dX0_target_23 : decode cX0_target 23 = .ok (.getstatic 62, 3) := by decide +kernel
theorem dX0_target_26 : decode cX0_target 26 = .ok (.iload_n 2, 1) := by decide +kernel
theorem dX0_target_27 : decode cX0_target 27 = .ok (.invokestatic 43, 3) := by decide +kernel
theorem dX0_target_30 : decode cX0_target 30 = .ok (.iadd, 1) := by decide +kernel
theorem dX0_target_31 : decode cX0_target 31 = .ok (.invokevirtual 65, 3) := by decide +kernel
theorem dX0_target_34 : decode cX0_target 34 = .ok (.istore 5, 2) := by decide +kernel
theorem dX0_target_36 : decode cX0_target 36 = .ok (.aload_n 0, 1) := by decide +kernel
theorem dX0_target_37 : decode cX0_target 37 = .ok (.iload_n 3, 1) := by decide +kernel
theorem dX0_target_38 : decode cX0_target 38 = .ok (.iload 4, 2) := by decide +kernel
theorem dX0_target_40 : decode cX0_target 40 = .ok (.invokevirtual 65, 3) := by decide +kernel
theorem dX0_target_43 : decode cX0_target 43 = .ok (.iconst (-1), 1) := by decide +kernel
theorem dX0_target_44 : decode cX0_target 44 = .ok (.if_icmp .eq 15, 3) := by decide +kernel
theorem dX0_target_47 : decode cX0_target 47 = .ok (.aload_n 0, 1) := by decide +kernel
theorem dX0_target_48 : decode cX0_target 48 = .ok (.iload_n 1, 1) := by decide +kernel
theorem dX0_target_49 : decode cX0_target 49 = .ok (.invokevirtual 47, 3) := by decide +kernel
theorem dX0_target_52 : decode cX0_target 52 = .ok (.ifCond .ne 7, 3) := by decide +kernel
theorem dX0_target_55 : decode cX0_target 55 = .ok (.iconst 1, 1) := by decide +kernel
theorem dX0_target_56 : decode cX0_target 56 = .ok (.goto 4, 3) := by decide +kernel
theorem dX0_target_59 : decode cX0_target 59 = .ok (.iconst 0, 1) := by decide +kernel
theorem dX0_target_60 : decode cX0_target 60 = .ok (.istore 6, 2) := by decide +kernel
theorem dX0_target_62 : decode cX0_target 62 = .ok (.iload 6, 2) := by decide +kernel
theorem dX0_target_64 : decode cX0_target 64 = .ok (.ifCond .eq 23, 3) := by decide +kernel
theorem dX0_target_67 : decode cX0_target 67 = .ok (.iload 5, 2) := by decide +kernel
theorem dX0_target_69 : decode cX0_target 69 = .ok (.iconst (-1), 1) := by decide +kernel
theorem dX0_target_70 : decode cX0_target 70 = .ok (.if_icmp .eq 17, 3) := by decide +kernel
theorem dX0_target_73 : decode cX0_target 73 = .ok (.aload_n 0, 1) := by decide +kernel
theorem dX0_target_74 : decode cX0_target 74 = .ok (.iload 5, 2) := by decide +kernel
theorem dX0_target_76 : decode cX0_target 76 = .ok (.invokevirtual 47, 3) := by decide +kernel
theorem dX0_target_79 : decode cX0_target 79 = .ok (.ifCond .ne 8, 3) := by decide +kernel
theorem dX0_target_82 : decode cX0_target 82 = .ok (.iload 5, 2) := by decide +kernel
theorem dX0_target_84 : decode cX0_target 84 = .ok (.goto 4, 3) := by decide +kernel
theorem dX0_target_87 : decode cX0_target 87 = .ok (.iconst (-1), 1) := by decide +kernel
theorem dX0_target_88 : decode cX0_target 88 = .ok (.ireturn, 1) := by decide +kernel
theorem dX0_moved_0 : decode cX0_moved 0 = .ok (.iload_n 1, 1) := by decide +kernel
theorem dX0_moved_1 : decode cX0_moved 1 = .ok (.iconst (-1), 1) := by decide +kernel
theorem dX0_moved_2 : decode cX0_moved 2 = .ok (.if_icmp .ne 7, 3) := by decide +kernel
theorem dX0_moved_5 : decode cX0_moved 5 = .ok (.iconst (-1), 1) := by decide +kernel
theorem dX0_moved_6 : decode cX0_moved 6 = .ok (.goto 15, 3) := by decide +kernel
theorem dX0_moved_9 : decode cX0_moved 9 = .ok (.aload_n 0, 1) := by decide +kernel
theorem dX0_moved_10 : decode cX0_moved 10 = .ok (.getfield 15, 3) := by decide +kernel
theorem dX0_moved_13 : decode cX0_moved 13 = .ok (.iload_n 1, 1) := by decide +kernel
theorem dX0_moved_14 : decode cX0_moved 14 = .ok (.iconst 5, 1) := by decide +kernel
theorem dX0_moved_15 : decode cX0_moved 15 = .ok (.imul, 1) := by decide +kernel
theorem dX0_moved_16 : decode cX0_moved 16 = .ok (.iload_n 2, 1) := by decide +kernel
theorem dX0_moved_17 : decode cX0_moved 17 = .ok (.iadd, 1) := by decide +kernel
theorem dX0_moved_18 : decode cX0_moved 18 = .ok (.invokestatic 43, 3) := by decide +kernel
theorem dX0_moved_21 : decode cX0_moved 21 = .ok (.ireturn, 1) := by decide +kernel
theorem dX0_movesBetween_0 : decode cX0_movesBetween 0 = .ok (.aload_n 0, 1) := by decide +kernel
theorem dX0_movesBetween_1 : decode cX0_movesBetween 1 = .ok (.getfield 18, 3) := by decide +kernel
theorem dX0_movesBetween_4 : decode cX0_movesBetween 4 = .ok (.iconst (-1), 1) := by decide +kernel
theorem dX0_movesBetween_5 : decode cX0_movesBetween 5 = .ok (.invokestatic 34, 3) := by decide +kernel
theorem dX0_movesBetween_8 : decode cX0_movesBetween 8 = .ok (.aload_n 0, 1) := by decide +kernel
theorem dX0_movesBetween_9 : decode cX0_movesBetween 9 = .ok (.getfield 18, 3) := by decide +kernel
theorem dX0_movesBetween_12 : decode cX0_movesBetween 12 = .ok (.iload_n 1, 1) := by decide +kernel
theorem dX0_movesBetween_13 : decode cX0_movesBetween 13 = .ok (.iconst 0, 1) := by decide +kernel
theorem dX0_movesBetween_14 : decode cX0_movesBetween 14 = .ok (.invokestatic 51, 3) := by decide +kernel
theorem dX0_movesBetween_17 : decode cX0_movesBetween 17 = .ok (.aload_n 0, 1) := by decide +kernel
theorem dX0_movesBetween_18 : decode cX0_movesBetween 18 = .ok (.getfield 21, 3) := by decide +kernel
theorem dX0_movesBetween_21 : decode cX0_movesBetween 21 = .ok (.iconst 0, 1) := by decide +kernel
theorem dX0_movesBetween_22 : decode cX0_movesBetween 22 = .ok (.iload_n 1, 1) := by decide +kernel
theorem dX0_movesBetween_23 : decode cX0_movesBetween 23 = .ok (.invokestatic 51, 3) := by decide +kernel
theorem dX0_movesBetween_26 : decode cX0_movesBetween 26 = .ok (.iconst 1, 1) := by decide +kernel
theorem dX0_movesBetween_27 : decode cX0_movesBetween 27 = .ok (.istore_n 3, 1) := by decide +kernel
theorem dX0_movesBetween_28 : decode cX0_movesBetween 28 = .ok (.iconst 0, 1) := by decide +kernel
theorem dX0_movesBetween_29 : decode cX0_movesBetween 29 = .ok (.istore 4, 2) := by decide +kernel
theorem dX0_movesBetween_31 : decode cX0_movesBetween 31 = .ok (.iload 4, 2) := by decide +kernel
theorem dX0_movesBetween_33 : decode cX0_movesBetween 33 = .ok (.iload_n 3, 1) := by decide +kernel
theorem dX0_movesBetween_34 : decode cX0_movesBetween 34 = .ok (.if_icmp .ge 29, 3) := by decide +kernel
theorem dX0_movesBetween_37 : decode cX0_movesBetween 37 = .ok (.iload 4, 2) := by decide +kernel
theorem dX0_movesBetween_39 : decode cX0_movesBetween 39 = .ok (.bipush 36, 2) := by decide +kernel
theorem dX0_movesBetween_41 : decode cX0_movesBetween 41 = .ok (.if_icmp .ge 22, 3) := by decide +kernel
theorem dX0_movesBetween_44 : decode cX0_movesBetween 44 = .ok (.aload_n 0, 1) := by decide +kernel
theorem dX0_movesBetween_45 : decode cX0_movesBetween 45 = .ok (.aload_n 0, 1) := by decide +kernel
theorem dX0_movesBetween_46 : decode cX0_movesBetween 46 = .ok (.getfield 21, 3) := by decide +kernel
theorem dX0_movesBetween_49 : decode cX0_movesBetween 49 = .ok (.iload 4, 2) := by decide +kernel
theorem dX0_movesBetween_51 : decode cX0_movesBetween 51 = .ok (.iaload, 1) := by decide +kernel
theorem dX0_movesBetween_52 : decode cX0_movesBetween 52 = .ok (.iload_n 3, 1) := by decide +kernel
theorem dX0_movesBetween_53 : decode cX0_movesBetween 53 = .ok (.invokevirtual 68, 3) := by decide +kernel
theorem dX0_movesBetween_56 : decode cX0_movesBetween 56 = .ok (.istore_n 3, 1) := by decide +kernel
theorem dX0_movesBetween_57 : decode cX0_movesBetween 57 = .ok (.iinc 4 1, 3) := by decide +kernel
theorem dX0_movesBetween_60 : decode cX0_movesBetween 60 = .ok (.goto (-29), 3) := by decide +kernel
theorem dX0_movesBetween_63 : decode cX0_movesBetween 63 = .ok (.aload_n 0, 1) := by decide +kernel
theorem dX0_movesBetween_64 : decode cX0_movesBetween 64 = .ok (.getfield 18, 3) := by decide +kernel
theorem dX0_movesBetween_67 : decode cX0_movesBetween 67 = .ok (.iload_n 2, 1) := by decide +kernel
theorem dX0_movesBetween_68 : decode cX0_movesBetween 68 = .ok (.invokestatic 43, 3) := by decide +kernel
theorem dX0_movesBetween_71 : decode cX0_movesBetween 71 = .ok (.ireturn, 1) := by decide +kernel
theorem dX0_spread_0 : decode cX0_spread 0 = .ok (.iload_n 2, 1) := by decide +kernel
theorem dX0_spread_1 : decode cX0_spread 1 = .ok (.istore_n 3, 1) := by decide +kernel
theorem dX0_spread_2 : decode cX0_spread 2 = .ok (.iconst 0, 1) := by decide +kernel
theorem dX0_spread_3 : decode cX0_spread 3 = .ok (.istore 4, 2) := by decide +kernel
theorem dX0_spread_5 : decode cX0_spread 5 = .ok (.iload 4, 2) := by decide +kernel
theorem dX0_spread_7 : decode cX0_spread 7 = .ok (.iconst 5, 1) := by decide +kernel
theorem dX0_spread_8 : decode cX0_spread 8 = .ok (.if_icmp .ge 69, 3) := by decide +kernel
theorem dX0_spread_11 : decode cX0_spread 11 = .ok (.aload_n 0, 1) := by decide +kernel
theorem dX0_spread_12 : decode cX0_spread 12 = .ok (.iload_n 1, 1) := by decide +kernel
theorem dX0_spread_13 : decode cX0_spread 13 = .ok (.iload 4, 2) := by decide +kernel
theorem dX0_spread_15 : decode cX0_spread 15 = .ok (.invokevirtual 71, 3) := by decide +kernel
theorem dX0_spread_18 : decode cX0_spread 18 = .ok (.istore 5, 2) := by decide +kernel
theorem dX0_spread_20 : decode cX0_spread 20 = .ok (.iload 5, 2) := by decide +kernel
theorem dX0_spread_22 : decode cX0_spread 22 = .ok (.iconst (-1), 1) := by decide +kernel
theorem dX0_spread_23 : decode cX0_spread 23 = .ok (.if_icmp .eq 48, 3) := by decide +kernel
theorem dX0_spread_26 : decode cX0_spread 26 = .ok (.aload_n 0, 1) := by decide +kernel
theorem dX0_spread_27 : decode cX0_spread 27 = .ok (.getfield 18, 3) := by decide +kernel
theorem dX0_spread_30 : decode cX0_spread 30 = .ok (.iload 5, 2) := by decide +kernel
theorem dX0_spread_32 : decode cX0_spread 32 = .ok (.invokestatic 43, 3) := by decide +kernel
theorem dX0_spread_35 : decode cX0_spread 35 = .ok (.iconst (-1), 1) := by decide +kernel
theorem dX0_spread_36 : decode cX0_spread 36 = .ok (.if_icmp .ne 35, 3) := by decide +kernel
theorem dX0_spread_39 : decode cX0_spread 39 = .ok (.aload_n 0, 1) := by decide +kernel
theorem dX0_spread_40 : decode cX0_spread 40 = .ok (.getfield 18, 3) := by decide +kernel
theorem dX0_spread_43 : decode cX0_spread 43 = .ok (.iload 5, 2) := by decide +kernel
theorem dX0_spread_45 : decode cX0_spread 45 = .ok (.aload_n 0, 1) := by decide +kernel
theorem dX0_spread_46 : decode cX0_spread 46 = .ok (.getfield 18, 3) := by decide +kernel
theorem dX0_spread_49 : decode cX0_spread 49 = .ok (.iload_n 1, 1) := by decide +kernel
theorem dX0_spread_50 : decode cX0_spread 50 = .ok (.invokestatic 43, 3) := by decide +kernel
theorem dX0_spread_53 : decode cX0_spread 53 = .ok (.iconst 1, 1) := by decide +kernel
theorem dX0_spread_54 : decode cX0_spread 54 = .ok (.iadd, 1) := by decide +kernel
theorem dX0_spread_55 : decode cX0_spread 55 = .ok (.invokestatic 51, 3) := by decide +kernel
theorem dX0_spread_58 : decode cX0_spread 58 = .ok (.aload_n 0, 1) := by decide +kernel
theorem dX0_spread_59 : decode cX0_spread 59 = .ok (.getfield 21, 3) := by decide +kernel
theorem dX0_spread_62 : decode cX0_spread 62 = .ok (.iload_n 3, 1) := by decide +kernel
theorem dX0_spread_63 : decode cX0_spread 63 = .ok (.iload 5, 2) := by decide +kernel
theorem dX0_spread_65 : decode cX0_spread 65 = .ok (.invokestatic 51, 3) := by decide +kernel
theorem dX0_spread_68 : decode cX0_spread 68 = .ok (.iinc 3 1, 3) := by decide +kernel
theorem dX0_spread_71 : decode cX0_spread 71 = .ok (.iinc 4 1, 3) := by decide +kernel
theorem dX0_spread_74 : decode cX0_spread 74 = .ok (.goto (-69), 3) := by decide +kernel
theorem dX0_spread_77 : decode cX0_spread 77 = .ok (.iload_n 3, 1) := by decide +kernel
theorem dX0_spread_78 : decode cX0_spread 78 = .ok (.ireturn, 1) := by decide +kernel
theorem dX2_init_0 : decode cX2_init 0 = .ok (.aload_n 0, 1) := by decide +kernel
theorem dX2_init_1 : decode cX2_init 1 = .ok (.invokespecial 3, 3) := by decide +kernel
theorem dX2_init_4 : decode cX2_init 4 = .ok (.aload_n 0, 1) := by decide +kernel
theorem dX2_init_5 : decode cX2_init 5 = .ok (.iconst (-1), 1) := by decide +kernel
theorem dX2_init_6 : decode cX2_init 6 = .ok (.putfield 9, 3) := by decide +kernel
theorem dX2_init_9 : decode cX2_init 9 = .ok (.aload_n 0, 1) := by decide +kernel
theorem dX2_init_10 : decode cX2_init 10 = .ok (.iload_n 1, 1) := by decide +kernel
theorem dX2_init_11 : decode cX2_init 11 = .ok (.putfield 15, 3) := by decide +kernel
theorem dX2_init_14 : decode cX2_init 14 = .ok (.aload_n 0, 1) := by decide +kernel
theorem dX2_init_15 : decode cX2_init 15 = .ok (.iload_n 1, 1) := by decide +kernel
theorem dX2_init_16 : decode cX2_init 16 = .ok (.iload_n 2, 1) := by decide +kernel
theorem dX2_init_17 : decode cX2_init 17 = .ok (.iconst 1, 1) := by decide +kernel
theorem dX2_init_18 : decode cX2_init 18 = .ok (.iadd, 1) := by decide +kernel
theorem dX2_init_19 : decode cX2_init 19 = .ok (.imul, 1) := by decide +kernel
theorem dX2_init_20 : decode cX2_init 20 = .ok (.newarray .int, 2) := by decide +kernel
theorem dX2_init_22 : decode cX2_init 22 = .ok (.putfield 18, 3) := by decide +kernel
theorem dX2_init_25 : decode cX2_init 25 = .ok (.return_, 1) := by decide +kernel
theorem dX2_isMade_0 : decode cX2_isMade 0 = .ok (.aload_n 0, 1) := by decide +kernel
theorem dX2_isMade_1 : decode cX2_isMade 1 = .ok (.getfield 9, 3) := by decide +kernel
theorem dX2_isMade_4 : decode cX2_isMade 4 = .ok (.iconst (-1), 1) := by decide +kernel
theorem dX2_isMade_5 : decode cX2_isMade 5 = .ok (.if_icmp .eq 7, 3) := by decide +kernel
theorem dX2_isMade_8 : decode cX2_isMade 8 = .ok (.iconst 1, 1) := by decide +kernel
theorem dX2_isMade_9 : decode cX2_isMade 9 = .ok (.goto 4, 3) := by decide +kernel
theorem dX2_isMade_12 : decode cX2_isMade 12 = .ok (.iconst 0, 1) := by decide +kernel
theorem dX2_isMade_13 : decode cX2_isMade 13 = .ok (.ireturn, 1) := by decide +kernel
theorem dX2_drop_0 : decode cX2_drop 0 = .ok (.aload_n 0, 1) := by decide +kernel
theorem dX2_drop_1 : decode cX2_drop 1 = .ok (.iconst (-1), 1) := by decide +kernel
theorem dX2_drop_2 : decode cX2_drop 2 = .ok (.putfield 9, 3) := by decide +kernel
theorem dX2_drop_5 : decode cX2_drop 5 = .ok (.aload_n 0, 1) := by decide +kernel
theorem dX2_drop_6 : decode cX2_drop 6 = .ok (.iconst 0, 1) := by decide +kernel
theorem dX2_drop_7 : decode cX2_drop 7 = .ok (.putfield 22, 3) := by decide +kernel
theorem dX2_drop_10 : decode cX2_drop 10 = .ok (.return_, 1) := by decide +kernel
theorem dX2_cellOf_0 : decode cX2_cellOf 0 = .ok (.aload_n 0, 1) := by decide +kernel
theorem dX2_cellOf_1 : decode cX2_cellOf 1 = .ok (.getfield 18, 3) := by decide +kernel
theorem dX2_cellOf_4 : decode cX2_cellOf 4 = .ok (.iload_n 2, 1) := by decide +kernel
theorem dX2_cellOf_5 : decode cX2_cellOf 5 = .ok (.aload_n 0, 1) := by decide +kernel
theorem dX2_cellOf_6 : decode cX2_cellOf 6 = .ok (.getfield 15, 3) := by decide +kernel
theorem dX2_cellOf_9 : decode cX2_cellOf 9 = .ok (.imul, 1) := by decide +kernel
theorem dX2_cellOf_10 : decode cX2_cellOf 10 = .ok (.iload_n 1, 1) := by decide +kernel
theorem dX2_cellOf_11 : decode cX2_cellOf 11 = .ok (.iadd, 1) := by decide +kernel
theorem dX2_cellOf_12 : decode cX2_cellOf 12 = .ok (.invokestatic 25, 3) := by decide +kernel
theorem dX2_cellOf_15 : decode cX2_cellOf 15 = .ok (.ireturn, 1) := by decide +kernel
theorem dX2_put_0 : decode cX2_put 0 = .ok (.aload_n 0, 1) := by decide +kernel
theorem dX2_put_1 : decode cX2_put 1 = .ok (.getfield 18, 3) := by decide +kernel
theorem dX2_put_4 : decode cX2_put 4 = .ok (.iload_n 2, 1) := by decide +kernel
theorem dX2_put_5 : decode cX2_put 5 = .ok (.aload_n 0, 1) := by decide +kernel
theorem dX2_put_6 : decode cX2_put 6 = .ok (.getfield 15, 3) := by decide +kernel
theorem dX2_put_9 : decode cX2_put 9 = .ok (.imul, 1) := by decide +kernel
theorem dX2_put_10 : decode cX2_put 10 = .ok (.iload_n 1, 1) := by decide +kernel
theorem dX2_put_11 : decode cX2_put 11 = .ok (.iadd, 1) := by decide +kernel
theorem dX2_put_12 : decode cX2_put 12 = .ok (.iload_n 3, 1) := by decide +kernel
theorem dX2_put_13 : decode cX2_put 13 = .ok (.invokestatic 29, 3) := by decide +kernel
theorem dX2_put_16 : decode cX2_put 16 = .ok (.return_, 1) := by decide +kernel
theorem dX2_copy_0 : decode cX2_copy 0 = .ok (.iconst 0, 1) := by decide +kernel
theorem dX2_copy_1 : decode cX2_copy 1 = .ok (.istore_n 2, 1) := by decide +kernel
theorem dX2_copy_2 : decode cX2_copy 2 = .ok (.iload_n 2, 1) := by decide +kernel
theorem dX2_copy_3 : decode cX2_copy 3 = .ok (.aload_n 0, 1) := by decide +kernel
theorem dX2_copy_4 : decode cX2_copy 4 = .ok (.getfield 18, 3) := by decide +kernel
theorem dX2_copy_7 : decode cX2_copy 7 = .ok (.arraylength, 1) := by decide +kernel
theorem dX2_copy_8 : decode cX2_copy 8 = .ok (.if_icmp .ge 23, 3) := by decide +kernel
theorem dX2_copy_11 : decode cX2_copy 11 = .ok (.aload_n 0, 1) := by decide +kernel
theorem dX2_copy_12 : decode cX2_copy 12 = .ok (.getfield 18, 3) := by decide +kernel
theorem dX2_copy_15 : decode cX2_copy 15 = .ok (.iload_n 2, 1) := by decide +kernel
theorem dX2_copy_16 : decode cX2_copy 16 = .ok (.aload_n 1, 1) := by decide +kernel
theorem dX2_copy_17 : decode cX2_copy 17 = .ok (.getfield 18, 3) := by decide +kernel
theorem dX2_copy_20 : decode cX2_copy 20 = .ok (.iload_n 2, 1) := by decide +kernel
theorem dX2_copy_21 : decode cX2_copy 21 = .ok (.invokestatic 25, 3) := by decide +kernel
theorem dX2_copy_24 : decode cX2_copy 24 = .ok (.iastore, 1) := by decide +kernel
theorem dX2_copy_25 : decode cX2_copy 25 = .ok (.iinc 2 1, 3) := by decide +kernel
theorem dX2_copy_28 : decode cX2_copy 28 = .ok (.goto (-26), 3) := by decide +kernel
theorem dX2_copy_31 : decode cX2_copy 31 = .ok (.aload_n 0, 1) := by decide +kernel
theorem dX2_copy_32 : decode cX2_copy 32 = .ok (.aload_n 1, 1) := by decide +kernel
theorem dX2_copy_33 : decode cX2_copy 33 = .ok (.getfield 22, 3) := by decide +kernel
theorem dX2_copy_36 : decode cX2_copy 36 = .ok (.putfield 22, 3) := by decide +kernel
theorem dX2_copy_39 : decode cX2_copy 39 = .ok (.aload_n 0, 1) := by decide +kernel
theorem dX2_copy_40 : decode cX2_copy 40 = .ok (.aload_n 1, 1) := by decide +kernel
theorem dX2_copy_41 : decode cX2_copy 41 = .ok (.getfield 9, 3) := by decide +kernel
theorem dX2_copy_44 : decode cX2_copy 44 = .ok (.putfield 9, 3) := by decide +kernel
theorem dX2_copy_47 : decode cX2_copy 47 = .ok (.return_, 1) := by decide +kernel
theorem dX5_init_0 : decode cX5_init 0 = .ok (.aload_n 0, 1) := by decide +kernel
theorem dX5_init_1 : decode cX5_init 1 = .ok (.invokespecial 3, 3) := by decide +kernel
theorem dX5_init_4 : decode cX5_init 4 = .ok (.aload_n 0, 1) := by decide +kernel
theorem dX5_init_5 : decode cX5_init 5 = .ok (.new 9, 3) := by decide +kernel
theorem dX5_init_8 : decode cX5_init 8 = .ok (.dup, 1) := by decide +kernel
theorem dX5_init_9 : decode cX5_init 9 = .ok (.invokespecial 11, 3) := by decide +kernel
theorem dX5_init_12 : decode cX5_init 12 = .ok (.putfield 12, 3) := by decide +kernel
theorem dX5_init_15 : decode cX5_init 15 = .ok (.aload_n 0, 1) := by decide +kernel
theorem dX5_init_16 : decode cX5_init 16 = .ok (.iconst 1, 1) := by decide +kernel
theorem dX5_init_17 : decode cX5_init 17 = .ok (.putfield 18, 3) := by decide +kernel
theorem dX5_init_20 : decode cX5_init 20 = .ok (.aload_n 0, 1) := by decide +kernel
theorem dX5_init_21 : decode cX5_init 21 = .ok (.iload_n 1, 1) := by decide +kernel
theorem dX5_init_22 : decode cX5_init 22 = .ok (.putfield 22, 3) := by decide +kernel
theorem dX5_init_25 : decode cX5_init 25 = .ok (.aload_n 0, 1) := by decide +kernel
theorem dX5_init_26 : decode cX5_init 26 = .ok (.iload_n 1, 1) := by decide +kernel
theorem dX5_init_27 : decode cX5_init 27 = .ok (.newarray .int, 2) := by decide +kernel
theorem dX5_init_29 : decode cX5_init 29 = .ok (.putfield 26, 3) := by decide +kernel
theorem dX5_init_32 : decode cX5_init 32 = .ok (.aload_n 0, 1) := by decide +kernel
theorem dX5_init_33 : decode cX5_init 33 = .ok (.iload_n 1, 1) := by decide +kernel
theorem dX5_init_34 : decode cX5_init 34 = .ok (.newarray .int, 2) := by decide +kernel
theorem dX5_init_36 : decode cX5_init 36 = .ok (.putfield 30, 3) := by decide +kernel
theorem dX5_init_39 : decode cX5_init 39 = .ok (.return_, 1) := by decide +kernel
theorem dX5_renew_0 : decode cX5_renew 0 = .ok (.aload_n 0, 1) := by decide +kernel
theorem dX5_renew_1 : decode cX5_renew 1 = .ok (.getfield 12, 3) := by decide +kernel
theorem dX5_renew_4 : decode cX5_renew 4 = .ok (.iload_n 1, 1) := by decide +kernel
theorem dX5_renew_5 : decode cX5_renew 5 = .ok (.iload_n 2, 1) := by decide +kernel
theorem dX5_renew_6 : decode cX5_renew 6 = .ok (.invokevirtual 33, 3) := by decide +kernel
theorem dX5_renew_9 : decode cX5_renew 9 = .ok (.aload_n 0, 1) := by decide +kernel
theorem dX5_renew_10 : decode cX5_renew 10 = .ok (.getfield 26, 3) := by decide +kernel
theorem dX5_renew_13 : decode cX5_renew 13 = .ok (.iconst (-1), 1) := by decide +kernel
theorem dX5_renew_14 : decode cX5_renew 14 = .ok (.invokestatic 37, 3) := by decide +kernel
theorem dX5_renew_17 : decode cX5_renew 17 = .ok (.aload_n 0, 1) := by decide +kernel
theorem dX5_renew_18 : decode cX5_renew 18 = .ok (.getfield 30, 3) := by decide +kernel
theorem dX5_renew_21 : decode cX5_renew 21 = .ok (.iconst (-1), 1) := by decide +kernel
theorem dX5_renew_22 : decode cX5_renew 22 = .ok (.invokestatic 37, 3) := by decide +kernel
theorem dX5_renew_25 : decode cX5_renew 25 = .ok (.return_, 1) := by decide +kernel
theorem dX5_isComplete_0 : decode cX5_isComplete 0 = .ok (.aload_n 0, 1) := by decide +kernel
theorem dX5_isComplete_1 : decode cX5_isComplete 1 = .ok (.getfield 26, 3) := by decide +kernel
theorem dX5_isComplete_4 : decode cX5_isComplete 4 = .ok (.iload_n 1, 1) := by decide +kernel
theorem dX5_isComplete_5 : decode cX5_isComplete 5 = .ok (.invokestatic 43, 3) := by decide +kernel
theorem dX5_isComplete_8 : decode cX5_isComplete 8 = .ok (.iconst (-1), 1) := by decide +kernel
theorem dX5_isComplete_9 : decode cX5_isComplete 9 = .ok (.if_icmp .eq 19, 3) := by decide +kernel
theorem dX5_isComplete_12 : decode cX5_isComplete 12 = .ok (.aload_n 0, 1) := by decide +kernel
theorem dX5_isComplete_13 : decode cX5_isComplete 13 = .ok (.getfield 30, 3) := by decide +kernel
theorem dX5_isComplete_16 : decode cX5_isComplete 16 = .ok (.iload_n 1, 1) := by decide +kernel
theorem dX5_isComplete_17 : decode cX5_isComplete 17 = .ok (.invokestatic 43, 3) := by decide +kernel
theorem dX5_isComplete_20 : decode cX5_isComplete 20 = .ok (.iconst (-1), 1) := by decide +kernel
theorem dX5_isComplete_21 : decode cX5_isComplete 21 = .ok (.if_icmp .eq 7, 3) := by decide +kernel
theorem dX5_isComplete_24 : decode cX5_isComplete 24 = .ok (.iconst 1, 1) := by decide +kernel
theorem dX5_isComplete_25 : decode cX5_isComplete 25 = .ok (.goto 4, 3) := by decide +kernel
theorem dX5_isComplete_28 : decode cX5_isComplete 28 = .ok (.iconst 0, 1) := by decide +kernel
theorem dX5_isComplete_29 : decode cX5_isComplete 29 = .ok (.ireturn, 1) := by decide +kernel
theorem dX5_way_0 : decode cX5_way 0 = .ok (.aload_n 0, 1) := by decide +kernel
theorem dX5_way_1 : decode cX5_way 1 = .ok (.getfield 12, 3) := by decide +kernel
theorem dX5_way_4 : decode cX5_way 4 = .ok (.aload_n 0, 1) := by decide +kernel
theorem dX5_way_5 : decode cX5_way 5 = .ok (.getfield 26, 3) := by decide +kernel
theorem dX5_way_8 : decode cX5_way 8 = .ok (.iload_n 1, 1) := by decide +kernel
theorem dX5_way_9 : decode cX5_way 9 = .ok (.invokestatic 43, 3) := by decide +kernel
theorem dX5_way_12 : decode cX5_way 12 = .ok (.aload_n 0, 1) := by decide +kernel
theorem dX5_way_13 : decode cX5_way 13 = .ok (.getfield 30, 3) := by decide +kernel
theorem dX5_way_16 : decode cX5_way 16 = .ok (.iload_n 1, 1) := by decide +kernel
theorem dX5_way_17 : decode cX5_way 17 = .ok (.invokestatic 43, 3) := by decide +kernel
theorem dX5_way_20 : decode cX5_way 20 = .ok (.invokevirtual 47, 3) := by decide +kernel
theorem dX5_way_23 : decode cX5_way 23 = .ok (.ireturn, 1) := by decide +kernel
theorem dX5_allWays_0 : decode cX5_allWays 0 = .ok (.iconst 0, 1) := by decide +kernel
theorem dX5_allWays_1 : decode cX5_allWays 1 = .ok (.istore_n 1, 1) := by decide +kernel
theorem dX5_allWays_2 : decode cX5_allWays 2 = .ok (.iconst 0, 1) := by decide +kernel
theorem dX5_allWays_3 : decode cX5_allWays 3 = .ok (.istore_n 2, 1) := by decide +kernel
theorem dX5_allWays_4 : decode cX5_allWays 4 = .ok (.iload_n 2, 1) := by decide +kernel
theorem dX5_allWays_5 : decode cX5_allWays 5 = .ok (.aload_n 0, 1) := by decide +kernel
theorem dX5_allWays_6 : decode cX5_allWays 6 = .ok (.getfield 22, 3) := by decide +kernel
theorem dX5_allWays_9 : decode cX5_allWays 9 = .ok (.if_icmp .ge 26, 3) := by decide +kernel
theorem dX5_allWays_12 : decode cX5_allWays 12 = .ok (.aload_n 0, 1) := by decide +kernel
theorem dX5_allWays_13 : decode cX5_allWays 13 = .ok (.iload_n 2, 1) := by decide +kernel
theorem dX5_allWays_14 : decode cX5_allWays 14 = .ok (.invokevirtual 51, 3) := by decide +kernel
theorem dX5_allWays_17 : decode cX5_allWays 17 = .ok (.istore_n 3, 1) := by decide +kernel
theorem dX5_allWays_18 : decode cX5_allWays 18 = .ok (.iload_n 3, 1) := by decide +kernel
theorem dX5_allWays_19 : decode cX5_allWays 19 = .ok (.iconst (-1), 1) := by decide +kernel
theorem dX5_allWays_20 : decode cX5_allWays 20 = .ok (.if_icmp .ne 5, 3) := by decide +kernel
theorem dX5_allWays_23 : decode cX5_allWays 23 = .ok (.iconst (-1), 1) := by decide +kernel
theorem dX5_allWays_24 : decode cX5_allWays 24 = .ok (.ireturn, 1) := by decide +kernel
theorem dX5_allWays_25 : decode cX5_allWays 25 = .ok (.iload_n 1, 1) := by decide +kernel
theorem dX5_allWays_26 : decode cX5_allWays 26 = .ok (.iload_n 3, 1) := by decide +kernel
theorem dX5_allWays_27 : decode cX5_allWays 27 = .ok (.iadd, 1) := by decide +kernel
theorem dX5_allWays_28 : decode cX5_allWays 28 = .ok (.istore_n 1, 1) := by decide +kernel
theorem dX5_allWays_29 : decode cX5_allWays 29 = .ok (.iinc 2 1, 3) := by decide +kernel
theorem dX5_allWays_32 : decode cX5_allWays 32 = .ok (.goto (-28), 3) := by decide +kernel
theorem dX5_allWays_35 : decode cX5_allWays 35 = .ok (.iload_n 1, 1) := by decide +kernel
theorem dX5_allWays_36 : decode cX5_allWays 36 = .ok (.ireturn, 1) := by decide +kernel
theorem dX6_init_0 : decode cX6_init 0 = .ok (.aload_n 0, 1) := by decide +kernel
theorem dX6_init_1 : decode cX6_init 1 = .ok (.invokespecial 1, 3) := by decide +kernel
theorem dX6_init_4 : decode cX6_init 4 = .ok (.aload_n 0, 1) := by decide +kernel
theorem dX6_init_5 : decode cX6_init 5 = .ok (.lconst 1, 1) := by decide +kernel
theorem dX6_init_6 : decode cX6_init 6 = .ok (.putfield 7, 3) := by decide +kernel
theorem dX6_init_9 : decode cX6_init 9 = .ok (.aload_n 0, 1) := by decide +kernel
theorem dX6_init_10 : decode cX6_init 10 = .ok (.iload_n 1, 1) := by decide +kernel
theorem dX6_init_11 : decode cX6_init 11 = .ok (.newarray .int, 2) := by decide +kernel
theorem dX6_init_13 : decode cX6_init 13 = .ok (.putfield 13, 3) := by decide +kernel
theorem dX6_init_16 : decode cX6_init 16 = .ok (.return_, 1) := by decide +kernel
theorem dX6_reset_0 : decode cX6_reset 0 = .ok (.iconst 0, 1) := by decide +kernel
theorem dX6_reset_1 : decode cX6_reset 1 = .ok (.istore_n 1, 1) := by decide +kernel
theorem dX6_reset_2 : decode cX6_reset 2 = .ok (.iload_n 1, 1) := by decide +kernel
theorem dX6_reset_3 : decode cX6_reset 3 = .ok (.aload_n 0, 1) := by decide +kernel
theorem dX6_reset_4 : decode cX6_reset 4 = .ok (.getfield 13, 3) := by decide +kernel
theorem dX6_reset_7 : decode cX6_reset 7 = .ok (.arraylength, 1) := by decide +kernel
theorem dX6_reset_8 : decode cX6_reset 8 = .ok (.if_icmp .ge 16, 3) := by decide +kernel
theorem dX6_reset_11 : decode cX6_reset 11 = .ok (.aload_n 0, 1) := by decide +kernel
theorem dX6_reset_12 : decode cX6_reset 12 = .ok (.getfield 13, 3) := by decide +kernel
theorem dX6_reset_15 : decode cX6_reset 15 = .ok (.iload_n 1, 1) := by decide +kernel
theorem dX6_reset_16 : decode cX6_reset 16 = .ok (.iload_n 1, 1) := by decide +kernel
theorem dX6_reset_17 : decode cX6_reset 17 = .ok (.iastore, 1) := by decide +kernel
theorem dX6_reset_18 : decode cX6_reset 18 = .ok (.iinc 1 1, 3) := by decide +kernel
theorem dX6_reset_21 : decode cX6_reset 21 = .ok (.goto (-19), 3) := by decide +kernel
theorem dX6_reset_24 : decode cX6_reset 24 = .ok (.return_, 1) := by decide +kernel
theorem dX6_draw_0 : decode cX6_draw 0 = .ok (.aload_n 0, 1) := by decide +kernel
theorem dX6_draw_1 : decode cX6_draw 1 = .ok (.invokevirtual 17, 3) := by decide +kernel
theorem dX6_draw_4 : decode cX6_draw 4 = .ok (.iconst 1, 1) := by decide +kernel
theorem dX6_draw_5 : decode cX6_draw 5 = .ok (.istore_n 1, 1) := by decide +kernel
theorem dX6_draw_6 : decode cX6_draw 6 = .ok (.iload_n 1, 1) := by decide +kernel
theorem dX6_draw_7 : decode cX6_draw 7 = .ok (.aload_n 0, 1) := by decide +kernel
theorem dX6_draw_8 : decode cX6_draw 8 = .ok (.getfield 13, 3) := by decide +kernel
theorem dX6_draw_11 : decode cX6_draw 11 = .ok (.arraylength, 1) := by decide +kernel
theorem dX6_draw_12 : decode cX6_draw 12 = .ok (.if_icmp .ge 48, 3) := by decide +kernel
theorem dX6_draw_15 : decode cX6_draw 15 = .ok (.aload_n 0, 1) := by decide +kernel
theorem dX6_draw_16 : decode cX6_draw 16 = .ok (.aload_n 0, 1) := by decide +kernel
theorem dX6_draw_17 : decode cX6_draw 17 = .ok (.getfield 7, 3) := by decide +kernel
theorem dX6_draw_20 : decode cX6_draw 20 = .ok (.ldc2_w 20, 3) := by decide +kernel
theorem dX6_draw_23 : decode cX6_draw 23 = .ok (.lmul, 1) := by decide +kernel
theorem dX6_draw_24 : decode cX6_draw 24 = .ok (.ldc2_w 22, 3) := by decide +kernel
theorem dX6_draw_27 : decode cX6_draw 27 = .ok (.ladd, 1) := by decide +kernel
theorem dX6_draw_28 : decode cX6_draw 28 = .ok (.ldc2_w 24, 3) := by decide +kernel
theorem dX6_draw_31 : decode cX6_draw 31 = .ok (.lrem, 1) := by decide +kernel
theorem dX6_draw_32 : decode cX6_draw 32 = .ok (.putfield 7, 3) := by decide +kernel
theorem dX6_draw_35 : decode cX6_draw 35 = .ok (.aload_n 0, 1) := by decide +kernel
theorem dX6_draw_36 : decode cX6_draw 36 = .ok (.iload_n 1, 1) := by decide +kernel
theorem dX6_draw_37 : decode cX6_draw 37 = .ok (.aload_n 0, 1) := by decide +kernel
theorem dX6_draw_38 : decode cX6_draw 38 = .ok (.getfield 7, 3) := by decide +kernel
theorem dX6_draw_41 : decode cX6_draw 41 = .ok (.ldc2_w 26, 3) := by decide +kernel
theorem dX6_draw_44 : decode cX6_draw 44 = .ok (.ldiv, 1) := by decide +kernel
theorem dX6_draw_45 : decode cX6_draw 45 = .ok (.iload_n 1, 1) := by decide +kernel
theorem dX6_draw_46 : decode cX6_draw 46 = .ok (.iconst 1, 1) := by decide +kernel
theorem dX6_draw_47 : decode cX6_draw 47 = .ok (.iadd, 1) := by decide +kernel
theorem dX6_draw_48 : decode cX6_draw 48 = .ok (.i2l, 1) := by decide +kernel
theorem dX6_draw_49 : decode cX6_draw 49 = .ok (.lrem, 1) := by decide +kernel
theorem dX6_draw_50 : decode cX6_draw 50 = .ok (.l2i, 1) := by decide +kernel
theorem dX6_draw_51 : decode cX6_draw 51 = .ok (.invokevirtual 28, 3) := by decide +kernel
theorem dX6_draw_54 : decode cX6_draw 54 = .ok (.iinc 1 1, 3) := by decide +kernel
theorem dX6_draw_57 : decode cX6_draw 57 = .ok (.goto (-51), 3) := by decide +kernel
theorem dX6_draw_60 : decode cX6_draw 60 = .ok (.return_, 1) := by decide +kernel
theorem dX6_exchange_0 : decode cX6_exchange 0 = .ok (.aload_n 0, 1) := by decide +kernel
theorem dX6_exchange_1 : decode cX6_exchange 1 = .ok (.getfield 13, 3) := by decide +kernel
theorem dX6_exchange_4 : decode cX6_exchange 4 = .ok (.iload_n 1, 1) := by decide +kernel
theorem dX6_exchange_5 : decode cX6_exchange 5 = .ok (.invokestatic 32, 3) := by decide +kernel
theorem dX6_exchange_8 : decode cX6_exchange 8 = .ok (.istore_n 3, 1) := by decide +kernel
theorem dX6_exchange_9 : decode cX6_exchange 9 = .ok (.aload_n 0, 1) := by decide +kernel
theorem dX6_exchange_10 : decode cX6_exchange 10 = .ok (.getfield 13, 3) := by decide +kernel
theorem dX6_exchange_13 : decode cX6_exchange 13 = .ok (.iload_n 1, 1) := by decide +kernel
theorem dX6_exchange_14 : decode cX6_exchange 14 = .ok (.aload_n 0, 1) := by decide +kernel
theorem dX6_exchange_15 : decode cX6_exchange 15 = .ok (.getfield 13, 3) := by decide +kernel
theorem dX6_exchange_18 : decode cX6_exchange 18 = .ok (.iload_n 2, 1) := by decide +kernel
theorem dX6_exchange_19 : decode cX6_exchange 19 = .ok (.invokestatic 32, 3) := by decide +kernel
theorem dX6_exchange_22 : decode cX6_exchange 22 = .ok (.invokestatic 38, 3) := by decide +kernel
theorem dX6_exchange_25 : decode cX6_exchange 25 = .ok (.aload_n 0, 1) := by decide +kernel
theorem dX6_exchange_26 : decode cX6_exchange 26 = .ok (.getfield 13, 3) := by decide +kernel
theorem dX6_exchange_29 : decode cX6_exchange 29 = .ok (.iload_n 2, 1) := by decide +kernel
theorem dX6_exchange_30 : decode cX6_exchange 30 = .ok (.iload_n 3, 1) := by decide +kernel
theorem dX6_exchange_31 : decode cX6_exchange 31 = .ok (.invokestatic 38, 3) := by decide +kernel
theorem dX6_exchange_34 : decode cX6_exchange 34 = .ok (.return_, 1) := by decide +kernel
theorem dJx00060_init_a7421_0 : decode cJx00060_init_a7421 0 = .ok (.aload_n 0, 1) := by decide +kernel
theorem dJx00060_init_a7421_1 : decode cJx00060_init_a7421 1 = .ok (.aload_n 1, 1) := by decide +kernel
theorem dJx00060_init_a7421_2 : decode cJx00060_init_a7421 2 = .ok (.invokespecial 7, 3) := by decide +kernel
theorem dJx00060_init_a7421_5 : decode cJx00060_init_a7421 5 = .ok (.return_, 1) := by decide +kernel
theorem dJ9_max_7cf53_0 : decode cJ9_max_7cf53 0 = .ok (.iload_n 0, 1) := by decide +kernel
theorem dJ9_max_7cf53_1 : decode cJ9_max_7cf53 1 = .ok (.iload_n 1, 1) := by decide +kernel
theorem dJ9_max_7cf53_2 : decode cJ9_max_7cf53 2 = .ok (.if_icmp .lt 7, 3) := by decide +kernel
theorem dJ9_max_7cf53_5 : decode cJ9_max_7cf53 5 = .ok (.iload_n 0, 1) := by decide +kernel
theorem dJ9_max_7cf53_6 : decode cJ9_max_7cf53 6 = .ok (.goto 4, 3) := by decide +kernel
theorem dJ9_max_7cf53_9 : decode cJ9_max_7cf53 9 = .ok (.iload_n 1, 1) := by decide +kernel
theorem dJ9_max_7cf53_10 : decode cJ9_max_7cf53 10 = .ok (.ireturn, 1) := by decide +kernel
theorem dJ9_min_7cf53_0 : decode cJ9_min_7cf53 0 = .ok (.iload_n 0, 1) := by decide +kernel
theorem dJ9_min_7cf53_1 : decode cJ9_min_7cf53 1 = .ok (.iload_n 1, 1) := by decide +kernel
theorem dJ9_min_7cf53_2 : decode cJ9_min_7cf53 2 = .ok (.if_icmp .gt 7, 3) := by decide +kernel
theorem dJ9_min_7cf53_5 : decode cJ9_min_7cf53 5 = .ok (.iload_n 0, 1) := by decide +kernel
theorem dJ9_min_7cf53_6 : decode cJ9_min_7cf53 6 = .ok (.goto 4, 3) := by decide +kernel
theorem dJ9_min_7cf53_9 : decode cJ9_min_7cf53 9 = .ok (.iload_n 1, 1) := by decide +kernel
theorem dJ9_min_7cf53_10 : decode cJ9_min_7cf53 10 = .ok (.ireturn, 1) := by decide +kernel
theorem dJ7_fill_53178_0 : decode cJ7_fill_53178 0 = .ok (.iconst 0, 1) := by decide +kernel
theorem dJ7_fill_53178_1 : decode cJ7_fill_53178 1 = .ok (.istore_n 2, 1) := by decide +kernel
theorem dJ7_fill_53178_2 : decode cJ7_fill_53178 2 = .ok (.aload_n 0, 1) := by decide +kernel
theorem dJ7_fill_53178_3 : decode cJ7_fill_53178 3 = .ok (.arraylength, 1) := by decide +kernel
theorem dJ7_fill_53178_4 : decode cJ7_fill_53178 4 = .ok (.istore_n 3, 1) := by decide +kernel
theorem dJ7_fill_53178_5 : decode cJ7_fill_53178 5 = .ok (.iload_n 2, 1) := by decide +kernel
theorem dJ7_fill_53178_6 : decode cJ7_fill_53178 6 = .ok (.iload_n 3, 1) := by decide +kernel
theorem dJ7_fill_53178_7 : decode cJ7_fill_53178 7 = .ok (.if_icmp .ge 13, 3) := by decide +kernel
theorem dJ7_fill_53178_10 : decode cJ7_fill_53178 10 = .ok (.aload_n 0, 1) := by decide +kernel
theorem dJ7_fill_53178_11 : decode cJ7_fill_53178 11 = .ok (.iload_n 2, 1) := by decide +kernel
theorem dJ7_fill_53178_12 : decode cJ7_fill_53178 12 = .ok (.iload_n 1, 1) := by decide +kernel
theorem dJ7_fill_53178_13 : decode cJ7_fill_53178 13 = .ok (.iastore, 1) := by decide +kernel
theorem dJ7_fill_53178_14 : decode cJ7_fill_53178 14 = .ok (.iinc 2 1, 3) := by decide +kernel
theorem dJ7_fill_53178_17 : decode cJ7_fill_53178 17 = .ok (.goto (-12), 3) := by decide +kernel
theorem dJ7_fill_53178_20 : decode cJ7_fill_53178 20 = .ok (.return_, 1) := by decide +kernel
