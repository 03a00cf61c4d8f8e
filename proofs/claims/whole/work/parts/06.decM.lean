theorem dX8_init_0 : decode cX8_init 0 = .ok (.aload_n 0, 1) := by decide +kernel
theorem dX8_init_1 : decode cX8_init 1 = .ok (.invokespecial 1, 3) := by decide +kernel
theorem dX8_init_4 : decode cX8_init 4 = .ok (.aload_n 0, 1) := by decide +kernel
theorem dX8_init_5 : decode cX8_init 5 = .ok (.iconst 0, 1) := by decide +kernel
theorem dX8_init_6 : decode cX8_init 6 = .ok (.putfield 7, 3) := by decide +kernel
theorem dX8_init_9 : decode cX8_init 9 = .ok (.aload_n 0, 1) := by decide +kernel
theorem dX8_init_10 : decode cX8_init 10 = .ok (.iconst 1, 1) := by decide +kernel
theorem dX8_init_11 : decode cX8_init 11 = .ok (.putfield 13, 3) := by decide +kernel
theorem dX8_init_14 : decode cX8_init 14 = .ok (.aload_n 0, 1) := by decide +kernel
theorem dX8_init_15 : decode cX8_init 15 = .ok (.iconst 1, 1) := by decide +kernel
theorem dX8_init_16 : decode cX8_init 16 = .ok (.putfield 16, 3) := by decide +kernel
theorem dX8_init_19 : decode cX8_init 19 = .ok (.aload_n 0, 1) := by decide +kernel
theorem dX8_init_20 : decode cX8_init 20 = .ok (.bipush 36, 2) := by decide +kernel
theorem dX8_init_22 : decode cX8_init 22 = .ok (.newarray .boolean, 2) := by decide +kernel
theorem dX8_init_24 : decode cX8_init 24 = .ok (.putfield 19, 3) := by decide +kernel
theorem dX8_init_27 : decode cX8_init 27 = .ok (.aload_n 0, 1) := by decide +kernel
theorem dX8_init_28 : decode cX8_init 28 = .ok (.iconst 4, 1) := by decide +kernel
theorem dX8_init_29 : decode cX8_init 29 = .ok (.newarray .int, 2) := by decide +kernel
theorem dX8_init_31 : decode cX8_init 31 = .ok (.putfield 23, 3) := by decide +kernel
theorem dX8_init_34 : decode cX8_init 34 = .ok (.aload_n 0, 1) := by decide +kernel
theorem dX8_init_35 : decode cX8_init 35 = .ok (.iconst 4, 1) := by decide +kernel
theorem dX8_init_36 : decode cX8_init 36 = .ok (.newarray .int, 2) := by decide +kernel
theorem dX8_init_38 : decode cX8_init 38 = .ok (.putfield 27, 3) := by decide +kernel
theorem dX8_init_41 : decode cX8_init 41 = .ok (.aload_n 0, 1) := by decide +kernel
theorem dX8_init_42 : decode cX8_init 42 = .ok (.iconst 1, 1) := by decide +kernel
theorem dX8_init_43 : decode cX8_init 43 = .ok (.putfield 30, 3) := by decide +kernel
theorem dX8_init_46 : decode cX8_init 46 = .ok (.aload_n 0, 1) := by decide +kernel
theorem dX8_init_47 : decode cX8_init 47 = .ok (.lconst 1, 1) := by decide +kernel
theorem dX8_init_48 : decode cX8_init 48 = .ok (.putfield 34, 3) := by decide +kernel
theorem dX8_init_51 : decode cX8_init 51 = .ok (.aload_n 0, 1) := by decide +kernel
theorem dX8_init_52 : decode cX8_init 52 = .ok (.iconst 0, 1) := by decide +kernel
theorem dX8_init_53 : decode cX8_init 53 = .ok (.putfield 38, 3) := by decide +kernel
theorem dX8_init_56 : decode cX8_init 56 = .ok (.aload_n 0, 1) := by decide +kernel
theorem dX8_init_57 : decode cX8_init 57 = .ok (.iconst 0, 1) := by decide +kernel
theorem dX8_init_58 : decode cX8_init 58 = .ok (.putfield 41, 3) := by decide +kernel
theorem dX8_init_61 : decode cX8_init 61 = .ok (.aload_n 0, 1) := by decide +kernel
theorem dX8_init_62 : decode cX8_init 62 = .ok (.iconst (-1), 1) := by decide +kernel
theorem dX8_init_63 : decode cX8_init 63 = .ok (.putfield 44, 3) := by decide +kernel
theorem dX8_init_66 : decode cX8_init 66 = .ok (.aload_n 0, 1) := by decide +kernel
theorem dX8_init_67 : decode cX8_init 67 = .ok (.iconst 0, 1) := by decide +kernel
theorem dX8_init_68 : decode cX8_init 68 = .ok (.putfield 47, 3) := by decide +kernel
theorem dX8_init_71 : decode cX8_init 71 = .ok (.aload_n 0, 1) := by decide +kernel
theorem dX8_init_72 : decode cX8_init 72 = .ok (.sipush 1600, 3) := by decide +kernel
theorem dX8_init_75 : decode cX8_init 75 = .ok (.newarray .int, 2) := by decide +kernel
theorem dX8_init_77 : decode cX8_init 77 = .ok (.putfield 50, 3) := by decide +kernel
theorem dX8_init_80 : decode cX8_init 80 = .ok (.aload_n 0, 1) := by decide +kernel
theorem dX8_init_81 : decode cX8_init 81 = .ok (.sipush 640, 3) := by decide +kernel
theorem dX8_init_84 : decode cX8_init 84 = .ok (.newarray .int, 2) := by decide +kernel
theorem dX8_init_86 : decode cX8_init 86 = .ok (.putfield 53, 3) := by decide +kernel
theorem dX8_init_89 : decode cX8_init 89 = .ok (.aload_n 0, 1) := by decide +kernel
theorem dX8_init_90 : decode cX8_init 90 = .ok (.iconst 4, 1) := by decide +kernel
theorem dX8_init_91 : decode cX8_init 91 = .ok (.newarray .int, 2) := by decide +kernel
theorem dX8_init_93 : decode cX8_init 93 = .ok (.putfield 56, 3) := by decide +kernel
theorem dX8_init_96 : decode cX8_init 96 = .ok (.aload_n 0, 1) := by decide +kernel
theorem dX8_init_97 : decode cX8_init 97 = .ok (.sipush 1476, 3) := by decide +kernel
theorem dX8_init_100 : decode cX8_init 100 = .ok (.newarray .int, 2) := by decide +kernel
theorem dX8_init_102 : decode cX8_init 102 = .ok (.putfield 59, 3) := by decide +kernel
theorem dX8_init_105 : decode cX8_init 105 = .ok (.aload_n 0, 1) := by decide +kernel
theorem dX8_init_106 : decode cX8_init 106 = .ok (.iload_n 1, 1) := by decide +kernel
theorem dX8_init_107 : decode cX8_init 107 = .ok (.ifCond .ge 7, 3) := by decide +kernel
theorem dX8_init_110 : decode cX8_init 110 = .ok (.iconst 0, 1) := by decide +kernel
theorem dX8_init_111 : decode cX8_init 111 = .ok (.goto 13, 3) := by decide +kernel
theorem dX8_init_114 : decode cX8_init 114 = .ok (.iload_n 1, 1) := by decide +kernel
theorem dX8_init_115 : decode cX8_init 115 = .ok (.iconst 4, 1) := by decide +kernel
theorem dX8_init_116 : decode cX8_init 116 = .ok (.if_icmp .le 7, 3) := by decide +kernel
theorem dX8_init_119 : decode cX8_init 119 = .ok (.iconst 4, 1) := by decide +kernel
theorem dX8_init_120 : decode cX8_init 120 = .ok (.goto 4, 3) := by decide +kernel
theorem dX8_init_123 : decode cX8_init 123 = .ok (.iload_n 1, 1) := by decide +kernel
theorem dX8_init_124 : decode cX8_init 124 = .ok (.putfield 62, 3) := by decide +kernel
theorem dX8_init_127 : decode cX8_init 127 = .ok (.aload_n 0, 1) := by decide +kernel
theorem dX8_init_128 : decode cX8_init 128 = .ok (.iconst 1, 1) := by decide +kernel
theorem dX8_init_129 : decode cX8_init 129 = .ok (.iconst 1, 1) := by decide +kernel
theorem dX8_init_130 : decode cX8_init 130 = .ok (.invokevirtual 65, 3) := by decide +kernel
theorem dX8_init_133 : decode cX8_init 133 = .ok (.return_, 1) := by decide +kernel
theorem dX8_fresh_0 : decode cX8_fresh 0 = .ok (.aload_n 0, 1) := by decide +kernel
theorem dX8_fresh_1 : decode cX8_fresh 1 = .ok (.iload_n 1, 1) := by decide +kernel
theorem dX8_fresh_2 : decode cX8_fresh 2 = .ok (.putfield 13, 3) := by decide +kernel
theorem dX8_fresh_5 : decode cX8_fresh 5 = .ok (.aload_n 0, 1) := by decide +kernel
theorem dX8_fresh_6 : decode cX8_fresh 6 = .ok (.iload_n 2, 1) := by decide +kernel
theorem dX8_fresh_7 : decode cX8_fresh 7 = .ok (.putfield 16, 3) := by decide +kernel
theorem dX8_fresh_10 : decode cX8_fresh 10 = .ok (.iconst 0, 1) := by decide +kernel
theorem dX8_fresh_11 : decode cX8_fresh 11 = .ok (.istore_n 3, 1) := by decide +kernel
theorem dX8_fresh_12 : decode cX8_fresh 12 = .ok (.iload_n 3, 1) := by decide +kernel
theorem dX8_fresh_13 : decode cX8_fresh 13 = .ok (.bipush 36, 2) := by decide +kernel
theorem dX8_fresh_15 : decode cX8_fresh 15 = .ok (.if_icmp .ge 16, 3) := by decide +kernel
theorem dX8_fresh_18 : decode cX8_fresh 18 = .ok (.aload_n 0, 1) := by decide +kernel
theorem dX8_fresh_19 : decode cX8_fresh 19 = .ok (.getfield 19, 3) := by decide +kernel
theorem dX8_fresh_22 : decode cX8_fresh 22 = .ok (.iload_n 3, 1) := by decide +kernel
theorem dX8_fresh_23 : decode cX8_fresh 23 = .ok (.iconst 0, 1) := by decide +kernel
theorem dX8_fresh_24 : decode cX8_fresh 24 = .ok (.bastore, 1) := by decide +kernel
theorem dX8_fresh_25 : decode cX8_fresh 25 = .ok (.iinc 3 1, 3) := by decide +kernel
theorem dX8_fresh_28 : decode cX8_fresh 28 = .ok (.goto (-16), 3) := by decide +kernel
theorem dX8_fresh_31 : decode cX8_fresh 31 = .ok (.iconst 0, 1) := by decide +kernel
theorem dX8_fresh_32 : decode cX8_fresh 32 = .ok (.istore_n 3, 1) := by decide +kernel
theorem dX8_fresh_33 : decode cX8_fresh 33 = .ok (.iload_n 3, 1) := by decide +kernel
theorem dX8_fresh_34 : decode cX8_fresh 34 = .ok (.iconst 4, 1) := by decide +kernel
theorem dX8_fresh_35 : decode cX8_fresh 35 = .ok (.if_icmp .ge 23, 3) := by decide +kernel
theorem dX8_fresh_38 : decode cX8_fresh 38 = .ok (.aload_n 0, 1) := by decide +kernel
theorem dX8_fresh_39 : decode cX8_fresh 39 = .ok (.getfield 23, 3) := by decide +kernel
theorem dX8_fresh_42 : decode cX8_fresh 42 = .ok (.iload_n 3, 1) := by decide +kernel
theorem dX8_fresh_43 : decode cX8_fresh 43 = .ok (.iconst (-1), 1) := by decide +kernel
theorem dX8_fresh_44 : decode cX8_fresh 44 = .ok (.iastore, 1) := by decide +kernel
theorem dX8_fresh_45 : decode cX8_fresh 45 = .ok (.aload_n 0, 1) := by decide +kernel
theorem dX8_fresh_46 : decode cX8_fresh 46 = .ok (.getfield 27, 3) := by decide +kernel
theorem dX8_fresh_49 : decode cX8_fresh 49 = .ok (.iload_n 3, 1) := by decide +kernel
theorem dX8_fresh_50 : decode cX8_fresh 50 = .ok (.iconst (-1), 1) := by decide +kernel
theorem dX8_fresh_51 : decode cX8_fresh 51 = .ok (.iastore, 1) := by decide +kernel
theorem dX8_fresh_52 : decode cX8_fresh 52 = .ok (.iinc 3 1, 3) := by decide +kernel
theorem dX8_fresh_55 : decode cX8_fresh 55 = .ok (.goto (-22), 3) := by decide +kernel
theorem dX8_fresh_58 : decode cX8_fresh 58 = .ok (.aload_n 0, 1) := by decide +kernel
theorem dX8_fresh_59 : decode cX8_fresh 59 = .ok (.iconst 0, 1) := by decide +kernel
theorem dX8_fresh_60 : decode cX8_fresh 60 = .ok (.putfield 38, 3) := by decide +kernel
theorem dX8_fresh_63 : decode cX8_fresh 63 = .ok (.return_, 1) := by decide +kernel
theorem dX8_noCell_0 : decode cX8_noCell 0 = .ok (.iload_n 1, 1) := by decide +kernel
theorem dX8_noCell_1 : decode cX8_noCell 1 = .ok (.ifCond .lt 23, 3) := by decide +kernel
theorem dX8_noCell_4 : decode cX8_noCell 4 = .ok (.iload_n 1, 1) := by decide +kernel
theorem dX8_noCell_5 : decode cX8_noCell 5 = .ok (.aload_n 0, 1) := by decide +kernel
theorem dX8_noCell_6 : decode cX8_noCell 6 = .ok (.getfield 13, 3) := by decide +kernel
theorem dX8_noCell_9 : decode cX8_noCell 9 = .ok (.if_icmp .ge 15, 3) := by decide +kernel
theorem dX8_noCell_12 : decode cX8_noCell 12 = .ok (.iload_n 2, 1) := by decide +kernel
theorem dX8_noCell_13 : decode cX8_noCell 13 = .ok (.ifCond .lt 11, 3) := by decide +kernel
theorem dX8_noCell_16 : decode cX8_noCell 16 = .ok (.iload_n 2, 1) := by decide +kernel
theorem dX8_noCell_17 : decode cX8_noCell 17 = .ok (.aload_n 0, 1) := by decide +kernel
theorem dX8_noCell_18 : decode cX8_noCell 18 = .ok (.getfield 16, 3) := by decide +kernel
theorem dX8_noCell_21 : decode cX8_noCell 21 = .ok (.if_icmp .lt 7, 3) := by decide +kernel
theorem dX8_noCell_24 : decode cX8_noCell 24 = .ok (.iconst 1, 1) := by decide +kernel
theorem dX8_noCell_25 : decode cX8_noCell 25 = .ok (.goto 4, 3) := by decide +kernel
theorem dX8_noCell_28 : decode cX8_noCell 28 = .ok (.iconst 0, 1) := by decide +kernel
theorem dX8_noCell_29 : decode cX8_noCell 29 = .ok (.ireturn, 1) := by decide +kernel
theorem dX8_moved_0 : decode cX8_moved 0 = .ok (.iload_n 1, 1) := by decide +kernel
theorem dX8_moved_1 : decode cX8_moved 1 = .ok (.bipush 6, 2) := by decide +kernel
theorem dX8_moved_3 : decode cX8_moved 3 = .ok (.irem, 1) := by decide +kernel
theorem dX8_moved_4 : decode cX8_moved 4 = .ok (.iload_n 2, 1) := by decide +kernel
theorem dX8_moved_5 : decode cX8_moved 5 = .ok (.iconst 2, 1) := by decide +kernel
theorem dX8_moved_6 : decode cX8_moved 6 = .ok (.if_icmp .ne 7, 3) := by decide +kernel
theorem dX8_moved_9 : decode cX8_moved 9 = .ok (.iconst 1, 1) := by decide +kernel
theorem dX8_moved_10 : decode cX8_moved 10 = .ok (.goto 13, 3) := by decide +kernel
theorem dX8_moved_13 : decode cX8_moved 13 = .ok (.iload_n 2, 1) := by decide +kernel
theorem dX8_moved_14 : decode cX8_moved 14 = .ok (.iconst 4, 1) := by decide +kernel
theorem dX8_moved_15 : decode cX8_moved 15 = .ok (.if_icmp .ne 7, 3) := by decide +kernel
theorem dX8_moved_18 : decode cX8_moved 18 = .ok (.iconst (-1), 1) := by decide +kernel
theorem dX8_moved_19 : decode cX8_moved 19 = .ok (.goto 4, 3) := by decide +kernel
theorem dX8_moved_22 : decode cX8_moved 22 = .ok (.iconst 0, 1) := by decide +kernel
theorem dX8_moved_23 : decode cX8_moved 23 = .ok (.iadd, 1) := by decide +kernel
theorem dX8_moved_24 : decode cX8_moved 24 = .ok (.istore_n 3, 1) := by decide +kernel
theorem dX8_moved_25 : decode cX8_moved 25 = .ok (.iload_n 1, 1) := by decide +kernel
theorem dX8_moved_26 : decode cX8_moved 26 = .ok (.bipush 6, 2) := by decide +kernel
theorem dX8_moved_28 : decode cX8_moved 28 = .ok (.idiv, 1) := by decide +kernel
theorem dX8_moved_29 : decode cX8_moved 29 = .ok (.iload_n 2, 1) := by decide +kernel
theorem dX8_moved_30 : decode cX8_moved 30 = .ok (.iconst 3, 1) := by decide +kernel
theorem dX8_moved_31 : decode cX8_moved 31 = .ok (.if_icmp .ne 7, 3) := by decide +kernel
theorem dX8_moved_34 : decode cX8_moved 34 = .ok (.iconst 1, 1) := by decide +kernel
theorem dX8_moved_35 : decode cX8_moved 35 = .ok (.goto 13, 3) := by decide +kernel
theorem dX8_moved_38 : decode cX8_moved 38 = .ok (.iload_n 2, 1) := by decide +kernel
theorem dX8_moved_39 : decode cX8_moved 39 = .ok (.iconst 1, 1) := by decide +kernel
theorem dX8_moved_40 : decode cX8_moved 40 = .ok (.if_icmp .ne 7, 3) := by decide +kernel
theorem dX8_moved_43 : decode cX8_moved 43 = .ok (.iconst (-1), 1) := by decide +kernel
theorem dX8_moved_44 : decode cX8_moved 44 = .ok (.goto 4, 3) := by decide +kernel
theorem dX8_moved_47 : decode cX8_moved 47 = .ok (.iconst 0, 1) := by decide +kernel
theorem dX8_moved_48 : decode cX8_moved 48 = .ok (.iadd, 1) := by decide +kernel
theorem dX8_moved_49 : decode cX8_moved 49 = .ok (.istore 4, 2) := by decide +kernel
theorem dX8_moved_51 : decode cX8_moved 51 = .ok (.aload_n 0, 1) := by decide +kernel
theorem dX8_moved_52 : decode cX8_moved 52 = .ok (.iload_n 3, 1) := by decide +kernel
theorem dX8_moved_53 : decode cX8_moved 53 = .ok (.iload 4, 2) := by decide +kernel
theorem dX8_moved_55 : decode cX8_moved 55 = .ok (.invokevirtual 69, 3) := by decide +kernel
theorem dX8_moved_58 : decode cX8_moved 58 = .ok (.ifCond .ne 18, 3) := by decide +kernel
theorem dX8_moved_61 : decode cX8_moved 61 = .ok (.aload_n 0, 1) := by decide +kernel
theorem dX8_moved_62 : decode cX8_moved 62 = .ok (.getfield 19, 3) := by decide +kernel
theorem dX8_moved_65 : decode cX8_moved 65 = .ok (.bipush 6, 2) := by decide +kernel
theorem dX8_moved_67 : decode cX8_moved 67 = .ok (.iload 4, 2) := by decide +kernel
theorem dX8_moved_69 : decode cX8_moved 69 = .ok (.imul, 1) := by decide +kernel
theorem dX8_moved_70 : decode cX8_moved 70 = .ok (.iload_n 3, 1) := by decide +kernel
theorem dX8_moved_71 : decode cX8_moved 71 = .ok (.iadd, 1) := by decide +kernel
theorem dX8_moved_72 : decode cX8_moved 72 = .ok (.baload, 1) := by decide +kernel
theorem dX8_moved_73 : decode cX8_moved 73 = .ok (.ifCond .eq 7, 3) := by decide +kernel
theorem dX8_moved_76 : decode cX8_moved 76 = .ok (.iconst (-1), 1) := by decide +kernel
theorem dX8_moved_77 : decode cX8_moved 77 = .ok (.goto 10, 3) := by decide +kernel
theorem dX8_moved_80 : decode cX8_moved 80 = .ok (.bipush 6, 2) := by decide +kernel
theorem dX8_moved_82 : decode cX8_moved 82 = .ok (.iload 4, 2) := by decide +kernel
theorem dX8_moved_84 : decode cX8_moved 84 = .ok (.imul, 1) := by decide +kernel
theorem dX8_moved_85 : decode cX8_moved 85 = .ok (.iload_n 3, 1) := by decide +kernel
theorem dX8_moved_86 : decode cX8_moved 86 = .ok (.iadd, 1) := by decide +kernel
theorem dX8_moved_87 : decode cX8_moved 87 = .ok (.ireturn, 1) := by decide +kernel
theorem dX8_stays_0 : decode cX8_stays 0 = .ok (.iload_n 0, 1) := by decide +kernel
theorem dX8_stays_1 : decode cX8_stays 1 = .ok (.iload_n 1, 1) := by decide +kernel
theorem dX8_stays_2 : decode cX8_stays 2 = .ok (.if_icmp .ne 12, 3) := by decide +kernel
theorem dX8_stays_5 : decode cX8_stays 5 = .ok (.iload_n 1, 1) := by decide +kernel
theorem dX8_stays_6 : decode cX8_stays 6 = .ok (.iload_n 2, 1) := by decide +kernel
theorem dX8_stays_7 : decode cX8_stays 7 = .ok (.if_icmp .ne 7, 3) := by decide +kernel
theorem dX8_stays_10 : decode cX8_stays 10 = .ok (.iconst 0, 1) := by decide +kernel
theorem dX8_stays_11 : decode cX8_stays 11 = .ok (.goto 4, 3) := by decide +kernel
theorem dX8_stays_14 : decode cX8_stays 14 = .ok (.iconst 1, 1) := by decide +kernel
theorem dX8_stays_15 : decode cX8_stays 15 = .ok (.ireturn, 1) := by decide +kernel
theorem dX8_goal_0 : decode cX8_goal 0 = .ok (.iload_n 1, 1) := by decide +kernel
theorem dX8_goal_1 : decode cX8_goal 1 = .ok (.aload_n 0, 1) := by decide +kernel
theorem dX8_goal_2 : decode cX8_goal 2 = .ok (.getfield 62, 3) := by decide +kernel
theorem dX8_goal_5 : decode cX8_goal 5 = .ok (.if_icmp .ge 12, 3) := by decide +kernel
theorem dX8_goal_8 : decode cX8_goal 8 = .ok (.aload_n 0, 1) := by decide +kernel
theorem dX8_goal_9 : decode cX8_goal 9 = .ok (.getfield 27, 3) := by decide +kernel
theorem dX8_goal_12 : decode cX8_goal 12 = .ok (.iload_n 1, 1) := by decide +kernel
theorem dX8_goal_13 : decode cX8_goal 13 = .ok (.iaload, 1) := by decide +kernel
theorem dX8_goal_14 : decode cX8_goal 14 = .ok (.goto 4, 3) := by decide +kernel
theorem dX8_goal_17 : decode cX8_goal 17 = .ok (.iconst 0, 1) := by decide +kernel
theorem dX8_goal_18 : decode cX8_goal 18 = .ok (.ireturn, 1) := by decide +kernel
theorem dX8_through_0 : decode cX8_through 0 = .ok (.aload_n 0, 1) := by decide +kernel
theorem dX8_through_1 : decode cX8_through 1 = .ok (.iload_n 1, 1) := by decide +kernel
theorem dX8_through_2 : decode cX8_through 2 = .ok (.iload_n 3, 1) := by decide +kernel
theorem dX8_through_3 : decode cX8_through 3 = .ok (.invokevirtual 73, 3) := by decide +kernel
theorem dX8_through_6 : decode cX8_through 6 = .ok (.istore 5, 2) := by decide +kernel
theorem dX8_through_8 : decode cX8_through 8 = .ok (.aload_n 0, 1) := by decide +kernel
theorem dX8_through_9 : decode cX8_through 9 = .ok (.getfield 62, 3) := by decide +kernel
theorem dX8_through_12 : decode cX8_through 12 = .ok (.iconst 2, 1) := by decide +kernel
theorem dX8_through_13 : decode cX8_through 13 = .ok (.if_icmp .ne 13, 3) := by decide +kernel
theorem dX8_through_16 : decode cX8_through 16 = .ok (.aload_n 0, 1) := by decide +kernel
theorem dX8_through_17 : decode cX8_through 17 = .ok (.iload_n 2, 1) := by decide +kernel
theorem dX8_through_18 : decode cX8_through 18 = .ok (.iload 4, 2) := by decide +kernel
theorem dX8_through_20 : decode cX8_through 20 = .ok (.invokevirtual 73, 3) := by decide +kernel
theorem dX8_through_23 : decode cX8_through 23 = .ok (.goto 13, 3) := by decide +kernel
theorem dX8_through_26 : decode cX8_through 26 = .ok (.iload 4, 2) := by decide +kernel
theorem dX8_through_28 : decode cX8_through 28 = .ok (.ifCond .ne 7, 3) := by decide +kernel
theorem dX8_through_31 : decode cX8_through 31 = .ok (.iload_n 2, 1) := by decide +kernel
theorem dX8_through_32 : decode cX8_through 32 = .ok (.goto 4, 3) := by decide +kernel
theorem dX8_through_35 : decode cX8_through 35 = .ok (.iconst (-1), 1) := by decide +kernel
theorem dX8_through_36 : decode cX8_through 36 = .ok (.istore 6, 2) := by decide +kernel
theorem dX8_through_38 : decode cX8_through 38 = .ok (.iload 5, 2) := by decide +kernel
theorem dX8_through_40 : decode cX8_through 40 = .ok (.ifCond .lt 8, 3) := by decide +kernel
theorem dX8_through_43 : decode cX8_through 43 = .ok (.iload 6, 2) := by decide +kernel
theorem dX8_through_45 : decode cX8_through 45 = .ok (.ifCond .ge 6, 3) := by decide +kernel
theorem dX8_through_48 : decode cX8_through 48 = .ok (.ldc 77, 2) := by decide +kernel
theorem dX8_through_50 : decode cX8_through 50 = .ok (.ireturn, 1) := by decide +kernel
theorem dX8_through_51 : decode cX8_through 51 = .ok (.aload_n 0, 1) := by decide +kernel
theorem dX8_through_52 : decode cX8_through 52 = .ok (.getfield 62, 3) := by decide +kernel
theorem dX8_through_55 : decode cX8_through 55 = .ok (.iconst 2, 1) := by decide +kernel
theorem dX8_through_56 : decode cX8_through 56 = .ok (.if_icmp .ne 32, 3) := by decide +kernel
theorem dX8_through_59 : decode cX8_through 59 = .ok (.iload 5, 2) := by decide +kernel
theorem dX8_through_61 : decode cX8_through 61 = .ok (.iload 6, 2) := by decide +kernel
theorem dX8_through_63 : decode cX8_through 63 = .ok (.if_icmp .eq 22, 3) := by decide +kernel
theorem dX8_through_66 : decode cX8_through 66 = .ok (.aload_n 0, 1) := by decide +kernel
theorem dX8_through_67 : decode cX8_through 67 = .ok (.getfield 30, 3) := by decide +kernel
theorem dX8_through_70 : decode cX8_through 70 = .ok (.ifCond .eq 18, 3) := by decide +kernel
theorem dX8_through_73 : decode cX8_through 73 = .ok (.iload 5, 2) := by decide +kernel
theorem dX8_through_75 : decode cX8_through 75 = .ok (.iload_n 2, 1) := by decide +kernel
theorem dX8_through_76 : decode cX8_through 76 = .ok (.if_icmp .ne 12, 3) := by decide +kernel
theorem dX8_through_79 : decode cX8_through 79 = .ok (.iload 6, 2) := by decide +kernel
theorem dX8_through_81 : decode cX8_through 81 = .ok (.iload_n 1, 1) := by decide +kernel
theorem dX8_through_82 : decode cX8_through 82 = .ok (.if_icmp .ne 6, 3) := by decide +kernel
theorem dX8_through_85 : decode cX8_through 85 = .ok (.ldc 77, 2) := by decide +kernel
theorem dX8_through_87 : decode cX8_through 87 = .ok (.ireturn, 1) := by decide +kernel
theorem dX8_through_88 : decode cX8_through 88 = .ok (.iload_n 1, 1) := by decide +kernel
theorem dX8_through_89 : decode cX8_through 89 = .ok (.iload 5, 2) := by decide +kernel
theorem dX8_through_91 : decode cX8_through 91 = .ok (.aload_n 0, 1) := by decide +kernel
theorem dX8_through_92 : decode cX8_through 92 = .ok (.iconst 0, 1) := by decide +kernel
theorem dX8_through_93 : decode cX8_through 93 = .ok (.invokevirtual 78, 3) := by decide +kernel
theorem dX8_through_96 : decode cX8_through 96 = .ok (.invokestatic 82, 3) := by decide +kernel
theorem dX8_through_99 : decode cX8_through 99 = .ok (.aload_n 0, 1) := by decide +kernel
theorem dX8_through_100 : decode cX8_through 100 = .ok (.getfield 62, 3) := by decide +kernel
theorem dX8_through_103 : decode cX8_through 103 = .ok (.iconst 2, 1) := by decide +kernel
theorem dX8_through_104 : decode cX8_through 104 = .ok (.if_icmp .ne 17, 3) := by decide +kernel
theorem dX8_through_107 : decode cX8_through 107 = .ok (.iload_n 2, 1) := by decide +kernel
theorem dX8_through_108 : decode cX8_through 108 = .ok (.iload 6, 2) := by decide +kernel
theorem dX8_through_110 : decode cX8_through 110 = .ok (.aload_n 0, 1) := by decide +kernel
theorem dX8_through_111 : decode cX8_through 111 = .ok (.iconst 1, 1) := by decide +kernel
theorem dX8_through_112 : decode cX8_through 112 = .ok (.invokevirtual 78, 3) := by decide +kernel
theorem dX8_through_115 : decode cX8_through 115 = .ok (.invokestatic 82, 3) := by decide +kernel
theorem dX8_through_118 : decode cX8_through 118 = .ok (.goto 4, 3) := by decide +kernel
theorem dX8_through_121 : decode cX8_through 121 = .ok (.iconst 0, 1) := by decide +kernel
theorem dX8_through_122 : decode cX8_through 122 = .ok (.iadd, 1) := by decide +kernel
theorem dX8_through_123 : decode cX8_through 123 = .ok (.istore 7, 2) := by decide +kernel
theorem dX8_through_125 : decode cX8_through 125 = .ok (.iload 7, 2) := by decide +kernel
theorem dX8_through_127 : decode cX8_through 127 = .ok (.ifCond .ne 26, 3) := by decide +kernel
theorem dX8_through_130 : decode cX8_through 130 = .ok (.aload_n 0, 1) := by decide +kernel
theorem dX8_through_131 : decode cX8_through 131 = .ok (.getfield 59, 3) := by decide +kernel
theorem dX8_through_134 : decode cX8_through 134 = .ok (.bipush 36, 2) := by decide +kernel
theorem dX8_through_136 : decode cX8_through 136 = .ok (.iload 5, 2) := by decide +kernel
theorem dX8_through_138 : decode cX8_through 138 = .ok (.imul, 1) := by decide +kernel
theorem dX8_through_139 : decode cX8_through 139 = .ok (.iload 6, 2) := by decide +kernel
theorem dX8_through_141 : decode cX8_through 141 = .ok (.iadd, 1) := by decide +kernel
theorem dX8_through_142 : decode cX8_through 142 = .ok (.iaload, 1) := by decide +kernel
theorem dX8_through_143 : decode cX8_through 143 = .ok (.ldc 77, 2) := by decide +kernel
theorem dX8_through_145 : decode cX8_through 145 = .ok (.if_icmp .lt 8, 3) := by decide +kernel
theorem dX8_through_148 : decode cX8_through 148 = .ok (.ldc 77, 2) := by decide +kernel
theorem dX8_through_150 : decode cX8_through 150 = .ok (.goto 19, 3) := by decide +kernel
theorem dX8_through_153 : decode cX8_through 153 = .ok (.iload 7, 2) := by decide +kernel
theorem dX8_through_155 : decode cX8_through 155 = .ok (.aload_n 0, 1) := by decide +kernel
theorem dX8_through_156 : decode cX8_through 156 = .ok (.getfield 59, 3) := by decide +kernel
theorem dX8_through_159 : decode cX8_through 159 = .ok (.bipush 36, 2) := by decide +kernel
theorem dX8_through_161 : decode cX8_through 161 = .ok (.iload 5, 2) := by decide +kernel
theorem dX8_through_163 : decode cX8_through 163 = .ok (.imul, 1) := by decide +kernel
theorem dX8_through_164 : decode cX8_through 164 = .ok (.iload 6, 2) := by decide +kernel
theorem dX8_through_166 : decode cX8_through 166 = .ok (.iadd, 1) := by decide +kernel
theorem dX8_through_167 : decode cX8_through 167 = .ok (.iaload, 1) := by decide +kernel
theorem dX8_through_168 : decode cX8_through 168 = .ok (.iadd, 1) := by decide +kernel
theorem dX8_through_169 : decode cX8_through 169 = .ok (.ireturn, 1) := by decide +kernel
theorem dX8_jointly_0 : decode cX8_jointly 0 = .ok (.aload_n 0, 1) := by decide +kernel
theorem dX8_jointly_1 : decode cX8_jointly 1 = .ok (.iconst 1, 1) := by decide +kernel
theorem dX8_jointly_2 : decode cX8_jointly 2 = .ok (.putfield 41, 3) := by decide +kernel
theorem dX8_jointly_5 : decode cX8_jointly 5 = .ok (.aload_n 0, 1) := by decide +kernel
theorem dX8_jointly_6 : decode cX8_jointly 6 = .ok (.iconst 0, 1) := by decide +kernel
theorem dX8_jointly_7 : decode cX8_jointly 7 = .ok (.putfield 47, 3) := by decide +kernel
theorem dX8_jointly_10 : decode cX8_jointly 10 = .ok (.aload_n 0, 1) := by decide +kernel
theorem dX8_jointly_11 : decode cX8_jointly 11 = .ok (.getfield 62, 3) := by decide +kernel
theorem dX8_jointly_14 : decode cX8_jointly 14 = .ok (.ifCond .ne 14, 3) := by decide +kernel
theorem dX8_jointly_17 : decode cX8_jointly 17 = .ok (.aload_n 0, 1) := by decide +kernel
theorem dX8_jointly_18 : decode cX8_jointly 18 = .ok (.iconst 0, 1) := by decide +kernel
theorem dX8_jointly_19 : decode cX8_jointly 19 = .ok (.putfield 44, 3) := by decide +kernel
theorem dX8_jointly_22 : decode cX8_jointly 22 = .ok (.aload_n 0, 1) := by decide +kernel
theorem dX8_jointly_23 : decode cX8_jointly 23 = .ok (.iconst 1, 1) := by decide +kernel
theorem dX8_jointly_24 : decode cX8_jointly 24 = .ok (.putfield 38, 3) := by decide +kernel
theorem dX8_jointly_27 : decode cX8_jointly 27 = .ok (.return_, 1) := by decide +kernel
theorem dX8_jointly_28 : decode cX8_jointly 28 = .ok (.iconst 0, 1) := by decide +kernel
theorem dX8_jointly_29 : decode cX8_jointly 29 = .ok (.istore_n 1, 1) := by decide +kernel
theorem dX8_jointly_30 : decode cX8_jointly 30 = .ok (.iload_n 1, 1) := by decide +kernel
theorem dX8_jointly_31 : decode cX8_jointly 31 = .ok (.sipush 1296, 3) := by decide +kernel
theorem dX8_jointly_34 : decode cX8_jointly 34 = .ok (.if_icmp .ge 17, 3) := by decide +kernel
theorem dX8_jointly_37 : decode cX8_jointly 37 = .ok (.aload_n 0, 1) := by decide +kernel
theorem dX8_jointly_38 : decode cX8_jointly 38 = .ok (.getfield 59, 3) := by decide +kernel
theorem dX8_jointly_41 : decode cX8_jointly 41 = .ok (.iload_n 1, 1) := by decide +kernel
theorem dX8_jointly_42 : decode cX8_jointly 42 = .ok (.ldc 77, 2) := by decide +kernel
theorem dX8_jointly_44 : decode cX8_jointly 44 = .ok (.iastore, 1) := by decide +kernel
theorem dX8_jointly_45 : decode cX8_jointly 45 = .ok (.iinc 1 1, 3) := by decide +kernel
theorem dX8_jointly_48 : decode cX8_jointly 48 = .ok (.goto (-18), 3) := by decide +kernel
theorem dX8_jointly_51 : decode cX8_jointly 51 = .ok (.aload_n 0, 1) := by decide +kernel
theorem dX8_jointly_52 : decode cX8_jointly 52 = .ok (.getfield 59, 3) := by decide +kernel
theorem dX8_jointly_55 : decode cX8_jointly 55 = .ok (.bipush 36, 2) := by decide +kernel
theorem dX8_jointly_57 : decode cX8_jointly 57 = .ok (.aload_n 0, 1) := by decide +kernel
theorem dX8_jointly_58 : decode cX8_jointly 58 = .ok (.iconst 0, 1) := by decide +kernel
theorem dX8_jointly_59 : decode cX8_jointly 59 = .ok (.invokevirtual 78, 3) := by decide +kernel
theorem dX8_jointly_62 : decode cX8_jointly 62 = .ok (.imul, 1) := by decide +kernel
theorem dX8_jointly_63 : decode cX8_jointly 63 = .ok (.aload_n 0, 1) := by decide +kernel
theorem dX8_jointly_64 : decode cX8_jointly 64 = .ok (.iconst 1, 1) := by decide +kernel
theorem dX8_jointly_65 : decode cX8_jointly 65 = .ok (.invokevirtual 78, 3) := by decide +kernel
theorem dX8_jointly_68 : decode cX8_jointly 68 = .ok (.iadd, 1) := by decide +kernel
theorem dX8_jointly_69 : decode cX8_jointly 69 = .ok (.iconst 0, 1) := by decide +kernel
theorem dX8_jointly_70 : decode cX8_jointly 70 = .ok (.iastore, 1) := by decide +kernel
theorem dX8_jointly_71 : decode cX8_jointly 71 = .ok (.iconst 1, 1) := by decide +kernel
theorem dX8_jointly_72 : decode cX8_jointly 72 = .ok (.istore_n 1, 1) := by decide +kernel
theorem dX8_jointly_73 : decode cX8_jointly 73 = .ok (.iload_n 1, 1) := by decide +kernel
theorem dX8_jointly_74 : decode cX8_jointly 74 = .ok (.ifCond .eq 59, 3) := by decide +kernel
theorem dX8_jointly_77 : decode cX8_jointly 77 = .ok (.iconst 0, 1) := by decide +kernel
theorem dX8_jointly_78 : decode cX8_jointly 78 = .ok (.istore_n 1, 1) := by decide +kernel
theorem dX8_jointly_79 : decode cX8_jointly 79 = .ok (.iconst 0, 1) := by decide +kernel
theorem dX8_jointly_80 : decode cX8_jointly 80 = .ok (.istore_n 2, 1) := by decide +kernel
theorem dX8_jointly_81 : decode cX8_jointly 81 = .ok (.iload_n 2, 1) := by decide +kernel
theorem dX8_jointly_82 : decode cX8_jointly 82 = .ok (.bipush 36, 2) := by decide +kernel
theorem dX8_jointly_84 : decode cX8_jointly 84 = .ok (.if_icmp .ge 46, 3) := by decide +kernel
theorem dX8_jointly_87 : decode cX8_jointly 87 = .ok (.iconst 0, 1) := by decide +kernel
theorem dX8_jointly_88 : decode cX8_jointly 88 = .ok (.istore_n 3, 1) := by decide +kernel
theorem dX8_jointly_89 : decode cX8_jointly 89 = .ok (.iload_n 3, 1) := by decide +kernel
theorem dX8_jointly_90 : decode cX8_jointly 90 = .ok (.aload_n 0, 1) := by decide +kernel
theorem dX8_jointly_91 : decode cX8_jointly 91 = .ok (.getfield 62, 3) := by decide +kernel
theorem dX8_jointly_94 : decode cX8_jointly 94 = .ok (.iconst 2, 1) := by decide +kernel
theorem dX8_jointly_95 : decode cX8_jointly 95 = .ok (.if_icmp .ne 8, 3) := by decide +kernel
theorem dX8_jointly_98 : decode cX8_jointly 98 = .ok (.bipush 36, 2) := by decide +kernel
theorem dX8_jointly_100 : decode cX8_jointly 100 = .ok (.goto 4, 3) := by decide +kernel
theorem dX8_jointly_103 : decode cX8_jointly 103 = .ok (.iconst 1, 1) := by decide +kernel
theorem dX8_jointly_104 : decode cX8_jointly 104 = .ok (.if_icmp .ge 20, 3) := by decide +kernel
theorem dX8_jointly_107 : decode cX8_jointly 107 = .ok (.aload_n 0, 1) := by decide +kernel
theorem dX8_jointly_108 : decode cX8_jointly 108 = .ok (.iload_n 2, 1) := by decide +kernel
theorem dX8_jointly_109 : decode cX8_jointly 109 = .ok (.iload_n 3, 1) := by decide +kernel
theorem dX8_jointly_110 : decode cX8_jointly 110 = .ok (.invokevirtual 86, 3) := by decide +kernel
theorem dX8_jointly_113 : decode cX8_jointly 113 = .ok (.ifCond .eq 5, 3) := by decide +kernel
theorem dX8_jointly_116 : decode cX8_jointly 116 = .ok (.iconst 1, 1) := by decide +kernel
theorem dX8_jointly_117 : decode cX8_jointly 117 = .ok (.istore_n 1, 1) := by decide +kernel
theorem dX8_jointly_118 : decode cX8_jointly 118 = .ok (.iinc 3 1, 3) := by decide +kernel
theorem dX8_jointly_121 : decode cX8_jointly 121 = .ok (.goto (-32), 3) := by decide +kernel
theorem dX8_jointly_124 : decode cX8_jointly 124 = .ok (.iinc 2 1, 3) := by decide +kernel
theorem dX8_jointly_127 : decode cX8_jointly 127 = .ok (.goto (-46), 3) := by decide +kernel
theorem dX8_jointly_130 : decode cX8_jointly 130 = .ok (.goto (-57), 3) := by decide +kernel
theorem dX8_jointly_133 : decode cX8_jointly 133 = .ok (.aload_n 0, 1) := by decide +kernel
theorem dX8_jointly_134 : decode cX8_jointly 134 = .ok (.getfield 23, 3) := by decide +kernel
theorem dX8_jointly_137 : decode cX8_jointly 137 = .ok (.iconst 0, 1) := by decide +kernel
theorem dX8_jointly_138 : decode cX8_jointly 138 = .ok (.iaload, 1) := by decide +kernel
theorem dX8_jointly_139 : decode cX8_jointly 139 = .ok (.istore_n 2, 1) := by decide +kernel
theorem dX8_jointly_140 : decode cX8_jointly 140 = .ok (.aload_n 0, 1) := by decide +kernel
theorem dX8_jointly_141 : decode cX8_jointly 141 = .ok (.getfield 62, 3) := by decide +kernel
theorem dX8_jointly_144 : decode cX8_jointly 144 = .ok (.iconst 2, 1) := by decide +kernel
theorem dX8_jointly_145 : decode cX8_jointly 145 = .ok (.if_icmp .ne 12, 3) := by decide +kernel
theorem dX8_jointly_148 : decode cX8_jointly 148 = .ok (.aload_n 0, 1) := by decide +kernel
theorem dX8_jointly_149 : decode cX8_jointly 149 = .ok (.getfield 23, 3) := by decide +kernel
theorem dX8_jointly_152 : decode cX8_jointly 152 = .ok (.iconst 1, 1) := by decide +kernel
theorem dX8_jointly_153 : decode cX8_jointly 153 = .ok (.iaload, 1) := by decide +kernel
theorem dX8_jointly_154 : decode cX8_jointly 154 = .ok (.goto 4, 3) := by decide +kernel
theorem dX8_jointly_157 : decode cX8_jointly 157 = .ok (.iconst 0, 1) := by decide +kernel
theorem dX8_jointly_158 : decode cX8_jointly 158 = .ok (.istore_n 3, 1) := by decide +kernel
theorem dX8_jointly_159 : decode cX8_jointly 159 = .ok (.aload_n 0, 1) := by decide +kernel
theorem dX8_jointly_160 : decode cX8_jointly 160 = .ok (.aload_n 0, 1) := by decide +kernel
theorem dX8_jointly_161 : decode cX8_jointly 161 = .ok (.getfield 59, 3) := by decide +kernel
theorem dX8_jointly_164 : decode cX8_jointly 164 = .ok (.bipush 36, 2) := by decide +kernel
theorem dX8_jointly_166 : decode cX8_jointly 166 = .ok (.iload_n 2, 1) := by decide +kernel
theorem dX8_jointly_167 : decode cX8_jointly 167 = .ok (.imul, 1) := by decide +kernel
theorem dX8_jointly_168 : decode cX8_jointly 168 = .ok (.iload_n 3, 1) := by decide +kernel
theorem dX8_jointly_169 : decode cX8_jointly 169 = .ok (.iadd, 1) := by decide +kernel
theorem dX8_jointly_170 : decode cX8_jointly 170 = .ok (.iaload, 1) := by decide +kernel
theorem dX8_jointly_171 : decode cX8_jointly 171 = .ok (.putfield 44, 3) := by decide +kernel
theorem dX8_jointly_174 : decode cX8_jointly 174 = .ok (.aload_n 0, 1) := by decide +kernel
theorem dX8_jointly_175 : decode cX8_jointly 175 = .ok (.aload_n 0, 1) := by decide +kernel
theorem dX8_jointly_176 : decode cX8_jointly 176 = .ok (.getfield 44, 3) := by decide +kernel
theorem dX8_jointly_179 : decode cX8_jointly 179 = .ok (.ldc 77, 2) := by decide +kernel
theorem dX8_jointly_181 : decode cX8_jointly 181 = .ok (.if_icmp .ge 7, 3) := by decide +kernel
theorem dX8_jointly_184 : decode cX8_jointly 184 = .ok (.iconst 1, 1) := by decide +kernel
theorem dX8_jointly_185 : decode cX8_jointly 185 = .ok (.goto 4, 3) := by decide +kernel
theorem dX8_jointly_188 : decode cX8_jointly 188 = .ok (.iconst 0, 1) := by decide +kernel
theorem dX8_jointly_189 : decode cX8_jointly 189 = .ok (.putfield 38, 3) := by decide +kernel
theorem dX8_jointly_192 : decode cX8_jointly 192 = .ok (.aload_n 0, 1) := by decide +kernel
theorem dX8_jointly_193 : decode cX8_jointly 193 = .ok (.getfield 38, 3) := by decide +kernel
theorem dX8_jointly_196 : decode cX8_jointly 196 = .ok (.ifCond .ne 4, 3) := by decide +kernel
theorem dX8_jointly_199 : decode cX8_jointly 199 = .ok (.return_, 1) := by decide +kernel
theorem dX8_jointly_200 : decode cX8_jointly 200 = .ok (.aload_n 0, 1) := by decide +kernel
theorem dX8_jointly_201 : decode cX8_jointly 201 = .ok (.getfield 50, 3) := by decide +kernel
theorem dX8_jointly_204 : decode cX8_jointly 204 = .ok (.iconst 0, 1) := by decide +kernel
theorem dX8_jointly_205 : decode cX8_jointly 205 = .ok (.iload_n 2, 1) := by decide +kernel
theorem dX8_jointly_206 : decode cX8_jointly 206 = .ok (.iastore, 1) := by decide +kernel
theorem dX8_jointly_207 : decode cX8_jointly 207 = .ok (.aload_n 0, 1) := by decide +kernel
theorem dX8_jointly_208 : decode cX8_jointly 208 = .ok (.getfield 50, 3) := by decide +kernel
theorem dX8_jointly_211 : decode cX8_jointly 211 = .ok (.sipush 400, 3) := by decide +kernel
theorem dX8_jointly_214 : decode cX8_jointly 214 = .ok (.iload_n 3, 1) := by decide +kernel
theorem dX8_jointly_215 : decode cX8_jointly 215 = .ok (.iastore, 1) := by decide +kernel
theorem dX8_jointly_216 : decode cX8_jointly 216 = .ok (.aload_n 0, 1) := by decide +kernel
theorem dX8_jointly_217 : decode cX8_jointly 217 = .ok (.getfield 59, 3) := by decide +kernel
theorem dX8_jointly_220 : decode cX8_jointly 220 = .ok (.bipush 36, 2) := by decide +kernel
theorem dX8_jointly_222 : decode cX8_jointly 222 = .ok (.iload_n 2, 1) := by decide +kernel
theorem dX8_jointly_223 : decode cX8_jointly 223 = .ok (.imul, 1) := by decide +kernel
theorem dX8_jointly_224 : decode cX8_jointly 224 = .ok (.iload_n 3, 1) := by decide +kernel
theorem dX8_jointly_225 : decode cX8_jointly 225 = .ok (.iadd, 1) := by decide +kernel
theorem dX8_jointly_226 : decode cX8_jointly 226 = .ok (.iaload, 1) := by decide +kernel
theorem dX8_jointly_227 : decode cX8_jointly 227 = .ok (.ifCond .le 80, 3) := by decide +kernel
theorem dX8_jointly_230 : decode cX8_jointly 230 = .ok (.aload_n 0, 1) := by decide +kernel
theorem dX8_jointly_231 : decode cX8_jointly 231 = .ok (.iload_n 2, 1) := by decide +kernel
theorem dX8_jointly_232 : decode cX8_jointly 232 = .ok (.iload_n 3, 1) := by decide +kernel
theorem dX8_jointly_233 : decode cX8_jointly 233 = .ok (.invokevirtual 89, 3) := by decide +kernel
theorem dX8_jointly_236 : decode cX8_jointly 236 = .ok (.istore 4, 2) := by decide +kernel
theorem dX8_jointly_238 : decode cX8_jointly 238 = .ok (.aload_n 0, 1) := by decide +kernel
theorem dX8_jointly_239 : decode cX8_jointly 239 = .ok (.iload_n 2, 1) := by decide +kernel
theorem dX8_jointly_240 : decode cX8_jointly 240 = .ok (.iload 4, 2) := by decide +kernel
theorem dX8_jointly_242 : decode cX8_jointly 242 = .ok (.iconst 5, 1) := by decide +kernel
theorem dX8_jointly_243 : decode cX8_jointly 243 = .ok (.idiv, 1) := by decide +kernel
theorem dX8_jointly_244 : decode cX8_jointly 244 = .ok (.invokevirtual 73, 3) := by decide +kernel
theorem dX8_jointly_247 : decode cX8_jointly 247 = .ok (.istore_n 2, 1) := by decide +kernel
theorem dX8_jointly_248 : decode cX8_jointly 248 = .ok (.aload_n 0, 1) := by decide +kernel
theorem dX8_jointly_249 : decode cX8_jointly 249 = .ok (.getfield 62, 3) := by decide +kernel
theorem dX8_jointly_252 : decode cX8_jointly 252 = .ok (.iconst 2, 1) := by decide +kernel
theorem dX8_jointly_253 : decode cX8_jointly 253 = .ok (.if_icmp .ne 15, 3) := by decide +kernel
theorem dX8_jointly_256 : decode cX8_jointly 256 = .ok (.aload_n 0, 1) := by decide +kernel
theorem dX8_jointly_257 : decode cX8_jointly 257 = .ok (.iload_n 3, 1) := by decide +kernel
theorem dX8_jointly_258 : decode cX8_jointly 258 = .ok (.iload 4, 2) := by decide +kernel
theorem dX8_jointly_260 : decode cX8_jointly 260 = .ok (.iconst 5, 1) := by decide +kernel
theorem dX8_jointly_261 : decode cX8_jointly 261 = .ok (.irem, 1) := by decide +kernel
theorem dX8_jointly_262 : decode cX8_jointly 262 = .ok (.invokevirtual 73, 3) := by decide +kernel
theorem dX8_jointly_265 : decode cX8_jointly 265 = .ok (.goto 4, 3) := by decide +kernel
theorem dX8_jointly_268 : decode cX8_jointly 268 = .ok (.iload_n 3, 1) := by decide +kernel
theorem dX8_jointly_269 : decode cX8_jointly 269 = .ok (.istore_n 3, 1) := by decide +kernel
theorem dX8_jointly_270 : decode cX8_jointly 270 = .ok (.aload_n 0, 1) := by decide +kernel
theorem dX8_jointly_271 : decode cX8_jointly 271 = .ok (.dup, 1) := by decide +kernel
theorem dX8_jointly_272 : decode cX8_jointly 272 = .ok (.getfield 47, 3) := by decide +kernel
theorem dX8_jointly_275 : decode cX8_jointly 275 = .ok (.iconst 1, 1) := by decide +kernel
theorem dX8_jointly_276 : decode cX8_jointly 276 = .ok (.iadd, 1) := by decide +kernel
theorem dX8_jointly_277 : decode cX8_jointly 277 = .ok (.putfield 47, 3) := by decide +kernel
theorem dX8_jointly_280 : decode cX8_jointly 280 = .ok (.aload_n 0, 1) := by decide +kernel
theorem dX8_jointly_281 : decode cX8_jointly 281 = .ok (.getfield 50, 3) := by decide +kernel
theorem dX8_jointly_284 : decode cX8_jointly 284 = .ok (.aload_n 0, 1) := by decide +kernel
theorem dX8_jointly_285 : decode cX8_jointly 285 = .ok (.getfield 47, 3) := by decide +kernel
theorem dX8_jointly_288 : decode cX8_jointly 288 = .ok (.iload_n 2, 1) := by decide +kernel
theorem dX8_jointly_289 : decode cX8_jointly 289 = .ok (.iastore, 1) := by decide +kernel
theorem dX8_jointly_290 : decode cX8_jointly 290 = .ok (.aload_n 0, 1) := by decide +kernel
theorem dX8_jointly_291 : decode cX8_jointly 291 = .ok (.getfield 50, 3) := by decide +kernel
theorem dX8_jointly_294 : decode cX8_jointly 294 = .ok (.sipush 400, 3) := by decide +kernel
theorem dX8_jointly_297 : decode cX8_jointly 297 = .ok (.aload_n 0, 1) := by decide +kernel
theorem dX8_jointly_298 : decode cX8_jointly 298 = .ok (.getfield 47, 3) := by decide +kernel
theorem dX8_jointly_301 : decode cX8_jointly 301 = .ok (.iadd, 1) := by decide +kernel
theorem dX8_jointly_302 : decode cX8_jointly 302 = .ok (.iload_n 3, 1) := by decide +kernel
theorem dX8_jointly_303 : decode cX8_jointly 303 = .ok (.iastore, 1) := by decide +kernel
theorem dX8_jointly_304 : decode cX8_jointly 304 = .ok (.goto (-88), 3) := by decide +kernel
theorem dX8_jointly_307 : decode cX8_jointly 307 = .ok (.return_, 1) := by decide +kernel
theorem dX8_outside_0 : decode cX8_outside 0 = .ok (.aload_n 0, 1) := by decide +kernel
theorem dX8_outside_1 : decode cX8_outside 1 = .ok (.iload_n 1, 1) := by decide +kernel
theorem dX8_outside_2 : decode cX8_outside 2 = .ok (.bipush 6, 2) := by decide +kernel
theorem dX8_outside_4 : decode cX8_outside 4 = .ok (.irem, 1) := by decide +kernel
theorem dX8_outside_5 : decode cX8_outside 5 = .ok (.iload_n 1, 1) := by decide +kernel
theorem dX8_outside_6 : decode cX8_outside 6 = .ok (.bipush 6, 2) := by decide +kernel
theorem dX8_outside_8 : decode cX8_outside 8 = .ok (.idiv, 1) := by decide +kernel
theorem dX8_outside_9 : decode cX8_outside 9 = .ok (.invokevirtual 69, 3) := by decide +kernel
theorem dX8_outside_12 : decode cX8_outside 12 = .ok (.ifCond .ne 12, 3) := by decide +kernel
theorem dX8_outside_15 : decode cX8_outside 15 = .ok (.aload_n 0, 1) := by decide +kernel
theorem dX8_outside_16 : decode cX8_outside 16 = .ok (.getfield 19, 3) := by decide +kernel
theorem dX8_outside_19 : decode cX8_outside 19 = .ok (.iload_n 1, 1) := by decide +kernel
theorem dX8_outside_20 : decode cX8_outside 20 = .ok (.baload, 1) := by decide +kernel
theorem dX8_outside_21 : decode cX8_outside 21 = .ok (.ifCond .eq 7, 3) := by decide +kernel
theorem dX8_outside_24 : decode cX8_outside 24 = .ok (.iconst 1, 1) := by decide +kernel
theorem dX8_outside_25 : decode cX8_outside 25 = .ok (.goto 4, 3) := by decide +kernel
theorem dX8_outside_28 : decode cX8_outside 28 = .ok (.iconst 0, 1) := by decide +kernel
theorem dX8_outside_29 : decode cX8_outside 29 = .ok (.ireturn, 1) := by decide +kernel
theorem dX8_lower_0 : decode cX8_lower 0 = .ok (.aload_n 0, 1) := by decide +kernel
theorem dX8_lower_1 : decode cX8_lower 1 = .ok (.iload_n 1, 1) := by decide +kernel
theorem dX8_lower_2 : decode cX8_lower 2 = .ok (.invokevirtual 92, 3) := by decide +kernel
theorem dX8_lower_5 : decode cX8_lower 5 = .ok (.ifCond .ne 24, 3) := by decide +kernel
theorem dX8_lower_8 : decode cX8_lower 8 = .ok (.aload_n 0, 1) := by decide +kernel
theorem dX8_lower_9 : decode cX8_lower 9 = .ok (.getfield 62, 3) := by decide +kernel
theorem dX8_lower_12 : decode cX8_lower 12 = .ok (.iconst 2, 1) := by decide +kernel
theorem dX8_lower_13 : decode cX8_lower 13 = .ok (.if_icmp .ne 18, 3) := by decide +kernel
theorem dX8_lower_16 : decode cX8_lower 16 = .ok (.aload_n 0, 1) := by decide +kernel
theorem dX8_lower_17 : decode cX8_lower 17 = .ok (.iload_n 2, 1) := by decide +kernel
theorem dX8_lower_18 : decode cX8_lower 18 = .ok (.invokevirtual 92, 3) := by decide +kernel
theorem dX8_lower_21 : decode cX8_lower 21 = .ok (.ifCond .ne 8, 3) := by decide +kernel
theorem dX8_lower_24 : decode cX8_lower 24 = .ok (.iload_n 1, 1) := by decide +kernel
theorem dX8_lower_25 : decode cX8_lower 25 = .ok (.iload_n 2, 1) := by decide +kernel
theorem dX8_lower_26 : decode cX8_lower 26 = .ok (.if_icmp .ne 5, 3) := by decide +kernel
theorem dX8_lower_29 : decode cX8_lower 29 = .ok (.iconst 0, 1) := by decide +kernel
theorem dX8_lower_30 : decode cX8_lower 30 = .ok (.ireturn, 1) := by decide +kernel
theorem dX8_lower_31 : decode cX8_lower 31 = .ok (.iconst 0, 1) := by decide +kernel
theorem dX8_lower_32 : decode cX8_lower 32 = .ok (.istore_n 3, 1) := by decide +kernel
theorem dX8_lower_33 : decode cX8_lower 33 = .ok (.iconst 0, 1) := by decide +kernel
theorem dX8_lower_34 : decode cX8_lower 34 = .ok (.istore 4, 2) := by decide +kernel
theorem dX8_lower_36 : decode cX8_lower 36 = .ok (.iload 4, 2) := by decide +kernel
theorem dX8_lower_38 : decode cX8_lower 38 = .ok (.bipush 25, 2) := by decide +kernel
theorem dX8_lower_40 : decode cX8_lower 40 = .ok (.if_icmp .ge 56, 3) := by decide +kernel
theorem dX8_lower_43 : decode cX8_lower 43 = .ok (.aload_n 0, 1) := by decide +kernel
theorem dX8_lower_44 : decode cX8_lower 44 = .ok (.iload_n 1, 1) := by decide +kernel
theorem dX8_lower_45 : decode cX8_lower 45 = .ok (.iload_n 2, 1) := by decide +kernel
theorem dX8_lower_46 : decode cX8_lower 46 = .ok (.iload 4, 2) := by decide +kernel
theorem dX8_lower_48 : decode cX8_lower 48 = .ok (.iconst 5, 1) := by decide +kernel
theorem dX8_lower_49 : decode cX8_lower 49 = .ok (.idiv, 1) := by decide +kernel
theorem dX8_lower_50 : decode cX8_lower 50 = .ok (.iload 4, 2) := by decide +kernel
theorem dX8_lower_52 : decode cX8_lower 52 = .ok (.iconst 5, 1) := by decide +kernel
theorem dX8_lower_53 : decode cX8_lower 53 = .ok (.irem, 1) := by decide +kernel
theorem dX8_lower_54 : decode cX8_lower 54 = .ok (.invokevirtual 96, 3) := by decide +kernel
theorem dX8_lower_57 : decode cX8_lower 57 = .ok (.istore 5, 2) := by decide +kernel
theorem dX8_lower_59 : decode cX8_lower 59 = .ok (.iload 5, 2) := by decide +kernel
theorem dX8_lower_61 : decode cX8_lower 61 = .ok (.aload_n 0, 1) := by decide +kernel
theorem dX8_lower_62 : decode cX8_lower 62 = .ok (.getfield 59, 3) := by decide +kernel
theorem dX8_lower_65 : decode cX8_lower 65 = .ok (.bipush 36, 2) := by decide +kernel
theorem dX8_lower_67 : decode cX8_lower 67 = .ok (.iload_n 1, 1) := by decide +kernel
theorem dX8_lower_68 : decode cX8_lower 68 = .ok (.imul, 1) := by decide +kernel
theorem dX8_lower_69 : decode cX8_lower 69 = .ok (.iload_n 2, 1) := by decide +kernel
theorem dX8_lower_70 : decode cX8_lower 70 = .ok (.iadd, 1) := by decide +kernel
theorem dX8_lower_71 : decode cX8_lower 71 = .ok (.iaload, 1) := by decide +kernel
theorem dX8_lower_72 : decode cX8_lower 72 = .ok (.if_icmp .ge 18, 3) := by decide +kernel
theorem dX8_lower_75 : decode cX8_lower 75 = .ok (.aload_n 0, 1) := by decide +kernel
theorem dX8_lower_76 : decode cX8_lower 76 = .ok (.getfield 59, 3) := by decide +kernel
theorem dX8_lower_79 : decode cX8_lower 79 = .ok (.bipush 36, 2) := by decide +kernel
theorem dX8_lower_81 : decode cX8_lower 81 = .ok (.iload_n 1, 1) := by decide +kernel
theorem dX8_lower_82 : decode cX8_lower 82 = .ok (.imul, 1) := by decide +kernel
theorem dX8_lower_83 : decode cX8_lower 83 = .ok (.iload_n 2, 1) := by decide +kernel
theorem dX8_lower_84 : decode cX8_lower 84 = .ok (.iadd, 1) := by decide +kernel
theorem dX8_lower_85 : decode cX8_lower 85 = .ok (.iload 5, 2) := by decide +kernel
theorem dX8_lower_87 : decode cX8_lower 87 = .ok (.iastore, 1) := by decide +kernel
theorem dX8_lower_88 : decode cX8_lower 88 = .ok (.iconst 1, 1) := by decide +kernel
theorem dX8_lower_89 : decode cX8_lower 89 = .ok (.istore_n 3, 1) := by decide +kernel
theorem dX8_lower_90 : decode cX8_lower 90 = .ok (.iinc 4 1, 3) := by decide +kernel
theorem dX8_lower_93 : decode cX8_lower 93 = .ok (.goto (-57), 3) := by decide +kernel
theorem dX8_lower_96 : decode cX8_lower 96 = .ok (.iload_n 3, 1) := by decide +kernel
theorem dX8_lower_97 : decode cX8_lower 97 = .ok (.ireturn, 1) := by decide +kernel
theorem dX8_firstMove_0 : decode cX8_firstMove 0 = .ok (.iconst 0, 1) := by decide +kernel
theorem dX8_firstMove_1 : decode cX8_firstMove 1 = .ok (.istore_n 3, 1) := by decide +kernel
theorem dX8_firstMove_2 : decode cX8_firstMove 2 = .ok (.aload_n 0, 1) := by decide +kernel
theorem dX8_firstMove_3 : decode cX8_firstMove 3 = .ok (.iload_n 1, 1) := by decide +kernel
theorem dX8_firstMove_4 : decode cX8_firstMove 4 = .ok (.iload_n 2, 1) := by decide +kernel
theorem dX8_firstMove_5 : decode cX8_firstMove 5 = .ok (.iload_n 3, 1) := by decide +kernel
theorem dX8_firstMove_6 : decode cX8_firstMove 6 = .ok (.iconst 5, 1) := by decide +kernel
theorem dX8_firstMove_7 : decode cX8_firstMove 7 = .ok (.idiv, 1) := by decide +kernel
theorem dX8_firstMove_8 : decode cX8_firstMove 8 = .ok (.iload_n 3, 1) := by decide +kernel
theorem dX8_firstMove_9 : decode cX8_firstMove 9 = .ok (.iconst 5, 1) := by decide +kernel
theorem dX8_firstMove_10 : decode cX8_firstMove 10 = .ok (.irem, 1) := by decide +kernel
theorem dX8_firstMove_11 : decode cX8_firstMove 11 = .ok (.invokevirtual 96, 3) := by decide +kernel
theorem dX8_firstMove_14 : decode cX8_firstMove 14 = .ok (.aload_n 0, 1) := by decide +kernel
theorem dX8_firstMove_15 : decode cX8_firstMove 15 = .ok (.getfield 59, 3) := by decide +kernel
theorem dX8_firstMove_18 : decode cX8_firstMove 18 = .ok (.bipush 36, 2) := by decide +kernel
theorem dX8_firstMove_20 : decode cX8_firstMove 20 = .ok (.iload_n 1, 1) := by decide +kernel
theorem dX8_firstMove_21 : decode cX8_firstMove 21 = .ok (.imul, 1) := by decide +kernel
theorem dX8_firstMove_22 : decode cX8_firstMove 22 = .ok (.iload_n 2, 1) := by decide +kernel
theorem dX8_firstMove_23 : decode cX8_firstMove 23 = .ok (.iadd, 1) := by decide +kernel
theorem dX8_firstMove_24 : decode cX8_firstMove 24 = .ok (.iaload, 1) := by decide +kernel
theorem dX8_firstMove_25 : decode cX8_firstMove 25 = .ok (.if_icmp .eq 9, 3) := by decide +kernel
theorem dX8_firstMove_28 : decode cX8_firstMove 28 = .ok (.iinc 3 1, 3) := by decide +kernel
theorem dX8_firstMove_31 : decode cX8_firstMove 31 = .ok (.goto (-29), 3) := by decide +kernel
theorem dX8_firstMove_34 : decode cX8_firstMove 34 = .ok (.iload_n 3, 1) := by decide +kernel
theorem dX8_firstMove_35 : decode cX8_firstMove 35 = .ok (.ireturn, 1) := by decide +kernel
theorem dX8_open_0 : decode cX8_open 0 = .ok (.iconst 0, 1) := by decide +kernel
theorem dX8_open_1 : decode cX8_open 1 = .ok (.istore 5, 2) := by decide +kernel
theorem dX8_open_3 : decode cX8_open 3 = .ok (.iload 5, 2) := by decide +kernel
theorem dX8_open_5 : decode cX8_open 5 = .ok (.iload_n 1, 1) := by decide +kernel
theorem dX8_open_6 : decode cX8_open 6 = .ok (.if_icmp .ge 80, 3) := by decide +kernel
theorem dX8_open_9 : decode cX8_open 9 = .ok (.aload_n 0, 1) := by decide +kernel
theorem dX8_open_10 : decode cX8_open 10 = .ok (.getfield 53, 3) := by decide +kernel
theorem dX8_open_13 : decode cX8_open 13 = .ok (.sipush 160, 3) := by decide +kernel
theorem dX8_open_16 : decode cX8_open 16 = .ok (.aload_n 0, 1) := by decide +kernel
theorem dX8_open_17 : decode cX8_open 17 = .ok (.getfield 56, 3) := by decide +kernel
theorem dX8_open_20 : decode cX8_open 20 = .ok (.iload 5, 2) := by decide +kernel
theorem dX8_open_22 : decode cX8_open 22 = .ok (.iaload, 1) := by decide +kernel
theorem dX8_open_23 : decode cX8_open 23 = .ok (.imul, 1) := by decide +kernel
theorem dX8_open_24 : decode cX8_open 24 = .ok (.iload_n 2, 1) := by decide +kernel
theorem dX8_open_25 : decode cX8_open 25 = .ok (.iadd, 1) := by decide +kernel
theorem dX8_open_26 : decode cX8_open 26 = .ok (.iaload, 1) := by decide +kernel
theorem dX8_open_27 : decode cX8_open 27 = .ok (.istore 6, 2) := by decide +kernel
theorem dX8_open_29 : decode cX8_open 29 = .ok (.aload_n 0, 1) := by decide +kernel
theorem dX8_open_30 : decode cX8_open 30 = .ok (.getfield 53, 3) := by decide +kernel
theorem dX8_open_33 : decode cX8_open 33 = .ok (.sipush 160, 3) := by decide +kernel
theorem dX8_open_36 : decode cX8_open 36 = .ok (.aload_n 0, 1) := by decide +kernel
theorem dX8_open_37 : decode cX8_open 37 = .ok (.getfield 56, 3) := by decide +kernel
theorem dX8_open_40 : decode cX8_open 40 = .ok (.iload 5, 2) := by decide +kernel
theorem dX8_open_42 : decode cX8_open 42 = .ok (.iaload, 1) := by decide +kernel
theorem dX8_open_43 : decode cX8_open 43 = .ok (.imul, 1) := by decide +kernel
theorem dX8_open_44 : decode cX8_open 44 = .ok (.iload_n 2, 1) := by decide +kernel
theorem dX8_open_45 : decode cX8_open 45 = .ok (.iadd, 1) := by decide +kernel
theorem dX8_open_46 : decode cX8_open 46 = .ok (.iconst 1, 1) := by decide +kernel
theorem dX8_open_47 : decode cX8_open 47 = .ok (.iadd, 1) := by decide +kernel
theorem dX8_open_48 : decode cX8_open 48 = .ok (.iaload, 1) := by decide +kernel
theorem dX8_open_49 : decode cX8_open 49 = .ok (.istore 7, 2) := by decide +kernel
theorem dX8_open_51 : decode cX8_open 51 = .ok (.iload 7, 2) := by decide +kernel
theorem dX8_open_53 : decode cX8_open 53 = .ok (.iload 4, 2) := by decide +kernel
theorem dX8_open_55 : decode cX8_open 55 = .ok (.if_icmp .eq 23, 3) := by decide +kernel
theorem dX8_open_58 : decode cX8_open 58 = .ok (.aload_n 0, 1) := by decide +kernel
theorem dX8_open_59 : decode cX8_open 59 = .ok (.getfield 30, 3) := by decide +kernel
theorem dX8_open_62 : decode cX8_open 62 = .ok (.ifCond .eq 18, 3) := by decide +kernel
theorem dX8_open_65 : decode cX8_open 65 = .ok (.iload 6, 2) := by decide +kernel
theorem dX8_open_67 : decode cX8_open 67 = .ok (.iload 4, 2) := by decide +kernel
theorem dX8_open_69 : decode cX8_open 69 = .ok (.if_icmp .ne 11, 3) := by decide +kernel
theorem dX8_open_72 : decode cX8_open 72 = .ok (.iload 7, 2) := by decide +kernel
theorem dX8_open_74 : decode cX8_open 74 = .ok (.iload_n 3, 1) := by decide +kernel
theorem dX8_open_75 : decode cX8_open 75 = .ok (.if_icmp .ne 5, 3) := by decide +kernel
theorem dX8_open_78 : decode cX8_open 78 = .ok (.iconst 0, 1) := by decide +kernel
theorem dX8_open_79 : decode cX8_open 79 = .ok (.ireturn, 1) := by decide +kernel
theorem dX8_open_80 : decode cX8_open 80 = .ok (.iinc 5 1, 3) := by decide +kernel
theorem dX8_open_83 : decode cX8_open 83 = .ok (.goto (-80), 3) := by decide +kernel
theorem dX8_open_86 : decode cX8_open 86 = .ok (.iconst 1, 1) := by decide +kernel
theorem dX8_open_87 : decode cX8_open 87 = .ok (.ireturn, 1) := by decide +kernel
theorem dX8_way_0 : decode cX8_way 0 = .ok (.aload_n 0, 1) := by decide +kernel
theorem dX8_way_1 : decode cX8_way 1 = .ok (.getfield 56, 3) := by decide +kernel
theorem dX8_way_4 : decode cX8_way 4 = .ok (.iload_n 1, 1) := by decide +kernel
theorem dX8_way_5 : decode cX8_way 5 = .ok (.iaload, 1) := by decide +kernel
theorem dX8_way_6 : decode cX8_way 6 = .ok (.istore_n 2, 1) := by decide +kernel
theorem dX8_way_7 : decode cX8_way 7 = .ok (.iconst 0, 1) := by decide +kernel
theorem dX8_way_8 : decode cX8_way 8 = .ok (.istore_n 3, 1) := by decide +kernel
theorem dX8_way_9 : decode cX8_way 9 = .ok (.iload_n 3, 1) := by decide +kernel
theorem dX8_way_10 : decode cX8_way 10 = .ok (.iload_n 1, 1) := by decide +kernel
theorem dX8_way_11 : decode cX8_way 11 = .ok (.if_icmp .ge 35, 3) := by decide +kernel
theorem dX8_way_14 : decode cX8_way 14 = .ok (.aload_n 0, 1) := by decide +kernel
theorem dX8_way_15 : decode cX8_way 15 = .ok (.getfield 53, 3) := by decide +kernel
theorem dX8_way_18 : decode cX8_way 18 = .ok (.sipush 160, 3) := by decide +kernel
theorem dX8_way_21 : decode cX8_way 21 = .ok (.aload_n 0, 1) := by decide +kernel
theorem dX8_way_22 : decode cX8_way 22 = .ok (.getfield 56, 3) := by decide +kernel
theorem dX8_way_25 : decode cX8_way 25 = .ok (.iload_n 3, 1) := by decide +kernel
theorem dX8_way_26 : decode cX8_way 26 = .ok (.iaload, 1) := by decide +kernel
theorem dX8_way_27 : decode cX8_way 27 = .ok (.imul, 1) := by decide +kernel
theorem dX8_way_28 : decode cX8_way 28 = .ok (.iaload, 1) := by decide +kernel
theorem dX8_way_29 : decode cX8_way 29 = .ok (.aload_n 0, 1) := by decide +kernel
theorem dX8_way_30 : decode cX8_way 30 = .ok (.getfield 23, 3) := by decide +kernel
theorem dX8_way_33 : decode cX8_way 33 = .ok (.iload_n 2, 1) := by decide +kernel
theorem dX8_way_34 : decode cX8_way 34 = .ok (.iaload, 1) := by decide +kernel
theorem dX8_way_35 : decode cX8_way 35 = .ok (.if_icmp .ne 5, 3) := by decide +kernel
theorem dX8_way_38 : decode cX8_way 38 = .ok (.iconst 0, 1) := by decide +kernel
theorem dX8_way_39 : decode cX8_way 39 = .ok (.ireturn, 1) := by decide +kernel
theorem dX8_way_40 : decode cX8_way 40 = .ok (.iinc 3 1, 3) := by decide +kernel
theorem dX8_way_43 : decode cX8_way 43 = .ok (.goto (-34), 3) := by decide +kernel
theorem dX8_way_46 : decode cX8_way 46 = .ok (.bipush 40, 2) := by decide +kernel
theorem dX8_way_48 : decode cX8_way 48 = .ok (.istore_n 3, 1) := by decide +kernel
theorem dX8_way_49 : decode cX8_way 49 = .ok (.iload_n 3, 1) := by decide +kernel
theorem dX8_way_50 : decode cX8_way 50 = .ok (.ifCond .lt 140, 3) := by decide +kernel
theorem dX8_way_53 : decode cX8_way 53 = .ok (.iconst 0, 1) := by decide +kernel
theorem dX8_way_54 : decode cX8_way 54 = .ok (.istore 4, 2) := by decide +kernel
theorem dX8_way_56 : decode cX8_way 56 = .ok (.iload 4, 2) := by decide +kernel
theorem dX8_way_58 : decode cX8_way 58 = .ok (.bipush 36, 2) := by decide +kernel
theorem dX8_way_60 : decode cX8_way 60 = .ok (.if_icmp .ge 44, 3) := by decide +kernel
theorem dX8_way_63 : decode cX8_way 63 = .ok (.aload_n 0, 1) := by decide +kernel
theorem dX8_way_64 : decode cX8_way 64 = .ok (.getfield 59, 3) := by decide +kernel
theorem dX8_way_67 : decode cX8_way 67 = .ok (.bipush 36, 2) := by decide +kernel
theorem dX8_way_69 : decode cX8_way 69 = .ok (.iload_n 3, 1) := by decide +kernel
theorem dX8_way_70 : decode cX8_way 70 = .ok (.imul, 1) := by decide +kernel
theorem dX8_way_71 : decode cX8_way 71 = .ok (.iload 4, 2) := by decide +kernel
theorem dX8_way_73 : decode cX8_way 73 = .ok (.iadd, 1) := by decide +kernel
theorem dX8_way_74 : decode cX8_way 74 = .ok (.iload_n 3, 1) := by decide +kernel
theorem dX8_way_75 : decode cX8_way 75 = .ok (.bipush 40, 2) := by decide +kernel
theorem dX8_way_77 : decode cX8_way 77 = .ok (.if_icmp .ne 18, 3) := by decide +kernel
theorem dX8_way_80 : decode cX8_way 80 = .ok (.iload 4, 2) := by decide +kernel
theorem dX8_way_82 : decode cX8_way 82 = .ok (.aload_n 0, 1) := by decide +kernel
theorem dX8_way_83 : decode cX8_way 83 = .ok (.getfield 27, 3) := by decide +kernel
theorem dX8_way_86 : decode cX8_way 86 = .ok (.iload_n 2, 1) := by decide +kernel
theorem dX8_way_87 : decode cX8_way 87 = .ok (.iaload, 1) := by decide +kernel
theorem dX8_way_88 : decode cX8_way 88 = .ok (.if_icmp .ne 7, 3) := by decide +kernel
theorem dX8_way_91 : decode cX8_way 91 = .ok (.iconst 0, 1) := by decide +kernel
theorem dX8_way_92 : decode cX8_way 92 = .ok (.goto 5, 3) := by decide +kernel
theorem dX8_way_95 : decode cX8_way 95 = .ok (.ldc 77, 2) := by decide +kernel
theorem dX8_way_97 : decode cX8_way 97 = .ok (.iastore, 1) := by decide +kernel
theorem dX8_way_98 : decode cX8_way 98 = .ok (.iinc 4 1, 3) := by decide +kernel
theorem dX8_way_101 : decode cX8_way 101 = .ok (.goto (-45), 3) := by decide +kernel
theorem dX8_way_104 : decode cX8_way 104 = .ok (.iconst 0, 1) := by decide +kernel
theorem dX8_way_105 : decode cX8_way 105 = .ok (.istore 4, 2) := by decide +kernel
theorem dX8_way_107 : decode cX8_way 107 = .ok (.iload 4, 2) := by decide +kernel
theorem dX8_way_109 : decode cX8_way 109 = .ok (.bipush 36, 2) := by decide +kernel
theorem dX8_way_111 : decode cX8_way 111 = .ok (.if_icmp .ge 73, 3) := by decide +kernel
theorem dX8_way_114 : decode cX8_way 114 = .ok (.iload_n 3, 1) := by decide +kernel
theorem dX8_way_115 : decode cX8_way 115 = .ok (.bipush 40, 2) := by decide +kernel
theorem dX8_way_117 : decode cX8_way 117 = .ok (.if_icmp .ge 67, 3) := by decide +kernel
theorem dX8_way_120 : decode cX8_way 120 = .ok (.iconst 0, 1) := by decide +kernel
theorem dX8_way_121 : decode cX8_way 121 = .ok (.istore 5, 2) := by decide +kernel
theorem dX8_way_123 : decode cX8_way 123 = .ok (.iload 5, 2) := by decide +kernel
theorem dX8_way_125 : decode cX8_way 125 = .ok (.iconst 5, 1) := by decide +kernel
theorem dX8_way_126 : decode cX8_way 126 = .ok (.if_icmp .ge 52, 3) := by decide +kernel
theorem dX8_way_129 : decode cX8_way 129 = .ok (.aload_n 0, 1) := by decide +kernel
theorem dX8_way_130 : decode cX8_way 130 = .ok (.iload_n 1, 1) := by decide +kernel
theorem dX8_way_131 : decode cX8_way 131 = .ok (.iload_n 3, 1) := by decide +kernel
theorem dX8_way_132 : decode cX8_way 132 = .ok (.iload 4, 2) := by decide +kernel
theorem dX8_way_134 : decode cX8_way 134 = .ok (.iload 5, 2) := by decide +kernel
theorem dX8_way_136 : decode cX8_way 136 = .ok (.invokevirtual 100, 3) := by decide +kernel
theorem dX8_way_139 : decode cX8_way 139 = .ok (.istore 6, 2) := by decide +kernel
theorem dX8_way_141 : decode cX8_way 141 = .ok (.iload 6, 2) := by decide +kernel
theorem dX8_way_143 : decode cX8_way 143 = .ok (.aload_n 0, 1) := by decide +kernel
theorem dX8_way_144 : decode cX8_way 144 = .ok (.getfield 59, 3) := by decide +kernel
theorem dX8_way_147 : decode cX8_way 147 = .ok (.bipush 36, 2) := by decide +kernel
theorem dX8_way_149 : decode cX8_way 149 = .ok (.iload_n 3, 1) := by decide +kernel
theorem dX8_way_150 : decode cX8_way 150 = .ok (.imul, 1) := by decide +kernel
theorem dX8_way_151 : decode cX8_way 151 = .ok (.iload 4, 2) := by decide +kernel
theorem dX8_way_153 : decode cX8_way 153 = .ok (.iadd, 1) := by decide +kernel
theorem dX8_way_154 : decode cX8_way 154 = .ok (.iaload, 1) := by decide +kernel
theorem dX8_way_155 : decode cX8_way 155 = .ok (.if_icmp .ge 17, 3) := by decide +kernel
theorem dX8_way_158 : decode cX8_way 158 = .ok (.aload_n 0, 1) := by decide +kernel
theorem dX8_way_159 : decode cX8_way 159 = .ok (.getfield 59, 3) := by decide +kernel
theorem dX8_way_162 : decode cX8_way 162 = .ok (.bipush 36, 2) := by decide +kernel
theorem dX8_way_164 : decode cX8_way 164 = .ok (.iload_n 3, 1) := by decide +kernel
theorem dX8_way_165 : decode cX8_way 165 = .ok (.imul, 1) := by decide +kernel
theorem dX8_way_166 : decode cX8_way 166 = .ok (.iload 4, 2) := by decide +kernel
theorem dX8_way_168 : decode cX8_way 168 = .ok (.iadd, 1) := by decide +kernel
theorem dX8_way_169 : decode cX8_way 169 = .ok (.iload 6, 2) := by decide +kernel
theorem dX8_way_171 : decode cX8_way 171 = .ok (.iastore, 1) := by decide +kernel
theorem dX8_way_172 : decode cX8_way 172 = .ok (.iinc 5 1, 3) := by decide +kernel
theorem dX8_way_175 : decode cX8_way 175 = .ok (.goto (-52), 3) := by decide +kernel
theorem dX8_way_178 : decode cX8_way 178 = .ok (.iinc 4 1, 3) := by decide +kernel
theorem dX8_way_181 : decode cX8_way 181 = .ok (.goto (-74), 3) := by decide +kernel
theorem dX8_way_184 : decode cX8_way 184 = .ok (.iinc 3 (-1), 3) := by decide +kernel
theorem dX8_way_187 : decode cX8_way 187 = .ok (.goto (-138), 3) := by decide +kernel
theorem dX8_way_190 : decode cX8_way 190 = .ok (.aload_n 0, 1) := by decide +kernel
theorem dX8_way_191 : decode cX8_way 191 = .ok (.getfield 23, 3) := by decide +kernel
theorem dX8_way_194 : decode cX8_way 194 = .ok (.iload_n 2, 1) := by decide +kernel
theorem dX8_way_195 : decode cX8_way 195 = .ok (.iaload, 1) := by decide +kernel
theorem dX8_way_196 : decode cX8_way 196 = .ok (.istore_n 3, 1) := by decide +kernel
theorem dX8_way_197 : decode cX8_way 197 = .ok (.aload_n 0, 1) := by decide +kernel
theorem dX8_way_198 : decode cX8_way 198 = .ok (.getfield 59, 3) := by decide +kernel
theorem dX8_way_201 : decode cX8_way 201 = .ok (.iload_n 3, 1) := by decide +kernel
theorem dX8_way_202 : decode cX8_way 202 = .ok (.iaload, 1) := by decide +kernel
theorem dX8_way_203 : decode cX8_way 203 = .ok (.ldc 77, 2) := by decide +kernel
theorem dX8_way_205 : decode cX8_way 205 = .ok (.if_icmp .lt 5, 3) := by decide +kernel
theorem dX8_way_208 : decode cX8_way 208 = .ok (.iconst 0, 1) := by decide +kernel
theorem dX8_way_209 : decode cX8_way 209 = .ok (.ireturn, 1) := by decide +kernel
theorem dX8_way_210 : decode cX8_way 210 = .ok (.aload_n 0, 1) := by decide +kernel
theorem dX8_way_211 : decode cX8_way 211 = .ok (.getfield 53, 3) := by decide +kernel
theorem dX8_way_214 : decode cX8_way 214 = .ok (.sipush 160, 3) := by decide +kernel
theorem dX8_way_217 : decode cX8_way 217 = .ok (.iload_n 2, 1) := by decide +kernel
theorem dX8_way_218 : decode cX8_way 218 = .ok (.imul, 1) := by decide +kernel
theorem dX8_way_219 : decode cX8_way 219 = .ok (.iload_n 3, 1) := by decide +kernel
theorem dX8_way_220 : decode cX8_way 220 = .ok (.iastore, 1) := by decide +kernel
theorem dX8_way_221 : decode cX8_way 221 = .ok (.iconst 0, 1) := by decide +kernel
theorem dX8_way_222 : decode cX8_way 222 = .ok (.istore 4, 2) := by decide +kernel
theorem dX8_way_224 : decode cX8_way 224 = .ok (.iload 4, 2) := by decide +kernel
theorem dX8_way_226 : decode cX8_way 226 = .ok (.bipush 40, 2) := by decide +kernel
theorem dX8_way_228 : decode cX8_way 228 = .ok (.if_icmp .ge 67, 3) := by decide +kernel
theorem dX8_way_231 : decode cX8_way 231 = .ok (.iconst 0, 1) := by decide +kernel
theorem dX8_way_232 : decode cX8_way 232 = .ok (.istore 5, 2) := by decide +kernel
theorem dX8_way_234 : decode cX8_way 234 = .ok (.aload_n 0, 1) := by decide +kernel
theorem dX8_way_235 : decode cX8_way 235 = .ok (.iload_n 1, 1) := by decide +kernel
theorem dX8_way_236 : decode cX8_way 236 = .ok (.iload 4, 2) := by decide +kernel
theorem dX8_way_238 : decode cX8_way 238 = .ok (.iload_n 3, 1) := by decide +kernel
theorem dX8_way_239 : decode cX8_way 239 = .ok (.iload 5, 2) := by decide +kernel
theorem dX8_way_241 : decode cX8_way 241 = .ok (.invokevirtual 100, 3) := by decide +kernel
theorem dX8_way_244 : decode cX8_way 244 = .ok (.aload_n 0, 1) := by decide +kernel
theorem dX8_way_245 : decode cX8_way 245 = .ok (.getfield 59, 3) := by decide +kernel
theorem dX8_way_248 : decode cX8_way 248 = .ok (.bipush 36, 2) := by decide +kernel
theorem dX8_way_250 : decode cX8_way 250 = .ok (.iload 4, 2) := by decide +kernel
theorem dX8_way_252 : decode cX8_way 252 = .ok (.imul, 1) := by decide +kernel
theorem dX8_way_253 : decode cX8_way 253 = .ok (.iload_n 3, 1) := by decide +kernel
theorem dX8_way_254 : decode cX8_way 254 = .ok (.iadd, 1) := by decide +kernel
theorem dX8_way_255 : decode cX8_way 255 = .ok (.iaload, 1) := by decide +kernel
theorem dX8_way_256 : decode cX8_way 256 = .ok (.if_icmp .eq 9, 3) := by decide +kernel
theorem dX8_way_259 : decode cX8_way 259 = .ok (.iinc 5 1, 3) := by decide +kernel
theorem dX8_way_262 : decode cX8_way 262 = .ok (.goto (-28), 3) := by decide +kernel
theorem dX8_way_265 : decode cX8_way 265 = .ok (.aload_n 0, 1) := by decide +kernel
theorem dX8_way_266 : decode cX8_way 266 = .ok (.iload_n 3, 1) := by decide +kernel
theorem dX8_way_267 : decode cX8_way 267 = .ok (.iload 5, 2) := by decide +kernel
theorem dX8_way_269 : decode cX8_way 269 = .ok (.invokevirtual 73, 3) := by decide +kernel
theorem dX8_way_272 : decode cX8_way 272 = .ok (.istore_n 3, 1) := by decide +kernel
theorem dX8_way_273 : decode cX8_way 273 = .ok (.aload_n 0, 1) := by decide +kernel
theorem dX8_way_274 : decode cX8_way 274 = .ok (.getfield 53, 3) := by decide +kernel
theorem dX8_way_277 : decode cX8_way 277 = .ok (.sipush 160, 3) := by decide +kernel
theorem dX8_way_280 : decode cX8_way 280 = .ok (.iload_n 2, 1) := by decide +kernel
theorem dX8_way_281 : decode cX8_way 281 = .ok (.imul, 1) := by decide +kernel
theorem dX8_way_282 : decode cX8_way 282 = .ok (.iload 4, 2) := by decide +kernel
theorem dX8_way_284 : decode cX8_way 284 = .ok (.iadd, 1) := by decide +kernel
theorem dX8_way_285 : decode cX8_way 285 = .ok (.iconst 1, 1) := by decide +kernel
theorem dX8_way_286 : decode cX8_way 286 = .ok (.iadd, 1) := by decide +kernel
theorem dX8_way_287 : decode cX8_way 287 = .ok (.iload_n 3, 1) := by decide +kernel
theorem dX8_way_288 : decode cX8_way 288 = .ok (.iastore, 1) := by decide +kernel
theorem dX8_way_289 : decode cX8_way 289 = .ok (.iinc 4 1, 3) := by decide +kernel
theorem dX8_way_292 : decode cX8_way 292 = .ok (.goto (-68), 3) := by decide +kernel
theorem dX8_way_295 : decode cX8_way 295 = .ok (.iconst 1, 1) := by decide +kernel
theorem dX8_way_296 : decode cX8_way 296 = .ok (.ireturn, 1) := by decide +kernel
theorem dX8_step_0 : decode cX8_step 0 = .ok (.aload_n 0, 1) := by decide +kernel
theorem dX8_step_1 : decode cX8_step 1 = .ok (.iload_n 3, 1) := by decide +kernel
theorem dX8_step_2 : decode cX8_step 2 = .ok (.invokevirtual 92, 3) := by decide +kernel
theorem dX8_step_5 : decode cX8_step 5 = .ok (.ifCond .eq 6, 3) := by decide +kernel
theorem dX8_step_8 : decode cX8_step 8 = .ok (.ldc 77, 2) := by decide +kernel
theorem dX8_step_10 : decode cX8_step 10 = .ok (.ireturn, 1) := by decide +kernel
theorem dX8_step_11 : decode cX8_step 11 = .ok (.aload_n 0, 1) := by decide +kernel
theorem dX8_step_12 : decode cX8_step 12 = .ok (.iload_n 3, 1) := by decide +kernel
theorem dX8_step_13 : decode cX8_step 13 = .ok (.iload 4, 2) := by decide +kernel
theorem dX8_step_15 : decode cX8_step 15 = .ok (.invokevirtual 73, 3) := by decide +kernel
theorem dX8_step_18 : decode cX8_step 18 = .ok (.istore 5, 2) := by decide +kernel
theorem dX8_step_20 : decode cX8_step 20 = .ok (.iload 5, 2) := by decide +kernel
theorem dX8_step_22 : decode cX8_step 22 = .ok (.ifCond .lt 15, 3) := by decide +kernel
theorem dX8_step_25 : decode cX8_step 25 = .ok (.aload_n 0, 1) := by decide +kernel
theorem dX8_step_26 : decode cX8_step 26 = .ok (.iload_n 1, 1) := by decide +kernel
theorem dX8_step_27 : decode cX8_step 27 = .ok (.iload_n 2, 1) := by decide +kernel
theorem dX8_step_28 : decode cX8_step 28 = .ok (.iload_n 3, 1) := by decide +kernel
theorem dX8_step_29 : decode cX8_step 29 = .ok (.iload 5, 2) := by decide +kernel
theorem dX8_step_31 : decode cX8_step 31 = .ok (.invokevirtual 103, 3) := by decide +kernel
theorem dX8_step_34 : decode cX8_step 34 = .ok (.ifCond .ne 6, 3) := by decide +kernel
theorem dX8_step_37 : decode cX8_step 37 = .ok (.ldc 77, 2) := by decide +kernel
theorem dX8_step_39 : decode cX8_step 39 = .ok (.ireturn, 1) := by decide +kernel
theorem dX8_step_40 : decode cX8_step 40 = .ok (.aload_n 0, 1) := by decide +kernel
theorem dX8_step_41 : decode cX8_step 41 = .ok (.getfield 59, 3) := by decide +kernel
theorem dX8_step_44 : decode cX8_step 44 = .ok (.bipush 36, 2) := by decide +kernel
theorem dX8_step_46 : decode cX8_step 46 = .ok (.iload_n 2, 1) := by decide +kernel
theorem dX8_step_47 : decode cX8_step 47 = .ok (.imul, 1) := by decide +kernel
theorem dX8_step_48 : decode cX8_step 48 = .ok (.bipush 36, 2) := by decide +kernel
theorem dX8_step_50 : decode cX8_step 50 = .ok (.iadd, 1) := by decide +kernel
theorem dX8_step_51 : decode cX8_step 51 = .ok (.iload 5, 2) := by decide +kernel
theorem dX8_step_53 : decode cX8_step 53 = .ok (.iadd, 1) := by decide +kernel
theorem dX8_step_54 : decode cX8_step 54 = .ok (.iaload, 1) := by decide +kernel
theorem dX8_step_55 : decode cX8_step 55 = .ok (.istore 6, 2) := by decide +kernel
theorem dX8_step_57 : decode cX8_step 57 = .ok (.iload 6, 2) := by decide +kernel
theorem dX8_step_59 : decode cX8_step 59 = .ok (.ldc 77, 2) := by decide +kernel
theorem dX8_step_61 : decode cX8_step 61 = .ok (.if_icmp .lt 8, 3) := by decide +kernel
theorem dX8_step_64 : decode cX8_step 64 = .ok (.ldc 77, 2) := by decide +kernel
theorem dX8_step_66 : decode cX8_step 66 = .ok (.goto 23, 3) := by decide +kernel
theorem dX8_step_69 : decode cX8_step 69 = .ok (.iload 6, 2) := by decide +kernel
theorem dX8_step_71 : decode cX8_step 71 = .ok (.iload_n 3, 1) := by decide +kernel
theorem dX8_step_72 : decode cX8_step 72 = .ok (.iload 5, 2) := by decide +kernel
theorem dX8_step_74 : decode cX8_step 74 = .ok (.aload_n 0, 1) := by decide +kernel
theorem dX8_step_75 : decode cX8_step 75 = .ok (.getfield 27, 3) := by decide +kernel
theorem dX8_step_78 : decode cX8_step 78 = .ok (.aload_n 0, 1) := by decide +kernel
theorem dX8_step_79 : decode cX8_step 79 = .ok (.getfield 56, 3) := by decide +kernel
theorem dX8_step_82 : decode cX8_step 82 = .ok (.iload_n 1, 1) := by decide +kernel
theorem dX8_step_83 : decode cX8_step 83 = .ok (.iaload, 1) := by decide +kernel
theorem dX8_step_84 : decode cX8_step 84 = .ok (.iaload, 1) := by decide +kernel
theorem dX8_step_85 : decode cX8_step 85 = .ok (.invokestatic 82, 3) := by decide +kernel
theorem dX8_step_88 : decode cX8_step 88 = .ok (.iadd, 1) := by decide +kernel
theorem dX8_step_89 : decode cX8_step 89 = .ok (.ireturn, 1) := by decide +kernel
theorem dX8_ways_0 : decode cX8_ways 0 = .ok (.iconst 0, 1) := by decide +kernel
theorem dX8_ways_1 : decode cX8_ways 1 = .ok (.istore_n 1, 1) := by decide +kernel
theorem dX8_ways_2 : decode cX8_ways 2 = .ok (.iconst 0, 1) := by decide +kernel
theorem dX8_ways_3 : decode cX8_ways 3 = .ok (.istore_n 2, 1) := by decide +kernel
theorem dX8_ways_4 : decode cX8_ways 4 = .ok (.iload_n 2, 1) := by decide +kernel
theorem dX8_ways_5 : decode cX8_ways 5 = .ok (.aload_n 0, 1) := by decide +kernel
theorem dX8_ways_6 : decode cX8_ways 6 = .ok (.getfield 62, 3) := by decide +kernel
theorem dX8_ways_9 : decode cX8_ways 9 = .ok (.if_icmp .ge 38, 3) := by decide +kernel
theorem dX8_ways_12 : decode cX8_ways 12 = .ok (.aload_n 0, 1) := by decide +kernel
theorem dX8_ways_13 : decode cX8_ways 13 = .ok (.iload_n 2, 1) := by decide +kernel
theorem dX8_ways_14 : decode cX8_ways 14 = .ok (.invokevirtual 107, 3) := by decide +kernel
theorem dX8_ways_17 : decode cX8_ways 17 = .ok (.ifCond .ne 5, 3) := by decide +kernel
theorem dX8_ways_20 : decode cX8_ways 20 = .ok (.iconst (-1), 1) := by decide +kernel
theorem dX8_ways_21 : decode cX8_ways 21 = .ok (.ireturn, 1) := by decide +kernel
theorem dX8_ways_22 : decode cX8_ways 22 = .ok (.iload_n 1, 1) := by decide +kernel
theorem dX8_ways_23 : decode cX8_ways 23 = .ok (.aload_n 0, 1) := by decide +kernel
theorem dX8_ways_24 : decode cX8_ways 24 = .ok (.getfield 59, 3) := by decide +kernel
theorem dX8_ways_27 : decode cX8_ways 27 = .ok (.aload_n 0, 1) := by decide +kernel
theorem dX8_ways_28 : decode cX8_ways 28 = .ok (.getfield 23, 3) := by decide +kernel
theorem dX8_ways_31 : decode cX8_ways 31 = .ok (.aload_n 0, 1) := by decide +kernel
theorem dX8_ways_32 : decode cX8_ways 32 = .ok (.getfield 56, 3) := by decide +kernel
theorem dX8_ways_35 : decode cX8_ways 35 = .ok (.iload_n 2, 1) := by decide +kernel
theorem dX8_ways_36 : decode cX8_ways 36 = .ok (.iaload, 1) := by decide +kernel
theorem dX8_ways_37 : decode cX8_ways 37 = .ok (.iaload, 1) := by decide +kernel
theorem dX8_ways_38 : decode cX8_ways 38 = .ok (.iaload, 1) := by decide +kernel
theorem dX8_ways_39 : decode cX8_ways 39 = .ok (.iadd, 1) := by decide +kernel
theorem dX8_ways_40 : decode cX8_ways 40 = .ok (.istore_n 1, 1) := by decide +kernel
theorem dX8_ways_41 : decode cX8_ways 41 = .ok (.iinc 2 1, 3) := by decide +kernel
theorem dX8_ways_44 : decode cX8_ways 44 = .ok (.goto (-40), 3) := by decide +kernel
theorem dX8_ways_47 : decode cX8_ways 47 = .ok (.iload_n 1, 1) := by decide +kernel
theorem dX8_ways_48 : decode cX8_ways 48 = .ok (.ireturn, 1) := by decide +kernel
theorem dX8_draw_0 : decode cX8_draw 0 = .ok (.iconst 1, 1) := by decide +kernel
theorem dX8_draw_1 : decode cX8_draw 1 = .ok (.istore_n 1, 1) := by decide +kernel
theorem dX8_draw_2 : decode cX8_draw 2 = .ok (.iload_n 1, 1) := by decide +kernel
theorem dX8_draw_3 : decode cX8_draw 3 = .ok (.aload_n 0, 1) := by decide +kernel
theorem dX8_draw_4 : decode cX8_draw 4 = .ok (.getfield 62, 3) := by decide +kernel
theorem dX8_draw_7 : decode cX8_draw 7 = .ok (.if_icmp .ge 70, 3) := by decide +kernel
theorem dX8_draw_10 : decode cX8_draw 10 = .ok (.aload_n 0, 1) := by decide +kernel
theorem dX8_draw_11 : decode cX8_draw 11 = .ok (.aload_n 0, 1) := by decide +kernel
theorem dX8_draw_12 : decode cX8_draw 12 = .ok (.getfield 34, 3) := by decide +kernel
theorem dX8_draw_15 : decode cX8_draw 15 = .ok (.ldc2_w 110, 3) := by decide +kernel
theorem dX8_draw_18 : decode cX8_draw 18 = .ok (.lmul, 1) := by decide +kernel
theorem dX8_draw_19 : decode cX8_draw 19 = .ok (.ldc2_w 112, 3) := by decide +kernel
theorem dX8_draw_22 : decode cX8_draw 22 = .ok (.ladd, 1) := by decide +kernel
theorem dX8_draw_23 : decode cX8_draw 23 = .ok (.ldc2_w 114, 3) := by decide +kernel
theorem dX8_draw_26 : decode cX8_draw 26 = .ok (.lrem, 1) := by decide +kernel
theorem dX8_draw_27 : decode cX8_draw 27 = .ok (.putfield 34, 3) := by decide +kernel
theorem dX8_draw_30 : decode cX8_draw 30 = .ok (.aload_n 0, 1) := by decide +kernel
theorem dX8_draw_31 : decode cX8_draw 31 = .ok (.getfield 34, 3) := by decide +kernel
theorem dX8_draw_34 : decode cX8_draw 34 = .ok (.ldc2_w 116, 3) := by decide +kernel
theorem dX8_draw_37 : decode cX8_draw 37 = .ok (.ldiv, 1) := by decide +kernel
theorem dX8_draw_38 : decode cX8_draw 38 = .ok (.iload_n 1, 1) := by decide +kernel
theorem dX8_draw_39 : decode cX8_draw 39 = .ok (.iconst 1, 1) := by decide +kernel
theorem dX8_draw_40 : decode cX8_draw 40 = .ok (.iadd, 1) := by decide +kernel
theorem dX8_draw_41 : decode cX8_draw 41 = .ok (.i2l, 1) := by decide +kernel
theorem dX8_draw_42 : decode cX8_draw 42 = .ok (.lrem, 1) := by decide +kernel
theorem dX8_draw_43 : decode cX8_draw 43 = .ok (.l2i, 1) := by decide +kernel
theorem dX8_draw_44 : decode cX8_draw 44 = .ok (.istore_n 2, 1) := by decide +kernel
theorem dX8_draw_45 : decode cX8_draw 45 = .ok (.aload_n 0, 1) := by decide +kernel
theorem dX8_draw_46 : decode cX8_draw 46 = .ok (.getfield 56, 3) := by decide +kernel
theorem dX8_draw_49 : decode cX8_draw 49 = .ok (.iload_n 1, 1) := by decide +kernel
theorem dX8_draw_50 : decode cX8_draw 50 = .ok (.iaload, 1) := by decide +kernel
theorem dX8_draw_51 : decode cX8_draw 51 = .ok (.istore_n 3, 1) := by decide +kernel
theorem dX8_draw_52 : decode cX8_draw 52 = .ok (.aload_n 0, 1) := by decide +kernel
theorem dX8_draw_53 : decode cX8_draw 53 = .ok (.getfield 56, 3) := by decide +kernel
theorem dX8_draw_56 : decode cX8_draw 56 = .ok (.iload_n 1, 1) := by decide +kernel
theorem dX8_draw_57 : decode cX8_draw 57 = .ok (.aload_n 0, 1) := by decide +kernel
theorem dX8_draw_58 : decode cX8_draw 58 = .ok (.getfield 56, 3) := by decide +kernel
theorem dX8_draw_61 : decode cX8_draw 61 = .ok (.iload_n 2, 1) := by decide +kernel
theorem dX8_draw_62 : decode cX8_draw 62 = .ok (.iaload, 1) := by decide +kernel
theorem dX8_draw_63 : decode cX8_draw 63 = .ok (.iastore, 1) := by decide +kernel
theorem dX8_draw_64 : decode cX8_draw 64 = .ok (.aload_n 0, 1) := by decide +kernel
theorem dX8_draw_65 : decode cX8_draw 65 = .ok (.getfield 56, 3) := by decide +kernel
theorem dX8_draw_68 : decode cX8_draw 68 = .ok (.iload_n 2, 1) := by decide +kernel
theorem dX8_draw_69 : decode cX8_draw 69 = .ok (.iload_n 3, 1) := by decide +kernel
theorem dX8_draw_70 : decode cX8_draw 70 = .ok (.iastore, 1) := by decide +kernel
theorem dX8_draw_71 : decode cX8_draw 71 = .ok (.iinc 1 1, 3) := by decide +kernel
theorem dX8_draw_74 : decode cX8_draw 74 = .ok (.goto (-72), 3) := by decide +kernel
theorem dX8_draw_77 : decode cX8_draw 77 = .ok (.return_, 1) := by decide +kernel
theorem dX8_byPriorities_0 : decode cX8_byPriorities 0 = .ok (.aload_n 0, 1) := by decide +kernel
theorem dX8_byPriorities_1 : decode cX8_byPriorities 1 = .ok (.iconst 0, 1) := by decide +kernel
theorem dX8_byPriorities_2 : decode cX8_byPriorities 2 = .ok (.putfield 41, 3) := by decide +kernel
theorem dX8_byPriorities_5 : decode cX8_byPriorities 5 = .ok (.aload_n 0, 1) := by decide +kernel
theorem dX8_byPriorities_6 : decode cX8_byPriorities 6 = .ok (.iconst 0, 1) := by decide +kernel
theorem dX8_byPriorities_7 : decode cX8_byPriorities 7 = .ok (.putfield 38, 3) := by decide +kernel
theorem dX8_byPriorities_10 : decode cX8_byPriorities 10 = .ok (.iconst 0, 1) := by decide +kernel
theorem dX8_byPriorities_11 : decode cX8_byPriorities 11 = .ok (.istore_n 2, 1) := by decide +kernel
theorem dX8_byPriorities_12 : decode cX8_byPriorities 12 = .ok (.iload_n 2, 1) := by decide +kernel
theorem dX8_byPriorities_13 : decode cX8_byPriorities 13 = .ok (.iload_n 1, 1) := by decide +kernel
theorem dX8_byPriorities_14 : decode cX8_byPriorities 14 = .ok (.if_icmp .gt 171, 3) := by decide +kernel
theorem dX8_byPriorities_17 : decode cX8_byPriorities 17 = .ok (.iconst 0, 1) := by decide +kernel
theorem dX8_byPriorities_18 : decode cX8_byPriorities 18 = .ok (.istore_n 3, 1) := by decide +kernel
theorem dX8_byPriorities_19 : decode cX8_byPriorities 19 = .ok (.iload_n 3, 1) := by decide +kernel
theorem dX8_byPriorities_20 : decode cX8_byPriorities 20 = .ok (.iconst 4, 1) := by decide +kernel
theorem dX8_byPriorities_21 : decode cX8_byPriorities 21 = .ok (.if_icmp .ge 16, 3) := by decide +kernel
theorem dX8_byPriorities_24 : decode cX8_byPriorities 24 = .ok (.aload_n 0, 1) := by decide +kernel
theorem dX8_byPriorities_25 : decode cX8_byPriorities 25 = .ok (.getfield 56, 3) := by decide +kernel
theorem dX8_byPriorities_28 : decode cX8_byPriorities 28 = .ok (.iload_n 3, 1) := by decide +kernel
theorem dX8_byPriorities_29 : decode cX8_byPriorities 29 = .ok (.iload_n 3, 1) := by decide +kernel
theorem dX8_byPriorities_30 : decode cX8_byPriorities 30 = .ok (.iastore, 1) := by decide +kernel
theorem dX8_byPriorities_31 : decode cX8_byPriorities 31 = .ok (.iinc 3 1, 3) := by decide +kernel
theorem dX8_byPriorities_34 : decode cX8_byPriorities 34 = .ok (.goto (-15), 3) := by decide +kernel
theorem dX8_byPriorities_37 : decode cX8_byPriorities 37 = .ok (.iload_n 2, 1) := by decide +kernel
theorem dX8_byPriorities_38 : decode cX8_byPriorities 38 = .ok (.ifCond .le 7, 3) := by decide +kernel
theorem dX8_byPriorities_41 : decode cX8_byPriorities 41 = .ok (.aload_n 0, 1) := by decide +kernel
theorem dX8_byPriorities_42 : decode cX8_byPriorities 42 = .ok (.invokevirtual 118, 3) := by decide +kernel
theorem dX8_byPriorities_45 : decode cX8_byPriorities 45 = .ok (.aload_n 0, 1) := by decide +kernel
theorem dX8_byPriorities_46 : decode cX8_byPriorities 46 = .ok (.invokevirtual 121, 3) := by decide +kernel
theorem dX8_byPriorities_49 : decode cX8_byPriorities 49 = .ok (.istore_n 3, 1) := by decide +kernel
theorem dX8_byPriorities_50 : decode cX8_byPriorities 50 = .ok (.iload_n 3, 1) := by decide +kernel
theorem dX8_byPriorities_51 : decode cX8_byPriorities 51 = .ok (.ifCond .lt 128, 3) := by decide +kernel
theorem dX8_byPriorities_54 : decode cX8_byPriorities 54 = .ok (.aload_n 0, 1) := by decide +kernel
theorem dX8_byPriorities_55 : decode cX8_byPriorities 55 = .ok (.getfield 38, 3) := by decide +kernel
theorem dX8_byPriorities_58 : decode cX8_byPriorities 58 = .ok (.ifCond .eq 11, 3) := by decide +kernel
theorem dX8_byPriorities_61 : decode cX8_byPriorities 61 = .ok (.iload_n 3, 1) := by decide +kernel
theorem dX8_byPriorities_62 : decode cX8_byPriorities 62 = .ok (.aload_n 0, 1) := by decide +kernel
theorem dX8_byPriorities_63 : decode cX8_byPriorities 63 = .ok (.getfield 44, 3) := by decide +kernel
theorem dX8_byPriorities_66 : decode cX8_byPriorities 66 = .ok (.if_icmp .ge 113, 3) := by decide +kernel
theorem dX8_byPriorities_69 : decode cX8_byPriorities 69 = .ok (.aload_n 0, 1) := by decide +kernel
theorem dX8_byPriorities_70 : decode cX8_byPriorities 70 = .ok (.iconst 1, 1) := by decide +kernel
theorem dX8_byPriorities_71 : decode cX8_byPriorities 71 = .ok (.putfield 38, 3) := by decide +kernel
theorem dX8_byPriorities_74 : decode cX8_byPriorities 74 = .ok (.aload_n 0, 1) := by decide +kernel
theorem dX8_byPriorities_75 : decode cX8_byPriorities 75 = .ok (.iload_n 3, 1) := by decide +kernel
theorem dX8_byPriorities_76 : decode cX8_byPriorities 76 = .ok (.putfield 44, 3) := by decide +kernel
theorem dX8_byPriorities_79 : decode cX8_byPriorities 79 = .ok (.iconst 0, 1) := by decide +kernel
theorem dX8_byPriorities_80 : decode cX8_byPriorities 80 = .ok (.istore 4, 2) := by decide +kernel
theorem dX8_byPriorities_82 : decode cX8_byPriorities 82 = .ok (.iload 4, 2) := by decide +kernel
theorem dX8_byPriorities_84 : decode cX8_byPriorities 84 = .ok (.sipush 160, 3) := by decide +kernel
theorem dX8_byPriorities_87 : decode cX8_byPriorities 87 = .ok (.if_icmp .ge 49, 3) := by decide +kernel
theorem dX8_byPriorities_90 : decode cX8_byPriorities 90 = .ok (.aload_n 0, 1) := by decide +kernel
theorem dX8_byPriorities_91 : decode cX8_byPriorities 91 = .ok (.getfield 50, 3) := by decide +kernel
theorem dX8_byPriorities_94 : decode cX8_byPriorities 94 = .ok (.iload 4, 2) := by decide +kernel
theorem dX8_byPriorities_96 : decode cX8_byPriorities 96 = .ok (.bipush 40, 2) := by decide +kernel
theorem dX8_byPriorities_98 : decode cX8_byPriorities 98 = .ok (.idiv, 1) := by decide +kernel
theorem dX8_byPriorities_99 : decode cX8_byPriorities 99 = .ok (.sipush 400, 3) := by decide +kernel
theorem dX8_byPriorities_102 : decode cX8_byPriorities 102 = .ok (.imul, 1) := by decide +kernel
theorem dX8_byPriorities_103 : decode cX8_byPriorities 103 = .ok (.iload 4, 2) := by decide +kernel
theorem dX8_byPriorities_105 : decode cX8_byPriorities 105 = .ok (.bipush 40, 2) := by decide +kernel
theorem dX8_byPriorities_107 : decode cX8_byPriorities 107 = .ok (.irem, 1) := by decide +kernel
theorem dX8_byPriorities_108 : decode cX8_byPriorities 108 = .ok (.iadd, 1) := by decide +kernel
theorem dX8_byPriorities_109 : decode cX8_byPriorities 109 = .ok (.aload_n 0, 1) := by decide +kernel
theorem dX8_byPriorities_110 : decode cX8_byPriorities 110 = .ok (.getfield 53, 3) := by decide +kernel
theorem dX8_byPriorities_113 : decode cX8_byPriorities 113 = .ok (.iload 4, 2) := by decide +kernel
theorem dX8_byPriorities_115 : decode cX8_byPriorities 115 = .ok (.bipush 40, 2) := by decide +kernel
theorem dX8_byPriorities_117 : decode cX8_byPriorities 117 = .ok (.idiv, 1) := by decide +kernel
theorem dX8_byPriorities_118 : decode cX8_byPriorities 118 = .ok (.sipush 160, 3) := by decide +kernel
theorem dX8_byPriorities_121 : decode cX8_byPriorities 121 = .ok (.imul, 1) := by decide +kernel
theorem dX8_byPriorities_122 : decode cX8_byPriorities 122 = .ok (.iload 4, 2) := by decide +kernel
theorem dX8_byPriorities_124 : decode cX8_byPriorities 124 = .ok (.bipush 40, 2) := by decide +kernel
theorem dX8_byPriorities_126 : decode cX8_byPriorities 126 = .ok (.irem, 1) := by decide +kernel
theorem dX8_byPriorities_127 : decode cX8_byPriorities 127 = .ok (.iadd, 1) := by decide +kernel
theorem dX8_byPriorities_128 : decode cX8_byPriorities 128 = .ok (.iaload, 1) := by decide +kernel
theorem dX8_byPriorities_129 : decode cX8_byPriorities 129 = .ok (.iastore, 1) := by decide +kernel
theorem dX8_byPriorities_130 : decode cX8_byPriorities 130 = .ok (.iinc 4 1, 3) := by decide +kernel
theorem dX8_byPriorities_133 : decode cX8_byPriorities 133 = .ok (.goto (-51), 3) := by decide +kernel
theorem dX8_byPriorities_136 : decode cX8_byPriorities 136 = .ok (.iconst 0, 1) := by decide +kernel
theorem dX8_byPriorities_137 : decode cX8_byPriorities 137 = .ok (.istore 4, 2) := by decide +kernel
theorem dX8_byPriorities_139 : decode cX8_byPriorities 139 = .ok (.iload 4, 2) := by decide +kernel
theorem dX8_byPriorities_141 : decode cX8_byPriorities 141 = .ok (.iconst 4, 1) := by decide +kernel
theorem dX8_byPriorities_142 : decode cX8_byPriorities 142 = .ok (.if_icmp .ge 37, 3) := by decide +kernel
theorem dX8_byPriorities_145 : decode cX8_byPriorities 145 = .ok (.aload_n 0, 1) := by decide +kernel
theorem dX8_byPriorities_146 : decode cX8_byPriorities 146 = .ok (.getfield 50, 3) := by decide +kernel
theorem dX8_byPriorities_149 : decode cX8_byPriorities 149 = .ok (.sipush 400, 3) := by decide +kernel
theorem dX8_byPriorities_152 : decode cX8_byPriorities 152 = .ok (.iload 4, 2) := by decide +kernel
theorem dX8_byPriorities_154 : decode cX8_byPriorities 154 = .ok (.imul, 1) := by decide +kernel
theorem dX8_byPriorities_155 : decode cX8_byPriorities 155 = .ok (.bipush 40, 2) := by decide +kernel
theorem dX8_byPriorities_157 : decode cX8_byPriorities 157 = .ok (.iadd, 1) := by decide +kernel
theorem dX8_byPriorities_158 : decode cX8_byPriorities 158 = .ok (.aload_n 0, 1) := by decide +kernel
theorem dX8_byPriorities_159 : decode cX8_byPriorities 159 = .ok (.getfield 53, 3) := by decide +kernel
theorem dX8_byPriorities_162 : decode cX8_byPriorities 162 = .ok (.sipush 160, 3) := by decide +kernel
theorem dX8_byPriorities_165 : decode cX8_byPriorities 165 = .ok (.iload 4, 2) := by decide +kernel
theorem dX8_byPriorities_167 : decode cX8_byPriorities 167 = .ok (.imul, 1) := by decide +kernel
theorem dX8_byPriorities_168 : decode cX8_byPriorities 168 = .ok (.bipush 40, 2) := by decide +kernel
theorem dX8_byPriorities_170 : decode cX8_byPriorities 170 = .ok (.iadd, 1) := by decide +kernel
theorem dX8_byPriorities_171 : decode cX8_byPriorities 171 = .ok (.iaload, 1) := by decide +kernel
theorem dX8_byPriorities_172 : decode cX8_byPriorities 172 = .ok (.iastore, 1) := by decide +kernel
theorem dX8_byPriorities_173 : decode cX8_byPriorities 173 = .ok (.iinc 4 1, 3) := by decide +kernel
theorem dX8_byPriorities_176 : decode cX8_byPriorities 176 = .ok (.goto (-37), 3) := by decide +kernel
theorem dX8_byPriorities_179 : decode cX8_byPriorities 179 = .ok (.iinc 2 1, 3) := by decide +kernel
theorem dX8_byPriorities_182 : decode cX8_byPriorities 182 = .ok (.goto (-170), 3) := by decide +kernel
theorem dX8_byPriorities_185 : decode cX8_byPriorities 185 = .ok (.aload_n 0, 1) := by decide +kernel
theorem dX8_byPriorities_186 : decode cX8_byPriorities 186 = .ok (.bipush 40, 2) := by decide +kernel
theorem dX8_byPriorities_188 : decode cX8_byPriorities 188 = .ok (.putfield 47, 3) := by decide +kernel
theorem dX8_byPriorities_191 : decode cX8_byPriorities 191 = .ok (.aload_n 0, 1) := by decide +kernel
theorem dX8_byPriorities_192 : decode cX8_byPriorities 192 = .ok (.getfield 38, 3) := by decide +kernel
theorem dX8_byPriorities_195 : decode cX8_byPriorities 195 = .ok (.istore_n 2, 1) := by decide +kernel
theorem dX8_byPriorities_196 : decode cX8_byPriorities 196 = .ok (.iload_n 2, 1) := by decide +kernel
theorem dX8_byPriorities_197 : decode cX8_byPriorities 197 = .ok (.ifCond .eq 78, 3) := by decide +kernel
theorem dX8_byPriorities_200 : decode cX8_byPriorities 200 = .ok (.aload_n 0, 1) := by decide +kernel
theorem dX8_byPriorities_201 : decode cX8_byPriorities 201 = .ok (.getfield 47, 3) := by decide +kernel
theorem dX8_byPriorities_204 : decode cX8_byPriorities 204 = .ok (.ifCond .le 71, 3) := by decide +kernel
theorem dX8_byPriorities_207 : decode cX8_byPriorities 207 = .ok (.iconst 0, 1) := by decide +kernel
theorem dX8_byPriorities_208 : decode cX8_byPriorities 208 = .ok (.istore_n 3, 1) := by decide +kernel
theorem dX8_byPriorities_209 : decode cX8_byPriorities 209 = .ok (.iload_n 3, 1) := by decide +kernel
theorem dX8_byPriorities_210 : decode cX8_byPriorities 210 = .ok (.aload_n 0, 1) := by decide +kernel
theorem dX8_byPriorities_211 : decode cX8_byPriorities 211 = .ok (.getfield 62, 3) := by decide +kernel
theorem dX8_byPriorities_214 : decode cX8_byPriorities 214 = .ok (.if_icmp .ge 44, 3) := by decide +kernel
theorem dX8_byPriorities_217 : decode cX8_byPriorities 217 = .ok (.aload_n 0, 1) := by decide +kernel
theorem dX8_byPriorities_218 : decode cX8_byPriorities 218 = .ok (.getfield 50, 3) := by decide +kernel
theorem dX8_byPriorities_221 : decode cX8_byPriorities 221 = .ok (.sipush 400, 3) := by decide +kernel
theorem dX8_byPriorities_224 : decode cX8_byPriorities 224 = .ok (.iload_n 3, 1) := by decide +kernel
theorem dX8_byPriorities_225 : decode cX8_byPriorities 225 = .ok (.imul, 1) := by decide +kernel
theorem dX8_byPriorities_226 : decode cX8_byPriorities 226 = .ok (.aload_n 0, 1) := by decide +kernel
theorem dX8_byPriorities_227 : decode cX8_byPriorities 227 = .ok (.getfield 47, 3) := by decide +kernel
theorem dX8_byPriorities_230 : decode cX8_byPriorities 230 = .ok (.iadd, 1) := by decide +kernel
theorem dX8_byPriorities_231 : decode cX8_byPriorities 231 = .ok (.iconst 1, 1) := by decide +kernel
theorem dX8_byPriorities_232 : decode cX8_byPriorities 232 = .ok (.isub, 1) := by decide +kernel
theorem dX8_byPriorities_233 : decode cX8_byPriorities 233 = .ok (.iaload, 1) := by decide +kernel
theorem dX8_byPriorities_234 : decode cX8_byPriorities 234 = .ok (.aload_n 0, 1) := by decide +kernel
theorem dX8_byPriorities_235 : decode cX8_byPriorities 235 = .ok (.getfield 50, 3) := by decide +kernel
theorem dX8_byPriorities_238 : decode cX8_byPriorities 238 = .ok (.sipush 400, 3) := by decide +kernel
theorem dX8_byPriorities_241 : decode cX8_byPriorities 241 = .ok (.iload_n 3, 1) := by decide +kernel
theorem dX8_byPriorities_242 : decode cX8_byPriorities 242 = .ok (.imul, 1) := by decide +kernel
theorem dX8_byPriorities_243 : decode cX8_byPriorities 243 = .ok (.bipush 40, 2) := by decide +kernel
theorem dX8_byPriorities_245 : decode cX8_byPriorities 245 = .ok (.iadd, 1) := by decide +kernel
theorem dX8_byPriorities_246 : decode cX8_byPriorities 246 = .ok (.iaload, 1) := by decide +kernel
theorem dX8_byPriorities_247 : decode cX8_byPriorities 247 = .ok (.if_icmp .eq 5, 3) := by decide +kernel
theorem dX8_byPriorities_250 : decode cX8_byPriorities 250 = .ok (.iconst 0, 1) := by decide +kernel
theorem dX8_byPriorities_251 : decode cX8_byPriorities 251 = .ok (.istore_n 2, 1) := by decide +kernel
theorem dX8_byPriorities_252 : decode cX8_byPriorities 252 = .ok (.iinc 3 1, 3) := by decide +kernel
theorem dX8_byPriorities_255 : decode cX8_byPriorities 255 = .ok (.goto (-46), 3) := by decide +kernel
theorem dX8_byPriorities_258 : decode cX8_byPriorities 258 = .ok (.iload_n 2, 1) := by decide +kernel
theorem dX8_byPriorities_259 : decode cX8_byPriorities 259 = .ok (.ifCond .eq (-63), 3) := by decide +kernel
theorem dX8_byPriorities_262 : decode cX8_byPriorities 262 = .ok (.aload_n 0, 1) := by decide +kernel
theorem dX8_byPriorities_263 : decode cX8_byPriorities 263 = .ok (.dup, 1) := by decide +kernel
theorem dX8_byPriorities_264 : decode cX8_byPriorities 264 = .ok (.getfield 47, 3) := by decide +kernel
theorem dX8_byPriorities_267 : decode cX8_byPriorities 267 = .ok (.iconst 1, 1) := by decide +kernel
theorem dX8_byPriorities_268 : decode cX8_byPriorities 268 = .ok (.isub, 1) := by decide +kernel
theorem dX8_byPriorities_269 : decode cX8_byPriorities 269 = .ok (.putfield 47, 3) := by decide +kernel
theorem dX8_byPriorities_272 : decode cX8_byPriorities 272 = .ok (.goto (-76), 3) := by decide +kernel
theorem dX8_byPriorities_275 : decode cX8_byPriorities 275 = .ok (.return_, 1) := by decide +kernel
theorem dX8_distance_0 : decode cX8_distance 0 = .ok (.iconst 0, 1) := by decide +kernel
theorem dX8_distance_1 : decode cX8_distance 1 = .ok (.istore_n 2, 1) := by decide +kernel
theorem dX8_distance_2 : decode cX8_distance 2 = .ok (.iload_n 2, 1) := by decide +kernel
theorem dX8_distance_3 : decode cX8_distance 3 = .ok (.bipush 36, 2) := by decide +kernel
theorem dX8_distance_5 : decode cX8_distance 5 = .ok (.if_icmp .ge 17, 3) := by decide +kernel
theorem dX8_distance_8 : decode cX8_distance 8 = .ok (.aload_n 0, 1) := by decide +kernel
theorem dX8_distance_9 : decode cX8_distance 9 = .ok (.getfield 59, 3) := by decide +kernel
theorem dX8_distance_12 : decode cX8_distance 12 = .ok (.iload_n 2, 1) := by decide +kernel
theorem dX8_distance_13 : decode cX8_distance 13 = .ok (.ldc 77, 2) := by decide +kernel
theorem dX8_distance_15 : decode cX8_distance 15 = .ok (.iastore, 1) := by decide +kernel
theorem dX8_distance_16 : decode cX8_distance 16 = .ok (.iinc 2 1, 3) := by decide +kernel
theorem dX8_distance_19 : decode cX8_distance 19 = .ok (.goto (-17), 3) := by decide +kernel
theorem dX8_distance_22 : decode cX8_distance 22 = .ok (.aload_n 0, 1) := by decide +kernel
theorem dX8_distance_23 : decode cX8_distance 23 = .ok (.getfield 59, 3) := by decide +kernel
theorem dX8_distance_26 : decode cX8_distance 26 = .ok (.aload_n 0, 1) := by decide +kernel
theorem dX8_distance_27 : decode cX8_distance 27 = .ok (.getfield 27, 3) := by decide +kernel
theorem dX8_distance_30 : decode cX8_distance 30 = .ok (.iload_n 1, 1) := by decide +kernel
theorem dX8_distance_31 : decode cX8_distance 31 = .ok (.iaload, 1) := by decide +kernel
theorem dX8_distance_32 : decode cX8_distance 32 = .ok (.iconst 0, 1) := by decide +kernel
theorem dX8_distance_33 : decode cX8_distance 33 = .ok (.iastore, 1) := by decide +kernel
theorem dX8_distance_34 : decode cX8_distance 34 = .ok (.iconst 1, 1) := by decide +kernel
theorem dX8_distance_35 : decode cX8_distance 35 = .ok (.istore_n 2, 1) := by decide +kernel
theorem dX8_distance_36 : decode cX8_distance 36 = .ok (.iload_n 2, 1) := by decide +kernel
theorem dX8_distance_37 : decode cX8_distance 37 = .ok (.ifCond .eq 94, 3) := by decide +kernel
theorem dX8_distance_40 : decode cX8_distance 40 = .ok (.iconst 0, 1) := by decide +kernel
theorem dX8_distance_41 : decode cX8_distance 41 = .ok (.istore_n 2, 1) := by decide +kernel
theorem dX8_distance_42 : decode cX8_distance 42 = .ok (.iconst 0, 1) := by decide +kernel
theorem dX8_distance_43 : decode cX8_distance 43 = .ok (.istore_n 3, 1) := by decide +kernel
theorem dX8_distance_44 : decode cX8_distance 44 = .ok (.iload_n 3, 1) := by decide +kernel
theorem dX8_distance_45 : decode cX8_distance 45 = .ok (.bipush 36, 2) := by decide +kernel
theorem dX8_distance_47 : decode cX8_distance 47 = .ok (.if_icmp .ge 81, 3) := by decide +kernel
theorem dX8_distance_50 : decode cX8_distance 50 = .ok (.iconst 1, 1) := by decide +kernel
theorem dX8_distance_51 : decode cX8_distance 51 = .ok (.istore 4, 2) := by decide +kernel
theorem dX8_distance_53 : decode cX8_distance 53 = .ok (.iload 4, 2) := by decide +kernel
theorem dX8_distance_55 : decode cX8_distance 55 = .ok (.iconst 5, 1) := by decide +kernel
theorem dX8_distance_56 : decode cX8_distance 56 = .ok (.if_icmp .ge 66, 3) := by decide +kernel
theorem dX8_distance_59 : decode cX8_distance 59 = .ok (.aload_n 0, 1) := by decide +kernel
theorem dX8_distance_60 : decode cX8_distance 60 = .ok (.iload_n 3, 1) := by decide +kernel
theorem dX8_distance_61 : decode cX8_distance 61 = .ok (.invokevirtual 92, 3) := by decide +kernel
theorem dX8_distance_64 : decode cX8_distance 64 = .ok (.ifCond .ne 58, 3) := by decide +kernel
theorem dX8_distance_67 : decode cX8_distance 67 = .ok (.aload_n 0, 1) := by decide +kernel
theorem dX8_distance_68 : decode cX8_distance 68 = .ok (.iload_n 3, 1) := by decide +kernel
theorem dX8_distance_69 : decode cX8_distance 69 = .ok (.iload 4, 2) := by decide +kernel
theorem dX8_distance_71 : decode cX8_distance 71 = .ok (.invokevirtual 73, 3) := by decide +kernel
theorem dX8_distance_74 : decode cX8_distance 74 = .ok (.istore 5, 2) := by decide +kernel
theorem dX8_distance_76 : decode cX8_distance 76 = .ok (.iload 5, 2) := by decide +kernel
theorem dX8_distance_78 : decode cX8_distance 78 = .ok (.ifCond .lt 38, 3) := by decide +kernel
theorem dX8_distance_81 : decode cX8_distance 81 = .ok (.aload_n 0, 1) := by decide +kernel
theorem dX8_distance_82 : decode cX8_distance 82 = .ok (.getfield 59, 3) := by decide +kernel
theorem dX8_distance_85 : decode cX8_distance 85 = .ok (.iload 5, 2) := by decide +kernel
theorem dX8_distance_87 : decode cX8_distance 87 = .ok (.iaload, 1) := by decide +kernel
theorem dX8_distance_88 : decode cX8_distance 88 = .ok (.iconst 1, 1) := by decide +kernel
theorem dX8_distance_89 : decode cX8_distance 89 = .ok (.iadd, 1) := by decide +kernel
theorem dX8_distance_90 : decode cX8_distance 90 = .ok (.aload_n 0, 1) := by decide +kernel
theorem dX8_distance_91 : decode cX8_distance 91 = .ok (.getfield 59, 3) := by decide +kernel
theorem dX8_distance_94 : decode cX8_distance 94 = .ok (.iload_n 3, 1) := by decide +kernel
theorem dX8_distance_95 : decode cX8_distance 95 = .ok (.iaload, 1) := by decide +kernel
theorem dX8_distance_96 : decode cX8_distance 96 = .ok (.if_icmp .ge 20, 3) := by decide +kernel
theorem dX8_distance_99 : decode cX8_distance 99 = .ok (.aload_n 0, 1) := by decide +kernel
theorem dX8_distance_100 : decode cX8_distance 100 = .ok (.getfield 59, 3) := by decide +kernel
theorem dX8_distance_103 : decode cX8_distance 103 = .ok (.iload_n 3, 1) := by decide +kernel
theorem dX8_distance_104 : decode cX8_distance 104 = .ok (.aload_n 0, 1) := by decide +kernel
theorem dX8_distance_105 : decode cX8_distance 105 = .ok (.getfield 59, 3) := by decide +kernel
theorem dX8_distance_108 : decode cX8_distance 108 = .ok (.iload 5, 2) := by decide +kernel
theorem dX8_distance_110 : decode cX8_distance 110 = .ok (.iaload, 1) := by decide +kernel
theorem dX8_distance_111 : decode cX8_distance 111 = .ok (.iconst 1, 1) := by decide +kernel
theorem dX8_distance_112 : decode cX8_distance 112 = .ok (.iadd, 1) := by decide +kernel
theorem dX8_distance_113 : decode cX8_distance 113 = .ok (.iastore, 1) := by decide +kernel
theorem dX8_distance_114 : decode cX8_distance 114 = .ok (.iconst 1, 1) := by decide +kernel
theorem dX8_distance_115 : decode cX8_distance 115 = .ok (.istore_n 2, 1) := by decide +kernel
theorem dX8_distance_116 : decode cX8_distance 116 = .ok (.iinc 4 1, 3) := by decide +kernel
theorem dX8_distance_119 : decode cX8_distance 119 = .ok (.goto (-66), 3) := by decide +kernel
theorem dX8_distance_122 : decode cX8_distance 122 = .ok (.iinc 3 1, 3) := by decide +kernel
theorem dX8_distance_125 : decode cX8_distance 125 = .ok (.goto (-81), 3) := by decide +kernel
theorem dX8_distance_128 : decode cX8_distance 128 = .ok (.goto (-92), 3) := by decide +kernel
theorem dX8_distance_131 : decode cX8_distance 131 = .ok (.aload_n 0, 1) := by decide +kernel
theorem dX8_distance_132 : decode cX8_distance 132 = .ok (.getfield 59, 3) := by decide +kernel
theorem dX8_distance_135 : decode cX8_distance 135 = .ok (.aload_n 0, 1) := by decide +kernel
theorem dX8_distance_136 : decode cX8_distance 136 = .ok (.getfield 23, 3) := by decide +kernel
theorem dX8_distance_139 : decode cX8_distance 139 = .ok (.iload_n 1, 1) := by decide +kernel
theorem dX8_distance_140 : decode cX8_distance 140 = .ok (.iaload, 1) := by decide +kernel
theorem dX8_distance_141 : decode cX8_distance 141 = .ok (.iaload, 1) := by decide +kernel
theorem dX8_distance_142 : decode cX8_distance 142 = .ok (.ldc 77, 2) := by decide +kernel
theorem dX8_distance_144 : decode cX8_distance 144 = .ok (.if_icmp .lt 7, 3) := by decide +kernel
theorem dX8_distance_147 : decode cX8_distance 147 = .ok (.iconst (-1), 1) := by decide +kernel
theorem dX8_distance_148 : decode cX8_distance 148 = .ok (.goto 14, 3) := by decide +kernel
theorem dX8_distance_151 : decode cX8_distance 151 = .ok (.aload_n 0, 1) := by decide +kernel
theorem dX8_distance_152 : decode cX8_distance 152 = .ok (.getfield 59, 3) := by decide +kernel
theorem dX8_distance_155 : decode cX8_distance 155 = .ok (.aload_n 0, 1) := by decide +kernel
theorem dX8_distance_156 : decode cX8_distance 156 = .ok (.getfield 23, 3) := by decide +kernel
theorem dX8_distance_159 : decode cX8_distance 159 = .ok (.iload_n 1, 1) := by decide +kernel
theorem dX8_distance_160 : decode cX8_distance 160 = .ok (.iaload, 1) := by decide +kernel
theorem dX8_distance_161 : decode cX8_distance 161 = .ok (.iaload, 1) := by decide +kernel
theorem dX8_distance_162 : decode cX8_distance 162 = .ok (.ireturn, 1) := by decide +kernel
theorem dX8_missing_0 : decode cX8_missing 0 = .ok (.iconst 0, 1) := by decide +kernel
theorem dX8_missing_1 : decode cX8_missing 1 = .ok (.istore_n 1, 1) := by decide +kernel
theorem dX8_missing_2 : decode cX8_missing 2 = .ok (.iload_n 1, 1) := by decide +kernel
theorem dX8_missing_3 : decode cX8_missing 3 = .ok (.aload_n 0, 1) := by decide +kernel
theorem dX8_missing_4 : decode cX8_missing 4 = .ok (.getfield 62, 3) := by decide +kernel
theorem dX8_missing_7 : decode cX8_missing 7 = .ok (.if_icmp .ge 29, 3) := by decide +kernel
theorem dX8_missing_10 : decode cX8_missing 10 = .ok (.aload_n 0, 1) := by decide +kernel
theorem dX8_missing_11 : decode cX8_missing 11 = .ok (.getfield 23, 3) := by decide +kernel
theorem dX8_missing_14 : decode cX8_missing 14 = .ok (.iload_n 1, 1) := by decide +kernel
theorem dX8_missing_15 : decode cX8_missing 15 = .ok (.iaload, 1) := by decide +kernel
theorem dX8_missing_16 : decode cX8_missing 16 = .ok (.ifCond .lt 12, 3) := by decide +kernel
theorem dX8_missing_19 : decode cX8_missing 19 = .ok (.aload_n 0, 1) := by decide +kernel
theorem dX8_missing_20 : decode cX8_missing 20 = .ok (.getfield 27, 3) := by decide +kernel
theorem dX8_missing_23 : decode cX8_missing 23 = .ok (.iload_n 1, 1) := by decide +kernel
theorem dX8_missing_24 : decode cX8_missing 24 = .ok (.iaload, 1) := by decide +kernel
theorem dX8_missing_25 : decode cX8_missing 25 = .ok (.ifCond .ge 5, 3) := by decide +kernel
theorem dX8_missing_28 : decode cX8_missing 28 = .ok (.iconst 1, 1) := by decide +kernel
theorem dX8_missing_29 : decode cX8_missing 29 = .ok (.ireturn, 1) := by decide +kernel
theorem dX8_missing_30 : decode cX8_missing 30 = .ok (.iinc 1 1, 3) := by decide +kernel
theorem dX8_missing_33 : decode cX8_missing 33 = .ok (.goto (-31), 3) := by decide +kernel
theorem dX8_missing_36 : decode cX8_missing 36 = .ok (.iconst 0, 1) := by decide +kernel
theorem dX8_missing_37 : decode cX8_missing 37 = .ok (.ireturn, 1) := by decide +kernel
theorem dX8_boundOf_0 : decode cX8_boundOf 0 = .ok (.iconst 0, 1) := by decide +kernel
theorem dX8_boundOf_1 : decode cX8_boundOf 1 = .ok (.istore_n 1, 1) := by decide +kernel
theorem dX8_boundOf_2 : decode cX8_boundOf 2 = .ok (.iconst 0, 1) := by decide +kernel
theorem dX8_boundOf_3 : decode cX8_boundOf 3 = .ok (.istore_n 2, 1) := by decide +kernel
theorem dX8_boundOf_4 : decode cX8_boundOf 4 = .ok (.iload_n 2, 1) := by decide +kernel
theorem dX8_boundOf_5 : decode cX8_boundOf 5 = .ok (.aload_n 0, 1) := by decide +kernel
theorem dX8_boundOf_6 : decode cX8_boundOf 6 = .ok (.getfield 62, 3) := by decide +kernel
theorem dX8_boundOf_9 : decode cX8_boundOf 9 = .ok (.if_icmp .ge 25, 3) := by decide +kernel
theorem dX8_boundOf_12 : decode cX8_boundOf 12 = .ok (.aload_n 0, 1) := by decide +kernel
theorem dX8_boundOf_13 : decode cX8_boundOf 13 = .ok (.iload_n 2, 1) := by decide +kernel
theorem dX8_boundOf_14 : decode cX8_boundOf 14 = .ok (.invokevirtual 125, 3) := by decide +kernel
theorem dX8_boundOf_17 : decode cX8_boundOf 17 = .ok (.istore_n 3, 1) := by decide +kernel
theorem dX8_boundOf_18 : decode cX8_boundOf 18 = .ok (.iload_n 3, 1) := by decide +kernel
theorem dX8_boundOf_19 : decode cX8_boundOf 19 = .ok (.ifCond .ge 5, 3) := by decide +kernel
theorem dX8_boundOf_22 : decode cX8_boundOf 22 = .ok (.iconst (-1), 1) := by decide +kernel
theorem dX8_boundOf_23 : decode cX8_boundOf 23 = .ok (.ireturn, 1) := by decide +kernel
theorem dX8_boundOf_24 : decode cX8_boundOf 24 = .ok (.iload_n 1, 1) := by decide +kernel
theorem dX8_boundOf_25 : decode cX8_boundOf 25 = .ok (.iload_n 3, 1) := by decide +kernel
theorem dX8_boundOf_26 : decode cX8_boundOf 26 = .ok (.iadd, 1) := by decide +kernel
theorem dX8_boundOf_27 : decode cX8_boundOf 27 = .ok (.istore_n 1, 1) := by decide +kernel
theorem dX8_boundOf_28 : decode cX8_boundOf 28 = .ok (.iinc 2 1, 3) := by decide +kernel
theorem dX8_boundOf_31 : decode cX8_boundOf 31 = .ok (.goto (-27), 3) := by decide +kernel
theorem dX8_boundOf_34 : decode cX8_boundOf 34 = .ok (.iload_n 1, 1) := by decide +kernel
theorem dX8_boundOf_35 : decode cX8_boundOf 35 = .ok (.ireturn, 1) := by decide +kernel
theorem dX8_thrown_0 : decode cX8_thrown 0 = .ok (.aload_n 0, 1) := by decide +kernel
theorem dX8_thrown_1 : decode cX8_thrown 1 = .ok (.getfield 7, 3) := by decide +kernel
theorem dX8_thrown_4 : decode cX8_thrown 4 = .ok (.ireturn, 1) := by decide +kernel
theorem dX8_grid_0 : decode cX8_grid 0 = .ok (.aload_n 0, 1) := by decide +kernel
theorem dX8_grid_1 : decode cX8_grid 1 = .ok (.iload_n 1, 1) := by decide +kernel
theorem dX8_grid_2 : decode cX8_grid 2 = .ok (.iconst 1, 1) := by decide +kernel
theorem dX8_grid_3 : decode cX8_grid 3 = .ok (.if_icmp .lt 20, 3) := by decide +kernel
theorem dX8_grid_6 : decode cX8_grid 6 = .ok (.iload_n 1, 1) := by decide +kernel
theorem dX8_grid_7 : decode cX8_grid 7 = .ok (.bipush 6, 2) := by decide +kernel
theorem dX8_grid_9 : decode cX8_grid 9 = .ok (.if_icmp .gt 14, 3) := by decide +kernel
theorem dX8_grid_12 : decode cX8_grid 12 = .ok (.iload_n 2, 1) := by decide +kernel
theorem dX8_grid_13 : decode cX8_grid 13 = .ok (.iconst 1, 1) := by decide +kernel
theorem dX8_grid_14 : decode cX8_grid 14 = .ok (.if_icmp .lt 9, 3) := by decide +kernel
theorem dX8_grid_17 : decode cX8_grid 17 = .ok (.iload_n 2, 1) := by decide +kernel
theorem dX8_grid_18 : decode cX8_grid 18 = .ok (.bipush 6, 2) := by decide +kernel
theorem dX8_grid_20 : decode cX8_grid 20 = .ok (.if_icmp .le 7, 3) := by decide +kernel
theorem dX8_grid_23 : decode cX8_grid 23 = .ok (.iconst 1, 1) := by decide +kernel
theorem dX8_grid_24 : decode cX8_grid 24 = .ok (.goto 4, 3) := by decide +kernel
theorem dX8_grid_27 : decode cX8_grid 27 = .ok (.iconst 0, 1) := by decide +kernel
theorem dX8_grid_28 : decode cX8_grid 28 = .ok (.putfield 7, 3) := by decide +kernel
theorem dX8_grid_31 : decode cX8_grid 31 = .ok (.aload_n 0, 1) := by decide +kernel
theorem dX8_grid_32 : decode cX8_grid 32 = .ok (.getfield 7, 3) := by decide +kernel
theorem dX8_grid_35 : decode cX8_grid 35 = .ok (.ifCond .ne 9, 3) := by decide +kernel
theorem dX8_grid_38 : decode cX8_grid 38 = .ok (.aload_n 0, 1) := by decide +kernel
theorem dX8_grid_39 : decode cX8_grid 39 = .ok (.iload_n 1, 1) := by decide +kernel
theorem dX8_grid_40 : decode cX8_grid 40 = .ok (.iload_n 2, 1) := by decide +kernel
theorem dX8_grid_41 : decode cX8_grid 41 = .ok (.invokevirtual 65, 3) := by decide +kernel
theorem dX8_grid_44 : decode cX8_grid 44 = .ok (.return_, 1) := by decide +kernel
theorem dX8_used_0 : decode cX8_used 0 = .ok (.iconst 0, 1) := by decide +kernel
theorem dX8_used_1 : decode cX8_used 1 = .ok (.istore_n 2, 1) := by decide +kernel
theorem dX8_used_2 : decode cX8_used 2 = .ok (.iload_n 2, 1) := by decide +kernel
theorem dX8_used_3 : decode cX8_used 3 = .ok (.aload_n 0, 1) := by decide +kernel
theorem dX8_used_4 : decode cX8_used 4 = .ok (.getfield 62, 3) := by decide +kernel
theorem dX8_used_7 : decode cX8_used 7 = .ok (.if_icmp .ge 31, 3) := by decide +kernel
theorem dX8_used_10 : decode cX8_used 10 = .ok (.aload_n 0, 1) := by decide +kernel
theorem dX8_used_11 : decode cX8_used 11 = .ok (.getfield 23, 3) := by decide +kernel
theorem dX8_used_14 : decode cX8_used 14 = .ok (.iload_n 2, 1) := by decide +kernel
theorem dX8_used_15 : decode cX8_used 15 = .ok (.iaload, 1) := by decide +kernel
theorem dX8_used_16 : decode cX8_used 16 = .ok (.iload_n 1, 1) := by decide +kernel
theorem dX8_used_17 : decode cX8_used 17 = .ok (.if_icmp .eq 13, 3) := by decide +kernel
theorem dX8_used_20 : decode cX8_used 20 = .ok (.aload_n 0, 1) := by decide +kernel
theorem dX8_used_21 : decode cX8_used 21 = .ok (.getfield 27, 3) := by decide +kernel
theorem dX8_used_24 : decode cX8_used 24 = .ok (.iload_n 2, 1) := by decide +kernel
theorem dX8_used_25 : decode cX8_used 25 = .ok (.iaload, 1) := by decide +kernel
theorem dX8_used_26 : decode cX8_used 26 = .ok (.iload_n 1, 1) := by decide +kernel
theorem dX8_used_27 : decode cX8_used 27 = .ok (.if_icmp .ne 5, 3) := by decide +kernel
theorem dX8_used_30 : decode cX8_used 30 = .ok (.iconst 1, 1) := by decide +kernel
theorem dX8_used_31 : decode cX8_used 31 = .ok (.ireturn, 1) := by decide +kernel
theorem dX8_used_32 : decode cX8_used 32 = .ok (.iinc 2 1, 3) := by decide +kernel
theorem dX8_used_35 : decode cX8_used 35 = .ok (.goto (-33), 3) := by decide +kernel
theorem dX8_used_38 : decode cX8_used 38 = .ok (.iconst 0, 1) := by decide +kernel
theorem dX8_used_39 : decode cX8_used 39 = .ok (.ireturn, 1) := by decide +kernel
theorem dX8_wall_0 : decode cX8_wall 0 = .ok (.aload_n 0, 1) := by decide +kernel
theorem dX8_wall_1 : decode cX8_wall 1 = .ok (.aload_n 0, 1) := by decide +kernel
theorem dX8_wall_2 : decode cX8_wall 2 = .ok (.iload_n 1, 1) := by decide +kernel
theorem dX8_wall_3 : decode cX8_wall 3 = .ok (.iload_n 2, 1) := by decide +kernel
theorem dX8_wall_4 : decode cX8_wall 4 = .ok (.invokevirtual 69, 3) := by decide +kernel
theorem dX8_wall_7 : decode cX8_wall 7 = .ok (.ifCond .eq 7, 3) := by decide +kernel
theorem dX8_wall_10 : decode cX8_wall 10 = .ok (.iconst 1, 1) := by decide +kernel
theorem dX8_wall_11 : decode cX8_wall 11 = .ok (.goto 21, 3) := by decide +kernel
theorem dX8_wall_14 : decode cX8_wall 14 = .ok (.aload_n 0, 1) := by decide +kernel
theorem dX8_wall_15 : decode cX8_wall 15 = .ok (.bipush 6, 2) := by decide +kernel
theorem dX8_wall_17 : decode cX8_wall 17 = .ok (.iload_n 2, 1) := by decide +kernel
theorem dX8_wall_18 : decode cX8_wall 18 = .ok (.imul, 1) := by decide +kernel
theorem dX8_wall_19 : decode cX8_wall 19 = .ok (.iload_n 1, 1) := by decide +kernel
theorem dX8_wall_20 : decode cX8_wall 20 = .ok (.iadd, 1) := by decide +kernel
theorem dX8_wall_21 : decode cX8_wall 21 = .ok (.invokevirtual 128, 3) := by decide +kernel
theorem dX8_wall_24 : decode cX8_wall 24 = .ok (.ifCond .eq 7, 3) := by decide +kernel
theorem dX8_wall_27 : decode cX8_wall 27 = .ok (.iconst 2, 1) := by decide +kernel
theorem dX8_wall_28 : decode cX8_wall 28 = .ok (.goto 4, 3) := by decide +kernel
theorem dX8_wall_31 : decode cX8_wall 31 = .ok (.iconst 0, 1) := by decide +kernel
theorem dX8_wall_32 : decode cX8_wall 32 = .ok (.putfield 7, 3) := by decide +kernel
theorem dX8_wall_35 : decode cX8_wall 35 = .ok (.aload_n 0, 1) := by decide +kernel
theorem dX8_wall_36 : decode cX8_wall 36 = .ok (.getfield 7, 3) := by decide +kernel
theorem dX8_wall_39 : decode cX8_wall 39 = .ok (.ifCond .eq 5, 3) := by decide +kernel
theorem dX8_wall_42 : decode cX8_wall 42 = .ok (.iconst 0, 1) := by decide +kernel
theorem dX8_wall_43 : decode cX8_wall 43 = .ok (.ireturn, 1) := by decide +kernel
theorem dX8_wall_44 : decode cX8_wall 44 = .ok (.aload_n 0, 1) := by decide +kernel
theorem dX8_wall_45 : decode cX8_wall 45 = .ok (.getfield 19, 3) := by decide +kernel
theorem dX8_wall_48 : decode cX8_wall 48 = .ok (.bipush 6, 2) := by decide +kernel
theorem dX8_wall_50 : decode cX8_wall 50 = .ok (.iload_n 2, 1) := by decide +kernel
theorem dX8_wall_51 : decode cX8_wall 51 = .ok (.imul, 1) := by decide +kernel
theorem dX8_wall_52 : decode cX8_wall 52 = .ok (.iload_n 1, 1) := by decide +kernel
theorem dX8_wall_53 : decode cX8_wall 53 = .ok (.iadd, 1) := by decide +kernel
theorem dX8_wall_54 : decode cX8_wall 54 = .ok (.baload, 1) := by decide +kernel
theorem dX8_wall_55 : decode cX8_wall 55 = .ok (.istore 4, 2) := by decide +kernel
theorem dX8_wall_57 : decode cX8_wall 57 = .ok (.aload_n 0, 1) := by decide +kernel
theorem dX8_wall_58 : decode cX8_wall 58 = .ok (.getfield 19, 3) := by decide +kernel
theorem dX8_wall_61 : decode cX8_wall 61 = .ok (.bipush 6, 2) := by decide +kernel
theorem dX8_wall_63 : decode cX8_wall 63 = .ok (.iload_n 2, 1) := by decide +kernel
theorem dX8_wall_64 : decode cX8_wall 64 = .ok (.imul, 1) := by decide +kernel
theorem dX8_wall_65 : decode cX8_wall 65 = .ok (.iload_n 1, 1) := by decide +kernel
theorem dX8_wall_66 : decode cX8_wall 66 = .ok (.iadd, 1) := by decide +kernel
theorem dX8_wall_67 : decode cX8_wall 67 = .ok (.iload_n 3, 1) := by decide +kernel
theorem dX8_wall_68 : decode cX8_wall 68 = .ok (.bastore, 1) := by decide +kernel
theorem dX8_wall_69 : decode cX8_wall 69 = .ok (.iload 4, 2) := by decide +kernel
theorem dX8_wall_71 : decode cX8_wall 71 = .ok (.ireturn, 1) := by decide +kernel
theorem dX8_put_0 : decode cX8_put 0 = .ok (.iload_n 2, 1) := by decide +kernel
theorem dX8_put_1 : decode cX8_put 1 = .ok (.ifCond .lt 21, 3) := by decide +kernel
theorem dX8_put_4 : decode cX8_put 4 = .ok (.iload_n 2, 1) := by decide +kernel
theorem dX8_put_5 : decode cX8_put 5 = .ok (.aload_n 0, 1) := by decide +kernel
theorem dX8_put_6 : decode cX8_put 6 = .ok (.getfield 62, 3) := by decide +kernel
theorem dX8_put_9 : decode cX8_put 9 = .ok (.if_icmp .ge 13, 3) := by decide +kernel
theorem dX8_put_12 : decode cX8_put 12 = .ok (.aload_n 0, 1) := by decide +kernel
theorem dX8_put_13 : decode cX8_put 13 = .ok (.iload_n 3, 1) := by decide +kernel
theorem dX8_put_14 : decode cX8_put 14 = .ok (.iload 4, 2) := by decide +kernel
theorem dX8_put_16 : decode cX8_put 16 = .ok (.invokevirtual 69, 3) := by decide +kernel
theorem dX8_put_19 : decode cX8_put 19 = .ok (.ifCond .eq 7, 3) := by decide +kernel
theorem dX8_put_22 : decode cX8_put 22 = .ok (.iconst 1, 1) := by decide +kernel
theorem dX8_put_23 : decode cX8_put 23 = .ok (.goto 4, 3) := by decide +kernel
theorem dX8_put_26 : decode cX8_put 26 = .ok (.iconst 0, 1) := by decide +kernel
theorem dX8_put_27 : decode cX8_put 27 = .ok (.istore 5, 2) := by decide +kernel
theorem dX8_put_29 : decode cX8_put 29 = .ok (.aload_n 0, 1) := by decide +kernel
theorem dX8_put_30 : decode cX8_put 30 = .ok (.iload 5, 2) := by decide +kernel
theorem dX8_put_32 : decode cX8_put 32 = .ok (.ifCond .eq 7, 3) := by decide +kernel
theorem dX8_put_35 : decode cX8_put 35 = .ok (.iconst 1, 1) := by decide +kernel
theorem dX8_put_36 : decode cX8_put 36 = .ok (.goto 23, 3) := by decide +kernel
theorem dX8_put_39 : decode cX8_put 39 = .ok (.aload_n 0, 1) := by decide +kernel
theorem dX8_put_40 : decode cX8_put 40 = .ok (.getfield 19, 3) := by decide +kernel
theorem dX8_put_43 : decode cX8_put 43 = .ok (.bipush 6, 2) := by decide +kernel
theorem dX8_put_45 : decode cX8_put 45 = .ok (.iload 4, 2) := by decide +kernel
theorem dX8_put_47 : decode cX8_put 47 = .ok (.imul, 1) := by decide +kernel
theorem dX8_put_48 : decode cX8_put 48 = .ok (.iload_n 3, 1) := by decide +kernel
theorem dX8_put_49 : decode cX8_put 49 = .ok (.iadd, 1) := by decide +kernel
theorem dX8_put_50 : decode cX8_put 50 = .ok (.baload, 1) := by decide +kernel
theorem dX8_put_51 : decode cX8_put 51 = .ok (.ifCond .eq 7, 3) := by decide +kernel
theorem dX8_put_54 : decode cX8_put 54 = .ok (.iconst 2, 1) := by decide +kernel
theorem dX8_put_55 : decode cX8_put 55 = .ok (.goto 4, 3) := by decide +kernel
theorem dX8_put_58 : decode cX8_put 58 = .ok (.iconst 0, 1) := by decide +kernel
theorem dX8_put_59 : decode cX8_put 59 = .ok (.putfield 7, 3) := by decide +kernel
theorem dX8_put_62 : decode cX8_put 62 = .ok (.aload_n 0, 1) := by decide +kernel
theorem dX8_put_63 : decode cX8_put 63 = .ok (.getfield 7, 3) := by decide +kernel
theorem dX8_put_66 : decode cX8_put 66 = .ok (.ifCond .eq 5, 3) := by decide +kernel
theorem dX8_put_69 : decode cX8_put 69 = .ok (.iconst 0, 1) := by decide +kernel
theorem dX8_put_70 : decode cX8_put 70 = .ok (.ireturn, 1) := by decide +kernel
theorem dX8_put_71 : decode cX8_put 71 = .ok (.iconst 0, 1) := by decide +kernel
theorem dX8_put_72 : decode cX8_put 72 = .ok (.istore 6, 2) := by decide +kernel
theorem dX8_put_74 : decode cX8_put 74 = .ok (.iload 6, 2) := by decide +kernel
theorem dX8_put_76 : decode cX8_put 76 = .ok (.aload_n 0, 1) := by decide +kernel
theorem dX8_put_77 : decode cX8_put 77 = .ok (.getfield 62, 3) := by decide +kernel
theorem dX8_put_80 : decode cX8_put 80 = .ok (.if_icmp .ge 31, 3) := by decide +kernel
theorem dX8_put_83 : decode cX8_put 83 = .ok (.iload 6, 2) := by decide +kernel
theorem dX8_put_85 : decode cX8_put 85 = .ok (.iload_n 2, 1) := by decide +kernel
theorem dX8_put_86 : decode cX8_put 86 = .ok (.if_icmp .eq 19, 3) := by decide +kernel
theorem dX8_put_89 : decode cX8_put 89 = .ok (.aload_n 1, 1) := by decide +kernel
theorem dX8_put_90 : decode cX8_put 90 = .ok (.iload 6, 2) := by decide +kernel
theorem dX8_put_92 : decode cX8_put 92 = .ok (.iaload, 1) := by decide +kernel
theorem dX8_put_93 : decode cX8_put 93 = .ok (.bipush 6, 2) := by decide +kernel
theorem dX8_put_95 : decode cX8_put 95 = .ok (.iload 4, 2) := by decide +kernel
theorem dX8_put_97 : decode cX8_put 97 = .ok (.imul, 1) := by decide +kernel
theorem dX8_put_98 : decode cX8_put 98 = .ok (.iload_n 3, 1) := by decide +kernel
theorem dX8_put_99 : decode cX8_put 99 = .ok (.iadd, 1) := by decide +kernel
theorem dX8_put_100 : decode cX8_put 100 = .ok (.if_icmp .ne 5, 3) := by decide +kernel
theorem dX8_put_103 : decode cX8_put 103 = .ok (.iconst 0, 1) := by decide +kernel
theorem dX8_put_104 : decode cX8_put 104 = .ok (.ireturn, 1) := by decide +kernel
theorem dX8_put_105 : decode cX8_put 105 = .ok (.iinc 6 1, 3) := by decide +kernel
theorem dX8_put_108 : decode cX8_put 108 = .ok (.goto (-34), 3) := by decide +kernel
theorem dX8_put_111 : decode cX8_put 111 = .ok (.aload_n 1, 1) := by decide +kernel
theorem dX8_put_112 : decode cX8_put 112 = .ok (.iload_n 2, 1) := by decide +kernel
theorem dX8_put_113 : decode cX8_put 113 = .ok (.bipush 6, 2) := by decide +kernel
theorem dX8_put_115 : decode cX8_put 115 = .ok (.iload 4, 2) := by decide +kernel
theorem dX8_put_117 : decode cX8_put 117 = .ok (.imul, 1) := by decide +kernel
theorem dX8_put_118 : decode cX8_put 118 = .ok (.iload_n 3, 1) := by decide +kernel
theorem dX8_put_119 : decode cX8_put 119 = .ok (.iadd, 1) := by decide +kernel
theorem dX8_put_120 : decode cX8_put 120 = .ok (.iastore, 1) := by decide +kernel
theorem dX8_put_121 : decode cX8_put 121 = .ok (.iconst 1, 1) := by decide +kernel
theorem dX8_put_122 : decode cX8_put 122 = .ok (.ireturn, 1) := by decide +kernel
theorem dX8_start_0 : decode cX8_start 0 = .ok (.aload_n 0, 1) := by decide +kernel
theorem dX8_start_1 : decode cX8_start 1 = .ok (.aload_n 0, 1) := by decide +kernel
theorem dX8_start_2 : decode cX8_start 2 = .ok (.getfield 23, 3) := by decide +kernel
theorem dX8_start_5 : decode cX8_start 5 = .ok (.iload_n 1, 1) := by decide +kernel
theorem dX8_start_6 : decode cX8_start 6 = .ok (.iload_n 2, 1) := by decide +kernel
theorem dX8_start_7 : decode cX8_start 7 = .ok (.iload_n 3, 1) := by decide +kernel
theorem dX8_start_8 : decode cX8_start 8 = .ok (.invokevirtual 131, 3) := by decide +kernel
theorem dX8_start_11 : decode cX8_start 11 = .ok (.ireturn, 1) := by decide +kernel
theorem dX8_end_0 : decode cX8_end 0 = .ok (.aload_n 0, 1) := by decide +kernel
theorem dX8_end_1 : decode cX8_end 1 = .ok (.aload_n 0, 1) := by decide +kernel
theorem dX8_end_2 : decode cX8_end 2 = .ok (.getfield 27, 3) := by decide +kernel
theorem dX8_end_5 : decode cX8_end 5 = .ok (.iload_n 1, 1) := by decide +kernel
theorem dX8_end_6 : decode cX8_end 6 = .ok (.iload_n 2, 1) := by decide +kernel
theorem dX8_end_7 : decode cX8_end 7 = .ok (.iload_n 3, 1) := by decide +kernel
theorem dX8_end_8 : decode cX8_end 8 = .ok (.invokevirtual 131, 3) := by decide +kernel
theorem dX8_end_11 : decode cX8_end 11 = .ok (.ireturn, 1) := by decide +kernel
theorem dX8_swap_0 : decode cX8_swap 0 = .ok (.aload_n 0, 1) := by decide +kernel
theorem dX8_swap_1 : decode cX8_swap 1 = .ok (.iconst 0, 1) := by decide +kernel
theorem dX8_swap_2 : decode cX8_swap 2 = .ok (.putfield 7, 3) := by decide +kernel
theorem dX8_swap_5 : decode cX8_swap 5 = .ok (.aload_n 0, 1) := by decide +kernel
theorem dX8_swap_6 : decode cX8_swap 6 = .ok (.getfield 30, 3) := by decide +kernel
theorem dX8_swap_9 : decode cX8_swap 9 = .ok (.istore_n 2, 1) := by decide +kernel
theorem dX8_swap_10 : decode cX8_swap 10 = .ok (.aload_n 0, 1) := by decide +kernel
theorem dX8_swap_11 : decode cX8_swap 11 = .ok (.iload_n 1, 1) := by decide +kernel
theorem dX8_swap_12 : decode cX8_swap 12 = .ok (.putfield 30, 3) := by decide +kernel
theorem dX8_swap_15 : decode cX8_swap 15 = .ok (.iload_n 2, 1) := by decide +kernel
theorem dX8_swap_16 : decode cX8_swap 16 = .ok (.ireturn, 1) := by decide +kernel
theorem dX8_seed_0 : decode cX8_seed 0 = .ok (.aload_n 0, 1) := by decide +kernel
theorem dX8_seed_1 : decode cX8_seed 1 = .ok (.iload_n 1, 1) := by decide +kernel
theorem dX8_seed_2 : decode cX8_seed 2 = .ok (.ifCond .ge 7, 3) := by decide +kernel
theorem dX8_seed_5 : decode cX8_seed 5 = .ok (.iconst 1, 1) := by decide +kernel
theorem dX8_seed_6 : decode cX8_seed 6 = .ok (.goto 4, 3) := by decide +kernel
theorem dX8_seed_9 : decode cX8_seed 9 = .ok (.iconst 0, 1) := by decide +kernel
theorem dX8_seed_10 : decode cX8_seed 10 = .ok (.putfield 7, 3) := by decide +kernel
theorem dX8_seed_13 : decode cX8_seed 13 = .ok (.aload_n 0, 1) := by decide +kernel
theorem dX8_seed_14 : decode cX8_seed 14 = .ok (.getfield 7, 3) := by decide +kernel
theorem dX8_seed_17 : decode cX8_seed 17 = .ok (.ifCond .ne 9, 3) := by decide +kernel
theorem dX8_seed_20 : decode cX8_seed 20 = .ok (.aload_n 0, 1) := by decide +kernel
theorem dX8_seed_21 : decode cX8_seed 21 = .ok (.iload_n 1, 1) := by decide +kernel
theorem dX8_seed_22 : decode cX8_seed 22 = .ok (.i2l, 1) := by decide +kernel
theorem dX8_seed_23 : decode cX8_seed 23 = .ok (.putfield 34, 3) := by decide +kernel
theorem dX8_seed_26 : decode cX8_seed 26 = .ok (.return_, 1) := by decide +kernel
theorem dX8_solve_0 : decode cX8_solve 0 = .ok (.aload_n 0, 1) := by decide +kernel
theorem dX8_solve_1 : decode cX8_solve 1 = .ok (.iload_n 1, 1) := by decide +kernel
theorem dX8_solve_2 : decode cX8_solve 2 = .ok (.ifCond .lt 8, 3) := by decide +kernel
theorem dX8_solve_5 : decode cX8_solve 5 = .ok (.iload_n 1, 1) := by decide +kernel
theorem dX8_solve_6 : decode cX8_solve 6 = .ok (.iconst 5, 1) := by decide +kernel
theorem dX8_solve_7 : decode cX8_solve 7 = .ok (.if_icmp .le 7, 3) := by decide +kernel
theorem dX8_solve_10 : decode cX8_solve 10 = .ok (.iconst 1, 1) := by decide +kernel
theorem dX8_solve_11 : decode cX8_solve 11 = .ok (.goto 15, 3) := by decide +kernel
theorem dX8_solve_14 : decode cX8_solve 14 = .ok (.aload_n 0, 1) := by decide +kernel
theorem dX8_solve_15 : decode cX8_solve 15 = .ok (.invokevirtual 135, 3) := by decide +kernel
theorem dX8_solve_18 : decode cX8_solve 18 = .ok (.ifCond .eq 7, 3) := by decide +kernel
theorem dX8_solve_21 : decode cX8_solve 21 = .ok (.iconst 2, 1) := by decide +kernel
theorem dX8_solve_22 : decode cX8_solve 22 = .ok (.goto 4, 3) := by decide +kernel
theorem dX8_solve_25 : decode cX8_solve 25 = .ok (.iconst 0, 1) := by decide +kernel
theorem dX8_solve_26 : decode cX8_solve 26 = .ok (.putfield 7, 3) := by decide +kernel
theorem dX8_solve_29 : decode cX8_solve 29 = .ok (.aload_n 0, 1) := by decide +kernel
theorem dX8_solve_30 : decode cX8_solve 30 = .ok (.getfield 7, 3) := by decide +kernel
theorem dX8_solve_33 : decode cX8_solve 33 = .ok (.ifCond .eq 5, 3) := by decide +kernel
theorem dX8_solve_36 : decode cX8_solve 36 = .ok (.iconst 0, 1) := by decide +kernel
theorem dX8_solve_37 : decode cX8_solve 37 = .ok (.ireturn, 1) := by decide +kernel
theorem dX8_solve_38 : decode cX8_solve 38 = .ok (.aload_n 0, 1) := by decide +kernel
theorem dX8_solve_39 : decode cX8_solve 39 = .ok (.getfield 62, 3) := by decide +kernel
theorem dX8_solve_42 : decode cX8_solve 42 = .ok (.iconst 3, 1) := by decide +kernel
theorem dX8_solve_43 : decode cX8_solve 43 = .ok (.if_icmp .ge 10, 3) := by decide +kernel
theorem dX8_solve_46 : decode cX8_solve 46 = .ok (.aload_n 0, 1) := by decide +kernel
theorem dX8_solve_47 : decode cX8_solve 47 = .ok (.invokevirtual 139, 3) := by decide +kernel
theorem dX8_solve_50 : decode cX8_solve 50 = .ok (.goto 8, 3) := by decide +kernel
theorem dX8_solve_53 : decode cX8_solve 53 = .ok (.aload_n 0, 1) := by decide +kernel
theorem dX8_solve_54 : decode cX8_solve 54 = .ok (.iload_n 1, 1) := by decide +kernel
theorem dX8_solve_55 : decode cX8_solve 55 = .ok (.invokevirtual 142, 3) := by decide +kernel
theorem dX8_solve_58 : decode cX8_solve 58 = .ok (.aload_n 0, 1) := by decide +kernel
theorem dX8_solve_59 : decode cX8_solve 59 = .ok (.getfield 38, 3) := by decide +kernel
theorem dX8_solve_62 : decode cX8_solve 62 = .ok (.ifCond .eq 10, 3) := by decide +kernel
theorem dX8_solve_65 : decode cX8_solve 65 = .ok (.aload_n 0, 1) := by decide +kernel
theorem dX8_solve_66 : decode cX8_solve 66 = .ok (.getfield 44, 3) := by decide +kernel
theorem dX8_solve_69 : decode cX8_solve 69 = .ok (.goto 4, 3) := by decide +kernel
theorem dX8_solve_72 : decode cX8_solve 72 = .ok (.iconst (-1), 1) := by decide +kernel
theorem dX8_solve_73 : decode cX8_solve 73 = .ok (.ireturn, 1) := by decide +kernel
theorem dX8_exact_0 : decode cX8_exact 0 = .ok (.aload_n 0, 1) := by decide +kernel
theorem dX8_exact_1 : decode cX8_exact 1 = .ok (.iconst 0, 1) := by decide +kernel
theorem dX8_exact_2 : decode cX8_exact 2 = .ok (.putfield 7, 3) := by decide +kernel
theorem dX8_exact_5 : decode cX8_exact 5 = .ok (.aload_n 0, 1) := by decide +kernel
theorem dX8_exact_6 : decode cX8_exact 6 = .ok (.getfield 38, 3) := by decide +kernel
theorem dX8_exact_9 : decode cX8_exact 9 = .ok (.ifCond .eq 14, 3) := by decide +kernel
theorem dX8_exact_12 : decode cX8_exact 12 = .ok (.aload_n 0, 1) := by decide +kernel
theorem dX8_exact_13 : decode cX8_exact 13 = .ok (.getfield 41, 3) := by decide +kernel
theorem dX8_exact_16 : decode cX8_exact 16 = .ok (.ifCond .eq 7, 3) := by decide +kernel
theorem dX8_exact_19 : decode cX8_exact 19 = .ok (.iconst 1, 1) := by decide +kernel
theorem dX8_exact_20 : decode cX8_exact 20 = .ok (.goto 4, 3) := by decide +kernel
theorem dX8_exact_23 : decode cX8_exact 23 = .ok (.iconst 0, 1) := by decide +kernel
theorem dX8_exact_24 : decode cX8_exact 24 = .ok (.ireturn, 1) := by decide +kernel
theorem dX8_at_0 : decode cX8_at 0 = .ok (.aload_n 0, 1) := by decide +kernel
theorem dX8_at_1 : decode cX8_at 1 = .ok (.iload_n 1, 1) := by decide +kernel
theorem dX8_at_2 : decode cX8_at 2 = .ok (.ifCond .lt 24, 3) := by decide +kernel
theorem dX8_at_5 : decode cX8_at 5 = .ok (.iload_n 1, 1) := by decide +kernel
theorem dX8_at_6 : decode cX8_at 6 = .ok (.aload_n 0, 1) := by decide +kernel
theorem dX8_at_7 : decode cX8_at 7 = .ok (.getfield 62, 3) := by decide +kernel
theorem dX8_at_10 : decode cX8_at 10 = .ok (.if_icmp .ge 16, 3) := by decide +kernel
theorem dX8_at_13 : decode cX8_at 13 = .ok (.iload_n 2, 1) := by decide +kernel
theorem dX8_at_14 : decode cX8_at 14 = .ok (.ifCond .lt 12, 3) := by decide +kernel
theorem dX8_at_17 : decode cX8_at 17 = .ok (.iload_n 3, 1) := by decide +kernel
theorem dX8_at_18 : decode cX8_at 18 = .ok (.ifCond .lt 8, 3) := by decide +kernel
theorem dX8_at_21 : decode cX8_at 21 = .ok (.iload_n 3, 1) := by decide +kernel
theorem dX8_at_22 : decode cX8_at 22 = .ok (.iconst 1, 1) := by decide +kernel
theorem dX8_at_23 : decode cX8_at 23 = .ok (.if_icmp .le 7, 3) := by decide +kernel
theorem dX8_at_26 : decode cX8_at 26 = .ok (.iconst 1, 1) := by decide +kernel
theorem dX8_at_27 : decode cX8_at 27 = .ok (.goto 15, 3) := by decide +kernel
theorem dX8_at_30 : decode cX8_at 30 = .ok (.aload_n 0, 1) := by decide +kernel
theorem dX8_at_31 : decode cX8_at 31 = .ok (.getfield 38, 3) := by decide +kernel
theorem dX8_at_34 : decode cX8_at 34 = .ok (.ifCond .ne 7, 3) := by decide +kernel
theorem dX8_at_37 : decode cX8_at 37 = .ok (.iconst 2, 1) := by decide +kernel
theorem dX8_at_38 : decode cX8_at 38 = .ok (.goto 4, 3) := by decide +kernel
theorem dX8_at_41 : decode cX8_at 41 = .ok (.iconst 0, 1) := by decide +kernel
theorem dX8_at_42 : decode cX8_at 42 = .ok (.putfield 7, 3) := by decide +kernel
theorem dX8_at_45 : decode cX8_at 45 = .ok (.aload_n 0, 1) := by decide +kernel
theorem dX8_at_46 : decode cX8_at 46 = .ok (.getfield 7, 3) := by decide +kernel
theorem dX8_at_49 : decode cX8_at 49 = .ok (.ifCond .eq 5, 3) := by decide +kernel
theorem dX8_at_52 : decode cX8_at 52 = .ok (.iconst 0, 1) := by decide +kernel
theorem dX8_at_53 : decode cX8_at 53 = .ok (.ireturn, 1) := by decide +kernel
theorem dX8_at_54 : decode cX8_at 54 = .ok (.aload_n 0, 1) := by decide +kernel
theorem dX8_at_55 : decode cX8_at 55 = .ok (.getfield 50, 3) := by decide +kernel
theorem dX8_at_58 : decode cX8_at 58 = .ok (.sipush 400, 3) := by decide +kernel
theorem dX8_at_61 : decode cX8_at 61 = .ok (.iload_n 1, 1) := by decide +kernel
theorem dX8_at_62 : decode cX8_at 62 = .ok (.imul, 1) := by decide +kernel
theorem dX8_at_63 : decode cX8_at 63 = .ok (.iload_n 2, 1) := by decide +kernel
theorem dX8_at_64 : decode cX8_at 64 = .ok (.aload_n 0, 1) := by decide +kernel
theorem dX8_at_65 : decode cX8_at 65 = .ok (.getfield 47, 3) := by decide +kernel
theorem dX8_at_68 : decode cX8_at 68 = .ok (.if_icmp .ge 7, 3) := by decide +kernel
theorem dX8_at_71 : decode cX8_at 71 = .ok (.iload_n 2, 1) := by decide +kernel
theorem dX8_at_72 : decode cX8_at 72 = .ok (.goto 7, 3) := by decide +kernel
theorem dX8_at_75 : decode cX8_at 75 = .ok (.aload_n 0, 1) := by decide +kernel
theorem dX8_at_76 : decode cX8_at 76 = .ok (.getfield 47, 3) := by decide +kernel
theorem dX8_at_79 : decode cX8_at 79 = .ok (.iadd, 1) := by decide +kernel
theorem dX8_at_80 : decode cX8_at 80 = .ok (.iaload, 1) := by decide +kernel
theorem dX8_at_81 : decode cX8_at 81 = .ok (.istore 4, 2) := by decide +kernel
theorem dX8_at_83 : decode cX8_at 83 = .ok (.iload_n 3, 1) := by decide +kernel
theorem dX8_at_84 : decode cX8_at 84 = .ok (.ifCond .ne 11, 3) := by decide +kernel
theorem dX8_at_87 : decode cX8_at 87 = .ok (.iload 4, 2) := by decide +kernel
theorem dX8_at_89 : decode cX8_at 89 = .ok (.bipush 6, 2) := by decide +kernel
theorem dX8_at_91 : decode cX8_at 91 = .ok (.irem, 1) := by decide +kernel
theorem dX8_at_92 : decode cX8_at 92 = .ok (.goto 8, 3) := by decide +kernel
theorem dX8_at_95 : decode cX8_at 95 = .ok (.iload 4, 2) := by decide +kernel
theorem dX8_at_97 : decode cX8_at 97 = .ok (.bipush 6, 2) := by decide +kernel
theorem dX8_at_99 : decode cX8_at 99 = .ok (.idiv, 1) := by decide +kernel
theorem dX8_at_100 : decode cX8_at 100 = .ok (.ireturn, 1) := by decide +kernel
theorem dX8_last_0 : decode cX8_last 0 = .ok (.aload_n 0, 1) := by decide +kernel
theorem dX8_last_1 : decode cX8_last 1 = .ok (.aload_n 0, 1) := by decide +kernel
theorem dX8_last_2 : decode cX8_last 2 = .ok (.getfield 38, 3) := by decide +kernel
theorem dX8_last_5 : decode cX8_last 5 = .ok (.ifCond .eq 7, 3) := by decide +kernel
theorem dX8_last_8 : decode cX8_last 8 = .ok (.iconst 0, 1) := by decide +kernel
theorem dX8_last_9 : decode cX8_last 9 = .ok (.goto 4, 3) := by decide +kernel
theorem dX8_last_12 : decode cX8_last 12 = .ok (.iconst 1, 1) := by decide +kernel
theorem dX8_last_13 : decode cX8_last 13 = .ok (.putfield 7, 3) := by decide +kernel
theorem dX8_last_16 : decode cX8_last 16 = .ok (.aload_n 0, 1) := by decide +kernel
theorem dX8_last_17 : decode cX8_last 17 = .ok (.getfield 7, 3) := by decide +kernel
theorem dX8_last_20 : decode cX8_last 20 = .ok (.ifCond .eq 7, 3) := by decide +kernel
theorem dX8_last_23 : decode cX8_last 23 = .ok (.iconst 0, 1) := by decide +kernel
theorem dX8_last_24 : decode cX8_last 24 = .ok (.goto 7, 3) := by decide +kernel
theorem dX8_last_27 : decode cX8_last 27 = .ok (.aload_n 0, 1) := by decide +kernel
theorem dX8_last_28 : decode cX8_last 28 = .ok (.getfield 47, 3) := by decide +kernel
theorem dX8_last_31 : decode cX8_last 31 = .ok (.ireturn, 1) := by decide +kernel
theorem dX8_alone_0 : decode cX8_alone 0 = .ok (.aload_n 0, 1) := by decide +kernel
theorem dX8_alone_1 : decode cX8_alone 1 = .ok (.iload_n 1, 1) := by decide +kernel
theorem dX8_alone_2 : decode cX8_alone 2 = .ok (.ifCond .lt 11, 3) := by decide +kernel
theorem dX8_alone_5 : decode cX8_alone 5 = .ok (.iload_n 1, 1) := by decide +kernel
theorem dX8_alone_6 : decode cX8_alone 6 = .ok (.aload_n 0, 1) := by decide +kernel
theorem dX8_alone_7 : decode cX8_alone 7 = .ok (.getfield 62, 3) := by decide +kernel
theorem dX8_alone_10 : decode cX8_alone 10 = .ok (.if_icmp .lt 7, 3) := by decide +kernel
theorem dX8_alone_13 : decode cX8_alone 13 = .ok (.iconst 1, 1) := by decide +kernel
theorem dX8_alone_14 : decode cX8_alone 14 = .ok (.goto 26, 3) := by decide +kernel
theorem dX8_alone_17 : decode cX8_alone 17 = .ok (.aload_n 0, 1) := by decide +kernel
theorem dX8_alone_18 : decode cX8_alone 18 = .ok (.getfield 23, 3) := by decide +kernel
theorem dX8_alone_21 : decode cX8_alone 21 = .ok (.iload_n 1, 1) := by decide +kernel
theorem dX8_alone_22 : decode cX8_alone 22 = .ok (.iaload, 1) := by decide +kernel
theorem dX8_alone_23 : decode cX8_alone 23 = .ok (.ifCond .lt 12, 3) := by decide +kernel
theorem dX8_alone_26 : decode cX8_alone 26 = .ok (.aload_n 0, 1) := by decide +kernel
theorem dX8_alone_27 : decode cX8_alone 27 = .ok (.getfield 27, 3) := by decide +kernel
theorem dX8_alone_30 : decode cX8_alone 30 = .ok (.iload_n 1, 1) := by decide +kernel
theorem dX8_alone_31 : decode cX8_alone 31 = .ok (.iaload, 1) := by decide +kernel
theorem dX8_alone_32 : decode cX8_alone 32 = .ok (.ifCond .ge 7, 3) := by decide +kernel
theorem dX8_alone_35 : decode cX8_alone 35 = .ok (.iconst 2, 1) := by decide +kernel
theorem dX8_alone_36 : decode cX8_alone 36 = .ok (.goto 4, 3) := by decide +kernel
theorem dX8_alone_39 : decode cX8_alone 39 = .ok (.iconst 0, 1) := by decide +kernel
theorem dX8_alone_40 : decode cX8_alone 40 = .ok (.putfield 7, 3) := by decide +kernel
theorem dX8_alone_43 : decode cX8_alone 43 = .ok (.aload_n 0, 1) := by decide +kernel
theorem dX8_alone_44 : decode cX8_alone 44 = .ok (.getfield 7, 3) := by decide +kernel
theorem dX8_alone_47 : decode cX8_alone 47 = .ok (.ifCond .eq 7, 3) := by decide +kernel
theorem dX8_alone_50 : decode cX8_alone 50 = .ok (.iconst 0, 1) := by decide +kernel
theorem dX8_alone_51 : decode cX8_alone 51 = .ok (.goto 8, 3) := by decide +kernel
theorem dX8_alone_54 : decode cX8_alone 54 = .ok (.aload_n 0, 1) := by decide +kernel
theorem dX8_alone_55 : decode cX8_alone 55 = .ok (.iload_n 1, 1) := by decide +kernel
theorem dX8_alone_56 : decode cX8_alone 56 = .ok (.invokevirtual 125, 3) := by decide +kernel
theorem dX8_alone_59 : decode cX8_alone 59 = .ok (.ireturn, 1) := by decide +kernel
theorem dX8_bound_0 : decode cX8_bound 0 = .ok (.aload_n 0, 1) := by decide +kernel
theorem dX8_bound_1 : decode cX8_bound 1 = .ok (.aload_n 0, 1) := by decide +kernel
theorem dX8_bound_2 : decode cX8_bound 2 = .ok (.invokevirtual 135, 3) := by decide +kernel
theorem dX8_bound_5 : decode cX8_bound 5 = .ok (.ifCond .eq 7, 3) := by decide +kernel
theorem dX8_bound_8 : decode cX8_bound 8 = .ok (.iconst 1, 1) := by decide +kernel
theorem dX8_bound_9 : decode cX8_bound 9 = .ok (.goto 4, 3) := by decide +kernel
theorem dX8_bound_12 : decode cX8_bound 12 = .ok (.iconst 0, 1) := by decide +kernel
theorem dX8_bound_13 : decode cX8_bound 13 = .ok (.putfield 7, 3) := by decide +kernel
theorem dX8_bound_16 : decode cX8_bound 16 = .ok (.aload_n 0, 1) := by decide +kernel
theorem dX8_bound_17 : decode cX8_bound 17 = .ok (.getfield 7, 3) := by decide +kernel
theorem dX8_bound_20 : decode cX8_bound 20 = .ok (.ifCond .eq 7, 3) := by decide +kernel
theorem dX8_bound_23 : decode cX8_bound 23 = .ok (.iconst 0, 1) := by decide +kernel
theorem dX8_bound_24 : decode cX8_bound 24 = .ok (.goto 7, 3) := by decide +kernel
theorem dX8_bound_27 : decode cX8_bound 27 = .ok (.aload_n 0, 1) := by decide +kernel
theorem dX8_bound_28 : decode cX8_bound 28 = .ok (.invokevirtual 146, 3) := by decide +kernel
theorem dX8_bound_31 : decode cX8_bound 31 = .ok (.ireturn, 1) := by decide +kernel
theorem dX8_share_0 : decode cX8_share 0 = .ok (.aload_n 0, 1) := by decide +kernel
theorem dX8_share_1 : decode cX8_share 1 = .ok (.aload_n 0, 1) := by decide +kernel
theorem dX8_share_2 : decode cX8_share 2 = .ok (.getfield 38, 3) := by decide +kernel
theorem dX8_share_5 : decode cX8_share 5 = .ok (.ifCond .eq 10, 3) := by decide +kernel
theorem dX8_share_8 : decode cX8_share 8 = .ok (.aload_n 0, 1) := by decide +kernel
theorem dX8_share_9 : decode cX8_share 9 = .ok (.invokevirtual 135, 3) := by decide +kernel
theorem dX8_share_12 : decode cX8_share 12 = .ok (.ifCond .eq 7, 3) := by decide +kernel
theorem dX8_share_15 : decode cX8_share 15 = .ok (.iconst 1, 1) := by decide +kernel
theorem dX8_share_16 : decode cX8_share 16 = .ok (.goto 15, 3) := by decide +kernel
theorem dX8_share_19 : decode cX8_share 19 = .ok (.aload_n 0, 1) := by decide +kernel
theorem dX8_share_20 : decode cX8_share 20 = .ok (.getfield 44, 3) := by decide +kernel
theorem dX8_share_23 : decode cX8_share 23 = .ok (.ifCond .ne 7, 3) := by decide +kernel
theorem dX8_share_26 : decode cX8_share 26 = .ok (.iconst 2, 1) := by decide +kernel
theorem dX8_share_27 : decode cX8_share 27 = .ok (.goto 4, 3) := by decide +kernel
theorem dX8_share_30 : decode cX8_share 30 = .ok (.iconst 0, 1) := by decide +kernel
theorem dX8_share_31 : decode cX8_share 31 = .ok (.putfield 7, 3) := by decide +kernel
theorem dX8_share_34 : decode cX8_share 34 = .ok (.aload_n 0, 1) := by decide +kernel
theorem dX8_share_35 : decode cX8_share 35 = .ok (.getfield 7, 3) := by decide +kernel
theorem dX8_share_38 : decode cX8_share 38 = .ok (.ifCond .eq 7, 3) := by decide +kernel
theorem dX8_share_41 : decode cX8_share 41 = .ok (.iconst 0, 1) := by decide +kernel
theorem dX8_share_42 : decode cX8_share 42 = .ok (.goto 15, 3) := by decide +kernel
theorem dX8_share_45 : decode cX8_share 45 = .ok (.bipush 100, 2) := by decide +kernel
theorem dX8_share_47 : decode cX8_share 47 = .ok (.aload_n 0, 1) := by decide +kernel
theorem dX8_share_48 : decode cX8_share 48 = .ok (.invokevirtual 146, 3) := by decide +kernel
theorem dX8_share_51 : decode cX8_share 51 = .ok (.imul, 1) := by decide +kernel
theorem dX8_share_52 : decode cX8_share 52 = .ok (.aload_n 0, 1) := by decide +kernel
theorem dX8_share_53 : decode cX8_share 53 = .ok (.getfield 44, 3) := by decide +kernel
theorem dX8_share_56 : decode cX8_share 56 = .ok (.idiv, 1) := by decide +kernel
theorem dX8_share_57 : decode cX8_share 57 = .ok (.ireturn, 1) := by decide +kernel
theorem dX8_count_0 : decode cX8_count 0 = .ok (.aload_n 0, 1) := by decide +kernel
theorem dX8_count_1 : decode cX8_count 1 = .ok (.iconst 0, 1) := by decide +kernel
theorem dX8_count_2 : decode cX8_count 2 = .ok (.putfield 7, 3) := by decide +kernel
theorem dX8_count_5 : decode cX8_count 5 = .ok (.iconst 0, 1) := by decide +kernel
theorem dX8_count_6 : decode cX8_count 6 = .ok (.istore_n 2, 1) := by decide +kernel
theorem dX8_count_7 : decode cX8_count 7 = .ok (.iconst 0, 1) := by decide +kernel
theorem dX8_count_8 : decode cX8_count 8 = .ok (.istore_n 3, 1) := by decide +kernel
theorem dX8_count_9 : decode cX8_count 9 = .ok (.iload_n 3, 1) := by decide +kernel
theorem dX8_count_10 : decode cX8_count 10 = .ok (.bipush 36, 2) := by decide +kernel
theorem dX8_count_12 : decode cX8_count 12 = .ok (.if_icmp .ge 26, 3) := by decide +kernel
theorem dX8_count_15 : decode cX8_count 15 = .ok (.iload_n 2, 1) := by decide +kernel
theorem dX8_count_16 : decode cX8_count 16 = .ok (.aload_n 0, 1) := by decide +kernel
theorem dX8_count_17 : decode cX8_count 17 = .ok (.getfield 19, 3) := by decide +kernel
theorem dX8_count_20 : decode cX8_count 20 = .ok (.iload_n 3, 1) := by decide +kernel
theorem dX8_count_21 : decode cX8_count 21 = .ok (.baload, 1) := by decide +kernel
theorem dX8_count_22 : decode cX8_count 22 = .ok (.ifCond .eq 7, 3) := by decide +kernel
theorem dX8_count_25 : decode cX8_count 25 = .ok (.iconst 1, 1) := by decide +kernel
theorem dX8_count_26 : decode cX8_count 26 = .ok (.goto 4, 3) := by decide +kernel
theorem dX8_count_29 : decode cX8_count 29 = .ok (.iconst 0, 1) := by decide +kernel
theorem dX8_count_30 : decode cX8_count 30 = .ok (.iadd, 1) := by decide +kernel
theorem dX8_count_31 : decode cX8_count 31 = .ok (.istore_n 2, 1) := by decide +kernel
theorem dX8_count_32 : decode cX8_count 32 = .ok (.iinc 3 1, 3) := by decide +kernel
theorem dX8_count_35 : decode cX8_count 35 = .ok (.goto (-26), 3) := by decide +kernel
theorem dX8_count_38 : decode cX8_count 38 = .ok (.iload_n 1, 1) := by decide +kernel
theorem dX8_count_39 : decode cX8_count 39 = .ok (.ifCond .ne 10, 3) := by decide +kernel
theorem dX8_count_42 : decode cX8_count 42 = .ok (.aload_n 0, 1) := by decide +kernel
theorem dX8_count_43 : decode cX8_count 43 = .ok (.getfield 62, 3) := by decide +kernel
theorem dX8_count_46 : decode cX8_count 46 = .ok (.goto 60, 3) := by decide +kernel
theorem dX8_count_49 : decode cX8_count 49 = .ok (.iload_n 1, 1) := by decide +kernel
theorem dX8_count_50 : decode cX8_count 50 = .ok (.iconst 1, 1) := by decide +kernel
theorem dX8_count_51 : decode cX8_count 51 = .ok (.if_icmp .ne 10, 3) := by decide +kernel
theorem dX8_count_54 : decode cX8_count 54 = .ok (.aload_n 0, 1) := by decide +kernel
theorem dX8_count_55 : decode cX8_count 55 = .ok (.getfield 13, 3) := by decide +kernel
theorem dX8_count_58 : decode cX8_count 58 = .ok (.goto 48, 3) := by decide +kernel
theorem dX8_count_61 : decode cX8_count 61 = .ok (.iload_n 1, 1) := by decide +kernel
theorem dX8_count_62 : decode cX8_count 62 = .ok (.iconst 2, 1) := by decide +kernel
theorem dX8_count_63 : decode cX8_count 63 = .ok (.if_icmp .ne 10, 3) := by decide +kernel
theorem dX8_count_66 : decode cX8_count 66 = .ok (.aload_n 0, 1) := by decide +kernel
theorem dX8_count_67 : decode cX8_count 67 = .ok (.getfield 16, 3) := by decide +kernel
theorem dX8_count_70 : decode cX8_count 70 = .ok (.goto 36, 3) := by decide +kernel
theorem dX8_count_73 : decode cX8_count 73 = .ok (.iload_n 1, 1) := by decide +kernel
theorem dX8_count_74 : decode cX8_count 74 = .ok (.iconst 3, 1) := by decide +kernel
theorem dX8_count_75 : decode cX8_count 75 = .ok (.if_icmp .ne 7, 3) := by decide +kernel
theorem dX8_count_78 : decode cX8_count 78 = .ok (.iload_n 2, 1) := by decide +kernel
theorem dX8_count_79 : decode cX8_count 79 = .ok (.goto 27, 3) := by decide +kernel
theorem dX8_count_82 : decode cX8_count 82 = .ok (.iload_n 1, 1) := by decide +kernel
theorem dX8_count_83 : decode cX8_count 83 = .ok (.iconst 4, 1) := by decide +kernel
theorem dX8_count_84 : decode cX8_count 84 = .ok (.if_icmp .ne 21, 3) := by decide +kernel
theorem dX8_count_87 : decode cX8_count 87 = .ok (.aload_n 0, 1) := by decide +kernel
theorem dX8_count_88 : decode cX8_count 88 = .ok (.getfield 38, 3) := by decide +kernel
theorem dX8_count_91 : decode cX8_count 91 = .ok (.ifCond .eq 10, 3) := by decide +kernel
theorem dX8_count_94 : decode cX8_count 94 = .ok (.aload_n 0, 1) := by decide +kernel
theorem dX8_count_95 : decode cX8_count 95 = .ok (.getfield 44, 3) := by decide +kernel
theorem dX8_count_98 : decode cX8_count 98 = .ok (.goto 8, 3) := by decide +kernel
theorem dX8_count_101 : decode cX8_count 101 = .ok (.iconst (-1), 1) := by decide +kernel
theorem dX8_count_102 : decode cX8_count 102 = .ok (.goto 4, 3) := by decide +kernel
theorem dX8_count_105 : decode cX8_count 105 = .ok (.iconst (-1), 1) := by decide +kernel
theorem dX8_count_106 : decode cX8_count 106 = .ok (.ireturn, 1) := by decide +kernel
