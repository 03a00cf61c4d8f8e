theorem dX1_init_0 : decode cX1_init 0 = .ok (.aload_n 0, 1) := by decide +kernel
theorem dX1_init_1 : decode cX1_init 1 = .ok (.invokespecial 3, 3) := by decide +kernel
theorem dX1_init_4 : decode cX1_init 4 = .ok (.aload_n 0, 1) := by decide +kernel
theorem dX1_init_5 : decode cX1_init 5 = .ok (.aload_n 1, 1) := by decide +kernel
theorem dX1_init_6 : decode cX1_init 6 = .ok (.putfield 9, 3) := by decide +kernel
theorem dX1_init_9 : decode cX1_init 9 = .ok (.aload_n 0, 1) := by decide +kernel
theorem dX1_init_10 : decode cX1_init 10 = .ok (.aload_n 1, 1) := by decide +kernel
theorem dX1_init_11 : decode cX1_init 11 = .ok (.getfield 15, 3) := by decide +kernel
theorem dX1_init_14 : decode cX1_init 14 = .ok (.putfield 21, 3) := by decide +kernel
theorem dX1_init_17 : decode cX1_init 17 = .ok (.aload_n 0, 1) := by decide +kernel
theorem dX1_init_18 : decode cX1_init 18 = .ok (.aload_n 0, 1) := by decide +kernel
theorem dX1_init_19 : decode cX1_init 19 = .ok (.getfield 21, 3) := by decide +kernel
theorem dX1_init_22 : decode cX1_init 22 = .ok (.invokestatic 22, 3) := by decide +kernel
theorem dX1_init_25 : decode cX1_init 25 = .ok (.newarray .int, 2) := by decide +kernel
theorem dX1_init_27 : decode cX1_init 27 = .ok (.putfield 26, 3) := by decide +kernel
theorem dX1_init_30 : decode cX1_init 30 = .ok (.aload_n 0, 1) := by decide +kernel
theorem dX1_init_31 : decode cX1_init 31 = .ok (.aload_n 0, 1) := by decide +kernel
theorem dX1_init_32 : decode cX1_init 32 = .ok (.getfield 21, 3) := by decide +kernel
theorem dX1_init_35 : decode cX1_init 35 = .ok (.invokestatic 22, 3) := by decide +kernel
theorem dX1_init_38 : decode cX1_init 38 = .ok (.newarray .int, 2) := by decide +kernel
theorem dX1_init_40 : decode cX1_init 40 = .ok (.putfield 30, 3) := by decide +kernel
theorem dX1_init_43 : decode cX1_init 43 = .ok (.return_, 1) := by decide +kernel
theorem dX1_make_0 : decode cX1_make 0 = .ok (.aload_n 0, 1) := by decide +kernel
theorem dX1_make_1 : decode cX1_make 1 = .ok (.aload_n 0, 1) := by decide +kernel
theorem dX1_make_2 : decode cX1_make 2 = .ok (.aload_n 0, 1) := by decide +kernel
theorem dX1_make_3 : decode cX1_make 3 = .ok (.getfield 9, 3) := by decide +kernel
theorem dX1_make_6 : decode cX1_make 6 = .ok (.getfield 33, 3) := by decide +kernel
theorem dX1_make_9 : decode cX1_make 9 = .ok (.iconst 0, 1) := by decide +kernel
theorem dX1_make_10 : decode cX1_make 10 = .ok (.invokevirtual 36, 3) := by decide +kernel
theorem dX1_make_13 : decode cX1_make 13 = .ok (.putfield 40, 3) := by decide +kernel
theorem dX1_make_16 : decode cX1_make 16 = .ok (.aload_n 0, 1) := by decide +kernel
theorem dX1_make_17 : decode cX1_make 17 = .ok (.aload_n 0, 1) := by decide +kernel
theorem dX1_make_18 : decode cX1_make 18 = .ok (.aload_n 0, 1) := by decide +kernel
theorem dX1_make_19 : decode cX1_make 19 = .ok (.getfield 9, 3) := by decide +kernel
theorem dX1_make_22 : decode cX1_make 22 = .ok (.getfield 33, 3) := by decide +kernel
theorem dX1_make_25 : decode cX1_make 25 = .ok (.iconst 1, 1) := by decide +kernel
theorem dX1_make_26 : decode cX1_make 26 = .ok (.invokevirtual 36, 3) := by decide +kernel
theorem dX1_make_29 : decode cX1_make 29 = .ok (.putfield 43, 3) := by decide +kernel
theorem dX1_make_32 : decode cX1_make 32 = .ok (.aload_n 0, 1) := by decide +kernel
theorem dX1_make_33 : decode cX1_make 33 = .ok (.aload_n 0, 1) := by decide +kernel
theorem dX1_make_34 : decode cX1_make 34 = .ok (.getfield 9, 3) := by decide +kernel
theorem dX1_make_37 : decode cX1_make 37 = .ok (.getfield 46, 3) := by decide +kernel
theorem dX1_make_40 : decode cX1_make 40 = .ok (.iconst 0, 1) := by decide +kernel
theorem dX1_make_41 : decode cX1_make 41 = .ok (.invokevirtual 36, 3) := by decide +kernel
theorem dX1_make_44 : decode cX1_make 44 = .ok (.bipush 36, 2) := by decide +kernel
theorem dX1_make_46 : decode cX1_make 46 = .ok (.aload_n 0, 1) := by decide +kernel
theorem dX1_make_47 : decode cX1_make 47 = .ok (.aload_n 0, 1) := by decide +kernel
theorem dX1_make_48 : decode cX1_make 48 = .ok (.getfield 9, 3) := by decide +kernel
theorem dX1_make_51 : decode cX1_make 51 = .ok (.getfield 46, 3) := by decide +kernel
theorem dX1_make_54 : decode cX1_make 54 = .ok (.iconst 1, 1) := by decide +kernel
theorem dX1_make_55 : decode cX1_make 55 = .ok (.invokevirtual 36, 3) := by decide +kernel
theorem dX1_make_58 : decode cX1_make 58 = .ok (.imul, 1) := by decide +kernel
theorem dX1_make_59 : decode cX1_make 59 = .ok (.iadd, 1) := by decide +kernel
theorem dX1_make_60 : decode cX1_make 60 = .ok (.istore_n 3, 1) := by decide +kernel
theorem dX1_make_61 : decode cX1_make 61 = .ok (.aload_n 0, 1) := by decide +kernel
theorem dX1_make_62 : decode cX1_make 62 = .ok (.iload_n 3, 1) := by decide +kernel
theorem dX1_make_63 : decode cX1_make 63 = .ok (.aload_n 0, 1) := by decide +kernel
theorem dX1_make_64 : decode cX1_make 64 = .ok (.getfield 40, 3) := by decide +kernel
theorem dX1_make_67 : decode cX1_make 67 = .ok (.bipush 36, 2) := by decide +kernel
theorem dX1_make_69 : decode cX1_make 69 = .ok (.aload_n 0, 1) := by decide +kernel
theorem dX1_make_70 : decode cX1_make 70 = .ok (.getfield 43, 3) := by decide +kernel
theorem dX1_make_73 : decode cX1_make 73 = .ok (.imul, 1) := by decide +kernel
theorem dX1_make_74 : decode cX1_make 74 = .ok (.iadd, 1) := by decide +kernel
theorem dX1_make_75 : decode cX1_make 75 = .ok (.invokevirtual 49, 3) := by decide +kernel
theorem dX1_make_78 : decode cX1_make 78 = .ok (.aload_n 1, 1) := by decide +kernel
theorem dX1_make_79 : decode cX1_make 79 = .ok (.aload_n 0, 1) := by decide +kernel
theorem dX1_make_80 : decode cX1_make 80 = .ok (.getfield 26, 3) := by decide +kernel
theorem dX1_make_83 : decode cX1_make 83 = .ok (.iload_n 3, 1) := by decide +kernel
theorem dX1_make_84 : decode cX1_make 84 = .ok (.invokestatic 53, 3) := by decide +kernel
theorem dX1_make_87 : decode cX1_make 87 = .ok (.putfield 56, 3) := by decide +kernel
theorem dX1_make_90 : decode cX1_make 90 = .ok (.aload_n 1, 1) := by decide +kernel
theorem dX1_make_91 : decode cX1_make 91 = .ok (.invokevirtual 61, 3) := by decide +kernel
theorem dX1_make_94 : decode cX1_make 94 = .ok (.ifCond .eq 13, 3) := by decide +kernel
theorem dX1_make_97 : decode cX1_make 97 = .ok (.aload_n 1, 1) := by decide +kernel
theorem dX1_make_98 : decode cX1_make 98 = .ok (.aload_n 0, 1) := by decide +kernel
theorem dX1_make_99 : decode cX1_make 99 = .ok (.aload_n 1, 1) := by decide +kernel
theorem dX1_make_100 : decode cX1_make 100 = .ok (.iload_n 3, 1) := by decide +kernel
theorem dX1_make_101 : decode cX1_make 101 = .ok (.invokevirtual 65, 3) := by decide +kernel
theorem dX1_make_104 : decode cX1_make 104 = .ok (.putfield 69, 3) := by decide +kernel
theorem dX1_make_107 : decode cX1_make 107 = .ok (.return_, 1) := by decide +kernel
theorem dX1_placeOf_0 : decode cX1_placeOf 0 = .ok (.iload_n 2, 1) := by decide +kernel
theorem dX1_placeOf_1 : decode cX1_placeOf 1 = .ok (.aload_n 0, 1) := by decide +kernel
theorem dX1_placeOf_2 : decode cX1_placeOf 2 = .ok (.getfield 21, 3) := by decide +kernel
theorem dX1_placeOf_5 : decode cX1_placeOf 5 = .ok (.if_icmp .ge 11, 3) := by decide +kernel
theorem dX1_placeOf_8 : decode cX1_placeOf 8 = .ok (.aload_n 1, 1) := by decide +kernel
theorem dX1_placeOf_9 : decode cX1_placeOf 9 = .ok (.iload_n 2, 1) := by decide +kernel
theorem dX1_placeOf_10 : decode cX1_placeOf 10 = .ok (.invokestatic 53, 3) := by decide +kernel
theorem dX1_placeOf_13 : decode cX1_placeOf 13 = .ok (.goto 4, 3) := by decide +kernel
theorem dX1_placeOf_16 : decode cX1_placeOf 16 = .ok (.iconst 0, 1) := by decide +kernel
theorem dX1_placeOf_17 : decode cX1_placeOf 17 = .ok (.ireturn, 1) := by decide +kernel
theorem dX1_measure_0 : decode cX1_measure 0 = .ok (.aload_n 0, 1) := by decide +kernel
theorem dX1_measure_1 : decode cX1_measure 1 = .ok (.getfield 26, 3) := by decide +kernel
theorem dX1_measure_4 : decode cX1_measure 4 = .ok (.iconst (-1), 1) := by decide +kernel
theorem dX1_measure_5 : decode cX1_measure 5 = .ok (.invokestatic 72, 3) := by decide +kernel
theorem dX1_measure_8 : decode cX1_measure 8 = .ok (.aload_n 0, 1) := by decide +kernel
theorem dX1_measure_9 : decode cX1_measure 9 = .ok (.iconst 0, 1) := by decide +kernel
theorem dX1_measure_10 : decode cX1_measure 10 = .ok (.putfield 78, 3) := by decide +kernel
theorem dX1_measure_13 : decode cX1_measure 13 = .ok (.aload_n 0, 1) := by decide +kernel
theorem dX1_measure_14 : decode cX1_measure 14 = .ok (.iload_n 2, 1) := by decide +kernel
theorem dX1_measure_15 : decode cX1_measure 15 = .ok (.iconst 0, 1) := by decide +kernel
theorem dX1_measure_16 : decode cX1_measure 16 = .ok (.invokevirtual 81, 3) := by decide +kernel
theorem dX1_measure_19 : decode cX1_measure 19 = .ok (.iconst 0, 1) := by decide +kernel
theorem dX1_measure_20 : decode cX1_measure 20 = .ok (.istore_n 3, 1) := by decide +kernel
theorem dX1_measure_21 : decode cX1_measure 21 = .ok (.iconst 0, 1) := by decide +kernel
theorem dX1_measure_22 : decode cX1_measure 22 = .ok (.istore 4, 2) := by decide +kernel
theorem dX1_measure_24 : decode cX1_measure 24 = .ok (.iconst 1, 1) := by decide +kernel
theorem dX1_measure_25 : decode cX1_measure 25 = .ok (.istore 5, 2) := by decide +kernel
theorem dX1_measure_27 : decode cX1_measure 27 = .ok (.iload 5, 2) := by decide +kernel
theorem dX1_measure_29 : decode cX1_measure 29 = .ok (.iconst 2, 1) := by decide +kernel
theorem dX1_measure_30 : decode cX1_measure 30 = .ok (.aload_n 0, 1) := by decide +kernel
theorem dX1_measure_31 : decode cX1_measure 31 = .ok (.getfield 26, 3) := by decide +kernel
theorem dX1_measure_34 : decode cX1_measure 34 = .ok (.arraylength, 1) := by decide +kernel
theorem dX1_measure_35 : decode cX1_measure 35 = .ok (.imul, 1) := by decide +kernel
theorem dX1_measure_36 : decode cX1_measure 36 = .ok (.if_icmp .gt 86, 3) := by decide +kernel
theorem dX1_measure_39 : decode cX1_measure 39 = .ok (.iload_n 3, 1) := by decide +kernel
theorem dX1_measure_40 : decode cX1_measure 40 = .ok (.aload_n 0, 1) := by decide +kernel
theorem dX1_measure_41 : decode cX1_measure 41 = .ok (.getfield 78, 3) := by decide +kernel
theorem dX1_measure_44 : decode cX1_measure 44 = .ok (.if_icmp .ge 78, 3) := by decide +kernel
theorem dX1_measure_47 : decode cX1_measure 47 = .ok (.aload_n 0, 1) := by decide +kernel
theorem dX1_measure_48 : decode cX1_measure 48 = .ok (.getfield 26, 3) := by decide +kernel
theorem dX1_measure_51 : decode cX1_measure 51 = .ok (.iload_n 1, 1) := by decide +kernel
theorem dX1_measure_52 : decode cX1_measure 52 = .ok (.invokestatic 53, 3) := by decide +kernel
theorem dX1_measure_55 : decode cX1_measure 55 = .ok (.iconst (-1), 1) := by decide +kernel
theorem dX1_measure_56 : decode cX1_measure 56 = .ok (.if_icmp .eq 4, 3) := by decide +kernel
theorem dX1_measure_59 : decode cX1_measure 59 = .ok (.return_, 1) := by decide +kernel
theorem dX1_measure_60 : decode cX1_measure 60 = .ok (.aload_n 0, 1) := by decide +kernel
theorem dX1_measure_61 : decode cX1_measure 61 = .ok (.getfield 78, 3) := by decide +kernel
theorem dX1_measure_64 : decode cX1_measure 64 = .ok (.istore 6, 2) := by decide +kernel
theorem dX1_measure_66 : decode cX1_measure 66 = .ok (.iload_n 3, 1) := by decide +kernel
theorem dX1_measure_67 : decode cX1_measure 67 = .ok (.istore 7, 2) := by decide +kernel
theorem dX1_measure_69 : decode cX1_measure 69 = .ok (.iload 7, 2) := by decide +kernel
theorem dX1_measure_71 : decode cX1_measure 71 = .ok (.iload 6, 2) := by decide +kernel
theorem dX1_measure_73 : decode cX1_measure 73 = .ok (.if_icmp .ge 36, 3) := by decide +kernel
theorem dX1_measure_76 : decode cX1_measure 76 = .ok (.aload_n 0, 1) := by decide +kernel
theorem dX1_measure_77 : decode cX1_measure 77 = .ok (.aload_n 0, 1) := by decide +kernel
theorem dX1_measure_78 : decode cX1_measure 78 = .ok (.getfield 30, 3) := by decide +kernel
theorem dX1_measure_81 : decode cX1_measure 81 = .ok (.iload 7, 2) := by decide +kernel
theorem dX1_measure_83 : decode cX1_measure 83 = .ok (.invokestatic 53, 3) := by decide +kernel
theorem dX1_measure_86 : decode cX1_measure 86 = .ok (.iload 7, 2) := by decide +kernel
theorem dX1_measure_88 : decode cX1_measure 88 = .ok (.iload 4, 2) := by decide +kernel
theorem dX1_measure_90 : decode cX1_measure 90 = .ok (.if_icmp .ge 7, 3) := by decide +kernel
theorem dX1_measure_93 : decode cX1_measure 93 = .ok (.iconst 2, 1) := by decide +kernel
theorem dX1_measure_94 : decode cX1_measure 94 = .ok (.goto 4, 3) := by decide +kernel
theorem dX1_measure_97 : decode cX1_measure 97 = .ok (.iconst 1, 1) := by decide +kernel
theorem dX1_measure_98 : decode cX1_measure 98 = .ok (.iload 5, 2) := by decide +kernel
theorem dX1_measure_100 : decode cX1_measure 100 = .ok (.invokevirtual 84, 3) := by decide +kernel
theorem dX1_measure_103 : decode cX1_measure 103 = .ok (.iinc 7 1, 3) := by decide +kernel
theorem dX1_measure_106 : decode cX1_measure 106 = .ok (.goto (-37), 3) := by decide +kernel
theorem dX1_measure_109 : decode cX1_measure 109 = .ok (.iload 4, 2) := by decide +kernel
theorem dX1_measure_111 : decode cX1_measure 111 = .ok (.istore_n 3, 1) := by decide +kernel
theorem dX1_measure_112 : decode cX1_measure 112 = .ok (.iload 6, 2) := by decide +kernel
theorem dX1_measure_114 : decode cX1_measure 114 = .ok (.istore 4, 2) := by decide +kernel
theorem dX1_measure_116 : decode cX1_measure 116 = .ok (.iinc 5 1, 3) := by decide +kernel
theorem dX1_measure_119 : decode cX1_measure 119 = .ok (.goto (-92), 3) := by decide +kernel
theorem dX1_measure_122 : decode cX1_measure 122 = .ok (.return_, 1) := by decide +kernel
theorem dX1_reachBefore_0 : decode cX1_reachBefore 0 = .ok (.iload_n 1, 1) := by decide +kernel
theorem dX1_reachBefore_1 : decode cX1_reachBefore 1 = .ok (.bipush 36, 2) := by decide +kernel
theorem dX1_reachBefore_3 : decode cX1_reachBefore 3 = .ok (.irem, 1) := by decide +kernel
theorem dX1_reachBefore_4 : decode cX1_reachBefore 4 = .ok (.istore 4, 2) := by decide +kernel
theorem dX1_reachBefore_6 : decode cX1_reachBefore 6 = .ok (.iload_n 1, 1) := by decide +kernel
theorem dX1_reachBefore_7 : decode cX1_reachBefore 7 = .ok (.bipush 36, 2) := by decide +kernel
theorem dX1_reachBefore_9 : decode cX1_reachBefore 9 = .ok (.idiv, 1) := by decide +kernel
theorem dX1_reachBefore_10 : decode cX1_reachBefore 10 = .ok (.istore 5, 2) := by decide +kernel
theorem dX1_reachBefore_12 : decode cX1_reachBefore 12 = .ok (.iconst 0, 1) := by decide +kernel
theorem dX1_reachBefore_13 : decode cX1_reachBefore 13 = .ok (.istore 6, 2) := by decide +kernel
theorem dX1_reachBefore_15 : decode cX1_reachBefore 15 = .ok (.iload 6, 2) := by decide +kernel
theorem dX1_reachBefore_17 : decode cX1_reachBefore 17 = .ok (.iconst 5, 1) := by decide +kernel
theorem dX1_reachBefore_18 : decode cX1_reachBefore 18 = .ok (.if_icmp .ge 102, 3) := by decide +kernel
theorem dX1_reachBefore_21 : decode cX1_reachBefore 21 = .ok (.aload_n 0, 1) := by decide +kernel
theorem dX1_reachBefore_22 : decode cX1_reachBefore 22 = .ok (.iconst 0, 1) := by decide +kernel
theorem dX1_reachBefore_23 : decode cX1_reachBefore 23 = .ok (.iload 4, 2) := by decide +kernel
theorem dX1_reachBefore_25 : decode cX1_reachBefore 25 = .ok (.iload 6, 2) := by decide +kernel
theorem dX1_reachBefore_27 : decode cX1_reachBefore 27 = .ok (.invokevirtual 88, 3) := by decide +kernel
theorem dX1_reachBefore_30 : decode cX1_reachBefore 30 = .ok (.istore 7, 2) := by decide +kernel
theorem dX1_reachBefore_32 : decode cX1_reachBefore 32 = .ok (.iconst 0, 1) := by decide +kernel
theorem dX1_reachBefore_33 : decode cX1_reachBefore 33 = .ok (.istore 8, 2) := by decide +kernel
theorem dX1_reachBefore_35 : decode cX1_reachBefore 35 = .ok (.iload 8, 2) := by decide +kernel
theorem dX1_reachBefore_37 : decode cX1_reachBefore 37 = .ok (.iconst 5, 1) := by decide +kernel
theorem dX1_reachBefore_38 : decode cX1_reachBefore 38 = .ok (.if_icmp .ge 76, 3) := by decide +kernel
theorem dX1_reachBefore_41 : decode cX1_reachBefore 41 = .ok (.iload 7, 2) := by decide +kernel
theorem dX1_reachBefore_43 : decode cX1_reachBefore 43 = .ok (.iconst (-1), 1) := by decide +kernel
theorem dX1_reachBefore_44 : decode cX1_reachBefore 44 = .ok (.if_icmp .eq 70, 3) := by decide +kernel
theorem dX1_reachBefore_47 : decode cX1_reachBefore 47 = .ok (.aload_n 0, 1) := by decide +kernel
theorem dX1_reachBefore_48 : decode cX1_reachBefore 48 = .ok (.iconst 1, 1) := by decide +kernel
theorem dX1_reachBefore_49 : decode cX1_reachBefore 49 = .ok (.iload 5, 2) := by decide +kernel
theorem dX1_reachBefore_51 : decode cX1_reachBefore 51 = .ok (.iload 8, 2) := by decide +kernel
theorem dX1_reachBefore_53 : decode cX1_reachBefore 53 = .ok (.invokevirtual 88, 3) := by decide +kernel
theorem dX1_reachBefore_56 : decode cX1_reachBefore 56 = .ok (.istore 9, 2) := by decide +kernel
theorem dX1_reachBefore_58 : decode cX1_reachBefore 58 = .ok (.iload 9, 2) := by decide +kernel
theorem dX1_reachBefore_60 : decode cX1_reachBefore 60 = .ok (.iconst (-1), 1) := by decide +kernel
theorem dX1_reachBefore_61 : decode cX1_reachBefore 61 = .ok (.if_icmp .eq 47, 3) := by decide +kernel
theorem dX1_reachBefore_64 : decode cX1_reachBefore 64 = .ok (.aload_n 0, 1) := by decide +kernel
theorem dX1_reachBefore_65 : decode cX1_reachBefore 65 = .ok (.iload 7, 2) := by decide +kernel
theorem dX1_reachBefore_67 : decode cX1_reachBefore 67 = .ok (.iload 9, 2) := by decide +kernel
theorem dX1_reachBefore_69 : decode cX1_reachBefore 69 = .ok (.iload 4, 2) := by decide +kernel
theorem dX1_reachBefore_71 : decode cX1_reachBefore 71 = .ok (.iload 5, 2) := by decide +kernel
theorem dX1_reachBefore_73 : decode cX1_reachBefore 73 = .ok (.invokevirtual 92, 3) := by decide +kernel
theorem dX1_reachBefore_76 : decode cX1_reachBefore 76 = .ok (.iload_n 2, 1) := by decide +kernel
theorem dX1_reachBefore_77 : decode cX1_reachBefore 77 = .ok (.if_icmp .ne 31, 3) := by decide +kernel
theorem dX1_reachBefore_80 : decode cX1_reachBefore 80 = .ok (.aload_n 0, 1) := by decide +kernel
theorem dX1_reachBefore_81 : decode cX1_reachBefore 81 = .ok (.iload 4, 2) := by decide +kernel
theorem dX1_reachBefore_83 : decode cX1_reachBefore 83 = .ok (.iload 5, 2) := by decide +kernel
theorem dX1_reachBefore_85 : decode cX1_reachBefore 85 = .ok (.iload 7, 2) := by decide +kernel
theorem dX1_reachBefore_87 : decode cX1_reachBefore 87 = .ok (.iload 9, 2) := by decide +kernel
theorem dX1_reachBefore_89 : decode cX1_reachBefore 89 = .ok (.invokevirtual 96, 3) := by decide +kernel
theorem dX1_reachBefore_92 : decode cX1_reachBefore 92 = .ok (.ifCond .eq 16, 3) := by decide +kernel
theorem dX1_reachBefore_95 : decode cX1_reachBefore 95 = .ok (.aload_n 0, 1) := by decide +kernel
theorem dX1_reachBefore_96 : decode cX1_reachBefore 96 = .ok (.iload 7, 2) := by decide +kernel
theorem dX1_reachBefore_98 : decode cX1_reachBefore 98 = .ok (.bipush 36, 2) := by decide +kernel
theorem dX1_reachBefore_100 : decode cX1_reachBefore 100 = .ok (.iload 9, 2) := by decide +kernel
theorem dX1_reachBefore_102 : decode cX1_reachBefore 102 = .ok (.imul, 1) := by decide +kernel
theorem dX1_reachBefore_103 : decode cX1_reachBefore 103 = .ok (.iadd, 1) := by decide +kernel
theorem dX1_reachBefore_104 : decode cX1_reachBefore 104 = .ok (.iload_n 3, 1) := by decide +kernel
theorem dX1_reachBefore_105 : decode cX1_reachBefore 105 = .ok (.invokevirtual 81, 3) := by decide +kernel
theorem dX1_reachBefore_108 : decode cX1_reachBefore 108 = .ok (.iinc 8 1, 3) := by decide +kernel
theorem dX1_reachBefore_111 : decode cX1_reachBefore 111 = .ok (.goto (-76), 3) := by decide +kernel
theorem dX1_reachBefore_114 : decode cX1_reachBefore 114 = .ok (.iinc 6 1, 3) := by decide +kernel
theorem dX1_reachBefore_117 : decode cX1_reachBefore 117 = .ok (.goto (-102), 3) := by decide +kernel
theorem dX1_reachBefore_120 : decode cX1_reachBefore 120 = .ok (.return_, 1) := by decide +kernel
theorem dX1_reach_0 : decode cX1_reach 0 = .ok (.aload_n 0, 1) := by decide +kernel
theorem dX1_reach_1 : decode cX1_reach 1 = .ok (.getfield 26, 3) := by decide +kernel
theorem dX1_reach_4 : decode cX1_reach 4 = .ok (.iload_n 1, 1) := by decide +kernel
theorem dX1_reach_5 : decode cX1_reach 5 = .ok (.invokestatic 53, 3) := by decide +kernel
theorem dX1_reach_8 : decode cX1_reach 8 = .ok (.iconst (-1), 1) := by decide +kernel
theorem dX1_reach_9 : decode cX1_reach 9 = .ok (.if_icmp .ne 34, 3) := by decide +kernel
theorem dX1_reach_12 : decode cX1_reach 12 = .ok (.aload_n 0, 1) := by decide +kernel
theorem dX1_reach_13 : decode cX1_reach 13 = .ok (.getfield 26, 3) := by decide +kernel
theorem dX1_reach_16 : decode cX1_reach 16 = .ok (.iload_n 1, 1) := by decide +kernel
theorem dX1_reach_17 : decode cX1_reach 17 = .ok (.iload_n 2, 1) := by decide +kernel
theorem dX1_reach_18 : decode cX1_reach 18 = .ok (.invokestatic 100, 3) := by decide +kernel
theorem dX1_reach_21 : decode cX1_reach 21 = .ok (.aload_n 0, 1) := by decide +kernel
theorem dX1_reach_22 : decode cX1_reach 22 = .ok (.getfield 30, 3) := by decide +kernel
theorem dX1_reach_25 : decode cX1_reach 25 = .ok (.aload_n 0, 1) := by decide +kernel
theorem dX1_reach_26 : decode cX1_reach 26 = .ok (.getfield 78, 3) := by decide +kernel
theorem dX1_reach_29 : decode cX1_reach 29 = .ok (.iload_n 1, 1) := by decide +kernel
theorem dX1_reach_30 : decode cX1_reach 30 = .ok (.invokestatic 100, 3) := by decide +kernel
theorem dX1_reach_33 : decode cX1_reach 33 = .ok (.aload_n 0, 1) := by decide +kernel
theorem dX1_reach_34 : decode cX1_reach 34 = .ok (.dup, 1) := by decide +kernel
theorem dX1_reach_35 : decode cX1_reach 35 = .ok (.getfield 78, 3) := by decide +kernel
theorem dX1_reach_38 : decode cX1_reach 38 = .ok (.iconst 1, 1) := by decide +kernel
theorem dX1_reach_39 : decode cX1_reach 39 = .ok (.iadd, 1) := by decide +kernel
theorem dX1_reach_40 : decode cX1_reach 40 = .ok (.putfield 78, 3) := by decide +kernel
theorem dX1_reach_43 : decode cX1_reach 43 = .ok (.return_, 1) := by decide +kernel
theorem dX1_walk_0 : decode cX1_walk 0 = .ok (.iload_n 2, 1) := by decide +kernel
theorem dX1_walk_1 : decode cX1_walk 1 = .ok (.istore_n 3, 1) := by decide +kernel
theorem dX1_walk_2 : decode cX1_walk 2 = .ok (.iconst 0, 1) := by decide +kernel
theorem dX1_walk_3 : decode cX1_walk 3 = .ok (.istore 4, 2) := by decide +kernel
theorem dX1_walk_5 : decode cX1_walk 5 = .ok (.aload_n 0, 1) := by decide +kernel
theorem dX1_walk_6 : decode cX1_walk 6 = .ok (.aload_n 1, 1) := by decide +kernel
theorem dX1_walk_7 : decode cX1_walk 7 = .ok (.iconst 0, 1) := by decide +kernel
theorem dX1_walk_8 : decode cX1_walk 8 = .ok (.iload_n 3, 1) := by decide +kernel
theorem dX1_walk_9 : decode cX1_walk 9 = .ok (.invokevirtual 104, 3) := by decide +kernel
theorem dX1_walk_12 : decode cX1_walk 12 = .ok (.iload 4, 2) := by decide +kernel
theorem dX1_walk_14 : decode cX1_walk 14 = .ok (.aload_n 0, 1) := by decide +kernel
theorem dX1_walk_15 : decode cX1_walk 15 = .ok (.getfield 21, 3) := by decide +kernel
theorem dX1_walk_18 : decode cX1_walk 18 = .ok (.invokestatic 108, 3) := by decide +kernel
theorem dX1_walk_21 : decode cX1_walk 21 = .ok (.if_icmp .ge 34, 3) := by decide +kernel
theorem dX1_walk_24 : decode cX1_walk 24 = .ok (.aload_n 0, 1) := by decide +kernel
theorem dX1_walk_25 : decode cX1_walk 25 = .ok (.getfield 26, 3) := by decide +kernel
theorem dX1_walk_28 : decode cX1_walk 28 = .ok (.iload_n 3, 1) := by decide +kernel
theorem dX1_walk_29 : decode cX1_walk 29 = .ok (.invokestatic 53, 3) := by decide +kernel
theorem dX1_walk_32 : decode cX1_walk 32 = .ok (.ifCond .le 23, 3) := by decide +kernel
theorem dX1_walk_35 : decode cX1_walk 35 = .ok (.aload_n 0, 1) := by decide +kernel
theorem dX1_walk_36 : decode cX1_walk 36 = .ok (.iload_n 3, 1) := by decide +kernel
theorem dX1_walk_37 : decode cX1_walk 37 = .ok (.invokevirtual 111, 3) := by decide +kernel
theorem dX1_walk_40 : decode cX1_walk 40 = .ok (.istore_n 3, 1) := by decide +kernel
theorem dX1_walk_41 : decode cX1_walk 41 = .ok (.iinc 4 1, 3) := by decide +kernel
theorem dX1_walk_44 : decode cX1_walk 44 = .ok (.aload_n 0, 1) := by decide +kernel
theorem dX1_walk_45 : decode cX1_walk 45 = .ok (.aload_n 1, 1) := by decide +kernel
theorem dX1_walk_46 : decode cX1_walk 46 = .ok (.iload 4, 2) := by decide +kernel
theorem dX1_walk_48 : decode cX1_walk 48 = .ok (.iload_n 3, 1) := by decide +kernel
theorem dX1_walk_49 : decode cX1_walk 49 = .ok (.invokevirtual 104, 3) := by decide +kernel
theorem dX1_walk_52 : decode cX1_walk 52 = .ok (.goto (-40), 3) := by decide +kernel
theorem dX1_walk_55 : decode cX1_walk 55 = .ok (.iload 4, 2) := by decide +kernel
theorem dX1_walk_57 : decode cX1_walk 57 = .ok (.ireturn, 1) := by decide +kernel
theorem dX1_note_0 : decode cX1_note 0 = .ok (.aload_n 0, 1) := by decide +kernel
theorem dX1_note_1 : decode cX1_note 1 = .ok (.getfield 21, 3) := by decide +kernel
theorem dX1_note_4 : decode cX1_note 4 = .ok (.ifCond .le 13, 3) := by decide +kernel
theorem dX1_note_7 : decode cX1_note 7 = .ok (.aload_n 1, 1) := by decide +kernel
theorem dX1_note_8 : decode cX1_note 8 = .ok (.iconst 0, 1) := by decide +kernel
theorem dX1_note_9 : decode cX1_note 9 = .ok (.iload_n 2, 1) := by decide +kernel
theorem dX1_note_10 : decode cX1_note 10 = .ok (.iload_n 3, 1) := by decide +kernel
theorem dX1_note_11 : decode cX1_note 11 = .ok (.bipush 36, 2) := by decide +kernel
theorem dX1_note_13 : decode cX1_note 13 = .ok (.irem, 1) := by decide +kernel
theorem dX1_note_14 : decode cX1_note 14 = .ok (.invokevirtual 114, 3) := by decide +kernel
theorem dX1_note_17 : decode cX1_note 17 = .ok (.aload_n 0, 1) := by decide +kernel
theorem dX1_note_18 : decode cX1_note 18 = .ok (.getfield 21, 3) := by decide +kernel
theorem dX1_note_21 : decode cX1_note 21 = .ok (.iconst 1, 1) := by decide +kernel
theorem dX1_note_22 : decode cX1_note 22 = .ok (.if_icmp .le 13, 3) := by decide +kernel
theorem dX1_note_25 : decode cX1_note 25 = .ok (.aload_n 1, 1) := by decide +kernel
theorem dX1_note_26 : decode cX1_note 26 = .ok (.iconst 1, 1) := by decide +kernel
theorem dX1_note_27 : decode cX1_note 27 = .ok (.iload_n 2, 1) := by decide +kernel
theorem dX1_note_28 : decode cX1_note 28 = .ok (.iload_n 3, 1) := by decide +kernel
theorem dX1_note_29 : decode cX1_note 29 = .ok (.bipush 36, 2) := by decide +kernel
theorem dX1_note_31 : decode cX1_note 31 = .ok (.idiv, 1) := by decide +kernel
theorem dX1_note_32 : decode cX1_note 32 = .ok (.invokevirtual 114, 3) := by decide +kernel
theorem dX1_note_35 : decode cX1_note 35 = .ok (.return_, 1) := by decide +kernel
theorem dX1_follow_0 : decode cX1_follow 0 = .ok (.iload_n 1, 1) := by decide +kernel
theorem dX1_follow_1 : decode cX1_follow 1 = .ok (.bipush 36, 2) := by decide +kernel
theorem dX1_follow_3 : decode cX1_follow 3 = .ok (.irem, 1) := by decide +kernel
theorem dX1_follow_4 : decode cX1_follow 4 = .ok (.istore_n 2, 1) := by decide +kernel
theorem dX1_follow_5 : decode cX1_follow 5 = .ok (.iload_n 1, 1) := by decide +kernel
theorem dX1_follow_6 : decode cX1_follow 6 = .ok (.bipush 36, 2) := by decide +kernel
theorem dX1_follow_8 : decode cX1_follow 8 = .ok (.idiv, 1) := by decide +kernel
theorem dX1_follow_9 : decode cX1_follow 9 = .ok (.istore_n 3, 1) := by decide +kernel
theorem dX1_follow_10 : decode cX1_follow 10 = .ok (.iconst 0, 1) := by decide +kernel
theorem dX1_follow_11 : decode cX1_follow 11 = .ok (.istore 4, 2) := by decide +kernel
theorem dX1_follow_13 : decode cX1_follow 13 = .ok (.iload 4, 2) := by decide +kernel
theorem dX1_follow_15 : decode cX1_follow 15 = .ok (.iconst 5, 1) := by decide +kernel
theorem dX1_follow_16 : decode cX1_follow 16 = .ok (.if_icmp .ge 90, 3) := by decide +kernel
theorem dX1_follow_19 : decode cX1_follow 19 = .ok (.aload_n 0, 1) := by decide +kernel
theorem dX1_follow_20 : decode cX1_follow 20 = .ok (.iconst 0, 1) := by decide +kernel
theorem dX1_follow_21 : decode cX1_follow 21 = .ok (.iload_n 2, 1) := by decide +kernel
theorem dX1_follow_22 : decode cX1_follow 22 = .ok (.iload 4, 2) := by decide +kernel
theorem dX1_follow_24 : decode cX1_follow 24 = .ok (.invokevirtual 88, 3) := by decide +kernel
theorem dX1_follow_27 : decode cX1_follow 27 = .ok (.istore 5, 2) := by decide +kernel
theorem dX1_follow_29 : decode cX1_follow 29 = .ok (.iconst 0, 1) := by decide +kernel
theorem dX1_follow_30 : decode cX1_follow 30 = .ok (.istore 6, 2) := by decide +kernel
theorem dX1_follow_32 : decode cX1_follow 32 = .ok (.iload 6, 2) := by decide +kernel
theorem dX1_follow_34 : decode cX1_follow 34 = .ok (.iconst 5, 1) := by decide +kernel
theorem dX1_follow_35 : decode cX1_follow 35 = .ok (.if_icmp .ge 65, 3) := by decide +kernel
theorem dX1_follow_38 : decode cX1_follow 38 = .ok (.iload 5, 2) := by decide +kernel
theorem dX1_follow_40 : decode cX1_follow 40 = .ok (.iconst (-1), 1) := by decide +kernel
theorem dX1_follow_41 : decode cX1_follow 41 = .ok (.if_icmp .eq 59, 3) := by decide +kernel
theorem dX1_follow_44 : decode cX1_follow 44 = .ok (.aload_n 0, 1) := by decide +kernel
theorem dX1_follow_45 : decode cX1_follow 45 = .ok (.iconst 1, 1) := by decide +kernel
theorem dX1_follow_46 : decode cX1_follow 46 = .ok (.iload_n 3, 1) := by decide +kernel
theorem dX1_follow_47 : decode cX1_follow 47 = .ok (.iload 6, 2) := by decide +kernel
theorem dX1_follow_49 : decode cX1_follow 49 = .ok (.invokevirtual 88, 3) := by decide +kernel
theorem dX1_follow_52 : decode cX1_follow 52 = .ok (.istore 7, 2) := by decide +kernel
theorem dX1_follow_54 : decode cX1_follow 54 = .ok (.iload 7, 2) := by decide +kernel
theorem dX1_follow_56 : decode cX1_follow 56 = .ok (.iconst (-1), 1) := by decide +kernel
theorem dX1_follow_57 : decode cX1_follow 57 = .ok (.if_icmp .eq 37, 3) := by decide +kernel
theorem dX1_follow_60 : decode cX1_follow 60 = .ok (.aload_n 0, 1) := by decide +kernel
theorem dX1_follow_61 : decode cX1_follow 61 = .ok (.iload_n 2, 1) := by decide +kernel
theorem dX1_follow_62 : decode cX1_follow 62 = .ok (.iload_n 3, 1) := by decide +kernel
theorem dX1_follow_63 : decode cX1_follow 63 = .ok (.iload 5, 2) := by decide +kernel
theorem dX1_follow_65 : decode cX1_follow 65 = .ok (.iload 7, 2) := by decide +kernel
theorem dX1_follow_67 : decode cX1_follow 67 = .ok (.invokevirtual 96, 3) := by decide +kernel
theorem dX1_follow_70 : decode cX1_follow 70 = .ok (.ifCond .eq 24, 3) := by decide +kernel
theorem dX1_follow_73 : decode cX1_follow 73 = .ok (.aload_n 0, 1) := by decide +kernel
theorem dX1_follow_74 : decode cX1_follow 74 = .ok (.iload_n 1, 1) := by decide +kernel
theorem dX1_follow_75 : decode cX1_follow 75 = .ok (.iload 5, 2) := by decide +kernel
theorem dX1_follow_77 : decode cX1_follow 77 = .ok (.iload 7, 2) := by decide +kernel
theorem dX1_follow_79 : decode cX1_follow 79 = .ok (.invokevirtual 117, 3) := by decide +kernel
theorem dX1_follow_82 : decode cX1_follow 82 = .ok (.ifCond .eq 12, 3) := by decide +kernel
theorem dX1_follow_85 : decode cX1_follow 85 = .ok (.iload 5, 2) := by decide +kernel
theorem dX1_follow_87 : decode cX1_follow 87 = .ok (.bipush 36, 2) := by decide +kernel
theorem dX1_follow_89 : decode cX1_follow 89 = .ok (.iload 7, 2) := by decide +kernel
theorem dX1_follow_91 : decode cX1_follow 91 = .ok (.imul, 1) := by decide +kernel
theorem dX1_follow_92 : decode cX1_follow 92 = .ok (.iadd, 1) := by decide +kernel
theorem dX1_follow_93 : decode cX1_follow 93 = .ok (.ireturn, 1) := by decide +kernel
theorem dX1_follow_94 : decode cX1_follow 94 = .ok (.iinc 6 1, 3) := by decide +kernel
theorem dX1_follow_97 : decode cX1_follow 97 = .ok (.goto (-65), 3) := by decide +kernel
theorem dX1_follow_100 : decode cX1_follow 100 = .ok (.iinc 4 1, 3) := by decide +kernel
theorem dX1_follow_103 : decode cX1_follow 103 = .ok (.goto (-90), 3) := by decide +kernel
theorem dX1_follow_106 : decode cX1_follow 106 = .ok (.iload_n 1, 1) := by decide +kernel
theorem dX1_follow_107 : decode cX1_follow 107 = .ok (.ireturn, 1) := by decide +kernel
theorem dX1_keeps_0 : decode cX1_keeps 0 = .ok (.aload_n 0, 1) := by decide +kernel
theorem dX1_keeps_1 : decode cX1_keeps 1 = .ok (.getfield 26, 3) := by decide +kernel
theorem dX1_keeps_4 : decode cX1_keeps 4 = .ok (.iload_n 2, 1) := by decide +kernel
theorem dX1_keeps_5 : decode cX1_keeps 5 = .ok (.bipush 36, 2) := by decide +kernel
theorem dX1_keeps_7 : decode cX1_keeps 7 = .ok (.iload_n 3, 1) := by decide +kernel
theorem dX1_keeps_8 : decode cX1_keeps 8 = .ok (.imul, 1) := by decide +kernel
theorem dX1_keeps_9 : decode cX1_keeps 9 = .ok (.iadd, 1) := by decide +kernel
theorem dX1_keeps_10 : decode cX1_keeps 10 = .ok (.invokestatic 53, 3) := by decide +kernel
theorem dX1_keeps_13 : decode cX1_keeps 13 = .ok (.istore 4, 2) := by decide +kernel
theorem dX1_keeps_15 : decode cX1_keeps 15 = .ok (.iload 4, 2) := by decide +kernel
theorem dX1_keeps_17 : decode cX1_keeps 17 = .ok (.iconst (-1), 1) := by decide +kernel
theorem dX1_keeps_18 : decode cX1_keeps 18 = .ok (.if_icmp .eq 35, 3) := by decide +kernel
theorem dX1_keeps_21 : decode cX1_keeps 21 = .ok (.iload 4, 2) := by decide +kernel
theorem dX1_keeps_23 : decode cX1_keeps 23 = .ok (.aload_n 0, 1) := by decide +kernel
theorem dX1_keeps_24 : decode cX1_keeps 24 = .ok (.iload_n 1, 1) := by decide +kernel
theorem dX1_keeps_25 : decode cX1_keeps 25 = .ok (.bipush 36, 2) := by decide +kernel
theorem dX1_keeps_27 : decode cX1_keeps 27 = .ok (.irem, 1) := by decide +kernel
theorem dX1_keeps_28 : decode cX1_keeps 28 = .ok (.iload_n 1, 1) := by decide +kernel
theorem dX1_keeps_29 : decode cX1_keeps 29 = .ok (.bipush 36, 2) := by decide +kernel
theorem dX1_keeps_31 : decode cX1_keeps 31 = .ok (.idiv, 1) := by decide +kernel
theorem dX1_keeps_32 : decode cX1_keeps 32 = .ok (.iload_n 2, 1) := by decide +kernel
theorem dX1_keeps_33 : decode cX1_keeps 33 = .ok (.iload_n 3, 1) := by decide +kernel
theorem dX1_keeps_34 : decode cX1_keeps 34 = .ok (.invokevirtual 92, 3) := by decide +kernel
theorem dX1_keeps_37 : decode cX1_keeps 37 = .ok (.iadd, 1) := by decide +kernel
theorem dX1_keeps_38 : decode cX1_keeps 38 = .ok (.aload_n 0, 1) := by decide +kernel
theorem dX1_keeps_39 : decode cX1_keeps 39 = .ok (.getfield 26, 3) := by decide +kernel
theorem dX1_keeps_42 : decode cX1_keeps 42 = .ok (.iload_n 1, 1) := by decide +kernel
theorem dX1_keeps_43 : decode cX1_keeps 43 = .ok (.invokestatic 53, 3) := by decide +kernel
theorem dX1_keeps_46 : decode cX1_keeps 46 = .ok (.if_icmp .ne 7, 3) := by decide +kernel
theorem dX1_keeps_49 : decode cX1_keeps 49 = .ok (.iconst 1, 1) := by decide +kernel
theorem dX1_keeps_50 : decode cX1_keeps 50 = .ok (.goto 4, 3) := by decide +kernel
theorem dX1_keeps_53 : decode cX1_keeps 53 = .ok (.iconst 0, 1) := by decide +kernel
theorem dX1_keeps_54 : decode cX1_keeps 54 = .ok (.ireturn, 1) := by decide +kernel
theorem dX1_next_0 : decode cX1_next 0 = .ok (.iload_n 1, 1) := by decide +kernel
theorem dX1_next_1 : decode cX1_next 1 = .ok (.aload_n 0, 1) := by decide +kernel
theorem dX1_next_2 : decode cX1_next 2 = .ok (.getfield 21, 3) := by decide +kernel
theorem dX1_next_5 : decode cX1_next 5 = .ok (.if_icmp .ge 16, 3) := by decide +kernel
theorem dX1_next_8 : decode cX1_next 8 = .ok (.aload_n 0, 1) := by decide +kernel
theorem dX1_next_9 : decode cX1_next 9 = .ok (.getfield 9, 3) := by decide +kernel
theorem dX1_next_12 : decode cX1_next 12 = .ok (.getfield 121, 3) := by decide +kernel
theorem dX1_next_15 : decode cX1_next 15 = .ok (.iload_n 2, 1) := by decide +kernel
theorem dX1_next_16 : decode cX1_next 16 = .ok (.iload_n 3, 1) := by decide +kernel
theorem dX1_next_17 : decode cX1_next 17 = .ok (.invokevirtual 125, 3) := by decide +kernel
theorem dX1_next_20 : decode cX1_next 20 = .ok (.ireturn, 1) := by decide +kernel
theorem dX1_next_21 : decode cX1_next 21 = .ok (.iload_n 3, 1) := by decide +kernel
theorem dX1_next_22 : decode cX1_next 22 = .ok (.ifCond .ne 7, 3) := by decide +kernel
theorem dX1_next_25 : decode cX1_next 25 = .ok (.iload_n 2, 1) := by decide +kernel
theorem dX1_next_26 : decode cX1_next 26 = .ok (.goto 4, 3) := by decide +kernel
theorem dX1_next_29 : decode cX1_next 29 = .ok (.iconst (-1), 1) := by decide +kernel
theorem dX1_next_30 : decode cX1_next 30 = .ok (.ireturn, 1) := by decide +kernel
theorem dX1_stepCost_0 : decode cX1_stepCost 0 = .ok (.iload_n 1, 1) := by decide +kernel
theorem dX1_stepCost_1 : decode cX1_stepCost 1 = .ok (.iload_n 3, 1) := by decide +kernel
theorem dX1_stepCost_2 : decode cX1_stepCost 2 = .ok (.aload_n 0, 1) := by decide +kernel
theorem dX1_stepCost_3 : decode cX1_stepCost 3 = .ok (.getfield 40, 3) := by decide +kernel
theorem dX1_stepCost_6 : decode cX1_stepCost 6 = .ok (.invokestatic 131, 3) := by decide +kernel
theorem dX1_stepCost_9 : decode cX1_stepCost 9 = .ok (.iload_n 2, 1) := by decide +kernel
theorem dX1_stepCost_10 : decode cX1_stepCost 10 = .ok (.iload 4, 2) := by decide +kernel
theorem dX1_stepCost_12 : decode cX1_stepCost 12 = .ok (.aload_n 0, 1) := by decide +kernel
theorem dX1_stepCost_13 : decode cX1_stepCost 13 = .ok (.getfield 43, 3) := by decide +kernel
theorem dX1_stepCost_16 : decode cX1_stepCost 16 = .ok (.invokestatic 131, 3) := by decide +kernel
theorem dX1_stepCost_19 : decode cX1_stepCost 19 = .ok (.iadd, 1) := by decide +kernel
theorem dX1_stepCost_20 : decode cX1_stepCost 20 = .ok (.ireturn, 1) := by decide +kernel
theorem dX1_fits_0 : decode cX1_fits 0 = .ok (.aload_n 0, 1) := by decide +kernel
theorem dX1_fits_1 : decode cX1_fits 1 = .ok (.getfield 9, 3) := by decide +kernel
theorem dX1_fits_4 : decode cX1_fits 4 = .ok (.getfield 134, 3) := by decide +kernel
theorem dX1_fits_7 : decode cX1_fits 7 = .ok (.ifCond .eq 18, 3) := by decide +kernel
theorem dX1_fits_10 : decode cX1_fits 10 = .ok (.iload_n 3, 1) := by decide +kernel
theorem dX1_fits_11 : decode cX1_fits 11 = .ok (.iload_n 2, 1) := by decide +kernel
theorem dX1_fits_12 : decode cX1_fits 12 = .ok (.if_icmp .ne 13, 3) := by decide +kernel
theorem dX1_fits_15 : decode cX1_fits 15 = .ok (.iload 4, 2) := by decide +kernel
theorem dX1_fits_17 : decode cX1_fits 17 = .ok (.iload_n 1, 1) := by decide +kernel
theorem dX1_fits_18 : decode cX1_fits 18 = .ok (.if_icmp .ne 7, 3) := by decide +kernel
theorem dX1_fits_21 : decode cX1_fits 21 = .ok (.iconst 1, 1) := by decide +kernel
theorem dX1_fits_22 : decode cX1_fits 22 = .ok (.goto 4, 3) := by decide +kernel
theorem dX1_fits_25 : decode cX1_fits 25 = .ok (.iconst 0, 1) := by decide +kernel
theorem dX1_fits_26 : decode cX1_fits 26 = .ok (.istore 5, 2) := by decide +kernel
theorem dX1_fits_28 : decode cX1_fits 28 = .ok (.aload_n 0, 1) := by decide +kernel
theorem dX1_fits_29 : decode cX1_fits 29 = .ok (.getfield 21, 3) := by decide +kernel
theorem dX1_fits_32 : decode cX1_fits 32 = .ok (.iconst 2, 1) := by decide +kernel
theorem dX1_fits_33 : decode cX1_fits 33 = .ok (.if_icmp .lt 14, 3) := by decide +kernel
theorem dX1_fits_36 : decode cX1_fits 36 = .ok (.iload_n 3, 1) := by decide +kernel
theorem dX1_fits_37 : decode cX1_fits 37 = .ok (.iload 4, 2) := by decide +kernel
theorem dX1_fits_39 : decode cX1_fits 39 = .ok (.if_icmp .eq 12, 3) := by decide +kernel
theorem dX1_fits_42 : decode cX1_fits 42 = .ok (.iload 5, 2) := by decide +kernel
theorem dX1_fits_44 : decode cX1_fits 44 = .ok (.ifCond .ne 7, 3) := by decide +kernel
theorem dX1_fits_47 : decode cX1_fits 47 = .ok (.iconst 1, 1) := by decide +kernel
theorem dX1_fits_48 : decode cX1_fits 48 = .ok (.goto 4, 3) := by decide +kernel
theorem dX1_fits_51 : decode cX1_fits 51 = .ok (.iconst 0, 1) := by decide +kernel
theorem dX1_fits_52 : decode cX1_fits 52 = .ok (.ireturn, 1) := by decide +kernel
theorem dX4_init_0 : decode cX4_init 0 = .ok (.aload_n 0, 1) := by decide +kernel
theorem dX4_init_1 : decode cX4_init 1 = .ok (.invokespecial 3, 3) := by decide +kernel
theorem dX4_init_4 : decode cX4_init 4 = .ok (.aload_n 0, 1) := by decide +kernel
theorem dX4_init_5 : decode cX4_init 5 = .ok (.sipush 1476, 3) := by decide +kernel
theorem dX4_init_8 : decode cX4_init 8 = .ok (.newarray .int, 2) := by decide +kernel
theorem dX4_init_10 : decode cX4_init 10 = .ok (.putfield 9, 3) := by decide +kernel
theorem dX4_init_13 : decode cX4_init 13 = .ok (.aload_n 0, 1) := by decide +kernel
theorem dX4_init_14 : decode cX4_init 14 = .ok (.sipush 1476, 3) := by decide +kernel
theorem dX4_init_17 : decode cX4_init 17 = .ok (.newarray .int, 2) := by decide +kernel
theorem dX4_init_19 : decode cX4_init 19 = .ok (.putfield 15, 3) := by decide +kernel
theorem dX4_init_22 : decode cX4_init 22 = .ok (.aload_n 0, 1) := by decide +kernel
theorem dX4_init_23 : decode cX4_init 23 = .ok (.aload_n 1, 1) := by decide +kernel
theorem dX4_init_24 : decode cX4_init 24 = .ok (.putfield 18, 3) := by decide +kernel
theorem dX4_init_27 : decode cX4_init 27 = .ok (.aload_n 0, 1) := by decide +kernel
theorem dX4_init_28 : decode cX4_init 28 = .ok (.aload_n 2, 1) := by decide +kernel
theorem dX4_init_29 : decode cX4_init 29 = .ok (.putfield 22, 3) := by decide +kernel
theorem dX4_init_32 : decode cX4_init 32 = .ok (.aload_n 0, 1) := by decide +kernel
theorem dX4_init_33 : decode cX4_init 33 = .ok (.new 26, 3) := by decide +kernel
theorem dX4_init_36 : decode cX4_init 36 = .ok (.dup, 1) := by decide +kernel
theorem dX4_init_37 : decode cX4_init 37 = .ok (.aload_n 1, 1) := by decide +kernel
theorem dX4_init_38 : decode cX4_init 38 = .ok (.getfield 28, 3) := by decide +kernel
theorem dX4_init_41 : decode cX4_init 41 = .ok (.aload_n 1, 1) := by decide +kernel
theorem dX4_init_42 : decode cX4_init 42 = .ok (.getfield 28, 3) := by decide +kernel
theorem dX4_init_45 : decode cX4_init 45 = .ok (.invokestatic 34, 3) := by decide +kernel
theorem dX4_init_48 : decode cX4_init 48 = .ok (.invokespecial 38, 3) := by decide +kernel
theorem dX4_init_51 : decode cX4_init 51 = .ok (.putfield 41, 3) := by decide +kernel
theorem dX4_init_54 : decode cX4_init 54 = .ok (.return_, 1) := by decide +kernel
theorem dX4_make_0 : decode cX4_make 0 = .ok (.aload_n 0, 1) := by decide +kernel
theorem dX4_make_1 : decode cX4_make 1 = .ok (.getfield 22, 3) := by decide +kernel
theorem dX4_make_4 : decode cX4_make 4 = .ok (.invokevirtual 45, 3) := by decide +kernel
theorem dX4_make_7 : decode cX4_make 7 = .ok (.iconst 0, 1) := by decide +kernel
theorem dX4_make_8 : decode cX4_make 8 = .ok (.istore_n 3, 1) := by decide +kernel
theorem dX4_make_9 : decode cX4_make 9 = .ok (.iload_n 3, 1) := by decide +kernel
theorem dX4_make_10 : decode cX4_make 10 = .ok (.iload_n 2, 1) := by decide +kernel
theorem dX4_make_11 : decode cX4_make 11 = .ok (.if_icmp .gt 63, 3) := by decide +kernel
theorem dX4_make_14 : decode cX4_make 14 = .ok (.iload_n 3, 1) := by decide +kernel
theorem dX4_make_15 : decode cX4_make 15 = .ok (.ifCond .le 10, 3) := by decide +kernel
theorem dX4_make_18 : decode cX4_make 18 = .ok (.aload_n 0, 1) := by decide +kernel
theorem dX4_make_19 : decode cX4_make 19 = .ok (.getfield 22, 3) := by decide +kernel
theorem dX4_make_22 : decode cX4_make 22 = .ok (.invokevirtual 50, 3) := by decide +kernel
theorem dX4_make_25 : decode cX4_make 25 = .ok (.aload_n 0, 1) := by decide +kernel
theorem dX4_make_26 : decode cX4_make 26 = .ok (.invokevirtual 53, 3) := by decide +kernel
theorem dX4_make_29 : decode cX4_make 29 = .ok (.aload_n 0, 1) := by decide +kernel
theorem dX4_make_30 : decode cX4_make 30 = .ok (.getfield 41, 3) := by decide +kernel
theorem dX4_make_33 : decode cX4_make 33 = .ok (.invokevirtual 56, 3) := by decide +kernel
theorem dX4_make_36 : decode cX4_make 36 = .ok (.ifCond .eq 32, 3) := by decide +kernel
theorem dX4_make_39 : decode cX4_make 39 = .ok (.aload_n 1, 1) := by decide +kernel
theorem dX4_make_40 : decode cX4_make 40 = .ok (.invokevirtual 56, 3) := by decide +kernel
theorem dX4_make_43 : decode cX4_make 43 = .ok (.ifCond .eq 17, 3) := by decide +kernel
theorem dX4_make_46 : decode cX4_make 46 = .ok (.aload_n 0, 1) := by decide +kernel
theorem dX4_make_47 : decode cX4_make 47 = .ok (.getfield 41, 3) := by decide +kernel
theorem dX4_make_50 : decode cX4_make 50 = .ok (.getfield 60, 3) := by decide +kernel
theorem dX4_make_53 : decode cX4_make 53 = .ok (.aload_n 1, 1) := by decide +kernel
theorem dX4_make_54 : decode cX4_make 54 = .ok (.getfield 60, 3) := by decide +kernel
theorem dX4_make_57 : decode cX4_make 57 = .ok (.if_icmp .ge 11, 3) := by decide +kernel
theorem dX4_make_60 : decode cX4_make 60 = .ok (.aload_n 1, 1) := by decide +kernel
theorem dX4_make_61 : decode cX4_make 61 = .ok (.aload_n 0, 1) := by decide +kernel
theorem dX4_make_62 : decode cX4_make 62 = .ok (.getfield 41, 3) := by decide +kernel
theorem dX4_make_65 : decode cX4_make 65 = .ok (.invokevirtual 63, 3) := by decide +kernel
theorem dX4_make_68 : decode cX4_make 68 = .ok (.iinc 3 1, 3) := by decide +kernel
theorem dX4_make_71 : decode cX4_make 71 = .ok (.goto (-62), 3) := by decide +kernel
theorem dX4_make_74 : decode cX4_make 74 = .ok (.return_, 1) := by decide +kernel
theorem dX4_tryOrder_0 : decode cX4_tryOrder 0 = .ok (.aload_n 0, 1) := by decide +kernel
theorem dX4_tryOrder_1 : decode cX4_tryOrder 1 = .ok (.getfield 15, 3) := by decide +kernel
theorem dX4_tryOrder_4 : decode cX4_tryOrder 4 = .ok (.iconst (-1), 1) := by decide +kernel
theorem dX4_tryOrder_5 : decode cX4_tryOrder 5 = .ok (.invokestatic 67, 3) := by decide +kernel
theorem dX4_tryOrder_8 : decode cX4_tryOrder 8 = .ok (.aload_n 0, 1) := by decide +kernel
theorem dX4_tryOrder_9 : decode cX4_tryOrder 9 = .ok (.getfield 41, 3) := by decide +kernel
theorem dX4_tryOrder_12 : decode cX4_tryOrder 12 = .ok (.invokevirtual 73, 3) := by decide +kernel
theorem dX4_tryOrder_15 : decode cX4_tryOrder 15 = .ok (.iconst 0, 1) := by decide +kernel
theorem dX4_tryOrder_16 : decode cX4_tryOrder 16 = .ok (.istore_n 1, 1) := by decide +kernel
theorem dX4_tryOrder_17 : decode cX4_tryOrder 17 = .ok (.iconst 0, 1) := by decide +kernel
theorem dX4_tryOrder_18 : decode cX4_tryOrder 18 = .ok (.istore_n 2, 1) := by decide +kernel
theorem dX4_tryOrder_19 : decode cX4_tryOrder 19 = .ok (.iload_n 2, 1) := by decide +kernel
theorem dX4_tryOrder_20 : decode cX4_tryOrder 20 = .ok (.aload_n 0, 1) := by decide +kernel
theorem dX4_tryOrder_21 : decode cX4_tryOrder 21 = .ok (.getfield 18, 3) := by decide +kernel
theorem dX4_tryOrder_24 : decode cX4_tryOrder 24 = .ok (.getfield 28, 3) := by decide +kernel
theorem dX4_tryOrder_27 : decode cX4_tryOrder 27 = .ok (.if_icmp .ge 90, 3) := by decide +kernel
theorem dX4_tryOrder_30 : decode cX4_tryOrder 30 = .ok (.aload_n 0, 1) := by decide +kernel
theorem dX4_tryOrder_31 : decode cX4_tryOrder 31 = .ok (.getfield 22, 3) := by decide +kernel
theorem dX4_tryOrder_34 : decode cX4_tryOrder 34 = .ok (.getfield 76, 3) := by decide +kernel
theorem dX4_tryOrder_37 : decode cX4_tryOrder 37 = .ok (.iload_n 2, 1) := by decide +kernel
theorem dX4_tryOrder_38 : decode cX4_tryOrder 38 = .ok (.invokestatic 79, 3) := by decide +kernel
theorem dX4_tryOrder_41 : decode cX4_tryOrder 41 = .ok (.istore_n 3, 1) := by decide +kernel
theorem dX4_tryOrder_42 : decode cX4_tryOrder 42 = .ok (.aload_n 0, 1) := by decide +kernel
theorem dX4_tryOrder_43 : decode cX4_tryOrder 43 = .ok (.getfield 18, 3) := by decide +kernel
theorem dX4_tryOrder_46 : decode cX4_tryOrder 46 = .ok (.getfield 83, 3) := by decide +kernel
theorem dX4_tryOrder_49 : decode cX4_tryOrder 49 = .ok (.iload_n 3, 1) := by decide +kernel
theorem dX4_tryOrder_50 : decode cX4_tryOrder 50 = .ok (.invokestatic 79, 3) := by decide +kernel
theorem dX4_tryOrder_53 : decode cX4_tryOrder 53 = .ok (.istore 4, 2) := by decide +kernel
theorem dX4_tryOrder_55 : decode cX4_tryOrder 55 = .ok (.aload_n 0, 1) := by decide +kernel
theorem dX4_tryOrder_56 : decode cX4_tryOrder 56 = .ok (.getfield 18, 3) := by decide +kernel
theorem dX4_tryOrder_59 : decode cX4_tryOrder 59 = .ok (.getfield 86, 3) := by decide +kernel
theorem dX4_tryOrder_62 : decode cX4_tryOrder 62 = .ok (.iload_n 3, 1) := by decide +kernel
theorem dX4_tryOrder_63 : decode cX4_tryOrder 63 = .ok (.invokestatic 79, 3) := by decide +kernel
theorem dX4_tryOrder_66 : decode cX4_tryOrder 66 = .ok (.istore 5, 2) := by decide +kernel
theorem dX4_tryOrder_68 : decode cX4_tryOrder 68 = .ok (.aload_n 0, 1) := by decide +kernel
theorem dX4_tryOrder_69 : decode cX4_tryOrder 69 = .ok (.iload 5, 2) := by decide +kernel
theorem dX4_tryOrder_71 : decode cX4_tryOrder 71 = .ok (.invokevirtual 89, 3) := by decide +kernel
theorem dX4_tryOrder_74 : decode cX4_tryOrder 74 = .ok (.aload_n 0, 1) := by decide +kernel
theorem dX4_tryOrder_75 : decode cX4_tryOrder 75 = .ok (.getfield 9, 3) := by decide +kernel
theorem dX4_tryOrder_78 : decode cX4_tryOrder 78 = .ok (.iload 4, 2) := by decide +kernel
theorem dX4_tryOrder_80 : decode cX4_tryOrder 80 = .ok (.invokestatic 79, 3) := by decide +kernel
theorem dX4_tryOrder_83 : decode cX4_tryOrder 83 = .ok (.istore 6, 2) := by decide +kernel
theorem dX4_tryOrder_85 : decode cX4_tryOrder 85 = .ok (.iload 6, 2) := by decide +kernel
theorem dX4_tryOrder_87 : decode cX4_tryOrder 87 = .ok (.iconst (-1), 1) := by decide +kernel
theorem dX4_tryOrder_88 : decode cX4_tryOrder 88 = .ok (.if_icmp .ne 4, 3) := by decide +kernel
theorem dX4_tryOrder_91 : decode cX4_tryOrder 91 = .ok (.return_, 1) := by decide +kernel
theorem dX4_tryOrder_92 : decode cX4_tryOrder 92 = .ok (.iload_n 1, 1) := by decide +kernel
theorem dX4_tryOrder_93 : decode cX4_tryOrder 93 = .ok (.iload 6, 2) := by decide +kernel
theorem dX4_tryOrder_95 : decode cX4_tryOrder 95 = .ok (.iadd, 1) := by decide +kernel
theorem dX4_tryOrder_96 : decode cX4_tryOrder 96 = .ok (.istore_n 1, 1) := by decide +kernel
theorem dX4_tryOrder_97 : decode cX4_tryOrder 97 = .ok (.aload_n 0, 1) := by decide +kernel
theorem dX4_tryOrder_98 : decode cX4_tryOrder 98 = .ok (.iload_n 3, 1) := by decide +kernel
theorem dX4_tryOrder_99 : decode cX4_tryOrder 99 = .ok (.iload 4, 2) := by decide +kernel
theorem dX4_tryOrder_101 : decode cX4_tryOrder 101 = .ok (.iload 5, 2) := by decide +kernel
theorem dX4_tryOrder_103 : decode cX4_tryOrder 103 = .ok (.invokevirtual 93, 3) := by decide +kernel
theorem dX4_tryOrder_106 : decode cX4_tryOrder 106 = .ok (.aload_n 0, 1) := by decide +kernel
theorem dX4_tryOrder_107 : decode cX4_tryOrder 107 = .ok (.iload_n 3, 1) := by decide +kernel
theorem dX4_tryOrder_108 : decode cX4_tryOrder 108 = .ok (.invokevirtual 97, 3) := by decide +kernel
theorem dX4_tryOrder_111 : decode cX4_tryOrder 111 = .ok (.iinc 2 1, 3) := by decide +kernel
theorem dX4_tryOrder_114 : decode cX4_tryOrder 114 = .ok (.goto (-95), 3) := by decide +kernel
theorem dX4_tryOrder_117 : decode cX4_tryOrder 117 = .ok (.aload_n 0, 1) := by decide +kernel
theorem dX4_tryOrder_118 : decode cX4_tryOrder 118 = .ok (.getfield 41, 3) := by decide +kernel
theorem dX4_tryOrder_121 : decode cX4_tryOrder 121 = .ok (.iload_n 1, 1) := by decide +kernel
theorem dX4_tryOrder_122 : decode cX4_tryOrder 122 = .ok (.putfield 60, 3) := by decide +kernel
theorem dX4_tryOrder_125 : decode cX4_tryOrder 125 = .ok (.aload_n 0, 1) := by decide +kernel
theorem dX4_tryOrder_126 : decode cX4_tryOrder 126 = .ok (.getfield 41, 3) := by decide +kernel
theorem dX4_tryOrder_129 : decode cX4_tryOrder 129 = .ok (.aload_n 0, 1) := by decide +kernel
theorem dX4_tryOrder_130 : decode cX4_tryOrder 130 = .ok (.invokevirtual 100, 3) := by decide +kernel
theorem dX4_tryOrder_133 : decode cX4_tryOrder 133 = .ok (.putfield 104, 3) := by decide +kernel
theorem dX4_tryOrder_136 : decode cX4_tryOrder 136 = .ok (.return_, 1) := by decide +kernel
theorem dX4_walk_0 : decode cX4_walk 0 = .ok (.iload_n 2, 1) := by decide +kernel
theorem dX4_walk_1 : decode cX4_walk 1 = .ok (.istore 4, 2) := by decide +kernel
theorem dX4_walk_3 : decode cX4_walk 3 = .ok (.aload_n 0, 1) := by decide +kernel
theorem dX4_walk_4 : decode cX4_walk 4 = .ok (.getfield 41, 3) := by decide +kernel
theorem dX4_walk_7 : decode cX4_walk 7 = .ok (.iload_n 1, 1) := by decide +kernel
theorem dX4_walk_8 : decode cX4_walk 8 = .ok (.iconst 0, 1) := by decide +kernel
theorem dX4_walk_9 : decode cX4_walk 9 = .ok (.iload 4, 2) := by decide +kernel
theorem dX4_walk_11 : decode cX4_walk 11 = .ok (.invokevirtual 107, 3) := by decide +kernel
theorem dX4_walk_14 : decode cX4_walk 14 = .ok (.iconst 0, 1) := by decide +kernel
theorem dX4_walk_15 : decode cX4_walk 15 = .ok (.istore 5, 2) := by decide +kernel
theorem dX4_walk_17 : decode cX4_walk 17 = .ok (.iload 5, 2) := by decide +kernel
theorem dX4_walk_19 : decode cX4_walk 19 = .ok (.bipush 40, 2) := by decide +kernel
theorem dX4_walk_21 : decode cX4_walk 21 = .ok (.if_icmp .ge 34, 3) := by decide +kernel
theorem dX4_walk_24 : decode cX4_walk 24 = .ok (.aload_n 0, 1) := by decide +kernel
theorem dX4_walk_25 : decode cX4_walk 25 = .ok (.iload 5, 2) := by decide +kernel
theorem dX4_walk_27 : decode cX4_walk 27 = .ok (.iload 4, 2) := by decide +kernel
theorem dX4_walk_29 : decode cX4_walk 29 = .ok (.iload_n 3, 1) := by decide +kernel
theorem dX4_walk_30 : decode cX4_walk 30 = .ok (.invokevirtual 110, 3) := by decide +kernel
theorem dX4_walk_33 : decode cX4_walk 33 = .ok (.istore 4, 2) := by decide +kernel
theorem dX4_walk_35 : decode cX4_walk 35 = .ok (.aload_n 0, 1) := by decide +kernel
theorem dX4_walk_36 : decode cX4_walk 36 = .ok (.getfield 41, 3) := by decide +kernel
theorem dX4_walk_39 : decode cX4_walk 39 = .ok (.iload_n 1, 1) := by decide +kernel
theorem dX4_walk_40 : decode cX4_walk 40 = .ok (.iload 5, 2) := by decide +kernel
theorem dX4_walk_42 : decode cX4_walk 42 = .ok (.iconst 1, 1) := by decide +kernel
theorem dX4_walk_43 : decode cX4_walk 43 = .ok (.iadd, 1) := by decide +kernel
theorem dX4_walk_44 : decode cX4_walk 44 = .ok (.iload 4, 2) := by decide +kernel
theorem dX4_walk_46 : decode cX4_walk 46 = .ok (.invokevirtual 107, 3) := by decide +kernel
theorem dX4_walk_49 : decode cX4_walk 49 = .ok (.iinc 5 1, 3) := by decide +kernel
theorem dX4_walk_52 : decode cX4_walk 52 = .ok (.goto (-35), 3) := by decide +kernel
theorem dX4_walk_55 : decode cX4_walk 55 = .ok (.return_, 1) := by decide +kernel
theorem dX4_occupy_0 : decode cX4_occupy 0 = .ok (.iconst 0, 1) := by decide +kernel
theorem dX4_occupy_1 : decode cX4_occupy 1 = .ok (.istore_n 2, 1) := by decide +kernel
theorem dX4_occupy_2 : decode cX4_occupy 2 = .ok (.iload_n 2, 1) := by decide +kernel
theorem dX4_occupy_3 : decode cX4_occupy 3 = .ok (.bipush 40, 2) := by decide +kernel
theorem dX4_occupy_5 : decode cX4_occupy 5 = .ok (.if_icmp .gt 31, 3) := by decide +kernel
theorem dX4_occupy_8 : decode cX4_occupy 8 = .ok (.aload_n 0, 1) := by decide +kernel
theorem dX4_occupy_9 : decode cX4_occupy 9 = .ok (.getfield 15, 3) := by decide +kernel
theorem dX4_occupy_12 : decode cX4_occupy 12 = .ok (.iload_n 2, 1) := by decide +kernel
theorem dX4_occupy_13 : decode cX4_occupy 13 = .ok (.bipush 36, 2) := by decide +kernel
theorem dX4_occupy_15 : decode cX4_occupy 15 = .ok (.imul, 1) := by decide +kernel
theorem dX4_occupy_16 : decode cX4_occupy 16 = .ok (.aload_n 0, 1) := by decide +kernel
theorem dX4_occupy_17 : decode cX4_occupy 17 = .ok (.getfield 41, 3) := by decide +kernel
theorem dX4_occupy_20 : decode cX4_occupy 20 = .ok (.iload_n 1, 1) := by decide +kernel
theorem dX4_occupy_21 : decode cX4_occupy 21 = .ok (.iload_n 2, 1) := by decide +kernel
theorem dX4_occupy_22 : decode cX4_occupy 22 = .ok (.invokevirtual 114, 3) := by decide +kernel
theorem dX4_occupy_25 : decode cX4_occupy 25 = .ok (.iadd, 1) := by decide +kernel
theorem dX4_occupy_26 : decode cX4_occupy 26 = .ok (.iload_n 1, 1) := by decide +kernel
theorem dX4_occupy_27 : decode cX4_occupy 27 = .ok (.invokestatic 118, 3) := by decide +kernel
theorem dX4_occupy_30 : decode cX4_occupy 30 = .ok (.iinc 2 1, 3) := by decide +kernel
theorem dX4_occupy_33 : decode cX4_occupy 33 = .ok (.goto (-31), 3) := by decide +kernel
theorem dX4_occupy_36 : decode cX4_occupy 36 = .ok (.return_, 1) := by decide +kernel
theorem dX4_measure_0 : decode cX4_measure 0 = .ok (.iconst 0, 1) := by decide +kernel
theorem dX4_measure_1 : decode cX4_measure 1 = .ok (.istore_n 2, 1) := by decide +kernel
theorem dX4_measure_2 : decode cX4_measure 2 = .ok (.iload_n 2, 1) := by decide +kernel
theorem dX4_measure_3 : decode cX4_measure 3 = .ok (.bipush 36, 2) := by decide +kernel
theorem dX4_measure_5 : decode cX4_measure 5 = .ok (.if_icmp .ge 45, 3) := by decide +kernel
theorem dX4_measure_8 : decode cX4_measure 8 = .ok (.sipush 1440, 3) := by decide +kernel
theorem dX4_measure_11 : decode cX4_measure 11 = .ok (.iload_n 2, 1) := by decide +kernel
theorem dX4_measure_12 : decode cX4_measure 12 = .ok (.iadd, 1) := by decide +kernel
theorem dX4_measure_13 : decode cX4_measure 13 = .ok (.istore_n 3, 1) := by decide +kernel
theorem dX4_measure_14 : decode cX4_measure 14 = .ok (.aload_n 0, 1) := by decide +kernel
theorem dX4_measure_15 : decode cX4_measure 15 = .ok (.getfield 9, 3) := by decide +kernel
theorem dX4_measure_18 : decode cX4_measure 18 = .ok (.iload_n 3, 1) := by decide +kernel
theorem dX4_measure_19 : decode cX4_measure 19 = .ok (.iload_n 2, 1) := by decide +kernel
theorem dX4_measure_20 : decode cX4_measure 20 = .ok (.iload_n 1, 1) := by decide +kernel
theorem dX4_measure_21 : decode cX4_measure 21 = .ok (.if_icmp .ne 19, 3) := by decide +kernel
theorem dX4_measure_24 : decode cX4_measure 24 = .ok (.aload_n 0, 1) := by decide +kernel
theorem dX4_measure_25 : decode cX4_measure 25 = .ok (.getfield 15, 3) := by decide +kernel
theorem dX4_measure_28 : decode cX4_measure 28 = .ok (.iload_n 3, 1) := by decide +kernel
theorem dX4_measure_29 : decode cX4_measure 29 = .ok (.invokestatic 79, 3) := by decide +kernel
theorem dX4_measure_32 : decode cX4_measure 32 = .ok (.iconst (-1), 1) := by decide +kernel
theorem dX4_measure_33 : decode cX4_measure 33 = .ok (.if_icmp .ne 7, 3) := by decide +kernel
theorem dX4_measure_36 : decode cX4_measure 36 = .ok (.iconst 0, 1) := by decide +kernel
theorem dX4_measure_37 : decode cX4_measure 37 = .ok (.goto 4, 3) := by decide +kernel
theorem dX4_measure_40 : decode cX4_measure 40 = .ok (.iconst (-1), 1) := by decide +kernel
theorem dX4_measure_41 : decode cX4_measure 41 = .ok (.invokestatic 118, 3) := by decide +kernel
theorem dX4_measure_44 : decode cX4_measure 44 = .ok (.iinc 2 1, 3) := by decide +kernel
theorem dX4_measure_47 : decode cX4_measure 47 = .ok (.goto (-45), 3) := by decide +kernel
theorem dX4_measure_50 : decode cX4_measure 50 = .ok (.bipush 39, 2) := by decide +kernel
theorem dX4_measure_52 : decode cX4_measure 52 = .ok (.istore_n 2, 1) := by decide +kernel
theorem dX4_measure_53 : decode cX4_measure 53 = .ok (.iload_n 2, 1) := by decide +kernel
theorem dX4_measure_54 : decode cX4_measure 54 = .ok (.ifCond .lt 43, 3) := by decide +kernel
theorem dX4_measure_57 : decode cX4_measure 57 = .ok (.iconst 0, 1) := by decide +kernel
theorem dX4_measure_58 : decode cX4_measure 58 = .ok (.istore_n 3, 1) := by decide +kernel
theorem dX4_measure_59 : decode cX4_measure 59 = .ok (.iload_n 3, 1) := by decide +kernel
theorem dX4_measure_60 : decode cX4_measure 60 = .ok (.bipush 36, 2) := by decide +kernel
theorem dX4_measure_62 : decode cX4_measure 62 = .ok (.if_icmp .ge 29, 3) := by decide +kernel
theorem dX4_measure_65 : decode cX4_measure 65 = .ok (.aload_n 0, 1) := by decide +kernel
theorem dX4_measure_66 : decode cX4_measure 66 = .ok (.getfield 9, 3) := by decide +kernel
theorem dX4_measure_69 : decode cX4_measure 69 = .ok (.iload_n 2, 1) := by decide +kernel
theorem dX4_measure_70 : decode cX4_measure 70 = .ok (.bipush 36, 2) := by decide +kernel
theorem dX4_measure_72 : decode cX4_measure 72 = .ok (.imul, 1) := by decide +kernel
theorem dX4_measure_73 : decode cX4_measure 73 = .ok (.iload_n 3, 1) := by decide +kernel
theorem dX4_measure_74 : decode cX4_measure 74 = .ok (.iadd, 1) := by decide +kernel
theorem dX4_measure_75 : decode cX4_measure 75 = .ok (.aload_n 0, 1) := by decide +kernel
theorem dX4_measure_76 : decode cX4_measure 76 = .ok (.iload_n 2, 1) := by decide +kernel
theorem dX4_measure_77 : decode cX4_measure 77 = .ok (.iload_n 3, 1) := by decide +kernel
theorem dX4_measure_78 : decode cX4_measure 78 = .ok (.iload_n 1, 1) := by decide +kernel
theorem dX4_measure_79 : decode cX4_measure 79 = .ok (.invokevirtual 122, 3) := by decide +kernel
theorem dX4_measure_82 : decode cX4_measure 82 = .ok (.invokestatic 118, 3) := by decide +kernel
theorem dX4_measure_85 : decode cX4_measure 85 = .ok (.iinc 3 1, 3) := by decide +kernel
theorem dX4_measure_88 : decode cX4_measure 88 = .ok (.goto (-29), 3) := by decide +kernel
theorem dX4_measure_91 : decode cX4_measure 91 = .ok (.iinc 2 (-1), 3) := by decide +kernel
theorem dX4_measure_94 : decode cX4_measure 94 = .ok (.goto (-41), 3) := by decide +kernel
theorem dX4_measure_97 : decode cX4_measure 97 = .ok (.return_, 1) := by decide +kernel
theorem dX4_leastFrom_0 : decode cX4_leastFrom 0 = .ok (.iconst (-1), 1) := by decide +kernel
theorem dX4_leastFrom_1 : decode cX4_leastFrom 1 = .ok (.istore 4, 2) := by decide +kernel
theorem dX4_leastFrom_3 : decode cX4_leastFrom 3 = .ok (.aload_n 0, 1) := by decide +kernel
theorem dX4_leastFrom_4 : decode cX4_leastFrom 4 = .ok (.getfield 18, 3) := by decide +kernel
theorem dX4_leastFrom_7 : decode cX4_leastFrom 7 = .ok (.getfield 125, 3) := by decide +kernel
theorem dX4_leastFrom_10 : decode cX4_leastFrom 10 = .ok (.iload_n 2, 1) := by decide +kernel
theorem dX4_leastFrom_11 : decode cX4_leastFrom 11 = .ok (.iconst 0, 1) := by decide +kernel
theorem dX4_leastFrom_12 : decode cX4_leastFrom 12 = .ok (.invokevirtual 129, 3) := by decide +kernel
theorem dX4_leastFrom_15 : decode cX4_leastFrom 15 = .ok (.iconst (-1), 1) := by decide +kernel
theorem dX4_leastFrom_16 : decode cX4_leastFrom 16 = .ok (.if_icmp .eq 20, 3) := by decide +kernel
theorem dX4_leastFrom_19 : decode cX4_leastFrom 19 = .ok (.aload_n 0, 1) := by decide +kernel
theorem dX4_leastFrom_20 : decode cX4_leastFrom 20 = .ok (.getfield 15, 3) := by decide +kernel
theorem dX4_leastFrom_23 : decode cX4_leastFrom 23 = .ok (.iload_n 1, 1) := by decide +kernel
theorem dX4_leastFrom_24 : decode cX4_leastFrom 24 = .ok (.bipush 36, 2) := by decide +kernel
theorem dX4_leastFrom_26 : decode cX4_leastFrom 26 = .ok (.imul, 1) := by decide +kernel
theorem dX4_leastFrom_27 : decode cX4_leastFrom 27 = .ok (.iload_n 2, 1) := by decide +kernel
theorem dX4_leastFrom_28 : decode cX4_leastFrom 28 = .ok (.iadd, 1) := by decide +kernel
theorem dX4_leastFrom_29 : decode cX4_leastFrom 29 = .ok (.invokestatic 79, 3) := by decide +kernel
theorem dX4_leastFrom_32 : decode cX4_leastFrom 32 = .ok (.iconst (-1), 1) := by decide +kernel
theorem dX4_leastFrom_33 : decode cX4_leastFrom 33 = .ok (.if_icmp .eq 5, 3) := by decide +kernel
theorem dX4_leastFrom_36 : decode cX4_leastFrom 36 = .ok (.iconst (-1), 1) := by decide +kernel
theorem dX4_leastFrom_37 : decode cX4_leastFrom 37 = .ok (.ireturn, 1) := by decide +kernel
theorem dX4_leastFrom_38 : decode cX4_leastFrom 38 = .ok (.iconst 0, 1) := by decide +kernel
theorem dX4_leastFrom_39 : decode cX4_leastFrom 39 = .ok (.istore 5, 2) := by decide +kernel
theorem dX4_leastFrom_41 : decode cX4_leastFrom 41 = .ok (.iload 5, 2) := by decide +kernel
theorem dX4_leastFrom_43 : decode cX4_leastFrom 43 = .ok (.iconst 5, 1) := by decide +kernel
theorem dX4_leastFrom_44 : decode cX4_leastFrom 44 = .ok (.if_icmp .ge 54, 3) := by decide +kernel
theorem dX4_leastFrom_47 : decode cX4_leastFrom 47 = .ok (.aload_n 0, 1) := by decide +kernel
theorem dX4_leastFrom_48 : decode cX4_leastFrom 48 = .ok (.iload_n 1, 1) := by decide +kernel
theorem dX4_leastFrom_49 : decode cX4_leastFrom 49 = .ok (.iload_n 2, 1) := by decide +kernel
theorem dX4_leastFrom_50 : decode cX4_leastFrom 50 = .ok (.aload_n 0, 1) := by decide +kernel
theorem dX4_leastFrom_51 : decode cX4_leastFrom 51 = .ok (.getfield 18, 3) := by decide +kernel
theorem dX4_leastFrom_54 : decode cX4_leastFrom 54 = .ok (.getfield 125, 3) := by decide +kernel
theorem dX4_leastFrom_57 : decode cX4_leastFrom 57 = .ok (.iload_n 2, 1) := by decide +kernel
theorem dX4_leastFrom_58 : decode cX4_leastFrom 58 = .ok (.iload 5, 2) := by decide +kernel
theorem dX4_leastFrom_60 : decode cX4_leastFrom 60 = .ok (.invokevirtual 129, 3) := by decide +kernel
theorem dX4_leastFrom_63 : decode cX4_leastFrom 63 = .ok (.iload_n 3, 1) := by decide +kernel
theorem dX4_leastFrom_64 : decode cX4_leastFrom 64 = .ok (.invokevirtual 134, 3) := by decide +kernel
theorem dX4_leastFrom_67 : decode cX4_leastFrom 67 = .ok (.istore 6, 2) := by decide +kernel
theorem dX4_leastFrom_69 : decode cX4_leastFrom 69 = .ok (.iload 6, 2) := by decide +kernel
theorem dX4_leastFrom_71 : decode cX4_leastFrom 71 = .ok (.iconst (-1), 1) := by decide +kernel
theorem dX4_leastFrom_72 : decode cX4_leastFrom 72 = .ok (.if_icmp .eq 20, 3) := by decide +kernel
theorem dX4_leastFrom_75 : decode cX4_leastFrom 75 = .ok (.iload 4, 2) := by decide +kernel
theorem dX4_leastFrom_77 : decode cX4_leastFrom 77 = .ok (.iconst (-1), 1) := by decide +kernel
theorem dX4_leastFrom_78 : decode cX4_leastFrom 78 = .ok (.if_icmp .eq 10, 3) := by decide +kernel
theorem dX4_leastFrom_81 : decode cX4_leastFrom 81 = .ok (.iload 6, 2) := by decide +kernel
theorem dX4_leastFrom_83 : decode cX4_leastFrom 83 = .ok (.iload 4, 2) := by decide +kernel
theorem dX4_leastFrom_85 : decode cX4_leastFrom 85 = .ok (.if_icmp .ge 7, 3) := by decide +kernel
theorem dX4_leastFrom_88 : decode cX4_leastFrom 88 = .ok (.iload 6, 2) := by decide +kernel
theorem dX4_leastFrom_90 : decode cX4_leastFrom 90 = .ok (.istore 4, 2) := by decide +kernel
theorem dX4_leastFrom_92 : decode cX4_leastFrom 92 = .ok (.iinc 5 1, 3) := by decide +kernel
theorem dX4_leastFrom_95 : decode cX4_leastFrom 95 = .ok (.goto (-54), 3) := by decide +kernel
theorem dX4_leastFrom_98 : decode cX4_leastFrom 98 = .ok (.iload 4, 2) := by decide +kernel
theorem dX4_leastFrom_100 : decode cX4_leastFrom 100 = .ok (.ireturn, 1) := by decide +kernel
theorem dX4_costBy_0 : decode cX4_costBy 0 = .ok (.iload_n 3, 1) := by decide +kernel
theorem dX4_costBy_1 : decode cX4_costBy 1 = .ok (.iconst (-1), 1) := by decide +kernel
theorem dX4_costBy_2 : decode cX4_costBy 2 = .ok (.if_icmp .ne 7, 3) := by decide +kernel
theorem dX4_costBy_5 : decode cX4_costBy 5 = .ok (.iconst (-1), 1) := by decide +kernel
theorem dX4_costBy_6 : decode cX4_costBy 6 = .ok (.goto 18, 3) := by decide +kernel
theorem dX4_costBy_9 : decode cX4_costBy 9 = .ok (.aload_n 0, 1) := by decide +kernel
theorem dX4_costBy_10 : decode cX4_costBy 10 = .ok (.getfield 9, 3) := by decide +kernel
theorem dX4_costBy_13 : decode cX4_costBy 13 = .ok (.iload_n 1, 1) := by decide +kernel
theorem dX4_costBy_14 : decode cX4_costBy 14 = .ok (.iconst 1, 1) := by decide +kernel
theorem dX4_costBy_15 : decode cX4_costBy 15 = .ok (.iadd, 1) := by decide +kernel
theorem dX4_costBy_16 : decode cX4_costBy 16 = .ok (.bipush 36, 2) := by decide +kernel
theorem dX4_costBy_18 : decode cX4_costBy 18 = .ok (.imul, 1) := by decide +kernel
theorem dX4_costBy_19 : decode cX4_costBy 19 = .ok (.iload_n 3, 1) := by decide +kernel
theorem dX4_costBy_20 : decode cX4_costBy 20 = .ok (.iadd, 1) := by decide +kernel
theorem dX4_costBy_21 : decode cX4_costBy 21 = .ok (.invokestatic 79, 3) := by decide +kernel
theorem dX4_costBy_24 : decode cX4_costBy 24 = .ok (.istore 5, 2) := by decide +kernel
theorem dX4_costBy_26 : decode cX4_costBy 26 = .ok (.iload 5, 2) := by decide +kernel
theorem dX4_costBy_28 : decode cX4_costBy 28 = .ok (.iconst (-1), 1) := by decide +kernel
theorem dX4_costBy_29 : decode cX4_costBy 29 = .ok (.if_icmp .ne 5, 3) := by decide +kernel
theorem dX4_costBy_32 : decode cX4_costBy 32 = .ok (.iconst (-1), 1) := by decide +kernel
theorem dX4_costBy_33 : decode cX4_costBy 33 = .ok (.ireturn, 1) := by decide +kernel
theorem dX4_costBy_34 : decode cX4_costBy 34 = .ok (.aload_n 0, 1) := by decide +kernel
theorem dX4_costBy_35 : decode cX4_costBy 35 = .ok (.getfield 15, 3) := by decide +kernel
theorem dX4_costBy_38 : decode cX4_costBy 38 = .ok (.iload_n 1, 1) := by decide +kernel
theorem dX4_costBy_39 : decode cX4_costBy 39 = .ok (.bipush 36, 2) := by decide +kernel
theorem dX4_costBy_41 : decode cX4_costBy 41 = .ok (.imul, 1) := by decide +kernel
theorem dX4_costBy_42 : decode cX4_costBy 42 = .ok (.iload_n 3, 1) := by decide +kernel
theorem dX4_costBy_43 : decode cX4_costBy 43 = .ok (.iadd, 1) := by decide +kernel
theorem dX4_costBy_44 : decode cX4_costBy 44 = .ok (.invokestatic 79, 3) := by decide +kernel
theorem dX4_costBy_47 : decode cX4_costBy 47 = .ok (.istore 6, 2) := by decide +kernel
theorem dX4_costBy_49 : decode cX4_costBy 49 = .ok (.iload 6, 2) := by decide +kernel
theorem dX4_costBy_51 : decode cX4_costBy 51 = .ok (.iconst (-1), 1) := by decide +kernel
theorem dX4_costBy_52 : decode cX4_costBy 52 = .ok (.if_icmp .eq 27, 3) := by decide +kernel
theorem dX4_costBy_55 : decode cX4_costBy 55 = .ok (.aload_n 0, 1) := by decide +kernel
theorem dX4_costBy_56 : decode cX4_costBy 56 = .ok (.getfield 15, 3) := by decide +kernel
theorem dX4_costBy_59 : decode cX4_costBy 59 = .ok (.iload_n 1, 1) := by decide +kernel
theorem dX4_costBy_60 : decode cX4_costBy 60 = .ok (.iconst 1, 1) := by decide +kernel
theorem dX4_costBy_61 : decode cX4_costBy 61 = .ok (.iadd, 1) := by decide +kernel
theorem dX4_costBy_62 : decode cX4_costBy 62 = .ok (.bipush 36, 2) := by decide +kernel
theorem dX4_costBy_64 : decode cX4_costBy 64 = .ok (.imul, 1) := by decide +kernel
theorem dX4_costBy_65 : decode cX4_costBy 65 = .ok (.iload_n 2, 1) := by decide +kernel
theorem dX4_costBy_66 : decode cX4_costBy 66 = .ok (.iadd, 1) := by decide +kernel
theorem dX4_costBy_67 : decode cX4_costBy 67 = .ok (.invokestatic 79, 3) := by decide +kernel
theorem dX4_costBy_70 : decode cX4_costBy 70 = .ok (.iload 6, 2) := by decide +kernel
theorem dX4_costBy_72 : decode cX4_costBy 72 = .ok (.if_icmp .ne 7, 3) := by decide +kernel
theorem dX4_costBy_75 : decode cX4_costBy 75 = .ok (.iconst 1, 1) := by decide +kernel
theorem dX4_costBy_76 : decode cX4_costBy 76 = .ok (.goto 4, 3) := by decide +kernel
theorem dX4_costBy_79 : decode cX4_costBy 79 = .ok (.iconst 0, 1) := by decide +kernel
theorem dX4_costBy_80 : decode cX4_costBy 80 = .ok (.istore 7, 2) := by decide +kernel
theorem dX4_costBy_82 : decode cX4_costBy 82 = .ok (.iload 7, 2) := by decide +kernel
theorem dX4_costBy_84 : decode cX4_costBy 84 = .ok (.ifCond .eq 17, 3) := by decide +kernel
theorem dX4_costBy_87 : decode cX4_costBy 87 = .ok (.aload_n 0, 1) := by decide +kernel
theorem dX4_costBy_88 : decode cX4_costBy 88 = .ok (.getfield 18, 3) := by decide +kernel
theorem dX4_costBy_91 : decode cX4_costBy 91 = .ok (.getfield 138, 3) := by decide +kernel
theorem dX4_costBy_94 : decode cX4_costBy 94 = .ok (.ifCond .eq 7, 3) := by decide +kernel
theorem dX4_costBy_97 : decode cX4_costBy 97 = .ok (.iconst (-1), 1) := by decide +kernel
theorem dX4_costBy_98 : decode cX4_costBy 98 = .ok (.goto 13, 3) := by decide +kernel
theorem dX4_costBy_101 : decode cX4_costBy 101 = .ok (.iload 5, 2) := by decide +kernel
theorem dX4_costBy_103 : decode cX4_costBy 103 = .ok (.iload_n 2, 1) := by decide +kernel
theorem dX4_costBy_104 : decode cX4_costBy 104 = .ok (.iload_n 3, 1) := by decide +kernel
theorem dX4_costBy_105 : decode cX4_costBy 105 = .ok (.iload 4, 2) := by decide +kernel
theorem dX4_costBy_107 : decode cX4_costBy 107 = .ok (.invokestatic 142, 3) := by decide +kernel
theorem dX4_costBy_110 : decode cX4_costBy 110 = .ok (.iadd, 1) := by decide +kernel
theorem dX4_costBy_111 : decode cX4_costBy 111 = .ok (.ireturn, 1) := by decide +kernel
theorem dX4_follow_0 : decode cX4_follow 0 = .ok (.aload_n 0, 1) := by decide +kernel
theorem dX4_follow_1 : decode cX4_follow 1 = .ok (.getfield 9, 3) := by decide +kernel
theorem dX4_follow_4 : decode cX4_follow 4 = .ok (.iload_n 1, 1) := by decide +kernel
theorem dX4_follow_5 : decode cX4_follow 5 = .ok (.bipush 36, 2) := by decide +kernel
theorem dX4_follow_7 : decode cX4_follow 7 = .ok (.imul, 1) := by decide +kernel
theorem dX4_follow_8 : decode cX4_follow 8 = .ok (.iload_n 2, 1) := by decide +kernel
theorem dX4_follow_9 : decode cX4_follow 9 = .ok (.iadd, 1) := by decide +kernel
theorem dX4_follow_10 : decode cX4_follow 10 = .ok (.invokestatic 79, 3) := by decide +kernel
theorem dX4_follow_13 : decode cX4_follow 13 = .ok (.istore 4, 2) := by decide +kernel
theorem dX4_follow_15 : decode cX4_follow 15 = .ok (.iconst 0, 1) := by decide +kernel
theorem dX4_follow_16 : decode cX4_follow 16 = .ok (.istore 5, 2) := by decide +kernel
theorem dX4_follow_18 : decode cX4_follow 18 = .ok (.iload 5, 2) := by decide +kernel
theorem dX4_follow_20 : decode cX4_follow 20 = .ok (.iconst 5, 1) := by decide +kernel
theorem dX4_follow_21 : decode cX4_follow 21 = .ok (.if_icmp .ge 47, 3) := by decide +kernel
theorem dX4_follow_24 : decode cX4_follow 24 = .ok (.aload_n 0, 1) := by decide +kernel
theorem dX4_follow_25 : decode cX4_follow 25 = .ok (.getfield 18, 3) := by decide +kernel
theorem dX4_follow_28 : decode cX4_follow 28 = .ok (.getfield 125, 3) := by decide +kernel
theorem dX4_follow_31 : decode cX4_follow 31 = .ok (.iload_n 2, 1) := by decide +kernel
theorem dX4_follow_32 : decode cX4_follow 32 = .ok (.iload 5, 2) := by decide +kernel
theorem dX4_follow_34 : decode cX4_follow 34 = .ok (.invokevirtual 129, 3) := by decide +kernel
theorem dX4_follow_37 : decode cX4_follow 37 = .ok (.istore 6, 2) := by decide +kernel
theorem dX4_follow_39 : decode cX4_follow 39 = .ok (.iload 6, 2) := by decide +kernel
theorem dX4_follow_41 : decode cX4_follow 41 = .ok (.iconst (-1), 1) := by decide +kernel
theorem dX4_follow_42 : decode cX4_follow 42 = .ok (.if_icmp .eq 20, 3) := by decide +kernel
theorem dX4_follow_45 : decode cX4_follow 45 = .ok (.aload_n 0, 1) := by decide +kernel
theorem dX4_follow_46 : decode cX4_follow 46 = .ok (.iload_n 1, 1) := by decide +kernel
theorem dX4_follow_47 : decode cX4_follow 47 = .ok (.iload_n 2, 1) := by decide +kernel
theorem dX4_follow_48 : decode cX4_follow 48 = .ok (.iload 6, 2) := by decide +kernel
theorem dX4_follow_50 : decode cX4_follow 50 = .ok (.iload_n 3, 1) := by decide +kernel
theorem dX4_follow_51 : decode cX4_follow 51 = .ok (.invokevirtual 134, 3) := by decide +kernel
theorem dX4_follow_54 : decode cX4_follow 54 = .ok (.iload 4, 2) := by decide +kernel
theorem dX4_follow_56 : decode cX4_follow 56 = .ok (.if_icmp .ne 6, 3) := by decide +kernel
theorem dX4_follow_59 : decode cX4_follow 59 = .ok (.iload 6, 2) := by decide +kernel
theorem dX4_follow_61 : decode cX4_follow 61 = .ok (.ireturn, 1) := by decide +kernel
theorem dX4_follow_62 : decode cX4_follow 62 = .ok (.iinc 5 1, 3) := by decide +kernel
theorem dX4_follow_65 : decode cX4_follow 65 = .ok (.goto (-47), 3) := by decide +kernel
theorem dX4_follow_68 : decode cX4_follow 68 = .ok (.iload_n 2, 1) := by decide +kernel
theorem dX4_follow_69 : decode cX4_follow 69 = .ok (.ireturn, 1) := by decide +kernel
theorem dX4_stepsOfTrial_0 : decode cX4_stepsOfTrial 0 = .ok (.bipush 40, 2) := by decide +kernel
theorem dX4_stepsOfTrial_2 : decode cX4_stepsOfTrial 2 = .ok (.istore_n 1, 1) := by decide +kernel
theorem dX4_stepsOfTrial_3 : decode cX4_stepsOfTrial 3 = .ok (.iload_n 1, 1) := by decide +kernel
theorem dX4_stepsOfTrial_4 : decode cX4_stepsOfTrial 4 = .ok (.ifCond .le 19, 3) := by decide +kernel
theorem dX4_stepsOfTrial_7 : decode cX4_stepsOfTrial 7 = .ok (.aload_n 0, 1) := by decide +kernel
theorem dX4_stepsOfTrial_8 : decode cX4_stepsOfTrial 8 = .ok (.iload_n 1, 1) := by decide +kernel
theorem dX4_stepsOfTrial_9 : decode cX4_stepsOfTrial 9 = .ok (.iconst 1, 1) := by decide +kernel
theorem dX4_stepsOfTrial_10 : decode cX4_stepsOfTrial 10 = .ok (.isub, 1) := by decide +kernel
theorem dX4_stepsOfTrial_11 : decode cX4_stepsOfTrial 11 = .ok (.invokevirtual 145, 3) := by decide +kernel
theorem dX4_stepsOfTrial_14 : decode cX4_stepsOfTrial 14 = .ok (.ifCond .eq 9, 3) := by decide +kernel
theorem dX4_stepsOfTrial_17 : decode cX4_stepsOfTrial 17 = .ok (.iinc 1 (-1), 3) := by decide +kernel
theorem dX4_stepsOfTrial_20 : decode cX4_stepsOfTrial 20 = .ok (.goto (-17), 3) := by decide +kernel
theorem dX4_stepsOfTrial_23 : decode cX4_stepsOfTrial 23 = .ok (.iload_n 1, 1) := by decide +kernel
theorem dX4_stepsOfTrial_24 : decode cX4_stepsOfTrial 24 = .ok (.ireturn, 1) := by decide +kernel
theorem dX4_allAtEnds_0 : decode cX4_allAtEnds 0 = .ok (.iconst 0, 1) := by decide +kernel
theorem dX4_allAtEnds_1 : decode cX4_allAtEnds 1 = .ok (.istore_n 2, 1) := by decide +kernel
theorem dX4_allAtEnds_2 : decode cX4_allAtEnds 2 = .ok (.iload_n 2, 1) := by decide +kernel
theorem dX4_allAtEnds_3 : decode cX4_allAtEnds 3 = .ok (.aload_n 0, 1) := by decide +kernel
theorem dX4_allAtEnds_4 : decode cX4_allAtEnds 4 = .ok (.getfield 18, 3) := by decide +kernel
theorem dX4_allAtEnds_7 : decode cX4_allAtEnds 7 = .ok (.getfield 28, 3) := by decide +kernel
theorem dX4_allAtEnds_10 : decode cX4_allAtEnds 10 = .ok (.if_icmp .ge 34, 3) := by decide +kernel
theorem dX4_allAtEnds_13 : decode cX4_allAtEnds 13 = .ok (.aload_n 0, 1) := by decide +kernel
theorem dX4_allAtEnds_14 : decode cX4_allAtEnds 14 = .ok (.getfield 41, 3) := by decide +kernel
theorem dX4_allAtEnds_17 : decode cX4_allAtEnds 17 = .ok (.iload_n 2, 1) := by decide +kernel
theorem dX4_allAtEnds_18 : decode cX4_allAtEnds 18 = .ok (.iload_n 1, 1) := by decide +kernel
theorem dX4_allAtEnds_19 : decode cX4_allAtEnds 19 = .ok (.invokevirtual 114, 3) := by decide +kernel
theorem dX4_allAtEnds_22 : decode cX4_allAtEnds 22 = .ok (.aload_n 0, 1) := by decide +kernel
theorem dX4_allAtEnds_23 : decode cX4_allAtEnds 23 = .ok (.getfield 18, 3) := by decide +kernel
theorem dX4_allAtEnds_26 : decode cX4_allAtEnds 26 = .ok (.getfield 86, 3) := by decide +kernel
theorem dX4_allAtEnds_29 : decode cX4_allAtEnds 29 = .ok (.iload_n 2, 1) := by decide +kernel
theorem dX4_allAtEnds_30 : decode cX4_allAtEnds 30 = .ok (.invokestatic 79, 3) := by decide +kernel
theorem dX4_allAtEnds_33 : decode cX4_allAtEnds 33 = .ok (.if_icmp .eq 5, 3) := by decide +kernel
theorem dX4_allAtEnds_36 : decode cX4_allAtEnds 36 = .ok (.iconst 0, 1) := by decide +kernel
theorem dX4_allAtEnds_37 : decode cX4_allAtEnds 37 = .ok (.ireturn, 1) := by decide +kernel
theorem dX4_allAtEnds_38 : decode cX4_allAtEnds 38 = .ok (.iinc 2 1, 3) := by decide +kernel
theorem dX4_allAtEnds_41 : decode cX4_allAtEnds 41 = .ok (.goto (-39), 3) := by decide +kernel
theorem dX4_allAtEnds_44 : decode cX4_allAtEnds 44 = .ok (.iconst 1, 1) := by decide +kernel
theorem dX4_allAtEnds_45 : decode cX4_allAtEnds 45 = .ok (.ireturn, 1) := by decide +kernel
