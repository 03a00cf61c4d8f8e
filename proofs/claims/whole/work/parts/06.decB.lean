theorem dX1_init_0 : decode cX1_init 0 = .ok (.aload_n 0, 1) := by decide +kernel
theorem dX1_init_1 : decode cX1_init 1 = .ok (.invokespecial 3, 3) := by decide +kernel
theorem dX1_init_4 : decode cX1_init 4 = .ok (.aload_n 0, 1) := by decide +kernel
theorem dX1_init_5 : decode cX1_init 5 = .ok (.aload_n 1, 1) := by decide +kernel
theorem dX1_init_6 : decode cX1_init 6 = .ok (.putfield 9, 3) := by decide +kernel
theorem dX1_init_9 : decode cX1_init 9 = .ok (.aload_n 0, 1) := by decide +kernel
theorem dX1_init_10 : decode cX1_init 10 = .ok (.aload_n 1, 1) := by decide +kernel
theorem dX1_init_11 : decode cX1_init 11 = .ok (.getfield 15, 3) := by decide +kernel
theorem dX1_init_14 : decode cX1_init 14 = .ok (.putfield 21, 3) := by decide +kernel
theorem dX1_init_17 : decode cX1_init 17 = .ok (.aload_n 0, 1) := by decide +kernel
theorem dX1_init_18 : decode cX1_init 18 = .ok (.aload_n 0, 1) := by decide +kernel
theorem dX1_init_19 : decode cX1_init 19 = .ok (.getfield 21, 3) := by decide +kernel
theorem dX1_init_22 : decode cX1_init 22 = .ok (.invokestatic 22, 3) := by decide +kernel
theorem dX1_init_25 : decode cX1_init 25 = .ok (.newarray .int, 2) := by decide +kernel
theorem dX1_init_27 : decode cX1_init 27 = .ok (.putfield 26, 3) := by decide +kernel
theorem dX1_init_30 : decode cX1_init 30 = .ok (.aload_n 0, 1) := by decide +kernel
theorem dX1_init_31 : decode cX1_init 31 = .ok (.aload_n 0, 1) := by decide +kernel
theorem dX1_init_32 : decode cX1_init 32 = .ok (.getfield 21, 3) := by decide +kernel
theorem dX1_init_35 : decode cX1_init 35 = .ok (.invokestatic 22, 3) := by decide +kernel
theorem dX1_init_38 : decode cX1_init 38 = .ok (.newarray .int, 2) := by decide +kernel
theorem dX1_init_40 : decode cX1_init 40 = .ok (.putfield 30, 3) := by decide +kernel
theorem dX1_init_43 : decode cX1_init 43 = .ok (.return_, 1) := by decide +kernel
theorem dX1_make_0 : decode cX1_make 0 = .ok (.aload_n 0, 1) := by decide +kernel
theorem dX1_make_1 : decode cX1_make 1 = .ok (.aload_n 0, 1) := by decide +kernel
theorem dX1_make_2 : decode cX1_make 2 = .ok (.aload_n 0, 1) := by decide +kernel
theorem dX1_make_3 : decode cX1_make 3 = .ok (.getfield 9, 3) := by decide +kernel
theorem dX1_make_6 : decode cX1_make 6 = .ok (.getfield 33, 3) := by decide +kernel
theorem dX1_make_9 : decode cX1_make 9 = .ok (.iconst 0, 1) := by decide +kernel
theorem dX1_make_10 : decode cX1_make 10 = .ok (.invokevirtual 36, 3) := by decide +kernel
theorem dX1_make_13 : decode cX1_make 13 = .ok (.putfield 40, 3) := by decide +kernel
theorem dX1_make_16 : decode cX1_make 16 = .ok (.aload_n 0, 1) := by decide +kernel
theorem dX1_make_17 : decode cX1_make 17 = .ok (.aload_n 0, 1) := by decide +kernel
theorem dX1_make_18 : decode cX1_make 18 = .ok (.aload_n 0, 1) := by decide +kernel
theorem dX1_make_19 : decode cX1_make 19 = .ok (.getfield 9, 3) := by decide +kernel
theorem dX1_make_22 : decode cX1_make 22 = .ok (.getfield 33, 3) := by decide +kernel
theorem dX1_make_25 : decode cX1_make 25 = .ok (.iconst 1, 1) := by decide +kernel
theorem dX1_make_26 : decode cX1_make 26 = .ok (.invokevirtual 36, 3) := by decide +kernel
theorem dX1_make_29 : decode cX1_make 29 = .ok (.putfield 43, 3) := by decide +kernel
theorem dX1_make_32 : decode cX1_make 32 = .ok (.aload_n 0, 1) := by decide +kernel
theorem dX1_make_33 : decode cX1_make 33 = .ok (.aload_n 0, 1) := by decide +kernel
theorem dX1_make_34 : decode cX1_make 34 = .ok (.getfield 9, 3) := by decide +kernel
theorem dX1_make_37 : decode cX1_make 37 = .ok (.getfield 46, 3) := by decide +kernel
theorem dX1_make_40 : decode cX1_make 40 = .ok (.iconst 0, 1) := by decide +kernel
theorem dX1_make_41 : decode cX1_make 41 = .ok (.invokevirtual 36, 3) := by decide +kernel
theorem dX1_make_44 : decode cX1_make 44 = .ok (.bipush 36, 2) := by decide +kernel
theorem dX1_make_46 : decode cX1_make 46 = .ok (.aload_n 0, 1) := by decide +kernel
theorem dX1_make_47 : decode cX1_make 47 = .ok (.aload_n 0, 1) := by decide +kernel
theorem dX1_make_48 : decode cX1_make 48 = .ok (.getfield 9, 3) := by decide +kernel
theorem dX1_make_51 : decode cX1_make 51 = .ok (.getfield 46, 3) := by decide +kernel
theorem dX1_make_54 : decode cX1_make 54 = .ok (.iconst 1, 1) := by decide +kernel
theorem dX1_make_55 : decode cX1_make 55 = .ok (.invokevirtual 36, 3) := by decide +kernel
theorem dX1_make_58 : decode cX1_make 58 = .ok (.imul, 1) := by decide +kernel
theorem dX1_make_59 : decode cX1_make 59 = .ok (.iadd, 1) := by decide +kernel
theorem dX1_make_60 : decode cX1_make 60 = .ok (.istore_n 3, 1) := by decide +kernel
theorem dX1_make_61 : decode cX1_make 61 = .ok (.aload_n 0, 1) := by decide +kernel
theorem dX1_make_62 : decode cX1_make 62 = .ok (.iload_n 3, 1) := by decide +kernel
theorem dX1_make_63 : decode cX1_make 63 = .ok (.aload_n 0, 1) := by decide +kernel
theorem dX1_make_64 : decode cX1_make 64 = .ok (.getfield 40, 3) := by decide +kernel
theorem dX1_make_67 : decode cX1_make 67 = .ok (.bipush 36, 2) := by decide +kernel
theorem dX1_make_69 : decode cX1_make 69 = .ok (.aload_n 0, 1) := by decide +kernel
theorem dX1_make_70 : decode cX1_make 70 = .ok (.getfield 43, 3) := by decide +kernel
theorem dX1_make_73 : decode cX1_make 73 = .ok (.imul, 1) := by decide +kernel
theorem dX1_make_74 : decode cX1_make 74 = .ok (.iadd, 1) := by decide +kernel
theorem dX1_make_75 : decode cX1_make 75 = .ok (.invokevirtual 49, 3) := by decide +kernel
theorem dX1_make_78 : decode cX1_make 78 = .ok (.aload_n 1, 1) := by decide +kernel
theorem dX1_make_79 : decode cX1_make 79 = .ok (.aload_n 0, 1) := by decide +kernel
theorem dX1_make_80 : decode cX1_make 80 = .ok (.getfield 26, 3) := by decide +kernel
theorem dX1_make_83 : decode cX1_make 83 = .ok (.iload_n 3, 1) := by decide +kernel
theorem dX1_make_84 : decode cX1_make 84 = .ok (.invokestatic 53, 3) := by decide +kernel
theorem dX1_make_87 : decode cX1_make 87 = .ok (.putfield 56, 3) := by decide +kernel
theorem dX1_make_90 : decode cX1_make 90 = .ok (.aload_n 1, 1) := by decide +kernel
theorem dX1_make_91 : decode cX1_make 91 = .ok (.invokevirtual 61, 3) := by decide +kernel
theorem dX1_make_94 : decode cX1_make 94 = .ok (.ifCond .eq 13, 3) := by decide +kernel
theorem dX1_make_97 : decode cX1_make 97 = .ok (.aload_n 1, 1) := by decide +kernel
theorem dX1_make_98 : decode cX1_make 98 = .ok (.aload_n 0, 1) := by decide +kernel
theorem dX1_make_99 : decode cX1_make 99 = .ok (.aload_n 1, 1) := by decide +kernel
theorem dX1_make_100 : decode cX1_make 100 = .ok (.iload_n 3, 1) := by decide +kernel
theorem dX1_make_101 : decode cX1_make 101 = .ok (.invokevirtual 65, 3) := by decide +kernel
theorem dX1_make_104 : decode cX1_make 104 = .ok (.putfield 69, 3) := by decide +kernel
theorem dX1_make_107 : decode cX1_make 107 = .ok (.return_, 1) := by decide +kernel
theorem dX1_placeOf_0 : decode cX1_placeOf 0 = .ok (.iload_n 2, 1) := by decide +kernel
theorem dX1_placeOf_1 : decode cX1_placeOf 1 = .ok (.aload_n 0, 1) := by decide +kernel
theorem dX1_placeOf_2 : decode cX1_placeOf 2 = .ok (.getfield 21, 3) := by decide +kernel
theorem dX1_placeOf_5 : decode cX1_placeOf 5 = .ok (.if_icmp .ge 11, 3) := by decide +kernel
theorem dX1_placeOf_8 : decode cX1_placeOf 8 = .ok (.aload_n 1, 1) := by decide +kernel
theorem dX1_placeOf_9 : decode cX1_placeOf 9 = .ok (.iload_n 2, 1) := by decide +kernel
theorem dX1_placeOf_10 : decode cX1_placeOf 10 = .ok (.invokestatic 53, 3) := by decide +kernel
theorem dX1_placeOf_13 : decode cX1_placeOf 13 = .ok (.goto 4, 3) := by decide +kernel
theorem dX1_placeOf_16 : decode cX1_placeOf 16 = .ok (.iconst 0, 1) := by decide +kernel
theorem dX1_placeOf_17 : decode cX1_placeOf 17 = .ok (.ireturn, 1) := by decide +kernel
theorem dX1_measure_0 : decode cX1_measure 0 = .ok (.aload_n 0, 1) := by decide +kernel
theorem dX1_measure_1 : decode cX1_measure 1 = .ok (.getfield 26, 3) := by decide +kernel
theorem dX1_measure_4 : decode cX1_measure 4 = .ok (.iconst (-1), 1) := by decide +kernel
theorem dX1_measure_5 : decode cX1_measure 5 = .ok (.invokestatic 72, 3) := by decide +kernel
theorem dX1_measure_8 : decode cX1_measure 8 = .ok (.aload_n 0, 1) := by decide +kernel
theorem dX1_measure_9 : decode cX1_measure 9 = .ok (.iconst 0, 1) := by decide +kernel
theorem dX1_measure_10 : decode cX1_measure 10 = .ok (.putfield 78, 3) := by decide +kernel
theorem dX1_measure_13 : decode cX1_measure 13 = .ok (.aload_n 0, 1) := by decide +kernel
theorem dX1_measure_14 : decode cX1_measure 14 = .ok (.iload_n 2, 1) := by decide +kernel
theorem dX1_measure_15 : decode cX1_measure 15 = .ok (.iconst 0, 1) := by decide +kernel
theorem dX1_measure_16 : decode cX1_measure 16 = .ok (.invokevirtual 81, 3) := by decide +kernel
theorem dX1_measure_19 : decode cX1_measure 19 = .ok (.iconst 0, 1) := by decide +kernel
theorem dX1_measure_20 : decode cX1_measure 20 = .ok (.istore_n 3, 1) := by decide +kernel
theorem dX1_measure_21 : decode cX1_measure 21 = .ok (.iconst 0, 1) := by decide +kernel
theorem dX1_measure_22 : decode cX1_measure 22 = .ok (.istore 4, 2) := by decide +kernel
theorem dX1_measure_24 : decode cX1_measure 24 = .ok (.iconst 1, 1) := by decide +kernel
theorem dX1_measure_25 : decode cX1_measure 25 = .ok (.istore 5, 2) := by decide +kernel
theorem dX1_measure_27 : decode cX1_measure 27 = .ok (.iload 5, 2) := by decide +kernel
theorem dX1_measure_29 : decode cX1_measure 29 = .ok (.iconst 2, 1) := by decide +kernel
theorem dX1_measure_30 : decode cX1_measure 30 = .ok (.aload_n 0, 1) := by decide +kernel
theorem dX1_measure_31 : decode cX1_measure 31 = .ok (.getfield 26, 3) := by decide +kernel
theorem dX1_measure_34 : decode cX1_measure 34 = .ok (.arraylength, 1) := by decide +kernel
theorem dX1_measure_35 : decode cX1_measure 35 = .ok (.imul, 1) := by decide +kernel
theorem dX1_measure_36 : decode cX1_measure 36 = .ok (.if_icmp .gt 64, 3) := by decide +kernel
theorem dX1_measure_39 : decode cX1_measure 39 = .ok (.iload_n 3, 1) := by decide +kernel
theorem dX1_measure_40 : decode cX1_measure 40 = .ok (.aload_n 0, 1) := by decide +kernel
theorem dX1_measure_41 : decode cX1_measure 41 = .ok (.getfield 78, 3) := by decide +kernel
theorem dX1_measure_44 : decode cX1_measure 44 = .ok (.if_icmp .ge 56, 3) := by decide +kernel
theorem dX1_measure_47 : decode cX1_measure 47 = .ok (.aload_n 0, 1) := by decide +kernel
theorem dX1_measure_48 : decode cX1_measure 48 = .ok (.getfield 26, 3) := by decide +kernel
theorem dX1_measure_51 : decode cX1_measure 51 = .ok (.iload_n 1, 1) := by decide +kernel
theorem dX1_measure_52 : decode cX1_measure 52 = .ok (.invokestatic 53, 3) := by decide +kernel
theorem dX1_measure_55 : decode cX1_measure 55 = .ok (.iconst (-1), 1) := by decide +kernel
theorem dX1_measure_56 : decode cX1_measure 56 = .ok (.if_icmp .eq 4, 3) := by decide +kernel
theorem dX1_measure_59 : decode cX1_measure 59 = .ok (.return_, 1) := by decide +kernel
theorem dX1_measure_60 : decode cX1_measure 60 = .ok (.aload_n 0, 1) := by decide +kernel
theorem dX1_measure_61 : decode cX1_measure 61 = .ok (.getfield 78, 3) := by decide +kernel
theorem dX1_measure_64 : decode cX1_measure 64 = .ok (.istore 6, 2) := by decide +kernel
theorem dX1_measure_66 : decode cX1_measure 66 = .ok (.aload_n 0, 1) := by decide +kernel
theorem dX1_measure_67 : decode cX1_measure 67 = .ok (.iload 4, 2) := by decide +kernel
theorem dX1_measure_69 : decode cX1_measure 69 = .ok (.iload 6, 2) := by decide +kernel
theorem dX1_measure_71 : decode cX1_measure 71 = .ok (.iconst 1, 1) := by decide +kernel
theorem dX1_measure_72 : decode cX1_measure 72 = .ok (.iload 5, 2) := by decide +kernel
theorem dX1_measure_74 : decode cX1_measure 74 = .ok (.invokevirtual 84, 3) := by decide +kernel
theorem dX1_measure_77 : decode cX1_measure 77 = .ok (.aload_n 0, 1) := by decide +kernel
theorem dX1_measure_78 : decode cX1_measure 78 = .ok (.iload_n 3, 1) := by decide +kernel
theorem dX1_measure_79 : decode cX1_measure 79 = .ok (.iload 4, 2) := by decide +kernel
theorem dX1_measure_81 : decode cX1_measure 81 = .ok (.iconst 2, 1) := by decide +kernel
theorem dX1_measure_82 : decode cX1_measure 82 = .ok (.iload 5, 2) := by decide +kernel
theorem dX1_measure_84 : decode cX1_measure 84 = .ok (.invokevirtual 84, 3) := by decide +kernel
theorem dX1_measure_87 : decode cX1_measure 87 = .ok (.iload 4, 2) := by decide +kernel
theorem dX1_measure_89 : decode cX1_measure 89 = .ok (.istore_n 3, 1) := by decide +kernel
theorem dX1_measure_90 : decode cX1_measure 90 = .ok (.iload 6, 2) := by decide +kernel
theorem dX1_measure_92 : decode cX1_measure 92 = .ok (.istore 4, 2) := by decide +kernel
theorem dX1_measure_94 : decode cX1_measure 94 = .ok (.iinc 5 1, 3) := by decide +kernel
theorem dX1_measure_97 : decode cX1_measure 97 = .ok (.goto (-70), 3) := by decide +kernel
theorem dX1_measure_100 : decode cX1_measure 100 = .ok (.return_, 1) := by decide +kernel
theorem dX1_reachFrom_0 : decode cX1_reachFrom 0 = .ok (.iload_n 1, 1) := by decide +kernel
theorem dX1_reachFrom_1 : decode cX1_reachFrom 1 = .ok (.istore 5, 2) := by decide +kernel
theorem dX1_reachFrom_3 : decode cX1_reachFrom 3 = .ok (.iload 5, 2) := by decide +kernel
theorem dX1_reachFrom_5 : decode cX1_reachFrom 5 = .ok (.iload_n 2, 1) := by decide +kernel
theorem dX1_reachFrom_6 : decode cX1_reachFrom 6 = .ok (.if_icmp .ge 25, 3) := by decide +kernel
theorem dX1_reachFrom_9 : decode cX1_reachFrom 9 = .ok (.aload_n 0, 1) := by decide +kernel
theorem dX1_reachFrom_10 : decode cX1_reachFrom 10 = .ok (.aload_n 0, 1) := by decide +kernel
theorem dX1_reachFrom_11 : decode cX1_reachFrom 11 = .ok (.getfield 30, 3) := by decide +kernel
theorem dX1_reachFrom_14 : decode cX1_reachFrom 14 = .ok (.iload 5, 2) := by decide +kernel
theorem dX1_reachFrom_16 : decode cX1_reachFrom 16 = .ok (.invokestatic 53, 3) := by decide +kernel
theorem dX1_reachFrom_19 : decode cX1_reachFrom 19 = .ok (.iload_n 3, 1) := by decide +kernel
theorem dX1_reachFrom_20 : decode cX1_reachFrom 20 = .ok (.iload 4, 2) := by decide +kernel
theorem dX1_reachFrom_22 : decode cX1_reachFrom 22 = .ok (.invokevirtual 88, 3) := by decide +kernel
theorem dX1_reachFrom_25 : decode cX1_reachFrom 25 = .ok (.iinc 5 1, 3) := by decide +kernel
theorem dX1_reachFrom_28 : decode cX1_reachFrom 28 = .ok (.goto (-25), 3) := by decide +kernel
theorem dX1_reachFrom_31 : decode cX1_reachFrom 31 = .ok (.return_, 1) := by decide +kernel
theorem dX1_reachBefore_0 : decode cX1_reachBefore 0 = .ok (.iload_n 1, 1) := by decide +kernel
theorem dX1_reachBefore_1 : decode cX1_reachBefore 1 = .ok (.bipush 36, 2) := by decide +kernel
theorem dX1_reachBefore_3 : decode cX1_reachBefore 3 = .ok (.irem, 1) := by decide +kernel
theorem dX1_reachBefore_4 : decode cX1_reachBefore 4 = .ok (.istore 4, 2) := by decide +kernel
theorem dX1_reachBefore_6 : decode cX1_reachBefore 6 = .ok (.iload_n 1, 1) := by decide +kernel
theorem dX1_reachBefore_7 : decode cX1_reachBefore 7 = .ok (.bipush 36, 2) := by decide +kernel
theorem dX1_reachBefore_9 : decode cX1_reachBefore 9 = .ok (.idiv, 1) := by decide +kernel
theorem dX1_reachBefore_10 : decode cX1_reachBefore 10 = .ok (.istore 5, 2) := by decide +kernel
theorem dX1_reachBefore_12 : decode cX1_reachBefore 12 = .ok (.iconst 0, 1) := by decide +kernel
theorem dX1_reachBefore_13 : decode cX1_reachBefore 13 = .ok (.istore 6, 2) := by decide +kernel
theorem dX1_reachBefore_15 : decode cX1_reachBefore 15 = .ok (.iload 6, 2) := by decide +kernel
theorem dX1_reachBefore_17 : decode cX1_reachBefore 17 = .ok (.iconst 5, 1) := by decide +kernel
theorem dX1_reachBefore_18 : decode cX1_reachBefore 18 = .ok (.if_icmp .ge 102, 3) := by decide +kernel
theorem dX1_reachBefore_21 : decode cX1_reachBefore 21 = .ok (.aload_n 0, 1) := by decide +kernel
theorem dX1_reachBefore_22 : decode cX1_reachBefore 22 = .ok (.iconst 0, 1) := by decide +kernel
theorem dX1_reachBefore_23 : decode cX1_reachBefore 23 = .ok (.iload 4, 2) := by decide +kernel
theorem dX1_reachBefore_25 : decode cX1_reachBefore 25 = .ok (.iload 6, 2) := by decide +kernel
theorem dX1_reachBefore_27 : decode cX1_reachBefore 27 = .ok (.invokevirtual 92, 3) := by decide +kernel
theorem dX1_reachBefore_30 : decode cX1_reachBefore 30 = .ok (.istore 7, 2) := by decide +kernel
theorem dX1_reachBefore_32 : decode cX1_reachBefore 32 = .ok (.iconst 0, 1) := by decide +kernel
theorem dX1_reachBefore_33 : decode cX1_reachBefore 33 = .ok (.istore 8, 2) := by decide +kernel
theorem dX1_reachBefore_35 : decode cX1_reachBefore 35 = .ok (.iload 8, 2) := by decide +kernel
theorem dX1_reachBefore_37 : decode cX1_reachBefore 37 = .ok (.iconst 5, 1) := by decide +kernel
theorem dX1_reachBefore_38 : decode cX1_reachBefore 38 = .ok (.if_icmp .ge 76, 3) := by decide +kernel
theorem dX1_reachBefore_41 : decode cX1_reachBefore 41 = .ok (.iload 7, 2) := by decide +kernel
theorem dX1_reachBefore_43 : decode cX1_reachBefore 43 = .ok (.iconst (-1), 1) := by decide +kernel
theorem dX1_reachBefore_44 : decode cX1_reachBefore 44 = .ok (.if_icmp .eq 70, 3) := by decide +kernel
theorem dX1_reachBefore_47 : decode cX1_reachBefore 47 = .ok (.aload_n 0, 1) := by decide +kernel
theorem dX1_reachBefore_48 : decode cX1_reachBefore 48 = .ok (.iconst 1, 1) := by decide +kernel
theorem dX1_reachBefore_49 : decode cX1_reachBefore 49 = .ok (.iload 5, 2) := by decide +kernel
theorem dX1_reachBefore_51 : decode cX1_reachBefore 51 = .ok (.iload 8, 2) := by decide +kernel
theorem dX1_reachBefore_53 : decode cX1_reachBefore 53 = .ok (.invokevirtual 92, 3) := by decide +kernel
theorem dX1_reachBefore_56 : decode cX1_reachBefore 56 = .ok (.istore 9, 2) := by decide +kernel
theorem dX1_reachBefore_58 : decode cX1_reachBefore 58 = .ok (.iload 9, 2) := by decide +kernel
theorem dX1_reachBefore_60 : decode cX1_reachBefore 60 = .ok (.iconst (-1), 1) := by decide +kernel
theorem dX1_reachBefore_61 : decode cX1_reachBefore 61 = .ok (.if_icmp .eq 47, 3) := by decide +kernel
theorem dX1_reachBefore_64 : decode cX1_reachBefore 64 = .ok (.aload_n 0, 1) := by decide +kernel
theorem dX1_reachBefore_65 : decode cX1_reachBefore 65 = .ok (.iload 7, 2) := by decide +kernel
theorem dX1_reachBefore_67 : decode cX1_reachBefore 67 = .ok (.iload 9, 2) := by decide +kernel
theorem dX1_reachBefore_69 : decode cX1_reachBefore 69 = .ok (.iload 4, 2) := by decide +kernel
theorem dX1_reachBefore_71 : decode cX1_reachBefore 71 = .ok (.iload 5, 2) := by decide +kernel
theorem dX1_reachBefore_73 : decode cX1_reachBefore 73 = .ok (.invokevirtual 96, 3) := by decide +kernel
theorem dX1_reachBefore_76 : decode cX1_reachBefore 76 = .ok (.iload_n 2, 1) := by decide +kernel
theorem dX1_reachBefore_77 : decode cX1_reachBefore 77 = .ok (.if_icmp .ne 31, 3) := by decide +kernel
theorem dX1_reachBefore_80 : decode cX1_reachBefore 80 = .ok (.aload_n 0, 1) := by decide +kernel
theorem dX1_reachBefore_81 : decode cX1_reachBefore 81 = .ok (.iload 4, 2) := by decide +kernel
theorem dX1_reachBefore_83 : decode cX1_reachBefore 83 = .ok (.iload 5, 2) := by decide +kernel
theorem dX1_reachBefore_85 : decode cX1_reachBefore 85 = .ok (.iload 7, 2) := by decide +kernel
theorem dX1_reachBefore_87 : decode cX1_reachBefore 87 = .ok (.iload 9, 2) := by decide +kernel
theorem dX1_reachBefore_89 : decode cX1_reachBefore 89 = .ok (.invokevirtual 100, 3) := by decide +kernel
theorem dX1_reachBefore_92 : decode cX1_reachBefore 92 = .ok (.ifCond .eq 16, 3) := by decide +kernel
theorem dX1_reachBefore_95 : decode cX1_reachBefore 95 = .ok (.aload_n 0, 1) := by decide +kernel
theorem dX1_reachBefore_96 : decode cX1_reachBefore 96 = .ok (.iload 7, 2) := by decide +kernel
theorem dX1_reachBefore_98 : decode cX1_reachBefore 98 = .ok (.bipush 36, 2) := by decide +kernel
theorem dX1_reachBefore_100 : decode cX1_reachBefore 100 = .ok (.iload 9, 2) := by decide +kernel
theorem dX1_reachBefore_102 : decode cX1_reachBefore 102 = .ok (.imul, 1) := by decide +kernel
theorem dX1_reachBefore_103 : decode cX1_reachBefore 103 = .ok (.iadd, 1) := by decide +kernel
theorem dX1_reachBefore_104 : decode cX1_reachBefore 104 = .ok (.iload_n 3, 1) := by decide +kernel
theorem dX1_reachBefore_105 : decode cX1_reachBefore 105 = .ok (.invokevirtual 81, 3) := by decide +kernel
theorem dX1_reachBefore_108 : decode cX1_reachBefore 108 = .ok (.iinc 8 1, 3) := by decide +kernel
theorem dX1_reachBefore_111 : decode cX1_reachBefore 111 = .ok (.goto (-76), 3) := by decide +kernel
theorem dX1_reachBefore_114 : decode cX1_reachBefore 114 = .ok (.iinc 6 1, 3) := by decide +kernel
theorem dX1_reachBefore_117 : decode cX1_reachBefore 117 = .ok (.goto (-102), 3) := by decide +kernel
theorem dX1_reachBefore_120 : decode cX1_reachBefore 120 = .ok (.return_, 1) := by decide +kernel
theorem dX1_reach_0 : decode cX1_reach 0 = .ok (.aload_n 0, 1) := by decide +kernel
theorem dX1_reach_1 : decode cX1_reach 1 = .ok (.getfield 26, 3) := by decide +kernel
theorem dX1_reach_4 : decode cX1_reach 4 = .ok (.iload_n 1, 1) := by decide +kernel
theorem dX1_reach_5 : decode cX1_reach 5 = .ok (.invokestatic 53, 3) := by decide +kernel
theorem dX1_reach_8 : decode cX1_reach 8 = .ok (.iconst (-1), 1) := by decide +kernel
theorem dX1_reach_9 : decode cX1_reach 9 = .ok (.if_icmp .ne 34, 3) := by decide +kernel
theorem dX1_reach_12 : decode cX1_reach 12 = .ok (.aload_n 0, 1) := by decide +kernel
theorem dX1_reach_13 : decode cX1_reach 13 = .ok (.getfield 26, 3) := by decide +kernel
theorem dX1_reach_16 : decode cX1_reach 16 = .ok (.iload_n 1, 1) := by decide +kernel
theorem dX1_reach_17 : decode cX1_reach 17 = .ok (.iload_n 2, 1) := by decide +kernel
theorem dX1_reach_18 : decode cX1_reach 18 = .ok (.invokestatic 104, 3) := by decide +kernel
theorem dX1_reach_21 : decode cX1_reach 21 = .ok (.aload_n 0, 1) := by decide +kernel
theorem dX1_reach_22 : decode cX1_reach 22 = .ok (.getfield 30, 3) := by decide +kernel
theorem dX1_reach_25 : decode cX1_reach 25 = .ok (.aload_n 0, 1) := by decide +kernel
theorem dX1_reach_26 : decode cX1_reach 26 = .ok (.getfield 78, 3) := by decide +kernel
theorem dX1_reach_29 : decode cX1_reach 29 = .ok (.iload_n 1, 1) := by decide +kernel
theorem dX1_reach_30 : decode cX1_reach 30 = .ok (.invokestatic 104, 3) := by decide +kernel
theorem dX1_reach_33 : decode cX1_reach 33 = .ok (.aload_n 0, 1) := by decide +kernel
theorem dX1_reach_34 : decode cX1_reach 34 = .ok (.dup, 1) := by decide +kernel
theorem dX1_reach_35 : decode cX1_reach 35 = .ok (.getfield 78, 3) := by decide +kernel
theorem dX1_reach_38 : decode cX1_reach 38 = .ok (.iconst 1, 1) := by decide +kernel
theorem dX1_reach_39 : decode cX1_reach 39 = .ok (.iadd, 1) := by decide +kernel
theorem dX1_reach_40 : decode cX1_reach 40 = .ok (.putfield 78, 3) := by decide +kernel
theorem dX1_reach_43 : decode cX1_reach 43 = .ok (.return_, 1) := by decide +kernel
theorem dX1_walk_0 : decode cX1_walk 0 = .ok (.iload_n 2, 1) := by decide +kernel
theorem dX1_walk_1 : decode cX1_walk 1 = .ok (.istore_n 3, 1) := by decide +kernel
theorem dX1_walk_2 : decode cX1_walk 2 = .ok (.iconst 0, 1) := by decide +kernel
theorem dX1_walk_3 : decode cX1_walk 3 = .ok (.istore 4, 2) := by decide +kernel
theorem dX1_walk_5 : decode cX1_walk 5 = .ok (.aload_n 0, 1) := by decide +kernel
theorem dX1_walk_6 : decode cX1_walk 6 = .ok (.aload_n 1, 1) := by decide +kernel
theorem dX1_walk_7 : decode cX1_walk 7 = .ok (.iconst 0, 1) := by decide +kernel
theorem dX1_walk_8 : decode cX1_walk 8 = .ok (.iload_n 3, 1) := by decide +kernel
theorem dX1_walk_9 : decode cX1_walk 9 = .ok (.invokevirtual 108, 3) := by decide +kernel
theorem dX1_walk_12 : decode cX1_walk 12 = .ok (.iload 4, 2) := by decide +kernel
theorem dX1_walk_14 : decode cX1_walk 14 = .ok (.aload_n 0, 1) := by decide +kernel
theorem dX1_walk_15 : decode cX1_walk 15 = .ok (.getfield 21, 3) := by decide +kernel
theorem dX1_walk_18 : decode cX1_walk 18 = .ok (.invokestatic 112, 3) := by decide +kernel
theorem dX1_walk_21 : decode cX1_walk 21 = .ok (.if_icmp .ge 34, 3) := by decide +kernel
theorem dX1_walk_24 : decode cX1_walk 24 = .ok (.aload_n 0, 1) := by decide +kernel
theorem dX1_walk_25 : decode cX1_walk 25 = .ok (.getfield 26, 3) := by decide +kernel
theorem dX1_walk_28 : decode cX1_walk 28 = .ok (.iload_n 3, 1) := by decide +kernel
theorem dX1_walk_29 : decode cX1_walk 29 = .ok (.invokestatic 53, 3) := by decide +kernel
theorem dX1_walk_32 : decode cX1_walk 32 = .ok (.ifCond .le 23, 3) := by decide +kernel
theorem dX1_walk_35 : decode cX1_walk 35 = .ok (.aload_n 0, 1) := by decide +kernel
theorem dX1_walk_36 : decode cX1_walk 36 = .ok (.iload_n 3, 1) := by decide +kernel
theorem dX1_walk_37 : decode cX1_walk 37 = .ok (.invokevirtual 115, 3) := by decide +kernel
theorem dX1_walk_40 : decode cX1_walk 40 = .ok (.istore_n 3, 1) := by decide +kernel
theorem dX1_walk_41 : decode cX1_walk 41 = .ok (.iinc 4 1, 3) := by decide +kernel
theorem dX1_walk_44 : decode cX1_walk 44 = .ok (.aload_n 0, 1) := by decide +kernel
theorem dX1_walk_45 : decode cX1_walk 45 = .ok (.aload_n 1, 1) := by decide +kernel
theorem dX1_walk_46 : decode cX1_walk 46 = .ok (.iload 4, 2) := by decide +kernel
theorem dX1_walk_48 : decode cX1_walk 48 = .ok (.iload_n 3, 1) := by decide +kernel
theorem dX1_walk_49 : decode cX1_walk 49 = .ok (.invokevirtual 108, 3) := by decide +kernel
theorem dX1_walk_52 : decode cX1_walk 52 = .ok (.goto (-40), 3) := by decide +kernel
theorem dX1_walk_55 : decode cX1_walk 55 = .ok (.iload 4, 2) := by decide +kernel
theorem dX1_walk_57 : decode cX1_walk 57 = .ok (.ireturn, 1) := by decide +kernel
theorem dX1_note_0 : decode cX1_note 0 = .ok (.aload_n 0, 1) := by decide +kernel
theorem dX1_note_1 : decode cX1_note 1 = .ok (.getfield 21, 3) := by decide +kernel
theorem dX1_note_4 : decode cX1_note 4 = .ok (.ifCond .le 13, 3) := by decide +kernel
theorem dX1_note_7 : decode cX1_note 7 = .ok (.aload_n 1, 1) := by decide +kernel
theorem dX1_note_8 : decode cX1_note 8 = .ok (.iconst 0, 1) := by decide +kernel
theorem dX1_note_9 : decode cX1_note 9 = .ok (.iload_n 2, 1) := by decide +kernel
theorem dX1_note_10 : decode cX1_note 10 = .ok (.iload_n 3, 1) := by decide +kernel
theorem dX1_note_11 : decode cX1_note 11 = .ok (.bipush 36, 2) := by decide +kernel
theorem dX1_note_13 : decode cX1_note 13 = .ok (.irem, 1) := by decide +kernel
theorem dX1_note_14 : decode cX1_note 14 = .ok (.invokevirtual 118, 3) := by decide +kernel
theorem dX1_note_17 : decode cX1_note 17 = .ok (.aload_n 0, 1) := by decide +kernel
theorem dX1_note_18 : decode cX1_note 18 = .ok (.getfield 21, 3) := by decide +kernel
theorem dX1_note_21 : decode cX1_note 21 = .ok (.iconst 1, 1) := by decide +kernel
theorem dX1_note_22 : decode cX1_note 22 = .ok (.if_icmp .le 13, 3) := by decide +kernel
theorem dX1_note_25 : decode cX1_note 25 = .ok (.aload_n 1, 1) := by decide +kernel
theorem dX1_note_26 : decode cX1_note 26 = .ok (.iconst 1, 1) := by decide +kernel
theorem dX1_note_27 : decode cX1_note 27 = .ok (.iload_n 2, 1) := by decide +kernel
theorem dX1_note_28 : decode cX1_note 28 = .ok (.iload_n 3, 1) := by decide +kernel
theorem dX1_note_29 : decode cX1_note 29 = .ok (.bipush 36, 2) := by decide +kernel
theorem dX1_note_31 : decode cX1_note 31 = .ok (.idiv, 1) := by decide +kernel
theorem dX1_note_32 : decode cX1_note 32 = .ok (.invokevirtual 118, 3) := by decide +kernel
theorem dX1_note_35 : decode cX1_note 35 = .ok (.return_, 1) := by decide +kernel
theorem dX1_follow_0 : decode cX1_follow 0 = .ok (.iload_n 1, 1) := by decide +kernel
theorem dX1_follow_1 : decode cX1_follow 1 = .ok (.bipush 36, 2) := by decide +kernel
theorem dX1_follow_3 : decode cX1_follow 3 = .ok (.irem, 1) := by decide +kernel
theorem dX1_follow_4 : decode cX1_follow 4 = .ok (.istore_n 2, 1) := by decide +kernel
theorem dX1_follow_5 : decode cX1_follow 5 = .ok (.iload_n 1, 1) := by decide +kernel
theorem dX1_follow_6 : decode cX1_follow 6 = .ok (.bipush 36, 2) := by decide +kernel
theorem dX1_follow_8 : decode cX1_follow 8 = .ok (.idiv, 1) := by decide +kernel
theorem dX1_follow_9 : decode cX1_follow 9 = .ok (.istore_n 3, 1) := by decide +kernel
theorem dX1_follow_10 : decode cX1_follow 10 = .ok (.iconst 0, 1) := by decide +kernel
theorem dX1_follow_11 : decode cX1_follow 11 = .ok (.istore 4, 2) := by decide +kernel
theorem dX1_follow_13 : decode cX1_follow 13 = .ok (.iload 4, 2) := by decide +kernel
theorem dX1_follow_15 : decode cX1_follow 15 = .ok (.iconst 5, 1) := by decide +kernel
theorem dX1_follow_16 : decode cX1_follow 16 = .ok (.if_icmp .ge 90, 3) := by decide +kernel
theorem dX1_follow_19 : decode cX1_follow 19 = .ok (.aload_n 0, 1) := by decide +kernel
theorem dX1_follow_20 : decode cX1_follow 20 = .ok (.iconst 0, 1) := by decide +kernel
theorem dX1_follow_21 : decode cX1_follow 21 = .ok (.iload_n 2, 1) := by decide +kernel
theorem dX1_follow_22 : decode cX1_follow 22 = .ok (.iload 4, 2) := by decide +kernel
theorem dX1_follow_24 : decode cX1_follow 24 = .ok (.invokevirtual 92, 3) := by decide +kernel
theorem dX1_follow_27 : decode cX1_follow 27 = .ok (.istore 5, 2) := by decide +kernel
theorem dX1_follow_29 : decode cX1_follow 29 = .ok (.iconst 0, 1) := by decide +kernel
theorem dX1_follow_30 : decode cX1_follow 30 = .ok (.istore 6, 2) := by decide +kernel
theorem dX1_follow_32 : decode cX1_follow 32 = .ok (.iload 6, 2) := by decide +kernel
theorem dX1_follow_34 : decode cX1_follow 34 = .ok (.iconst 5, 1) := by decide +kernel
theorem dX1_follow_35 : decode cX1_follow 35 = .ok (.if_icmp .ge 65, 3) := by decide +kernel
theorem dX1_follow_38 : decode cX1_follow 38 = .ok (.iload 5, 2) := by decide +kernel
theorem dX1_follow_40 : decode cX1_follow 40 = .ok (.iconst (-1), 1) := by decide +kernel
theorem dX1_follow_41 : decode cX1_follow 41 = .ok (.if_icmp .eq 59, 3) := by decide +kernel
theorem dX1_follow_44 : decode cX1_follow 44 = .ok (.aload_n 0, 1) := by decide +kernel
theorem dX1_follow_45 : decode cX1_follow 45 = .ok (.iconst 1, 1) := by decide +kernel
theorem dX1_follow_46 : decode cX1_follow 46 = .ok (.iload_n 3, 1) := by decide +kernel
theorem dX1_follow_47 : decode cX1_follow 47 = .ok (.iload 6, 2) := by decide +kernel
theorem dX1_follow_49 : decode cX1_follow 49 = .ok (.invokevirtual 92, 3) := by decide +kernel
theorem dX1_follow_52 : decode cX1_follow 52 = .ok (.istore 7, 2) := by decide +kernel
theorem dX1_follow_54 : decode cX1_follow 54 = .ok (.iload 7, 2) := by decide +kernel
theorem dX1_follow_56 : decode cX1_follow 56 = .ok (.iconst (-1), 1) := by decide +kernel
theorem dX1_follow_57 : decode cX1_follow 57 = .ok (.if_icmp .eq 37, 3) := by decide +kernel
theorem dX1_follow_60 : decode cX1_follow 60 = .ok (.aload_n 0, 1) := by decide +kernel
theorem dX1_follow_61 : decode cX1_follow 61 = .ok (.iload_n 2, 1) := by decide +kernel
theorem dX1_follow_62 : decode cX1_follow 62 = .ok (.iload_n 3, 1) := by decide +kernel
theorem dX1_follow_63 : decode cX1_follow 63 = .ok (.iload 5, 2) := by decide +kernel
theorem dX1_follow_65 : decode cX1_follow 65 = .ok (.iload 7, 2) := by decide +kernel
theorem dX1_follow_67 : decode cX1_follow 67 = .ok (.invokevirtual 100, 3) := by decide +kernel
theorem dX1_follow_70 : decode cX1_follow 70 = .ok (.ifCond .eq 24, 3) := by decide +kernel
theorem dX1_follow_73 : decode cX1_follow 73 = .ok (.aload_n 0, 1) := by decide +kernel
theorem dX1_follow_74 : decode cX1_follow 74 = .ok (.iload_n 1, 1) := by decide +kernel
theorem dX1_follow_75 : decode cX1_follow 75 = .ok (.iload 5, 2) := by decide +kernel
theorem dX1_follow_77 : decode cX1_follow 77 = .ok (.iload 7, 2) := by decide +kernel
theorem dX1_follow_79 : decode cX1_follow 79 = .ok (.invokevirtual 121, 3) := by decide +kernel
theorem dX1_follow_82 : decode cX1_follow 82 = .ok (.ifCond .eq 12, 3) := by decide +kernel
theorem dX1_follow_85 : decode cX1_follow 85 = .ok (.iload 5, 2) := by decide +kernel
theorem dX1_follow_87 : decode cX1_follow 87 = .ok (.bipush 36, 2) := by decide +kernel
theorem dX1_follow_89 : decode cX1_follow 89 = .ok (.iload 7, 2) := by decide +kernel
theorem dX1_follow_91 : decode cX1_follow 91 = .ok (.imul, 1) := by decide +kernel
theorem dX1_follow_92 : decode cX1_follow 92 = .ok (.iadd, 1) := by decide +kernel
theorem dX1_follow_93 : decode cX1_follow 93 = .ok (.ireturn, 1) := by decide +kernel
theorem dX1_follow_94 : decode cX1_follow 94 = .ok (.iinc 6 1, 3) := by decide +kernel
theorem dX1_follow_97 : decode cX1_follow 97 = .ok (.goto (-65), 3) := by decide +kernel
theorem dX1_follow_100 : decode cX1_follow 100 = .ok (.iinc 4 1, 3) := by decide +kernel
theorem dX1_follow_103 : decode cX1_follow 103 = .ok (.goto (-90), 3) := by decide +kernel
theorem dX1_follow_106 : decode cX1_follow 106 = .ok (.iload_n 1, 1) := by decide +kernel
theorem dX1_follow_107 : decode cX1_follow 107 = .ok (.ireturn, 1) := by decide +kernel
theorem dX1_keeps_0 : decode cX1_keeps 0 = .ok (.aload_n 0, 1) := by decide +kernel
theorem dX1_keeps_1 : decode cX1_keeps 1 = .ok (.getfield 26, 3) := by decide +kernel
theorem dX1_keeps_4 : decode cX1_keeps 4 = .ok (.iload_n 2, 1) := by decide +kernel
theorem dX1_keeps_5 : decode cX1_keeps 5 = .ok (.bipush 36, 2) := by decide +kernel
theorem dX1_keeps_7 : decode cX1_keeps 7 = .ok (.iload_n 3, 1) := by decide +kernel
theorem dX1_keeps_8 : decode cX1_keeps 8 = .ok (.imul, 1) := by decide +kernel
theorem dX1_keeps_9 : decode cX1_keeps 9 = .ok (.iadd, 1) := by decide +kernel
theorem dX1_keeps_10 : decode cX1_keeps 10 = .ok (.invokestatic 53, 3) := by decide +kernel
theorem dX1_keeps_13 : decode cX1_keeps 13 = .ok (.istore 4, 2) := by decide +kernel
theorem dX1_keeps_15 : decode cX1_keeps 15 = .ok (.iload 4, 2) := by decide +kernel
theorem dX1_keeps_17 : decode cX1_keeps 17 = .ok (.iconst (-1), 1) := by decide +kernel
theorem dX1_keeps_18 : decode cX1_keeps 18 = .ok (.if_icmp .eq 35, 3) := by decide +kernel
theorem dX1_keeps_21 : decode cX1_keeps 21 = .ok (.iload 4, 2) := by decide +kernel
theorem dX1_keeps_23 : decode cX1_keeps 23 = .ok (.aload_n 0, 1) := by decide +kernel
theorem dX1_keeps_24 : decode cX1_keeps 24 = .ok (.iload_n 1, 1) := by decide +kernel
theorem dX1_keeps_25 : decode cX1_keeps 25 = .ok (.bipush 36, 2) := by decide +kernel
theorem dX1_keeps_27 : decode cX1_keeps 27 = .ok (.irem, 1) := by decide +kernel
theorem dX1_keeps_28 : decode cX1_keeps 28 = .ok (.iload_n 1, 1) := by decide +kernel
theorem dX1_keeps_29 : decode cX1_keeps 29 = .ok (.bipush 36, 2) := by decide +kernel
theorem dX1_keeps_31 : decode cX1_keeps 31 = .ok (.idiv, 1) := by decide +kernel
theorem dX1_keeps_32 : decode cX1_keeps 32 = .ok (.iload_n 2, 1) := by decide +kernel
theorem dX1_keeps_33 : decode cX1_keeps 33 = .ok (.iload_n 3, 1) := by decide +kernel
theorem dX1_keeps_34 : decode cX1_keeps 34 = .ok (.invokevirtual 96, 3) := by decide +kernel
theorem dX1_keeps_37 : decode cX1_keeps 37 = .ok (.iadd, 1) := by decide +kernel
theorem dX1_keeps_38 : decode cX1_keeps 38 = .ok (.aload_n 0, 1) := by decide +kernel
theorem dX1_keeps_39 : decode cX1_keeps 39 = .ok (.getfield 26, 3) := by decide +kernel
theorem dX1_keeps_42 : decode cX1_keeps 42 = .ok (.iload_n 1, 1) := by decide +kernel
theorem dX1_keeps_43 : decode cX1_keeps 43 = .ok (.invokestatic 53, 3) := by decide +kernel
theorem dX1_keeps_46 : decode cX1_keeps 46 = .ok (.if_icmp .ne 7, 3) := by decide +kernel
theorem dX1_keeps_49 : decode cX1_keeps 49 = .ok (.iconst 1, 1) := by decide +kernel
theorem dX1_keeps_50 : decode cX1_keeps 50 = .ok (.goto 4, 3) := by decide +kernel
theorem dX1_keeps_53 : decode cX1_keeps 53 = .ok (.iconst 0, 1) := by decide +kernel
theorem dX1_keeps_54 : decode cX1_keeps 54 = .ok (.ireturn, 1) := by decide +kernel
theorem dX1_next_0 : decode cX1_next 0 = .ok (.iload_n 1, 1) := by decide +kernel
theorem dX1_next_1 : decode cX1_next 1 = .ok (.aload_n 0, 1) := by decide +kernel
theorem dX1_next_2 : decode cX1_next 2 = .ok (.getfield 21, 3) := by decide +kernel
theorem dX1_next_5 : decode cX1_next 5 = .ok (.if_icmp .ge 16, 3) := by decide +kernel
theorem dX1_next_8 : decode cX1_next 8 = .ok (.aload_n 0, 1) := by decide +kernel
theorem dX1_next_9 : decode cX1_next 9 = .ok (.getfield 9, 3) := by decide +kernel
theorem dX1_next_12 : decode cX1_next 12 = .ok (.getfield 125, 3) := by decide +kernel
theorem dX1_next_15 : decode cX1_next 15 = .ok (.iload_n 2, 1) := by decide +kernel
theorem dX1_next_16 : decode cX1_next 16 = .ok (.iload_n 3, 1) := by decide +kernel
theorem dX1_next_17 : decode cX1_next 17 = .ok (.invokevirtual 129, 3) := by decide +kernel
theorem dX1_next_20 : decode cX1_next 20 = .ok (.ireturn, 1) := by decide +kernel
theorem dX1_next_21 : decode cX1_next 21 = .ok (.iload_n 3, 1) := by decide +kernel
theorem dX1_next_22 : decode cX1_next 22 = .ok (.ifCond .ne 7, 3) := by decide +kernel
theorem dX1_next_25 : decode cX1_next 25 = .ok (.iload_n 2, 1) := by decide +kernel
theorem dX1_next_26 : decode cX1_next 26 = .ok (.goto 4, 3) := by decide +kernel
theorem dX1_next_29 : decode cX1_next 29 = .ok (.iconst (-1), 1) := by decide +kernel
theorem dX1_next_30 : decode cX1_next 30 = .ok (.ireturn, 1) := by decide +kernel
theorem dX1_stepCost_0 : decode cX1_stepCost 0 = .ok (.iload_n 1, 1) := by decide +kernel
theorem dX1_stepCost_1 : decode cX1_stepCost 1 = .ok (.iload_n 3, 1) := by decide +kernel
theorem dX1_stepCost_2 : decode cX1_stepCost 2 = .ok (.aload_n 0, 1) := by decide +kernel
theorem dX1_stepCost_3 : decode cX1_stepCost 3 = .ok (.getfield 40, 3) := by decide +kernel
theorem dX1_stepCost_6 : decode cX1_stepCost 6 = .ok (.invokestatic 135, 3) := by decide +kernel
theorem dX1_stepCost_9 : decode cX1_stepCost 9 = .ok (.iload_n 2, 1) := by decide +kernel
theorem dX1_stepCost_10 : decode cX1_stepCost 10 = .ok (.iload 4, 2) := by decide +kernel
theorem dX1_stepCost_12 : decode cX1_stepCost 12 = .ok (.aload_n 0, 1) := by decide +kernel
theorem dX1_stepCost_13 : decode cX1_stepCost 13 = .ok (.getfield 43, 3) := by decide +kernel
theorem dX1_stepCost_16 : decode cX1_stepCost 16 = .ok (.invokestatic 135, 3) := by decide +kernel
theorem dX1_stepCost_19 : decode cX1_stepCost 19 = .ok (.iadd, 1) := by decide +kernel
theorem dX1_stepCost_20 : decode cX1_stepCost 20 = .ok (.ireturn, 1) := by decide +kernel
theorem dX1_fits_0 : decode cX1_fits 0 = .ok (.aload_n 0, 1) := by decide +kernel
theorem dX1_fits_1 : decode cX1_fits 1 = .ok (.getfield 9, 3) := by decide +kernel
theorem dX1_fits_4 : decode cX1_fits 4 = .ok (.getfield 138, 3) := by decide +kernel
theorem dX1_fits_7 : decode cX1_fits 7 = .ok (.ifCond .eq 18, 3) := by decide +kernel
theorem dX1_fits_10 : decode cX1_fits 10 = .ok (.iload_n 3, 1) := by decide +kernel
theorem dX1_fits_11 : decode cX1_fits 11 = .ok (.iload_n 2, 1) := by decide +kernel
theorem dX1_fits_12 : decode cX1_fits 12 = .ok (.if_icmp .ne 13, 3) := by decide +kernel
theorem dX1_fits_15 : decode cX1_fits 15 = .ok (.iload 4, 2) := by decide +kernel
theorem dX1_fits_17 : decode cX1_fits 17 = .ok (.iload_n 1, 1) := by decide +kernel
theorem dX1_fits_18 : decode cX1_fits 18 = .ok (.if_icmp .ne 7, 3) := by decide +kernel
theorem dX1_fits_21 : decode cX1_fits 21 = .ok (.iconst 1, 1) := by decide +kernel
theorem dX1_fits_22 : decode cX1_fits 22 = .ok (.goto 4, 3) := by decide +kernel
theorem dX1_fits_25 : decode cX1_fits 25 = .ok (.iconst 0, 1) := by decide +kernel
theorem dX1_fits_26 : decode cX1_fits 26 = .ok (.istore 5, 2) := by decide +kernel
theorem dX1_fits_28 : decode cX1_fits 28 = .ok (.aload_n 0, 1) := by decide +kernel
theorem dX1_fits_29 : decode cX1_fits 29 = .ok (.getfield 21, 3) := by decide +kernel
theorem dX1_fits_32 : decode cX1_fits 32 = .ok (.iconst 2, 1) := by decide +kernel
theorem dX1_fits_33 : decode cX1_fits 33 = .ok (.if_icmp .lt 14, 3) := by decide +kernel
theorem dX1_fits_36 : decode cX1_fits 36 = .ok (.iload_n 3, 1) := by decide +kernel
theorem dX1_fits_37 : decode cX1_fits 37 = .ok (.iload 4, 2) := by decide +kernel
theorem dX1_fits_39 : decode cX1_fits 39 = .ok (.if_icmp .eq 12, 3) := by decide +kernel
theorem dX1_fits_42 : decode cX1_fits 42 = .ok (.iload 5, 2) := by decide +kernel
theorem dX1_fits_44 : decode cX1_fits 44 = .ok (.ifCond .ne 7, 3) := by decide +kernel
theorem dX1_fits_47 : decode cX1_fits 47 = .ok (.iconst 1, 1) := by decide +kernel
theorem dX1_fits_48 : decode cX1_fits 48 = .ok (.goto 4, 3) := by decide +kernel
theorem dX1_fits_51 : decode cX1_fits 51 = .ok (.iconst 0, 1) := by decide +kernel
theorem dX1_fits_52 : decode cX1_fits 52 = .ok (.ireturn, 1) := by decide +kernel
theorem dX4_init_0 : decode cX4_init 0 = .ok (.aload_n 0, 1) := by decide +kernel
theorem dX4_init_1 : decode cX4_init 1 = .ok (.invokespecial 3, 3) := by decide +kernel
theorem dX4_init_4 : decode cX4_init 4 = .ok (.aload_n 0, 1) := by decide +kernel
theorem dX4_init_5 : decode cX4_init 5 = .ok (.sipush 1476, 3) := by decide +kernel
theorem dX4_init_8 : decode cX4_init 8 = .ok (.newarray .int, 2) := by decide +kernel
theorem dX4_init_10 : decode cX4_init 10 = .ok (.putfield 9, 3) := by decide +kernel
theorem dX4_init_13 : decode cX4_init 13 = .ok (.aload_n 0, 1) := by decide +kernel
theorem dX4_init_14 : decode cX4_init 14 = .ok (.sipush 1476, 3) := by decide +kernel
theorem dX4_init_17 : decode cX4_init 17 = .ok (.newarray .int, 2) := by decide +kernel
theorem dX4_init_19 : decode cX4_init 19 = .ok (.putfield 15, 3) := by decide +kernel
theorem dX4_init_22 : decode cX4_init 22 = .ok (.aload_n 0, 1) := by decide +kernel
theorem dX4_init_23 : decode cX4_init 23 = .ok (.aload_n 1, 1) := by decide +kernel
theorem dX4_init_24 : decode cX4_init 24 = .ok (.putfield 18, 3) := by decide +kernel
theorem dX4_init_27 : decode cX4_init 27 = .ok (.aload_n 0, 1) := by decide +kernel
theorem dX4_init_28 : decode cX4_init 28 = .ok (.aload_n 2, 1) := by decide +kernel
theorem dX4_init_29 : decode cX4_init 29 = .ok (.putfield 22, 3) := by decide +kernel
theorem dX4_init_32 : decode cX4_init 32 = .ok (.aload_n 0, 1) := by decide +kernel
theorem dX4_init_33 : decode cX4_init 33 = .ok (.new 26, 3) := by decide +kernel
theorem dX4_init_36 : decode cX4_init 36 = .ok (.dup, 1) := by decide +kernel
theorem dX4_init_37 : decode cX4_init 37 = .ok (.aload_n 1, 1) := by decide +kernel
theorem dX4_init_38 : decode cX4_init 38 = .ok (.getfield 28, 3) := by decide +kernel
theorem dX4_init_41 : decode cX4_init 41 = .ok (.aload_n 1, 1) := by decide +kernel
theorem dX4_init_42 : decode cX4_init 42 = .ok (.getfield 28, 3) := by decide +kernel
theorem dX4_init_45 : decode cX4_init 45 = .ok (.invokestatic 34, 3) := by decide +kernel
theorem dX4_init_48 : decode cX4_init 48 = .ok (.invokespecial 38, 3) := by decide +kernel
theorem dX4_init_51 : decode cX4_init 51 = .ok (.putfield 41, 3) := by decide +kernel
theorem dX4_init_54 : decode cX4_init 54 = .ok (.return_, 1) := by decide +kernel
theorem dX4_make_0 : decode cX4_make 0 = .ok (.aload_n 0, 1) := by decide +kernel
theorem dX4_make_1 : decode cX4_make 1 = .ok (.getfield 22, 3) := by decide +kernel
theorem dX4_make_4 : decode cX4_make 4 = .ok (.invokevirtual 45, 3) := by decide +kernel
theorem dX4_make_7 : decode cX4_make 7 = .ok (.aload_n 0, 1) := by decide +kernel
theorem dX4_make_8 : decode cX4_make 8 = .ok (.aload_n 1, 1) := by decide +kernel
theorem dX4_make_9 : decode cX4_make 9 = .ok (.invokevirtual 50, 3) := by decide +kernel
theorem dX4_make_12 : decode cX4_make 12 = .ok (.iconst 0, 1) := by decide +kernel
theorem dX4_make_13 : decode cX4_make 13 = .ok (.istore_n 3, 1) := by decide +kernel
theorem dX4_make_14 : decode cX4_make 14 = .ok (.iload_n 3, 1) := by decide +kernel
theorem dX4_make_15 : decode cX4_make 15 = .ok (.iload_n 2, 1) := by decide +kernel
theorem dX4_make_16 : decode cX4_make 16 = .ok (.if_icmp .ge 21, 3) := by decide +kernel
theorem dX4_make_19 : decode cX4_make 19 = .ok (.aload_n 0, 1) := by decide +kernel
theorem dX4_make_20 : decode cX4_make 20 = .ok (.getfield 22, 3) := by decide +kernel
theorem dX4_make_23 : decode cX4_make 23 = .ok (.invokevirtual 54, 3) := by decide +kernel
theorem dX4_make_26 : decode cX4_make 26 = .ok (.aload_n 0, 1) := by decide +kernel
theorem dX4_make_27 : decode cX4_make 27 = .ok (.aload_n 1, 1) := by decide +kernel
theorem dX4_make_28 : decode cX4_make 28 = .ok (.invokevirtual 50, 3) := by decide +kernel
theorem dX4_make_31 : decode cX4_make 31 = .ok (.iinc 3 1, 3) := by decide +kernel
theorem dX4_make_34 : decode cX4_make 34 = .ok (.goto (-20), 3) := by decide +kernel
theorem dX4_make_37 : decode cX4_make 37 = .ok (.return_, 1) := by decide +kernel
theorem dX4_improve_0 : decode cX4_improve 0 = .ok (.aload_n 0, 1) := by decide +kernel
theorem dX4_improve_1 : decode cX4_improve 1 = .ok (.invokevirtual 57, 3) := by decide +kernel
theorem dX4_improve_4 : decode cX4_improve 4 = .ok (.aload_n 0, 1) := by decide +kernel
theorem dX4_improve_5 : decode cX4_improve 5 = .ok (.getfield 41, 3) := by decide +kernel
theorem dX4_improve_8 : decode cX4_improve 8 = .ok (.invokevirtual 60, 3) := by decide +kernel
theorem dX4_improve_11 : decode cX4_improve 11 = .ok (.ifCond .eq 32, 3) := by decide +kernel
theorem dX4_improve_14 : decode cX4_improve 14 = .ok (.aload_n 1, 1) := by decide +kernel
theorem dX4_improve_15 : decode cX4_improve 15 = .ok (.invokevirtual 60, 3) := by decide +kernel
theorem dX4_improve_18 : decode cX4_improve 18 = .ok (.ifCond .eq 17, 3) := by decide +kernel
theorem dX4_improve_21 : decode cX4_improve 21 = .ok (.aload_n 0, 1) := by decide +kernel
theorem dX4_improve_22 : decode cX4_improve 22 = .ok (.getfield 41, 3) := by decide +kernel
theorem dX4_improve_25 : decode cX4_improve 25 = .ok (.getfield 64, 3) := by decide +kernel
theorem dX4_improve_28 : decode cX4_improve 28 = .ok (.aload_n 1, 1) := by decide +kernel
theorem dX4_improve_29 : decode cX4_improve 29 = .ok (.getfield 64, 3) := by decide +kernel
theorem dX4_improve_32 : decode cX4_improve 32 = .ok (.if_icmp .ge 11, 3) := by decide +kernel
theorem dX4_improve_35 : decode cX4_improve 35 = .ok (.aload_n 1, 1) := by decide +kernel
theorem dX4_improve_36 : decode cX4_improve 36 = .ok (.aload_n 0, 1) := by decide +kernel
theorem dX4_improve_37 : decode cX4_improve 37 = .ok (.getfield 41, 3) := by decide +kernel
theorem dX4_improve_40 : decode cX4_improve 40 = .ok (.invokevirtual 67, 3) := by decide +kernel
theorem dX4_improve_43 : decode cX4_improve 43 = .ok (.return_, 1) := by decide +kernel
theorem dX4_tryOrder_0 : decode cX4_tryOrder 0 = .ok (.aload_n 0, 1) := by decide +kernel
theorem dX4_tryOrder_1 : decode cX4_tryOrder 1 = .ok (.getfield 15, 3) := by decide +kernel
theorem dX4_tryOrder_4 : decode cX4_tryOrder 4 = .ok (.iconst (-1), 1) := by decide +kernel
theorem dX4_tryOrder_5 : decode cX4_tryOrder 5 = .ok (.invokestatic 70, 3) := by decide +kernel
theorem dX4_tryOrder_8 : decode cX4_tryOrder 8 = .ok (.aload_n 0, 1) := by decide +kernel
theorem dX4_tryOrder_9 : decode cX4_tryOrder 9 = .ok (.getfield 41, 3) := by decide +kernel
theorem dX4_tryOrder_12 : decode cX4_tryOrder 12 = .ok (.invokevirtual 76, 3) := by decide +kernel
theorem dX4_tryOrder_15 : decode cX4_tryOrder 15 = .ok (.iconst 0, 1) := by decide +kernel
theorem dX4_tryOrder_16 : decode cX4_tryOrder 16 = .ok (.istore_n 1, 1) := by decide +kernel
theorem dX4_tryOrder_17 : decode cX4_tryOrder 17 = .ok (.iconst 0, 1) := by decide +kernel
theorem dX4_tryOrder_18 : decode cX4_tryOrder 18 = .ok (.istore_n 2, 1) := by decide +kernel
theorem dX4_tryOrder_19 : decode cX4_tryOrder 19 = .ok (.iload_n 2, 1) := by decide +kernel
theorem dX4_tryOrder_20 : decode cX4_tryOrder 20 = .ok (.aload_n 0, 1) := by decide +kernel
theorem dX4_tryOrder_21 : decode cX4_tryOrder 21 = .ok (.getfield 18, 3) := by decide +kernel
theorem dX4_tryOrder_24 : decode cX4_tryOrder 24 = .ok (.getfield 28, 3) := by decide +kernel
theorem dX4_tryOrder_27 : decode cX4_tryOrder 27 = .ok (.if_icmp .ge 35, 3) := by decide +kernel
theorem dX4_tryOrder_30 : decode cX4_tryOrder 30 = .ok (.aload_n 0, 1) := by decide +kernel
theorem dX4_tryOrder_31 : decode cX4_tryOrder 31 = .ok (.aload_n 0, 1) := by decide +kernel
theorem dX4_tryOrder_32 : decode cX4_tryOrder 32 = .ok (.getfield 22, 3) := by decide +kernel
theorem dX4_tryOrder_35 : decode cX4_tryOrder 35 = .ok (.getfield 79, 3) := by decide +kernel
theorem dX4_tryOrder_38 : decode cX4_tryOrder 38 = .ok (.iload_n 2, 1) := by decide +kernel
theorem dX4_tryOrder_39 : decode cX4_tryOrder 39 = .ok (.invokestatic 82, 3) := by decide +kernel
theorem dX4_tryOrder_42 : decode cX4_tryOrder 42 = .ok (.invokevirtual 86, 3) := by decide +kernel
theorem dX4_tryOrder_45 : decode cX4_tryOrder 45 = .ok (.istore_n 3, 1) := by decide +kernel
theorem dX4_tryOrder_46 : decode cX4_tryOrder 46 = .ok (.iload_n 3, 1) := by decide +kernel
theorem dX4_tryOrder_47 : decode cX4_tryOrder 47 = .ok (.iconst (-1), 1) := by decide +kernel
theorem dX4_tryOrder_48 : decode cX4_tryOrder 48 = .ok (.if_icmp .ne 4, 3) := by decide +kernel
theorem dX4_tryOrder_51 : decode cX4_tryOrder 51 = .ok (.return_, 1) := by decide +kernel
theorem dX4_tryOrder_52 : decode cX4_tryOrder 52 = .ok (.iload_n 1, 1) := by decide +kernel
theorem dX4_tryOrder_53 : decode cX4_tryOrder 53 = .ok (.iload_n 3, 1) := by decide +kernel
theorem dX4_tryOrder_54 : decode cX4_tryOrder 54 = .ok (.iadd, 1) := by decide +kernel
theorem dX4_tryOrder_55 : decode cX4_tryOrder 55 = .ok (.istore_n 1, 1) := by decide +kernel
theorem dX4_tryOrder_56 : decode cX4_tryOrder 56 = .ok (.iinc 2 1, 3) := by decide +kernel
theorem dX4_tryOrder_59 : decode cX4_tryOrder 59 = .ok (.goto (-40), 3) := by decide +kernel
theorem dX4_tryOrder_62 : decode cX4_tryOrder 62 = .ok (.aload_n 0, 1) := by decide +kernel
theorem dX4_tryOrder_63 : decode cX4_tryOrder 63 = .ok (.getfield 41, 3) := by decide +kernel
theorem dX4_tryOrder_66 : decode cX4_tryOrder 66 = .ok (.iload_n 1, 1) := by decide +kernel
theorem dX4_tryOrder_67 : decode cX4_tryOrder 67 = .ok (.putfield 64, 3) := by decide +kernel
theorem dX4_tryOrder_70 : decode cX4_tryOrder 70 = .ok (.aload_n 0, 1) := by decide +kernel
theorem dX4_tryOrder_71 : decode cX4_tryOrder 71 = .ok (.getfield 41, 3) := by decide +kernel
theorem dX4_tryOrder_74 : decode cX4_tryOrder 74 = .ok (.aload_n 0, 1) := by decide +kernel
theorem dX4_tryOrder_75 : decode cX4_tryOrder 75 = .ok (.invokevirtual 89, 3) := by decide +kernel
theorem dX4_tryOrder_78 : decode cX4_tryOrder 78 = .ok (.putfield 93, 3) := by decide +kernel
theorem dX4_tryOrder_81 : decode cX4_tryOrder 81 = .ok (.return_, 1) := by decide +kernel
theorem dX4_route_0 : decode cX4_route 0 = .ok (.aload_n 0, 1) := by decide +kernel
theorem dX4_route_1 : decode cX4_route 1 = .ok (.getfield 18, 3) := by decide +kernel
theorem dX4_route_4 : decode cX4_route 4 = .ok (.getfield 96, 3) := by decide +kernel
theorem dX4_route_7 : decode cX4_route 7 = .ok (.iload_n 1, 1) := by decide +kernel
theorem dX4_route_8 : decode cX4_route 8 = .ok (.invokestatic 82, 3) := by decide +kernel
theorem dX4_route_11 : decode cX4_route 11 = .ok (.istore_n 2, 1) := by decide +kernel
theorem dX4_route_12 : decode cX4_route 12 = .ok (.aload_n 0, 1) := by decide +kernel
theorem dX4_route_13 : decode cX4_route 13 = .ok (.getfield 18, 3) := by decide +kernel
theorem dX4_route_16 : decode cX4_route 16 = .ok (.getfield 99, 3) := by decide +kernel
theorem dX4_route_19 : decode cX4_route 19 = .ok (.iload_n 1, 1) := by decide +kernel
theorem dX4_route_20 : decode cX4_route 20 = .ok (.invokestatic 82, 3) := by decide +kernel
theorem dX4_route_23 : decode cX4_route 23 = .ok (.istore_n 3, 1) := by decide +kernel
theorem dX4_route_24 : decode cX4_route 24 = .ok (.aload_n 0, 1) := by decide +kernel
theorem dX4_route_25 : decode cX4_route 25 = .ok (.iload_n 2, 1) := by decide +kernel
theorem dX4_route_26 : decode cX4_route 26 = .ok (.invokevirtual 102, 3) := by decide +kernel
theorem dX4_route_29 : decode cX4_route 29 = .ok (.aload_n 0, 1) := by decide +kernel
theorem dX4_route_30 : decode cX4_route 30 = .ok (.getfield 9, 3) := by decide +kernel
theorem dX4_route_33 : decode cX4_route 33 = .ok (.iload_n 3, 1) := by decide +kernel
theorem dX4_route_34 : decode cX4_route 34 = .ok (.invokestatic 82, 3) := by decide +kernel
theorem dX4_route_37 : decode cX4_route 37 = .ok (.istore 4, 2) := by decide +kernel
theorem dX4_route_39 : decode cX4_route 39 = .ok (.iload 4, 2) := by decide +kernel
theorem dX4_route_41 : decode cX4_route 41 = .ok (.iconst (-1), 1) := by decide +kernel
theorem dX4_route_42 : decode cX4_route 42 = .ok (.if_icmp .ne 5, 3) := by decide +kernel
theorem dX4_route_45 : decode cX4_route 45 = .ok (.iconst (-1), 1) := by decide +kernel
theorem dX4_route_46 : decode cX4_route 46 = .ok (.ireturn, 1) := by decide +kernel
theorem dX4_route_47 : decode cX4_route 47 = .ok (.aload_n 0, 1) := by decide +kernel
theorem dX4_route_48 : decode cX4_route 48 = .ok (.getfield 41, 3) := by decide +kernel
theorem dX4_route_51 : decode cX4_route 51 = .ok (.iload_n 1, 1) := by decide +kernel
theorem dX4_route_52 : decode cX4_route 52 = .ok (.iconst 0, 1) := by decide +kernel
theorem dX4_route_53 : decode cX4_route 53 = .ok (.iload_n 3, 1) := by decide +kernel
theorem dX4_route_54 : decode cX4_route 54 = .ok (.invokevirtual 106, 3) := by decide +kernel
theorem dX4_route_57 : decode cX4_route 57 = .ok (.iconst 0, 1) := by decide +kernel
theorem dX4_route_58 : decode cX4_route 58 = .ok (.istore 5, 2) := by decide +kernel
theorem dX4_route_60 : decode cX4_route 60 = .ok (.iload 5, 2) := by decide +kernel
theorem dX4_route_62 : decode cX4_route 62 = .ok (.bipush 40, 2) := by decide +kernel
theorem dX4_route_64 : decode cX4_route 64 = .ok (.if_icmp .ge 31, 3) := by decide +kernel
theorem dX4_route_67 : decode cX4_route 67 = .ok (.aload_n 0, 1) := by decide +kernel
theorem dX4_route_68 : decode cX4_route 68 = .ok (.iload 5, 2) := by decide +kernel
theorem dX4_route_70 : decode cX4_route 70 = .ok (.iload_n 3, 1) := by decide +kernel
theorem dX4_route_71 : decode cX4_route 71 = .ok (.iload_n 2, 1) := by decide +kernel
theorem dX4_route_72 : decode cX4_route 72 = .ok (.invokevirtual 110, 3) := by decide +kernel
theorem dX4_route_75 : decode cX4_route 75 = .ok (.istore_n 3, 1) := by decide +kernel
theorem dX4_route_76 : decode cX4_route 76 = .ok (.aload_n 0, 1) := by decide +kernel
theorem dX4_route_77 : decode cX4_route 77 = .ok (.getfield 41, 3) := by decide +kernel
theorem dX4_route_80 : decode cX4_route 80 = .ok (.iload_n 1, 1) := by decide +kernel
theorem dX4_route_81 : decode cX4_route 81 = .ok (.iload 5, 2) := by decide +kernel
theorem dX4_route_83 : decode cX4_route 83 = .ok (.iconst 1, 1) := by decide +kernel
theorem dX4_route_84 : decode cX4_route 84 = .ok (.iadd, 1) := by decide +kernel
theorem dX4_route_85 : decode cX4_route 85 = .ok (.iload_n 3, 1) := by decide +kernel
theorem dX4_route_86 : decode cX4_route 86 = .ok (.invokevirtual 106, 3) := by decide +kernel
theorem dX4_route_89 : decode cX4_route 89 = .ok (.iinc 5 1, 3) := by decide +kernel
theorem dX4_route_92 : decode cX4_route 92 = .ok (.goto (-32), 3) := by decide +kernel
theorem dX4_route_95 : decode cX4_route 95 = .ok (.aload_n 0, 1) := by decide +kernel
theorem dX4_route_96 : decode cX4_route 96 = .ok (.iload_n 1, 1) := by decide +kernel
theorem dX4_route_97 : decode cX4_route 97 = .ok (.invokevirtual 114, 3) := by decide +kernel
theorem dX4_route_100 : decode cX4_route 100 = .ok (.iload 4, 2) := by decide +kernel
theorem dX4_route_102 : decode cX4_route 102 = .ok (.ireturn, 1) := by decide +kernel
theorem dX4_occupy_0 : decode cX4_occupy 0 = .ok (.iconst 0, 1) := by decide +kernel
theorem dX4_occupy_1 : decode cX4_occupy 1 = .ok (.istore_n 2, 1) := by decide +kernel
theorem dX4_occupy_2 : decode cX4_occupy 2 = .ok (.iload_n 2, 1) := by decide +kernel
theorem dX4_occupy_3 : decode cX4_occupy 3 = .ok (.bipush 40, 2) := by decide +kernel
theorem dX4_occupy_5 : decode cX4_occupy 5 = .ok (.if_icmp .gt 31, 3) := by decide +kernel
theorem dX4_occupy_8 : decode cX4_occupy 8 = .ok (.aload_n 0, 1) := by decide +kernel
theorem dX4_occupy_9 : decode cX4_occupy 9 = .ok (.getfield 15, 3) := by decide +kernel
theorem dX4_occupy_12 : decode cX4_occupy 12 = .ok (.iload_n 2, 1) := by decide +kernel
theorem dX4_occupy_13 : decode cX4_occupy 13 = .ok (.bipush 36, 2) := by decide +kernel
theorem dX4_occupy_15 : decode cX4_occupy 15 = .ok (.imul, 1) := by decide +kernel
theorem dX4_occupy_16 : decode cX4_occupy 16 = .ok (.aload_n 0, 1) := by decide +kernel
theorem dX4_occupy_17 : decode cX4_occupy 17 = .ok (.getfield 41, 3) := by decide +kernel
theorem dX4_occupy_20 : decode cX4_occupy 20 = .ok (.iload_n 1, 1) := by decide +kernel
theorem dX4_occupy_21 : decode cX4_occupy 21 = .ok (.iload_n 2, 1) := by decide +kernel
theorem dX4_occupy_22 : decode cX4_occupy 22 = .ok (.invokevirtual 117, 3) := by decide +kernel
theorem dX4_occupy_25 : decode cX4_occupy 25 = .ok (.iadd, 1) := by decide +kernel
theorem dX4_occupy_26 : decode cX4_occupy 26 = .ok (.iload_n 1, 1) := by decide +kernel
theorem dX4_occupy_27 : decode cX4_occupy 27 = .ok (.invokestatic 121, 3) := by decide +kernel
theorem dX4_occupy_30 : decode cX4_occupy 30 = .ok (.iinc 2 1, 3) := by decide +kernel
theorem dX4_occupy_33 : decode cX4_occupy 33 = .ok (.goto (-31), 3) := by decide +kernel
theorem dX4_occupy_36 : decode cX4_occupy 36 = .ok (.return_, 1) := by decide +kernel
theorem dX4_measure_0 : decode cX4_measure 0 = .ok (.iconst 0, 1) := by decide +kernel
theorem dX4_measure_1 : decode cX4_measure 1 = .ok (.istore_n 2, 1) := by decide +kernel
theorem dX4_measure_2 : decode cX4_measure 2 = .ok (.iload_n 2, 1) := by decide +kernel
theorem dX4_measure_3 : decode cX4_measure 3 = .ok (.bipush 36, 2) := by decide +kernel
theorem dX4_measure_5 : decode cX4_measure 5 = .ok (.if_icmp .ge 45, 3) := by decide +kernel
theorem dX4_measure_8 : decode cX4_measure 8 = .ok (.sipush 1440, 3) := by decide +kernel
theorem dX4_measure_11 : decode cX4_measure 11 = .ok (.iload_n 2, 1) := by decide +kernel
theorem dX4_measure_12 : decode cX4_measure 12 = .ok (.iadd, 1) := by decide +kernel
theorem dX4_measure_13 : decode cX4_measure 13 = .ok (.istore_n 3, 1) := by decide +kernel
theorem dX4_measure_14 : decode cX4_measure 14 = .ok (.aload_n 0, 1) := by decide +kernel
theorem dX4_measure_15 : decode cX4_measure 15 = .ok (.getfield 9, 3) := by decide +kernel
theorem dX4_measure_18 : decode cX4_measure 18 = .ok (.iload_n 3, 1) := by decide +kernel
theorem dX4_measure_19 : decode cX4_measure 19 = .ok (.iload_n 2, 1) := by decide +kernel
theorem dX4_measure_20 : decode cX4_measure 20 = .ok (.iload_n 1, 1) := by decide +kernel
theorem dX4_measure_21 : decode cX4_measure 21 = .ok (.if_icmp .ne 19, 3) := by decide +kernel
theorem dX4_measure_24 : decode cX4_measure 24 = .ok (.aload_n 0, 1) := by decide +kernel
theorem dX4_measure_25 : decode cX4_measure 25 = .ok (.getfield 15, 3) := by decide +kernel
theorem dX4_measure_28 : decode cX4_measure 28 = .ok (.iload_n 3, 1) := by decide +kernel
theorem dX4_measure_29 : decode cX4_measure 29 = .ok (.invokestatic 82, 3) := by decide +kernel
theorem dX4_measure_32 : decode cX4_measure 32 = .ok (.iconst (-1), 1) := by decide +kernel
theorem dX4_measure_33 : decode cX4_measure 33 = .ok (.if_icmp .ne 7, 3) := by decide +kernel
theorem dX4_measure_36 : decode cX4_measure 36 = .ok (.iconst 0, 1) := by decide +kernel
theorem dX4_measure_37 : decode cX4_measure 37 = .ok (.goto 4, 3) := by decide +kernel
theorem dX4_measure_40 : decode cX4_measure 40 = .ok (.iconst (-1), 1) := by decide +kernel
theorem dX4_measure_41 : decode cX4_measure 41 = .ok (.invokestatic 121, 3) := by decide +kernel
theorem dX4_measure_44 : decode cX4_measure 44 = .ok (.iinc 2 1, 3) := by decide +kernel
theorem dX4_measure_47 : decode cX4_measure 47 = .ok (.goto (-45), 3) := by decide +kernel
theorem dX4_measure_50 : decode cX4_measure 50 = .ok (.bipush 39, 2) := by decide +kernel
theorem dX4_measure_52 : decode cX4_measure 52 = .ok (.istore_n 2, 1) := by decide +kernel
theorem dX4_measure_53 : decode cX4_measure 53 = .ok (.iload_n 2, 1) := by decide +kernel
theorem dX4_measure_54 : decode cX4_measure 54 = .ok (.ifCond .lt 43, 3) := by decide +kernel
theorem dX4_measure_57 : decode cX4_measure 57 = .ok (.iconst 0, 1) := by decide +kernel
theorem dX4_measure_58 : decode cX4_measure 58 = .ok (.istore_n 3, 1) := by decide +kernel
theorem dX4_measure_59 : decode cX4_measure 59 = .ok (.iload_n 3, 1) := by decide +kernel
theorem dX4_measure_60 : decode cX4_measure 60 = .ok (.bipush 36, 2) := by decide +kernel
theorem dX4_measure_62 : decode cX4_measure 62 = .ok (.if_icmp .ge 29, 3) := by decide +kernel
theorem dX4_measure_65 : decode cX4_measure 65 = .ok (.aload_n 0, 1) := by decide +kernel
theorem dX4_measure_66 : decode cX4_measure 66 = .ok (.getfield 9, 3) := by decide +kernel
theorem dX4_measure_69 : decode cX4_measure 69 = .ok (.iload_n 2, 1) := by decide +kernel
theorem dX4_measure_70 : decode cX4_measure 70 = .ok (.bipush 36, 2) := by decide +kernel
theorem dX4_measure_72 : decode cX4_measure 72 = .ok (.imul, 1) := by decide +kernel
theorem dX4_measure_73 : decode cX4_measure 73 = .ok (.iload_n 3, 1) := by decide +kernel
theorem dX4_measure_74 : decode cX4_measure 74 = .ok (.iadd, 1) := by decide +kernel
theorem dX4_measure_75 : decode cX4_measure 75 = .ok (.aload_n 0, 1) := by decide +kernel
theorem dX4_measure_76 : decode cX4_measure 76 = .ok (.iload_n 2, 1) := by decide +kernel
theorem dX4_measure_77 : decode cX4_measure 77 = .ok (.iload_n 3, 1) := by decide +kernel
theorem dX4_measure_78 : decode cX4_measure 78 = .ok (.iload_n 1, 1) := by decide +kernel
theorem dX4_measure_79 : decode cX4_measure 79 = .ok (.invokevirtual 125, 3) := by decide +kernel
theorem dX4_measure_82 : decode cX4_measure 82 = .ok (.invokestatic 121, 3) := by decide +kernel
theorem dX4_measure_85 : decode cX4_measure 85 = .ok (.iinc 3 1, 3) := by decide +kernel
theorem dX4_measure_88 : decode cX4_measure 88 = .ok (.goto (-29), 3) := by decide +kernel
theorem dX4_measure_91 : decode cX4_measure 91 = .ok (.iinc 2 (-1), 3) := by decide +kernel
theorem dX4_measure_94 : decode cX4_measure 94 = .ok (.goto (-41), 3) := by decide +kernel
theorem dX4_measure_97 : decode cX4_measure 97 = .ok (.return_, 1) := by decide +kernel
theorem dX4_leastFrom_0 : decode cX4_leastFrom 0 = .ok (.iconst (-1), 1) := by decide +kernel
theorem dX4_leastFrom_1 : decode cX4_leastFrom 1 = .ok (.istore 4, 2) := by decide +kernel
theorem dX4_leastFrom_3 : decode cX4_leastFrom 3 = .ok (.aload_n 0, 1) := by decide +kernel
theorem dX4_leastFrom_4 : decode cX4_leastFrom 4 = .ok (.getfield 15, 3) := by decide +kernel
theorem dX4_leastFrom_7 : decode cX4_leastFrom 7 = .ok (.iload_n 1, 1) := by decide +kernel
theorem dX4_leastFrom_8 : decode cX4_leastFrom 8 = .ok (.bipush 36, 2) := by decide +kernel
theorem dX4_leastFrom_10 : decode cX4_leastFrom 10 = .ok (.imul, 1) := by decide +kernel
theorem dX4_leastFrom_11 : decode cX4_leastFrom 11 = .ok (.iload_n 2, 1) := by decide +kernel
theorem dX4_leastFrom_12 : decode cX4_leastFrom 12 = .ok (.iadd, 1) := by decide +kernel
theorem dX4_leastFrom_13 : decode cX4_leastFrom 13 = .ok (.invokestatic 82, 3) := by decide +kernel
theorem dX4_leastFrom_16 : decode cX4_leastFrom 16 = .ok (.iconst (-1), 1) := by decide +kernel
theorem dX4_leastFrom_17 : decode cX4_leastFrom 17 = .ok (.if_icmp .eq 5, 3) := by decide +kernel
theorem dX4_leastFrom_20 : decode cX4_leastFrom 20 = .ok (.iconst (-1), 1) := by decide +kernel
theorem dX4_leastFrom_21 : decode cX4_leastFrom 21 = .ok (.ireturn, 1) := by decide +kernel
theorem dX4_leastFrom_22 : decode cX4_leastFrom 22 = .ok (.iconst 0, 1) := by decide +kernel
theorem dX4_leastFrom_23 : decode cX4_leastFrom 23 = .ok (.istore 5, 2) := by decide +kernel
theorem dX4_leastFrom_25 : decode cX4_leastFrom 25 = .ok (.iload 5, 2) := by decide +kernel
theorem dX4_leastFrom_27 : decode cX4_leastFrom 27 = .ok (.iconst 5, 1) := by decide +kernel
theorem dX4_leastFrom_28 : decode cX4_leastFrom 28 = .ok (.if_icmp .ge 43, 3) := by decide +kernel
theorem dX4_leastFrom_31 : decode cX4_leastFrom 31 = .ok (.aload_n 0, 1) := by decide +kernel
theorem dX4_leastFrom_32 : decode cX4_leastFrom 32 = .ok (.iload_n 1, 1) := by decide +kernel
theorem dX4_leastFrom_33 : decode cX4_leastFrom 33 = .ok (.iload_n 2, 1) := by decide +kernel
theorem dX4_leastFrom_34 : decode cX4_leastFrom 34 = .ok (.iload 5, 2) := by decide +kernel
theorem dX4_leastFrom_36 : decode cX4_leastFrom 36 = .ok (.iload_n 3, 1) := by decide +kernel
theorem dX4_leastFrom_37 : decode cX4_leastFrom 37 = .ok (.invokevirtual 128, 3) := by decide +kernel
theorem dX4_leastFrom_40 : decode cX4_leastFrom 40 = .ok (.istore 6, 2) := by decide +kernel
theorem dX4_leastFrom_42 : decode cX4_leastFrom 42 = .ok (.iload 6, 2) := by decide +kernel
theorem dX4_leastFrom_44 : decode cX4_leastFrom 44 = .ok (.iconst (-1), 1) := by decide +kernel
theorem dX4_leastFrom_45 : decode cX4_leastFrom 45 = .ok (.if_icmp .eq 20, 3) := by decide +kernel
theorem dX4_leastFrom_48 : decode cX4_leastFrom 48 = .ok (.iload 4, 2) := by decide +kernel
theorem dX4_leastFrom_50 : decode cX4_leastFrom 50 = .ok (.iconst (-1), 1) := by decide +kernel
theorem dX4_leastFrom_51 : decode cX4_leastFrom 51 = .ok (.if_icmp .eq 10, 3) := by decide +kernel
theorem dX4_leastFrom_54 : decode cX4_leastFrom 54 = .ok (.iload 6, 2) := by decide +kernel
theorem dX4_leastFrom_56 : decode cX4_leastFrom 56 = .ok (.iload 4, 2) := by decide +kernel
theorem dX4_leastFrom_58 : decode cX4_leastFrom 58 = .ok (.if_icmp .ge 7, 3) := by decide +kernel
theorem dX4_leastFrom_61 : decode cX4_leastFrom 61 = .ok (.iload 6, 2) := by decide +kernel
theorem dX4_leastFrom_63 : decode cX4_leastFrom 63 = .ok (.istore 4, 2) := by decide +kernel
theorem dX4_leastFrom_65 : decode cX4_leastFrom 65 = .ok (.iinc 5 1, 3) := by decide +kernel
theorem dX4_leastFrom_68 : decode cX4_leastFrom 68 = .ok (.goto (-43), 3) := by decide +kernel
theorem dX4_leastFrom_71 : decode cX4_leastFrom 71 = .ok (.iload 4, 2) := by decide +kernel
theorem dX4_leastFrom_73 : decode cX4_leastFrom 73 = .ok (.ireturn, 1) := by decide +kernel
theorem dX4_costBy_0 : decode cX4_costBy 0 = .ok (.aload_n 0, 1) := by decide +kernel
theorem dX4_costBy_1 : decode cX4_costBy 1 = .ok (.getfield 18, 3) := by decide +kernel
theorem dX4_costBy_4 : decode cX4_costBy 4 = .ok (.getfield 132, 3) := by decide +kernel
theorem dX4_costBy_7 : decode cX4_costBy 7 = .ok (.iload_n 2, 1) := by decide +kernel
theorem dX4_costBy_8 : decode cX4_costBy 8 = .ok (.iload_n 3, 1) := by decide +kernel
theorem dX4_costBy_9 : decode cX4_costBy 9 = .ok (.invokevirtual 136, 3) := by decide +kernel
theorem dX4_costBy_12 : decode cX4_costBy 12 = .ok (.istore 5, 2) := by decide +kernel
theorem dX4_costBy_14 : decode cX4_costBy 14 = .ok (.iload 5, 2) := by decide +kernel
theorem dX4_costBy_16 : decode cX4_costBy 16 = .ok (.iconst (-1), 1) := by decide +kernel
theorem dX4_costBy_17 : decode cX4_costBy 17 = .ok (.if_icmp .ne 7, 3) := by decide +kernel
theorem dX4_costBy_20 : decode cX4_costBy 20 = .ok (.iconst (-1), 1) := by decide +kernel
theorem dX4_costBy_21 : decode cX4_costBy 21 = .ok (.goto 19, 3) := by decide +kernel
theorem dX4_costBy_24 : decode cX4_costBy 24 = .ok (.aload_n 0, 1) := by decide +kernel
theorem dX4_costBy_25 : decode cX4_costBy 25 = .ok (.getfield 9, 3) := by decide +kernel
theorem dX4_costBy_28 : decode cX4_costBy 28 = .ok (.iload_n 1, 1) := by decide +kernel
theorem dX4_costBy_29 : decode cX4_costBy 29 = .ok (.iconst 1, 1) := by decide +kernel
theorem dX4_costBy_30 : decode cX4_costBy 30 = .ok (.iadd, 1) := by decide +kernel
theorem dX4_costBy_31 : decode cX4_costBy 31 = .ok (.bipush 36, 2) := by decide +kernel
theorem dX4_costBy_33 : decode cX4_costBy 33 = .ok (.imul, 1) := by decide +kernel
theorem dX4_costBy_34 : decode cX4_costBy 34 = .ok (.iload 5, 2) := by decide +kernel
theorem dX4_costBy_36 : decode cX4_costBy 36 = .ok (.iadd, 1) := by decide +kernel
theorem dX4_costBy_37 : decode cX4_costBy 37 = .ok (.invokestatic 82, 3) := by decide +kernel
theorem dX4_costBy_40 : decode cX4_costBy 40 = .ok (.istore 6, 2) := by decide +kernel
theorem dX4_costBy_42 : decode cX4_costBy 42 = .ok (.iload 6, 2) := by decide +kernel
theorem dX4_costBy_44 : decode cX4_costBy 44 = .ok (.iconst (-1), 1) := by decide +kernel
theorem dX4_costBy_45 : decode cX4_costBy 45 = .ok (.if_icmp .eq 14, 3) := by decide +kernel
theorem dX4_costBy_48 : decode cX4_costBy 48 = .ok (.aload_n 0, 1) := by decide +kernel
theorem dX4_costBy_49 : decode cX4_costBy 49 = .ok (.iload_n 1, 1) := by decide +kernel
theorem dX4_costBy_50 : decode cX4_costBy 50 = .ok (.iload_n 2, 1) := by decide +kernel
theorem dX4_costBy_51 : decode cX4_costBy 51 = .ok (.iload 5, 2) := by decide +kernel
theorem dX4_costBy_53 : decode cX4_costBy 53 = .ok (.invokevirtual 141, 3) := by decide +kernel
theorem dX4_costBy_56 : decode cX4_costBy 56 = .ok (.ifCond .eq 5, 3) := by decide +kernel
theorem dX4_costBy_59 : decode cX4_costBy 59 = .ok (.iconst (-1), 1) := by decide +kernel
theorem dX4_costBy_60 : decode cX4_costBy 60 = .ok (.ireturn, 1) := by decide +kernel
theorem dX4_costBy_61 : decode cX4_costBy 61 = .ok (.iload 6, 2) := by decide +kernel
theorem dX4_costBy_63 : decode cX4_costBy 63 = .ok (.iload_n 2, 1) := by decide +kernel
theorem dX4_costBy_64 : decode cX4_costBy 64 = .ok (.iload 5, 2) := by decide +kernel
theorem dX4_costBy_66 : decode cX4_costBy 66 = .ok (.iload 4, 2) := by decide +kernel
theorem dX4_costBy_68 : decode cX4_costBy 68 = .ok (.invokestatic 145, 3) := by decide +kernel
theorem dX4_costBy_71 : decode cX4_costBy 71 = .ok (.iadd, 1) := by decide +kernel
theorem dX4_costBy_72 : decode cX4_costBy 72 = .ok (.ireturn, 1) := by decide +kernel
theorem dX4_isBarred_0 : decode cX4_isBarred 0 = .ok (.aload_n 0, 1) := by decide +kernel
theorem dX4_isBarred_1 : decode cX4_isBarred 1 = .ok (.getfield 15, 3) := by decide +kernel
theorem dX4_isBarred_4 : decode cX4_isBarred 4 = .ok (.iload_n 1, 1) := by decide +kernel
theorem dX4_isBarred_5 : decode cX4_isBarred 5 = .ok (.bipush 36, 2) := by decide +kernel
theorem dX4_isBarred_7 : decode cX4_isBarred 7 = .ok (.imul, 1) := by decide +kernel
theorem dX4_isBarred_8 : decode cX4_isBarred 8 = .ok (.iload_n 3, 1) := by decide +kernel
theorem dX4_isBarred_9 : decode cX4_isBarred 9 = .ok (.iadd, 1) := by decide +kernel
theorem dX4_isBarred_10 : decode cX4_isBarred 10 = .ok (.invokestatic 82, 3) := by decide +kernel
theorem dX4_isBarred_13 : decode cX4_isBarred 13 = .ok (.istore 4, 2) := by decide +kernel
theorem dX4_isBarred_15 : decode cX4_isBarred 15 = .ok (.aload_n 0, 1) := by decide +kernel
theorem dX4_isBarred_16 : decode cX4_isBarred 16 = .ok (.getfield 18, 3) := by decide +kernel
theorem dX4_isBarred_19 : decode cX4_isBarred 19 = .ok (.getfield 148, 3) := by decide +kernel
theorem dX4_isBarred_22 : decode cX4_isBarred 22 = .ok (.ifCond .eq 33, 3) := by decide +kernel
theorem dX4_isBarred_25 : decode cX4_isBarred 25 = .ok (.iload 4, 2) := by decide +kernel
theorem dX4_isBarred_27 : decode cX4_isBarred 27 = .ok (.iconst (-1), 1) := by decide +kernel
theorem dX4_isBarred_28 : decode cX4_isBarred 28 = .ok (.if_icmp .eq 27, 3) := by decide +kernel
theorem dX4_isBarred_31 : decode cX4_isBarred 31 = .ok (.aload_n 0, 1) := by decide +kernel
theorem dX4_isBarred_32 : decode cX4_isBarred 32 = .ok (.getfield 15, 3) := by decide +kernel
theorem dX4_isBarred_35 : decode cX4_isBarred 35 = .ok (.iload_n 1, 1) := by decide +kernel
theorem dX4_isBarred_36 : decode cX4_isBarred 36 = .ok (.iconst 1, 1) := by decide +kernel
theorem dX4_isBarred_37 : decode cX4_isBarred 37 = .ok (.iadd, 1) := by decide +kernel
theorem dX4_isBarred_38 : decode cX4_isBarred 38 = .ok (.bipush 36, 2) := by decide +kernel
theorem dX4_isBarred_40 : decode cX4_isBarred 40 = .ok (.imul, 1) := by decide +kernel
theorem dX4_isBarred_41 : decode cX4_isBarred 41 = .ok (.iload_n 2, 1) := by decide +kernel
theorem dX4_isBarred_42 : decode cX4_isBarred 42 = .ok (.iadd, 1) := by decide +kernel
theorem dX4_isBarred_43 : decode cX4_isBarred 43 = .ok (.invokestatic 82, 3) := by decide +kernel
theorem dX4_isBarred_46 : decode cX4_isBarred 46 = .ok (.iload 4, 2) := by decide +kernel
theorem dX4_isBarred_48 : decode cX4_isBarred 48 = .ok (.if_icmp .ne 7, 3) := by decide +kernel
theorem dX4_isBarred_51 : decode cX4_isBarred 51 = .ok (.iconst 1, 1) := by decide +kernel
theorem dX4_isBarred_52 : decode cX4_isBarred 52 = .ok (.goto 4, 3) := by decide +kernel
theorem dX4_isBarred_55 : decode cX4_isBarred 55 = .ok (.iconst 0, 1) := by decide +kernel
theorem dX4_isBarred_56 : decode cX4_isBarred 56 = .ok (.ireturn, 1) := by decide +kernel
theorem dX4_follow_0 : decode cX4_follow 0 = .ok (.aload_n 0, 1) := by decide +kernel
theorem dX4_follow_1 : decode cX4_follow 1 = .ok (.getfield 9, 3) := by decide +kernel
theorem dX4_follow_4 : decode cX4_follow 4 = .ok (.iload_n 1, 1) := by decide +kernel
theorem dX4_follow_5 : decode cX4_follow 5 = .ok (.bipush 36, 2) := by decide +kernel
theorem dX4_follow_7 : decode cX4_follow 7 = .ok (.imul, 1) := by decide +kernel
theorem dX4_follow_8 : decode cX4_follow 8 = .ok (.iload_n 2, 1) := by decide +kernel
theorem dX4_follow_9 : decode cX4_follow 9 = .ok (.iadd, 1) := by decide +kernel
theorem dX4_follow_10 : decode cX4_follow 10 = .ok (.invokestatic 82, 3) := by decide +kernel
theorem dX4_follow_13 : decode cX4_follow 13 = .ok (.istore 4, 2) := by decide +kernel
theorem dX4_follow_15 : decode cX4_follow 15 = .ok (.iconst 0, 1) := by decide +kernel
theorem dX4_follow_16 : decode cX4_follow 16 = .ok (.istore 5, 2) := by decide +kernel
theorem dX4_follow_18 : decode cX4_follow 18 = .ok (.iload 5, 2) := by decide +kernel
theorem dX4_follow_20 : decode cX4_follow 20 = .ok (.iconst 5, 1) := by decide +kernel
theorem dX4_follow_21 : decode cX4_follow 21 = .ok (.if_icmp .ge 37, 3) := by decide +kernel
theorem dX4_follow_24 : decode cX4_follow 24 = .ok (.aload_n 0, 1) := by decide +kernel
theorem dX4_follow_25 : decode cX4_follow 25 = .ok (.iload_n 1, 1) := by decide +kernel
theorem dX4_follow_26 : decode cX4_follow 26 = .ok (.iload_n 2, 1) := by decide +kernel
theorem dX4_follow_27 : decode cX4_follow 27 = .ok (.iload 5, 2) := by decide +kernel
theorem dX4_follow_29 : decode cX4_follow 29 = .ok (.iload_n 3, 1) := by decide +kernel
theorem dX4_follow_30 : decode cX4_follow 30 = .ok (.invokevirtual 128, 3) := by decide +kernel
theorem dX4_follow_33 : decode cX4_follow 33 = .ok (.iload 4, 2) := by decide +kernel
theorem dX4_follow_35 : decode cX4_follow 35 = .ok (.if_icmp .ne 17, 3) := by decide +kernel
theorem dX4_follow_38 : decode cX4_follow 38 = .ok (.aload_n 0, 1) := by decide +kernel
theorem dX4_follow_39 : decode cX4_follow 39 = .ok (.getfield 18, 3) := by decide +kernel
theorem dX4_follow_42 : decode cX4_follow 42 = .ok (.getfield 132, 3) := by decide +kernel
theorem dX4_follow_45 : decode cX4_follow 45 = .ok (.iload_n 2, 1) := by decide +kernel
theorem dX4_follow_46 : decode cX4_follow 46 = .ok (.iload 5, 2) := by decide +kernel
theorem dX4_follow_48 : decode cX4_follow 48 = .ok (.invokevirtual 136, 3) := by decide +kernel
theorem dX4_follow_51 : decode cX4_follow 51 = .ok (.ireturn, 1) := by decide +kernel
theorem dX4_follow_52 : decode cX4_follow 52 = .ok (.iinc 5 1, 3) := by decide +kernel
theorem dX4_follow_55 : decode cX4_follow 55 = .ok (.goto (-37), 3) := by decide +kernel
theorem dX4_follow_58 : decode cX4_follow 58 = .ok (.iload_n 2, 1) := by decide +kernel
theorem dX4_follow_59 : decode cX4_follow 59 = .ok (.ireturn, 1) := by decide +kernel
theorem dX4_stepsOfTrial_0 : decode cX4_stepsOfTrial 0 = .ok (.bipush 40, 2) := by decide +kernel
theorem dX4_stepsOfTrial_2 : decode cX4_stepsOfTrial 2 = .ok (.istore_n 1, 1) := by decide +kernel
theorem dX4_stepsOfTrial_3 : decode cX4_stepsOfTrial 3 = .ok (.iload_n 1, 1) := by decide +kernel
theorem dX4_stepsOfTrial_4 : decode cX4_stepsOfTrial 4 = .ok (.ifCond .le 19, 3) := by decide +kernel
theorem dX4_stepsOfTrial_7 : decode cX4_stepsOfTrial 7 = .ok (.aload_n 0, 1) := by decide +kernel
theorem dX4_stepsOfTrial_8 : decode cX4_stepsOfTrial 8 = .ok (.iload_n 1, 1) := by decide +kernel
theorem dX4_stepsOfTrial_9 : decode cX4_stepsOfTrial 9 = .ok (.iconst 1, 1) := by decide +kernel
theorem dX4_stepsOfTrial_10 : decode cX4_stepsOfTrial 10 = .ok (.isub, 1) := by decide +kernel
theorem dX4_stepsOfTrial_11 : decode cX4_stepsOfTrial 11 = .ok (.invokevirtual 152, 3) := by decide +kernel
theorem dX4_stepsOfTrial_14 : decode cX4_stepsOfTrial 14 = .ok (.ifCond .eq 9, 3) := by decide +kernel
theorem dX4_stepsOfTrial_17 : decode cX4_stepsOfTrial 17 = .ok (.iinc 1 (-1), 3) := by decide +kernel
theorem dX4_stepsOfTrial_20 : decode cX4_stepsOfTrial 20 = .ok (.goto (-17), 3) := by decide +kernel
theorem dX4_stepsOfTrial_23 : decode cX4_stepsOfTrial 23 = .ok (.iload_n 1, 1) := by decide +kernel
theorem dX4_stepsOfTrial_24 : decode cX4_stepsOfTrial 24 = .ok (.ireturn, 1) := by decide +kernel
theorem dX4_allAtEnds_0 : decode cX4_allAtEnds 0 = .ok (.iconst 0, 1) := by decide +kernel
theorem dX4_allAtEnds_1 : decode cX4_allAtEnds 1 = .ok (.istore_n 2, 1) := by decide +kernel
theorem dX4_allAtEnds_2 : decode cX4_allAtEnds 2 = .ok (.iload_n 2, 1) := by decide +kernel
theorem dX4_allAtEnds_3 : decode cX4_allAtEnds 3 = .ok (.aload_n 0, 1) := by decide +kernel
theorem dX4_allAtEnds_4 : decode cX4_allAtEnds 4 = .ok (.getfield 18, 3) := by decide +kernel
theorem dX4_allAtEnds_7 : decode cX4_allAtEnds 7 = .ok (.getfield 28, 3) := by decide +kernel
theorem dX4_allAtEnds_10 : decode cX4_allAtEnds 10 = .ok (.if_icmp .ge 34, 3) := by decide +kernel
theorem dX4_allAtEnds_13 : decode cX4_allAtEnds 13 = .ok (.aload_n 0, 1) := by decide +kernel
theorem dX4_allAtEnds_14 : decode cX4_allAtEnds 14 = .ok (.getfield 41, 3) := by decide +kernel
theorem dX4_allAtEnds_17 : decode cX4_allAtEnds 17 = .ok (.iload_n 2, 1) := by decide +kernel
theorem dX4_allAtEnds_18 : decode cX4_allAtEnds 18 = .ok (.iload_n 1, 1) := by decide +kernel
theorem dX4_allAtEnds_19 : decode cX4_allAtEnds 19 = .ok (.invokevirtual 117, 3) := by decide +kernel
theorem dX4_allAtEnds_22 : decode cX4_allAtEnds 22 = .ok (.aload_n 0, 1) := by decide +kernel
theorem dX4_allAtEnds_23 : decode cX4_allAtEnds 23 = .ok (.getfield 18, 3) := by decide +kernel
theorem dX4_allAtEnds_26 : decode cX4_allAtEnds 26 = .ok (.getfield 96, 3) := by decide +kernel
theorem dX4_allAtEnds_29 : decode cX4_allAtEnds 29 = .ok (.iload_n 2, 1) := by decide +kernel
theorem dX4_allAtEnds_30 : decode cX4_allAtEnds 30 = .ok (.invokestatic 82, 3) := by decide +kernel
theorem dX4_allAtEnds_33 : decode cX4_allAtEnds 33 = .ok (.if_icmp .eq 5, 3) := by decide +kernel
theorem dX4_allAtEnds_36 : decode cX4_allAtEnds 36 = .ok (.iconst 0, 1) := by decide +kernel
theorem dX4_allAtEnds_37 : decode cX4_allAtEnds 37 = .ok (.ireturn, 1) := by decide +kernel
theorem dX4_allAtEnds_38 : decode cX4_allAtEnds 38 = .ok (.iinc 2 1, 3) := by decide +kernel
theorem dX4_allAtEnds_41 : decode cX4_allAtEnds 41 = .ok (.goto (-39), 3) := by decide +kernel
theorem dX4_allAtEnds_44 : decode cX4_allAtEnds 44 = .ok (.iconst 1, 1) := by decide +kernel
theorem dX4_allAtEnds_45 : decode cX4_allAtEnds 45 = .ok (.ireturn, 1) := by decide +kernel
