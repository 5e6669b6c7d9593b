theorem dX11_hasOf_0 : decode cX11_hasOf 0 = .ok (.aload_n 0, 1) := by decide +kernel
theorem dX11_hasOf_1 : decode cX11_hasOf 1 = .ok (.getfield 90, 3) := by decide +kernel
theorem dX11_hasOf_4 : decode cX11_hasOf 4 = .ok (.iload_n 1, 1) := by decide +kernel
theorem dX11_hasOf_5 : decode cX11_hasOf 5 = .ok (.iaload, 1) := by decide +kernel
theorem dX11_hasOf_6 : decode cX11_hasOf 6 = .ok (.invokestatic 404, 3) := by decide +kernel
theorem dX11_hasOf_9 : decode cX11_hasOf 9 = .ok (.istore 4, 2) := by decide +kernel
theorem dX11_hasOf_11 : decode cX11_hasOf 11 = .ok (.iload_n 2, 1) := by decide +kernel
theorem dX11_hasOf_12 : decode cX11_hasOf 12 = .ok (.ifCond .ne 25, 3) := by decide +kernel
theorem dX11_hasOf_15 : decode cX11_hasOf 15 = .ok (.iconst 0, 1) := by decide +kernel
theorem dX11_hasOf_16 : decode cX11_hasOf 16 = .ok (.iload_n 3, 1) := by decide +kernel
theorem dX11_hasOf_17 : decode cX11_hasOf 17 = .ok (.ifCond .ne 8, 3) := by decide +kernel
theorem dX11_hasOf_20 : decode cX11_hasOf 20 = .ok (.bipush 9, 2) := by decide +kernel
theorem dX11_hasOf_22 : decode cX11_hasOf 22 = .ok (.goto 5, 3) := by decide +kernel
theorem dX11_hasOf_25 : decode cX11_hasOf 25 = .ok (.bipush 12, 2) := by decide +kernel
theorem dX11_hasOf_27 : decode cX11_hasOf 27 = .ok (.aload_n 0, 1) := by decide +kernel
theorem dX11_hasOf_28 : decode cX11_hasOf 28 = .ok (.iload_n 1, 1) := by decide +kernel
theorem dX11_hasOf_29 : decode cX11_hasOf 29 = .ok (.invokevirtual 410, 3) := by decide +kernel
theorem dX11_hasOf_32 : decode cX11_hasOf 32 = .ok (.isub, 1) := by decide +kernel
theorem dX11_hasOf_33 : decode cX11_hasOf 33 = .ok (.invokestatic 498, 3) := by decide +kernel
theorem dX11_hasOf_36 : decode cX11_hasOf 36 = .ok (.ireturn, 1) := by decide +kernel
theorem dX11_hasOf_37 : decode cX11_hasOf 37 = .ok (.iload_n 3, 1) := by decide +kernel
theorem dX11_hasOf_38 : decode cX11_hasOf 38 = .ok (.ifCond .ne 10, 3) := by decide +kernel
theorem dX11_hasOf_41 : decode cX11_hasOf 41 = .ok (.iload 4, 2) := by decide +kernel
theorem dX11_hasOf_43 : decode cX11_hasOf 43 = .ok (.iconst 2, 1) := by decide +kernel
theorem dX11_hasOf_44 : decode cX11_hasOf 44 = .ok (.iadd, 1) := by decide +kernel
theorem dX11_hasOf_45 : decode cX11_hasOf 45 = .ok (.goto 5, 3) := by decide +kernel
theorem dX11_hasOf_48 : decode cX11_hasOf 48 = .ok (.iload 4, 2) := by decide +kernel
theorem dX11_hasOf_50 : decode cX11_hasOf 50 = .ok (.ireturn, 1) := by decide +kernel
theorem dX11_isRest_0 : decode cX11_isRest 0 = .ok (.iload_n 3, 1) := by decide +kernel
theorem dX11_isRest_1 : decode cX11_isRest 1 = .ok (.iconst 2, 1) := by decide +kernel
theorem dX11_isRest_2 : decode cX11_isRest 2 = .ok (.idiv, 1) := by decide +kernel
theorem dX11_isRest_3 : decode cX11_isRest 3 = .ok (.istore 4, 2) := by decide +kernel
theorem dX11_isRest_5 : decode cX11_isRest 5 = .ok (.iload_n 3, 1) := by decide +kernel
theorem dX11_isRest_6 : decode cX11_isRest 6 = .ok (.iconst 2, 1) := by decide +kernel
theorem dX11_isRest_7 : decode cX11_isRest 7 = .ok (.irem, 1) := by decide +kernel
theorem dX11_isRest_8 : decode cX11_isRest 8 = .ok (.istore 5, 2) := by decide +kernel
theorem dX11_isRest_10 : decode cX11_isRest 10 = .ok (.aload_n 0, 1) := by decide +kernel
theorem dX11_isRest_11 : decode cX11_isRest 11 = .ok (.iload_n 1, 1) := by decide +kernel
theorem dX11_isRest_12 : decode cX11_isRest 12 = .ok (.iconst 1, 1) := by decide +kernel
theorem dX11_isRest_13 : decode cX11_isRest 13 = .ok (.iload 4, 2) := by decide +kernel
theorem dX11_isRest_15 : decode cX11_isRest 15 = .ok (.isub, 1) := by decide +kernel
theorem dX11_isRest_16 : decode cX11_isRest 16 = .ok (.iload 5, 2) := by decide +kernel
theorem dX11_isRest_18 : decode cX11_isRest 18 = .ok (.invokevirtual 509, 3) := by decide +kernel
theorem dX11_isRest_21 : decode cX11_isRest 21 = .ok (.aload_n 0, 1) := by decide +kernel
theorem dX11_isRest_22 : decode cX11_isRest 22 = .ok (.iload_n 1, 1) := by decide +kernel
theorem dX11_isRest_23 : decode cX11_isRest 23 = .ok (.iload 4, 2) := by decide +kernel
theorem dX11_isRest_25 : decode cX11_isRest 25 = .ok (.iload 5, 2) := by decide +kernel
theorem dX11_isRest_27 : decode cX11_isRest 27 = .ok (.invokevirtual 509, 3) := by decide +kernel
theorem dX11_isRest_30 : decode cX11_isRest 30 = .ok (.if_icmp .gt 30, 3) := by decide +kernel
theorem dX11_isRest_33 : decode cX11_isRest 33 = .ok (.aload_n 0, 1) := by decide +kernel
theorem dX11_isRest_34 : decode cX11_isRest 34 = .ok (.iload_n 2, 1) := by decide +kernel
theorem dX11_isRest_35 : decode cX11_isRest 35 = .ok (.iconst 1, 1) := by decide +kernel
theorem dX11_isRest_36 : decode cX11_isRest 36 = .ok (.iload 5, 2) := by decide +kernel
theorem dX11_isRest_38 : decode cX11_isRest 38 = .ok (.isub, 1) := by decide +kernel
theorem dX11_isRest_39 : decode cX11_isRest 39 = .ok (.iload 4, 2) := by decide +kernel
theorem dX11_isRest_41 : decode cX11_isRest 41 = .ok (.invokevirtual 509, 3) := by decide +kernel
theorem dX11_isRest_44 : decode cX11_isRest 44 = .ok (.aload_n 0, 1) := by decide +kernel
theorem dX11_isRest_45 : decode cX11_isRest 45 = .ok (.iload_n 2, 1) := by decide +kernel
theorem dX11_isRest_46 : decode cX11_isRest 46 = .ok (.iload 5, 2) := by decide +kernel
theorem dX11_isRest_48 : decode cX11_isRest 48 = .ok (.iload 4, 2) := by decide +kernel
theorem dX11_isRest_50 : decode cX11_isRest 50 = .ok (.invokevirtual 509, 3) := by decide +kernel
theorem dX11_isRest_53 : decode cX11_isRest 53 = .ok (.if_icmp .gt 7, 3) := by decide +kernel
theorem dX11_isRest_56 : decode cX11_isRest 56 = .ok (.iconst 1, 1) := by decide +kernel
theorem dX11_isRest_57 : decode cX11_isRest 57 = .ok (.goto 4, 3) := by decide +kernel
theorem dX11_isRest_60 : decode cX11_isRest 60 = .ok (.iconst 0, 1) := by decide +kernel
theorem dX11_isRest_61 : decode cX11_isRest 61 = .ok (.ireturn, 1) := by decide +kernel
theorem dX11_restOf_0 : decode cX11_restOf 0 = .ok (.aload_n 0, 1) := by decide +kernel
theorem dX11_restOf_1 : decode cX11_restOf 1 = .ok (.iconst 0, 1) := by decide +kernel
theorem dX11_restOf_2 : decode cX11_restOf 2 = .ok (.invokevirtual 428, 3) := by decide +kernel
theorem dX11_restOf_5 : decode cX11_restOf 5 = .ok (.iconst 0, 1) := by decide +kernel
theorem dX11_restOf_6 : decode cX11_restOf 6 = .ok (.istore 4, 2) := by decide +kernel
theorem dX11_restOf_8 : decode cX11_restOf 8 = .ok (.iconst 0, 1) := by decide +kernel
theorem dX11_restOf_9 : decode cX11_restOf 9 = .ok (.istore 5, 2) := by decide +kernel
theorem dX11_restOf_11 : decode cX11_restOf 11 = .ok (.iload 5, 2) := by decide +kernel
theorem dX11_restOf_13 : decode cX11_restOf 13 = .ok (.iconst 4, 1) := by decide +kernel
theorem dX11_restOf_14 : decode cX11_restOf 14 = .ok (.if_icmp .ge 45, 3) := by decide +kernel
theorem dX11_restOf_17 : decode cX11_restOf 17 = .ok (.aload_n 0, 1) := by decide +kernel
theorem dX11_restOf_18 : decode cX11_restOf 18 = .ok (.iload_n 1, 1) := by decide +kernel
theorem dX11_restOf_19 : decode cX11_restOf 19 = .ok (.iload_n 2, 1) := by decide +kernel
theorem dX11_restOf_20 : decode cX11_restOf 20 = .ok (.iload 5, 2) := by decide +kernel
theorem dX11_restOf_22 : decode cX11_restOf 22 = .ok (.invokevirtual 512, 3) := by decide +kernel
theorem dX11_restOf_25 : decode cX11_restOf 25 = .ok (.ifCond .ne 6, 3) := by decide +kernel
theorem dX11_restOf_28 : decode cX11_restOf 28 = .ok (.goto 25, 3) := by decide +kernel
theorem dX11_restOf_31 : decode cX11_restOf 31 = .ok (.iload 4, 2) := by decide +kernel
theorem dX11_restOf_33 : decode cX11_restOf 33 = .ok (.iload_n 3, 1) := by decide +kernel
theorem dX11_restOf_34 : decode cX11_restOf 34 = .ok (.if_icmp .ne 16, 3) := by decide +kernel
theorem dX11_restOf_37 : decode cX11_restOf 37 = .ok (.bipush 10, 2) := by decide +kernel
theorem dX11_restOf_39 : decode cX11_restOf 39 = .ok (.iload 5, 2) := by decide +kernel
theorem dX11_restOf_41 : decode cX11_restOf 41 = .ok (.iconst 2, 1) := by decide +kernel
theorem dX11_restOf_42 : decode cX11_restOf 42 = .ok (.idiv, 1) := by decide +kernel
theorem dX11_restOf_43 : decode cX11_restOf 43 = .ok (.imul, 1) := by decide +kernel
theorem dX11_restOf_44 : decode cX11_restOf 44 = .ok (.iload 5, 2) := by decide +kernel
theorem dX11_restOf_46 : decode cX11_restOf 46 = .ok (.iconst 2, 1) := by decide +kernel
theorem dX11_restOf_47 : decode cX11_restOf 47 = .ok (.irem, 1) := by decide +kernel
theorem dX11_restOf_48 : decode cX11_restOf 48 = .ok (.iadd, 1) := by decide +kernel
theorem dX11_restOf_49 : decode cX11_restOf 49 = .ok (.ireturn, 1) := by decide +kernel
theorem dX11_restOf_50 : decode cX11_restOf 50 = .ok (.iinc 4 1, 3) := by decide +kernel
theorem dX11_restOf_53 : decode cX11_restOf 53 = .ok (.iinc 5 1, 3) := by decide +kernel
theorem dX11_restOf_56 : decode cX11_restOf 56 = .ok (.goto (-45), 3) := by decide +kernel
theorem dX11_restOf_59 : decode cX11_restOf 59 = .ok (.iload_n 3, 1) := by decide +kernel
theorem dX11_restOf_60 : decode cX11_restOf 60 = .ok (.iconst (-1), 1) := by decide +kernel
theorem dX11_restOf_61 : decode cX11_restOf 61 = .ok (.if_icmp .ne 8, 3) := by decide +kernel
theorem dX11_restOf_64 : decode cX11_restOf 64 = .ok (.iload 4, 2) := by decide +kernel
theorem dX11_restOf_66 : decode cX11_restOf 66 = .ok (.goto 5, 3) := by decide +kernel
theorem dX11_restOf_69 : decode cX11_restOf 69 = .ok (.bipush (-2), 2) := by decide +kernel
theorem dX11_restOf_71 : decode cX11_restOf 71 = .ok (.ireturn, 1) := by decide +kernel
theorem dX11_rests_0 : decode cX11_rests 0 = .ok (.aload_n 0, 1) := by decide +kernel
theorem dX11_rests_1 : decode cX11_rests 1 = .ok (.iconst 0, 1) := by decide +kernel
theorem dX11_rests_2 : decode cX11_rests 2 = .ok (.putfield 128, 3) := by decide +kernel
theorem dX11_rests_5 : decode cX11_rests 5 = .ok (.aload_n 0, 1) := by decide +kernel
theorem dX11_rests_6 : decode cX11_rests 6 = .ok (.iload_n 1, 1) := by decide +kernel
theorem dX11_rests_7 : decode cX11_rests 7 = .ok (.iload_n 2, 1) := by decide +kernel
theorem dX11_rests_8 : decode cX11_rests 8 = .ok (.invokevirtual 506, 3) := by decide +kernel
theorem dX11_rests_11 : decode cX11_rests 11 = .ok (.ifCond .eq 13, 3) := by decide +kernel
theorem dX11_rests_14 : decode cX11_rests 14 = .ok (.aload_n 0, 1) := by decide +kernel
theorem dX11_rests_15 : decode cX11_rests 15 = .ok (.iload_n 1, 1) := by decide +kernel
theorem dX11_rests_16 : decode cX11_rests 16 = .ok (.iload_n 2, 1) := by decide +kernel
theorem dX11_rests_17 : decode cX11_rests 17 = .ok (.iconst (-1), 1) := by decide +kernel
theorem dX11_rests_18 : decode cX11_rests 18 = .ok (.invokevirtual 515, 3) := by decide +kernel
theorem dX11_rests_21 : decode cX11_rests 21 = .ok (.goto 4, 3) := by decide +kernel
theorem dX11_rests_24 : decode cX11_rests 24 = .ok (.iconst (-1), 1) := by decide +kernel
theorem dX11_rests_25 : decode cX11_rests 25 = .ok (.ireturn, 1) := by decide +kernel
theorem dX11_rest_0 : decode cX11_rest 0 = .ok (.aload_n 0, 1) := by decide +kernel
theorem dX11_rest_1 : decode cX11_rest 1 = .ok (.iconst 0, 1) := by decide +kernel
theorem dX11_rest_2 : decode cX11_rest 2 = .ok (.putfield 128, 3) := by decide +kernel
theorem dX11_rest_5 : decode cX11_rest 5 = .ok (.aload_n 0, 1) := by decide +kernel
theorem dX11_rest_6 : decode cX11_rest 6 = .ok (.iload_n 1, 1) := by decide +kernel
theorem dX11_rest_7 : decode cX11_rest 7 = .ok (.iload_n 2, 1) := by decide +kernel
theorem dX11_rest_8 : decode cX11_rest 8 = .ok (.invokevirtual 506, 3) := by decide +kernel
theorem dX11_rest_11 : decode cX11_rest 11 = .ok (.ifCond .eq 17, 3) := by decide +kernel
theorem dX11_rest_14 : decode cX11_rest 14 = .ok (.iload_n 3, 1) := by decide +kernel
theorem dX11_rest_15 : decode cX11_rest 15 = .ok (.ifCond .lt 13, 3) := by decide +kernel
theorem dX11_rest_18 : decode cX11_rest 18 = .ok (.aload_n 0, 1) := by decide +kernel
theorem dX11_rest_19 : decode cX11_rest 19 = .ok (.iload_n 1, 1) := by decide +kernel
theorem dX11_rest_20 : decode cX11_rest 20 = .ok (.iload_n 2, 1) := by decide +kernel
theorem dX11_rest_21 : decode cX11_rest 21 = .ok (.iload_n 3, 1) := by decide +kernel
theorem dX11_rest_22 : decode cX11_rest 22 = .ok (.invokevirtual 515, 3) := by decide +kernel
theorem dX11_rest_25 : decode cX11_rest 25 = .ok (.goto 4, 3) := by decide +kernel
theorem dX11_rest_28 : decode cX11_rest 28 = .ok (.iconst (-1), 1) := by decide +kernel
theorem dX11_rest_29 : decode cX11_rest 29 = .ok (.ireturn, 1) := by decide +kernel
theorem dX11_chance_0 : decode cX11_chance 0 = .ok (.aload_n 0, 1) := by decide +kernel
theorem dX11_chance_1 : decode cX11_chance 1 = .ok (.iconst 0, 1) := by decide +kernel
theorem dX11_chance_2 : decode cX11_chance 2 = .ok (.putfield 128, 3) := by decide +kernel
theorem dX11_chance_5 : decode cX11_chance 5 = .ok (.iload_n 1, 1) := by decide +kernel
theorem dX11_chance_6 : decode cX11_chance 6 = .ok (.ifCond .lt 22, 3) := by decide +kernel
theorem dX11_chance_9 : decode cX11_chance 9 = .ok (.iload_n 2, 1) := by decide +kernel
theorem dX11_chance_10 : decode cX11_chance 10 = .ok (.iconst 1, 1) := by decide +kernel
theorem dX11_chance_11 : decode cX11_chance 11 = .ok (.if_icmp .lt 17, 3) := by decide +kernel
theorem dX11_chance_14 : decode cX11_chance 14 = .ok (.iload_n 2, 1) := by decide +kernel
theorem dX11_chance_15 : decode cX11_chance 15 = .ok (.bipush 99, 2) := by decide +kernel
theorem dX11_chance_17 : decode cX11_chance 17 = .ok (.if_icmp .gt 11, 3) := by decide +kernel
theorem dX11_chance_20 : decode cX11_chance 20 = .ok (.aload_n 0, 1) := by decide +kernel
theorem dX11_chance_21 : decode cX11_chance 21 = .ok (.iload_n 3, 1) := by decide +kernel
theorem dX11_chance_22 : decode cX11_chance 22 = .ok (.invokevirtual 460, 3) := by decide +kernel
theorem dX11_chance_25 : decode cX11_chance 25 = .ok (.ifCond .ne 5, 3) := by decide +kernel
theorem dX11_chance_28 : decode cX11_chance 28 = .ok (.iconst (-1), 1) := by decide +kernel
theorem dX11_chance_29 : decode cX11_chance 29 = .ok (.ireturn, 1) := by decide +kernel
theorem dX11_chance_30 : decode cX11_chance 30 = .ok (.iload_n 1, 1) := by decide +kernel
theorem dX11_chance_31 : decode cX11_chance 31 = .ok (.istore 4, 2) := by decide +kernel
theorem dX11_chance_33 : decode cX11_chance 33 = .ok (.iconst 0, 1) := by decide +kernel
theorem dX11_chance_34 : decode cX11_chance 34 = .ok (.istore 5, 2) := by decide +kernel
theorem dX11_chance_36 : decode cX11_chance 36 = .ok (.iconst 0, 1) := by decide +kernel
theorem dX11_chance_37 : decode cX11_chance 37 = .ok (.istore 6, 2) := by decide +kernel
theorem dX11_chance_39 : decode cX11_chance 39 = .ok (.iload 6, 2) := by decide +kernel
theorem dX11_chance_41 : decode cX11_chance 41 = .ok (.bipush 10, 2) := by decide +kernel
theorem dX11_chance_43 : decode cX11_chance 43 = .ok (.if_icmp .ge 67, 3) := by decide +kernel
theorem dX11_chance_46 : decode cX11_chance 46 = .ok (.aload_n 0, 1) := by decide +kernel
theorem dX11_chance_47 : decode cX11_chance 47 = .ok (.iconst 1, 1) := by decide +kernel
theorem dX11_chance_48 : decode cX11_chance 48 = .ok (.iconst 0, 1) := by decide +kernel
theorem dX11_chance_49 : decode cX11_chance 49 = .ok (.invokevirtual 476, 3) := by decide +kernel
theorem dX11_chance_52 : decode cX11_chance 52 = .ok (.aload_n 0, 1) := by decide +kernel
theorem dX11_chance_53 : decode cX11_chance 53 = .ok (.getfield 78, 3) := by decide +kernel
theorem dX11_chance_56 : decode cX11_chance 56 = .ok (.iconst 1, 1) := by decide +kernel
theorem dX11_chance_57 : decode cX11_chance 57 = .ok (.iload 4, 2) := by decide +kernel
theorem dX11_chance_59 : decode cX11_chance 59 = .ok (.iastore, 1) := by decide +kernel
theorem dX11_chance_60 : decode cX11_chance 60 = .ok (.iconst 0, 1) := by decide +kernel
theorem dX11_chance_61 : decode cX11_chance 61 = .ok (.istore 7, 2) := by decide +kernel
theorem dX11_chance_63 : decode cX11_chance 63 = .ok (.iload 7, 2) := by decide +kernel
theorem dX11_chance_65 : decode cX11_chance 65 = .ok (.iload_n 2, 1) := by decide +kernel
theorem dX11_chance_66 : decode cX11_chance 66 = .ok (.if_icmp .ge 15, 3) := by decide +kernel
theorem dX11_chance_69 : decode cX11_chance 69 = .ok (.aload_n 0, 1) := by decide +kernel
theorem dX11_chance_70 : decode cX11_chance 70 = .ok (.iconst 1, 1) := by decide +kernel
theorem dX11_chance_71 : decode cX11_chance 71 = .ok (.iconst 1, 1) := by decide +kernel
theorem dX11_chance_72 : decode cX11_chance 72 = .ok (.invokevirtual 456, 3) := by decide +kernel
theorem dX11_chance_75 : decode cX11_chance 75 = .ok (.iinc 7 1, 3) := by decide +kernel
theorem dX11_chance_78 : decode cX11_chance 78 = .ok (.goto (-15), 3) := by decide +kernel
theorem dX11_chance_81 : decode cX11_chance 81 = .ok (.aload_n 0, 1) := by decide +kernel
theorem dX11_chance_82 : decode cX11_chance 82 = .ok (.getfield 78, 3) := by decide +kernel
theorem dX11_chance_85 : decode cX11_chance 85 = .ok (.iconst 1, 1) := by decide +kernel
theorem dX11_chance_86 : decode cX11_chance 86 = .ok (.iaload, 1) := by decide +kernel
theorem dX11_chance_87 : decode cX11_chance 87 = .ok (.istore 4, 2) := by decide +kernel
theorem dX11_chance_89 : decode cX11_chance 89 = .ok (.iload 5, 2) := by decide +kernel
theorem dX11_chance_91 : decode cX11_chance 91 = .ok (.aload_n 0, 1) := by decide +kernel
theorem dX11_chance_92 : decode cX11_chance 92 = .ok (.getfield 87, 3) := by decide +kernel
theorem dX11_chance_95 : decode cX11_chance 95 = .ok (.iconst 1, 1) := by decide +kernel
theorem dX11_chance_96 : decode cX11_chance 96 = .ok (.iaload, 1) := by decide +kernel
theorem dX11_chance_97 : decode cX11_chance 97 = .ok (.iload_n 3, 1) := by decide +kernel
theorem dX11_chance_98 : decode cX11_chance 98 = .ok (.ishr, 1) := by decide +kernel
theorem dX11_chance_99 : decode cX11_chance 99 = .ok (.iconst 1, 1) := by decide +kernel
theorem dX11_chance_100 : decode cX11_chance 100 = .ok (.iand, 1) := by decide +kernel
theorem dX11_chance_101 : decode cX11_chance 101 = .ok (.iadd, 1) := by decide +kernel
theorem dX11_chance_102 : decode cX11_chance 102 = .ok (.istore 5, 2) := by decide +kernel
theorem dX11_chance_104 : decode cX11_chance 104 = .ok (.iinc 6 1, 3) := by decide +kernel
theorem dX11_chance_107 : decode cX11_chance 107 = .ok (.goto (-68), 3) := by decide +kernel
theorem dX11_chance_110 : decode cX11_chance 110 = .ok (.iload 5, 2) := by decide +kernel
theorem dX11_chance_112 : decode cX11_chance 112 = .ok (.ireturn, 1) := by decide +kernel
theorem dX11_tried_0 : decode cX11_tried 0 = .ok (.aload_n 0, 1) := by decide +kernel
theorem dX11_tried_1 : decode cX11_tried 1 = .ok (.iconst 0, 1) := by decide +kernel
theorem dX11_tried_2 : decode cX11_tried 2 = .ok (.putfield 128, 3) := by decide +kernel
theorem dX11_tried_5 : decode cX11_tried 5 = .ok (.iload_n 1, 1) := by decide +kernel
theorem dX11_tried_6 : decode cX11_tried 6 = .ok (.iconst 2, 1) := by decide +kernel
theorem dX11_tried_7 : decode cX11_tried 7 = .ok (.if_icmp .ne 11, 3) := by decide +kernel
theorem dX11_tried_10 : decode cX11_tried 10 = .ok (.aload_n 0, 1) := by decide +kernel
theorem dX11_tried_11 : decode cX11_tried 11 = .ok (.iload_n 2, 1) := by decide +kernel
theorem dX11_tried_12 : decode cX11_tried 12 = .ok (.invokevirtual 460, 3) := by decide +kernel
theorem dX11_tried_15 : decode cX11_tried 15 = .ok (.goto 21, 3) := by decide +kernel
theorem dX11_tried_18 : decode cX11_tried 18 = .ok (.iload_n 1, 1) := by decide +kernel
theorem dX11_tried_19 : decode cX11_tried 19 = .ok (.ifCond .lt 16, 3) := by decide +kernel
theorem dX11_tried_22 : decode cX11_tried 22 = .ok (.iload_n 1, 1) := by decide +kernel
theorem dX11_tried_23 : decode cX11_tried 23 = .ok (.iconst 4, 1) := by decide +kernel
theorem dX11_tried_24 : decode cX11_tried 24 = .ok (.if_icmp .gt 11, 3) := by decide +kernel
theorem dX11_tried_27 : decode cX11_tried 27 = .ok (.iload_n 2, 1) := by decide +kernel
theorem dX11_tried_28 : decode cX11_tried 28 = .ok (.ifCond .ne 7, 3) := by decide +kernel
theorem dX11_tried_31 : decode cX11_tried 31 = .ok (.iconst 1, 1) := by decide +kernel
theorem dX11_tried_32 : decode cX11_tried 32 = .ok (.goto 4, 3) := by decide +kernel
theorem dX11_tried_35 : decode cX11_tried 35 = .ok (.iconst 0, 1) := by decide +kernel
theorem dX11_tried_36 : decode cX11_tried 36 = .ok (.istore 4, 2) := by decide +kernel
theorem dX11_tried_38 : decode cX11_tried 38 = .ok (.iload 4, 2) := by decide +kernel
theorem dX11_tried_40 : decode cX11_tried 40 = .ok (.ifCond .eq 14, 3) := by decide +kernel
theorem dX11_tried_43 : decode cX11_tried 43 = .ok (.iload_n 3, 1) := by decide +kernel
theorem dX11_tried_44 : decode cX11_tried 44 = .ok (.ifCond .lt 10, 3) := by decide +kernel
theorem dX11_tried_47 : decode cX11_tried 47 = .ok (.iload_n 3, 1) := by decide +kernel
theorem dX11_tried_48 : decode cX11_tried 48 = .ok (.sipush 200, 3) := by decide +kernel
theorem dX11_tried_51 : decode cX11_tried 51 = .ok (.if_icmp .le 5, 3) := by decide +kernel
theorem dX11_tried_54 : decode cX11_tried 54 = .ok (.iconst (-1), 1) := by decide +kernel
theorem dX11_tried_55 : decode cX11_tried 55 = .ok (.ireturn, 1) := by decide +kernel
theorem dX11_tried_56 : decode cX11_tried 56 = .ok (.aload_n 0, 1) := by decide +kernel
theorem dX11_tried_57 : decode cX11_tried 57 = .ok (.iconst 1, 1) := by decide +kernel
theorem dX11_tried_58 : decode cX11_tried 58 = .ok (.iconst 0, 1) := by decide +kernel
theorem dX11_tried_59 : decode cX11_tried 59 = .ok (.invokevirtual 476, 3) := by decide +kernel
theorem dX11_tried_62 : decode cX11_tried 62 = .ok (.iconst 0, 1) := by decide +kernel
theorem dX11_tried_63 : decode cX11_tried 63 = .ok (.istore 5, 2) := by decide +kernel
theorem dX11_tried_65 : decode cX11_tried 65 = .ok (.iload 5, 2) := by decide +kernel
theorem dX11_tried_67 : decode cX11_tried 67 = .ok (.aload_n 0, 1) := by decide +kernel
theorem dX11_tried_68 : decode cX11_tried 68 = .ok (.getfield 13, 3) := by decide +kernel
theorem dX11_tried_71 : decode cX11_tried 71 = .ok (.iconst 1, 1) := by decide +kernel
theorem dX11_tried_72 : decode cX11_tried 72 = .ok (.iaload, 1) := by decide +kernel
theorem dX11_tried_73 : decode cX11_tried 73 = .ok (.if_icmp .ge 41, 3) := by decide +kernel
theorem dX11_tried_76 : decode cX11_tried 76 = .ok (.iload_n 1, 1) := by decide +kernel
theorem dX11_tried_77 : decode cX11_tried 77 = .ok (.iconst 4, 1) := by decide +kernel
theorem dX11_tried_78 : decode cX11_tried 78 = .ok (.if_icmp .ne 36, 3) := by decide +kernel
theorem dX11_tried_81 : decode cX11_tried 81 = .ok (.aload_n 0, 1) := by decide +kernel
theorem dX11_tried_82 : decode cX11_tried 82 = .ok (.getfield 90, 3) := by decide +kernel
theorem dX11_tried_85 : decode cX11_tried 85 = .ok (.bipush 6, 2) := by decide +kernel
theorem dX11_tried_87 : decode cX11_tried 87 = .ok (.iload 5, 2) := by decide +kernel
theorem dX11_tried_89 : decode cX11_tried 89 = .ok (.iadd, 1) := by decide +kernel
theorem dX11_tried_90 : decode cX11_tried 90 = .ok (.iconst 1, 1) := by decide +kernel
theorem dX11_tried_91 : decode cX11_tried 91 = .ok (.aload_n 0, 1) := by decide +kernel
theorem dX11_tried_92 : decode cX11_tried 92 = .ok (.getfield 13, 3) := by decide +kernel
theorem dX11_tried_95 : decode cX11_tried 95 = .ok (.iconst 1, 1) := by decide +kernel
theorem dX11_tried_96 : decode cX11_tried 96 = .ok (.iaload, 1) := by decide +kernel
theorem dX11_tried_97 : decode cX11_tried 97 = .ok (.ishl, 1) := by decide +kernel
theorem dX11_tried_98 : decode cX11_tried 98 = .ok (.iconst 1, 1) := by decide +kernel
theorem dX11_tried_99 : decode cX11_tried 99 = .ok (.isub, 1) := by decide +kernel
theorem dX11_tried_100 : decode cX11_tried 100 = .ok (.iconst 1, 1) := by decide +kernel
theorem dX11_tried_101 : decode cX11_tried 101 = .ok (.iload 5, 2) := by decide +kernel
theorem dX11_tried_103 : decode cX11_tried 103 = .ok (.ishl, 1) := by decide +kernel
theorem dX11_tried_104 : decode cX11_tried 104 = .ok (.iconst (-1), 1) := by decide +kernel
theorem dX11_tried_105 : decode cX11_tried 105 = .ok (.ixor, 1) := by decide +kernel
theorem dX11_tried_106 : decode cX11_tried 106 = .ok (.iand, 1) := by decide +kernel
theorem dX11_tried_107 : decode cX11_tried 107 = .ok (.iastore, 1) := by decide +kernel
theorem dX11_tried_108 : decode cX11_tried 108 = .ok (.iinc 5 1, 3) := by decide +kernel
theorem dX11_tried_111 : decode cX11_tried 111 = .ok (.goto (-46), 3) := by decide +kernel
theorem dX11_tried_114 : decode cX11_tried 114 = .ok (.aload_n 0, 1) := by decide +kernel
theorem dX11_tried_115 : decode cX11_tried 115 = .ok (.iload_n 1, 1) := by decide +kernel
theorem dX11_tried_116 : decode cX11_tried 116 = .ok (.ifCond .ne 7, 3) := by decide +kernel
theorem dX11_tried_119 : decode cX11_tried 119 = .ok (.iconst 5, 1) := by decide +kernel
theorem dX11_tried_120 : decode cX11_tried 120 = .ok (.goto 4, 3) := by decide +kernel
theorem dX11_tried_123 : decode cX11_tried 123 = .ok (.iload_n 1, 1) := by decide +kernel
theorem dX11_tried_124 : decode cX11_tried 124 = .ok (.putfield 431, 3) := by decide +kernel
theorem dX11_tried_127 : decode cX11_tried 127 = .ok (.aload_n 0, 1) := by decide +kernel
theorem dX11_tried_128 : decode cX11_tried 128 = .ok (.iload_n 2, 1) := by decide +kernel
theorem dX11_tried_129 : decode cX11_tried 129 = .ok (.putfield 122, 3) := by decide +kernel
theorem dX11_tried_132 : decode cX11_tried 132 = .ok (.aload_n 0, 1) := by decide +kernel
theorem dX11_tried_133 : decode cX11_tried 133 = .ok (.iload_n 3, 1) := by decide +kernel
theorem dX11_tried_134 : decode cX11_tried 134 = .ok (.invokevirtual 482, 3) := by decide +kernel
theorem dX11_tried_137 : decode cX11_tried 137 = .ok (.aload_n 0, 1) := by decide +kernel
theorem dX11_tried_138 : decode cX11_tried 138 = .ok (.iconst 0, 1) := by decide +kernel
theorem dX11_tried_139 : decode cX11_tried 139 = .ok (.putfield 431, 3) := by decide +kernel
theorem dX11_tried_142 : decode cX11_tried 142 = .ok (.aload_n 0, 1) := by decide +kernel
theorem dX11_tried_143 : decode cX11_tried 143 = .ok (.iconst (-1), 1) := by decide +kernel
theorem dX11_tried_144 : decode cX11_tried 144 = .ok (.putfield 122, 3) := by decide +kernel
theorem dX11_tried_147 : decode cX11_tried 147 = .ok (.aload_n 0, 1) := by decide +kernel
theorem dX11_tried_148 : decode cX11_tried 148 = .ok (.iconst 1, 1) := by decide +kernel
theorem dX11_tried_149 : decode cX11_tried 149 = .ok (.invokevirtual 401, 3) := by decide +kernel
theorem dX11_tried_152 : decode cX11_tried 152 = .ok (.ireturn, 1) := by decide +kernel
theorem dX11_undo_0 : decode cX11_undo 0 = .ok (.aload_n 0, 1) := by decide +kernel
theorem dX11_undo_1 : decode cX11_undo 1 = .ok (.iconst 0, 1) := by decide +kernel
theorem dX11_undo_2 : decode cX11_undo 2 = .ok (.putfield 128, 3) := by decide +kernel
theorem dX11_undo_5 : decode cX11_undo 5 = .ok (.aload_n 0, 1) := by decide +kernel
theorem dX11_undo_6 : decode cX11_undo 6 = .ok (.getfield 312, 3) := by decide +kernel
theorem dX11_undo_9 : decode cX11_undo 9 = .ok (.ifCond .ne 5, 3) := by decide +kernel
theorem dX11_undo_12 : decode cX11_undo 12 = .ok (.iconst (-1), 1) := by decide +kernel
theorem dX11_undo_13 : decode cX11_undo 13 = .ok (.ireturn, 1) := by decide +kernel
theorem dX11_undo_14 : decode cX11_undo 14 = .ok (.aload_n 0, 1) := by decide +kernel
theorem dX11_undo_15 : decode cX11_undo 15 = .ok (.dup, 1) := by decide +kernel
theorem dX11_undo_16 : decode cX11_undo 16 = .ok (.getfield 312, 3) := by decide +kernel
theorem dX11_undo_19 : decode cX11_undo 19 = .ok (.iconst 1, 1) := by decide +kernel
theorem dX11_undo_20 : decode cX11_undo 20 = .ok (.isub, 1) := by decide +kernel
theorem dX11_undo_21 : decode cX11_undo 21 = .ok (.putfield 312, 3) := by decide +kernel
theorem dX11_undo_24 : decode cX11_undo 24 = .ok (.aload_n 0, 1) := by decide +kernel
theorem dX11_undo_25 : decode cX11_undo 25 = .ok (.iconst 0, 1) := by decide +kernel
theorem dX11_undo_26 : decode cX11_undo 26 = .ok (.iconst 3, 1) := by decide +kernel
theorem dX11_undo_27 : decode cX11_undo 27 = .ok (.aload_n 0, 1) := by decide +kernel
theorem dX11_undo_28 : decode cX11_undo 28 = .ok (.getfield 312, 3) := by decide +kernel
theorem dX11_undo_31 : decode cX11_undo 31 = .ok (.iadd, 1) := by decide +kernel
theorem dX11_undo_32 : decode cX11_undo 32 = .ok (.invokevirtual 476, 3) := by decide +kernel
theorem dX11_undo_35 : decode cX11_undo 35 = .ok (.aload_n 0, 1) := by decide +kernel
theorem dX11_undo_36 : decode cX11_undo 36 = .ok (.getfield 312, 3) := by decide +kernel
theorem dX11_undo_39 : decode cX11_undo 39 = .ok (.ireturn, 1) := by decide +kernel
theorem dX11_keep_0 : decode cX11_keep 0 = .ok (.aload_n 0, 1) := by decide +kernel
theorem dX11_keep_1 : decode cX11_keep 1 = .ok (.iconst 0, 1) := by decide +kernel
theorem dX11_keep_2 : decode cX11_keep 2 = .ok (.putfield 128, 3) := by decide +kernel
theorem dX11_keep_5 : decode cX11_keep 5 = .ok (.aload_n 0, 1) := by decide +kernel
theorem dX11_keep_6 : decode cX11_keep 6 = .ok (.iconst 2, 1) := by decide +kernel
theorem dX11_keep_7 : decode cX11_keep 7 = .ok (.iconst 0, 1) := by decide +kernel
theorem dX11_keep_8 : decode cX11_keep 8 = .ok (.invokevirtual 476, 3) := by decide +kernel
theorem dX11_keep_11 : decode cX11_keep 11 = .ok (.aload_n 0, 1) := by decide +kernel
theorem dX11_keep_12 : decode cX11_keep 12 = .ok (.iconst 1, 1) := by decide +kernel
theorem dX11_keep_13 : decode cX11_keep 13 = .ok (.putfield 308, 3) := by decide +kernel
theorem dX11_keep_16 : decode cX11_keep 16 = .ok (.aload_n 0, 1) := by decide +kernel
theorem dX11_keep_17 : decode cX11_keep 17 = .ok (.getfield 75, 3) := by decide +kernel
theorem dX11_keep_20 : decode cX11_keep 20 = .ok (.iconst 0, 1) := by decide +kernel
theorem dX11_keep_21 : decode cX11_keep 21 = .ok (.iaload, 1) := by decide +kernel
theorem dX11_keep_22 : decode cX11_keep 22 = .ok (.ireturn, 1) := by decide +kernel
theorem dX11_back_0 : decode cX11_back 0 = .ok (.aload_n 0, 1) := by decide +kernel
theorem dX11_back_1 : decode cX11_back 1 = .ok (.iconst 0, 1) := by decide +kernel
theorem dX11_back_2 : decode cX11_back 2 = .ok (.putfield 128, 3) := by decide +kernel
theorem dX11_back_5 : decode cX11_back 5 = .ok (.aload_n 0, 1) := by decide +kernel
theorem dX11_back_6 : decode cX11_back 6 = .ok (.getfield 308, 3) := by decide +kernel
theorem dX11_back_9 : decode cX11_back 9 = .ok (.ifCond .ne 5, 3) := by decide +kernel
theorem dX11_back_12 : decode cX11_back 12 = .ok (.iconst (-1), 1) := by decide +kernel
theorem dX11_back_13 : decode cX11_back 13 = .ok (.ireturn, 1) := by decide +kernel
theorem dX11_back_14 : decode cX11_back 14 = .ok (.aload_n 0, 1) := by decide +kernel
theorem dX11_back_15 : decode cX11_back 15 = .ok (.iconst 0, 1) := by decide +kernel
theorem dX11_back_16 : decode cX11_back 16 = .ok (.iconst 2, 1) := by decide +kernel
theorem dX11_back_17 : decode cX11_back 17 = .ok (.invokevirtual 476, 3) := by decide +kernel
theorem dX11_back_20 : decode cX11_back 20 = .ok (.aload_n 0, 1) := by decide +kernel
theorem dX11_back_21 : decode cX11_back 21 = .ok (.iconst 0, 1) := by decide +kernel
theorem dX11_back_22 : decode cX11_back 22 = .ok (.putfield 312, 3) := by decide +kernel
theorem dX11_back_25 : decode cX11_back 25 = .ok (.aload_n 0, 1) := by decide +kernel
theorem dX11_back_26 : decode cX11_back 26 = .ok (.getfield 75, 3) := by decide +kernel
theorem dX11_back_29 : decode cX11_back 29 = .ok (.iconst 0, 1) := by decide +kernel
theorem dX11_back_30 : decode cX11_back 30 = .ok (.iaload, 1) := by decide +kernel
theorem dX11_back_31 : decode cX11_back 31 = .ok (.ireturn, 1) := by decide +kernel
theorem dX11_prizes_0 : decode cX11_prizes 0 = .ok (.iconst 0, 1) := by decide +kernel
theorem dX11_prizes_1 : decode cX11_prizes 1 = .ok (.istore_n 1, 1) := by decide +kernel
theorem dX11_prizes_2 : decode cX11_prizes 2 = .ok (.iconst 0, 1) := by decide +kernel
theorem dX11_prizes_3 : decode cX11_prizes 3 = .ok (.istore_n 2, 1) := by decide +kernel
theorem dX11_prizes_4 : decode cX11_prizes 4 = .ok (.iload_n 2, 1) := by decide +kernel
theorem dX11_prizes_5 : decode cX11_prizes 5 = .ok (.bipush 6, 2) := by decide +kernel
theorem dX11_prizes_7 : decode cX11_prizes 7 = .ok (.if_icmp .ge 18, 3) := by decide +kernel
theorem dX11_prizes_10 : decode cX11_prizes 10 = .ok (.iload_n 1, 1) := by decide +kernel
theorem dX11_prizes_11 : decode cX11_prizes 11 = .ok (.aload_n 0, 1) := by decide +kernel
theorem dX11_prizes_12 : decode cX11_prizes 12 = .ok (.getfield 93, 3) := by decide +kernel
theorem dX11_prizes_15 : decode cX11_prizes 15 = .ok (.iload_n 2, 1) := by decide +kernel
theorem dX11_prizes_16 : decode cX11_prizes 16 = .ok (.iaload, 1) := by decide +kernel
theorem dX11_prizes_17 : decode cX11_prizes 17 = .ok (.iadd, 1) := by decide +kernel
theorem dX11_prizes_18 : decode cX11_prizes 18 = .ok (.istore_n 1, 1) := by decide +kernel
theorem dX11_prizes_19 : decode cX11_prizes 19 = .ok (.iinc 2 1, 3) := by decide +kernel
theorem dX11_prizes_22 : decode cX11_prizes 22 = .ok (.goto (-18), 3) := by decide +kernel
theorem dX11_prizes_25 : decode cX11_prizes 25 = .ok (.iload_n 1, 1) := by decide +kernel
theorem dX11_prizes_26 : decode cX11_prizes 26 = .ok (.ireturn, 1) := by decide +kernel
theorem dX11_knowMany_0 : decode cX11_knowMany 0 = .ok (.aload_n 0, 1) := by decide +kernel
theorem dX11_knowMany_1 : decode cX11_knowMany 1 = .ok (.iconst 0, 1) := by decide +kernel
theorem dX11_knowMany_2 : decode cX11_knowMany 2 = .ok (.invokevirtual 428, 3) := by decide +kernel
theorem dX11_knowMany_5 : decode cX11_knowMany 5 = .ok (.aload_n 0, 1) := by decide +kernel
theorem dX11_knowMany_6 : decode cX11_knowMany 6 = .ok (.invokevirtual 407, 3) := by decide +kernel
theorem dX11_knowMany_9 : decode cX11_knowMany 9 = .ok (.invokestatic 404, 3) := by decide +kernel
theorem dX11_knowMany_12 : decode cX11_knowMany 12 = .ok (.ireturn, 1) := by decide +kernel
theorem dX11_count_0 : decode cX11_count 0 = .ok (.aload_n 0, 1) := by decide +kernel
theorem dX11_count_1 : decode cX11_count 1 = .ok (.iconst 0, 1) := by decide +kernel
theorem dX11_count_2 : decode cX11_count 2 = .ok (.putfield 128, 3) := by decide +kernel
theorem dX11_count_5 : decode cX11_count 5 = .ok (.iload_n 1, 1) := by decide +kernel
theorem dX11_count_6 : decode cX11_count 6 = .ok (.tableswitch 165 0 13 #[70, 77, 84, 91, 98, 105, 113, 120, 126, 131, 141, 146, 153, 160], 70) := by decide +kernel
theorem dX11_count_76 : decode cX11_count 76 = .ok (.aload_n 0, 1) := by decide +kernel
theorem dX11_count_77 : decode cX11_count 77 = .ok (.getfield 13, 3) := by decide +kernel
theorem dX11_count_80 : decode cX11_count 80 = .ok (.iconst 0, 1) := by decide +kernel
theorem dX11_count_81 : decode cX11_count 81 = .ok (.iaload, 1) := by decide +kernel
theorem dX11_count_82 : decode cX11_count 82 = .ok (.ireturn, 1) := by decide +kernel
theorem dX11_count_83 : decode cX11_count 83 = .ok (.aload_n 0, 1) := by decide +kernel
theorem dX11_count_84 : decode cX11_count 84 = .ok (.getfield 13, 3) := by decide +kernel
theorem dX11_count_87 : decode cX11_count 87 = .ok (.iconst 1, 1) := by decide +kernel
theorem dX11_count_88 : decode cX11_count 88 = .ok (.iaload, 1) := by decide +kernel
theorem dX11_count_89 : decode cX11_count 89 = .ok (.ireturn, 1) := by decide +kernel
theorem dX11_count_90 : decode cX11_count 90 = .ok (.aload_n 0, 1) := by decide +kernel
theorem dX11_count_91 : decode cX11_count 91 = .ok (.getfield 13, 3) := by decide +kernel
theorem dX11_count_94 : decode cX11_count 94 = .ok (.iconst 2, 1) := by decide +kernel
theorem dX11_count_95 : decode cX11_count 95 = .ok (.iaload, 1) := by decide +kernel
theorem dX11_count_96 : decode cX11_count 96 = .ok (.ireturn, 1) := by decide +kernel
theorem dX11_count_97 : decode cX11_count 97 = .ok (.aload_n 0, 1) := by decide +kernel
theorem dX11_count_98 : decode cX11_count 98 = .ok (.getfield 13, 3) := by decide +kernel
theorem dX11_count_101 : decode cX11_count 101 = .ok (.iconst 3, 1) := by decide +kernel
theorem dX11_count_102 : decode cX11_count 102 = .ok (.iaload, 1) := by decide +kernel
theorem dX11_count_103 : decode cX11_count 103 = .ok (.ireturn, 1) := by decide +kernel
theorem dX11_count_104 : decode cX11_count 104 = .ok (.aload_n 0, 1) := by decide +kernel
theorem dX11_count_105 : decode cX11_count 105 = .ok (.getfield 13, 3) := by decide +kernel
theorem dX11_count_108 : decode cX11_count 108 = .ok (.iconst 4, 1) := by decide +kernel
theorem dX11_count_109 : decode cX11_count 109 = .ok (.iaload, 1) := by decide +kernel
theorem dX11_count_110 : decode cX11_count 110 = .ok (.ireturn, 1) := by decide +kernel
theorem dX11_count_111 : decode cX11_count 111 = .ok (.aload_n 0, 1) := by decide +kernel
theorem dX11_count_112 : decode cX11_count 112 = .ok (.getfield 13, 3) := by decide +kernel
theorem dX11_count_115 : decode cX11_count 115 = .ok (.bipush 7, 2) := by decide +kernel
theorem dX11_count_117 : decode cX11_count 117 = .ok (.iaload, 1) := by decide +kernel
theorem dX11_count_118 : decode cX11_count 118 = .ok (.ireturn, 1) := by decide +kernel
theorem dX11_count_119 : decode cX11_count 119 = .ok (.aload_n 0, 1) := by decide +kernel
theorem dX11_count_120 : decode cX11_count 120 = .ok (.getfield 75, 3) := by decide +kernel
theorem dX11_count_123 : decode cX11_count 123 = .ok (.iconst 0, 1) := by decide +kernel
theorem dX11_count_124 : decode cX11_count 124 = .ok (.iaload, 1) := by decide +kernel
theorem dX11_count_125 : decode cX11_count 125 = .ok (.ireturn, 1) := by decide +kernel
theorem dX11_count_126 : decode cX11_count 126 = .ok (.aload_n 0, 1) := by decide +kernel
theorem dX11_count_127 : decode cX11_count 127 = .ok (.iconst 0, 1) := by decide +kernel
theorem dX11_count_128 : decode cX11_count 128 = .ok (.invokevirtual 401, 3) := by decide +kernel
theorem dX11_count_131 : decode cX11_count 131 = .ok (.ireturn, 1) := by decide +kernel
theorem dX11_count_132 : decode cX11_count 132 = .ok (.aload_n 0, 1) := by decide +kernel
theorem dX11_count_133 : decode cX11_count 133 = .ok (.invokevirtual 518, 3) := by decide +kernel
theorem dX11_count_136 : decode cX11_count 136 = .ok (.ireturn, 1) := by decide +kernel
theorem dX11_count_137 : decode cX11_count 137 = .ok (.aload_n 0, 1) := by decide +kernel
theorem dX11_count_138 : decode cX11_count 138 = .ok (.getfield 87, 3) := by decide +kernel
theorem dX11_count_141 : decode cX11_count 141 = .ok (.iconst 0, 1) := by decide +kernel
theorem dX11_count_142 : decode cX11_count 142 = .ok (.iaload, 1) := by decide +kernel
theorem dX11_count_143 : decode cX11_count 143 = .ok (.invokestatic 404, 3) := by decide +kernel
theorem dX11_count_146 : decode cX11_count 146 = .ok (.ireturn, 1) := by decide +kernel
theorem dX11_count_147 : decode cX11_count 147 = .ok (.aload_n 0, 1) := by decide +kernel
theorem dX11_count_148 : decode cX11_count 148 = .ok (.invokevirtual 521, 3) := by decide +kernel
theorem dX11_count_151 : decode cX11_count 151 = .ok (.ireturn, 1) := by decide +kernel
theorem dX11_count_152 : decode cX11_count 152 = .ok (.aload_n 0, 1) := by decide +kernel
theorem dX11_count_153 : decode cX11_count 153 = .ok (.getfield 81, 3) := by decide +kernel
theorem dX11_count_156 : decode cX11_count 156 = .ok (.iconst 0, 1) := by decide +kernel
theorem dX11_count_157 : decode cX11_count 157 = .ok (.iaload, 1) := by decide +kernel
theorem dX11_count_158 : decode cX11_count 158 = .ok (.ireturn, 1) := by decide +kernel
theorem dX11_count_159 : decode cX11_count 159 = .ok (.aload_n 0, 1) := by decide +kernel
theorem dX11_count_160 : decode cX11_count 160 = .ok (.getfield 84, 3) := by decide +kernel
theorem dX11_count_163 : decode cX11_count 163 = .ok (.iconst 0, 1) := by decide +kernel
theorem dX11_count_164 : decode cX11_count 164 = .ok (.iaload, 1) := by decide +kernel
theorem dX11_count_165 : decode cX11_count 165 = .ok (.ireturn, 1) := by decide +kernel
theorem dX11_count_166 : decode cX11_count 166 = .ok (.aload_n 0, 1) := by decide +kernel
theorem dX11_count_167 : decode cX11_count 167 = .ok (.getfield 312, 3) := by decide +kernel
theorem dX11_count_170 : decode cX11_count 170 = .ok (.ireturn, 1) := by decide +kernel
theorem dX11_count_171 : decode cX11_count 171 = .ok (.iconst (-1), 1) := by decide +kernel
theorem dX11_count_172 : decode cX11_count 172 = .ok (.ireturn, 1) := by decide +kernel
theorem dJ6_bitCount_0f7a4_0 : decode cJ6_bitCount_0f7a4 0 = .ok (.iload_n 0, 1) := by decide +kernel
theorem dJ6_bitCount_0f7a4_1 : decode cJ6_bitCount_0f7a4 1 = .ok (.iload_n 0, 1) := by decide +kernel
theorem dJ6_bitCount_0f7a4_2 : decode cJ6_bitCount_0f7a4 2 = .ok (.iconst 1, 1) := by decide +kernel
theorem dJ6_bitCount_0f7a4_3 : decode cJ6_bitCount_0f7a4 3 = .ok (.iushr, 1) := by decide +kernel
theorem dJ6_bitCount_0f7a4_4 : decode cJ6_bitCount_0f7a4 4 = .ok (.ldc_w 265, 3) := by decide +kernel
theorem dJ6_bitCount_0f7a4_7 : decode cJ6_bitCount_0f7a4 7 = .ok (.iand, 1) := by decide +kernel
theorem dJ6_bitCount_0f7a4_8 : decode cJ6_bitCount_0f7a4 8 = .ok (.isub, 1) := by decide +kernel
theorem dJ6_bitCount_0f7a4_9 : decode cJ6_bitCount_0f7a4 9 = .ok (.istore_n 0, 1) := by decide +kernel
theorem dJ6_bitCount_0f7a4_10 : decode cJ6_bitCount_0f7a4 10 = .ok (.iload_n 0, 1) := by decide +kernel
theorem dJ6_bitCount_0f7a4_11 : decode cJ6_bitCount_0f7a4 11 = .ok (.ldc_w 266, 3) := by decide +kernel
theorem dJ6_bitCount_0f7a4_14 : decode cJ6_bitCount_0f7a4 14 = .ok (.iand, 1) := by decide +kernel
theorem dJ6_bitCount_0f7a4_15 : decode cJ6_bitCount_0f7a4 15 = .ok (.iload_n 0, 1) := by decide +kernel
theorem dJ6_bitCount_0f7a4_16 : decode cJ6_bitCount_0f7a4 16 = .ok (.iconst 2, 1) := by decide +kernel
theorem dJ6_bitCount_0f7a4_17 : decode cJ6_bitCount_0f7a4 17 = .ok (.iushr, 1) := by decide +kernel
theorem dJ6_bitCount_0f7a4_18 : decode cJ6_bitCount_0f7a4 18 = .ok (.ldc_w 266, 3) := by decide +kernel
theorem dJ6_bitCount_0f7a4_21 : decode cJ6_bitCount_0f7a4 21 = .ok (.iand, 1) := by decide +kernel
theorem dJ6_bitCount_0f7a4_22 : decode cJ6_bitCount_0f7a4 22 = .ok (.iadd, 1) := by decide +kernel
theorem dJ6_bitCount_0f7a4_23 : decode cJ6_bitCount_0f7a4 23 = .ok (.istore_n 0, 1) := by decide +kernel
theorem dJ6_bitCount_0f7a4_24 : decode cJ6_bitCount_0f7a4 24 = .ok (.iload_n 0, 1) := by decide +kernel
theorem dJ6_bitCount_0f7a4_25 : decode cJ6_bitCount_0f7a4 25 = .ok (.iload_n 0, 1) := by decide +kernel
theorem dJ6_bitCount_0f7a4_26 : decode cJ6_bitCount_0f7a4 26 = .ok (.iconst 4, 1) := by decide +kernel
theorem dJ6_bitCount_0f7a4_27 : decode cJ6_bitCount_0f7a4 27 = .ok (.iushr, 1) := by decide +kernel
theorem dJ6_bitCount_0f7a4_28 : decode cJ6_bitCount_0f7a4 28 = .ok (.iadd, 1) := by decide +kernel
theorem dJ6_bitCount_0f7a4_29 : decode cJ6_bitCount_0f7a4 29 = .ok (.ldc_w 267, 3) := by decide +kernel
theorem dJ6_bitCount_0f7a4_32 : decode cJ6_bitCount_0f7a4 32 = .ok (.iand, 1) := by decide +kernel
theorem dJ6_bitCount_0f7a4_33 : decode cJ6_bitCount_0f7a4 33 = .ok (.istore_n 0, 1) := by decide +kernel
theorem dJ6_bitCount_0f7a4_34 : decode cJ6_bitCount_0f7a4 34 = .ok (.iload_n 0, 1) := by decide +kernel
theorem dJ6_bitCount_0f7a4_35 : decode cJ6_bitCount_0f7a4 35 = .ok (.iload_n 0, 1) := by decide +kernel
theorem dJ6_bitCount_0f7a4_36 : decode cJ6_bitCount_0f7a4 36 = .ok (.bipush 8, 2) := by decide +kernel
theorem dJ6_bitCount_0f7a4_38 : decode cJ6_bitCount_0f7a4 38 = .ok (.iushr, 1) := by decide +kernel
theorem dJ6_bitCount_0f7a4_39 : decode cJ6_bitCount_0f7a4 39 = .ok (.iadd, 1) := by decide +kernel
theorem dJ6_bitCount_0f7a4_40 : decode cJ6_bitCount_0f7a4 40 = .ok (.istore_n 0, 1) := by decide +kernel
theorem dJ6_bitCount_0f7a4_41 : decode cJ6_bitCount_0f7a4 41 = .ok (.iload_n 0, 1) := by decide +kernel
theorem dJ6_bitCount_0f7a4_42 : decode cJ6_bitCount_0f7a4 42 = .ok (.iload_n 0, 1) := by decide +kernel
theorem dJ6_bitCount_0f7a4_43 : decode cJ6_bitCount_0f7a4 43 = .ok (.bipush 16, 2) := by decide +kernel
theorem dJ6_bitCount_0f7a4_45 : decode cJ6_bitCount_0f7a4 45 = .ok (.iushr, 1) := by decide +kernel
theorem dJ6_bitCount_0f7a4_46 : decode cJ6_bitCount_0f7a4 46 = .ok (.iadd, 1) := by decide +kernel
theorem dJ6_bitCount_0f7a4_47 : decode cJ6_bitCount_0f7a4 47 = .ok (.istore_n 0, 1) := by decide +kernel
theorem dJ6_bitCount_0f7a4_48 : decode cJ6_bitCount_0f7a4 48 = .ok (.iload_n 0, 1) := by decide +kernel
theorem dJ6_bitCount_0f7a4_49 : decode cJ6_bitCount_0f7a4 49 = .ok (.bipush 63, 2) := by decide +kernel
theorem dJ6_bitCount_0f7a4_51 : decode cJ6_bitCount_0f7a4 51 = .ok (.iand, 1) := by decide +kernel
theorem dJ6_bitCount_0f7a4_52 : decode cJ6_bitCount_0f7a4 52 = .ok (.ireturn, 1) := by decide +kernel
theorem dJ9_abs_067f4_0 : decode cJ9_abs_067f4 0 = .ok (.lload_n 0, 1) := by decide +kernel
theorem dJ9_abs_067f4_1 : decode cJ9_abs_067f4 1 = .ok (.lconst 0, 1) := by decide +kernel
theorem dJ9_abs_067f4_2 : decode cJ9_abs_067f4 2 = .ok (.lcmp, 1) := by decide +kernel
theorem dJ9_abs_067f4_3 : decode cJ9_abs_067f4 3 = .ok (.ifCond .ge 8, 3) := by decide +kernel
theorem dJ9_abs_067f4_6 : decode cJ9_abs_067f4 6 = .ok (.lload_n 0, 1) := by decide +kernel
theorem dJ9_abs_067f4_7 : decode cJ9_abs_067f4 7 = .ok (.lneg, 1) := by decide +kernel
theorem dJ9_abs_067f4_8 : decode cJ9_abs_067f4 8 = .ok (.goto 4, 3) := by decide +kernel
theorem dJ9_abs_067f4_11 : decode cJ9_abs_067f4 11 = .ok (.lload_n 0, 1) := by decide +kernel
theorem dJ9_abs_067f4_12 : decode cJ9_abs_067f4 12 = .ok (.lreturn, 1) := by decide +kernel
theorem dJ9_max_7cf53_0 : decode cJ9_max_7cf53 0 = .ok (.iload_n 0, 1) := by decide +kernel
theorem dJ9_max_7cf53_1 : decode cJ9_max_7cf53 1 = .ok (.iload_n 1, 1) := by decide +kernel
theorem dJ9_max_7cf53_2 : decode cJ9_max_7cf53 2 = .ok (.if_icmp .lt 7, 3) := by decide +kernel
theorem dJ9_max_7cf53_5 : decode cJ9_max_7cf53 5 = .ok (.iload_n 0, 1) := by decide +kernel
theorem dJ9_max_7cf53_6 : decode cJ9_max_7cf53 6 = .ok (.goto 4, 3) := by decide +kernel
theorem dJ9_max_7cf53_9 : decode cJ9_max_7cf53 9 = .ok (.iload_n 1, 1) := by decide +kernel
theorem dJ9_max_7cf53_10 : decode cJ9_max_7cf53 10 = .ok (.ireturn, 1) := by decide +kernel
theorem dJ9_max_f86c9_0 : decode cJ9_max_f86c9 0 = .ok (.lload_n 0, 1) := by decide +kernel
theorem dJ9_max_f86c9_1 : decode cJ9_max_f86c9 1 = .ok (.lload_n 2, 1) := by decide +kernel
theorem dJ9_max_f86c9_2 : decode cJ9_max_f86c9 2 = .ok (.lcmp, 1) := by decide +kernel
theorem dJ9_max_f86c9_3 : decode cJ9_max_f86c9 3 = .ok (.ifCond .lt 7, 3) := by decide +kernel
theorem dJ9_max_f86c9_6 : decode cJ9_max_f86c9 6 = .ok (.lload_n 0, 1) := by decide +kernel
theorem dJ9_max_f86c9_7 : decode cJ9_max_f86c9 7 = .ok (.goto 4, 3) := by decide +kernel
theorem dJ9_max_f86c9_10 : decode cJ9_max_f86c9 10 = .ok (.lload_n 2, 1) := by decide +kernel
theorem dJ9_max_f86c9_11 : decode cJ9_max_f86c9 11 = .ok (.lreturn, 1) := by decide +kernel
theorem dJ9_min_7cf53_0 : decode cJ9_min_7cf53 0 = .ok (.iload_n 0, 1) := by decide +kernel
theorem dJ9_min_7cf53_1 : decode cJ9_min_7cf53 1 = .ok (.iload_n 1, 1) := by decide +kernel
theorem dJ9_min_7cf53_2 : decode cJ9_min_7cf53 2 = .ok (.if_icmp .gt 7, 3) := by decide +kernel
theorem dJ9_min_7cf53_5 : decode cJ9_min_7cf53 5 = .ok (.iload_n 0, 1) := by decide +kernel
theorem dJ9_min_7cf53_6 : decode cJ9_min_7cf53 6 = .ok (.goto 4, 3) := by decide +kernel
theorem dJ9_min_7cf53_9 : decode cJ9_min_7cf53 9 = .ok (.iload_n 1, 1) := by decide +kernel
theorem dJ9_min_7cf53_10 : decode cJ9_min_7cf53 10 = .ok (.ireturn, 1) := by decide +kernel
theorem dJ9_min_f86c9_0 : decode cJ9_min_f86c9 0 = .ok (.lload_n 0, 1) := by decide +kernel
theorem dJ9_min_f86c9_1 : decode cJ9_min_f86c9 1 = .ok (.lload_n 2, 1) := by decide +kernel
theorem dJ9_min_f86c9_2 : decode cJ9_min_f86c9 2 = .ok (.lcmp, 1) := by decide +kernel
theorem dJ9_min_f86c9_3 : decode cJ9_min_f86c9 3 = .ok (.ifCond .gt 7, 3) := by decide +kernel
theorem dJ9_min_f86c9_6 : decode cJ9_min_f86c9 6 = .ok (.lload_n 0, 1) := by decide +kernel
theorem dJ9_min_f86c9_7 : decode cJ9_min_f86c9 7 = .ok (.goto 4, 3) := by decide +kernel
theorem dJ9_min_f86c9_10 : decode cJ9_min_f86c9 10 = .ok (.lload_n 2, 1) := by decide +kernel
theorem dJ9_min_f86c9_11 : decode cJ9_min_f86c9 11 = .ok (.lreturn, 1) := by decide +kernel
theorem dJ0_length_8abf5_0 : decode cJ0_length_8abf5 0 = .ok (.aload_n 0, 1) := by decide +kernel
theorem dJ0_length_8abf5_1 : decode cJ0_length_8abf5 1 = .ok (.getfield 9, 3) := by decide +kernel
theorem dJ0_length_8abf5_4 : decode cJ0_length_8abf5 4 = .ok (.arraylength, 1) := by decide +kernel
theorem dJ0_length_8abf5_5 : decode cJ0_length_8abf5 5 = .ok (.aload_n 0, 1) := by decide +kernel
theorem dJ0_length_8abf5_6 : decode cJ0_length_8abf5 6 = .ok (.invokevirtual 335, 3) := by decide +kernel
theorem dJ0_length_8abf5_9 : decode cJ0_length_8abf5 9 = .ok (.ishr, 1) := by decide +kernel
theorem dJ0_length_8abf5_10 : decode cJ0_length_8abf5 10 = .ok (.ireturn, 1) := by decide +kernel
theorem dJ0_charAt_5068e_0 : decode cJ0_charAt_5068e 0 = .ok (.aload_n 0, 1) := by decide +kernel
theorem dJ0_charAt_5068e_1 : decode cJ0_charAt_5068e 1 = .ok (.invokevirtual 492, 3) := by decide +kernel
theorem dJ0_charAt_5068e_4 : decode cJ0_charAt_5068e 4 = .ok (.ifCond .eq 12, 3) := by decide +kernel
theorem dJ0_charAt_5068e_7 : decode cJ0_charAt_5068e 7 = .ok (.aload_n 0, 1) := by decide +kernel
theorem dJ0_charAt_5068e_8 : decode cJ0_charAt_5068e 8 = .ok (.getfield 9, 3) := by decide +kernel
theorem dJ0_charAt_5068e_11 : decode cJ0_charAt_5068e 11 = .ok (.iload_n 1, 1) := by decide +kernel
theorem dJ0_charAt_5068e_12 : decode cJ0_charAt_5068e 12 = .ok (.invokestatic 495, 3) := by decide +kernel
theorem dJ0_charAt_5068e_15 : decode cJ0_charAt_5068e 15 = .ok (.ireturn, 1) := by decide +kernel
theorem dJ0_charAt_5068e_16 : decode cJ0_charAt_5068e 16 = .ok (.aload_n 0, 1) := by decide +kernel
theorem dJ0_charAt_5068e_17 : decode cJ0_charAt_5068e 17 = .ok (.getfield 9, 3) := by decide +kernel
theorem dJ0_charAt_5068e_20 : decode cJ0_charAt_5068e 20 = .ok (.iload_n 1, 1) := by decide +kernel
theorem dJ0_charAt_5068e_21 : decode cJ0_charAt_5068e 21 = .ok (.invokestatic 498, 3) := by decide +kernel
theorem dJ0_charAt_5068e_24 : decode cJ0_charAt_5068e 24 = .ok (.ireturn, 1) := by decide +kernel
theorem dJ0_coder_7d493_0 : decode cJ0_coder_7d493 0 = .ok (.getstatic 38, 3) := by decide +kernel
theorem dJ0_coder_7d493_3 : decode cJ0_coder_7d493 3 = .ok (.ifCond .eq 10, 3) := by decide +kernel
theorem dJ0_coder_7d493_6 : decode cJ0_coder_7d493 6 = .ok (.aload_n 0, 1) := by decide +kernel
theorem dJ0_coder_7d493_7 : decode cJ0_coder_7d493 7 = .ok (.getfield 15, 3) := by decide +kernel
theorem dJ0_coder_7d493_10 : decode cJ0_coder_7d493 10 = .ok (.goto 4, 3) := by decide +kernel
theorem dJ0_coder_7d493_13 : decode cJ0_coder_7d493 13 = .ok (.iconst 1, 1) := by decide +kernel
theorem dJ0_coder_7d493_14 : decode cJ0_coder_7d493 14 = .ok (.ireturn, 1) := by decide +kernel
theorem dJ0_isLatin1_aae02_0 : decode cJ0_isLatin1_aae02 0 = .ok (.getstatic 38, 3) := by decide +kernel
theorem dJ0_isLatin1_aae02_3 : decode cJ0_isLatin1_aae02 3 = .ok (.ifCond .eq 14, 3) := by decide +kernel
theorem dJ0_isLatin1_aae02_6 : decode cJ0_isLatin1_aae02 6 = .ok (.aload_n 0, 1) := by decide +kernel
theorem dJ0_isLatin1_aae02_7 : decode cJ0_isLatin1_aae02 7 = .ok (.getfield 15, 3) := by decide +kernel
theorem dJ0_isLatin1_aae02_10 : decode cJ0_isLatin1_aae02 10 = .ok (.ifCond .ne 7, 3) := by decide +kernel
theorem dJ0_isLatin1_aae02_13 : decode cJ0_isLatin1_aae02 13 = .ok (.iconst 1, 1) := by decide +kernel
theorem dJ0_isLatin1_aae02_14 : decode cJ0_isLatin1_aae02 14 = .ok (.goto 4, 3) := by decide +kernel
theorem dJ0_isLatin1_aae02_17 : decode cJ0_isLatin1_aae02 17 = .ok (.iconst 0, 1) := by decide +kernel
theorem dJ0_isLatin1_aae02_18 : decode cJ0_isLatin1_aae02 18 = .ok (.ireturn, 1) := by decide +kernel
theorem dJ0_checkIndex_df160_0 : decode cJ0_checkIndex_df160 0 = .ok (.iload_n 0, 1) := by decide +kernel
theorem dJ0_checkIndex_df160_1 : decode cJ0_checkIndex_df160 1 = .ok (.iload_n 1, 1) := by decide +kernel
theorem dJ0_checkIndex_df160_2 : decode cJ0_checkIndex_df160 2 = .ok (.getstatic 1053, 3) := by decide +kernel
theorem dJ0_checkIndex_df160_5 : decode cJ0_checkIndex_df160 5 = .ok (.invokestatic 1059, 3) := by decide +kernel
theorem dJ0_checkIndex_df160_8 : decode cJ0_checkIndex_df160 8 = .ok (.pop, 1) := by decide +kernel
theorem dJ0_checkIndex_df160_9 : decode cJ0_checkIndex_df160 9 = .ok (.return_, 1) := by decide +kernel
theorem dJ1_charAt_3b067_0 : decode cJ1_charAt_3b067 0 = .ok (.iload_n 1, 1) := by decide +kernel
theorem dJ1_charAt_3b067_1 : decode cJ1_charAt_3b067 1 = .ok (.aload_n 0, 1) := by decide +kernel
theorem dJ1_charAt_3b067_2 : decode cJ1_charAt_3b067 2 = .ok (.arraylength, 1) := by decide +kernel
theorem dJ1_charAt_3b067_3 : decode cJ1_charAt_3b067 3 = .ok (.invokestatic 9, 3) := by decide +kernel
theorem dJ1_charAt_3b067_6 : decode cJ1_charAt_3b067 6 = .ok (.aload_n 0, 1) := by decide +kernel
theorem dJ1_charAt_3b067_7 : decode cJ1_charAt_3b067 7 = .ok (.iload_n 1, 1) := by decide +kernel
theorem dJ1_charAt_3b067_8 : decode cJ1_charAt_3b067 8 = .ok (.baload, 1) := by decide +kernel
theorem dJ1_charAt_3b067_9 : decode cJ1_charAt_3b067 9 = .ok (.sipush 255, 3) := by decide +kernel
theorem dJ1_charAt_3b067_12 : decode cJ1_charAt_3b067 12 = .ok (.iand, 1) := by decide +kernel
theorem dJ1_charAt_3b067_13 : decode cJ1_charAt_3b067 13 = .ok (.i2c, 1) := by decide +kernel
theorem dJ1_charAt_3b067_14 : decode cJ1_charAt_3b067 14 = .ok (.ireturn, 1) := by decide +kernel
theorem dJ2_getChar_3b067_0 : decode cJ2_getChar_3b067 0 = .ok (.getstatic 44, 3) := by decide +kernel
theorem dJ2_getChar_3b067_3 : decode cJ2_getChar_3b067 3 = .ok (.ifCond .ne 25, 3) := by decide +kernel
theorem dJ2_getChar_3b067_6 : decode cJ2_getChar_3b067 6 = .ok (.iload_n 1, 1) := by decide +kernel
theorem dJ2_getChar_3b067_7 : decode cJ2_getChar_3b067 7 = .ok (.ifCond .lt 11, 3) := by decide +kernel
theorem dJ2_getChar_3b067_10 : decode cJ2_getChar_3b067 10 = .ok (.iload_n 1, 1) := by decide +kernel
theorem dJ2_getChar_3b067_11 : decode cJ2_getChar_3b067 11 = .ok (.aload_n 0, 1) := by decide +kernel
theorem dJ2_getChar_3b067_12 : decode cJ2_getChar_3b067 12 = .ok (.invokestatic 48, 3) := by decide +kernel
theorem dJ2_getChar_3b067_15 : decode cJ2_getChar_3b067 15 = .ok (.if_icmp .lt 13, 3) := by decide +kernel
theorem dJ2_getChar_3b067_18 : decode cJ2_getChar_3b067 18 = .ok (.new 52, 3) := by decide +kernel
theorem dJ2_getChar_3b067_21 : decode cJ2_getChar_3b067 21 = .ok (.dup, 1) := by decide +kernel
theorem dJ2_getChar_3b067_22 : decode cJ2_getChar_3b067 22 = .ok (.ldc 54, 2) := by decide +kernel
theorem dJ2_getChar_3b067_24 : decode cJ2_getChar_3b067 24 = .ok (.invokespecial 56, 3) := by decide +kernel
theorem dJ2_getChar_3b067_27 : decode cJ2_getChar_3b067 27 = .ok (.athrow, 1) := by decide +kernel
theorem dJ2_getChar_3b067_28 : decode cJ2_getChar_3b067 28 = .ok (.iload_n 1, 1) := by decide +kernel
theorem dJ2_getChar_3b067_29 : decode cJ2_getChar_3b067 29 = .ok (.iconst 1, 1) := by decide +kernel
theorem dJ2_getChar_3b067_30 : decode cJ2_getChar_3b067 30 = .ok (.ishl, 1) := by decide +kernel
theorem dJ2_getChar_3b067_31 : decode cJ2_getChar_3b067 31 = .ok (.istore_n 1, 1) := by decide +kernel
theorem dJ2_getChar_3b067_32 : decode cJ2_getChar_3b067 32 = .ok (.aload_n 0, 1) := by decide +kernel
theorem dJ2_getChar_3b067_33 : decode cJ2_getChar_3b067 33 = .ok (.iload_n 1, 1) := by decide +kernel
theorem dJ2_getChar_3b067_34 : decode cJ2_getChar_3b067 34 = .ok (.iinc 1 1, 3) := by decide +kernel
theorem dJ2_getChar_3b067_37 : decode cJ2_getChar_3b067 37 = .ok (.baload, 1) := by decide +kernel
theorem dJ2_getChar_3b067_38 : decode cJ2_getChar_3b067 38 = .ok (.sipush 255, 3) := by decide +kernel
theorem dJ2_getChar_3b067_41 : decode cJ2_getChar_3b067 41 = .ok (.iand, 1) := by decide +kernel
theorem dJ2_getChar_3b067_42 : decode cJ2_getChar_3b067 42 = .ok (.getstatic 59, 3) := by decide +kernel
theorem dJ2_getChar_3b067_45 : decode cJ2_getChar_3b067 45 = .ok (.ishl, 1) := by decide +kernel
theorem dJ2_getChar_3b067_46 : decode cJ2_getChar_3b067 46 = .ok (.aload_n 0, 1) := by decide +kernel
theorem dJ2_getChar_3b067_47 : decode cJ2_getChar_3b067 47 = .ok (.iload_n 1, 1) := by decide +kernel
theorem dJ2_getChar_3b067_48 : decode cJ2_getChar_3b067 48 = .ok (.baload, 1) := by decide +kernel
theorem dJ2_getChar_3b067_49 : decode cJ2_getChar_3b067 49 = .ok (.sipush 255, 3) := by decide +kernel
theorem dJ2_getChar_3b067_52 : decode cJ2_getChar_3b067 52 = .ok (.iand, 1) := by decide +kernel
theorem dJ2_getChar_3b067_53 : decode cJ2_getChar_3b067 53 = .ok (.getstatic 63, 3) := by decide +kernel
theorem dJ2_getChar_3b067_56 : decode cJ2_getChar_3b067 56 = .ok (.ishl, 1) := by decide +kernel
theorem dJ2_getChar_3b067_57 : decode cJ2_getChar_3b067 57 = .ok (.ior, 1) := by decide +kernel
theorem dJ2_getChar_3b067_58 : decode cJ2_getChar_3b067 58 = .ok (.i2c, 1) := by decide +kernel
theorem dJ2_getChar_3b067_59 : decode cJ2_getChar_3b067 59 = .ok (.ireturn, 1) := by decide +kernel
theorem dJ2_length_9d52b_0 : decode cJ2_length_9d52b 0 = .ok (.aload_n 0, 1) := by decide +kernel
theorem dJ2_length_9d52b_1 : decode cJ2_length_9d52b 1 = .ok (.arraylength, 1) := by decide +kernel
theorem dJ2_length_9d52b_2 : decode cJ2_length_9d52b 2 = .ok (.iconst 1, 1) := by decide +kernel
theorem dJ2_length_9d52b_3 : decode cJ2_length_9d52b 3 = .ok (.ishr, 1) := by decide +kernel
theorem dJ2_length_9d52b_4 : decode cJ2_length_9d52b 4 = .ok (.ireturn, 1) := by decide +kernel
theorem dJ2_charAt_3b067_0 : decode cJ2_charAt_3b067 0 = .ok (.iload_n 1, 1) := by decide +kernel
theorem dJ2_charAt_3b067_1 : decode cJ2_charAt_3b067 1 = .ok (.aload_n 0, 1) := by decide +kernel
theorem dJ2_charAt_3b067_2 : decode cJ2_charAt_3b067 2 = .ok (.invokestatic 67, 3) := by decide +kernel
theorem dJ2_charAt_3b067_5 : decode cJ2_charAt_3b067 5 = .ok (.aload_n 0, 1) := by decide +kernel
theorem dJ2_charAt_3b067_6 : decode cJ2_charAt_3b067 6 = .ok (.iload_n 1, 1) := by decide +kernel
theorem dJ2_charAt_3b067_7 : decode cJ2_charAt_3b067 7 = .ok (.invokestatic 71, 3) := by decide +kernel
theorem dJ2_charAt_3b067_10 : decode cJ2_charAt_3b067 10 = .ok (.ireturn, 1) := by decide +kernel
theorem dJ2_checkIndex_2214a_0 : decode cJ2_checkIndex_2214a 0 = .ok (.iload_n 0, 1) := by decide +kernel
theorem dJ2_checkIndex_2214a_1 : decode cJ2_checkIndex_2214a 1 = .ok (.aload_n 1, 1) := by decide +kernel
theorem dJ2_checkIndex_2214a_2 : decode cJ2_checkIndex_2214a 2 = .ok (.invokestatic 48, 3) := by decide +kernel
theorem dJ2_checkIndex_2214a_5 : decode cJ2_checkIndex_2214a 5 = .ok (.invokestatic 414, 3) := by decide +kernel
theorem dJ2_checkIndex_2214a_8 : decode cJ2_checkIndex_2214a 8 = .ok (.return_, 1) := by decide +kernel
theorem dJ3_checkIndex_8e157_0 : decode cJ3_checkIndex_8e157 0 = .ok (.iload_n 0, 1) := by decide +kernel
theorem dJ3_checkIndex_8e157_1 : decode cJ3_checkIndex_8e157 1 = .ok (.ifCond .lt 8, 3) := by decide +kernel
theorem dJ3_checkIndex_8e157_4 : decode cJ3_checkIndex_8e157 4 = .ok (.iload_n 0, 1) := by decide +kernel
theorem dJ3_checkIndex_8e157_5 : decode cJ3_checkIndex_8e157 5 = .ok (.iload_n 1, 1) := by decide +kernel
theorem dJ3_checkIndex_8e157_6 : decode cJ3_checkIndex_8e157 6 = .ok (.if_icmp .lt 10, 3) := by decide +kernel
theorem dJ3_checkIndex_8e157_9 : decode cJ3_checkIndex_8e157 9 = .ok (.aload_n 2, 1) := by decide +kernel
theorem dJ3_checkIndex_8e157_10 : decode cJ3_checkIndex_8e157 10 = .ok (.iload_n 0, 1) := by decide +kernel
theorem dJ3_checkIndex_8e157_11 : decode cJ3_checkIndex_8e157 11 = .ok (.iload_n 1, 1) := by decide +kernel
theorem dJ3_checkIndex_8e157_12 : decode cJ3_checkIndex_8e157 12 = .ok (.invokestatic 95, 3) := by decide +kernel
theorem dJ3_checkIndex_8e157_15 : decode cJ3_checkIndex_8e157 15 = .ok (.athrow, 1) := by decide +kernel
theorem dJ3_checkIndex_8e157_16 : decode cJ3_checkIndex_8e157 16 = .ok (.iload_n 0, 1) := by decide +kernel
theorem dJ3_checkIndex_8e157_17 : decode cJ3_checkIndex_8e157 17 = .ok (.ireturn, 1) := by decide +kernel
theorem dL_person_0 : decode cL_person 0 = .ok (.aload_n 3, 1) := by decide +kernel
theorem dL_person_1 : decode cL_person 1 = .ok (.iconst 0, 1) := by decide +kernel
theorem dL_person_2 : decode cL_person 2 = .ok (.aload_n 0, 1) := by decide +kernel
theorem dL_person_3 : decode cL_person 3 = .ok (.iload_n 1, 1) := by decide +kernel
theorem dL_person_4 : decode cL_person 4 = .ok (.iload_n 2, 1) := by decide +kernel
theorem dL_person_5 : decode cL_person 5 = .ok (.invokevirtual 7, 3) := by decide +kernel
theorem dL_person_8 : decode cL_person 8 = .ok (.i2l, 1) := by decide +kernel
theorem dL_person_9 : decode cL_person 9 = .ok (.lastore, 1) := by decide +kernel
theorem dL_person_10 : decode cL_person 10 = .ok (.goto 11, 3) := by decide +kernel
theorem dL_person_13 : decode cL_person 13 = .ok (.astore 4, 2) := by decide +kernel
theorem dL_person_15 : decode cL_person 15 = .ok (.iconst 1, 1) := by decide +kernel
theorem dL_person_16 : decode cL_person 16 = .ok (.ireturn, 1) := by decide +kernel
theorem dL_person_17 : decode cL_person 17 = .ok (.astore 4, 2) := by decide +kernel
theorem dL_person_19 : decode cL_person 19 = .ok (.iconst 2, 1) := by decide +kernel
theorem dL_person_20 : decode cL_person 20 = .ok (.ireturn, 1) := by decide +kernel
theorem dL_person_21 : decode cL_person 21 = .ok (.iconst 0, 1) := by decide +kernel
theorem dL_person_22 : decode cL_person 22 = .ok (.ireturn, 1) := by decide +kernel
