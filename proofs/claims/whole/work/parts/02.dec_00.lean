theorem dX0_init_0 : decode cX0_init 0 = .ok (.aload_n 0, 1) := by decide +kernel
theorem dX0_init_1 : decode cX0_init 1 = .ok (.invokespecial 3, 3) := by decide +kernel
theorem dX0_init_4 : decode cX0_init 4 = .ok (.aload_n 0, 1) := by decide +kernel
theorem dX0_init_5 : decode cX0_init 5 = .ok (.iconst (-1), 1) := by decide +kernel
theorem dX0_init_6 : decode cX0_init 6 = .ok (.putfield 9, 3) := by decide +kernel
theorem dX0_init_9 : decode cX0_init 9 = .ok (.aload_n 0, 1) := by decide +kernel
theorem dX0_init_10 : decode cX0_init 10 = .ok (.iconst (-1), 1) := by decide +kernel
theorem dX0_init_11 : decode cX0_init 11 = .ok (.putfield 15, 3) := by decide +kernel
theorem dX0_init_14 : decode cX0_init 14 = .ok (.aload_n 0, 1) := by decide +kernel
theorem dX0_init_15 : decode cX0_init 15 = .ok (.aload_n 1, 1) := by decide +kernel
theorem dX0_init_16 : decode cX0_init 16 = .ok (.putfield 18, 3) := by decide +kernel
theorem dX0_init_19 : decode cX0_init 19 = .ok (.aload_n 0, 1) := by decide +kernel
theorem dX0_init_20 : decode cX0_init 20 = .ok (.aload_n 2, 1) := by decide +kernel
theorem dX0_init_21 : decode cX0_init 21 = .ok (.putfield 22, 3) := by decide +kernel
theorem dX0_init_24 : decode cX0_init 24 = .ok (.aload_n 0, 1) := by decide +kernel
theorem dX0_init_25 : decode cX0_init 25 = .ok (.aload_n 3, 1) := by decide +kernel
theorem dX0_init_26 : decode cX0_init 26 = .ok (.putfield 26, 3) := by decide +kernel
theorem dX0_init_29 : decode cX0_init 29 = .ok (.return_, 1) := by decide +kernel
theorem dX0_set_0 : decode cX0_set 0 = .ok (.aload_n 0, 1) := by decide +kernel
theorem dX0_set_1 : decode cX0_set 1 = .ok (.aload_n 1, 1) := by decide +kernel
theorem dX0_set_2 : decode cX0_set 2 = .ok (.putfield 26, 3) := by decide +kernel
theorem dX0_set_5 : decode cX0_set 5 = .ok (.aload_n 0, 1) := by decide +kernel
theorem dX0_set_6 : decode cX0_set 6 = .ok (.iload_n 2, 1) := by decide +kernel
theorem dX0_set_7 : decode cX0_set 7 = .ok (.putfield 30, 3) := by decide +kernel
theorem dX0_set_10 : decode cX0_set 10 = .ok (.aload_n 0, 1) := by decide +kernel
theorem dX0_set_11 : decode cX0_set 11 = .ok (.iload_n 3, 1) := by decide +kernel
theorem dX0_set_12 : decode cX0_set 12 = .ok (.putfield 9, 3) := by decide +kernel
theorem dX0_set_15 : decode cX0_set 15 = .ok (.aload_n 0, 1) := by decide +kernel
theorem dX0_set_16 : decode cX0_set 16 = .ok (.iload 4, 2) := by decide +kernel
theorem dX0_set_18 : decode cX0_set 18 = .ok (.putfield 15, 3) := by decide +kernel
theorem dX0_set_21 : decode cX0_set 21 = .ok (.return_, 1) := by decide +kernel
theorem dX0_pass_0 : decode cX0_pass 0 = .ok (.aload_n 1, 1) := by decide +kernel
theorem dX0_pass_1 : decode cX0_pass 1 = .ok (.getfield 34, 3) := by decide +kernel
theorem dX0_pass_4 : decode cX0_pass 4 = .ok (.iload_n 2, 1) := by decide +kernel
theorem dX0_pass_5 : decode cX0_pass 5 = .ok (.iadd, 1) := by decide +kernel
theorem dX0_pass_6 : decode cX0_pass 6 = .ok (.istore_n 3, 1) := by decide +kernel
theorem dX0_pass_7 : decode cX0_pass 7 = .ok (.iconst 0, 1) := by decide +kernel
theorem dX0_pass_8 : decode cX0_pass 8 = .ok (.istore 4, 2) := by decide +kernel
theorem dX0_pass_10 : decode cX0_pass 10 = .ok (.iload 4, 2) := by decide +kernel
theorem dX0_pass_12 : decode cX0_pass 12 = .ok (.iload_n 2, 1) := by decide +kernel
theorem dX0_pass_13 : decode cX0_pass 13 = .ok (.if_icmp .ge 23, 3) := by decide +kernel
theorem dX0_pass_16 : decode cX0_pass 16 = .ok (.aload_n 1, 1) := by decide +kernel
theorem dX0_pass_17 : decode cX0_pass 17 = .ok (.getfield 34, 3) := by decide +kernel
theorem dX0_pass_20 : decode cX0_pass 20 = .ok (.bipush 99, 2) := by decide +kernel
theorem dX0_pass_22 : decode cX0_pass 22 = .ok (.if_icmp .gt 14, 3) := by decide +kernel
theorem dX0_pass_25 : decode cX0_pass 25 = .ok (.aload_n 0, 1) := by decide +kernel
theorem dX0_pass_26 : decode cX0_pass 26 = .ok (.aload_n 1, 1) := by decide +kernel
theorem dX0_pass_27 : decode cX0_pass 27 = .ok (.invokevirtual 39, 3) := by decide +kernel
theorem dX0_pass_30 : decode cX0_pass 30 = .ok (.iinc 4 1, 3) := by decide +kernel
theorem dX0_pass_33 : decode cX0_pass 33 = .ok (.goto (-23), 3) := by decide +kernel
theorem dX0_pass_36 : decode cX0_pass 36 = .ok (.aload_n 1, 1) := by decide +kernel
theorem dX0_pass_37 : decode cX0_pass 37 = .ok (.iload_n 3, 1) := by decide +kernel
theorem dX0_pass_38 : decode cX0_pass 38 = .ok (.putfield 34, 3) := by decide +kernel
theorem dX0_pass_41 : decode cX0_pass 41 = .ok (.return_, 1) := by decide +kernel
theorem dX0_passOne_0 : decode cX0_passOne 0 = .ok (.iconst 0, 1) := by decide +kernel
theorem dX0_passOne_1 : decode cX0_passOne 1 = .ok (.istore_n 2, 1) := by decide +kernel
theorem dX0_passOne_2 : decode cX0_passOne 2 = .ok (.iload_n 2, 1) := by decide +kernel
theorem dX0_passOne_3 : decode cX0_passOne 3 = .ok (.aload_n 0, 1) := by decide +kernel
theorem dX0_passOne_4 : decode cX0_passOne 4 = .ok (.getfield 26, 3) := by decide +kernel
theorem dX0_passOne_7 : decode cX0_passOne 7 = .ok (.getfield 43, 3) := by decide +kernel
theorem dX0_passOne_10 : decode cX0_passOne 10 = .ok (.if_icmp .ge 60, 3) := by decide +kernel
theorem dX0_passOne_13 : decode cX0_passOne 13 = .ok (.aload_n 0, 1) := by decide +kernel
theorem dX0_passOne_14 : decode cX0_passOne 14 = .ok (.getfield 9, 3) := by decide +kernel
theorem dX0_passOne_17 : decode cX0_passOne 17 = .ok (.iconst 3, 1) := by decide +kernel
theorem dX0_passOne_18 : decode cX0_passOne 18 = .ok (.if_icmp .eq 52, 3) := by decide +kernel
theorem dX0_passOne_21 : decode cX0_passOne 21 = .ok (.aload_n 0, 1) := by decide +kernel
theorem dX0_passOne_22 : decode cX0_passOne 22 = .ok (.getfield 26, 3) := by decide +kernel
theorem dX0_passOne_25 : decode cX0_passOne 25 = .ok (.getfield 48, 3) := by decide +kernel
theorem dX0_passOne_28 : decode cX0_passOne 28 = .ok (.iload_n 2, 1) := by decide +kernel
theorem dX0_passOne_29 : decode cX0_passOne 29 = .ok (.iaload, 1) := by decide +kernel
theorem dX0_passOne_30 : decode cX0_passOne 30 = .ok (.aload_n 1, 1) := by decide +kernel
theorem dX0_passOne_31 : decode cX0_passOne 31 = .ok (.getfield 34, 3) := by decide +kernel
theorem dX0_passOne_34 : decode cX0_passOne 34 = .ok (.if_icmp .ne 30, 3) := by decide +kernel
theorem dX0_passOne_37 : decode cX0_passOne 37 = .ok (.aload_n 0, 1) := by decide +kernel
theorem dX0_passOne_38 : decode cX0_passOne 38 = .ok (.aload_n 1, 1) := by decide +kernel
theorem dX0_passOne_39 : decode cX0_passOne 39 = .ok (.aload_n 0, 1) := by decide +kernel
theorem dX0_passOne_40 : decode cX0_passOne 40 = .ok (.getfield 26, 3) := by decide +kernel
theorem dX0_passOne_43 : decode cX0_passOne 43 = .ok (.getfield 52, 3) := by decide +kernel
theorem dX0_passOne_46 : decode cX0_passOne 46 = .ok (.iload_n 2, 1) := by decide +kernel
theorem dX0_passOne_47 : decode cX0_passOne 47 = .ok (.iaload, 1) := by decide +kernel
theorem dX0_passOne_48 : decode cX0_passOne 48 = .ok (.invokevirtual 55, 3) := by decide +kernel
theorem dX0_passOne_51 : decode cX0_passOne 51 = .ok (.ifCond .ne 13, 3) := by decide +kernel
theorem dX0_passOne_54 : decode cX0_passOne 54 = .ok (.aload_n 1, 1) := by decide +kernel
theorem dX0_passOne_55 : decode cX0_passOne 55 = .ok (.dup, 1) := by decide +kernel
theorem dX0_passOne_56 : decode cX0_passOne 56 = .ok (.getfield 59, 3) := by decide +kernel
theorem dX0_passOne_59 : decode cX0_passOne 59 = .ok (.iconst 1, 1) := by decide +kernel
theorem dX0_passOne_60 : decode cX0_passOne 60 = .ok (.iadd, 1) := by decide +kernel
theorem dX0_passOne_61 : decode cX0_passOne 61 = .ok (.putfield 59, 3) := by decide +kernel
theorem dX0_passOne_64 : decode cX0_passOne 64 = .ok (.iinc 2 1, 3) := by decide +kernel
theorem dX0_passOne_67 : decode cX0_passOne 67 = .ok (.goto (-65), 3) := by decide +kernel
theorem dX0_passOne_70 : decode cX0_passOne 70 = .ok (.iconst 0, 1) := by decide +kernel
theorem dX0_passOne_71 : decode cX0_passOne 71 = .ok (.istore_n 2, 1) := by decide +kernel
theorem dX0_passOne_72 : decode cX0_passOne 72 = .ok (.iload_n 2, 1) := by decide +kernel
theorem dX0_passOne_73 : decode cX0_passOne 73 = .ok (.aload_n 0, 1) := by decide +kernel
theorem dX0_passOne_74 : decode cX0_passOne 74 = .ok (.getfield 26, 3) := by decide +kernel
theorem dX0_passOne_77 : decode cX0_passOne 77 = .ok (.getfield 62, 3) := by decide +kernel
theorem dX0_passOne_80 : decode cX0_passOne 80 = .ok (.if_icmp .ge 31, 3) := by decide +kernel
theorem dX0_passOne_83 : decode cX0_passOne 83 = .ok (.aload_n 0, 1) := by decide +kernel
theorem dX0_passOne_84 : decode cX0_passOne 84 = .ok (.getfield 26, 3) := by decide +kernel
theorem dX0_passOne_87 : decode cX0_passOne 87 = .ok (.getfield 65, 3) := by decide +kernel
theorem dX0_passOne_90 : decode cX0_passOne 90 = .ok (.iload_n 2, 1) := by decide +kernel
theorem dX0_passOne_91 : decode cX0_passOne 91 = .ok (.iaload, 1) := by decide +kernel
theorem dX0_passOne_92 : decode cX0_passOne 92 = .ok (.aload_n 1, 1) := by decide +kernel
theorem dX0_passOne_93 : decode cX0_passOne 93 = .ok (.getfield 34, 3) := by decide +kernel
theorem dX0_passOne_96 : decode cX0_passOne 96 = .ok (.if_icmp .ne 9, 3) := by decide +kernel
theorem dX0_passOne_99 : decode cX0_passOne 99 = .ok (.aload_n 0, 1) := by decide +kernel
theorem dX0_passOne_100 : decode cX0_passOne 100 = .ok (.aload_n 1, 1) := by decide +kernel
theorem dX0_passOne_101 : decode cX0_passOne 101 = .ok (.invokevirtual 68, 3) := by decide +kernel
theorem dX0_passOne_104 : decode cX0_passOne 104 = .ok (.pop, 1) := by decide +kernel
theorem dX0_passOne_105 : decode cX0_passOne 105 = .ok (.iinc 2 1, 3) := by decide +kernel
theorem dX0_passOne_108 : decode cX0_passOne 108 = .ok (.goto (-36), 3) := by decide +kernel
theorem dX0_passOne_111 : decode cX0_passOne 111 = .ok (.aload_n 1, 1) := by decide +kernel
theorem dX0_passOne_112 : decode cX0_passOne 112 = .ok (.dup, 1) := by decide +kernel
theorem dX0_passOne_113 : decode cX0_passOne 113 = .ok (.getfield 34, 3) := by decide +kernel
theorem dX0_passOne_116 : decode cX0_passOne 116 = .ok (.iconst 1, 1) := by decide +kernel
theorem dX0_passOne_117 : decode cX0_passOne 117 = .ok (.iadd, 1) := by decide +kernel
theorem dX0_passOne_118 : decode cX0_passOne 118 = .ok (.putfield 34, 3) := by decide +kernel
theorem dX0_passOne_121 : decode cX0_passOne 121 = .ok (.return_, 1) := by decide +kernel
theorem dX0_hear_0 : decode cX0_hear 0 = .ok (.aload_n 0, 1) := by decide +kernel
theorem dX0_hear_1 : decode cX0_hear 1 = .ok (.getfield 26, 3) := by decide +kernel
theorem dX0_hear_4 : decode cX0_hear 4 = .ok (.getfield 72, 3) := by decide +kernel
theorem dX0_hear_7 : decode cX0_hear 7 = .ok (.iload_n 2, 1) := by decide +kernel
theorem dX0_hear_8 : decode cX0_hear 8 = .ok (.iaload, 1) := by decide +kernel
theorem dX0_hear_9 : decode cX0_hear 9 = .ok (.istore_n 3, 1) := by decide +kernel
theorem dX0_hear_10 : decode cX0_hear 10 = .ok (.aload_n 0, 1) := by decide +kernel
theorem dX0_hear_11 : decode cX0_hear 11 = .ok (.getfield 18, 3) := by decide +kernel
theorem dX0_hear_14 : decode cX0_hear 14 = .ok (.aload_n 0, 1) := by decide +kernel
theorem dX0_hear_15 : decode cX0_hear 15 = .ok (.getfield 26, 3) := by decide +kernel
theorem dX0_hear_18 : decode cX0_hear 18 = .ok (.aload_n 1, 1) := by decide +kernel
theorem dX0_hear_19 : decode cX0_hear 19 = .ok (.aload_n 0, 1) := by decide +kernel
theorem dX0_hear_20 : decode cX0_hear 20 = .ok (.getfield 26, 3) := by decide +kernel
theorem dX0_hear_23 : decode cX0_hear 23 = .ok (.getfield 75, 3) := by decide +kernel
theorem dX0_hear_26 : decode cX0_hear 26 = .ok (.iload_n 2, 1) := by decide +kernel
theorem dX0_hear_27 : decode cX0_hear 27 = .ok (.laload, 1) := by decide +kernel
theorem dX0_hear_28 : decode cX0_hear 28 = .ok (.invokevirtual 79, 3) := by decide +kernel
theorem dX0_hear_31 : decode cX0_hear 31 = .ok (.aload_n 0, 1) := by decide +kernel
theorem dX0_hear_32 : decode cX0_hear 32 = .ok (.getfield 18, 3) := by decide +kernel
theorem dX0_hear_35 : decode cX0_hear 35 = .ok (.aload_n 1, 1) := by decide +kernel
theorem dX0_hear_36 : decode cX0_hear 36 = .ok (.getfield 85, 3) := by decide +kernel
theorem dX0_hear_39 : decode cX0_hear 39 = .ok (.iload_n 3, 1) := by decide +kernel
theorem dX0_hear_40 : decode cX0_hear 40 = .ok (.invokevirtual 88, 3) := by decide +kernel
theorem dX0_hear_43 : decode cX0_hear 43 = .ok (.ifCond .ne 5, 3) := by decide +kernel
theorem dX0_hear_46 : decode cX0_hear 46 = .ok (.iconst 0, 1) := by decide +kernel
theorem dX0_hear_47 : decode cX0_hear 47 = .ok (.ireturn, 1) := by decide +kernel
theorem dX0_hear_48 : decode cX0_hear 48 = .ok (.aload_n 1, 1) := by decide +kernel
theorem dX0_hear_49 : decode cX0_hear 49 = .ok (.aload_n 0, 1) := by decide +kernel
theorem dX0_hear_50 : decode cX0_hear 50 = .ok (.getfield 18, 3) := by decide +kernel
theorem dX0_hear_53 : decode cX0_hear 53 = .ok (.getfield 92, 3) := by decide +kernel
theorem dX0_hear_56 : decode cX0_hear 56 = .ok (.iload_n 3, 1) := by decide +kernel
theorem dX0_hear_57 : decode cX0_hear 57 = .ok (.invokevirtual 95, 3) := by decide +kernel
theorem dX0_hear_60 : decode cX0_hear 60 = .ok (.aload_n 1, 1) := by decide +kernel
theorem dX0_hear_61 : decode cX0_hear 61 = .ok (.dup, 1) := by decide +kernel
theorem dX0_hear_62 : decode cX0_hear 62 = .ok (.getfield 99, 3) := by decide +kernel
theorem dX0_hear_65 : decode cX0_hear 65 = .ok (.iconst 1, 1) := by decide +kernel
theorem dX0_hear_66 : decode cX0_hear 66 = .ok (.iadd, 1) := by decide +kernel
theorem dX0_hear_67 : decode cX0_hear 67 = .ok (.putfield 99, 3) := by decide +kernel
theorem dX0_hear_70 : decode cX0_hear 70 = .ok (.iconst 1, 1) := by decide +kernel
theorem dX0_hear_71 : decode cX0_hear 71 = .ok (.ireturn, 1) := by decide +kernel
theorem dX0_askAll_0 : decode cX0_askAll 0 = .ok (.aload_n 0, 1) := by decide +kernel
theorem dX0_askAll_1 : decode cX0_askAll 1 = .ok (.getfield 18, 3) := by decide +kernel
theorem dX0_askAll_4 : decode cX0_askAll 4 = .ok (.aload_n 1, 1) := by decide +kernel
theorem dX0_askAll_5 : decode cX0_askAll 5 = .ok (.invokevirtual 102, 3) := by decide +kernel
theorem dX0_askAll_8 : decode cX0_askAll 8 = .ok (.aload_n 0, 1) := by decide +kernel
theorem dX0_askAll_9 : decode cX0_askAll 9 = .ok (.getfield 18, 3) := by decide +kernel
theorem dX0_askAll_12 : decode cX0_askAll 12 = .ok (.getfield 92, 3) := by decide +kernel
theorem dX0_askAll_15 : decode cX0_askAll 15 = .ok (.astore_n 2, 1) := by decide +kernel
theorem dX0_askAll_16 : decode cX0_askAll 16 = .ok (.aload_n 2, 1) := by decide +kernel
theorem dX0_askAll_17 : decode cX0_askAll 17 = .ok (.aload_n 1, 1) := by decide +kernel
theorem dX0_askAll_18 : decode cX0_askAll 18 = .ok (.getfield 85, 3) := by decide +kernel
theorem dX0_askAll_21 : decode cX0_askAll 21 = .ok (.laload, 1) := by decide +kernel
theorem dX0_askAll_22 : decode cX0_askAll 22 = .ok (.l2i, 1) := by decide +kernel
theorem dX0_askAll_23 : decode cX0_askAll 23 = .ok (.iconst 1, 1) := by decide +kernel
theorem dX0_askAll_24 : decode cX0_askAll 24 = .ok (.aload_n 1, 1) := by decide +kernel
theorem dX0_askAll_25 : decode cX0_askAll 25 = .ok (.getfield 105, 3) := by decide +kernel
theorem dX0_askAll_28 : decode cX0_askAll 28 = .ok (.ishl, 1) := by decide +kernel
theorem dX0_askAll_29 : decode cX0_askAll 29 = .ok (.iconst 1, 1) := by decide +kernel
theorem dX0_askAll_30 : decode cX0_askAll 30 = .ok (.isub, 1) := by decide +kernel
theorem dX0_askAll_31 : decode cX0_askAll 31 = .ok (.iand, 1) := by decide +kernel
theorem dX0_askAll_32 : decode cX0_askAll 32 = .ok (.istore_n 3, 1) := by decide +kernel
theorem dX0_askAll_33 : decode cX0_askAll 33 = .ok (.iload_n 3, 1) := by decide +kernel
theorem dX0_askAll_34 : decode cX0_askAll 34 = .ok (.invokestatic 108, 3) := by decide +kernel
theorem dX0_askAll_37 : decode cX0_askAll 37 = .ok (.istore 4, 2) := by decide +kernel
theorem dX0_askAll_39 : decode cX0_askAll 39 = .ok (.iconst 0, 1) := by decide +kernel
theorem dX0_askAll_40 : decode cX0_askAll 40 = .ok (.istore 5, 2) := by decide +kernel
theorem dX0_askAll_42 : decode cX0_askAll 42 = .ok (.iconst 0, 1) := by decide +kernel
theorem dX0_askAll_43 : decode cX0_askAll 43 = .ok (.istore 6, 2) := by decide +kernel
theorem dX0_askAll_45 : decode cX0_askAll 45 = .ok (.iconst 0, 1) := by decide +kernel
theorem dX0_askAll_46 : decode cX0_askAll 46 = .ok (.istore 7, 2) := by decide +kernel
theorem dX0_askAll_48 : decode cX0_askAll 48 = .ok (.iload 7, 2) := by decide +kernel
theorem dX0_askAll_50 : decode cX0_askAll 50 = .ok (.aload_n 1, 1) := by decide +kernel
theorem dX0_askAll_51 : decode cX0_askAll 51 = .ok (.getfield 105, 3) := by decide +kernel
theorem dX0_askAll_54 : decode cX0_askAll 54 = .ok (.if_icmp .ge 74, 3) := by decide +kernel
theorem dX0_askAll_57 : decode cX0_askAll 57 = .ok (.aload_n 0, 1) := by decide +kernel
theorem dX0_askAll_58 : decode cX0_askAll 58 = .ok (.aload_n 1, 1) := by decide +kernel
theorem dX0_askAll_59 : decode cX0_askAll 59 = .ok (.iload 7, 2) := by decide +kernel
theorem dX0_askAll_61 : decode cX0_askAll 61 = .ok (.iload 4, 2) := by decide +kernel
theorem dX0_askAll_63 : decode cX0_askAll 63 = .ok (.invokevirtual 114, 3) := by decide +kernel
theorem dX0_askAll_66 : decode cX0_askAll 66 = .ok (.istore 8, 2) := by decide +kernel
theorem dX0_askAll_68 : decode cX0_askAll 68 = .ok (.iload_n 3, 1) := by decide +kernel
theorem dX0_askAll_69 : decode cX0_askAll 69 = .ok (.iload 7, 2) := by decide +kernel
theorem dX0_askAll_71 : decode cX0_askAll 71 = .ok (.ishr, 1) := by decide +kernel
theorem dX0_askAll_72 : decode cX0_askAll 72 = .ok (.iconst 1, 1) := by decide +kernel
theorem dX0_askAll_73 : decode cX0_askAll 73 = .ok (.iand, 1) := by decide +kernel
theorem dX0_askAll_74 : decode cX0_askAll 74 = .ok (.ifCond .eq 34, 3) := by decide +kernel
theorem dX0_askAll_77 : decode cX0_askAll 77 = .ok (.aload_n 0, 1) := by decide +kernel
theorem dX0_askAll_78 : decode cX0_askAll 78 = .ok (.aload_n 1, 1) := by decide +kernel
theorem dX0_askAll_79 : decode cX0_askAll 79 = .ok (.iload 8, 2) := by decide +kernel
theorem dX0_askAll_81 : decode cX0_askAll 81 = .ok (.invokevirtual 118, 3) := by decide +kernel
theorem dX0_askAll_84 : decode cX0_askAll 84 = .ok (.ifCond .eq 24, 3) := by decide +kernel
theorem dX0_askAll_87 : decode cX0_askAll 87 = .ok (.iload 5, 2) := by decide +kernel
theorem dX0_askAll_89 : decode cX0_askAll 89 = .ok (.iconst 1, 1) := by decide +kernel
theorem dX0_askAll_90 : decode cX0_askAll 90 = .ok (.iload 7, 2) := by decide +kernel
theorem dX0_askAll_92 : decode cX0_askAll 92 = .ok (.ishl, 1) := by decide +kernel
theorem dX0_askAll_93 : decode cX0_askAll 93 = .ok (.ior, 1) := by decide +kernel
theorem dX0_askAll_94 : decode cX0_askAll 94 = .ok (.istore 5, 2) := by decide +kernel
theorem dX0_askAll_96 : decode cX0_askAll 96 = .ok (.aload_n 0, 1) := by decide +kernel
theorem dX0_askAll_97 : decode cX0_askAll 97 = .ok (.aload_n 1, 1) := by decide +kernel
theorem dX0_askAll_98 : decode cX0_askAll 98 = .ok (.iload 7, 2) := by decide +kernel
theorem dX0_askAll_100 : decode cX0_askAll 100 = .ok (.iload 4, 2) := by decide +kernel
theorem dX0_askAll_102 : decode cX0_askAll 102 = .ok (.invokevirtual 121, 3) := by decide +kernel
theorem dX0_askAll_105 : decode cX0_askAll 105 = .ok (.goto 17, 3) := by decide +kernel
theorem dX0_askAll_108 : decode cX0_askAll 108 = .ok (.iload 8, 2) := by decide +kernel
theorem dX0_askAll_110 : decode cX0_askAll 110 = .ok (.ifCond .ne 12, 3) := by decide +kernel
theorem dX0_askAll_113 : decode cX0_askAll 113 = .ok (.iload 6, 2) := by decide +kernel
theorem dX0_askAll_115 : decode cX0_askAll 115 = .ok (.iconst 1, 1) := by decide +kernel
theorem dX0_askAll_116 : decode cX0_askAll 116 = .ok (.iload 7, 2) := by decide +kernel
theorem dX0_askAll_118 : decode cX0_askAll 118 = .ok (.ishl, 1) := by decide +kernel
theorem dX0_askAll_119 : decode cX0_askAll 119 = .ok (.ior, 1) := by decide +kernel
theorem dX0_askAll_120 : decode cX0_askAll 120 = .ok (.istore 6, 2) := by decide +kernel
theorem dX0_askAll_122 : decode cX0_askAll 122 = .ok (.iinc 7 1, 3) := by decide +kernel
theorem dX0_askAll_125 : decode cX0_askAll 125 = .ok (.goto (-77), 3) := by decide +kernel
theorem dX0_askAll_128 : decode cX0_askAll 128 = .ok (.iconst 0, 1) := by decide +kernel
theorem dX0_askAll_129 : decode cX0_askAll 129 = .ok (.istore 7, 2) := by decide +kernel
theorem dX0_askAll_131 : decode cX0_askAll 131 = .ok (.iload 7, 2) := by decide +kernel
theorem dX0_askAll_133 : decode cX0_askAll 133 = .ok (.aload_n 1, 1) := by decide +kernel
theorem dX0_askAll_134 : decode cX0_askAll 134 = .ok (.getfield 125, 3) := by decide +kernel
theorem dX0_askAll_137 : decode cX0_askAll 137 = .ok (.if_icmp .ge 36, 3) := by decide +kernel
theorem dX0_askAll_140 : decode cX0_askAll 140 = .ok (.aload_n 2, 1) := by decide +kernel
theorem dX0_askAll_141 : decode cX0_askAll 141 = .ok (.iload 7, 2) := by decide +kernel
theorem dX0_askAll_143 : decode cX0_askAll 143 = .ok (.aload_n 2, 1) := by decide +kernel
theorem dX0_askAll_144 : decode cX0_askAll 144 = .ok (.iload 7, 2) := by decide +kernel
theorem dX0_askAll_146 : decode cX0_askAll 146 = .ok (.laload, 1) := by decide +kernel
theorem dX0_askAll_147 : decode cX0_askAll 147 = .ok (.iload 5, 2) := by decide +kernel
theorem dX0_askAll_149 : decode cX0_askAll 149 = .ok (.iload 6, 2) := by decide +kernel
theorem dX0_askAll_151 : decode cX0_askAll 151 = .ok (.ior, 1) := by decide +kernel
theorem dX0_askAll_152 : decode cX0_askAll 152 = .ok (.i2l, 1) := by decide +kernel
theorem dX0_askAll_153 : decode cX0_askAll 153 = .ok (.land, 1) := by decide +kernel
theorem dX0_askAll_154 : decode cX0_askAll 154 = .ok (.iload 5, 2) := by decide +kernel
theorem dX0_askAll_156 : decode cX0_askAll 156 = .ok (.i2l, 1) := by decide +kernel
theorem dX0_askAll_157 : decode cX0_askAll 157 = .ok (.lcmp, 1) := by decide +kernel
theorem dX0_askAll_158 : decode cX0_askAll 158 = .ok (.ifCond .ne 7, 3) := by decide +kernel
theorem dX0_askAll_161 : decode cX0_askAll 161 = .ok (.lconst 1, 1) := by decide +kernel
theorem dX0_askAll_162 : decode cX0_askAll 162 = .ok (.goto 4, 3) := by decide +kernel
theorem dX0_askAll_165 : decode cX0_askAll 165 = .ok (.lconst 0, 1) := by decide +kernel
theorem dX0_askAll_166 : decode cX0_askAll 166 = .ok (.lastore, 1) := by decide +kernel
theorem dX0_askAll_167 : decode cX0_askAll 167 = .ok (.iinc 7 1, 3) := by decide +kernel
theorem dX0_askAll_170 : decode cX0_askAll 170 = .ok (.goto (-39), 3) := by decide +kernel
theorem dX0_askAll_173 : decode cX0_askAll 173 = .ok (.aload_n 1, 1) := by decide +kernel
theorem dX0_askAll_174 : decode cX0_askAll 174 = .ok (.aload_n 2, 1) := by decide +kernel
theorem dX0_askAll_175 : decode cX0_askAll 175 = .ok (.iconst 0, 1) := by decide +kernel
theorem dX0_askAll_176 : decode cX0_askAll 176 = .ok (.invokevirtual 95, 3) := by decide +kernel
theorem dX0_askAll_179 : decode cX0_askAll 179 = .ok (.iload 5, 2) := by decide +kernel
theorem dX0_askAll_181 : decode cX0_askAll 181 = .ok (.ireturn, 1) := by decide +kernel
theorem dX0_speaks_0 : decode cX0_speaks 0 = .ok (.aload_n 0, 1) := by decide +kernel
theorem dX0_speaks_1 : decode cX0_speaks 1 = .ok (.getfield 30, 3) := by decide +kernel
theorem dX0_speaks_4 : decode cX0_speaks 4 = .ok (.ifCond .ne 15, 3) := by decide +kernel
theorem dX0_speaks_7 : decode cX0_speaks 7 = .ok (.iload_n 2, 1) := by decide +kernel
theorem dX0_speaks_8 : decode cX0_speaks 8 = .ok (.bipush 50, 2) := by decide +kernel
theorem dX0_speaks_10 : decode cX0_speaks 10 = .ok (.if_icmp .ge 7, 3) := by decide +kernel
theorem dX0_speaks_13 : decode cX0_speaks 13 = .ok (.iconst 1, 1) := by decide +kernel
theorem dX0_speaks_14 : decode cX0_speaks 14 = .ok (.goto 4, 3) := by decide +kernel
theorem dX0_speaks_17 : decode cX0_speaks 17 = .ok (.iconst 0, 1) := by decide +kernel
theorem dX0_speaks_18 : decode cX0_speaks 18 = .ok (.ireturn, 1) := by decide +kernel
theorem dX0_speaks_19 : decode cX0_speaks 19 = .ok (.iload_n 2, 1) := by decide +kernel
theorem dX0_speaks_20 : decode cX0_speaks 20 = .ok (.ifCond .eq 20, 3) := by decide +kernel
theorem dX0_speaks_23 : decode cX0_speaks 23 = .ok (.iload_n 2, 1) := by decide +kernel
theorem dX0_speaks_24 : decode cX0_speaks 24 = .ok (.bipush 100, 2) := by decide +kernel
theorem dX0_speaks_26 : decode cX0_speaks 26 = .ok (.if_icmp .ge 18, 3) := by decide +kernel
theorem dX0_speaks_29 : decode cX0_speaks 29 = .ok (.aload_n 1, 1) := by decide +kernel
theorem dX0_speaks_30 : decode cX0_speaks 30 = .ok (.invokevirtual 128, 3) := by decide +kernel
theorem dX0_speaks_33 : decode cX0_speaks 33 = .ok (.bipush 100, 2) := by decide +kernel
theorem dX0_speaks_35 : decode cX0_speaks 35 = .ok (.irem, 1) := by decide +kernel
theorem dX0_speaks_36 : decode cX0_speaks 36 = .ok (.iload_n 2, 1) := by decide +kernel
theorem dX0_speaks_37 : decode cX0_speaks 37 = .ok (.if_icmp .lt 7, 3) := by decide +kernel
theorem dX0_speaks_40 : decode cX0_speaks 40 = .ok (.iconst 1, 1) := by decide +kernel
theorem dX0_speaks_41 : decode cX0_speaks 41 = .ok (.goto 4, 3) := by decide +kernel
theorem dX0_speaks_44 : decode cX0_speaks 44 = .ok (.iconst 0, 1) := by decide +kernel
theorem dX0_speaks_45 : decode cX0_speaks 45 = .ok (.ireturn, 1) := by decide +kernel
theorem dX0_reward_0 : decode cX0_reward 0 = .ok (.aload_n 1, 1) := by decide +kernel
theorem dX0_reward_1 : decode cX0_reward 1 = .ok (.getfield 132, 3) := by decide +kernel
theorem dX0_reward_4 : decode cX0_reward 4 = .ok (.iload_n 2, 1) := by decide +kernel
theorem dX0_reward_5 : decode cX0_reward 5 = .ok (.ishr, 1) := by decide +kernel
theorem dX0_reward_6 : decode cX0_reward 6 = .ok (.iconst 1, 1) := by decide +kernel
theorem dX0_reward_7 : decode cX0_reward 7 = .ok (.iand, 1) := by decide +kernel
theorem dX0_reward_8 : decode cX0_reward 8 = .ok (.ifCond .eq 4, 3) := by decide +kernel
theorem dX0_reward_11 : decode cX0_reward 11 = .ok (.return_, 1) := by decide +kernel
theorem dX0_reward_12 : decode cX0_reward 12 = .ok (.aload_n 0, 1) := by decide +kernel
theorem dX0_reward_13 : decode cX0_reward 13 = .ok (.getfield 22, 3) := by decide +kernel
theorem dX0_reward_16 : decode cX0_reward 16 = .ok (.aload_n 0, 1) := by decide +kernel
theorem dX0_reward_17 : decode cX0_reward 17 = .ok (.getfield 26, 3) := by decide +kernel
theorem dX0_reward_20 : decode cX0_reward 20 = .ok (.iconst 0, 1) := by decide +kernel
theorem dX0_reward_21 : decode cX0_reward 21 = .ok (.aload_n 1, 1) := by decide +kernel
theorem dX0_reward_22 : decode cX0_reward 22 = .ok (.iload_n 2, 1) := by decide +kernel
theorem dX0_reward_23 : decode cX0_reward 23 = .ok (.iload_n 3, 1) := by decide +kernel
theorem dX0_reward_24 : decode cX0_reward 24 = .ok (.invokevirtual 135, 3) := by decide +kernel
theorem dX0_reward_27 : decode cX0_reward 27 = .ok (.lstore 4, 2) := by decide +kernel
theorem dX0_reward_29 : decode cX0_reward 29 = .ok (.aload_n 1, 1) := by decide +kernel
theorem dX0_reward_30 : decode cX0_reward 30 = .ok (.getfield 141, 3) := by decide +kernel
theorem dX0_reward_33 : decode cX0_reward 33 = .ok (.iload_n 2, 1) := by decide +kernel
theorem dX0_reward_34 : decode cX0_reward 34 = .ok (.dup2, 1) := by decide +kernel
theorem dX0_reward_35 : decode cX0_reward 35 = .ok (.iaload, 1) := by decide +kernel
theorem dX0_reward_36 : decode cX0_reward 36 = .ok (.lload 4, 2) := by decide +kernel
theorem dX0_reward_38 : decode cX0_reward 38 = .ok (.ldc2_w 144, 3) := by decide +kernel
theorem dX0_reward_41 : decode cX0_reward 41 = .ok (.lcmp, 1) := by decide +kernel
theorem dX0_reward_42 : decode cX0_reward 42 = .ok (.ifCond .ne 8, 3) := by decide +kernel
theorem dX0_reward_45 : decode cX0_reward 45 = .ok (.bipush 10, 2) := by decide +kernel
theorem dX0_reward_47 : decode cX0_reward 47 = .ok (.goto 16, 3) := by decide +kernel
theorem dX0_reward_50 : decode cX0_reward 50 = .ok (.lconst 0, 1) := by decide +kernel
theorem dX0_reward_51 : decode cX0_reward 51 = .ok (.ldc2_w 146, 3) := by decide +kernel
theorem dX0_reward_54 : decode cX0_reward 54 = .ok (.lload 4, 2) := by decide +kernel
theorem dX0_reward_56 : decode cX0_reward 56 = .ok (.invokestatic 148, 3) := by decide +kernel
theorem dX0_reward_59 : decode cX0_reward 59 = .ok (.invokestatic 154, 3) := by decide +kernel
theorem dX0_reward_62 : decode cX0_reward 62 = .ok (.l2i, 1) := by decide +kernel
theorem dX0_reward_63 : decode cX0_reward 63 = .ok (.iadd, 1) := by decide +kernel
theorem dX0_reward_64 : decode cX0_reward 64 = .ok (.iastore, 1) := by decide +kernel
theorem dX0_reward_65 : decode cX0_reward 65 = .ok (.aload_n 1, 1) := by decide +kernel
theorem dX0_reward_66 : decode cX0_reward 66 = .ok (.dup, 1) := by decide +kernel
theorem dX0_reward_67 : decode cX0_reward 67 = .ok (.getfield 132, 3) := by decide +kernel
theorem dX0_reward_70 : decode cX0_reward 70 = .ok (.iconst 1, 1) := by decide +kernel
theorem dX0_reward_71 : decode cX0_reward 71 = .ok (.iload_n 2, 1) := by decide +kernel
theorem dX0_reward_72 : decode cX0_reward 72 = .ok (.ishl, 1) := by decide +kernel
theorem dX0_reward_73 : decode cX0_reward 73 = .ok (.ior, 1) := by decide +kernel
theorem dX0_reward_74 : decode cX0_reward 74 = .ok (.putfield 132, 3) := by decide +kernel
theorem dX0_reward_77 : decode cX0_reward 77 = .ok (.return_, 1) := by decide +kernel
theorem dX0_hushOf_0 : decode cX0_hushOf 0 = .ok (.aload_n 0, 1) := by decide +kernel
theorem dX0_hushOf_1 : decode cX0_hushOf 1 = .ok (.getfield 9, 3) := by decide +kernel
theorem dX0_hushOf_4 : decode cX0_hushOf 4 = .ok (.ifCond .ne 5, 3) := by decide +kernel
theorem dX0_hushOf_7 : decode cX0_hushOf 7 = .ok (.iconst 0, 1) := by decide +kernel
theorem dX0_hushOf_8 : decode cX0_hushOf 8 = .ok (.ireturn, 1) := by decide +kernel
theorem dX0_hushOf_9 : decode cX0_hushOf 9 = .ok (.aload_n 0, 1) := by decide +kernel
theorem dX0_hushOf_10 : decode cX0_hushOf 10 = .ok (.getfield 9, 3) := by decide +kernel
theorem dX0_hushOf_13 : decode cX0_hushOf 13 = .ok (.iconst 1, 1) := by decide +kernel
theorem dX0_hushOf_14 : decode cX0_hushOf 14 = .ok (.if_icmp .eq 19, 3) := by decide +kernel
theorem dX0_hushOf_17 : decode cX0_hushOf 17 = .ok (.aload_n 0, 1) := by decide +kernel
theorem dX0_hushOf_18 : decode cX0_hushOf 18 = .ok (.getfield 9, 3) := by decide +kernel
theorem dX0_hushOf_21 : decode cX0_hushOf 21 = .ok (.iconst 2, 1) := by decide +kernel
theorem dX0_hushOf_22 : decode cX0_hushOf 22 = .ok (.if_icmp .ne 14, 3) := by decide +kernel
theorem dX0_hushOf_25 : decode cX0_hushOf 25 = .ok (.iload_n 2, 1) := by decide +kernel
theorem dX0_hushOf_26 : decode cX0_hushOf 26 = .ok (.aload_n 0, 1) := by decide +kernel
theorem dX0_hushOf_27 : decode cX0_hushOf 27 = .ok (.getfield 15, 3) := by decide +kernel
theorem dX0_hushOf_30 : decode cX0_hushOf 30 = .ok (.if_icmp .ne 6, 3) := by decide +kernel
theorem dX0_hushOf_33 : decode cX0_hushOf 33 = .ok (.bipush 100, 2) := by decide +kernel
theorem dX0_hushOf_35 : decode cX0_hushOf 35 = .ok (.ireturn, 1) := by decide +kernel
theorem dX0_hushOf_36 : decode cX0_hushOf 36 = .ok (.aload_n 0, 1) := by decide +kernel
theorem dX0_hushOf_37 : decode cX0_hushOf 37 = .ok (.getfield 22, 3) := by decide +kernel
theorem dX0_hushOf_40 : decode cX0_hushOf 40 = .ok (.aload_n 0, 1) := by decide +kernel
theorem dX0_hushOf_41 : decode cX0_hushOf 41 = .ok (.getfield 26, 3) := by decide +kernel
theorem dX0_hushOf_44 : decode cX0_hushOf 44 = .ok (.iconst 1, 1) := by decide +kernel
theorem dX0_hushOf_45 : decode cX0_hushOf 45 = .ok (.aload_n 1, 1) := by decide +kernel
theorem dX0_hushOf_46 : decode cX0_hushOf 46 = .ok (.iload_n 2, 1) := by decide +kernel
theorem dX0_hushOf_47 : decode cX0_hushOf 47 = .ok (.iload_n 3, 1) := by decide +kernel
theorem dX0_hushOf_48 : decode cX0_hushOf 48 = .ok (.invokevirtual 135, 3) := by decide +kernel
theorem dX0_hushOf_51 : decode cX0_hushOf 51 = .ok (.lstore 4, 2) := by decide +kernel
theorem dX0_hushOf_53 : decode cX0_hushOf 53 = .ok (.lload 4, 2) := by decide +kernel
theorem dX0_hushOf_55 : decode cX0_hushOf 55 = .ok (.ldc2_w 144, 3) := by decide +kernel
theorem dX0_hushOf_58 : decode cX0_hushOf 58 = .ok (.lcmp, 1) := by decide +kernel
theorem dX0_hushOf_59 : decode cX0_hushOf 59 = .ok (.ifCond .ne 15, 3) := by decide +kernel
theorem dX0_hushOf_62 : decode cX0_hushOf 62 = .ok (.aload_n 0, 1) := by decide +kernel
theorem dX0_hushOf_63 : decode cX0_hushOf 63 = .ok (.getfield 26, 3) := by decide +kernel
theorem dX0_hushOf_66 : decode cX0_hushOf 66 = .ok (.getfield 157, 3) := by decide +kernel
theorem dX0_hushOf_69 : decode cX0_hushOf 69 = .ok (.iconst 0, 1) := by decide +kernel
theorem dX0_hushOf_70 : decode cX0_hushOf 70 = .ok (.invokestatic 160, 3) := by decide +kernel
theorem dX0_hushOf_73 : decode cX0_hushOf 73 = .ok (.ireturn, 1) := by decide +kernel
theorem dX0_hushOf_74 : decode cX0_hushOf 74 = .ok (.lconst 0, 1) := by decide +kernel
theorem dX0_hushOf_75 : decode cX0_hushOf 75 = .ok (.ldc2_w 162, 3) := by decide +kernel
theorem dX0_hushOf_78 : decode cX0_hushOf 78 = .ok (.lload 4, 2) := by decide +kernel
theorem dX0_hushOf_80 : decode cX0_hushOf 80 = .ok (.invokestatic 148, 3) := by decide +kernel
theorem dX0_hushOf_83 : decode cX0_hushOf 83 = .ok (.invokestatic 154, 3) := by decide +kernel
theorem dX0_hushOf_86 : decode cX0_hushOf 86 = .ok (.l2i, 1) := by decide +kernel
theorem dX0_hushOf_87 : decode cX0_hushOf 87 = .ok (.ireturn, 1) := by decide +kernel
theorem dX1_init_0 : decode cX1_init 0 = .ok (.aload_n 0, 1) := by decide +kernel
theorem dX1_init_1 : decode cX1_init 1 = .ok (.invokespecial 3, 3) := by decide +kernel
theorem dX1_init_4 : decode cX1_init 4 = .ok (.aload_n 0, 1) := by decide +kernel
theorem dX1_init_5 : decode cX1_init 5 = .ok (.bipush 72, 2) := by decide +kernel
theorem dX1_init_7 : decode cX1_init 7 = .ok (.newarray .int, 2) := by decide +kernel
theorem dX1_init_9 : decode cX1_init 9 = .ok (.putfield 9, 3) := by decide +kernel
theorem dX1_init_12 : decode cX1_init 12 = .ok (.aload_n 0, 1) := by decide +kernel
theorem dX1_init_13 : decode cX1_init 13 = .ok (.bipush 72, 2) := by decide +kernel
theorem dX1_init_15 : decode cX1_init 15 = .ok (.newarray .int, 2) := by decide +kernel
theorem dX1_init_17 : decode cX1_init 17 = .ok (.putfield 15, 3) := by decide +kernel
theorem dX1_init_20 : decode cX1_init 20 = .ok (.aload_n 0, 1) := by decide +kernel
theorem dX1_init_21 : decode cX1_init 21 = .ok (.bipush 64, 2) := by decide +kernel
theorem dX1_init_23 : decode cX1_init 23 = .ok (.newarray .int, 2) := by decide +kernel
theorem dX1_init_25 : decode cX1_init 25 = .ok (.putfield 18, 3) := by decide +kernel
theorem dX1_init_28 : decode cX1_init 28 = .ok (.aload_n 0, 1) := by decide +kernel
theorem dX1_init_29 : decode cX1_init 29 = .ok (.new 21, 3) := by decide +kernel
theorem dX1_init_32 : decode cX1_init 32 = .ok (.dup, 1) := by decide +kernel
theorem dX1_init_33 : decode cX1_init 33 = .ok (.invokespecial 23, 3) := by decide +kernel
theorem dX1_init_36 : decode cX1_init 36 = .ok (.putfield 24, 3) := by decide +kernel
theorem dX1_init_39 : decode cX1_init 39 = .ok (.aload_n 0, 1) := by decide +kernel
theorem dX1_init_40 : decode cX1_init 40 = .ok (.aload_n 1, 1) := by decide +kernel
theorem dX1_init_41 : decode cX1_init 41 = .ok (.putfield 28, 3) := by decide +kernel
theorem dX1_init_44 : decode cX1_init 44 = .ok (.return_, 1) := by decide +kernel
theorem dX1_read_0 : decode cX1_read 0 = .ok (.aload_n 0, 1) := by decide +kernel
theorem dX1_read_1 : decode cX1_read 1 = .ok (.aload_n 1, 1) := by decide +kernel
theorem dX1_read_2 : decode cX1_read 2 = .ok (.getfield 32, 3) := by decide +kernel
theorem dX1_read_5 : decode cX1_read 5 = .ok (.putfield 24, 3) := by decide +kernel
theorem dX1_read_8 : decode cX1_read 8 = .ok (.aload_n 0, 1) := by decide +kernel
theorem dX1_read_9 : decode cX1_read 9 = .ok (.iconst 0, 1) := by decide +kernel
theorem dX1_read_10 : decode cX1_read 10 = .ok (.putfield 35, 3) := by decide +kernel
theorem dX1_read_13 : decode cX1_read 13 = .ok (.aload_n 0, 1) := by decide +kernel
theorem dX1_read_14 : decode cX1_read 14 = .ok (.iconst 0, 1) := by decide +kernel
theorem dX1_read_15 : decode cX1_read 15 = .ok (.putfield 39, 3) := by decide +kernel
theorem dX1_read_18 : decode cX1_read 18 = .ok (.aload_n 0, 1) := by decide +kernel
theorem dX1_read_19 : decode cX1_read 19 = .ok (.iconst 0, 1) := by decide +kernel
theorem dX1_read_20 : decode cX1_read 20 = .ok (.putfield 42, 3) := by decide +kernel
theorem dX1_read_23 : decode cX1_read 23 = .ok (.aload_n 0, 1) := by decide +kernel
theorem dX1_read_24 : decode cX1_read 24 = .ok (.lconst 0, 1) := by decide +kernel
theorem dX1_read_25 : decode cX1_read 25 = .ok (.putfield 45, 3) := by decide +kernel
theorem dX1_read_28 : decode cX1_read 28 = .ok (.iconst 0, 1) := by decide +kernel
theorem dX1_read_29 : decode cX1_read 29 = .ok (.istore_n 3, 1) := by decide +kernel
theorem dX1_read_30 : decode cX1_read 30 = .ok (.iconst 0, 1) := by decide +kernel
theorem dX1_read_31 : decode cX1_read 31 = .ok (.istore 4, 2) := by decide +kernel
theorem dX1_read_33 : decode cX1_read 33 = .ok (.iload 4, 2) := by decide +kernel
theorem dX1_read_35 : decode cX1_read 35 = .ok (.sipush 700, 3) := by decide +kernel
theorem dX1_read_38 : decode cX1_read 38 = .ok (.if_icmp .gt 94, 3) := by decide +kernel
theorem dX1_read_41 : decode cX1_read 41 = .ok (.iload_n 3, 1) := by decide +kernel
theorem dX1_read_42 : decode cX1_read 42 = .ok (.iconst 3, 1) := by decide +kernel
theorem dX1_read_43 : decode cX1_read 43 = .ok (.if_icmp .eq 89, 3) := by decide +kernel
theorem dX1_read_46 : decode cX1_read 46 = .ok (.iload_n 3, 1) := by decide +kernel
theorem dX1_read_47 : decode cX1_read 47 = .ok (.iconst 2, 1) := by decide +kernel
theorem dX1_read_48 : decode cX1_read 48 = .ok (.if_icmp .ne 45, 3) := by decide +kernel
theorem dX1_read_51 : decode cX1_read 51 = .ok (.aload_n 0, 1) := by decide +kernel
theorem dX1_read_52 : decode cX1_read 52 = .ok (.getfield 42, 3) := by decide +kernel
theorem dX1_read_55 : decode cX1_read 55 = .ok (.ifCond .ne 38, 3) := by decide +kernel
theorem dX1_read_58 : decode cX1_read 58 = .ok (.aload_n 0, 1) := by decide +kernel
theorem dX1_read_59 : decode cX1_read 59 = .ok (.getfield 28, 3) := by decide +kernel
theorem dX1_read_62 : decode cX1_read 62 = .ok (.invokevirtual 49, 3) := by decide +kernel
theorem dX1_read_65 : decode cX1_read 65 = .ok (.bipush 40, 2) := by decide +kernel
theorem dX1_read_67 : decode cX1_read 67 = .ok (.if_icmp .ne 26, 3) := by decide +kernel
theorem dX1_read_70 : decode cX1_read 70 = .ok (.aload_n 0, 1) := by decide +kernel
theorem dX1_read_71 : decode cX1_read 71 = .ok (.iconst 1, 1) := by decide +kernel
theorem dX1_read_72 : decode cX1_read 72 = .ok (.invokevirtual 55, 3) := by decide +kernel
theorem dX1_read_75 : decode cX1_read 75 = .ok (.aload_n 0, 1) := by decide +kernel
theorem dX1_read_76 : decode cX1_read 76 = .ok (.getfield 39, 3) := by decide +kernel
theorem dX1_read_79 : decode cX1_read 79 = .ok (.ifCond .le 12, 3) := by decide +kernel
theorem dX1_read_82 : decode cX1_read 82 = .ok (.aload_n 0, 1) := by decide +kernel
theorem dX1_read_83 : decode cX1_read 83 = .ok (.getfield 18, 3) := by decide +kernel
theorem dX1_read_86 : decode cX1_read 86 = .ok (.iconst 0, 1) := by decide +kernel
theorem dX1_read_87 : decode cX1_read 87 = .ok (.iaload, 1) := by decide +kernel
theorem dX1_read_88 : decode cX1_read 88 = .ok (.goto 4, 3) := by decide +kernel
theorem dX1_read_91 : decode cX1_read 91 = .ok (.iconst (-1), 1) := by decide +kernel
theorem dX1_read_92 : decode cX1_read 92 = .ok (.ireturn, 1) := by decide +kernel
theorem dX1_read_93 : decode cX1_read 93 = .ok (.iload_n 3, 1) := by decide +kernel
theorem dX1_read_94 : decode cX1_read 94 = .ok (.iconst 2, 1) := by decide +kernel
theorem dX1_read_95 : decode cX1_read 95 = .ok (.if_icmp .ne 12, 3) := by decide +kernel
theorem dX1_read_98 : decode cX1_read 98 = .ok (.aload_n 0, 1) := by decide +kernel
theorem dX1_read_99 : decode cX1_read 99 = .ok (.iload_n 2, 1) := by decide +kernel
theorem dX1_read_100 : decode cX1_read 100 = .ok (.invokevirtual 59, 3) := by decide +kernel
theorem dX1_read_103 : decode cX1_read 103 = .ok (.istore_n 3, 1) := by decide +kernel
theorem dX1_read_104 : decode cX1_read 104 = .ok (.goto 22, 3) := by decide +kernel
theorem dX1_read_107 : decode cX1_read 107 = .ok (.iload_n 2, 1) := by decide +kernel
theorem dX1_read_108 : decode cX1_read 108 = .ok (.ifCond .eq 12, 3) := by decide +kernel
theorem dX1_read_111 : decode cX1_read 111 = .ok (.aload_n 0, 1) := by decide +kernel
theorem dX1_read_112 : decode cX1_read 112 = .ok (.aload_n 1, 1) := by decide +kernel
theorem dX1_read_113 : decode cX1_read 113 = .ok (.iload_n 3, 1) := by decide +kernel
theorem dX1_read_114 : decode cX1_read 114 = .ok (.invokevirtual 63, 3) := by decide +kernel
theorem dX1_read_117 : decode cX1_read 117 = .ok (.goto 8, 3) := by decide +kernel
theorem dX1_read_120 : decode cX1_read 120 = .ok (.aload_n 0, 1) := by decide +kernel
theorem dX1_read_121 : decode cX1_read 121 = .ok (.iload_n 3, 1) := by decide +kernel
theorem dX1_read_122 : decode cX1_read 122 = .ok (.invokevirtual 67, 3) := by decide +kernel
theorem dX1_read_125 : decode cX1_read 125 = .ok (.istore_n 3, 1) := by decide +kernel
theorem dX1_read_126 : decode cX1_read 126 = .ok (.iinc 4 1, 3) := by decide +kernel
theorem dX1_read_129 : decode cX1_read 129 = .ok (.goto (-96), 3) := by decide +kernel
theorem dX1_read_132 : decode cX1_read 132 = .ok (.iconst (-1), 1) := by decide +kernel
theorem dX1_read_133 : decode cX1_read 133 = .ok (.ireturn, 1) := by decide +kernel
theorem dX1_wrong_0 : decode cX1_wrong 0 = .ok (.aload_n 0, 1) := by decide +kernel
theorem dX1_wrong_1 : decode cX1_wrong 1 = .ok (.getfield 28, 3) := by decide +kernel
theorem dX1_wrong_4 : decode cX1_wrong 4 = .ok (.iload_n 1, 1) := by decide +kernel
theorem dX1_wrong_5 : decode cX1_wrong 5 = .ok (.invokevirtual 71, 3) := by decide +kernel
theorem dX1_wrong_8 : decode cX1_wrong 8 = .ok (.pop, 1) := by decide +kernel
theorem dX1_wrong_9 : decode cX1_wrong 9 = .ok (.iconst 3, 1) := by decide +kernel
theorem dX1_wrong_10 : decode cX1_wrong 10 = .ok (.ireturn, 1) := by decide +kernel
theorem dX1_mayBegin_0 : decode cX1_mayBegin 0 = .ok (.aload_n 0, 1) := by decide +kernel
theorem dX1_mayBegin_1 : decode cX1_mayBegin 1 = .ok (.getfield 24, 3) := by decide +kernel
theorem dX1_mayBegin_4 : decode cX1_mayBegin 4 = .ok (.getfield 75, 3) := by decide +kernel
theorem dX1_mayBegin_7 : decode cX1_mayBegin 7 = .ok (.bipush 64, 2) := by decide +kernel
theorem dX1_mayBegin_9 : decode cX1_mayBegin 9 = .ok (.if_icmp .lt 12, 3) := by decide +kernel
theorem dX1_mayBegin_12 : decode cX1_mayBegin 12 = .ok (.aload_n 0, 1) := by decide +kernel
theorem dX1_mayBegin_13 : decode cX1_mayBegin 13 = .ok (.getfield 28, 3) := by decide +kernel
theorem dX1_mayBegin_16 : decode cX1_mayBegin 16 = .ok (.iconst 2, 1) := by decide +kernel
theorem dX1_mayBegin_17 : decode cX1_mayBegin 17 = .ok (.invokevirtual 71, 3) := by decide +kernel
theorem dX1_mayBegin_20 : decode cX1_mayBegin 20 = .ok (.ireturn, 1) := by decide +kernel
theorem dX1_mayBegin_21 : decode cX1_mayBegin 21 = .ok (.aload_n 0, 1) := by decide +kernel
theorem dX1_mayBegin_22 : decode cX1_mayBegin 22 = .ok (.getfield 24, 3) := by decide +kernel
theorem dX1_mayBegin_25 : decode cX1_mayBegin 25 = .ok (.dup, 1) := by decide +kernel
theorem dX1_mayBegin_26 : decode cX1_mayBegin 26 = .ok (.getfield 75, 3) := by decide +kernel
theorem dX1_mayBegin_29 : decode cX1_mayBegin 29 = .ok (.iconst 1, 1) := by decide +kernel
theorem dX1_mayBegin_30 : decode cX1_mayBegin 30 = .ok (.iadd, 1) := by decide +kernel
theorem dX1_mayBegin_31 : decode cX1_mayBegin 31 = .ok (.putfield 75, 3) := by decide +kernel
theorem dX1_mayBegin_34 : decode cX1_mayBegin 34 = .ok (.iconst 1, 1) := by decide +kernel
theorem dX1_mayBegin_35 : decode cX1_mayBegin 35 = .ok (.ireturn, 1) := by decide +kernel
theorem dX1_readFact_0 : decode cX1_readFact 0 = .ok (.aload_n 0, 1) := by decide +kernel
theorem dX1_readFact_1 : decode cX1_readFact 1 = .ok (.getfield 28, 3) := by decide +kernel
theorem dX1_readFact_4 : decode cX1_readFact 4 = .ok (.invokevirtual 49, 3) := by decide +kernel
theorem dX1_readFact_7 : decode cX1_readFact 7 = .ok (.istore_n 3, 1) := by decide +kernel
theorem dX1_readFact_8 : decode cX1_readFact 8 = .ok (.iload_n 3, 1) := by decide +kernel
theorem dX1_readFact_9 : decode cX1_readFact 9 = .ok (.tableswitch 97 14 20 #[43, 43, 61, 78, 78, 43, 43], 43) := by decide +kernel
theorem dX1_readFact_52 : decode cX1_readFact 52 = .ok (.aload_n 0, 1) := by decide +kernel
theorem dX1_readFact_53 : decode cX1_readFact 53 = .ok (.invokevirtual 78, 3) := by decide +kernel
theorem dX1_readFact_56 : decode cX1_readFact 56 = .ok (.ifCond .eq 12, 3) := by decide +kernel
theorem dX1_readFact_59 : decode cX1_readFact 59 = .ok (.aload_n 0, 1) := by decide +kernel
theorem dX1_readFact_60 : decode cX1_readFact 60 = .ok (.aload_n 1, 1) := by decide +kernel
theorem dX1_readFact_61 : decode cX1_readFact 61 = .ok (.iload_n 3, 1) := by decide +kernel
theorem dX1_readFact_62 : decode cX1_readFact 62 = .ok (.invokevirtual 82, 3) := by decide +kernel
theorem dX1_readFact_65 : decode cX1_readFact 65 = .ok (.goto 4, 3) := by decide +kernel
theorem dX1_readFact_68 : decode cX1_readFact 68 = .ok (.iconst 3, 1) := by decide +kernel
theorem dX1_readFact_69 : decode cX1_readFact 69 = .ok (.ireturn, 1) := by decide +kernel
theorem dX1_readFact_70 : decode cX1_readFact 70 = .ok (.aload_n 0, 1) := by decide +kernel
theorem dX1_readFact_71 : decode cX1_readFact 71 = .ok (.invokevirtual 78, 3) := by decide +kernel
theorem dX1_readFact_74 : decode cX1_readFact 74 = .ok (.ifCond .eq 11, 3) := by decide +kernel
theorem dX1_readFact_77 : decode cX1_readFact 77 = .ok (.aload_n 0, 1) := by decide +kernel
theorem dX1_readFact_78 : decode cX1_readFact 78 = .ok (.aload_n 1, 1) := by decide +kernel
theorem dX1_readFact_79 : decode cX1_readFact 79 = .ok (.invokevirtual 85, 3) := by decide +kernel
theorem dX1_readFact_82 : decode cX1_readFact 82 = .ok (.goto 4, 3) := by decide +kernel
theorem dX1_readFact_85 : decode cX1_readFact 85 = .ok (.iconst 3, 1) := by decide +kernel
theorem dX1_readFact_86 : decode cX1_readFact 86 = .ok (.ireturn, 1) := by decide +kernel
theorem dX1_readFact_87 : decode cX1_readFact 87 = .ok (.aload_n 0, 1) := by decide +kernel
theorem dX1_readFact_88 : decode cX1_readFact 88 = .ok (.invokevirtual 78, 3) := by decide +kernel
theorem dX1_readFact_91 : decode cX1_readFact 91 = .ok (.ifCond .eq 13, 3) := by decide +kernel
theorem dX1_readFact_94 : decode cX1_readFact 94 = .ok (.aload_n 0, 1) := by decide +kernel
theorem dX1_readFact_95 : decode cX1_readFact 95 = .ok (.iload_n 3, 1) := by decide +kernel
theorem dX1_readFact_96 : decode cX1_readFact 96 = .ok (.iconst 0, 1) := by decide +kernel
theorem dX1_readFact_97 : decode cX1_readFact 97 = .ok (.iconst 1, 1) := by decide +kernel
theorem dX1_readFact_98 : decode cX1_readFact 98 = .ok (.invokevirtual 89, 3) := by decide +kernel
theorem dX1_readFact_101 : decode cX1_readFact 101 = .ok (.goto 4, 3) := by decide +kernel
theorem dX1_readFact_104 : decode cX1_readFact 104 = .ok (.iconst 3, 1) := by decide +kernel
theorem dX1_readFact_105 : decode cX1_readFact 105 = .ok (.ireturn, 1) := by decide +kernel
theorem dX1_readFact_106 : decode cX1_readFact 106 = .ok (.aload_n 0, 1) := by decide +kernel
theorem dX1_readFact_107 : decode cX1_readFact 107 = .ok (.iload_n 3, 1) := by decide +kernel
theorem dX1_readFact_108 : decode cX1_readFact 108 = .ok (.iload_n 2, 1) := by decide +kernel
theorem dX1_readFact_109 : decode cX1_readFact 109 = .ok (.invokevirtual 93, 3) := by decide +kernel
theorem dX1_readFact_112 : decode cX1_readFact 112 = .ok (.ireturn, 1) := by decide +kernel
theorem dX1_readValue_0 : decode cX1_readValue 0 = .ok (.aload_n 0, 1) := by decide +kernel
theorem dX1_readValue_1 : decode cX1_readValue 1 = .ok (.getfield 28, 3) := by decide +kernel
theorem dX1_readValue_4 : decode cX1_readValue 4 = .ok (.invokevirtual 49, 3) := by decide +kernel
theorem dX1_readValue_7 : decode cX1_readValue 7 = .ok (.istore_n 2, 1) := by decide +kernel
theorem dX1_readValue_8 : decode cX1_readValue 8 = .ok (.iload_n 2, 1) := by decide +kernel
theorem dX1_readValue_9 : decode cX1_readValue 9 = .ok (.bipush 38, 2) := by decide +kernel
theorem dX1_readValue_11 : decode cX1_readValue 11 = .ok (.if_icmp .eq 22, 3) := by decide +kernel
theorem dX1_readValue_14 : decode cX1_readValue 14 = .ok (.iload_n 2, 1) := by decide +kernel
theorem dX1_readValue_15 : decode cX1_readValue 15 = .ok (.bipush 21, 2) := by decide +kernel
theorem dX1_readValue_17 : decode cX1_readValue 17 = .ok (.if_icmp .lt 9, 3) := by decide +kernel
theorem dX1_readValue_20 : decode cX1_readValue 20 = .ok (.iload_n 2, 1) := by decide +kernel
theorem dX1_readValue_21 : decode cX1_readValue 21 = .ok (.bipush 27, 2) := by decide +kernel
theorem dX1_readValue_23 : decode cX1_readValue 23 = .ok (.if_icmp .le 10, 3) := by decide +kernel
theorem dX1_readValue_26 : decode cX1_readValue 26 = .ok (.aload_n 0, 1) := by decide +kernel
theorem dX1_readValue_27 : decode cX1_readValue 27 = .ok (.iload_n 2, 1) := by decide +kernel
theorem dX1_readValue_28 : decode cX1_readValue 28 = .ok (.iload_n 1, 1) := by decide +kernel
theorem dX1_readValue_29 : decode cX1_readValue 29 = .ok (.invokevirtual 93, 3) := by decide +kernel
theorem dX1_readValue_32 : decode cX1_readValue 32 = .ok (.ireturn, 1) := by decide +kernel
theorem dX1_readValue_33 : decode cX1_readValue 33 = .ok (.iload_n 2, 1) := by decide +kernel
theorem dX1_readValue_34 : decode cX1_readValue 34 = .ok (.bipush 38, 2) := by decide +kernel
theorem dX1_readValue_36 : decode cX1_readValue 36 = .ok (.if_icmp .ne 16, 3) := by decide +kernel
theorem dX1_readValue_39 : decode cX1_readValue 39 = .ok (.aload_n 0, 1) := by decide +kernel
theorem dX1_readValue_40 : decode cX1_readValue 40 = .ok (.getfield 28, 3) := by decide +kernel
theorem dX1_readValue_43 : decode cX1_readValue 43 = .ok (.sipush 9999, 3) := by decide +kernel
theorem dX1_readValue_46 : decode cX1_readValue 46 = .ok (.invokevirtual 97, 3) := by decide +kernel
theorem dX1_readValue_49 : decode cX1_readValue 49 = .ok (.ifCond .eq 10, 3) := by decide +kernel
theorem dX1_readValue_52 : decode cX1_readValue 52 = .ok (.aload_n 0, 1) := by decide +kernel
theorem dX1_readValue_53 : decode cX1_readValue 53 = .ok (.invokevirtual 78, 3) := by decide +kernel
theorem dX1_readValue_56 : decode cX1_readValue 56 = .ok (.ifCond .ne 5, 3) := by decide +kernel
theorem dX1_readValue_59 : decode cX1_readValue 59 = .ok (.iconst 3, 1) := by decide +kernel
theorem dX1_readValue_60 : decode cX1_readValue 60 = .ok (.ireturn, 1) := by decide +kernel
theorem dX1_readValue_61 : decode cX1_readValue 61 = .ok (.aload_n 0, 1) := by decide +kernel
theorem dX1_readValue_62 : decode cX1_readValue 62 = .ok (.aload_n 0, 1) := by decide +kernel
theorem dX1_readValue_63 : decode cX1_readValue 63 = .ok (.getfield 24, 3) := by decide +kernel
theorem dX1_readValue_66 : decode cX1_readValue 66 = .ok (.iload_n 2, 1) := by decide +kernel
theorem dX1_readValue_67 : decode cX1_readValue 67 = .ok (.iload_n 2, 1) := by decide +kernel
theorem dX1_readValue_68 : decode cX1_readValue 68 = .ok (.bipush 38, 2) := by decide +kernel
theorem dX1_readValue_70 : decode cX1_readValue 70 = .ok (.if_icmp .ne 13, 3) := by decide +kernel
theorem dX1_readValue_73 : decode cX1_readValue 73 = .ok (.aload_n 0, 1) := by decide +kernel
theorem dX1_readValue_74 : decode cX1_readValue 74 = .ok (.getfield 28, 3) := by decide +kernel
theorem dX1_readValue_77 : decode cX1_readValue 77 = .ok (.invokevirtual 100, 3) := by decide +kernel
theorem dX1_readValue_80 : decode cX1_readValue 80 = .ok (.goto 4, 3) := by decide +kernel
theorem dX1_readValue_83 : decode cX1_readValue 83 = .ok (.iconst 0, 1) := by decide +kernel
theorem dX1_readValue_84 : decode cX1_readValue 84 = .ok (.iconst 0, 1) := by decide +kernel
theorem dX1_readValue_85 : decode cX1_readValue 85 = .ok (.invokevirtual 103, 3) := by decide +kernel
theorem dX1_readValue_88 : decode cX1_readValue 88 = .ok (.invokevirtual 106, 3) := by decide +kernel
theorem dX1_readValue_91 : decode cX1_readValue 91 = .ok (.aload_n 0, 1) := by decide +kernel
theorem dX1_readValue_92 : decode cX1_readValue 92 = .ok (.getfield 28, 3) := by decide +kernel
theorem dX1_readValue_95 : decode cX1_readValue 95 = .ok (.invokevirtual 109, 3) := by decide +kernel
theorem dX1_readValue_98 : decode cX1_readValue 98 = .ok (.iconst 2, 1) := by decide +kernel
theorem dX1_readValue_99 : decode cX1_readValue 99 = .ok (.ireturn, 1) := by decide +kernel
theorem dX1_readEither_0 : decode cX1_readEither 0 = .ok (.iload_n 1, 1) := by decide +kernel
theorem dX1_readEither_1 : decode cX1_readEither 1 = .ok (.bipush 13, 2) := by decide +kernel
theorem dX1_readEither_3 : decode cX1_readEither 3 = .ok (.if_icmp .ne 28, 3) := by decide +kernel
theorem dX1_readEither_6 : decode cX1_readEither 6 = .ok (.iload_n 2, 1) := by decide +kernel
theorem dX1_readEither_7 : decode cX1_readEither 7 = .ok (.iconst 1, 1) := by decide +kernel
theorem dX1_readEither_8 : decode cX1_readEither 8 = .ok (.if_icmp .eq 23, 3) := by decide +kernel
theorem dX1_readEither_11 : decode cX1_readEither 11 = .ok (.aload_n 0, 1) := by decide +kernel
theorem dX1_readEither_12 : decode cX1_readEither 12 = .ok (.invokevirtual 78, 3) := by decide +kernel
theorem dX1_readEither_15 : decode cX1_readEither 15 = .ok (.ifCond .eq 14, 3) := by decide +kernel
theorem dX1_readEither_18 : decode cX1_readEither 18 = .ok (.aload_n 0, 1) := by decide +kernel
theorem dX1_readEither_19 : decode cX1_readEither 19 = .ok (.bipush 13, 2) := by decide +kernel
theorem dX1_readEither_21 : decode cX1_readEither 21 = .ok (.iconst 0, 1) := by decide +kernel
theorem dX1_readEither_22 : decode cX1_readEither 22 = .ok (.iconst 0, 1) := by decide +kernel
theorem dX1_readEither_23 : decode cX1_readEither 23 = .ok (.invokevirtual 89, 3) := by decide +kernel
theorem dX1_readEither_26 : decode cX1_readEither 26 = .ok (.goto 4, 3) := by decide +kernel
theorem dX1_readEither_29 : decode cX1_readEither 29 = .ok (.iconst 3, 1) := by decide +kernel
theorem dX1_readEither_30 : decode cX1_readEither 30 = .ok (.ireturn, 1) := by decide +kernel
theorem dX1_readEither_31 : decode cX1_readEither 31 = .ok (.iload_n 1, 1) := by decide +kernel
theorem dX1_readEither_32 : decode cX1_readEither 32 = .ok (.bipush 41, 2) := by decide +kernel
theorem dX1_readEither_34 : decode cX1_readEither 34 = .ok (.if_icmp .eq 9, 3) := by decide +kernel
theorem dX1_readEither_37 : decode cX1_readEither 37 = .ok (.aload_n 0, 1) := by decide +kernel
theorem dX1_readEither_38 : decode cX1_readEither 38 = .ok (.iconst 1, 1) := by decide +kernel
theorem dX1_readEither_39 : decode cX1_readEither 39 = .ok (.invokevirtual 112, 3) := by decide +kernel
theorem dX1_readEither_42 : decode cX1_readEither 42 = .ok (.ireturn, 1) := by decide +kernel
theorem dX1_readEither_43 : decode cX1_readEither 43 = .ok (.aload_n 0, 1) := by decide +kernel
theorem dX1_readEither_44 : decode cX1_readEither 44 = .ok (.getfield 42, 3) := by decide +kernel
theorem dX1_readEither_47 : decode cX1_readEither 47 = .ok (.bipush 8, 2) := by decide +kernel
theorem dX1_readEither_49 : decode cX1_readEither 49 = .ok (.if_icmp .lt 9, 3) := by decide +kernel
theorem dX1_readEither_52 : decode cX1_readEither 52 = .ok (.aload_n 0, 1) := by decide +kernel
theorem dX1_readEither_53 : decode cX1_readEither 53 = .ok (.iconst 2, 1) := by decide +kernel
theorem dX1_readEither_54 : decode cX1_readEither 54 = .ok (.invokevirtual 112, 3) := by decide +kernel
theorem dX1_readEither_57 : decode cX1_readEither 57 = .ok (.ireturn, 1) := by decide +kernel
theorem dX1_readEither_58 : decode cX1_readEither 58 = .ok (.aload_n 0, 1) := by decide +kernel
theorem dX1_readEither_59 : decode cX1_readEither 59 = .ok (.dup, 1) := by decide +kernel
theorem dX1_readEither_60 : decode cX1_readEither 60 = .ok (.getfield 42, 3) := by decide +kernel
theorem dX1_readEither_63 : decode cX1_readEither 63 = .ok (.iconst 1, 1) := by decide +kernel
theorem dX1_readEither_64 : decode cX1_readEither 64 = .ok (.iadd, 1) := by decide +kernel
theorem dX1_readEither_65 : decode cX1_readEither 65 = .ok (.putfield 42, 3) := by decide +kernel
theorem dX1_readEither_68 : decode cX1_readEither 68 = .ok (.aload_n 0, 1) := by decide +kernel
theorem dX1_readEither_69 : decode cX1_readEither 69 = .ok (.bipush 41, 2) := by decide +kernel
theorem dX1_readEither_71 : decode cX1_readEither 71 = .ok (.iconst 0, 1) := by decide +kernel
theorem dX1_readEither_72 : decode cX1_readEither 72 = .ok (.iconst 0, 1) := by decide +kernel
theorem dX1_readEither_73 : decode cX1_readEither 73 = .ok (.invokevirtual 89, 3) := by decide +kernel
theorem dX1_readEither_76 : decode cX1_readEither 76 = .ok (.ireturn, 1) := by decide +kernel
theorem dX1_readKnows_0 : decode cX1_readKnows 0 = .ok (.aload_n 0, 1) := by decide +kernel
theorem dX1_readKnows_1 : decode cX1_readKnows 1 = .ok (.getfield 28, 3) := by decide +kernel
theorem dX1_readKnows_4 : decode cX1_readKnows 4 = .ok (.invokevirtual 109, 3) := by decide +kernel
theorem dX1_readKnows_7 : decode cX1_readKnows 7 = .ok (.aload_n 0, 1) := by decide +kernel
theorem dX1_readKnows_8 : decode cX1_readKnows 8 = .ok (.getfield 28, 3) := by decide +kernel
theorem dX1_readKnows_11 : decode cX1_readKnows 11 = .ok (.aload_n 1, 1) := by decide +kernel
theorem dX1_readKnows_12 : decode cX1_readKnows 12 = .ok (.getfield 115, 3) := by decide +kernel
theorem dX1_readKnows_15 : decode cX1_readKnows 15 = .ok (.invokevirtual 119, 3) := by decide +kernel
theorem dX1_readKnows_18 : decode cX1_readKnows 18 = .ok (.istore_n 2, 1) := by decide +kernel
theorem dX1_readKnows_19 : decode cX1_readKnows 19 = .ok (.iload_n 2, 1) := by decide +kernel
theorem dX1_readKnows_20 : decode cX1_readKnows 20 = .ok (.ifCond .ge 5, 3) := by decide +kernel
theorem dX1_readKnows_23 : decode cX1_readKnows 23 = .ok (.iconst 3, 1) := by decide +kernel
theorem dX1_readKnows_24 : decode cX1_readKnows 24 = .ok (.ireturn, 1) := by decide +kernel
theorem dX1_readKnows_25 : decode cX1_readKnows 25 = .ok (.aload_n 0, 1) := by decide +kernel
theorem dX1_readKnows_26 : decode cX1_readKnows 26 = .ok (.bipush 16, 2) := by decide +kernel
theorem dX1_readKnows_28 : decode cX1_readKnows 28 = .ok (.iload_n 2, 1) := by decide +kernel
theorem dX1_readKnows_29 : decode cX1_readKnows 29 = .ok (.iconst 1, 1) := by decide +kernel
theorem dX1_readKnows_30 : decode cX1_readKnows 30 = .ok (.invokevirtual 89, 3) := by decide +kernel
theorem dX1_readKnows_33 : decode cX1_readKnows 33 = .ok (.ireturn, 1) := by decide +kernel
theorem dX1_readLeaf_0 : decode cX1_readLeaf 0 = .ok (.aload_n 0, 1) := by decide +kernel
theorem dX1_readLeaf_1 : decode cX1_readLeaf 1 = .ok (.getfield 28, 3) := by decide +kernel
theorem dX1_readLeaf_4 : decode cX1_readLeaf 4 = .ok (.invokevirtual 109, 3) := by decide +kernel
theorem dX1_readLeaf_7 : decode cX1_readLeaf 7 = .ok (.iload_n 2, 1) := by decide +kernel
theorem dX1_readLeaf_8 : decode cX1_readLeaf 8 = .ok (.bipush 19, 2) := by decide +kernel
theorem dX1_readLeaf_10 : decode cX1_readLeaf 10 = .ok (.if_icmp .ne 10, 3) := by decide +kernel
theorem dX1_readLeaf_13 : decode cX1_readLeaf 13 = .ok (.aload_n 1, 1) := by decide +kernel
theorem dX1_readLeaf_14 : decode cX1_readLeaf 14 = .ok (.getfield 123, 3) := by decide +kernel
theorem dX1_readLeaf_17 : decode cX1_readLeaf 17 = .ok (.goto 20, 3) := by decide +kernel
theorem dX1_readLeaf_20 : decode cX1_readLeaf 20 = .ok (.iload_n 2, 1) := by decide +kernel
theorem dX1_readLeaf_21 : decode cX1_readLeaf 21 = .ok (.bipush 20, 2) := by decide +kernel
theorem dX1_readLeaf_23 : decode cX1_readLeaf 23 = .ok (.if_icmp .ne 10, 3) := by decide +kernel
theorem dX1_readLeaf_26 : decode cX1_readLeaf 26 = .ok (.aload_n 1, 1) := by decide +kernel
theorem dX1_readLeaf_27 : decode cX1_readLeaf 27 = .ok (.getfield 126, 3) := by decide +kernel
theorem dX1_readLeaf_30 : decode cX1_readLeaf 30 = .ok (.goto 7, 3) := by decide +kernel
theorem dX1_readLeaf_33 : decode cX1_readLeaf 33 = .ok (.aload_n 1, 1) := by decide +kernel
theorem dX1_readLeaf_34 : decode cX1_readLeaf 34 = .ok (.getfield 115, 3) := by decide +kernel
theorem dX1_readLeaf_37 : decode cX1_readLeaf 37 = .ok (.astore_n 3, 1) := by decide +kernel
theorem dX1_readLeaf_38 : decode cX1_readLeaf 38 = .ok (.aload_n 0, 1) := by decide +kernel
theorem dX1_readLeaf_39 : decode cX1_readLeaf 39 = .ok (.getfield 28, 3) := by decide +kernel
theorem dX1_readLeaf_42 : decode cX1_readLeaf 42 = .ok (.aload_n 3, 1) := by decide +kernel
theorem dX1_readLeaf_43 : decode cX1_readLeaf 43 = .ok (.invokevirtual 119, 3) := by decide +kernel
theorem dX1_readLeaf_46 : decode cX1_readLeaf 46 = .ok (.istore 4, 2) := by decide +kernel
theorem dX1_readLeaf_48 : decode cX1_readLeaf 48 = .ok (.iload 4, 2) := by decide +kernel
theorem dX1_readLeaf_50 : decode cX1_readLeaf 50 = .ok (.ifCond .ge 5, 3) := by decide +kernel
theorem dX1_readLeaf_53 : decode cX1_readLeaf 53 = .ok (.iconst 3, 1) := by decide +kernel
theorem dX1_readLeaf_54 : decode cX1_readLeaf 54 = .ok (.ireturn, 1) := by decide +kernel
theorem dX1_readLeaf_55 : decode cX1_readLeaf 55 = .ok (.aload_n 0, 1) := by decide +kernel
theorem dX1_readLeaf_56 : decode cX1_readLeaf 56 = .ok (.getfield 28, 3) := by decide +kernel
theorem dX1_readLeaf_59 : decode cX1_readLeaf 59 = .ok (.invokevirtual 109, 3) := by decide +kernel
theorem dX1_readLeaf_62 : decode cX1_readLeaf 62 = .ok (.iconst 0, 1) := by decide +kernel
theorem dX1_readLeaf_63 : decode cX1_readLeaf 63 = .ok (.istore 5, 2) := by decide +kernel
theorem dX1_readLeaf_65 : decode cX1_readLeaf 65 = .ok (.iload_n 2, 1) := by decide +kernel
theorem dX1_readLeaf_66 : decode cX1_readLeaf 66 = .ok (.bipush 14, 2) := by decide +kernel
theorem dX1_readLeaf_68 : decode cX1_readLeaf 68 = .ok (.if_icmp .ne 33, 3) := by decide +kernel
theorem dX1_readLeaf_71 : decode cX1_readLeaf 71 = .ok (.aload_n 0, 1) := by decide +kernel
theorem dX1_readLeaf_72 : decode cX1_readLeaf 72 = .ok (.getfield 28, 3) := by decide +kernel
theorem dX1_readLeaf_75 : decode cX1_readLeaf 75 = .ok (.aload_n 1, 1) := by decide +kernel
theorem dX1_readLeaf_76 : decode cX1_readLeaf 76 = .ok (.getfield 123, 3) := by decide +kernel
theorem dX1_readLeaf_79 : decode cX1_readLeaf 79 = .ok (.invokevirtual 119, 3) := by decide +kernel
theorem dX1_readLeaf_82 : decode cX1_readLeaf 82 = .ok (.istore 5, 2) := by decide +kernel
theorem dX1_readLeaf_84 : decode cX1_readLeaf 84 = .ok (.iload 5, 2) := by decide +kernel
theorem dX1_readLeaf_86 : decode cX1_readLeaf 86 = .ok (.ifCond .ge 5, 3) := by decide +kernel
theorem dX1_readLeaf_89 : decode cX1_readLeaf 89 = .ok (.iconst 3, 1) := by decide +kernel
theorem dX1_readLeaf_90 : decode cX1_readLeaf 90 = .ok (.ireturn, 1) := by decide +kernel
theorem dX1_readLeaf_91 : decode cX1_readLeaf 91 = .ok (.aload_n 0, 1) := by decide +kernel
theorem dX1_readLeaf_92 : decode cX1_readLeaf 92 = .ok (.getfield 28, 3) := by decide +kernel
theorem dX1_readLeaf_95 : decode cX1_readLeaf 95 = .ok (.invokevirtual 109, 3) := by decide +kernel
theorem dX1_readLeaf_98 : decode cX1_readLeaf 98 = .ok (.goto 73, 3) := by decide +kernel
theorem dX1_readLeaf_101 : decode cX1_readLeaf 101 = .ok (.iload_n 2, 1) := by decide +kernel
theorem dX1_readLeaf_102 : decode cX1_readLeaf 102 = .ok (.bipush 19, 2) := by decide +kernel
theorem dX1_readLeaf_104 : decode cX1_readLeaf 104 = .ok (.if_icmp .ne 36, 3) := by decide +kernel
theorem dX1_readLeaf_107 : decode cX1_readLeaf 107 = .ok (.aload_n 0, 1) := by decide +kernel
theorem dX1_readLeaf_108 : decode cX1_readLeaf 108 = .ok (.getfield 28, 3) := by decide +kernel
theorem dX1_readLeaf_111 : decode cX1_readLeaf 111 = .ok (.bipush 6, 2) := by decide +kernel
theorem dX1_readLeaf_113 : decode cX1_readLeaf 113 = .ok (.invokevirtual 97, 3) := by decide +kernel
theorem dX1_readLeaf_116 : decode cX1_readLeaf 116 = .ok (.ifCond .ne 5, 3) := by decide +kernel
theorem dX1_readLeaf_119 : decode cX1_readLeaf 119 = .ok (.iconst 3, 1) := by decide +kernel
theorem dX1_readLeaf_120 : decode cX1_readLeaf 120 = .ok (.ireturn, 1) := by decide +kernel
theorem dX1_readLeaf_121 : decode cX1_readLeaf 121 = .ok (.aload_n 0, 1) := by decide +kernel
theorem dX1_readLeaf_122 : decode cX1_readLeaf 122 = .ok (.getfield 28, 3) := by decide +kernel
theorem dX1_readLeaf_125 : decode cX1_readLeaf 125 = .ok (.invokevirtual 100, 3) := by decide +kernel
theorem dX1_readLeaf_128 : decode cX1_readLeaf 128 = .ok (.istore 5, 2) := by decide +kernel
theorem dX1_readLeaf_130 : decode cX1_readLeaf 130 = .ok (.aload_n 0, 1) := by decide +kernel
theorem dX1_readLeaf_131 : decode cX1_readLeaf 131 = .ok (.getfield 28, 3) := by decide +kernel
theorem dX1_readLeaf_134 : decode cX1_readLeaf 134 = .ok (.invokevirtual 109, 3) := by decide +kernel
theorem dX1_readLeaf_137 : decode cX1_readLeaf 137 = .ok (.goto 34, 3) := by decide +kernel
theorem dX1_readLeaf_140 : decode cX1_readLeaf 140 = .ok (.iload_n 2, 1) := by decide +kernel
theorem dX1_readLeaf_141 : decode cX1_readLeaf 141 = .ok (.bipush 20, 2) := by decide +kernel
theorem dX1_readLeaf_143 : decode cX1_readLeaf 143 = .ok (.if_icmp .ne 28, 3) := by decide +kernel
theorem dX1_readLeaf_146 : decode cX1_readLeaf 146 = .ok (.aload_n 0, 1) := by decide +kernel
theorem dX1_readLeaf_147 : decode cX1_readLeaf 147 = .ok (.dup, 1) := by decide +kernel
theorem dX1_readLeaf_148 : decode cX1_readLeaf 148 = .ok (.getfield 45, 3) := by decide +kernel
theorem dX1_readLeaf_151 : decode cX1_readLeaf 151 = .ok (.aload_n 1, 1) := by decide +kernel
theorem dX1_readLeaf_152 : decode cX1_readLeaf 152 = .ok (.getfield 129, 3) := by decide +kernel
theorem dX1_readLeaf_155 : decode cX1_readLeaf 155 = .ok (.iload 4, 2) := by decide +kernel
theorem dX1_readLeaf_157 : decode cX1_readLeaf 157 = .ok (.laload, 1) := by decide +kernel
theorem dX1_readLeaf_158 : decode cX1_readLeaf 158 = .ok (.lor, 1) := by decide +kernel
theorem dX1_readLeaf_159 : decode cX1_readLeaf 159 = .ok (.putfield 45, 3) := by decide +kernel
theorem dX1_readLeaf_162 : decode cX1_readLeaf 162 = .ok (.aload_n 1, 1) := by decide +kernel
theorem dX1_readLeaf_163 : decode cX1_readLeaf 163 = .ok (.getfield 132, 3) := by decide +kernel
theorem dX1_readLeaf_166 : decode cX1_readLeaf 166 = .ok (.iload 4, 2) := by decide +kernel
theorem dX1_readLeaf_168 : decode cX1_readLeaf 168 = .ok (.iaload, 1) := by decide +kernel
theorem dX1_readLeaf_169 : decode cX1_readLeaf 169 = .ok (.istore 5, 2) := by decide +kernel
theorem dX1_readLeaf_171 : decode cX1_readLeaf 171 = .ok (.aload_n 0, 1) := by decide +kernel
theorem dX1_readLeaf_172 : decode cX1_readLeaf 172 = .ok (.aload_n 0, 1) := by decide +kernel
theorem dX1_readLeaf_173 : decode cX1_readLeaf 173 = .ok (.getfield 24, 3) := by decide +kernel
theorem dX1_readLeaf_176 : decode cX1_readLeaf 176 = .ok (.iload_n 2, 1) := by decide +kernel
theorem dX1_readLeaf_177 : decode cX1_readLeaf 177 = .ok (.iload 4, 2) := by decide +kernel
theorem dX1_readLeaf_179 : decode cX1_readLeaf 179 = .ok (.iload 5, 2) := by decide +kernel
theorem dX1_readLeaf_181 : decode cX1_readLeaf 181 = .ok (.invokevirtual 103, 3) := by decide +kernel
theorem dX1_readLeaf_184 : decode cX1_readLeaf 184 = .ok (.invokevirtual 106, 3) := by decide +kernel
theorem dX1_readLeaf_187 : decode cX1_readLeaf 187 = .ok (.iconst 2, 1) := by decide +kernel
theorem dX1_readLeaf_188 : decode cX1_readLeaf 188 = .ok (.ireturn, 1) := by decide +kernel
theorem dX1_readSign_0 : decode cX1_readSign 0 = .ok (.aload_n 0, 1) := by decide +kernel
theorem dX1_readSign_1 : decode cX1_readSign 1 = .ok (.getfield 28, 3) := by decide +kernel
theorem dX1_readSign_4 : decode cX1_readSign 4 = .ok (.invokevirtual 49, 3) := by decide +kernel
theorem dX1_readSign_7 : decode cX1_readSign 7 = .ok (.istore_n 2, 1) := by decide +kernel
theorem dX1_readSign_8 : decode cX1_readSign 8 = .ok (.iload_n 2, 1) := by decide +kernel
theorem dX1_readSign_9 : decode cX1_readSign 9 = .ok (.bipush 42, 2) := by decide +kernel
theorem dX1_readSign_11 : decode cX1_readSign 11 = .ok (.if_icmp .ne 44, 3) := by decide +kernel
theorem dX1_readSign_14 : decode cX1_readSign 14 = .ok (.aload_n 0, 1) := by decide +kernel
theorem dX1_readSign_15 : decode cX1_readSign 15 = .ok (.getfield 42, 3) := by decide +kernel
theorem dX1_readSign_18 : decode cX1_readSign 18 = .ok (.ifCond .le 37, 3) := by decide +kernel
theorem dX1_readSign_21 : decode cX1_readSign 21 = .ok (.aload_n 0, 1) := by decide +kernel
theorem dX1_readSign_22 : decode cX1_readSign 22 = .ok (.iconst 1, 1) := by decide +kernel
theorem dX1_readSign_23 : decode cX1_readSign 23 = .ok (.invokevirtual 55, 3) := by decide +kernel
theorem dX1_readSign_26 : decode cX1_readSign 26 = .ok (.aload_n 0, 1) := by decide +kernel
theorem dX1_readSign_27 : decode cX1_readSign 27 = .ok (.dup, 1) := by decide +kernel
theorem dX1_readSign_28 : decode cX1_readSign 28 = .ok (.getfield 35, 3) := by decide +kernel
theorem dX1_readSign_31 : decode cX1_readSign 31 = .ok (.iconst 1, 1) := by decide +kernel
theorem dX1_readSign_32 : decode cX1_readSign 32 = .ok (.isub, 1) := by decide +kernel
theorem dX1_readSign_33 : decode cX1_readSign 33 = .ok (.putfield 35, 3) := by decide +kernel
theorem dX1_readSign_36 : decode cX1_readSign 36 = .ok (.aload_n 0, 1) := by decide +kernel
theorem dX1_readSign_37 : decode cX1_readSign 37 = .ok (.dup, 1) := by decide +kernel
theorem dX1_readSign_38 : decode cX1_readSign 38 = .ok (.getfield 42, 3) := by decide +kernel
theorem dX1_readSign_41 : decode cX1_readSign 41 = .ok (.iconst 1, 1) := by decide +kernel
theorem dX1_readSign_42 : decode cX1_readSign 42 = .ok (.isub, 1) := by decide +kernel
theorem dX1_readSign_43 : decode cX1_readSign 43 = .ok (.putfield 42, 3) := by decide +kernel
theorem dX1_readSign_46 : decode cX1_readSign 46 = .ok (.aload_n 0, 1) := by decide +kernel
theorem dX1_readSign_47 : decode cX1_readSign 47 = .ok (.getfield 28, 3) := by decide +kernel
theorem dX1_readSign_50 : decode cX1_readSign 50 = .ok (.invokevirtual 109, 3) := by decide +kernel
theorem dX1_readSign_53 : decode cX1_readSign 53 = .ok (.iconst 2, 1) := by decide +kernel
theorem dX1_readSign_54 : decode cX1_readSign 54 = .ok (.ireturn, 1) := by decide +kernel
theorem dX1_readSign_55 : decode cX1_readSign 55 = .ok (.iload_n 2, 1) := by decide +kernel
theorem dX1_readSign_56 : decode cX1_readSign 56 = .ok (.bipush 13, 2) := by decide +kernel
theorem dX1_readSign_58 : decode cX1_readSign 58 = .ok (.if_icmp .ne 7, 3) := by decide +kernel
theorem dX1_readSign_61 : decode cX1_readSign 61 = .ok (.iconst 0, 1) := by decide +kernel
theorem dX1_readSign_62 : decode cX1_readSign 62 = .ok (.goto 7, 3) := by decide +kernel
theorem dX1_readSign_65 : decode cX1_readSign 65 = .ok (.iload_n 2, 1) := by decide +kernel
theorem dX1_readSign_66 : decode cX1_readSign 66 = .ok (.invokestatic 135, 3) := by decide +kernel
theorem dX1_readSign_69 : decode cX1_readSign 69 = .ok (.istore_n 3, 1) := by decide +kernel
theorem dX1_readSign_70 : decode cX1_readSign 70 = .ok (.iload_n 3, 1) := by decide +kernel
theorem dX1_readSign_71 : decode cX1_readSign 71 = .ok (.ifCond .eq 17, 3) := by decide +kernel
theorem dX1_readSign_74 : decode cX1_readSign 74 = .ok (.iload_n 3, 1) := by decide +kernel
theorem dX1_readSign_75 : decode cX1_readSign 75 = .ok (.iload_n 1, 1) := by decide +kernel
theorem dX1_readSign_76 : decode cX1_readSign 76 = .ok (.ifCond .eq 7, 3) := by decide +kernel
theorem dX1_readSign_79 : decode cX1_readSign 79 = .ok (.iconst 2, 1) := by decide +kernel
theorem dX1_readSign_80 : decode cX1_readSign 80 = .ok (.goto 5, 3) := by decide +kernel
theorem dX1_readSign_83 : decode cX1_readSign 83 = .ok (.bipush 6, 2) := by decide +kernel
theorem dX1_readSign_85 : decode cX1_readSign 85 = .ok (.if_icmp .le 9, 3) := by decide +kernel
theorem dX1_readSign_88 : decode cX1_readSign 88 = .ok (.aload_n 0, 1) := by decide +kernel
theorem dX1_readSign_89 : decode cX1_readSign 89 = .ok (.iconst 1, 1) := by decide +kernel
theorem dX1_readSign_90 : decode cX1_readSign 90 = .ok (.invokevirtual 112, 3) := by decide +kernel
theorem dX1_readSign_93 : decode cX1_readSign 93 = .ok (.ireturn, 1) := by decide +kernel
theorem dX1_readSign_94 : decode cX1_readSign 94 = .ok (.iload_n 3, 1) := by decide +kernel
theorem dX1_readSign_95 : decode cX1_readSign 95 = .ok (.iconst 4, 1) := by decide +kernel
theorem dX1_readSign_96 : decode cX1_readSign 96 = .ok (.if_icmp .ne 7, 3) := by decide +kernel
theorem dX1_readSign_99 : decode cX1_readSign 99 = .ok (.iconst 1, 1) := by decide +kernel
theorem dX1_readSign_100 : decode cX1_readSign 100 = .ok (.goto 4, 3) := by decide +kernel
theorem dX1_readSign_103 : decode cX1_readSign 103 = .ok (.iconst 0, 1) := by decide +kernel
theorem dX1_readSign_104 : decode cX1_readSign 104 = .ok (.istore 4, 2) := by decide +kernel
theorem dX1_readSign_106 : decode cX1_readSign 106 = .ok (.aload_n 0, 1) := by decide +kernel
theorem dX1_readSign_107 : decode cX1_readSign 107 = .ok (.iload 4, 2) := by decide +kernel
theorem dX1_readSign_109 : decode cX1_readSign 109 = .ok (.ifCond .eq 9, 3) := by decide +kernel
theorem dX1_readSign_112 : decode cX1_readSign 112 = .ok (.iload_n 3, 1) := by decide +kernel
theorem dX1_readSign_113 : decode cX1_readSign 113 = .ok (.iconst 1, 1) := by decide +kernel
theorem dX1_readSign_114 : decode cX1_readSign 114 = .ok (.iadd, 1) := by decide +kernel
theorem dX1_readSign_115 : decode cX1_readSign 115 = .ok (.goto 4, 3) := by decide +kernel
theorem dX1_readSign_118 : decode cX1_readSign 118 = .ok (.iload_n 3, 1) := by decide +kernel
theorem dX1_readSign_119 : decode cX1_readSign 119 = .ok (.invokevirtual 55, 3) := by decide +kernel
theorem dX1_readSign_122 : decode cX1_readSign 122 = .ok (.iload 4, 2) := by decide +kernel
theorem dX1_readSign_124 : decode cX1_readSign 124 = .ok (.ifCond .eq 34, 3) := by decide +kernel
theorem dX1_readSign_127 : decode cX1_readSign 127 = .ok (.aload_n 0, 1) := by decide +kernel
theorem dX1_readSign_128 : decode cX1_readSign 128 = .ok (.getfield 35, 3) := by decide +kernel
theorem dX1_readSign_131 : decode cX1_readSign 131 = .ok (.ifCond .le 27, 3) := by decide +kernel
theorem dX1_readSign_134 : decode cX1_readSign 134 = .ok (.aload_n 0, 1) := by decide +kernel
theorem dX1_readSign_135 : decode cX1_readSign 135 = .ok (.getfield 9, 3) := by decide +kernel
theorem dX1_readSign_138 : decode cX1_readSign 138 = .ok (.aload_n 0, 1) := by decide +kernel
theorem dX1_readSign_139 : decode cX1_readSign 139 = .ok (.getfield 35, 3) := by decide +kernel
theorem dX1_readSign_142 : decode cX1_readSign 142 = .ok (.iconst 1, 1) := by decide +kernel
theorem dX1_readSign_143 : decode cX1_readSign 143 = .ok (.isub, 1) := by decide +kernel
theorem dX1_readSign_144 : decode cX1_readSign 144 = .ok (.iaload, 1) := by decide +kernel
theorem dX1_readSign_145 : decode cX1_readSign 145 = .ok (.invokestatic 135, 3) := by decide +kernel
theorem dX1_readSign_148 : decode cX1_readSign 148 = .ok (.iconst 4, 1) := by decide +kernel
theorem dX1_readSign_149 : decode cX1_readSign 149 = .ok (.if_icmp .ne 9, 3) := by decide +kernel
theorem dX1_readSign_152 : decode cX1_readSign 152 = .ok (.aload_n 0, 1) := by decide +kernel
theorem dX1_readSign_153 : decode cX1_readSign 153 = .ok (.iconst 1, 1) := by decide +kernel
theorem dX1_readSign_154 : decode cX1_readSign 154 = .ok (.invokevirtual 112, 3) := by decide +kernel
theorem dX1_readSign_157 : decode cX1_readSign 157 = .ok (.ireturn, 1) := by decide +kernel
theorem dX1_readSign_158 : decode cX1_readSign 158 = .ok (.aload_n 0, 1) := by decide +kernel
theorem dX1_readSign_159 : decode cX1_readSign 159 = .ok (.invokevirtual 78, 3) := by decide +kernel
theorem dX1_readSign_162 : decode cX1_readSign 162 = .ok (.ifCond .eq 22, 3) := by decide +kernel
theorem dX1_readSign_165 : decode cX1_readSign 165 = .ok (.aload_n 0, 1) := by decide +kernel
theorem dX1_readSign_166 : decode cX1_readSign 166 = .ok (.iload_n 2, 1) := by decide +kernel
theorem dX1_readSign_167 : decode cX1_readSign 167 = .ok (.iconst 0, 1) := by decide +kernel
theorem dX1_readSign_168 : decode cX1_readSign 168 = .ok (.iload_n 3, 1) := by decide +kernel
theorem dX1_readSign_169 : decode cX1_readSign 169 = .ok (.iconst 2, 1) := by decide +kernel
theorem dX1_readSign_170 : decode cX1_readSign 170 = .ok (.if_icmp .gt 7, 3) := by decide +kernel
theorem dX1_readSign_173 : decode cX1_readSign 173 = .ok (.iconst 0, 1) := by decide +kernel
theorem dX1_readSign_174 : decode cX1_readSign 174 = .ok (.goto 4, 3) := by decide +kernel
theorem dX1_readSign_177 : decode cX1_readSign 177 = .ok (.iconst 1, 1) := by decide +kernel
theorem dX1_readSign_178 : decode cX1_readSign 178 = .ok (.invokevirtual 89, 3) := by decide +kernel
theorem dX1_readSign_181 : decode cX1_readSign 181 = .ok (.goto 4, 3) := by decide +kernel
theorem dX1_readSign_184 : decode cX1_readSign 184 = .ok (.iconst 3, 1) := by decide +kernel
theorem dX1_readSign_185 : decode cX1_readSign 185 = .ok (.ireturn, 1) := by decide +kernel
theorem dX1_strengthOf_0 : decode cX1_strengthOf 0 = .ok (.iload_n 0, 1) := by decide +kernel
theorem dX1_strengthOf_1 : decode cX1_strengthOf 1 = .ok (.tableswitch 139 11 37 #[123, 125, 127, 139, 139, 136, 136, 136, 139, 139, 139, 139, 139, 139, 139, 139, 139, 131, 131, 133, 133, 129, 129, 129, 129, 129, 129], 123) := by decide +kernel
theorem dX1_strengthOf_124 : decode cX1_strengthOf 124 = .ok (.iconst 1, 1) := by decide +kernel
theorem dX1_strengthOf_125 : decode cX1_strengthOf 125 = .ok (.ireturn, 1) := by decide +kernel
theorem dX1_strengthOf_126 : decode cX1_strengthOf 126 = .ok (.iconst 2, 1) := by decide +kernel
theorem dX1_strengthOf_127 : decode cX1_strengthOf 127 = .ok (.ireturn, 1) := by decide +kernel
theorem dX1_strengthOf_128 : decode cX1_strengthOf 128 = .ok (.iconst 3, 1) := by decide +kernel
theorem dX1_strengthOf_129 : decode cX1_strengthOf 129 = .ok (.ireturn, 1) := by decide +kernel
theorem dX1_strengthOf_130 : decode cX1_strengthOf 130 = .ok (.iconst 4, 1) := by decide +kernel
theorem dX1_strengthOf_131 : decode cX1_strengthOf 131 = .ok (.ireturn, 1) := by decide +kernel
theorem dX1_strengthOf_132 : decode cX1_strengthOf 132 = .ok (.iconst 5, 1) := by decide +kernel
theorem dX1_strengthOf_133 : decode cX1_strengthOf 133 = .ok (.ireturn, 1) := by decide +kernel
theorem dX1_strengthOf_134 : decode cX1_strengthOf 134 = .ok (.bipush 6, 2) := by decide +kernel
theorem dX1_strengthOf_136 : decode cX1_strengthOf 136 = .ok (.ireturn, 1) := by decide +kernel
theorem dX1_strengthOf_137 : decode cX1_strengthOf 137 = .ok (.bipush 7, 2) := by decide +kernel
theorem dX1_strengthOf_139 : decode cX1_strengthOf 139 = .ok (.ireturn, 1) := by decide +kernel
theorem dX1_strengthOf_140 : decode cX1_strengthOf 140 = .ok (.iconst 0, 1) := by decide +kernel
theorem dX1_strengthOf_141 : decode cX1_strengthOf 141 = .ok (.ireturn, 1) := by decide +kernel
theorem dX1_hold_0 : decode cX1_hold 0 = .ok (.aload_n 0, 1) := by decide +kernel
theorem dX1_hold_1 : decode cX1_hold 1 = .ok (.getfield 35, 3) := by decide +kernel
theorem dX1_hold_4 : decode cX1_hold 4 = .ok (.aload_n 0, 1) := by decide +kernel
theorem dX1_hold_5 : decode cX1_hold 5 = .ok (.getfield 9, 3) := by decide +kernel
theorem dX1_hold_8 : decode cX1_hold 8 = .ok (.arraylength, 1) := by decide +kernel
theorem dX1_hold_9 : decode cX1_hold 9 = .ok (.if_icmp .ge 33, 3) := by decide +kernel
theorem dX1_hold_12 : decode cX1_hold 12 = .ok (.aload_n 0, 1) := by decide +kernel
theorem dX1_hold_13 : decode cX1_hold 13 = .ok (.getfield 9, 3) := by decide +kernel
theorem dX1_hold_16 : decode cX1_hold 16 = .ok (.aload_n 0, 1) := by decide +kernel
theorem dX1_hold_17 : decode cX1_hold 17 = .ok (.getfield 35, 3) := by decide +kernel
theorem dX1_hold_20 : decode cX1_hold 20 = .ok (.iload_n 1, 1) := by decide +kernel
theorem dX1_hold_21 : decode cX1_hold 21 = .ok (.iastore, 1) := by decide +kernel
theorem dX1_hold_22 : decode cX1_hold 22 = .ok (.aload_n 0, 1) := by decide +kernel
theorem dX1_hold_23 : decode cX1_hold 23 = .ok (.getfield 15, 3) := by decide +kernel
theorem dX1_hold_26 : decode cX1_hold 26 = .ok (.aload_n 0, 1) := by decide +kernel
theorem dX1_hold_27 : decode cX1_hold 27 = .ok (.getfield 35, 3) := by decide +kernel
theorem dX1_hold_30 : decode cX1_hold 30 = .ok (.iload_n 2, 1) := by decide +kernel
theorem dX1_hold_31 : decode cX1_hold 31 = .ok (.iastore, 1) := by decide +kernel
theorem dX1_hold_32 : decode cX1_hold 32 = .ok (.aload_n 0, 1) := by decide +kernel
theorem dX1_hold_33 : decode cX1_hold 33 = .ok (.dup, 1) := by decide +kernel
theorem dX1_hold_34 : decode cX1_hold 34 = .ok (.getfield 35, 3) := by decide +kernel
theorem dX1_hold_37 : decode cX1_hold 37 = .ok (.iconst 1, 1) := by decide +kernel
theorem dX1_hold_38 : decode cX1_hold 38 = .ok (.iadd, 1) := by decide +kernel
theorem dX1_hold_39 : decode cX1_hold 39 = .ok (.putfield 35, 3) := by decide +kernel
theorem dX1_hold_42 : decode cX1_hold 42 = .ok (.aload_n 0, 1) := by decide +kernel
theorem dX1_hold_43 : decode cX1_hold 43 = .ok (.getfield 28, 3) := by decide +kernel
theorem dX1_hold_46 : decode cX1_hold 46 = .ok (.invokevirtual 109, 3) := by decide +kernel
theorem dX1_hold_49 : decode cX1_hold 49 = .ok (.iload_n 3, 1) := by decide +kernel
theorem dX1_hold_50 : decode cX1_hold 50 = .ok (.ireturn, 1) := by decide +kernel
theorem dX1_push_0 : decode cX1_push 0 = .ok (.aload_n 0, 1) := by decide +kernel
theorem dX1_push_1 : decode cX1_push 1 = .ok (.dup, 1) := by decide +kernel
theorem dX1_push_2 : decode cX1_push 2 = .ok (.getfield 45, 3) := by decide +kernel
theorem dX1_push_5 : decode cX1_push 5 = .ok (.lconst 1, 1) := by decide +kernel
theorem dX1_push_6 : decode cX1_push 6 = .ok (.iload_n 1, 1) := by decide +kernel
theorem dX1_push_7 : decode cX1_push 7 = .ok (.lshl, 1) := by decide +kernel
theorem dX1_push_8 : decode cX1_push 8 = .ok (.lor, 1) := by decide +kernel
theorem dX1_push_9 : decode cX1_push 9 = .ok (.putfield 45, 3) := by decide +kernel
theorem dX1_push_12 : decode cX1_push 12 = .ok (.aload_n 0, 1) := by decide +kernel
theorem dX1_push_13 : decode cX1_push 13 = .ok (.getfield 39, 3) := by decide +kernel
theorem dX1_push_16 : decode cX1_push 16 = .ok (.aload_n 0, 1) := by decide +kernel
theorem dX1_push_17 : decode cX1_push 17 = .ok (.getfield 18, 3) := by decide +kernel
theorem dX1_push_20 : decode cX1_push 20 = .ok (.arraylength, 1) := by decide +kernel
theorem dX1_push_21 : decode cX1_push 21 = .ok (.if_icmp .ge 23, 3) := by decide +kernel
theorem dX1_push_24 : decode cX1_push 24 = .ok (.aload_n 0, 1) := by decide +kernel
theorem dX1_push_25 : decode cX1_push 25 = .ok (.getfield 18, 3) := by decide +kernel
theorem dX1_push_28 : decode cX1_push 28 = .ok (.aload_n 0, 1) := by decide +kernel
theorem dX1_push_29 : decode cX1_push 29 = .ok (.getfield 39, 3) := by decide +kernel
theorem dX1_push_32 : decode cX1_push 32 = .ok (.iload_n 1, 1) := by decide +kernel
theorem dX1_push_33 : decode cX1_push 33 = .ok (.iastore, 1) := by decide +kernel
theorem dX1_push_34 : decode cX1_push 34 = .ok (.aload_n 0, 1) := by decide +kernel
theorem dX1_push_35 : decode cX1_push 35 = .ok (.dup, 1) := by decide +kernel
theorem dX1_push_36 : decode cX1_push 36 = .ok (.getfield 39, 3) := by decide +kernel
theorem dX1_push_39 : decode cX1_push 39 = .ok (.iconst 1, 1) := by decide +kernel
theorem dX1_push_40 : decode cX1_push 40 = .ok (.iadd, 1) := by decide +kernel
theorem dX1_push_41 : decode cX1_push 41 = .ok (.putfield 39, 3) := by decide +kernel
theorem dX1_push_44 : decode cX1_push 44 = .ok (.return_, 1) := by decide +kernel
theorem dX1_pop_0 : decode cX1_pop 0 = .ok (.aload_n 0, 1) := by decide +kernel
theorem dX1_pop_1 : decode cX1_pop 1 = .ok (.getfield 39, 3) := by decide +kernel
theorem dX1_pop_4 : decode cX1_pop 4 = .ok (.ifCond .gt 5, 3) := by decide +kernel
theorem dX1_pop_7 : decode cX1_pop 7 = .ok (.iconst 0, 1) := by decide +kernel
theorem dX1_pop_8 : decode cX1_pop 8 = .ok (.ireturn, 1) := by decide +kernel
theorem dX1_pop_9 : decode cX1_pop 9 = .ok (.aload_n 0, 1) := by decide +kernel
theorem dX1_pop_10 : decode cX1_pop 10 = .ok (.dup, 1) := by decide +kernel
theorem dX1_pop_11 : decode cX1_pop 11 = .ok (.getfield 39, 3) := by decide +kernel
theorem dX1_pop_14 : decode cX1_pop 14 = .ok (.iconst 1, 1) := by decide +kernel
theorem dX1_pop_15 : decode cX1_pop 15 = .ok (.isub, 1) := by decide +kernel
theorem dX1_pop_16 : decode cX1_pop 16 = .ok (.putfield 39, 3) := by decide +kernel
theorem dX1_pop_19 : decode cX1_pop 19 = .ok (.aload_n 0, 1) := by decide +kernel
theorem dX1_pop_20 : decode cX1_pop 20 = .ok (.getfield 18, 3) := by decide +kernel
theorem dX1_pop_23 : decode cX1_pop 23 = .ok (.aload_n 0, 1) := by decide +kernel
theorem dX1_pop_24 : decode cX1_pop 24 = .ok (.getfield 39, 3) := by decide +kernel
theorem dX1_pop_27 : decode cX1_pop 27 = .ok (.iaload, 1) := by decide +kernel
theorem dX1_pop_28 : decode cX1_pop 28 = .ok (.ireturn, 1) := by decide +kernel
theorem dX1_tieDownTo_0 : decode cX1_tieDownTo 0 = .ok (.aload_n 0, 1) := by decide +kernel
theorem dX1_tieDownTo_1 : decode cX1_tieDownTo 1 = .ok (.getfield 35, 3) := by decide +kernel
theorem dX1_tieDownTo_4 : decode cX1_tieDownTo 4 = .ok (.iconst 1, 1) := by decide +kernel
theorem dX1_tieDownTo_5 : decode cX1_tieDownTo 5 = .ok (.isub, 1) := by decide +kernel
theorem dX1_tieDownTo_6 : decode cX1_tieDownTo 6 = .ok (.istore_n 2, 1) := by decide +kernel
theorem dX1_tieDownTo_7 : decode cX1_tieDownTo 7 = .ok (.iload_n 2, 1) := by decide +kernel
theorem dX1_tieDownTo_8 : decode cX1_tieDownTo 8 = .ok (.ifCond .lt 107, 3) := by decide +kernel
theorem dX1_tieDownTo_11 : decode cX1_tieDownTo 11 = .ok (.aload_n 0, 1) := by decide +kernel
theorem dX1_tieDownTo_12 : decode cX1_tieDownTo 12 = .ok (.getfield 9, 3) := by decide +kernel
theorem dX1_tieDownTo_15 : decode cX1_tieDownTo 15 = .ok (.iload_n 2, 1) := by decide +kernel
theorem dX1_tieDownTo_16 : decode cX1_tieDownTo 16 = .ok (.iaload, 1) := by decide +kernel
theorem dX1_tieDownTo_17 : decode cX1_tieDownTo 17 = .ok (.invokestatic 135, 3) := by decide +kernel
theorem dX1_tieDownTo_20 : decode cX1_tieDownTo 20 = .ok (.iload_n 1, 1) := by decide +kernel
theorem dX1_tieDownTo_21 : decode cX1_tieDownTo 21 = .ok (.if_icmp .lt 94, 3) := by decide +kernel
theorem dX1_tieDownTo_24 : decode cX1_tieDownTo 24 = .ok (.aload_n 0, 1) := by decide +kernel
theorem dX1_tieDownTo_25 : decode cX1_tieDownTo 25 = .ok (.getfield 9, 3) := by decide +kernel
theorem dX1_tieDownTo_28 : decode cX1_tieDownTo 28 = .ok (.iload_n 2, 1) := by decide +kernel
theorem dX1_tieDownTo_29 : decode cX1_tieDownTo 29 = .ok (.iaload, 1) := by decide +kernel
theorem dX1_tieDownTo_30 : decode cX1_tieDownTo 30 = .ok (.istore_n 3, 1) := by decide +kernel
theorem dX1_tieDownTo_31 : decode cX1_tieDownTo 31 = .ok (.aload_n 0, 1) := by decide +kernel
theorem dX1_tieDownTo_32 : decode cX1_tieDownTo 32 = .ok (.iload_n 2, 1) := by decide +kernel
theorem dX1_tieDownTo_33 : decode cX1_tieDownTo 33 = .ok (.putfield 35, 3) := by decide +kernel
theorem dX1_tieDownTo_36 : decode cX1_tieDownTo 36 = .ok (.iload_n 3, 1) := by decide +kernel
theorem dX1_tieDownTo_37 : decode cX1_tieDownTo 37 = .ok (.bipush 16, 2) := by decide +kernel
theorem dX1_tieDownTo_39 : decode cX1_tieDownTo 39 = .ok (.if_icmp .eq 21, 3) := by decide +kernel
theorem dX1_tieDownTo_42 : decode cX1_tieDownTo 42 = .ok (.iload_n 3, 1) := by decide +kernel
theorem dX1_tieDownTo_43 : decode cX1_tieDownTo 43 = .ok (.bipush 17, 2) := by decide +kernel
theorem dX1_tieDownTo_45 : decode cX1_tieDownTo 45 = .ok (.if_icmp .eq 15, 3) := by decide +kernel
theorem dX1_tieDownTo_48 : decode cX1_tieDownTo 48 = .ok (.iload_n 3, 1) := by decide +kernel
theorem dX1_tieDownTo_49 : decode cX1_tieDownTo 49 = .ok (.bipush 18, 2) := by decide +kernel
theorem dX1_tieDownTo_51 : decode cX1_tieDownTo 51 = .ok (.if_icmp .eq 9, 3) := by decide +kernel
theorem dX1_tieDownTo_54 : decode cX1_tieDownTo 54 = .ok (.iload_n 3, 1) := by decide +kernel
theorem dX1_tieDownTo_55 : decode cX1_tieDownTo 55 = .ok (.bipush 13, 2) := by decide +kernel
theorem dX1_tieDownTo_57 : decode cX1_tieDownTo 57 = .ok (.if_icmp .ne 28, 3) := by decide +kernel
theorem dX1_tieDownTo_60 : decode cX1_tieDownTo 60 = .ok (.aload_n 0, 1) := by decide +kernel
theorem dX1_tieDownTo_61 : decode cX1_tieDownTo 61 = .ok (.aload_n 0, 1) := by decide +kernel
theorem dX1_tieDownTo_62 : decode cX1_tieDownTo 62 = .ok (.getfield 24, 3) := by decide +kernel
theorem dX1_tieDownTo_65 : decode cX1_tieDownTo 65 = .ok (.iload_n 3, 1) := by decide +kernel
theorem dX1_tieDownTo_66 : decode cX1_tieDownTo 66 = .ok (.aload_n 0, 1) := by decide +kernel
theorem dX1_tieDownTo_67 : decode cX1_tieDownTo 67 = .ok (.invokevirtual 138, 3) := by decide +kernel
theorem dX1_tieDownTo_70 : decode cX1_tieDownTo 70 = .ok (.aload_n 0, 1) := by decide +kernel
theorem dX1_tieDownTo_71 : decode cX1_tieDownTo 71 = .ok (.getfield 15, 3) := by decide +kernel
theorem dX1_tieDownTo_74 : decode cX1_tieDownTo 74 = .ok (.iload_n 2, 1) := by decide +kernel
theorem dX1_tieDownTo_75 : decode cX1_tieDownTo 75 = .ok (.iaload, 1) := by decide +kernel
theorem dX1_tieDownTo_76 : decode cX1_tieDownTo 76 = .ok (.invokevirtual 103, 3) := by decide +kernel
theorem dX1_tieDownTo_79 : decode cX1_tieDownTo 79 = .ok (.invokevirtual 106, 3) := by decide +kernel
theorem dX1_tieDownTo_82 : decode cX1_tieDownTo 82 = .ok (.goto 27, 3) := by decide +kernel
theorem dX1_tieDownTo_85 : decode cX1_tieDownTo 85 = .ok (.aload_n 0, 1) := by decide +kernel
theorem dX1_tieDownTo_86 : decode cX1_tieDownTo 86 = .ok (.invokevirtual 138, 3) := by decide +kernel
theorem dX1_tieDownTo_89 : decode cX1_tieDownTo 89 = .ok (.istore 4, 2) := by decide +kernel
theorem dX1_tieDownTo_91 : decode cX1_tieDownTo 91 = .ok (.aload_n 0, 1) := by decide +kernel
theorem dX1_tieDownTo_92 : decode cX1_tieDownTo 92 = .ok (.aload_n 0, 1) := by decide +kernel
theorem dX1_tieDownTo_93 : decode cX1_tieDownTo 93 = .ok (.getfield 24, 3) := by decide +kernel
theorem dX1_tieDownTo_96 : decode cX1_tieDownTo 96 = .ok (.iload_n 3, 1) := by decide +kernel
theorem dX1_tieDownTo_97 : decode cX1_tieDownTo 97 = .ok (.aload_n 0, 1) := by decide +kernel
theorem dX1_tieDownTo_98 : decode cX1_tieDownTo 98 = .ok (.invokevirtual 138, 3) := by decide +kernel
theorem dX1_tieDownTo_101 : decode cX1_tieDownTo 101 = .ok (.iload 4, 2) := by decide +kernel
theorem dX1_tieDownTo_103 : decode cX1_tieDownTo 103 = .ok (.invokevirtual 103, 3) := by decide +kernel
theorem dX1_tieDownTo_106 : decode cX1_tieDownTo 106 = .ok (.invokevirtual 106, 3) := by decide +kernel
theorem dX1_tieDownTo_109 : decode cX1_tieDownTo 109 = .ok (.iinc 2 (-1), 3) := by decide +kernel
theorem dX1_tieDownTo_112 : decode cX1_tieDownTo 112 = .ok (.goto (-105), 3) := by decide +kernel
theorem dX1_tieDownTo_115 : decode cX1_tieDownTo 115 = .ok (.return_, 1) := by decide +kernel
theorem dX2_init_0 : decode cX2_init 0 = .ok (.aload_n 0, 1) := by decide +kernel
theorem dX2_init_1 : decode cX2_init 1 = .ok (.invokespecial 3, 3) := by decide +kernel
theorem dX2_init_4 : decode cX2_init 4 = .ok (.aload_n 0, 1) := by decide +kernel
theorem dX2_init_5 : decode cX2_init 5 = .ok (.bipush 64, 2) := by decide +kernel
theorem dX2_init_7 : decode cX2_init 7 = .ok (.newarray .int, 2) := by decide +kernel
theorem dX2_init_9 : decode cX2_init 9 = .ok (.putfield 9, 3) := by decide +kernel
theorem dX2_init_12 : decode cX2_init 12 = .ok (.aload_n 0, 1) := by decide +kernel
theorem dX2_init_13 : decode cX2_init 13 = .ok (.bipush 64, 2) := by decide +kernel
theorem dX2_init_15 : decode cX2_init 15 = .ok (.newarray .int, 2) := by decide +kernel
theorem dX2_init_17 : decode cX2_init 17 = .ok (.putfield 15, 3) := by decide +kernel
theorem dX2_init_20 : decode cX2_init 20 = .ok (.aload_n 0, 1) := by decide +kernel
theorem dX2_init_21 : decode cX2_init 21 = .ok (.bipush 64, 2) := by decide +kernel
theorem dX2_init_23 : decode cX2_init 23 = .ok (.newarray .int, 2) := by decide +kernel
theorem dX2_init_25 : decode cX2_init 25 = .ok (.putfield 18, 3) := by decide +kernel
theorem dX2_init_28 : decode cX2_init 28 = .ok (.return_, 1) := by decide +kernel
theorem dX2_add_0 : decode cX2_add 0 = .ok (.aload_n 0, 1) := by decide +kernel
theorem dX2_add_1 : decode cX2_add 1 = .ok (.getfield 21, 3) := by decide +kernel
theorem dX2_add_4 : decode cX2_add 4 = .ok (.bipush 64, 2) := by decide +kernel
theorem dX2_add_6 : decode cX2_add 6 = .ok (.if_icmp .lt 6, 3) := by decide +kernel
theorem dX2_add_9 : decode cX2_add 9 = .ok (.bipush 63, 2) := by decide +kernel
theorem dX2_add_11 : decode cX2_add 11 = .ok (.ireturn, 1) := by decide +kernel
theorem dX2_add_12 : decode cX2_add 12 = .ok (.aload_n 0, 1) := by decide +kernel
theorem dX2_add_13 : decode cX2_add 13 = .ok (.getfield 9, 3) := by decide +kernel
theorem dX2_add_16 : decode cX2_add 16 = .ok (.aload_n 0, 1) := by decide +kernel
theorem dX2_add_17 : decode cX2_add 17 = .ok (.getfield 21, 3) := by decide +kernel
theorem dX2_add_20 : decode cX2_add 20 = .ok (.iload_n 1, 1) := by decide +kernel
theorem dX2_add_21 : decode cX2_add 21 = .ok (.iastore, 1) := by decide +kernel
theorem dX2_add_22 : decode cX2_add 22 = .ok (.aload_n 0, 1) := by decide +kernel
theorem dX2_add_23 : decode cX2_add 23 = .ok (.getfield 15, 3) := by decide +kernel
theorem dX2_add_26 : decode cX2_add 26 = .ok (.aload_n 0, 1) := by decide +kernel
theorem dX2_add_27 : decode cX2_add 27 = .ok (.getfield 21, 3) := by decide +kernel
theorem dX2_add_30 : decode cX2_add 30 = .ok (.iload_n 2, 1) := by decide +kernel
theorem dX2_add_31 : decode cX2_add 31 = .ok (.iastore, 1) := by decide +kernel
theorem dX2_add_32 : decode cX2_add 32 = .ok (.aload_n 0, 1) := by decide +kernel
theorem dX2_add_33 : decode cX2_add 33 = .ok (.getfield 18, 3) := by decide +kernel
theorem dX2_add_36 : decode cX2_add 36 = .ok (.aload_n 0, 1) := by decide +kernel
theorem dX2_add_37 : decode cX2_add 37 = .ok (.getfield 21, 3) := by decide +kernel
theorem dX2_add_40 : decode cX2_add 40 = .ok (.iload_n 3, 1) := by decide +kernel
theorem dX2_add_41 : decode cX2_add 41 = .ok (.iastore, 1) := by decide +kernel
theorem dX2_add_42 : decode cX2_add 42 = .ok (.aload_n 0, 1) := by decide +kernel
theorem dX2_add_43 : decode cX2_add 43 = .ok (.dup, 1) := by decide +kernel
theorem dX2_add_44 : decode cX2_add 44 = .ok (.getfield 21, 3) := by decide +kernel
theorem dX2_add_47 : decode cX2_add 47 = .ok (.iconst 1, 1) := by decide +kernel
theorem dX2_add_48 : decode cX2_add 48 = .ok (.iadd, 1) := by decide +kernel
theorem dX2_add_49 : decode cX2_add 49 = .ok (.putfield 21, 3) := by decide +kernel
theorem dX2_add_52 : decode cX2_add 52 = .ok (.aload_n 0, 1) := by decide +kernel
theorem dX2_add_53 : decode cX2_add 53 = .ok (.getfield 21, 3) := by decide +kernel
theorem dX2_add_56 : decode cX2_add 56 = .ok (.iconst 1, 1) := by decide +kernel
theorem dX2_add_57 : decode cX2_add 57 = .ok (.isub, 1) := by decide +kernel
theorem dX2_add_58 : decode cX2_add 58 = .ok (.ireturn, 1) := by decide +kernel
theorem dX3_init_0 : decode cX3_init 0 = .ok (.aload_n 0, 1) := by decide +kernel
theorem dX3_init_1 : decode cX3_init 1 = .ok (.invokespecial 3, 3) := by decide +kernel
theorem dX3_init_4 : decode cX3_init 4 = .ok (.aload_n 0, 1) := by decide +kernel
theorem dX3_init_5 : decode cX3_init 5 = .ok (.bipush 64, 2) := by decide +kernel
theorem dX3_init_7 : decode cX3_init 7 = .ok (.newarray .long, 2) := by decide +kernel
theorem dX3_init_9 : decode cX3_init 9 = .ok (.putfield 9, 3) := by decide +kernel
theorem dX3_init_12 : decode cX3_init 12 = .ok (.return_, 1) := by decide +kernel
theorem dX3_valueOf_0 : decode cX3_valueOf 0 = .ok (.aload_n 1, 1) := by decide +kernel
theorem dX3_valueOf_1 : decode cX3_valueOf 1 = .ok (.getfield 15, 3) := by decide +kernel
theorem dX3_valueOf_4 : decode cX3_valueOf 4 = .ok (.iload_n 2, 1) := by decide +kernel
theorem dX3_valueOf_5 : decode cX3_valueOf 5 = .ok (.laload, 1) := by decide +kernel
theorem dX3_valueOf_6 : decode cX3_valueOf 6 = .ok (.lstore 6, 2) := by decide +kernel
theorem dX3_valueOf_8 : decode cX3_valueOf 8 = .ok (.lload 6, 2) := by decide +kernel
theorem dX3_valueOf_10 : decode cX3_valueOf 10 = .ok (.lconst 0, 1) := by decide +kernel
theorem dX3_valueOf_11 : decode cX3_valueOf 11 = .ok (.lcmp, 1) := by decide +kernel
theorem dX3_valueOf_12 : decode cX3_valueOf 12 = .ok (.ifCond .ne 7, 3) := by decide +kernel
theorem dX3_valueOf_15 : decode cX3_valueOf 15 = .ok (.ldc2_w 20, 3) := by decide +kernel
theorem dX3_valueOf_18 : decode cX3_valueOf 18 = .ok (.lreturn, 1) := by decide +kernel
theorem dX3_valueOf_19 : decode cX3_valueOf 19 = .ok (.aload_n 1, 1) := by decide +kernel
theorem dX3_valueOf_20 : decode cX3_valueOf 20 = .ok (.getfield 22, 3) := by decide +kernel
theorem dX3_valueOf_23 : decode cX3_valueOf 23 = .ok (.iload_n 2, 1) := by decide +kernel
theorem dX3_valueOf_24 : decode cX3_valueOf 24 = .ok (.iaload, 1) := by decide +kernel
theorem dX3_valueOf_25 : decode cX3_valueOf 25 = .ok (.istore 8, 2) := by decide +kernel
theorem dX3_valueOf_27 : decode cX3_valueOf 27 = .ok (.iconst 0, 1) := by decide +kernel
theorem dX3_valueOf_28 : decode cX3_valueOf 28 = .ok (.istore 9, 2) := by decide +kernel
theorem dX3_valueOf_30 : decode cX3_valueOf 30 = .ok (.iload 9, 2) := by decide +kernel
theorem dX3_valueOf_32 : decode cX3_valueOf 32 = .ok (.iload 8, 2) := by decide +kernel
theorem dX3_valueOf_34 : decode cX3_valueOf 34 = .ok (.if_icmp .gt 152, 3) := by decide +kernel
theorem dX3_valueOf_37 : decode cX3_valueOf 37 = .ok (.iload 9, 2) := by decide +kernel
theorem dX3_valueOf_39 : decode cX3_valueOf 39 = .ok (.bipush 64, 2) := by decide +kernel
theorem dX3_valueOf_41 : decode cX3_valueOf 41 = .ok (.if_icmp .ge 145, 3) := by decide +kernel
theorem dX3_valueOf_44 : decode cX3_valueOf 44 = .ok (.lload 6, 2) := by decide +kernel
theorem dX3_valueOf_46 : decode cX3_valueOf 46 = .ok (.iload 9, 2) := by decide +kernel
theorem dX3_valueOf_48 : decode cX3_valueOf 48 = .ok (.lushr, 1) := by decide +kernel
theorem dX3_valueOf_49 : decode cX3_valueOf 49 = .ok (.lconst 1, 1) := by decide +kernel
theorem dX3_valueOf_50 : decode cX3_valueOf 50 = .ok (.land, 1) := by decide +kernel
theorem dX3_valueOf_51 : decode cX3_valueOf 51 = .ok (.lconst 0, 1) := by decide +kernel
theorem dX3_valueOf_52 : decode cX3_valueOf 52 = .ok (.lcmp, 1) := by decide +kernel
theorem dX3_valueOf_53 : decode cX3_valueOf 53 = .ok (.ifCond .eq 127, 3) := by decide +kernel
theorem dX3_valueOf_56 : decode cX3_valueOf 56 = .ok (.aload_n 1, 1) := by decide +kernel
theorem dX3_valueOf_57 : decode cX3_valueOf 57 = .ok (.getfield 26, 3) := by decide +kernel
theorem dX3_valueOf_60 : decode cX3_valueOf 60 = .ok (.getfield 30, 3) := by decide +kernel
theorem dX3_valueOf_63 : decode cX3_valueOf 63 = .ok (.iload 9, 2) := by decide +kernel
theorem dX3_valueOf_65 : decode cX3_valueOf 65 = .ok (.iaload, 1) := by decide +kernel
theorem dX3_valueOf_66 : decode cX3_valueOf 66 = .ok (.istore 10, 2) := by decide +kernel
theorem dX3_valueOf_68 : decode cX3_valueOf 68 = .ok (.aload_n 1, 1) := by decide +kernel
theorem dX3_valueOf_69 : decode cX3_valueOf 69 = .ok (.getfield 26, 3) := by decide +kernel
theorem dX3_valueOf_72 : decode cX3_valueOf 72 = .ok (.getfield 35, 3) := by decide +kernel
theorem dX3_valueOf_75 : decode cX3_valueOf 75 = .ok (.iload 9, 2) := by decide +kernel
theorem dX3_valueOf_77 : decode cX3_valueOf 77 = .ok (.iaload, 1) := by decide +kernel
theorem dX3_valueOf_78 : decode cX3_valueOf 78 = .ok (.istore 11, 2) := by decide +kernel
theorem dX3_valueOf_80 : decode cX3_valueOf 80 = .ok (.iload 10, 2) := by decide +kernel
theorem dX3_valueOf_82 : decode cX3_valueOf 82 = .ok (.bipush 21, 2) := by decide +kernel
theorem dX3_valueOf_84 : decode cX3_valueOf 84 = .ok (.if_icmp .lt 23, 3) := by decide +kernel
theorem dX3_valueOf_87 : decode cX3_valueOf 87 = .ok (.iload 10, 2) := by decide +kernel
theorem dX3_valueOf_89 : decode cX3_valueOf 89 = .ok (.bipush 27, 2) := by decide +kernel
theorem dX3_valueOf_91 : decode cX3_valueOf 91 = .ok (.if_icmp .gt 16, 3) := by decide +kernel
theorem dX3_valueOf_94 : decode cX3_valueOf 94 = .ok (.iload 10, 2) := by decide +kernel
theorem dX3_valueOf_96 : decode cX3_valueOf 96 = .ok (.aload_n 3, 1) := by decide +kernel
theorem dX3_valueOf_97 : decode cX3_valueOf 97 = .ok (.iload 4, 2) := by decide +kernel
theorem dX3_valueOf_99 : decode cX3_valueOf 99 = .ok (.iload 5, 2) := by decide +kernel
theorem dX3_valueOf_101 : decode cX3_valueOf 101 = .ok (.invokestatic 38, 3) := by decide +kernel
theorem dX3_valueOf_104 : decode cX3_valueOf 104 = .ok (.goto 43, 3) := by decide +kernel
theorem dX3_valueOf_107 : decode cX3_valueOf 107 = .ok (.iload 10, 2) := by decide +kernel
theorem dX3_valueOf_109 : decode cX3_valueOf 109 = .ok (.bipush 38, 2) := by decide +kernel
theorem dX3_valueOf_111 : decode cX3_valueOf 111 = .ok (.if_icmp .ne 9, 3) := by decide +kernel
theorem dX3_valueOf_114 : decode cX3_valueOf 114 = .ok (.iload 11, 2) := by decide +kernel
theorem dX3_valueOf_116 : decode cX3_valueOf 116 = .ok (.i2l, 1) := by decide +kernel
theorem dX3_valueOf_117 : decode cX3_valueOf 117 = .ok (.goto 30, 3) := by decide +kernel
theorem dX3_valueOf_120 : decode cX3_valueOf 120 = .ok (.iload 10, 2) := by decide +kernel
theorem dX3_valueOf_122 : decode cX3_valueOf 122 = .ok (.aload_n 0, 1) := by decide +kernel
theorem dX3_valueOf_123 : decode cX3_valueOf 123 = .ok (.getfield 9, 3) := by decide +kernel
theorem dX3_valueOf_126 : decode cX3_valueOf 126 = .ok (.iload 11, 2) := by decide +kernel
theorem dX3_valueOf_128 : decode cX3_valueOf 128 = .ok (.laload, 1) := by decide +kernel
theorem dX3_valueOf_129 : decode cX3_valueOf 129 = .ok (.aload_n 0, 1) := by decide +kernel
theorem dX3_valueOf_130 : decode cX3_valueOf 130 = .ok (.getfield 9, 3) := by decide +kernel
theorem dX3_valueOf_133 : decode cX3_valueOf 133 = .ok (.aload_n 1, 1) := by decide +kernel
theorem dX3_valueOf_134 : decode cX3_valueOf 134 = .ok (.getfield 26, 3) := by decide +kernel
theorem dX3_valueOf_137 : decode cX3_valueOf 137 = .ok (.getfield 42, 3) := by decide +kernel
theorem dX3_valueOf_140 : decode cX3_valueOf 140 = .ok (.iload 9, 2) := by decide +kernel
theorem dX3_valueOf_142 : decode cX3_valueOf 142 = .ok (.iaload, 1) := by decide +kernel
theorem dX3_valueOf_143 : decode cX3_valueOf 143 = .ok (.laload, 1) := by decide +kernel
theorem dX3_valueOf_144 : decode cX3_valueOf 144 = .ok (.invokestatic 45, 3) := by decide +kernel
theorem dX3_valueOf_147 : decode cX3_valueOf 147 = .ok (.lstore 12, 2) := by decide +kernel
theorem dX3_valueOf_149 : decode cX3_valueOf 149 = .ok (.lload 12, 2) := by decide +kernel
theorem dX3_valueOf_151 : decode cX3_valueOf 151 = .ok (.ldc2_w 49, 3) := by decide +kernel
theorem dX3_valueOf_154 : decode cX3_valueOf 154 = .ok (.lcmp, 1) := by decide +kernel
theorem dX3_valueOf_155 : decode cX3_valueOf 155 = .ok (.ifCond .gt 12, 3) := by decide +kernel
theorem dX3_valueOf_158 : decode cX3_valueOf 158 = .ok (.lload 12, 2) := by decide +kernel
theorem dX3_valueOf_160 : decode cX3_valueOf 160 = .ok (.ldc2_w 51, 3) := by decide +kernel
theorem dX3_valueOf_163 : decode cX3_valueOf 163 = .ok (.lcmp, 1) := by decide +kernel
theorem dX3_valueOf_164 : decode cX3_valueOf 164 = .ok (.ifCond .ge 7, 3) := by decide +kernel
theorem dX3_valueOf_167 : decode cX3_valueOf 167 = .ok (.ldc2_w 20, 3) := by decide +kernel
theorem dX3_valueOf_170 : decode cX3_valueOf 170 = .ok (.lreturn, 1) := by decide +kernel
theorem dX3_valueOf_171 : decode cX3_valueOf 171 = .ok (.aload_n 0, 1) := by decide +kernel
theorem dX3_valueOf_172 : decode cX3_valueOf 172 = .ok (.getfield 9, 3) := by decide +kernel
theorem dX3_valueOf_175 : decode cX3_valueOf 175 = .ok (.iload 9, 2) := by decide +kernel
theorem dX3_valueOf_177 : decode cX3_valueOf 177 = .ok (.lload 12, 2) := by decide +kernel
theorem dX3_valueOf_179 : decode cX3_valueOf 179 = .ok (.lastore, 1) := by decide +kernel
theorem dX3_valueOf_180 : decode cX3_valueOf 180 = .ok (.iinc 9 1, 3) := by decide +kernel
theorem dX3_valueOf_183 : decode cX3_valueOf 183 = .ok (.goto (-153), 3) := by decide +kernel
theorem dX3_valueOf_186 : decode cX3_valueOf 186 = .ok (.aload_n 0, 1) := by decide +kernel
theorem dX3_valueOf_187 : decode cX3_valueOf 187 = .ok (.getfield 9, 3) := by decide +kernel
theorem dX3_valueOf_190 : decode cX3_valueOf 190 = .ok (.iload 8, 2) := by decide +kernel
theorem dX3_valueOf_192 : decode cX3_valueOf 192 = .ok (.laload, 1) := by decide +kernel
theorem dX3_valueOf_193 : decode cX3_valueOf 193 = .ok (.lreturn, 1) := by decide +kernel
theorem dX3_nameValue_0 : decode cX3_nameValue 0 = .ok (.iload_n 0, 1) := by decide +kernel
theorem dX3_nameValue_1 : decode cX3_nameValue 1 = .ok (.tableswitch 80 21 26 #[39, 45, 51, 62, 65, 74], 39) := by decide +kernel
theorem dX3_nameValue_40 : decode cX3_nameValue 40 = .ok (.aload_n 1, 1) := by decide +kernel
theorem dX3_nameValue_41 : decode cX3_nameValue 41 = .ok (.getfield 53, 3) := by decide +kernel
theorem dX3_nameValue_44 : decode cX3_nameValue 44 = .ok (.i2l, 1) := by decide +kernel
theorem dX3_nameValue_45 : decode cX3_nameValue 45 = .ok (.lreturn, 1) := by decide +kernel
theorem dX3_nameValue_46 : decode cX3_nameValue 46 = .ok (.aload_n 1, 1) := by decide +kernel
theorem dX3_nameValue_47 : decode cX3_nameValue 47 = .ok (.getfield 59, 3) := by decide +kernel
theorem dX3_nameValue_50 : decode cX3_nameValue 50 = .ok (.i2l, 1) := by decide +kernel
theorem dX3_nameValue_51 : decode cX3_nameValue 51 = .ok (.lreturn, 1) := by decide +kernel
theorem dX3_nameValue_52 : decode cX3_nameValue 52 = .ok (.aload_n 1, 1) := by decide +kernel
theorem dX3_nameValue_53 : decode cX3_nameValue 53 = .ok (.getfield 62, 3) := by decide +kernel
theorem dX3_nameValue_56 : decode cX3_nameValue 56 = .ok (.iload_n 2, 1) := by decide +kernel
theorem dX3_nameValue_57 : decode cX3_nameValue 57 = .ok (.iaload, 1) := by decide +kernel
theorem dX3_nameValue_58 : decode cX3_nameValue 58 = .ok (.invokestatic 65, 3) := by decide +kernel
theorem dX3_nameValue_61 : decode cX3_nameValue 61 = .ok (.i2l, 1) := by decide +kernel
theorem dX3_nameValue_62 : decode cX3_nameValue 62 = .ok (.lreturn, 1) := by decide +kernel
theorem dX3_nameValue_63 : decode cX3_nameValue 63 = .ok (.iload_n 3, 1) := by decide +kernel
theorem dX3_nameValue_64 : decode cX3_nameValue 64 = .ok (.i2l, 1) := by decide +kernel
theorem dX3_nameValue_65 : decode cX3_nameValue 65 = .ok (.lreturn, 1) := by decide +kernel
theorem dX3_nameValue_66 : decode cX3_nameValue 66 = .ok (.aload_n 1, 1) := by decide +kernel
theorem dX3_nameValue_67 : decode cX3_nameValue 67 = .ok (.getfield 71, 3) := by decide +kernel
theorem dX3_nameValue_70 : decode cX3_nameValue 70 = .ok (.invokestatic 65, 3) := by decide +kernel
theorem dX3_nameValue_73 : decode cX3_nameValue 73 = .ok (.i2l, 1) := by decide +kernel
theorem dX3_nameValue_74 : decode cX3_nameValue 74 = .ok (.lreturn, 1) := by decide +kernel
theorem dX3_nameValue_75 : decode cX3_nameValue 75 = .ok (.aload_n 1, 1) := by decide +kernel
theorem dX3_nameValue_76 : decode cX3_nameValue 76 = .ok (.getfield 74, 3) := by decide +kernel
theorem dX3_nameValue_79 : decode cX3_nameValue 79 = .ok (.i2l, 1) := by decide +kernel
theorem dX3_nameValue_80 : decode cX3_nameValue 80 = .ok (.lreturn, 1) := by decide +kernel
theorem dX3_nameValue_81 : decode cX3_nameValue 81 = .ok (.aload_n 1, 1) := by decide +kernel
theorem dX3_nameValue_82 : decode cX3_nameValue 82 = .ok (.iload_n 2, 1) := by decide +kernel
theorem dX3_nameValue_83 : decode cX3_nameValue 83 = .ok (.invokevirtual 77, 3) := by decide +kernel
theorem dX3_nameValue_86 : decode cX3_nameValue 86 = .ok (.i2l, 1) := by decide +kernel
theorem dX3_nameValue_87 : decode cX3_nameValue 87 = .ok (.lreturn, 1) := by decide +kernel
