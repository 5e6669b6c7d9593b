theorem dX5_find_0 : decode cX5_find 0 = .ok (.iconst 0, 1) := by decide +kernel
theorem dX5_find_1 : decode cX5_find 1 = .ok (.istore_n 2, 1) := by decide +kernel
theorem dX5_find_2 : decode cX5_find 2 = .ok (.iload_n 2, 1) := by decide +kernel
theorem dX5_find_3 : decode cX5_find 3 = .ok (.aload_n 0, 1) := by decide +kernel
theorem dX5_find_4 : decode cX5_find 4 = .ok (.getfield 15, 3) := by decide +kernel
theorem dX5_find_7 : decode cX5_find 7 = .ok (.if_icmp .ge 21, 3) := by decide +kernel
theorem dX5_find_10 : decode cX5_find 10 = .ok (.aload_n 0, 1) := by decide +kernel
theorem dX5_find_11 : decode cX5_find 11 = .ok (.getfield 9, 3) := by decide +kernel
theorem dX5_find_14 : decode cX5_find 14 = .ok (.iload_n 2, 1) := by decide +kernel
theorem dX5_find_15 : decode cX5_find 15 = .ok (.iaload, 1) := by decide +kernel
theorem dX5_find_16 : decode cX5_find 16 = .ok (.iload_n 1, 1) := by decide +kernel
theorem dX5_find_17 : decode cX5_find 17 = .ok (.if_icmp .ne 5, 3) := by decide +kernel
theorem dX5_find_20 : decode cX5_find 20 = .ok (.iload_n 2, 1) := by decide +kernel
theorem dX5_find_21 : decode cX5_find 21 = .ok (.ireturn, 1) := by decide +kernel
theorem dX5_find_22 : decode cX5_find 22 = .ok (.iinc 2 1, 3) := by decide +kernel
theorem dX5_find_25 : decode cX5_find 25 = .ok (.goto (-23), 3) := by decide +kernel
theorem dX5_find_28 : decode cX5_find 28 = .ok (.iconst (-1), 1) := by decide +kernel
theorem dX5_find_29 : decode cX5_find 29 = .ok (.ireturn, 1) := by decide +kernel
theorem dX5_add_0 : decode cX5_add 0 = .ok (.aload_n 0, 1) := by decide +kernel
theorem dX5_add_1 : decode cX5_add 1 = .ok (.invokevirtual 19, 3) := by decide +kernel
theorem dX5_add_4 : decode cX5_add 4 = .ok (.ifCond .ne 23, 3) := by decide +kernel
theorem dX5_add_7 : decode cX5_add 7 = .ok (.aload_n 0, 1) := by decide +kernel
theorem dX5_add_8 : decode cX5_add 8 = .ok (.getfield 9, 3) := by decide +kernel
theorem dX5_add_11 : decode cX5_add 11 = .ok (.aload_n 0, 1) := by decide +kernel
theorem dX5_add_12 : decode cX5_add 12 = .ok (.getfield 15, 3) := by decide +kernel
theorem dX5_add_15 : decode cX5_add 15 = .ok (.iload_n 1, 1) := by decide +kernel
theorem dX5_add_16 : decode cX5_add 16 = .ok (.iastore, 1) := by decide +kernel
theorem dX5_add_17 : decode cX5_add 17 = .ok (.aload_n 0, 1) := by decide +kernel
theorem dX5_add_18 : decode cX5_add 18 = .ok (.dup, 1) := by decide +kernel
theorem dX5_add_19 : decode cX5_add 19 = .ok (.getfield 15, 3) := by decide +kernel
theorem dX5_add_22 : decode cX5_add 22 = .ok (.iconst 1, 1) := by decide +kernel
theorem dX5_add_23 : decode cX5_add 23 = .ok (.iadd, 1) := by decide +kernel
theorem dX5_add_24 : decode cX5_add 24 = .ok (.putfield 15, 3) := by decide +kernel
theorem dX5_add_27 : decode cX5_add 27 = .ok (.return_, 1) := by decide +kernel
theorem dX5_has_0 : decode cX5_has 0 = .ok (.iload_n 1, 1) := by decide +kernel
theorem dX5_has_1 : decode cX5_has 1 = .ok (.ifCond .lt 15, 3) := by decide +kernel
theorem dX5_has_4 : decode cX5_has 4 = .ok (.iload_n 1, 1) := by decide +kernel
theorem dX5_has_5 : decode cX5_has 5 = .ok (.aload_n 0, 1) := by decide +kernel
theorem dX5_has_6 : decode cX5_has 6 = .ok (.getfield 15, 3) := by decide +kernel
theorem dX5_has_9 : decode cX5_has 9 = .ok (.if_icmp .ge 7, 3) := by decide +kernel
theorem dX5_has_12 : decode cX5_has 12 = .ok (.iconst 1, 1) := by decide +kernel
theorem dX5_has_13 : decode cX5_has 13 = .ok (.goto 4, 3) := by decide +kernel
theorem dX5_has_16 : decode cX5_has 16 = .ok (.iconst 0, 1) := by decide +kernel
theorem dX5_has_17 : decode cX5_has 17 = .ok (.ireturn, 1) := by decide +kernel
theorem dX6_init_0 : decode cX6_init 0 = .ok (.aload_n 0, 1) := by decide +kernel
theorem dX6_init_1 : decode cX6_init 1 = .ok (.invokespecial 3, 3) := by decide +kernel
theorem dX6_init_4 : decode cX6_init 4 = .ok (.aload_n 0, 1) := by decide +kernel
theorem dX6_init_5 : decode cX6_init 5 = .ok (.aload_n 1, 1) := by decide +kernel
theorem dX6_init_6 : decode cX6_init 6 = .ok (.putfield 9, 3) := by decide +kernel
theorem dX6_init_9 : decode cX6_init 9 = .ok (.aload_n 0, 1) := by decide +kernel
theorem dX6_init_10 : decode cX6_init 10 = .ok (.new 15, 3) := by decide +kernel
theorem dX6_init_13 : decode cX6_init 13 = .ok (.dup, 1) := by decide +kernel
theorem dX6_init_14 : decode cX6_init 14 = .ok (.aload_n 1, 1) := by decide +kernel
theorem dX6_init_15 : decode cX6_init 15 = .ok (.invokespecial 17, 3) := by decide +kernel
theorem dX6_init_18 : decode cX6_init 18 = .ok (.putfield 20, 3) := by decide +kernel
theorem dX6_init_21 : decode cX6_init 21 = .ok (.return_, 1) := by decide +kernel
theorem dX6_read_0 : decode cX6_read 0 = .ok (.aload_n 1, 1) := by decide +kernel
theorem dX6_read_1 : decode cX6_read 1 = .ok (.invokevirtual 24, 3) := by decide +kernel
theorem dX6_read_4 : decode cX6_read 4 = .ok (.iconst 0, 1) := by decide +kernel
theorem dX6_read_5 : decode cX6_read 5 = .ok (.istore_n 2, 1) := by decide +kernel
theorem dX6_read_6 : decode cX6_read 6 = .ok (.iload_n 2, 1) := by decide +kernel
theorem dX6_read_7 : decode cX6_read 7 = .ok (.sipush 700, 3) := by decide +kernel
theorem dX6_read_10 : decode cX6_read 10 = .ok (.if_icmp .gt 77, 3) := by decide +kernel
theorem dX6_read_13 : decode cX6_read 13 = .ok (.aload_n 0, 1) := by decide +kernel
theorem dX6_read_14 : decode cX6_read 14 = .ok (.getfield 9, 3) := by decide +kernel
theorem dX6_read_17 : decode cX6_read 17 = .ok (.invokevirtual 29, 3) := by decide +kernel
theorem dX6_read_20 : decode cX6_read 20 = .ok (.istore_n 3, 1) := by decide +kernel
theorem dX6_read_21 : decode cX6_read 21 = .ok (.iload_n 3, 1) := by decide +kernel
theorem dX6_read_22 : decode cX6_read 22 = .ok (.bipush 44, 2) := by decide +kernel
theorem dX6_read_24 : decode cX6_read 24 = .ok (.if_icmp .ne 5, 3) := by decide +kernel
theorem dX6_read_27 : decode cX6_read 27 = .ok (.iload_n 2, 1) := by decide +kernel
theorem dX6_read_28 : decode cX6_read 28 = .ok (.ireturn, 1) := by decide +kernel
theorem dX6_read_29 : decode cX6_read 29 = .ok (.iload_n 3, 1) := by decide +kernel
theorem dX6_read_30 : decode cX6_read 30 = .ok (.iconst 3, 1) := by decide +kernel
theorem dX6_read_31 : decode cX6_read 31 = .ok (.if_icmp .ne 11, 3) := by decide +kernel
theorem dX6_read_34 : decode cX6_read 34 = .ok (.aload_n 0, 1) := by decide +kernel
theorem dX6_read_35 : decode cX6_read 35 = .ok (.aload_n 1, 1) := by decide +kernel
theorem dX6_read_36 : decode cX6_read 36 = .ok (.invokevirtual 35, 3) := by decide +kernel
theorem dX6_read_39 : decode cX6_read 39 = .ok (.goto 23, 3) := by decide +kernel
theorem dX6_read_42 : decode cX6_read 42 = .ok (.iload_n 3, 1) := by decide +kernel
theorem dX6_read_43 : decode cX6_read 43 = .ok (.bipush 8, 2) := by decide +kernel
theorem dX6_read_45 : decode cX6_read 45 = .ok (.if_icmp .ne 11, 3) := by decide +kernel
theorem dX6_read_48 : decode cX6_read 48 = .ok (.aload_n 0, 1) := by decide +kernel
theorem dX6_read_49 : decode cX6_read 49 = .ok (.aload_n 1, 1) := by decide +kernel
theorem dX6_read_50 : decode cX6_read 50 = .ok (.invokevirtual 39, 3) := by decide +kernel
theorem dX6_read_53 : decode cX6_read 53 = .ok (.goto 9, 3) := by decide +kernel
theorem dX6_read_56 : decode cX6_read 56 = .ok (.aload_n 0, 1) := by decide +kernel
theorem dX6_read_57 : decode cX6_read 57 = .ok (.aload_n 1, 1) := by decide +kernel
theorem dX6_read_58 : decode cX6_read 58 = .ok (.iload_n 3, 1) := by decide +kernel
theorem dX6_read_59 : decode cX6_read 59 = .ok (.invokevirtual 42, 3) := by decide +kernel
theorem dX6_read_62 : decode cX6_read 62 = .ok (.istore 4, 2) := by decide +kernel
theorem dX6_read_64 : decode cX6_read 64 = .ok (.iload 4, 2) := by decide +kernel
theorem dX6_read_66 : decode cX6_read 66 = .ok (.ifCond .eq 13, 3) := by decide +kernel
theorem dX6_read_69 : decode cX6_read 69 = .ok (.aload_n 0, 1) := by decide +kernel
theorem dX6_read_70 : decode cX6_read 70 = .ok (.getfield 9, 3) := by decide +kernel
theorem dX6_read_73 : decode cX6_read 73 = .ok (.invokevirtual 46, 3) := by decide +kernel
theorem dX6_read_76 : decode cX6_read 76 = .ok (.ifCond .ne 5, 3) := by decide +kernel
theorem dX6_read_79 : decode cX6_read 79 = .ok (.iconst (-1), 1) := by decide +kernel
theorem dX6_read_80 : decode cX6_read 80 = .ok (.ireturn, 1) := by decide +kernel
theorem dX6_read_81 : decode cX6_read 81 = .ok (.iinc 2 1, 3) := by decide +kernel
theorem dX6_read_84 : decode cX6_read 84 = .ok (.goto (-78), 3) := by decide +kernel
theorem dX6_read_87 : decode cX6_read 87 = .ok (.iconst (-1), 1) := by decide +kernel
theorem dX6_read_88 : decode cX6_read 88 = .ok (.ireturn, 1) := by decide +kernel
theorem dX6_plainLine_0 : decode cX6_plainLine 0 = .ok (.iload_n 2, 1) := by decide +kernel
theorem dX6_plainLine_1 : decode cX6_plainLine 1 = .ok (.tableswitch 89 0 7 #[47, 53, 59, 89, 65, 71, 77, 83], 47) := by decide +kernel
theorem dX6_plainLine_48 : decode cX6_plainLine 48 = .ok (.aload_n 0, 1) := by decide +kernel
theorem dX6_plainLine_49 : decode cX6_plainLine 49 = .ok (.aload_n 1, 1) := by decide +kernel
theorem dX6_plainLine_50 : decode cX6_plainLine 50 = .ok (.invokevirtual 50, 3) := by decide +kernel
theorem dX6_plainLine_53 : decode cX6_plainLine 53 = .ok (.ireturn, 1) := by decide +kernel
theorem dX6_plainLine_54 : decode cX6_plainLine 54 = .ok (.aload_n 0, 1) := by decide +kernel
theorem dX6_plainLine_55 : decode cX6_plainLine 55 = .ok (.aload_n 1, 1) := by decide +kernel
theorem dX6_plainLine_56 : decode cX6_plainLine 56 = .ok (.invokevirtual 53, 3) := by decide +kernel
theorem dX6_plainLine_59 : decode cX6_plainLine 59 = .ok (.ireturn, 1) := by decide +kernel
theorem dX6_plainLine_60 : decode cX6_plainLine 60 = .ok (.aload_n 0, 1) := by decide +kernel
theorem dX6_plainLine_61 : decode cX6_plainLine 61 = .ok (.aload_n 1, 1) := by decide +kernel
theorem dX6_plainLine_62 : decode cX6_plainLine 62 = .ok (.invokevirtual 56, 3) := by decide +kernel
theorem dX6_plainLine_65 : decode cX6_plainLine 65 = .ok (.ireturn, 1) := by decide +kernel
theorem dX6_plainLine_66 : decode cX6_plainLine 66 = .ok (.aload_n 0, 1) := by decide +kernel
theorem dX6_plainLine_67 : decode cX6_plainLine 67 = .ok (.aload_n 1, 1) := by decide +kernel
theorem dX6_plainLine_68 : decode cX6_plainLine 68 = .ok (.invokevirtual 59, 3) := by decide +kernel
theorem dX6_plainLine_71 : decode cX6_plainLine 71 = .ok (.ireturn, 1) := by decide +kernel
theorem dX6_plainLine_72 : decode cX6_plainLine 72 = .ok (.aload_n 0, 1) := by decide +kernel
theorem dX6_plainLine_73 : decode cX6_plainLine 73 = .ok (.aload_n 1, 1) := by decide +kernel
theorem dX6_plainLine_74 : decode cX6_plainLine 74 = .ok (.invokevirtual 62, 3) := by decide +kernel
theorem dX6_plainLine_77 : decode cX6_plainLine 77 = .ok (.ireturn, 1) := by decide +kernel
theorem dX6_plainLine_78 : decode cX6_plainLine 78 = .ok (.aload_n 0, 1) := by decide +kernel
theorem dX6_plainLine_79 : decode cX6_plainLine 79 = .ok (.aload_n 1, 1) := by decide +kernel
theorem dX6_plainLine_80 : decode cX6_plainLine 80 = .ok (.invokevirtual 65, 3) := by decide +kernel
theorem dX6_plainLine_83 : decode cX6_plainLine 83 = .ok (.ireturn, 1) := by decide +kernel
theorem dX6_plainLine_84 : decode cX6_plainLine 84 = .ok (.aload_n 0, 1) := by decide +kernel
theorem dX6_plainLine_85 : decode cX6_plainLine 85 = .ok (.aload_n 1, 1) := by decide +kernel
theorem dX6_plainLine_86 : decode cX6_plainLine 86 = .ok (.invokevirtual 68, 3) := by decide +kernel
theorem dX6_plainLine_89 : decode cX6_plainLine 89 = .ok (.ireturn, 1) := by decide +kernel
theorem dX6_plainLine_90 : decode cX6_plainLine 90 = .ok (.aload_n 0, 1) := by decide +kernel
theorem dX6_plainLine_91 : decode cX6_plainLine 91 = .ok (.getfield 9, 3) := by decide +kernel
theorem dX6_plainLine_94 : decode cX6_plainLine 94 = .ok (.iconst 1, 1) := by decide +kernel
theorem dX6_plainLine_95 : decode cX6_plainLine 95 = .ok (.invokevirtual 71, 3) := by decide +kernel
theorem dX6_plainLine_98 : decode cX6_plainLine 98 = .ok (.ireturn, 1) := by decide +kernel
theorem dX6_colourLine_0 : decode cX6_colourLine 0 = .ok (.aload_n 1, 1) := by decide +kernel
theorem dX6_colourLine_1 : decode cX6_colourLine 1 = .ok (.getfield 75, 3) := by decide +kernel
theorem dX6_colourLine_4 : decode cX6_colourLine 4 = .ok (.invokevirtual 79, 3) := by decide +kernel
theorem dX6_colourLine_7 : decode cX6_colourLine 7 = .ok (.ifCond .eq 12, 3) := by decide +kernel
theorem dX6_colourLine_10 : decode cX6_colourLine 10 = .ok (.aload_n 0, 1) := by decide +kernel
theorem dX6_colourLine_11 : decode cX6_colourLine 11 = .ok (.getfield 9, 3) := by decide +kernel
theorem dX6_colourLine_14 : decode cX6_colourLine 14 = .ok (.iconst 2, 1) := by decide +kernel
theorem dX6_colourLine_15 : decode cX6_colourLine 15 = .ok (.invokevirtual 71, 3) := by decide +kernel
theorem dX6_colourLine_18 : decode cX6_colourLine 18 = .ok (.ireturn, 1) := by decide +kernel
theorem dX6_colourLine_19 : decode cX6_colourLine 19 = .ok (.aload_n 0, 1) := by decide +kernel
theorem dX6_colourLine_20 : decode cX6_colourLine 20 = .ok (.getfield 9, 3) := by decide +kernel
theorem dX6_colourLine_23 : decode cX6_colourLine 23 = .ok (.invokevirtual 84, 3) := by decide +kernel
theorem dX6_colourLine_26 : decode cX6_colourLine 26 = .ok (.aload_n 0, 1) := by decide +kernel
theorem dX6_colourLine_27 : decode cX6_colourLine 27 = .ok (.getfield 9, 3) := by decide +kernel
theorem dX6_colourLine_30 : decode cX6_colourLine 30 = .ok (.aload_n 1, 1) := by decide +kernel
theorem dX6_colourLine_31 : decode cX6_colourLine 31 = .ok (.getfield 75, 3) := by decide +kernel
theorem dX6_colourLine_34 : decode cX6_colourLine 34 = .ok (.invokevirtual 87, 3) := by decide +kernel
theorem dX6_colourLine_37 : decode cX6_colourLine 37 = .ok (.ifCond .ne 5, 3) := by decide +kernel
theorem dX6_colourLine_40 : decode cX6_colourLine 40 = .ok (.iconst 0, 1) := by decide +kernel
theorem dX6_colourLine_41 : decode cX6_colourLine 41 = .ok (.ireturn, 1) := by decide +kernel
theorem dX6_colourLine_42 : decode cX6_colourLine 42 = .ok (.aload_n 0, 1) := by decide +kernel
theorem dX6_colourLine_43 : decode cX6_colourLine 43 = .ok (.getfield 9, 3) := by decide +kernel
theorem dX6_colourLine_46 : decode cX6_colourLine 46 = .ok (.invokevirtual 91, 3) := by decide +kernel
theorem dX6_colourLine_49 : decode cX6_colourLine 49 = .ok (.istore_n 2, 1) := by decide +kernel
theorem dX6_colourLine_50 : decode cX6_colourLine 50 = .ok (.aload_n 0, 1) := by decide +kernel
theorem dX6_colourLine_51 : decode cX6_colourLine 51 = .ok (.getfield 9, 3) := by decide +kernel
theorem dX6_colourLine_54 : decode cX6_colourLine 54 = .ok (.invokevirtual 84, 3) := by decide +kernel
theorem dX6_colourLine_57 : decode cX6_colourLine 57 = .ok (.aload_n 0, 1) := by decide +kernel
theorem dX6_colourLine_58 : decode cX6_colourLine 58 = .ok (.getfield 9, 3) := by decide +kernel
theorem dX6_colourLine_61 : decode cX6_colourLine 61 = .ok (.bipush 6, 2) := by decide +kernel
theorem dX6_colourLine_63 : decode cX6_colourLine 63 = .ok (.invokevirtual 94, 3) := by decide +kernel
theorem dX6_colourLine_66 : decode cX6_colourLine 66 = .ok (.ifCond .ne 5, 3) := by decide +kernel
theorem dX6_colourLine_69 : decode cX6_colourLine 69 = .ok (.iconst 0, 1) := by decide +kernel
theorem dX6_colourLine_70 : decode cX6_colourLine 70 = .ok (.ireturn, 1) := by decide +kernel
theorem dX6_colourLine_71 : decode cX6_colourLine 71 = .ok (.aload_n 1, 1) := by decide +kernel
theorem dX6_colourLine_72 : decode cX6_colourLine 72 = .ok (.getfield 97, 3) := by decide +kernel
theorem dX6_colourLine_75 : decode cX6_colourLine 75 = .ok (.aload_n 1, 1) := by decide +kernel
theorem dX6_colourLine_76 : decode cX6_colourLine 76 = .ok (.getfield 75, 3) := by decide +kernel
theorem dX6_colourLine_79 : decode cX6_colourLine 79 = .ok (.getfield 101, 3) := by decide +kernel
theorem dX6_colourLine_82 : decode cX6_colourLine 82 = .ok (.aload_n 0, 1) := by decide +kernel
theorem dX6_colourLine_83 : decode cX6_colourLine 83 = .ok (.getfield 9, 3) := by decide +kernel
theorem dX6_colourLine_86 : decode cX6_colourLine 86 = .ok (.invokevirtual 91, 3) := by decide +kernel
theorem dX6_colourLine_89 : decode cX6_colourLine 89 = .ok (.iastore, 1) := by decide +kernel
theorem dX6_colourLine_90 : decode cX6_colourLine 90 = .ok (.aload_n 1, 1) := by decide +kernel
theorem dX6_colourLine_91 : decode cX6_colourLine 91 = .ok (.getfield 75, 3) := by decide +kernel
theorem dX6_colourLine_94 : decode cX6_colourLine 94 = .ok (.iload_n 2, 1) := by decide +kernel
theorem dX6_colourLine_95 : decode cX6_colourLine 95 = .ok (.invokevirtual 105, 3) := by decide +kernel
theorem dX6_colourLine_98 : decode cX6_colourLine 98 = .ok (.aload_n 0, 1) := by decide +kernel
theorem dX6_colourLine_99 : decode cX6_colourLine 99 = .ok (.getfield 9, 3) := by decide +kernel
theorem dX6_colourLine_102 : decode cX6_colourLine 102 = .ok (.invokevirtual 84, 3) := by decide +kernel
theorem dX6_colourLine_105 : decode cX6_colourLine 105 = .ok (.iconst 1, 1) := by decide +kernel
theorem dX6_colourLine_106 : decode cX6_colourLine 106 = .ok (.ireturn, 1) := by decide +kernel
theorem dX6_personLine_0 : decode cX6_personLine 0 = .ok (.aload_n 1, 1) := by decide +kernel
theorem dX6_personLine_1 : decode cX6_personLine 1 = .ok (.getfield 109, 3) := by decide +kernel
theorem dX6_personLine_4 : decode cX6_personLine 4 = .ok (.invokevirtual 79, 3) := by decide +kernel
theorem dX6_personLine_7 : decode cX6_personLine 7 = .ok (.ifCond .eq 12, 3) := by decide +kernel
theorem dX6_personLine_10 : decode cX6_personLine 10 = .ok (.aload_n 0, 1) := by decide +kernel
theorem dX6_personLine_11 : decode cX6_personLine 11 = .ok (.getfield 9, 3) := by decide +kernel
theorem dX6_personLine_14 : decode cX6_personLine 14 = .ok (.iconst 2, 1) := by decide +kernel
theorem dX6_personLine_15 : decode cX6_personLine 15 = .ok (.invokevirtual 71, 3) := by decide +kernel
theorem dX6_personLine_18 : decode cX6_personLine 18 = .ok (.ireturn, 1) := by decide +kernel
theorem dX6_personLine_19 : decode cX6_personLine 19 = .ok (.aload_n 0, 1) := by decide +kernel
theorem dX6_personLine_20 : decode cX6_personLine 20 = .ok (.getfield 9, 3) := by decide +kernel
theorem dX6_personLine_23 : decode cX6_personLine 23 = .ok (.invokevirtual 84, 3) := by decide +kernel
theorem dX6_personLine_26 : decode cX6_personLine 26 = .ok (.aload_n 0, 1) := by decide +kernel
theorem dX6_personLine_27 : decode cX6_personLine 27 = .ok (.getfield 9, 3) := by decide +kernel
theorem dX6_personLine_30 : decode cX6_personLine 30 = .ok (.aload_n 1, 1) := by decide +kernel
theorem dX6_personLine_31 : decode cX6_personLine 31 = .ok (.getfield 109, 3) := by decide +kernel
theorem dX6_personLine_34 : decode cX6_personLine 34 = .ok (.invokevirtual 87, 3) := by decide +kernel
theorem dX6_personLine_37 : decode cX6_personLine 37 = .ok (.ifCond .ne 5, 3) := by decide +kernel
theorem dX6_personLine_40 : decode cX6_personLine 40 = .ok (.iconst 0, 1) := by decide +kernel
theorem dX6_personLine_41 : decode cX6_personLine 41 = .ok (.ireturn, 1) := by decide +kernel
theorem dX6_personLine_42 : decode cX6_personLine 42 = .ok (.aload_n 0, 1) := by decide +kernel
theorem dX6_personLine_43 : decode cX6_personLine 43 = .ok (.getfield 9, 3) := by decide +kernel
theorem dX6_personLine_46 : decode cX6_personLine 46 = .ok (.invokevirtual 91, 3) := by decide +kernel
theorem dX6_personLine_49 : decode cX6_personLine 49 = .ok (.istore_n 2, 1) := by decide +kernel
theorem dX6_personLine_50 : decode cX6_personLine 50 = .ok (.aload_n 0, 1) := by decide +kernel
theorem dX6_personLine_51 : decode cX6_personLine 51 = .ok (.getfield 9, 3) := by decide +kernel
theorem dX6_personLine_54 : decode cX6_personLine 54 = .ok (.invokevirtual 84, 3) := by decide +kernel
theorem dX6_personLine_57 : decode cX6_personLine 57 = .ok (.aload_n 0, 1) := by decide +kernel
theorem dX6_personLine_58 : decode cX6_personLine 58 = .ok (.getfield 9, 3) := by decide +kernel
theorem dX6_personLine_61 : decode cX6_personLine 61 = .ok (.aload_n 1, 1) := by decide +kernel
theorem dX6_personLine_62 : decode cX6_personLine 62 = .ok (.getfield 75, 3) := by decide +kernel
theorem dX6_personLine_65 : decode cX6_personLine 65 = .ok (.invokevirtual 112, 3) := by decide +kernel
theorem dX6_personLine_68 : decode cX6_personLine 68 = .ok (.istore_n 3, 1) := by decide +kernel
theorem dX6_personLine_69 : decode cX6_personLine 69 = .ok (.iload_n 3, 1) := by decide +kernel
theorem dX6_personLine_70 : decode cX6_personLine 70 = .ok (.ifCond .ge 5, 3) := by decide +kernel
theorem dX6_personLine_73 : decode cX6_personLine 73 = .ok (.iconst 0, 1) := by decide +kernel
theorem dX6_personLine_74 : decode cX6_personLine 74 = .ok (.ireturn, 1) := by decide +kernel
theorem dX6_personLine_75 : decode cX6_personLine 75 = .ok (.aload_n 1, 1) := by decide +kernel
theorem dX6_personLine_76 : decode cX6_personLine 76 = .ok (.iload_n 3, 1) := by decide +kernel
theorem dX6_personLine_77 : decode cX6_personLine 77 = .ok (.invokevirtual 116, 3) := by decide +kernel
theorem dX6_personLine_80 : decode cX6_personLine 80 = .ok (.aload_n 1, 1) := by decide +kernel
theorem dX6_personLine_81 : decode cX6_personLine 81 = .ok (.getfield 97, 3) := by decide +kernel
theorem dX6_personLine_84 : decode cX6_personLine 84 = .ok (.iload_n 3, 1) := by decide +kernel
theorem dX6_personLine_85 : decode cX6_personLine 85 = .ok (.iaload, 1) := by decide +kernel
theorem dX6_personLine_86 : decode cX6_personLine 86 = .ok (.if_icmp .lt 12, 3) := by decide +kernel
theorem dX6_personLine_89 : decode cX6_personLine 89 = .ok (.aload_n 0, 1) := by decide +kernel
theorem dX6_personLine_90 : decode cX6_personLine 90 = .ok (.getfield 9, 3) := by decide +kernel
theorem dX6_personLine_93 : decode cX6_personLine 93 = .ok (.iconst 5, 1) := by decide +kernel
theorem dX6_personLine_94 : decode cX6_personLine 94 = .ok (.invokevirtual 71, 3) := by decide +kernel
theorem dX6_personLine_97 : decode cX6_personLine 97 = .ok (.ireturn, 1) := by decide +kernel
theorem dX6_personLine_98 : decode cX6_personLine 98 = .ok (.aload_n 1, 1) := by decide +kernel
theorem dX6_personLine_99 : decode cX6_personLine 99 = .ok (.getfield 120, 3) := by decide +kernel
theorem dX6_personLine_102 : decode cX6_personLine 102 = .ok (.aload_n 1, 1) := by decide +kernel
theorem dX6_personLine_103 : decode cX6_personLine 103 = .ok (.getfield 109, 3) := by decide +kernel
theorem dX6_personLine_106 : decode cX6_personLine 106 = .ok (.getfield 101, 3) := by decide +kernel
theorem dX6_personLine_109 : decode cX6_personLine 109 = .ok (.iload_n 3, 1) := by decide +kernel
theorem dX6_personLine_110 : decode cX6_personLine 110 = .ok (.iastore, 1) := by decide +kernel
theorem dX6_personLine_111 : decode cX6_personLine 111 = .ok (.aload_n 1, 1) := by decide +kernel
theorem dX6_personLine_112 : decode cX6_personLine 112 = .ok (.dup, 1) := by decide +kernel
theorem dX6_personLine_113 : decode cX6_personLine 113 = .ok (.getfield 123, 3) := by decide +kernel
theorem dX6_personLine_116 : decode cX6_personLine 116 = .ok (.iload_n 3, 1) := by decide +kernel
theorem dX6_personLine_117 : decode cX6_personLine 117 = .ok (.aload_n 1, 1) := by decide +kernel
theorem dX6_personLine_118 : decode cX6_personLine 118 = .ok (.getfield 109, 3) := by decide +kernel
theorem dX6_personLine_121 : decode cX6_personLine 121 = .ok (.getfield 101, 3) := by decide +kernel
theorem dX6_personLine_124 : decode cX6_personLine 124 = .ok (.invokestatic 126, 3) := by decide +kernel
theorem dX6_personLine_127 : decode cX6_personLine 127 = .ok (.ishl, 1) := by decide +kernel
theorem dX6_personLine_128 : decode cX6_personLine 128 = .ok (.ior, 1) := by decide +kernel
theorem dX6_personLine_129 : decode cX6_personLine 129 = .ok (.putfield 123, 3) := by decide +kernel
theorem dX6_personLine_132 : decode cX6_personLine 132 = .ok (.aload_n 1, 1) := by decide +kernel
theorem dX6_personLine_133 : decode cX6_personLine 133 = .ok (.getfield 109, 3) := by decide +kernel
theorem dX6_personLine_136 : decode cX6_personLine 136 = .ok (.iload_n 2, 1) := by decide +kernel
theorem dX6_personLine_137 : decode cX6_personLine 137 = .ok (.invokevirtual 105, 3) := by decide +kernel
theorem dX6_personLine_140 : decode cX6_personLine 140 = .ok (.aload_n 0, 1) := by decide +kernel
theorem dX6_personLine_141 : decode cX6_personLine 141 = .ok (.getfield 9, 3) := by decide +kernel
theorem dX6_personLine_144 : decode cX6_personLine 144 = .ok (.invokevirtual 84, 3) := by decide +kernel
theorem dX6_personLine_147 : decode cX6_personLine 147 = .ok (.iconst 1, 1) := by decide +kernel
theorem dX6_personLine_148 : decode cX6_personLine 148 = .ok (.ireturn, 1) := by decide +kernel
theorem dX6_seesLine_0 : decode cX6_seesLine 0 = .ok (.aload_n 0, 1) := by decide +kernel
theorem dX6_seesLine_1 : decode cX6_seesLine 1 = .ok (.getfield 9, 3) := by decide +kernel
theorem dX6_seesLine_4 : decode cX6_seesLine 4 = .ok (.invokevirtual 84, 3) := by decide +kernel
theorem dX6_seesLine_7 : decode cX6_seesLine 7 = .ok (.aload_n 0, 1) := by decide +kernel
theorem dX6_seesLine_8 : decode cX6_seesLine 8 = .ok (.getfield 9, 3) := by decide +kernel
theorem dX6_seesLine_11 : decode cX6_seesLine 11 = .ok (.aload_n 1, 1) := by decide +kernel
theorem dX6_seesLine_12 : decode cX6_seesLine 12 = .ok (.getfield 109, 3) := by decide +kernel
theorem dX6_seesLine_15 : decode cX6_seesLine 15 = .ok (.invokevirtual 112, 3) := by decide +kernel
theorem dX6_seesLine_18 : decode cX6_seesLine 18 = .ok (.istore_n 2, 1) := by decide +kernel
theorem dX6_seesLine_19 : decode cX6_seesLine 19 = .ok (.iload_n 2, 1) := by decide +kernel
theorem dX6_seesLine_20 : decode cX6_seesLine 20 = .ok (.ifCond .ge 5, 3) := by decide +kernel
theorem dX6_seesLine_23 : decode cX6_seesLine 23 = .ok (.iconst 0, 1) := by decide +kernel
theorem dX6_seesLine_24 : decode cX6_seesLine 24 = .ok (.ireturn, 1) := by decide +kernel
theorem dX6_seesLine_25 : decode cX6_seesLine 25 = .ok (.aload_n 1, 1) := by decide +kernel
theorem dX6_seesLine_26 : decode cX6_seesLine 26 = .ok (.getfield 129, 3) := by decide +kernel
theorem dX6_seesLine_29 : decode cX6_seesLine 29 = .ok (.iload_n 2, 1) := by decide +kernel
theorem dX6_seesLine_30 : decode cX6_seesLine 30 = .ok (.iaload, 1) := by decide +kernel
theorem dX6_seesLine_31 : decode cX6_seesLine 31 = .ok (.ifCond .eq 12, 3) := by decide +kernel
theorem dX6_seesLine_34 : decode cX6_seesLine 34 = .ok (.aload_n 0, 1) := by decide +kernel
theorem dX6_seesLine_35 : decode cX6_seesLine 35 = .ok (.getfield 9, 3) := by decide +kernel
theorem dX6_seesLine_38 : decode cX6_seesLine 38 = .ok (.iconst 3, 1) := by decide +kernel
theorem dX6_seesLine_39 : decode cX6_seesLine 39 = .ok (.invokevirtual 71, 3) := by decide +kernel
theorem dX6_seesLine_42 : decode cX6_seesLine 42 = .ok (.ireturn, 1) := by decide +kernel
theorem dX6_seesLine_43 : decode cX6_seesLine 43 = .ok (.aload_n 0, 1) := by decide +kernel
theorem dX6_seesLine_44 : decode cX6_seesLine 44 = .ok (.getfield 9, 3) := by decide +kernel
theorem dX6_seesLine_47 : decode cX6_seesLine 47 = .ok (.invokevirtual 84, 3) := by decide +kernel
theorem dX6_seesLine_50 : decode cX6_seesLine 50 = .ok (.iconst 0, 1) := by decide +kernel
theorem dX6_seesLine_51 : decode cX6_seesLine 51 = .ok (.istore_n 3, 1) := by decide +kernel
theorem dX6_seesLine_52 : decode cX6_seesLine 52 = .ok (.iload_n 3, 1) := by decide +kernel
theorem dX6_seesLine_53 : decode cX6_seesLine 53 = .ok (.bipush 6, 2) := by decide +kernel
theorem dX6_seesLine_55 : decode cX6_seesLine 55 = .ok (.if_icmp .ge 103, 3) := by decide +kernel
theorem dX6_seesLine_58 : decode cX6_seesLine 58 = .ok (.iload_n 3, 1) := by decide +kernel
theorem dX6_seesLine_59 : decode cX6_seesLine 59 = .ok (.ifCond .eq 15, 3) := by decide +kernel
theorem dX6_seesLine_62 : decode cX6_seesLine 62 = .ok (.aload_n 0, 1) := by decide +kernel
theorem dX6_seesLine_63 : decode cX6_seesLine 63 = .ok (.getfield 9, 3) := by decide +kernel
theorem dX6_seesLine_66 : decode cX6_seesLine 66 = .ok (.invokevirtual 29, 3) := by decide +kernel
theorem dX6_seesLine_69 : decode cX6_seesLine 69 = .ok (.bipush 39, 2) := by decide +kernel
theorem dX6_seesLine_71 : decode cX6_seesLine 71 = .ok (.if_icmp .ne 87, 3) := by decide +kernel
theorem dX6_seesLine_74 : decode cX6_seesLine 74 = .ok (.aload_n 0, 1) := by decide +kernel
theorem dX6_seesLine_75 : decode cX6_seesLine 75 = .ok (.getfield 9, 3) := by decide +kernel
theorem dX6_seesLine_78 : decode cX6_seesLine 78 = .ok (.aload_n 1, 1) := by decide +kernel
theorem dX6_seesLine_79 : decode cX6_seesLine 79 = .ok (.getfield 109, 3) := by decide +kernel
theorem dX6_seesLine_82 : decode cX6_seesLine 82 = .ok (.invokevirtual 112, 3) := by decide +kernel
theorem dX6_seesLine_85 : decode cX6_seesLine 85 = .ok (.istore 4, 2) := by decide +kernel
theorem dX6_seesLine_87 : decode cX6_seesLine 87 = .ok (.iload 4, 2) := by decide +kernel
theorem dX6_seesLine_89 : decode cX6_seesLine 89 = .ok (.ifCond .ge 5, 3) := by decide +kernel
theorem dX6_seesLine_92 : decode cX6_seesLine 92 = .ok (.iconst 0, 1) := by decide +kernel
theorem dX6_seesLine_93 : decode cX6_seesLine 93 = .ok (.ireturn, 1) := by decide +kernel
theorem dX6_seesLine_94 : decode cX6_seesLine 94 = .ok (.iload 4, 2) := by decide +kernel
theorem dX6_seesLine_96 : decode cX6_seesLine 96 = .ok (.iload_n 2, 1) := by decide +kernel
theorem dX6_seesLine_97 : decode cX6_seesLine 97 = .ok (.if_icmp .ne 12, 3) := by decide +kernel
theorem dX6_seesLine_100 : decode cX6_seesLine 100 = .ok (.aload_n 0, 1) := by decide +kernel
theorem dX6_seesLine_101 : decode cX6_seesLine 101 = .ok (.getfield 9, 3) := by decide +kernel
theorem dX6_seesLine_104 : decode cX6_seesLine 104 = .ok (.iconst 5, 1) := by decide +kernel
theorem dX6_seesLine_105 : decode cX6_seesLine 105 = .ok (.invokevirtual 71, 3) := by decide +kernel
theorem dX6_seesLine_108 : decode cX6_seesLine 108 = .ok (.ireturn, 1) := by decide +kernel
theorem dX6_seesLine_109 : decode cX6_seesLine 109 = .ok (.aload_n 1, 1) := by decide +kernel
theorem dX6_seesLine_110 : decode cX6_seesLine 110 = .ok (.getfield 129, 3) := by decide +kernel
theorem dX6_seesLine_113 : decode cX6_seesLine 113 = .ok (.iload_n 2, 1) := by decide +kernel
theorem dX6_seesLine_114 : decode cX6_seesLine 114 = .ok (.iaload, 1) := by decide +kernel
theorem dX6_seesLine_115 : decode cX6_seesLine 115 = .ok (.iload 4, 2) := by decide +kernel
theorem dX6_seesLine_117 : decode cX6_seesLine 117 = .ok (.ishr, 1) := by decide +kernel
theorem dX6_seesLine_118 : decode cX6_seesLine 118 = .ok (.iconst 1, 1) := by decide +kernel
theorem dX6_seesLine_119 : decode cX6_seesLine 119 = .ok (.iand, 1) := by decide +kernel
theorem dX6_seesLine_120 : decode cX6_seesLine 120 = .ok (.ifCond .eq 12, 3) := by decide +kernel
theorem dX6_seesLine_123 : decode cX6_seesLine 123 = .ok (.aload_n 0, 1) := by decide +kernel
theorem dX6_seesLine_124 : decode cX6_seesLine 124 = .ok (.getfield 9, 3) := by decide +kernel
theorem dX6_seesLine_127 : decode cX6_seesLine 127 = .ok (.iconst 3, 1) := by decide +kernel
theorem dX6_seesLine_128 : decode cX6_seesLine 128 = .ok (.invokevirtual 71, 3) := by decide +kernel
theorem dX6_seesLine_131 : decode cX6_seesLine 131 = .ok (.ireturn, 1) := by decide +kernel
theorem dX6_seesLine_132 : decode cX6_seesLine 132 = .ok (.aload_n 1, 1) := by decide +kernel
theorem dX6_seesLine_133 : decode cX6_seesLine 133 = .ok (.getfield 129, 3) := by decide +kernel
theorem dX6_seesLine_136 : decode cX6_seesLine 136 = .ok (.iload_n 2, 1) := by decide +kernel
theorem dX6_seesLine_137 : decode cX6_seesLine 137 = .ok (.dup2, 1) := by decide +kernel
theorem dX6_seesLine_138 : decode cX6_seesLine 138 = .ok (.iaload, 1) := by decide +kernel
theorem dX6_seesLine_139 : decode cX6_seesLine 139 = .ok (.iconst 1, 1) := by decide +kernel
theorem dX6_seesLine_140 : decode cX6_seesLine 140 = .ok (.iload 4, 2) := by decide +kernel
theorem dX6_seesLine_142 : decode cX6_seesLine 142 = .ok (.ishl, 1) := by decide +kernel
theorem dX6_seesLine_143 : decode cX6_seesLine 143 = .ok (.ior, 1) := by decide +kernel
theorem dX6_seesLine_144 : decode cX6_seesLine 144 = .ok (.iastore, 1) := by decide +kernel
theorem dX6_seesLine_145 : decode cX6_seesLine 145 = .ok (.aload_n 0, 1) := by decide +kernel
theorem dX6_seesLine_146 : decode cX6_seesLine 146 = .ok (.getfield 9, 3) := by decide +kernel
theorem dX6_seesLine_149 : decode cX6_seesLine 149 = .ok (.invokevirtual 84, 3) := by decide +kernel
theorem dX6_seesLine_152 : decode cX6_seesLine 152 = .ok (.iinc 3 1, 3) := by decide +kernel
theorem dX6_seesLine_155 : decode cX6_seesLine 155 = .ok (.goto (-103), 3) := by decide +kernel
theorem dX6_seesLine_158 : decode cX6_seesLine 158 = .ok (.iconst 1, 1) := by decide +kernel
theorem dX6_seesLine_159 : decode cX6_seesLine 159 = .ok (.ireturn, 1) := by decide +kernel
theorem dX6_tellLine_0 : decode cX6_tellLine 0 = .ok (.aload_n 1, 1) := by decide +kernel
theorem dX6_tellLine_1 : decode cX6_tellLine 1 = .ok (.getfield 132, 3) := by decide +kernel
theorem dX6_tellLine_4 : decode cX6_tellLine 4 = .ok (.bipush 12, 2) := by decide +kernel
theorem dX6_tellLine_6 : decode cX6_tellLine 6 = .ok (.if_icmp .lt 12, 3) := by decide +kernel
theorem dX6_tellLine_9 : decode cX6_tellLine 9 = .ok (.aload_n 0, 1) := by decide +kernel
theorem dX6_tellLine_10 : decode cX6_tellLine 10 = .ok (.getfield 9, 3) := by decide +kernel
theorem dX6_tellLine_13 : decode cX6_tellLine 13 = .ok (.iconst 2, 1) := by decide +kernel
theorem dX6_tellLine_14 : decode cX6_tellLine 14 = .ok (.invokevirtual 71, 3) := by decide +kernel
theorem dX6_tellLine_17 : decode cX6_tellLine 17 = .ok (.ireturn, 1) := by decide +kernel
theorem dX6_tellLine_18 : decode cX6_tellLine 18 = .ok (.aload_n 0, 1) := by decide +kernel
theorem dX6_tellLine_19 : decode cX6_tellLine 19 = .ok (.getfield 9, 3) := by decide +kernel
theorem dX6_tellLine_22 : decode cX6_tellLine 22 = .ok (.invokevirtual 84, 3) := by decide +kernel
theorem dX6_tellLine_25 : decode cX6_tellLine 25 = .ok (.aload_n 0, 1) := by decide +kernel
theorem dX6_tellLine_26 : decode cX6_tellLine 26 = .ok (.getfield 9, 3) := by decide +kernel
theorem dX6_tellLine_29 : decode cX6_tellLine 29 = .ok (.aload_n 1, 1) := by decide +kernel
theorem dX6_tellLine_30 : decode cX6_tellLine 30 = .ok (.getfield 135, 3) := by decide +kernel
theorem dX6_tellLine_33 : decode cX6_tellLine 33 = .ok (.invokevirtual 112, 3) := by decide +kernel
theorem dX6_tellLine_36 : decode cX6_tellLine 36 = .ok (.istore_n 2, 1) := by decide +kernel
theorem dX6_tellLine_37 : decode cX6_tellLine 37 = .ok (.iload_n 2, 1) := by decide +kernel
theorem dX6_tellLine_38 : decode cX6_tellLine 38 = .ok (.ifCond .ge 5, 3) := by decide +kernel
theorem dX6_tellLine_41 : decode cX6_tellLine 41 = .ok (.iconst 0, 1) := by decide +kernel
theorem dX6_tellLine_42 : decode cX6_tellLine 42 = .ok (.ireturn, 1) := by decide +kernel
theorem dX6_tellLine_43 : decode cX6_tellLine 43 = .ok (.aload_n 0, 1) := by decide +kernel
theorem dX6_tellLine_44 : decode cX6_tellLine 44 = .ok (.getfield 9, 3) := by decide +kernel
theorem dX6_tellLine_47 : decode cX6_tellLine 47 = .ok (.invokevirtual 84, 3) := by decide +kernel
theorem dX6_tellLine_50 : decode cX6_tellLine 50 = .ok (.aload_n 0, 1) := by decide +kernel
theorem dX6_tellLine_51 : decode cX6_tellLine 51 = .ok (.getfield 9, 3) := by decide +kernel
theorem dX6_tellLine_54 : decode cX6_tellLine 54 = .ok (.bipush 99, 2) := by decide +kernel
theorem dX6_tellLine_56 : decode cX6_tellLine 56 = .ok (.invokevirtual 94, 3) := by decide +kernel
theorem dX6_tellLine_59 : decode cX6_tellLine 59 = .ok (.ifCond .ne 5, 3) := by decide +kernel
theorem dX6_tellLine_62 : decode cX6_tellLine 62 = .ok (.iconst 0, 1) := by decide +kernel
theorem dX6_tellLine_63 : decode cX6_tellLine 63 = .ok (.ireturn, 1) := by decide +kernel
theorem dX6_tellLine_64 : decode cX6_tellLine 64 = .ok (.aload_n 1, 1) := by decide +kernel
theorem dX6_tellLine_65 : decode cX6_tellLine 65 = .ok (.getfield 138, 3) := by decide +kernel
theorem dX6_tellLine_68 : decode cX6_tellLine 68 = .ok (.aload_n 1, 1) := by decide +kernel
theorem dX6_tellLine_69 : decode cX6_tellLine 69 = .ok (.getfield 132, 3) := by decide +kernel
theorem dX6_tellLine_72 : decode cX6_tellLine 72 = .ok (.iload_n 2, 1) := by decide +kernel
theorem dX6_tellLine_73 : decode cX6_tellLine 73 = .ok (.iastore, 1) := by decide +kernel
theorem dX6_tellLine_74 : decode cX6_tellLine 74 = .ok (.aload_n 1, 1) := by decide +kernel
theorem dX6_tellLine_75 : decode cX6_tellLine 75 = .ok (.getfield 141, 3) := by decide +kernel
theorem dX6_tellLine_78 : decode cX6_tellLine 78 = .ok (.aload_n 1, 1) := by decide +kernel
theorem dX6_tellLine_79 : decode cX6_tellLine 79 = .ok (.getfield 132, 3) := by decide +kernel
theorem dX6_tellLine_82 : decode cX6_tellLine 82 = .ok (.aload_n 0, 1) := by decide +kernel
theorem dX6_tellLine_83 : decode cX6_tellLine 83 = .ok (.getfield 9, 3) := by decide +kernel
theorem dX6_tellLine_86 : decode cX6_tellLine 86 = .ok (.invokevirtual 91, 3) := by decide +kernel
theorem dX6_tellLine_89 : decode cX6_tellLine 89 = .ok (.iastore, 1) := by decide +kernel
theorem dX6_tellLine_90 : decode cX6_tellLine 90 = .ok (.aload_n 1, 1) := by decide +kernel
theorem dX6_tellLine_91 : decode cX6_tellLine 91 = .ok (.dup, 1) := by decide +kernel
theorem dX6_tellLine_92 : decode cX6_tellLine 92 = .ok (.getfield 132, 3) := by decide +kernel
theorem dX6_tellLine_95 : decode cX6_tellLine 95 = .ok (.iconst 1, 1) := by decide +kernel
theorem dX6_tellLine_96 : decode cX6_tellLine 96 = .ok (.iadd, 1) := by decide +kernel
theorem dX6_tellLine_97 : decode cX6_tellLine 97 = .ok (.putfield 132, 3) := by decide +kernel
theorem dX6_tellLine_100 : decode cX6_tellLine 100 = .ok (.aload_n 0, 1) := by decide +kernel
theorem dX6_tellLine_101 : decode cX6_tellLine 101 = .ok (.getfield 9, 3) := by decide +kernel
theorem dX6_tellLine_104 : decode cX6_tellLine 104 = .ok (.invokevirtual 84, 3) := by decide +kernel
theorem dX6_tellLine_107 : decode cX6_tellLine 107 = .ok (.iconst 1, 1) := by decide +kernel
theorem dX6_tellLine_108 : decode cX6_tellLine 108 = .ok (.ireturn, 1) := by decide +kernel
theorem dX6_askLine_0 : decode cX6_askLine 0 = .ok (.aload_n 1, 1) := by decide +kernel
theorem dX6_askLine_1 : decode cX6_askLine 1 = .ok (.getfield 144, 3) := by decide +kernel
theorem dX6_askLine_4 : decode cX6_askLine 4 = .ok (.bipush 12, 2) := by decide +kernel
theorem dX6_askLine_6 : decode cX6_askLine 6 = .ok (.if_icmp .lt 12, 3) := by decide +kernel
theorem dX6_askLine_9 : decode cX6_askLine 9 = .ok (.aload_n 0, 1) := by decide +kernel
theorem dX6_askLine_10 : decode cX6_askLine 10 = .ok (.getfield 9, 3) := by decide +kernel
theorem dX6_askLine_13 : decode cX6_askLine 13 = .ok (.iconst 2, 1) := by decide +kernel
theorem dX6_askLine_14 : decode cX6_askLine 14 = .ok (.invokevirtual 71, 3) := by decide +kernel
theorem dX6_askLine_17 : decode cX6_askLine 17 = .ok (.ireturn, 1) := by decide +kernel
theorem dX6_askLine_18 : decode cX6_askLine 18 = .ok (.aload_n 0, 1) := by decide +kernel
theorem dX6_askLine_19 : decode cX6_askLine 19 = .ok (.getfield 9, 3) := by decide +kernel
theorem dX6_askLine_22 : decode cX6_askLine 22 = .ok (.invokevirtual 84, 3) := by decide +kernel
theorem dX6_askLine_25 : decode cX6_askLine 25 = .ok (.aload_n 0, 1) := by decide +kernel
theorem dX6_askLine_26 : decode cX6_askLine 26 = .ok (.getfield 9, 3) := by decide +kernel
theorem dX6_askLine_29 : decode cX6_askLine 29 = .ok (.bipush 99, 2) := by decide +kernel
theorem dX6_askLine_31 : decode cX6_askLine 31 = .ok (.invokevirtual 94, 3) := by decide +kernel
theorem dX6_askLine_34 : decode cX6_askLine 34 = .ok (.ifCond .ne 5, 3) := by decide +kernel
theorem dX6_askLine_37 : decode cX6_askLine 37 = .ok (.iconst 0, 1) := by decide +kernel
theorem dX6_askLine_38 : decode cX6_askLine 38 = .ok (.ireturn, 1) := by decide +kernel
theorem dX6_askLine_39 : decode cX6_askLine 39 = .ok (.aload_n 1, 1) := by decide +kernel
theorem dX6_askLine_40 : decode cX6_askLine 40 = .ok (.getfield 147, 3) := by decide +kernel
theorem dX6_askLine_43 : decode cX6_askLine 43 = .ok (.aload_n 1, 1) := by decide +kernel
theorem dX6_askLine_44 : decode cX6_askLine 44 = .ok (.getfield 144, 3) := by decide +kernel
theorem dX6_askLine_47 : decode cX6_askLine 47 = .ok (.aload_n 0, 1) := by decide +kernel
theorem dX6_askLine_48 : decode cX6_askLine 48 = .ok (.getfield 9, 3) := by decide +kernel
theorem dX6_askLine_51 : decode cX6_askLine 51 = .ok (.invokevirtual 91, 3) := by decide +kernel
theorem dX6_askLine_54 : decode cX6_askLine 54 = .ok (.iastore, 1) := by decide +kernel
theorem dX6_askLine_55 : decode cX6_askLine 55 = .ok (.aload_n 1, 1) := by decide +kernel
theorem dX6_askLine_56 : decode cX6_askLine 56 = .ok (.dup, 1) := by decide +kernel
theorem dX6_askLine_57 : decode cX6_askLine 57 = .ok (.getfield 144, 3) := by decide +kernel
theorem dX6_askLine_60 : decode cX6_askLine 60 = .ok (.iconst 1, 1) := by decide +kernel
theorem dX6_askLine_61 : decode cX6_askLine 61 = .ok (.iadd, 1) := by decide +kernel
theorem dX6_askLine_62 : decode cX6_askLine 62 = .ok (.putfield 144, 3) := by decide +kernel
theorem dX6_askLine_65 : decode cX6_askLine 65 = .ok (.aload_n 0, 1) := by decide +kernel
theorem dX6_askLine_66 : decode cX6_askLine 66 = .ok (.getfield 9, 3) := by decide +kernel
theorem dX6_askLine_69 : decode cX6_askLine 69 = .ok (.invokevirtual 84, 3) := by decide +kernel
theorem dX6_askLine_72 : decode cX6_askLine 72 = .ok (.iconst 1, 1) := by decide +kernel
theorem dX6_askLine_73 : decode cX6_askLine 73 = .ok (.ireturn, 1) := by decide +kernel
theorem dX6_shyLine_0 : decode cX6_shyLine 0 = .ok (.aload_n 1, 1) := by decide +kernel
theorem dX6_shyLine_1 : decode cX6_shyLine 1 = .ok (.getfield 150, 3) := by decide +kernel
theorem dX6_shyLine_4 : decode cX6_shyLine 4 = .ok (.iconst (-1), 1) := by decide +kernel
theorem dX6_shyLine_5 : decode cX6_shyLine 5 = .ok (.if_icmp .eq 12, 3) := by decide +kernel
theorem dX6_shyLine_8 : decode cX6_shyLine 8 = .ok (.aload_n 0, 1) := by decide +kernel
theorem dX6_shyLine_9 : decode cX6_shyLine 9 = .ok (.getfield 9, 3) := by decide +kernel
theorem dX6_shyLine_12 : decode cX6_shyLine 12 = .ok (.iconst 3, 1) := by decide +kernel
theorem dX6_shyLine_13 : decode cX6_shyLine 13 = .ok (.invokevirtual 71, 3) := by decide +kernel
theorem dX6_shyLine_16 : decode cX6_shyLine 16 = .ok (.ireturn, 1) := by decide +kernel
theorem dX6_shyLine_17 : decode cX6_shyLine 17 = .ok (.aload_n 0, 1) := by decide +kernel
theorem dX6_shyLine_18 : decode cX6_shyLine 18 = .ok (.getfield 9, 3) := by decide +kernel
theorem dX6_shyLine_21 : decode cX6_shyLine 21 = .ok (.invokevirtual 84, 3) := by decide +kernel
theorem dX6_shyLine_24 : decode cX6_shyLine 24 = .ok (.aload_n 0, 1) := by decide +kernel
theorem dX6_shyLine_25 : decode cX6_shyLine 25 = .ok (.getfield 9, 3) := by decide +kernel
theorem dX6_shyLine_28 : decode cX6_shyLine 28 = .ok (.bipush 100, 2) := by decide +kernel
theorem dX6_shyLine_30 : decode cX6_shyLine 30 = .ok (.invokevirtual 94, 3) := by decide +kernel
theorem dX6_shyLine_33 : decode cX6_shyLine 33 = .ok (.ifCond .ne 5, 3) := by decide +kernel
theorem dX6_shyLine_36 : decode cX6_shyLine 36 = .ok (.iconst 0, 1) := by decide +kernel
theorem dX6_shyLine_37 : decode cX6_shyLine 37 = .ok (.ireturn, 1) := by decide +kernel
theorem dX6_shyLine_38 : decode cX6_shyLine 38 = .ok (.aload_n 1, 1) := by decide +kernel
theorem dX6_shyLine_39 : decode cX6_shyLine 39 = .ok (.aload_n 0, 1) := by decide +kernel
theorem dX6_shyLine_40 : decode cX6_shyLine 40 = .ok (.getfield 9, 3) := by decide +kernel
theorem dX6_shyLine_43 : decode cX6_shyLine 43 = .ok (.invokevirtual 91, 3) := by decide +kernel
theorem dX6_shyLine_46 : decode cX6_shyLine 46 = .ok (.putfield 150, 3) := by decide +kernel
theorem dX6_shyLine_49 : decode cX6_shyLine 49 = .ok (.aload_n 0, 1) := by decide +kernel
theorem dX6_shyLine_50 : decode cX6_shyLine 50 = .ok (.getfield 9, 3) := by decide +kernel
theorem dX6_shyLine_53 : decode cX6_shyLine 53 = .ok (.invokevirtual 84, 3) := by decide +kernel
theorem dX6_shyLine_56 : decode cX6_shyLine 56 = .ok (.iconst 1, 1) := by decide +kernel
theorem dX6_shyLine_57 : decode cX6_shyLine 57 = .ok (.ireturn, 1) := by decide +kernel
theorem dX6_seedLine_0 : decode cX6_seedLine 0 = .ok (.aload_n 1, 1) := by decide +kernel
theorem dX6_seedLine_1 : decode cX6_seedLine 1 = .ok (.getfield 153, 3) := by decide +kernel
theorem dX6_seedLine_4 : decode cX6_seedLine 4 = .ok (.iconst (-1), 1) := by decide +kernel
theorem dX6_seedLine_5 : decode cX6_seedLine 5 = .ok (.if_icmp .eq 12, 3) := by decide +kernel
theorem dX6_seedLine_8 : decode cX6_seedLine 8 = .ok (.aload_n 0, 1) := by decide +kernel
theorem dX6_seedLine_9 : decode cX6_seedLine 9 = .ok (.getfield 9, 3) := by decide +kernel
theorem dX6_seedLine_12 : decode cX6_seedLine 12 = .ok (.iconst 3, 1) := by decide +kernel
theorem dX6_seedLine_13 : decode cX6_seedLine 13 = .ok (.invokevirtual 71, 3) := by decide +kernel
theorem dX6_seedLine_16 : decode cX6_seedLine 16 = .ok (.ireturn, 1) := by decide +kernel
theorem dX6_seedLine_17 : decode cX6_seedLine 17 = .ok (.aload_n 0, 1) := by decide +kernel
theorem dX6_seedLine_18 : decode cX6_seedLine 18 = .ok (.getfield 9, 3) := by decide +kernel
theorem dX6_seedLine_21 : decode cX6_seedLine 21 = .ok (.invokevirtual 84, 3) := by decide +kernel
theorem dX6_seedLine_24 : decode cX6_seedLine 24 = .ok (.aload_n 0, 1) := by decide +kernel
theorem dX6_seedLine_25 : decode cX6_seedLine 25 = .ok (.getfield 9, 3) := by decide +kernel
theorem dX6_seedLine_28 : decode cX6_seedLine 28 = .ok (.ldc 156, 2) := by decide +kernel
theorem dX6_seedLine_30 : decode cX6_seedLine 30 = .ok (.invokevirtual 94, 3) := by decide +kernel
theorem dX6_seedLine_33 : decode cX6_seedLine 33 = .ok (.ifCond .ne 5, 3) := by decide +kernel
theorem dX6_seedLine_36 : decode cX6_seedLine 36 = .ok (.iconst 0, 1) := by decide +kernel
theorem dX6_seedLine_37 : decode cX6_seedLine 37 = .ok (.ireturn, 1) := by decide +kernel
theorem dX6_seedLine_38 : decode cX6_seedLine 38 = .ok (.aload_n 1, 1) := by decide +kernel
theorem dX6_seedLine_39 : decode cX6_seedLine 39 = .ok (.aload_n 0, 1) := by decide +kernel
theorem dX6_seedLine_40 : decode cX6_seedLine 40 = .ok (.getfield 9, 3) := by decide +kernel
theorem dX6_seedLine_43 : decode cX6_seedLine 43 = .ok (.invokevirtual 91, 3) := by decide +kernel
theorem dX6_seedLine_46 : decode cX6_seedLine 46 = .ok (.putfield 153, 3) := by decide +kernel
theorem dX6_seedLine_49 : decode cX6_seedLine 49 = .ok (.aload_n 0, 1) := by decide +kernel
theorem dX6_seedLine_50 : decode cX6_seedLine 50 = .ok (.getfield 9, 3) := by decide +kernel
theorem dX6_seedLine_53 : decode cX6_seedLine 53 = .ok (.invokevirtual 84, 3) := by decide +kernel
theorem dX6_seedLine_56 : decode cX6_seedLine 56 = .ok (.iconst 1, 1) := by decide +kernel
theorem dX6_seedLine_57 : decode cX6_seedLine 57 = .ok (.ireturn, 1) := by decide +kernel
theorem dX6_factLine_0 : decode cX6_factLine 0 = .ok (.aload_n 1, 1) := by decide +kernel
theorem dX6_factLine_1 : decode cX6_factLine 1 = .ok (.getfield 135, 3) := by decide +kernel
theorem dX6_factLine_4 : decode cX6_factLine 4 = .ok (.invokevirtual 79, 3) := by decide +kernel
theorem dX6_factLine_7 : decode cX6_factLine 7 = .ok (.ifCond .eq 12, 3) := by decide +kernel
theorem dX6_factLine_10 : decode cX6_factLine 10 = .ok (.aload_n 0, 1) := by decide +kernel
theorem dX6_factLine_11 : decode cX6_factLine 11 = .ok (.getfield 9, 3) := by decide +kernel
theorem dX6_factLine_14 : decode cX6_factLine 14 = .ok (.iconst 2, 1) := by decide +kernel
theorem dX6_factLine_15 : decode cX6_factLine 15 = .ok (.invokevirtual 71, 3) := by decide +kernel
theorem dX6_factLine_18 : decode cX6_factLine 18 = .ok (.ireturn, 1) := by decide +kernel
theorem dX6_factLine_19 : decode cX6_factLine 19 = .ok (.aload_n 0, 1) := by decide +kernel
theorem dX6_factLine_20 : decode cX6_factLine 20 = .ok (.getfield 9, 3) := by decide +kernel
theorem dX6_factLine_23 : decode cX6_factLine 23 = .ok (.invokevirtual 84, 3) := by decide +kernel
theorem dX6_factLine_26 : decode cX6_factLine 26 = .ok (.aload_n 0, 1) := by decide +kernel
theorem dX6_factLine_27 : decode cX6_factLine 27 = .ok (.getfield 9, 3) := by decide +kernel
theorem dX6_factLine_30 : decode cX6_factLine 30 = .ok (.aload_n 1, 1) := by decide +kernel
theorem dX6_factLine_31 : decode cX6_factLine 31 = .ok (.getfield 135, 3) := by decide +kernel
theorem dX6_factLine_34 : decode cX6_factLine 34 = .ok (.invokevirtual 87, 3) := by decide +kernel
theorem dX6_factLine_37 : decode cX6_factLine 37 = .ok (.ifCond .ne 5, 3) := by decide +kernel
theorem dX6_factLine_40 : decode cX6_factLine 40 = .ok (.iconst 0, 1) := by decide +kernel
theorem dX6_factLine_41 : decode cX6_factLine 41 = .ok (.ireturn, 1) := by decide +kernel
theorem dX6_factLine_42 : decode cX6_factLine 42 = .ok (.aload_n 0, 1) := by decide +kernel
theorem dX6_factLine_43 : decode cX6_factLine 43 = .ok (.getfield 9, 3) := by decide +kernel
theorem dX6_factLine_46 : decode cX6_factLine 46 = .ok (.invokevirtual 91, 3) := by decide +kernel
theorem dX6_factLine_49 : decode cX6_factLine 49 = .ok (.istore_n 2, 1) := by decide +kernel
theorem dX6_factLine_50 : decode cX6_factLine 50 = .ok (.aload_n 0, 1) := by decide +kernel
theorem dX6_factLine_51 : decode cX6_factLine 51 = .ok (.getfield 9, 3) := by decide +kernel
theorem dX6_factLine_54 : decode cX6_factLine 54 = .ok (.invokevirtual 84, 3) := by decide +kernel
theorem dX6_factLine_57 : decode cX6_factLine 57 = .ok (.aload_n 0, 1) := by decide +kernel
theorem dX6_factLine_58 : decode cX6_factLine 58 = .ok (.getfield 20, 3) := by decide +kernel
theorem dX6_factLine_61 : decode cX6_factLine 61 = .ok (.aload_n 1, 1) := by decide +kernel
theorem dX6_factLine_62 : decode cX6_factLine 62 = .ok (.iconst 1, 1) := by decide +kernel
theorem dX6_factLine_63 : decode cX6_factLine 63 = .ok (.invokevirtual 157, 3) := by decide +kernel
theorem dX6_factLine_66 : decode cX6_factLine 66 = .ok (.istore_n 3, 1) := by decide +kernel
theorem dX6_factLine_67 : decode cX6_factLine 67 = .ok (.iload_n 3, 1) := by decide +kernel
theorem dX6_factLine_68 : decode cX6_factLine 68 = .ok (.ifCond .ge 5, 3) := by decide +kernel
theorem dX6_factLine_71 : decode cX6_factLine 71 = .ok (.iconst 0, 1) := by decide +kernel
theorem dX6_factLine_72 : decode cX6_factLine 72 = .ok (.ireturn, 1) := by decide +kernel
theorem dX6_factLine_73 : decode cX6_factLine 73 = .ok (.aload_n 1, 1) := by decide +kernel
theorem dX6_factLine_74 : decode cX6_factLine 74 = .ok (.getfield 161, 3) := by decide +kernel
theorem dX6_factLine_77 : decode cX6_factLine 77 = .ok (.aload_n 1, 1) := by decide +kernel
theorem dX6_factLine_78 : decode cX6_factLine 78 = .ok (.getfield 135, 3) := by decide +kernel
theorem dX6_factLine_81 : decode cX6_factLine 81 = .ok (.getfield 101, 3) := by decide +kernel
theorem dX6_factLine_84 : decode cX6_factLine 84 = .ok (.iload_n 3, 1) := by decide +kernel
theorem dX6_factLine_85 : decode cX6_factLine 85 = .ok (.iastore, 1) := by decide +kernel
theorem dX6_factLine_86 : decode cX6_factLine 86 = .ok (.aload_n 1, 1) := by decide +kernel
theorem dX6_factLine_87 : decode cX6_factLine 87 = .ok (.getfield 164, 3) := by decide +kernel
theorem dX6_factLine_90 : decode cX6_factLine 90 = .ok (.aload_n 1, 1) := by decide +kernel
theorem dX6_factLine_91 : decode cX6_factLine 91 = .ok (.getfield 135, 3) := by decide +kernel
theorem dX6_factLine_94 : decode cX6_factLine 94 = .ok (.getfield 101, 3) := by decide +kernel
theorem dX6_factLine_97 : decode cX6_factLine 97 = .ok (.aload_n 0, 1) := by decide +kernel
theorem dX6_factLine_98 : decode cX6_factLine 98 = .ok (.getfield 20, 3) := by decide +kernel
theorem dX6_factLine_101 : decode cX6_factLine 101 = .ok (.getfield 168, 3) := by decide +kernel
theorem dX6_factLine_104 : decode cX6_factLine 104 = .ok (.lastore, 1) := by decide +kernel
theorem dX6_factLine_105 : decode cX6_factLine 105 = .ok (.aload_n 1, 1) := by decide +kernel
theorem dX6_factLine_106 : decode cX6_factLine 106 = .ok (.getfield 135, 3) := by decide +kernel
theorem dX6_factLine_109 : decode cX6_factLine 109 = .ok (.iload_n 2, 1) := by decide +kernel
theorem dX6_factLine_110 : decode cX6_factLine 110 = .ok (.invokevirtual 105, 3) := by decide +kernel
theorem dX6_factLine_113 : decode cX6_factLine 113 = .ok (.iconst 1, 1) := by decide +kernel
theorem dX6_factLine_114 : decode cX6_factLine 114 = .ok (.ireturn, 1) := by decide +kernel
theorem dX6_lawLine_0 : decode cX6_lawLine 0 = .ok (.aload_n 0, 1) := by decide +kernel
theorem dX6_lawLine_1 : decode cX6_lawLine 1 = .ok (.getfield 9, 3) := by decide +kernel
theorem dX6_lawLine_4 : decode cX6_lawLine 4 = .ok (.invokevirtual 84, 3) := by decide +kernel
theorem dX6_lawLine_7 : decode cX6_lawLine 7 = .ok (.aload_n 0, 1) := by decide +kernel
theorem dX6_lawLine_8 : decode cX6_lawLine 8 = .ok (.getfield 9, 3) := by decide +kernel
theorem dX6_lawLine_11 : decode cX6_lawLine 11 = .ok (.invokevirtual 29, 3) := by decide +kernel
theorem dX6_lawLine_14 : decode cX6_lawLine 14 = .ok (.istore_n 2, 1) := by decide +kernel
theorem dX6_lawLine_15 : decode cX6_lawLine 15 = .ok (.iload_n 2, 1) := by decide +kernel
theorem dX6_lawLine_16 : decode cX6_lawLine 16 = .ok (.bipush 9, 2) := by decide +kernel
theorem dX6_lawLine_18 : decode cX6_lawLine 18 = .ok (.if_icmp .eq 18, 3) := by decide +kernel
theorem dX6_lawLine_21 : decode cX6_lawLine 21 = .ok (.iload_n 2, 1) := by decide +kernel
theorem dX6_lawLine_22 : decode cX6_lawLine 22 = .ok (.bipush 10, 2) := by decide +kernel
theorem dX6_lawLine_24 : decode cX6_lawLine 24 = .ok (.if_icmp .eq 12, 3) := by decide +kernel
theorem dX6_lawLine_27 : decode cX6_lawLine 27 = .ok (.aload_n 0, 1) := by decide +kernel
theorem dX6_lawLine_28 : decode cX6_lawLine 28 = .ok (.getfield 9, 3) := by decide +kernel
theorem dX6_lawLine_31 : decode cX6_lawLine 31 = .ok (.iconst 1, 1) := by decide +kernel
theorem dX6_lawLine_32 : decode cX6_lawLine 32 = .ok (.invokevirtual 71, 3) := by decide +kernel
theorem dX6_lawLine_35 : decode cX6_lawLine 35 = .ok (.ireturn, 1) := by decide +kernel
theorem dX6_lawLine_36 : decode cX6_lawLine 36 = .ok (.iload_n 2, 1) := by decide +kernel
theorem dX6_lawLine_37 : decode cX6_lawLine 37 = .ok (.bipush 9, 2) := by decide +kernel
theorem dX6_lawLine_39 : decode cX6_lawLine 39 = .ok (.if_icmp .ne 7, 3) := by decide +kernel
theorem dX6_lawLine_42 : decode cX6_lawLine 42 = .ok (.iconst 0, 1) := by decide +kernel
theorem dX6_lawLine_43 : decode cX6_lawLine 43 = .ok (.goto 4, 3) := by decide +kernel
theorem dX6_lawLine_46 : decode cX6_lawLine 46 = .ok (.iconst 1, 1) := by decide +kernel
theorem dX6_lawLine_47 : decode cX6_lawLine 47 = .ok (.istore_n 3, 1) := by decide +kernel
theorem dX6_lawLine_48 : decode cX6_lawLine 48 = .ok (.aload_n 1, 1) := by decide +kernel
theorem dX6_lawLine_49 : decode cX6_lawLine 49 = .ok (.getfield 171, 3) := by decide +kernel
theorem dX6_lawLine_52 : decode cX6_lawLine 52 = .ok (.iload_n 3, 1) := by decide +kernel
theorem dX6_lawLine_53 : decode cX6_lawLine 53 = .ok (.laload, 1) := by decide +kernel
theorem dX6_lawLine_54 : decode cX6_lawLine 54 = .ok (.lconst 0, 1) := by decide +kernel
theorem dX6_lawLine_55 : decode cX6_lawLine 55 = .ok (.lcmp, 1) := by decide +kernel
theorem dX6_lawLine_56 : decode cX6_lawLine 56 = .ok (.ifCond .eq 12, 3) := by decide +kernel
theorem dX6_lawLine_59 : decode cX6_lawLine 59 = .ok (.aload_n 0, 1) := by decide +kernel
theorem dX6_lawLine_60 : decode cX6_lawLine 60 = .ok (.getfield 9, 3) := by decide +kernel
theorem dX6_lawLine_63 : decode cX6_lawLine 63 = .ok (.iconst 3, 1) := by decide +kernel
theorem dX6_lawLine_64 : decode cX6_lawLine 64 = .ok (.invokevirtual 71, 3) := by decide +kernel
theorem dX6_lawLine_67 : decode cX6_lawLine 67 = .ok (.ireturn, 1) := by decide +kernel
theorem dX6_lawLine_68 : decode cX6_lawLine 68 = .ok (.aload_n 0, 1) := by decide +kernel
theorem dX6_lawLine_69 : decode cX6_lawLine 69 = .ok (.getfield 9, 3) := by decide +kernel
theorem dX6_lawLine_72 : decode cX6_lawLine 72 = .ok (.invokevirtual 84, 3) := by decide +kernel
theorem dX6_lawLine_75 : decode cX6_lawLine 75 = .ok (.aload_n 0, 1) := by decide +kernel
theorem dX6_lawLine_76 : decode cX6_lawLine 76 = .ok (.getfield 20, 3) := by decide +kernel
theorem dX6_lawLine_79 : decode cX6_lawLine 79 = .ok (.aload_n 1, 1) := by decide +kernel
theorem dX6_lawLine_80 : decode cX6_lawLine 80 = .ok (.iconst 0, 1) := by decide +kernel
theorem dX6_lawLine_81 : decode cX6_lawLine 81 = .ok (.invokevirtual 157, 3) := by decide +kernel
theorem dX6_lawLine_84 : decode cX6_lawLine 84 = .ok (.istore 4, 2) := by decide +kernel
theorem dX6_lawLine_86 : decode cX6_lawLine 86 = .ok (.iload 4, 2) := by decide +kernel
theorem dX6_lawLine_88 : decode cX6_lawLine 88 = .ok (.ifCond .ge 5, 3) := by decide +kernel
theorem dX6_lawLine_91 : decode cX6_lawLine 91 = .ok (.iconst 0, 1) := by decide +kernel
theorem dX6_lawLine_92 : decode cX6_lawLine 92 = .ok (.ireturn, 1) := by decide +kernel
theorem dX6_lawLine_93 : decode cX6_lawLine 93 = .ok (.aload_n 1, 1) := by decide +kernel
theorem dX6_lawLine_94 : decode cX6_lawLine 94 = .ok (.getfield 174, 3) := by decide +kernel
theorem dX6_lawLine_97 : decode cX6_lawLine 97 = .ok (.iload_n 3, 1) := by decide +kernel
theorem dX6_lawLine_98 : decode cX6_lawLine 98 = .ok (.iload 4, 2) := by decide +kernel
theorem dX6_lawLine_100 : decode cX6_lawLine 100 = .ok (.iastore, 1) := by decide +kernel
theorem dX6_lawLine_101 : decode cX6_lawLine 101 = .ok (.aload_n 1, 1) := by decide +kernel
theorem dX6_lawLine_102 : decode cX6_lawLine 102 = .ok (.getfield 171, 3) := by decide +kernel
theorem dX6_lawLine_105 : decode cX6_lawLine 105 = .ok (.iload_n 3, 1) := by decide +kernel
theorem dX6_lawLine_106 : decode cX6_lawLine 106 = .ok (.aload_n 0, 1) := by decide +kernel
theorem dX6_lawLine_107 : decode cX6_lawLine 107 = .ok (.getfield 20, 3) := by decide +kernel
theorem dX6_lawLine_110 : decode cX6_lawLine 110 = .ok (.getfield 168, 3) := by decide +kernel
theorem dX6_lawLine_113 : decode cX6_lawLine 113 = .ok (.lastore, 1) := by decide +kernel
theorem dX6_lawLine_114 : decode cX6_lawLine 114 = .ok (.iconst 1, 1) := by decide +kernel
theorem dX6_lawLine_115 : decode cX6_lawLine 115 = .ok (.ireturn, 1) := by decide +kernel
theorem dX7_init_0 : decode cX7_init 0 = .ok (.aload_n 0, 1) := by decide +kernel
theorem dX7_init_1 : decode cX7_init 1 = .ok (.invokespecial 3, 3) := by decide +kernel
theorem dX7_init_4 : decode cX7_init 4 = .ok (.aload_n 0, 1) := by decide +kernel
theorem dX7_init_5 : decode cX7_init 5 = .ok (.sipush 729, 3) := by decide +kernel
theorem dX7_init_8 : decode cX7_init 8 = .ok (.newarray .int, 2) := by decide +kernel
theorem dX7_init_10 : decode cX7_init 10 = .ok (.putfield 9, 3) := by decide +kernel
theorem dX7_init_13 : decode cX7_init 13 = .ok (.aload_n 0, 1) := by decide +kernel
theorem dX7_init_14 : decode cX7_init 14 = .ok (.bipush 6, 2) := by decide +kernel
theorem dX7_init_16 : decode cX7_init 16 = .ok (.newarray .int, 2) := by decide +kernel
theorem dX7_init_18 : decode cX7_init 18 = .ok (.putfield 15, 3) := by decide +kernel
theorem dX7_init_21 : decode cX7_init 21 = .ok (.aload_n 0, 1) := by decide +kernel
theorem dX7_init_22 : decode cX7_init 22 = .ok (.bipush 6, 2) := by decide +kernel
theorem dX7_init_24 : decode cX7_init 24 = .ok (.newarray .int, 2) := by decide +kernel
theorem dX7_init_26 : decode cX7_init 26 = .ok (.putfield 18, 3) := by decide +kernel
theorem dX7_init_29 : decode cX7_init 29 = .ok (.aload_n 0, 1) := by decide +kernel
theorem dX7_init_30 : decode cX7_init 30 = .ok (.bipush 6, 2) := by decide +kernel
theorem dX7_init_32 : decode cX7_init 32 = .ok (.newarray .int, 2) := by decide +kernel
theorem dX7_init_34 : decode cX7_init 34 = .ok (.putfield 21, 3) := by decide +kernel
theorem dX7_init_37 : decode cX7_init 37 = .ok (.return_, 1) := by decide +kernel
theorem dX7_begin_0 : decode cX7_begin 0 = .ok (.aload_n 0, 1) := by decide +kernel
theorem dX7_begin_1 : decode cX7_begin 1 = .ok (.aload_n 1, 1) := by decide +kernel
theorem dX7_begin_2 : decode cX7_begin 2 = .ok (.getfield 24, 3) := by decide +kernel
theorem dX7_begin_5 : decode cX7_begin 5 = .ok (.getfield 30, 3) := by decide +kernel
theorem dX7_begin_8 : decode cX7_begin 8 = .ok (.putfield 36, 3) := by decide +kernel
theorem dX7_begin_11 : decode cX7_begin 11 = .ok (.aload_n 0, 1) := by decide +kernel
theorem dX7_begin_12 : decode cX7_begin 12 = .ok (.iconst 0, 1) := by decide +kernel
theorem dX7_begin_13 : decode cX7_begin 13 = .ok (.putfield 38, 3) := by decide +kernel
theorem dX7_begin_16 : decode cX7_begin 16 = .ok (.aload_n 0, 1) := by decide +kernel
theorem dX7_begin_17 : decode cX7_begin 17 = .ok (.iconst 0, 1) := by decide +kernel
theorem dX7_begin_18 : decode cX7_begin 18 = .ok (.putfield 41, 3) := by decide +kernel
theorem dX7_begin_21 : decode cX7_begin 21 = .ok (.aload_n 0, 1) := by decide +kernel
theorem dX7_begin_22 : decode cX7_begin 22 = .ok (.iconst 0, 1) := by decide +kernel
theorem dX7_begin_23 : decode cX7_begin 23 = .ok (.putfield 44, 3) := by decide +kernel
theorem dX7_begin_26 : decode cX7_begin 26 = .ok (.aload_n 0, 1) := by decide +kernel
theorem dX7_begin_27 : decode cX7_begin 27 = .ok (.iconst 0, 1) := by decide +kernel
theorem dX7_begin_28 : decode cX7_begin 28 = .ok (.putfield 47, 3) := by decide +kernel
theorem dX7_begin_31 : decode cX7_begin 31 = .ok (.aload_n 0, 1) := by decide +kernel
theorem dX7_begin_32 : decode cX7_begin 32 = .ok (.aload_n 1, 1) := by decide +kernel
theorem dX7_begin_33 : decode cX7_begin 33 = .ok (.getfield 50, 3) := by decide +kernel
theorem dX7_begin_36 : decode cX7_begin 36 = .ok (.iconst (-1), 1) := by decide +kernel
theorem dX7_begin_37 : decode cX7_begin 37 = .ok (.if_icmp .ne 7, 3) := by decide +kernel
theorem dX7_begin_40 : decode cX7_begin 40 = .ok (.lconst 0, 1) := by decide +kernel
theorem dX7_begin_41 : decode cX7_begin 41 = .ok (.goto 8, 3) := by decide +kernel
theorem dX7_begin_44 : decode cX7_begin 44 = .ok (.aload_n 1, 1) := by decide +kernel
theorem dX7_begin_45 : decode cX7_begin 45 = .ok (.getfield 50, 3) := by decide +kernel
theorem dX7_begin_48 : decode cX7_begin 48 = .ok (.i2l, 1) := by decide +kernel
theorem dX7_begin_49 : decode cX7_begin 49 = .ok (.putfield 53, 3) := by decide +kernel
theorem dX7_begin_52 : decode cX7_begin 52 = .ok (.iconst 0, 1) := by decide +kernel
theorem dX7_begin_53 : decode cX7_begin 53 = .ok (.istore_n 2, 1) := by decide +kernel
theorem dX7_begin_54 : decode cX7_begin 54 = .ok (.iload_n 2, 1) := by decide +kernel
theorem dX7_begin_55 : decode cX7_begin 55 = .ok (.bipush 6, 2) := by decide +kernel
theorem dX7_begin_57 : decode cX7_begin 57 = .ok (.if_icmp .ge 30, 3) := by decide +kernel
theorem dX7_begin_60 : decode cX7_begin 60 = .ok (.aload_n 0, 1) := by decide +kernel
theorem dX7_begin_61 : decode cX7_begin 61 = .ok (.getfield 15, 3) := by decide +kernel
theorem dX7_begin_64 : decode cX7_begin 64 = .ok (.iload_n 2, 1) := by decide +kernel
theorem dX7_begin_65 : decode cX7_begin 65 = .ok (.iconst 0, 1) := by decide +kernel
theorem dX7_begin_66 : decode cX7_begin 66 = .ok (.iastore, 1) := by decide +kernel
theorem dX7_begin_67 : decode cX7_begin 67 = .ok (.aload_n 0, 1) := by decide +kernel
theorem dX7_begin_68 : decode cX7_begin 68 = .ok (.getfield 18, 3) := by decide +kernel
theorem dX7_begin_71 : decode cX7_begin 71 = .ok (.iload_n 2, 1) := by decide +kernel
theorem dX7_begin_72 : decode cX7_begin 72 = .ok (.iconst 0, 1) := by decide +kernel
theorem dX7_begin_73 : decode cX7_begin 73 = .ok (.iastore, 1) := by decide +kernel
theorem dX7_begin_74 : decode cX7_begin 74 = .ok (.aload_n 0, 1) := by decide +kernel
theorem dX7_begin_75 : decode cX7_begin 75 = .ok (.getfield 21, 3) := by decide +kernel
theorem dX7_begin_78 : decode cX7_begin 78 = .ok (.iload_n 2, 1) := by decide +kernel
theorem dX7_begin_79 : decode cX7_begin 79 = .ok (.iconst 0, 1) := by decide +kernel
theorem dX7_begin_80 : decode cX7_begin 80 = .ok (.iastore, 1) := by decide +kernel
theorem dX7_begin_81 : decode cX7_begin 81 = .ok (.iinc 2 1, 3) := by decide +kernel
theorem dX7_begin_84 : decode cX7_begin 84 = .ok (.goto (-30), 3) := by decide +kernel
theorem dX7_begin_87 : decode cX7_begin 87 = .ok (.iconst 0, 1) := by decide +kernel
theorem dX7_begin_88 : decode cX7_begin 88 = .ok (.istore_n 2, 1) := by decide +kernel
theorem dX7_begin_89 : decode cX7_begin 89 = .ok (.iload_n 2, 1) := by decide +kernel
theorem dX7_begin_90 : decode cX7_begin 90 = .ok (.aload_n 0, 1) := by decide +kernel
theorem dX7_begin_91 : decode cX7_begin 91 = .ok (.getfield 36, 3) := by decide +kernel
theorem dX7_begin_94 : decode cX7_begin 94 = .ok (.if_icmp .ge 20, 3) := by decide +kernel
theorem dX7_begin_97 : decode cX7_begin 97 = .ok (.aload_n 0, 1) := by decide +kernel
theorem dX7_begin_98 : decode cX7_begin 98 = .ok (.iload_n 2, 1) := by decide +kernel
theorem dX7_begin_99 : decode cX7_begin 99 = .ok (.aload_n 1, 1) := by decide +kernel
theorem dX7_begin_100 : decode cX7_begin 100 = .ok (.getfield 57, 3) := by decide +kernel
theorem dX7_begin_103 : decode cX7_begin 103 = .ok (.iload_n 2, 1) := by decide +kernel
theorem dX7_begin_104 : decode cX7_begin 104 = .ok (.iaload, 1) := by decide +kernel
theorem dX7_begin_105 : decode cX7_begin 105 = .ok (.invokevirtual 58, 3) := by decide +kernel
theorem dX7_begin_108 : decode cX7_begin 108 = .ok (.iinc 2 1, 3) := by decide +kernel
theorem dX7_begin_111 : decode cX7_begin 111 = .ok (.goto (-22), 3) := by decide +kernel
theorem dX7_begin_114 : decode cX7_begin 114 = .ok (.aload_n 0, 1) := by decide +kernel
theorem dX7_begin_115 : decode cX7_begin 115 = .ok (.aload_n 1, 1) := by decide +kernel
theorem dX7_begin_116 : decode cX7_begin 116 = .ok (.invokevirtual 62, 3) := by decide +kernel
theorem dX7_begin_119 : decode cX7_begin 119 = .ok (.return_, 1) := by decide +kernel
theorem dX7_fill_0 : decode cX7_fill 0 = .ok (.iconst 1, 1) := by decide +kernel
theorem dX7_fill_1 : decode cX7_fill 1 = .ok (.istore_n 2, 1) := by decide +kernel
theorem dX7_fill_2 : decode cX7_fill 2 = .ok (.iconst 0, 1) := by decide +kernel
theorem dX7_fill_3 : decode cX7_fill 3 = .ok (.istore_n 3, 1) := by decide +kernel
theorem dX7_fill_4 : decode cX7_fill 4 = .ok (.iload_n 3, 1) := by decide +kernel
theorem dX7_fill_5 : decode cX7_fill 5 = .ok (.aload_n 0, 1) := by decide +kernel
theorem dX7_fill_6 : decode cX7_fill 6 = .ok (.getfield 36, 3) := by decide +kernel
theorem dX7_fill_9 : decode cX7_fill 9 = .ok (.if_icmp .ge 19, 3) := by decide +kernel
theorem dX7_fill_12 : decode cX7_fill 12 = .ok (.iload_n 2, 1) := by decide +kernel
theorem dX7_fill_13 : decode cX7_fill 13 = .ok (.aload_n 1, 1) := by decide +kernel
theorem dX7_fill_14 : decode cX7_fill 14 = .ok (.getfield 66, 3) := by decide +kernel
theorem dX7_fill_17 : decode cX7_fill 17 = .ok (.getfield 30, 3) := by decide +kernel
theorem dX7_fill_20 : decode cX7_fill 20 = .ok (.imul, 1) := by decide +kernel
theorem dX7_fill_21 : decode cX7_fill 21 = .ok (.istore_n 2, 1) := by decide +kernel
theorem dX7_fill_22 : decode cX7_fill 22 = .ok (.iinc 3 1, 3) := by decide +kernel
theorem dX7_fill_25 : decode cX7_fill 25 = .ok (.goto (-21), 3) := by decide +kernel
theorem dX7_fill_28 : decode cX7_fill 28 = .ok (.aload_n 0, 1) := by decide +kernel
theorem dX7_fill_29 : decode cX7_fill 29 = .ok (.iconst 0, 1) := by decide +kernel
theorem dX7_fill_30 : decode cX7_fill 30 = .ok (.putfield 69, 3) := by decide +kernel
theorem dX7_fill_33 : decode cX7_fill 33 = .ok (.aload_n 0, 1) := by decide +kernel
theorem dX7_fill_34 : decode cX7_fill 34 = .ok (.iconst 0, 1) := by decide +kernel
theorem dX7_fill_35 : decode cX7_fill 35 = .ok (.putfield 70, 3) := by decide +kernel
theorem dX7_fill_38 : decode cX7_fill 38 = .ok (.iconst 0, 1) := by decide +kernel
theorem dX7_fill_39 : decode cX7_fill 39 = .ok (.istore_n 3, 1) := by decide +kernel
theorem dX7_fill_40 : decode cX7_fill 40 = .ok (.iload_n 3, 1) := by decide +kernel
theorem dX7_fill_41 : decode cX7_fill 41 = .ok (.iload_n 2, 1) := by decide +kernel
theorem dX7_fill_42 : decode cX7_fill 42 = .ok (.if_icmp .ge 74, 3) := by decide +kernel
theorem dX7_fill_45 : decode cX7_fill 45 = .ok (.iload_n 3, 1) := by decide +kernel
theorem dX7_fill_46 : decode cX7_fill 46 = .ok (.sipush 729, 3) := by decide +kernel
theorem dX7_fill_49 : decode cX7_fill 49 = .ok (.if_icmp .ge 67, 3) := by decide +kernel
theorem dX7_fill_52 : decode cX7_fill 52 = .ok (.aload_n 1, 1) := by decide +kernel
theorem dX7_fill_53 : decode cX7_fill 53 = .ok (.iload_n 3, 1) := by decide +kernel
theorem dX7_fill_54 : decode cX7_fill 54 = .ok (.invokevirtual 73, 3) := by decide +kernel
theorem dX7_fill_57 : decode cX7_fill 57 = .ok (.istore 4, 2) := by decide +kernel
theorem dX7_fill_59 : decode cX7_fill 59 = .ok (.iload 4, 2) := by decide +kernel
theorem dX7_fill_61 : decode cX7_fill 61 = .ok (.iconst (-1), 1) := by decide +kernel
theorem dX7_fill_62 : decode cX7_fill 62 = .ok (.if_icmp .eq 48, 3) := by decide +kernel
theorem dX7_fill_65 : decode cX7_fill 65 = .ok (.aload_n 0, 1) := by decide +kernel
theorem dX7_fill_66 : decode cX7_fill 66 = .ok (.iload 4, 2) := by decide +kernel
theorem dX7_fill_68 : decode cX7_fill 68 = .ok (.aload_n 1, 1) := by decide +kernel
theorem dX7_fill_69 : decode cX7_fill 69 = .ok (.getfield 77, 3) := by decide +kernel
theorem dX7_fill_72 : decode cX7_fill 72 = .ok (.if_icmp .ne 10, 3) := by decide +kernel
theorem dX7_fill_75 : decode cX7_fill 75 = .ok (.aload_n 0, 1) := by decide +kernel
theorem dX7_fill_76 : decode cX7_fill 76 = .ok (.getfield 69, 3) := by decide +kernel
theorem dX7_fill_79 : decode cX7_fill 79 = .ok (.goto 7, 3) := by decide +kernel
theorem dX7_fill_82 : decode cX7_fill 82 = .ok (.aload_n 0, 1) := by decide +kernel
theorem dX7_fill_83 : decode cX7_fill 83 = .ok (.getfield 70, 3) := by decide +kernel
theorem dX7_fill_86 : decode cX7_fill 86 = .ok (.putfield 70, 3) := by decide +kernel
theorem dX7_fill_89 : decode cX7_fill 89 = .ok (.aload_n 0, 1) := by decide +kernel
theorem dX7_fill_90 : decode cX7_fill 90 = .ok (.getfield 9, 3) := by decide +kernel
theorem dX7_fill_93 : decode cX7_fill 93 = .ok (.aload_n 0, 1) := by decide +kernel
theorem dX7_fill_94 : decode cX7_fill 94 = .ok (.getfield 69, 3) := by decide +kernel
theorem dX7_fill_97 : decode cX7_fill 97 = .ok (.iload 4, 2) := by decide +kernel
theorem dX7_fill_99 : decode cX7_fill 99 = .ok (.iastore, 1) := by decide +kernel
theorem dX7_fill_100 : decode cX7_fill 100 = .ok (.aload_n 0, 1) := by decide +kernel
theorem dX7_fill_101 : decode cX7_fill 101 = .ok (.dup, 1) := by decide +kernel
theorem dX7_fill_102 : decode cX7_fill 102 = .ok (.getfield 69, 3) := by decide +kernel
theorem dX7_fill_105 : decode cX7_fill 105 = .ok (.iconst 1, 1) := by decide +kernel
theorem dX7_fill_106 : decode cX7_fill 106 = .ok (.iadd, 1) := by decide +kernel
theorem dX7_fill_107 : decode cX7_fill 107 = .ok (.putfield 69, 3) := by decide +kernel
theorem dX7_fill_110 : decode cX7_fill 110 = .ok (.iinc 3 1, 3) := by decide +kernel
theorem dX7_fill_113 : decode cX7_fill 113 = .ok (.goto (-73), 3) := by decide +kernel
theorem dX7_fill_116 : decode cX7_fill 116 = .ok (.return_, 1) := by decide +kernel
theorem dX7_copy_0 : decode cX7_copy 0 = .ok (.aload_n 1, 1) := by decide +kernel
theorem dX7_copy_1 : decode cX7_copy 1 = .ok (.getfield 9, 3) := by decide +kernel
theorem dX7_copy_4 : decode cX7_copy 4 = .ok (.iconst 0, 1) := by decide +kernel
theorem dX7_copy_5 : decode cX7_copy 5 = .ok (.aload_n 0, 1) := by decide +kernel
theorem dX7_copy_6 : decode cX7_copy 6 = .ok (.getfield 9, 3) := by decide +kernel
theorem dX7_copy_9 : decode cX7_copy 9 = .ok (.iconst 0, 1) := by decide +kernel
theorem dX7_copy_10 : decode cX7_copy 10 = .ok (.aload_n 1, 1) := by decide +kernel
theorem dX7_copy_11 : decode cX7_copy 11 = .ok (.getfield 69, 3) := by decide +kernel
theorem dX7_copy_14 : decode cX7_copy 14 = .ok (.invokestatic 80, 3) := by decide +kernel
theorem dX7_copy_17 : decode cX7_copy 17 = .ok (.iconst 0, 1) := by decide +kernel
theorem dX7_copy_18 : decode cX7_copy 18 = .ok (.istore_n 2, 1) := by decide +kernel
theorem dX7_copy_19 : decode cX7_copy 19 = .ok (.iload_n 2, 1) := by decide +kernel
theorem dX7_copy_20 : decode cX7_copy 20 = .ok (.bipush 6, 2) := by decide +kernel
theorem dX7_copy_22 : decode cX7_copy 22 = .ok (.if_icmp .ge 45, 3) := by decide +kernel
theorem dX7_copy_25 : decode cX7_copy 25 = .ok (.aload_n 0, 1) := by decide +kernel
theorem dX7_copy_26 : decode cX7_copy 26 = .ok (.getfield 15, 3) := by decide +kernel
theorem dX7_copy_29 : decode cX7_copy 29 = .ok (.iload_n 2, 1) := by decide +kernel
theorem dX7_copy_30 : decode cX7_copy 30 = .ok (.aload_n 1, 1) := by decide +kernel
theorem dX7_copy_31 : decode cX7_copy 31 = .ok (.getfield 15, 3) := by decide +kernel
theorem dX7_copy_34 : decode cX7_copy 34 = .ok (.iload_n 2, 1) := by decide +kernel
theorem dX7_copy_35 : decode cX7_copy 35 = .ok (.iaload, 1) := by decide +kernel
theorem dX7_copy_36 : decode cX7_copy 36 = .ok (.iastore, 1) := by decide +kernel
theorem dX7_copy_37 : decode cX7_copy 37 = .ok (.aload_n 0, 1) := by decide +kernel
theorem dX7_copy_38 : decode cX7_copy 38 = .ok (.getfield 18, 3) := by decide +kernel
theorem dX7_copy_41 : decode cX7_copy 41 = .ok (.iload_n 2, 1) := by decide +kernel
theorem dX7_copy_42 : decode cX7_copy 42 = .ok (.aload_n 1, 1) := by decide +kernel
theorem dX7_copy_43 : decode cX7_copy 43 = .ok (.getfield 18, 3) := by decide +kernel
theorem dX7_copy_46 : decode cX7_copy 46 = .ok (.iload_n 2, 1) := by decide +kernel
theorem dX7_copy_47 : decode cX7_copy 47 = .ok (.iaload, 1) := by decide +kernel
theorem dX7_copy_48 : decode cX7_copy 48 = .ok (.iastore, 1) := by decide +kernel
theorem dX7_copy_49 : decode cX7_copy 49 = .ok (.aload_n 0, 1) := by decide +kernel
theorem dX7_copy_50 : decode cX7_copy 50 = .ok (.getfield 21, 3) := by decide +kernel
theorem dX7_copy_53 : decode cX7_copy 53 = .ok (.iload_n 2, 1) := by decide +kernel
theorem dX7_copy_54 : decode cX7_copy 54 = .ok (.aload_n 1, 1) := by decide +kernel
theorem dX7_copy_55 : decode cX7_copy 55 = .ok (.getfield 21, 3) := by decide +kernel
theorem dX7_copy_58 : decode cX7_copy 58 = .ok (.iload_n 2, 1) := by decide +kernel
theorem dX7_copy_59 : decode cX7_copy 59 = .ok (.iaload, 1) := by decide +kernel
theorem dX7_copy_60 : decode cX7_copy 60 = .ok (.iastore, 1) := by decide +kernel
theorem dX7_copy_61 : decode cX7_copy 61 = .ok (.iinc 2 1, 3) := by decide +kernel
theorem dX7_copy_64 : decode cX7_copy 64 = .ok (.goto (-45), 3) := by decide +kernel
theorem dX7_copy_67 : decode cX7_copy 67 = .ok (.aload_n 0, 1) := by decide +kernel
theorem dX7_copy_68 : decode cX7_copy 68 = .ok (.aload_n 1, 1) := by decide +kernel
theorem dX7_copy_69 : decode cX7_copy 69 = .ok (.getfield 69, 3) := by decide +kernel
theorem dX7_copy_72 : decode cX7_copy 72 = .ok (.putfield 69, 3) := by decide +kernel
theorem dX7_copy_75 : decode cX7_copy 75 = .ok (.aload_n 0, 1) := by decide +kernel
theorem dX7_copy_76 : decode cX7_copy 76 = .ok (.aload_n 1, 1) := by decide +kernel
theorem dX7_copy_77 : decode cX7_copy 77 = .ok (.getfield 70, 3) := by decide +kernel
theorem dX7_copy_80 : decode cX7_copy 80 = .ok (.putfield 70, 3) := by decide +kernel
theorem dX7_copy_83 : decode cX7_copy 83 = .ok (.aload_n 0, 1) := by decide +kernel
theorem dX7_copy_84 : decode cX7_copy 84 = .ok (.aload_n 1, 1) := by decide +kernel
theorem dX7_copy_85 : decode cX7_copy 85 = .ok (.getfield 36, 3) := by decide +kernel
theorem dX7_copy_88 : decode cX7_copy 88 = .ok (.putfield 36, 3) := by decide +kernel
theorem dX7_copy_91 : decode cX7_copy 91 = .ok (.aload_n 0, 1) := by decide +kernel
theorem dX7_copy_92 : decode cX7_copy 92 = .ok (.aload_n 1, 1) := by decide +kernel
theorem dX7_copy_93 : decode cX7_copy 93 = .ok (.getfield 38, 3) := by decide +kernel
theorem dX7_copy_96 : decode cX7_copy 96 = .ok (.putfield 38, 3) := by decide +kernel
theorem dX7_copy_99 : decode cX7_copy 99 = .ok (.aload_n 0, 1) := by decide +kernel
theorem dX7_copy_100 : decode cX7_copy 100 = .ok (.aload_n 1, 1) := by decide +kernel
theorem dX7_copy_101 : decode cX7_copy 101 = .ok (.getfield 41, 3) := by decide +kernel
theorem dX7_copy_104 : decode cX7_copy 104 = .ok (.putfield 41, 3) := by decide +kernel
theorem dX7_copy_107 : decode cX7_copy 107 = .ok (.aload_n 0, 1) := by decide +kernel
theorem dX7_copy_108 : decode cX7_copy 108 = .ok (.aload_n 1, 1) := by decide +kernel
theorem dX7_copy_109 : decode cX7_copy 109 = .ok (.getfield 44, 3) := by decide +kernel
theorem dX7_copy_112 : decode cX7_copy 112 = .ok (.putfield 44, 3) := by decide +kernel
theorem dX7_copy_115 : decode cX7_copy 115 = .ok (.aload_n 0, 1) := by decide +kernel
theorem dX7_copy_116 : decode cX7_copy 116 = .ok (.aload_n 1, 1) := by decide +kernel
theorem dX7_copy_117 : decode cX7_copy 117 = .ok (.getfield 47, 3) := by decide +kernel
theorem dX7_copy_120 : decode cX7_copy 120 = .ok (.putfield 47, 3) := by decide +kernel
theorem dX7_copy_123 : decode cX7_copy 123 = .ok (.aload_n 0, 1) := by decide +kernel
theorem dX7_copy_124 : decode cX7_copy 124 = .ok (.aload_n 1, 1) := by decide +kernel
theorem dX7_copy_125 : decode cX7_copy 125 = .ok (.getfield 53, 3) := by decide +kernel
theorem dX7_copy_128 : decode cX7_copy 128 = .ok (.putfield 53, 3) := by decide +kernel
theorem dX7_copy_131 : decode cX7_copy 131 = .ok (.return_, 1) := by decide +kernel
theorem dX7_see_0 : decode cX7_see 0 = .ok (.iload_n 1, 1) := by decide +kernel
theorem dX7_see_1 : decode cX7_see 1 = .ok (.ifCond .lt 46, 3) := by decide +kernel
theorem dX7_see_4 : decode cX7_see 4 = .ok (.iload_n 1, 1) := by decide +kernel
theorem dX7_see_5 : decode cX7_see 5 = .ok (.bipush 6, 2) := by decide +kernel
theorem dX7_see_7 : decode cX7_see 7 = .ok (.if_icmp .ge 40, 3) := by decide +kernel
theorem dX7_see_10 : decode cX7_see 10 = .ok (.iload_n 2, 1) := by decide +kernel
theorem dX7_see_11 : decode cX7_see 11 = .ok (.ifCond .lt 36, 3) := by decide +kernel
theorem dX7_see_14 : decode cX7_see 14 = .ok (.iload_n 2, 1) := by decide +kernel
theorem dX7_see_15 : decode cX7_see 15 = .ok (.bipush 6, 2) := by decide +kernel
theorem dX7_see_17 : decode cX7_see 17 = .ok (.if_icmp .ge 30, 3) := by decide +kernel
theorem dX7_see_20 : decode cX7_see 20 = .ok (.aload_n 0, 1) := by decide +kernel
theorem dX7_see_21 : decode cX7_see 21 = .ok (.getfield 15, 3) := by decide +kernel
theorem dX7_see_24 : decode cX7_see 24 = .ok (.iload_n 1, 1) := by decide +kernel
theorem dX7_see_25 : decode cX7_see 25 = .ok (.dup2, 1) := by decide +kernel
theorem dX7_see_26 : decode cX7_see 26 = .ok (.iaload, 1) := by decide +kernel
theorem dX7_see_27 : decode cX7_see 27 = .ok (.iconst 1, 1) := by decide +kernel
theorem dX7_see_28 : decode cX7_see 28 = .ok (.iload_n 2, 1) := by decide +kernel
theorem dX7_see_29 : decode cX7_see 29 = .ok (.ishl, 1) := by decide +kernel
theorem dX7_see_30 : decode cX7_see 30 = .ok (.ior, 1) := by decide +kernel
theorem dX7_see_31 : decode cX7_see 31 = .ok (.iastore, 1) := by decide +kernel
theorem dX7_see_32 : decode cX7_see 32 = .ok (.aload_n 0, 1) := by decide +kernel
theorem dX7_see_33 : decode cX7_see 33 = .ok (.getfield 18, 3) := by decide +kernel
theorem dX7_see_36 : decode cX7_see 36 = .ok (.iload_n 1, 1) := by decide +kernel
theorem dX7_see_37 : decode cX7_see 37 = .ok (.dup2, 1) := by decide +kernel
theorem dX7_see_38 : decode cX7_see 38 = .ok (.iaload, 1) := by decide +kernel
theorem dX7_see_39 : decode cX7_see 39 = .ok (.iconst 3, 1) := by decide +kernel
theorem dX7_see_40 : decode cX7_see 40 = .ok (.iload_n 2, 1) := by decide +kernel
theorem dX7_see_41 : decode cX7_see 41 = .ok (.invokestatic 86, 3) := by decide +kernel
theorem dX7_see_44 : decode cX7_see 44 = .ok (.ishl, 1) := by decide +kernel
theorem dX7_see_45 : decode cX7_see 45 = .ok (.ior, 1) := by decide +kernel
theorem dX7_see_46 : decode cX7_see 46 = .ok (.iastore, 1) := by decide +kernel
theorem dX7_see_47 : decode cX7_see 47 = .ok (.return_, 1) := by decide +kernel
theorem dX7_seeThese_0 : decode cX7_seeThese 0 = .ok (.iconst 0, 1) := by decide +kernel
theorem dX7_seeThese_1 : decode cX7_seeThese 1 = .ok (.istore_n 3, 1) := by decide +kernel
theorem dX7_seeThese_2 : decode cX7_seeThese 2 = .ok (.iload_n 3, 1) := by decide +kernel
theorem dX7_seeThese_3 : decode cX7_seeThese 3 = .ok (.aload_n 0, 1) := by decide +kernel
theorem dX7_seeThese_4 : decode cX7_seeThese 4 = .ok (.getfield 36, 3) := by decide +kernel
theorem dX7_seeThese_7 : decode cX7_seeThese 7 = .ok (.if_icmp .ge 23, 3) := by decide +kernel
theorem dX7_seeThese_10 : decode cX7_seeThese 10 = .ok (.iload_n 2, 1) := by decide +kernel
theorem dX7_seeThese_11 : decode cX7_seeThese 11 = .ok (.iload_n 3, 1) := by decide +kernel
theorem dX7_seeThese_12 : decode cX7_seeThese 12 = .ok (.ishr, 1) := by decide +kernel
theorem dX7_seeThese_13 : decode cX7_seeThese 13 = .ok (.iconst 1, 1) := by decide +kernel
theorem dX7_seeThese_14 : decode cX7_seeThese 14 = .ok (.iand, 1) := by decide +kernel
theorem dX7_seeThese_15 : decode cX7_seeThese 15 = .ok (.ifCond .eq 9, 3) := by decide +kernel
theorem dX7_seeThese_18 : decode cX7_seeThese 18 = .ok (.aload_n 0, 1) := by decide +kernel
theorem dX7_seeThese_19 : decode cX7_seeThese 19 = .ok (.iload_n 1, 1) := by decide +kernel
theorem dX7_seeThese_20 : decode cX7_seeThese 20 = .ok (.iload_n 3, 1) := by decide +kernel
theorem dX7_seeThese_21 : decode cX7_seeThese 21 = .ok (.invokevirtual 89, 3) := by decide +kernel
theorem dX7_seeThese_24 : decode cX7_seeThese 24 = .ok (.iinc 3 1, 3) := by decide +kernel
theorem dX7_seeThese_27 : decode cX7_seeThese 27 = .ok (.goto (-25), 3) := by decide +kernel
theorem dX7_seeThese_30 : decode cX7_seeThese 30 = .ok (.return_, 1) := by decide +kernel
theorem dX7_seeAll_0 : decode cX7_seeAll 0 = .ok (.iconst 0, 1) := by decide +kernel
theorem dX7_seeAll_1 : decode cX7_seeAll 1 = .ok (.istore_n 1, 1) := by decide +kernel
theorem dX7_seeAll_2 : decode cX7_seeAll 2 = .ok (.iload_n 1, 1) := by decide +kernel
theorem dX7_seeAll_3 : decode cX7_seeAll 3 = .ok (.aload_n 0, 1) := by decide +kernel
theorem dX7_seeAll_4 : decode cX7_seeAll 4 = .ok (.getfield 36, 3) := by decide +kernel
theorem dX7_seeAll_7 : decode cX7_seeAll 7 = .ok (.if_icmp .ge 28, 3) := by decide +kernel
theorem dX7_seeAll_10 : decode cX7_seeAll 10 = .ok (.aload_n 0, 1) := by decide +kernel
theorem dX7_seeAll_11 : decode cX7_seeAll 11 = .ok (.iload_n 1, 1) := by decide +kernel
theorem dX7_seeAll_12 : decode cX7_seeAll 12 = .ok (.iconst 1, 1) := by decide +kernel
theorem dX7_seeAll_13 : decode cX7_seeAll 13 = .ok (.aload_n 0, 1) := by decide +kernel
theorem dX7_seeAll_14 : decode cX7_seeAll 14 = .ok (.getfield 36, 3) := by decide +kernel
theorem dX7_seeAll_17 : decode cX7_seeAll 17 = .ok (.ishl, 1) := by decide +kernel
theorem dX7_seeAll_18 : decode cX7_seeAll 18 = .ok (.iconst 1, 1) := by decide +kernel
theorem dX7_seeAll_19 : decode cX7_seeAll 19 = .ok (.isub, 1) := by decide +kernel
theorem dX7_seeAll_20 : decode cX7_seeAll 20 = .ok (.iconst 1, 1) := by decide +kernel
theorem dX7_seeAll_21 : decode cX7_seeAll 21 = .ok (.iload_n 1, 1) := by decide +kernel
theorem dX7_seeAll_22 : decode cX7_seeAll 22 = .ok (.ishl, 1) := by decide +kernel
theorem dX7_seeAll_23 : decode cX7_seeAll 23 = .ok (.iconst (-1), 1) := by decide +kernel
theorem dX7_seeAll_24 : decode cX7_seeAll 24 = .ok (.ixor, 1) := by decide +kernel
theorem dX7_seeAll_25 : decode cX7_seeAll 25 = .ok (.iand, 1) := by decide +kernel
theorem dX7_seeAll_26 : decode cX7_seeAll 26 = .ok (.invokevirtual 58, 3) := by decide +kernel
theorem dX7_seeAll_29 : decode cX7_seeAll 29 = .ok (.iinc 1 1, 3) := by decide +kernel
theorem dX7_seeAll_32 : decode cX7_seeAll 32 = .ok (.goto (-30), 3) := by decide +kernel
theorem dX7_seeAll_35 : decode cX7_seeAll 35 = .ok (.return_, 1) := by decide +kernel
theorem dX7_retain_0 : decode cX7_retain 0 = .ok (.iconst 0, 1) := by decide +kernel
theorem dX7_retain_1 : decode cX7_retain 1 = .ok (.istore_n 3, 1) := by decide +kernel
theorem dX7_retain_2 : decode cX7_retain 2 = .ok (.iconst 0, 1) := by decide +kernel
theorem dX7_retain_3 : decode cX7_retain 3 = .ok (.istore 4, 2) := by decide +kernel
theorem dX7_retain_5 : decode cX7_retain 5 = .ok (.iconst 0, 1) := by decide +kernel
theorem dX7_retain_6 : decode cX7_retain 6 = .ok (.istore 5, 2) := by decide +kernel
theorem dX7_retain_8 : decode cX7_retain 8 = .ok (.iload 5, 2) := by decide +kernel
theorem dX7_retain_10 : decode cX7_retain 10 = .ok (.aload_n 0, 1) := by decide +kernel
theorem dX7_retain_11 : decode cX7_retain 11 = .ok (.getfield 69, 3) := by decide +kernel
theorem dX7_retain_14 : decode cX7_retain 14 = .ok (.if_icmp .ge 55, 3) := by decide +kernel
theorem dX7_retain_17 : decode cX7_retain 17 = .ok (.aload_n 1, 1) := by decide +kernel
theorem dX7_retain_18 : decode cX7_retain 18 = .ok (.iload 5, 2) := by decide +kernel
theorem dX7_retain_20 : decode cX7_retain 20 = .ok (.laload, 1) := by decide +kernel
theorem dX7_retain_21 : decode cX7_retain 21 = .ok (.iload_n 2, 1) := by decide +kernel
theorem dX7_retain_22 : decode cX7_retain 22 = .ok (.lushr, 1) := by decide +kernel
theorem dX7_retain_23 : decode cX7_retain 23 = .ok (.lconst 1, 1) := by decide +kernel
theorem dX7_retain_24 : decode cX7_retain 24 = .ok (.land, 1) := by decide +kernel
theorem dX7_retain_25 : decode cX7_retain 25 = .ok (.lconst 0, 1) := by decide +kernel
theorem dX7_retain_26 : decode cX7_retain 26 = .ok (.lcmp, 1) := by decide +kernel
theorem dX7_retain_27 : decode cX7_retain 27 = .ok (.ifCond .eq 36, 3) := by decide +kernel
theorem dX7_retain_30 : decode cX7_retain 30 = .ok (.iload 5, 2) := by decide +kernel
theorem dX7_retain_32 : decode cX7_retain 32 = .ok (.aload_n 0, 1) := by decide +kernel
theorem dX7_retain_33 : decode cX7_retain 33 = .ok (.getfield 70, 3) := by decide +kernel
theorem dX7_retain_36 : decode cX7_retain 36 = .ok (.if_icmp .ne 7, 3) := by decide +kernel
theorem dX7_retain_39 : decode cX7_retain 39 = .ok (.iload_n 3, 1) := by decide +kernel
theorem dX7_retain_40 : decode cX7_retain 40 = .ok (.goto 5, 3) := by decide +kernel
theorem dX7_retain_43 : decode cX7_retain 43 = .ok (.iload 4, 2) := by decide +kernel
theorem dX7_retain_45 : decode cX7_retain 45 = .ok (.istore 4, 2) := by decide +kernel
theorem dX7_retain_47 : decode cX7_retain 47 = .ok (.aload_n 0, 1) := by decide +kernel
theorem dX7_retain_48 : decode cX7_retain 48 = .ok (.getfield 9, 3) := by decide +kernel
theorem dX7_retain_51 : decode cX7_retain 51 = .ok (.iload_n 3, 1) := by decide +kernel
theorem dX7_retain_52 : decode cX7_retain 52 = .ok (.aload_n 0, 1) := by decide +kernel
theorem dX7_retain_53 : decode cX7_retain 53 = .ok (.getfield 9, 3) := by decide +kernel
theorem dX7_retain_56 : decode cX7_retain 56 = .ok (.iload 5, 2) := by decide +kernel
theorem dX7_retain_58 : decode cX7_retain 58 = .ok (.iaload, 1) := by decide +kernel
theorem dX7_retain_59 : decode cX7_retain 59 = .ok (.iastore, 1) := by decide +kernel
theorem dX7_retain_60 : decode cX7_retain 60 = .ok (.iinc 3 1, 3) := by decide +kernel
theorem dX7_retain_63 : decode cX7_retain 63 = .ok (.iinc 5 1, 3) := by decide +kernel
theorem dX7_retain_66 : decode cX7_retain 66 = .ok (.goto (-58), 3) := by decide +kernel
theorem dX7_retain_69 : decode cX7_retain 69 = .ok (.aload_n 0, 1) := by decide +kernel
theorem dX7_retain_70 : decode cX7_retain 70 = .ok (.iload_n 3, 1) := by decide +kernel
theorem dX7_retain_71 : decode cX7_retain 71 = .ok (.putfield 69, 3) := by decide +kernel
theorem dX7_retain_74 : decode cX7_retain 74 = .ok (.aload_n 0, 1) := by decide +kernel
theorem dX7_retain_75 : decode cX7_retain 75 = .ok (.iload 4, 2) := by decide +kernel
theorem dX7_retain_77 : decode cX7_retain 77 = .ok (.putfield 70, 3) := by decide +kernel
theorem dX7_retain_80 : decode cX7_retain 80 = .ok (.return_, 1) := by decide +kernel
theorem dX7_isAlike_0 : decode cX7_isAlike 0 = .ok (.aload_n 0, 1) := by decide +kernel
theorem dX7_isAlike_1 : decode cX7_isAlike 1 = .ok (.getfield 9, 3) := by decide +kernel
theorem dX7_isAlike_4 : decode cX7_isAlike 4 = .ok (.iload_n 1, 1) := by decide +kernel
theorem dX7_isAlike_5 : decode cX7_isAlike 5 = .ok (.iaload, 1) := by decide +kernel
theorem dX7_isAlike_6 : decode cX7_isAlike 6 = .ok (.aload_n 0, 1) := by decide +kernel
theorem dX7_isAlike_7 : decode cX7_isAlike 7 = .ok (.getfield 9, 3) := by decide +kernel
theorem dX7_isAlike_10 : decode cX7_isAlike 10 = .ok (.aload_n 0, 1) := by decide +kernel
theorem dX7_isAlike_11 : decode cX7_isAlike 11 = .ok (.getfield 70, 3) := by decide +kernel
theorem dX7_isAlike_14 : decode cX7_isAlike 14 = .ok (.iaload, 1) := by decide +kernel
theorem dX7_isAlike_15 : decode cX7_isAlike 15 = .ok (.ixor, 1) := by decide +kernel
theorem dX7_isAlike_16 : decode cX7_isAlike 16 = .ok (.aload_n 0, 1) := by decide +kernel
theorem dX7_isAlike_17 : decode cX7_isAlike 17 = .ok (.getfield 18, 3) := by decide +kernel
theorem dX7_isAlike_20 : decode cX7_isAlike 20 = .ok (.iload_n 2, 1) := by decide +kernel
theorem dX7_isAlike_21 : decode cX7_isAlike 21 = .ok (.iaload, 1) := by decide +kernel
theorem dX7_isAlike_22 : decode cX7_isAlike 22 = .ok (.iand, 1) := by decide +kernel
theorem dX7_isAlike_23 : decode cX7_isAlike 23 = .ok (.ifCond .ne 7, 3) := by decide +kernel
theorem dX7_isAlike_26 : decode cX7_isAlike 26 = .ok (.iconst 1, 1) := by decide +kernel
theorem dX7_isAlike_27 : decode cX7_isAlike 27 = .ok (.goto 4, 3) := by decide +kernel
theorem dX7_isAlike_30 : decode cX7_isAlike 30 = .ok (.iconst 0, 1) := by decide +kernel
theorem dX7_isAlike_31 : decode cX7_isAlike 31 = .ok (.ireturn, 1) := by decide +kernel
theorem dX7_alikeFor_0 : decode cX7_alikeFor 0 = .ok (.iconst 0, 1) := by decide +kernel
theorem dX7_alikeFor_1 : decode cX7_alikeFor 1 = .ok (.istore_n 2, 1) := by decide +kernel
theorem dX7_alikeFor_2 : decode cX7_alikeFor 2 = .ok (.aload_n 0, 1) := by decide +kernel
theorem dX7_alikeFor_3 : decode cX7_alikeFor 3 = .ok (.getfield 9, 3) := by decide +kernel
theorem dX7_alikeFor_6 : decode cX7_alikeFor 6 = .ok (.aload_n 0, 1) := by decide +kernel
theorem dX7_alikeFor_7 : decode cX7_alikeFor 7 = .ok (.getfield 70, 3) := by decide +kernel
theorem dX7_alikeFor_10 : decode cX7_alikeFor 10 = .ok (.iaload, 1) := by decide +kernel
theorem dX7_alikeFor_11 : decode cX7_alikeFor 11 = .ok (.aload_n 0, 1) := by decide +kernel
theorem dX7_alikeFor_12 : decode cX7_alikeFor 12 = .ok (.getfield 18, 3) := by decide +kernel
theorem dX7_alikeFor_15 : decode cX7_alikeFor 15 = .ok (.iload_n 1, 1) := by decide +kernel
theorem dX7_alikeFor_16 : decode cX7_alikeFor 16 = .ok (.iaload, 1) := by decide +kernel
theorem dX7_alikeFor_17 : decode cX7_alikeFor 17 = .ok (.iand, 1) := by decide +kernel
theorem dX7_alikeFor_18 : decode cX7_alikeFor 18 = .ok (.istore_n 3, 1) := by decide +kernel
theorem dX7_alikeFor_19 : decode cX7_alikeFor 19 = .ok (.iconst 0, 1) := by decide +kernel
theorem dX7_alikeFor_20 : decode cX7_alikeFor 20 = .ok (.istore 4, 2) := by decide +kernel
theorem dX7_alikeFor_22 : decode cX7_alikeFor 22 = .ok (.iload 4, 2) := by decide +kernel
theorem dX7_alikeFor_24 : decode cX7_alikeFor 24 = .ok (.aload_n 0, 1) := by decide +kernel
theorem dX7_alikeFor_25 : decode cX7_alikeFor 25 = .ok (.getfield 69, 3) := by decide +kernel
theorem dX7_alikeFor_28 : decode cX7_alikeFor 28 = .ok (.if_icmp .ge 35, 3) := by decide +kernel
theorem dX7_alikeFor_31 : decode cX7_alikeFor 31 = .ok (.iload_n 2, 1) := by decide +kernel
theorem dX7_alikeFor_32 : decode cX7_alikeFor 32 = .ok (.aload_n 0, 1) := by decide +kernel
theorem dX7_alikeFor_33 : decode cX7_alikeFor 33 = .ok (.getfield 9, 3) := by decide +kernel
theorem dX7_alikeFor_36 : decode cX7_alikeFor 36 = .ok (.iload 4, 2) := by decide +kernel
theorem dX7_alikeFor_38 : decode cX7_alikeFor 38 = .ok (.iaload, 1) := by decide +kernel
theorem dX7_alikeFor_39 : decode cX7_alikeFor 39 = .ok (.aload_n 0, 1) := by decide +kernel
theorem dX7_alikeFor_40 : decode cX7_alikeFor 40 = .ok (.getfield 18, 3) := by decide +kernel
theorem dX7_alikeFor_43 : decode cX7_alikeFor 43 = .ok (.iload_n 1, 1) := by decide +kernel
theorem dX7_alikeFor_44 : decode cX7_alikeFor 44 = .ok (.iaload, 1) := by decide +kernel
theorem dX7_alikeFor_45 : decode cX7_alikeFor 45 = .ok (.iand, 1) := by decide +kernel
theorem dX7_alikeFor_46 : decode cX7_alikeFor 46 = .ok (.iload_n 3, 1) := by decide +kernel
theorem dX7_alikeFor_47 : decode cX7_alikeFor 47 = .ok (.if_icmp .ne 7, 3) := by decide +kernel
theorem dX7_alikeFor_50 : decode cX7_alikeFor 50 = .ok (.iconst 1, 1) := by decide +kernel
theorem dX7_alikeFor_51 : decode cX7_alikeFor 51 = .ok (.goto 4, 3) := by decide +kernel
theorem dX7_alikeFor_54 : decode cX7_alikeFor 54 = .ok (.iconst 0, 1) := by decide +kernel
theorem dX7_alikeFor_55 : decode cX7_alikeFor 55 = .ok (.iadd, 1) := by decide +kernel
theorem dX7_alikeFor_56 : decode cX7_alikeFor 56 = .ok (.istore_n 2, 1) := by decide +kernel
theorem dX7_alikeFor_57 : decode cX7_alikeFor 57 = .ok (.iinc 4 1, 3) := by decide +kernel
theorem dX7_alikeFor_60 : decode cX7_alikeFor 60 = .ok (.goto (-38), 3) := by decide +kernel
theorem dX7_alikeFor_63 : decode cX7_alikeFor 63 = .ok (.iload_n 2, 1) := by decide +kernel
theorem dX7_alikeFor_64 : decode cX7_alikeFor 64 = .ok (.ireturn, 1) := by decide +kernel
theorem dX7_tally_0 : decode cX7_tally 0 = .ok (.iconst 0, 1) := by decide +kernel
theorem dX7_tally_1 : decode cX7_tally 1 = .ok (.istore 4, 2) := by decide +kernel
theorem dX7_tally_3 : decode cX7_tally 3 = .ok (.iconst 0, 1) := by decide +kernel
theorem dX7_tally_4 : decode cX7_tally 4 = .ok (.istore 5, 2) := by decide +kernel
theorem dX7_tally_6 : decode cX7_tally 6 = .ok (.iload 5, 2) := by decide +kernel
theorem dX7_tally_8 : decode cX7_tally 8 = .ok (.aload_n 0, 1) := by decide +kernel
theorem dX7_tally_9 : decode cX7_tally 9 = .ok (.getfield 69, 3) := by decide +kernel
theorem dX7_tally_12 : decode cX7_tally 12 = .ok (.if_icmp .ge 44, 3) := by decide +kernel
theorem dX7_tally_15 : decode cX7_tally 15 = .ok (.iload 4, 2) := by decide +kernel
theorem dX7_tally_17 : decode cX7_tally 17 = .ok (.aload_n 0, 1) := by decide +kernel
theorem dX7_tally_18 : decode cX7_tally 18 = .ok (.iload 5, 2) := by decide +kernel
theorem dX7_tally_20 : decode cX7_tally 20 = .ok (.iload_n 1, 1) := by decide +kernel
theorem dX7_tally_21 : decode cX7_tally 21 = .ok (.invokevirtual 92, 3) := by decide +kernel
theorem dX7_tally_24 : decode cX7_tally 24 = .ok (.ifCond .eq 22, 3) := by decide +kernel
theorem dX7_tally_27 : decode cX7_tally 27 = .ok (.aload_n 0, 1) := by decide +kernel
theorem dX7_tally_28 : decode cX7_tally 28 = .ok (.getfield 9, 3) := by decide +kernel
theorem dX7_tally_31 : decode cX7_tally 31 = .ok (.iload 5, 2) := by decide +kernel
theorem dX7_tally_33 : decode cX7_tally 33 = .ok (.iaload, 1) := by decide +kernel
theorem dX7_tally_34 : decode cX7_tally 34 = .ok (.iload_n 2, 1) := by decide +kernel
theorem dX7_tally_35 : decode cX7_tally 35 = .ok (.invokestatic 96, 3) := by decide +kernel
theorem dX7_tally_38 : decode cX7_tally 38 = .ok (.iload_n 3, 1) := by decide +kernel
theorem dX7_tally_39 : decode cX7_tally 39 = .ok (.if_icmp .ne 7, 3) := by decide +kernel
theorem dX7_tally_42 : decode cX7_tally 42 = .ok (.iconst 1, 1) := by decide +kernel
theorem dX7_tally_43 : decode cX7_tally 43 = .ok (.goto 4, 3) := by decide +kernel
theorem dX7_tally_46 : decode cX7_tally 46 = .ok (.iconst 0, 1) := by decide +kernel
theorem dX7_tally_47 : decode cX7_tally 47 = .ok (.iadd, 1) := by decide +kernel
theorem dX7_tally_48 : decode cX7_tally 48 = .ok (.istore 4, 2) := by decide +kernel
theorem dX7_tally_50 : decode cX7_tally 50 = .ok (.iinc 5 1, 3) := by decide +kernel
theorem dX7_tally_53 : decode cX7_tally 53 = .ok (.goto (-47), 3) := by decide +kernel
theorem dX7_tally_56 : decode cX7_tally 56 = .ok (.iload 4, 2) := by decide +kernel
theorem dX7_tally_58 : decode cX7_tally 58 = .ok (.ireturn, 1) := by decide +kernel
theorem dX7_mostFor_0 : decode cX7_mostFor 0 = .ok (.iconst 0, 1) := by decide +kernel
theorem dX7_mostFor_1 : decode cX7_mostFor 1 = .ok (.istore_n 3, 1) := by decide +kernel
theorem dX7_mostFor_2 : decode cX7_mostFor 2 = .ok (.iconst 0, 1) := by decide +kernel
theorem dX7_mostFor_3 : decode cX7_mostFor 3 = .ok (.istore 4, 2) := by decide +kernel
theorem dX7_mostFor_5 : decode cX7_mostFor 5 = .ok (.iload 4, 2) := by decide +kernel
theorem dX7_mostFor_7 : decode cX7_mostFor 7 = .ok (.iconst 3, 1) := by decide +kernel
theorem dX7_mostFor_8 : decode cX7_mostFor 8 = .ok (.if_icmp .ge 22, 3) := by decide +kernel
theorem dX7_mostFor_11 : decode cX7_mostFor 11 = .ok (.iload_n 3, 1) := by decide +kernel
theorem dX7_mostFor_12 : decode cX7_mostFor 12 = .ok (.aload_n 0, 1) := by decide +kernel
theorem dX7_mostFor_13 : decode cX7_mostFor 13 = .ok (.iload_n 1, 1) := by decide +kernel
theorem dX7_mostFor_14 : decode cX7_mostFor 14 = .ok (.iload_n 2, 1) := by decide +kernel
theorem dX7_mostFor_15 : decode cX7_mostFor 15 = .ok (.iload 4, 2) := by decide +kernel
theorem dX7_mostFor_17 : decode cX7_mostFor 17 = .ok (.invokevirtual 100, 3) := by decide +kernel
theorem dX7_mostFor_20 : decode cX7_mostFor 20 = .ok (.invokestatic 104, 3) := by decide +kernel
theorem dX7_mostFor_23 : decode cX7_mostFor 23 = .ok (.istore_n 3, 1) := by decide +kernel
theorem dX7_mostFor_24 : decode cX7_mostFor 24 = .ok (.iinc 4 1, 3) := by decide +kernel
theorem dX7_mostFor_27 : decode cX7_mostFor 27 = .ok (.goto (-22), 3) := by decide +kernel
theorem dX7_mostFor_30 : decode cX7_mostFor 30 = .ok (.iload_n 3, 1) := by decide +kernel
theorem dX7_mostFor_31 : decode cX7_mostFor 31 = .ok (.ireturn, 1) := by decide +kernel
theorem dX7_coloursFor_0 : decode cX7_coloursFor 0 = .ok (.iconst 0, 1) := by decide +kernel
theorem dX7_coloursFor_1 : decode cX7_coloursFor 1 = .ok (.istore_n 3, 1) := by decide +kernel
theorem dX7_coloursFor_2 : decode cX7_coloursFor 2 = .ok (.iconst 0, 1) := by decide +kernel
theorem dX7_coloursFor_3 : decode cX7_coloursFor 3 = .ok (.istore 4, 2) := by decide +kernel
theorem dX7_coloursFor_5 : decode cX7_coloursFor 5 = .ok (.iload 4, 2) := by decide +kernel
theorem dX7_coloursFor_7 : decode cX7_coloursFor 7 = .ok (.aload_n 0, 1) := by decide +kernel
theorem dX7_coloursFor_8 : decode cX7_coloursFor 8 = .ok (.getfield 69, 3) := by decide +kernel
theorem dX7_coloursFor_11 : decode cX7_coloursFor 11 = .ok (.if_icmp .ge 35, 3) := by decide +kernel
theorem dX7_coloursFor_14 : decode cX7_coloursFor 14 = .ok (.aload_n 0, 1) := by decide +kernel
theorem dX7_coloursFor_15 : decode cX7_coloursFor 15 = .ok (.iload 4, 2) := by decide +kernel
theorem dX7_coloursFor_17 : decode cX7_coloursFor 17 = .ok (.iload_n 1, 1) := by decide +kernel
theorem dX7_coloursFor_18 : decode cX7_coloursFor 18 = .ok (.invokevirtual 92, 3) := by decide +kernel
theorem dX7_coloursFor_21 : decode cX7_coloursFor 21 = .ok (.ifCond .eq 19, 3) := by decide +kernel
theorem dX7_coloursFor_24 : decode cX7_coloursFor 24 = .ok (.iload_n 3, 1) := by decide +kernel
theorem dX7_coloursFor_25 : decode cX7_coloursFor 25 = .ok (.iconst 1, 1) := by decide +kernel
theorem dX7_coloursFor_26 : decode cX7_coloursFor 26 = .ok (.aload_n 0, 1) := by decide +kernel
theorem dX7_coloursFor_27 : decode cX7_coloursFor 27 = .ok (.getfield 9, 3) := by decide +kernel
theorem dX7_coloursFor_30 : decode cX7_coloursFor 30 = .ok (.iload 4, 2) := by decide +kernel
theorem dX7_coloursFor_32 : decode cX7_coloursFor 32 = .ok (.iaload, 1) := by decide +kernel
theorem dX7_coloursFor_33 : decode cX7_coloursFor 33 = .ok (.iload_n 2, 1) := by decide +kernel
theorem dX7_coloursFor_34 : decode cX7_coloursFor 34 = .ok (.invokestatic 96, 3) := by decide +kernel
theorem dX7_coloursFor_37 : decode cX7_coloursFor 37 = .ok (.ishl, 1) := by decide +kernel
theorem dX7_coloursFor_38 : decode cX7_coloursFor 38 = .ok (.ior, 1) := by decide +kernel
theorem dX7_coloursFor_39 : decode cX7_coloursFor 39 = .ok (.istore_n 3, 1) := by decide +kernel
theorem dX7_coloursFor_40 : decode cX7_coloursFor 40 = .ok (.iinc 4 1, 3) := by decide +kernel
theorem dX7_coloursFor_43 : decode cX7_coloursFor 43 = .ok (.goto (-38), 3) := by decide +kernel
theorem dX7_coloursFor_46 : decode cX7_coloursFor 46 = .ok (.iload_n 3, 1) := by decide +kernel
theorem dX7_coloursFor_47 : decode cX7_coloursFor 47 = .ok (.ireturn, 1) := by decide +kernel
theorem dX7_knows_0 : decode cX7_knows 0 = .ok (.aload_n 0, 1) := by decide +kernel
theorem dX7_knows_1 : decode cX7_knows 1 = .ok (.iload_n 1, 1) := by decide +kernel
theorem dX7_knows_2 : decode cX7_knows 2 = .ok (.iload_n 2, 1) := by decide +kernel
theorem dX7_knows_3 : decode cX7_knows 3 = .ok (.invokevirtual 109, 3) := by decide +kernel
theorem dX7_knows_6 : decode cX7_knows 6 = .ok (.invokestatic 112, 3) := by decide +kernel
theorem dX7_knows_9 : decode cX7_knows 9 = .ok (.iconst 1, 1) := by decide +kernel
theorem dX7_knows_10 : decode cX7_knows 10 = .ok (.if_icmp .ne 7, 3) := by decide +kernel
theorem dX7_knows_13 : decode cX7_knows 13 = .ok (.iconst 1, 1) := by decide +kernel
theorem dX7_knows_14 : decode cX7_knows 14 = .ok (.goto 4, 3) := by decide +kernel
theorem dX7_knows_17 : decode cX7_knows 17 = .ok (.iconst 0, 1) := by decide +kernel
theorem dX7_knows_18 : decode cX7_knows 18 = .ok (.ireturn, 1) := by decide +kernel
theorem dX7_knowers_0 : decode cX7_knowers 0 = .ok (.iconst 0, 1) := by decide +kernel
theorem dX7_knowers_1 : decode cX7_knowers 1 = .ok (.istore_n 1, 1) := by decide +kernel
theorem dX7_knowers_2 : decode cX7_knowers 2 = .ok (.iconst 0, 1) := by decide +kernel
theorem dX7_knowers_3 : decode cX7_knowers 3 = .ok (.istore_n 2, 1) := by decide +kernel
theorem dX7_knowers_4 : decode cX7_knowers 4 = .ok (.iload_n 2, 1) := by decide +kernel
theorem dX7_knowers_5 : decode cX7_knowers 5 = .ok (.aload_n 0, 1) := by decide +kernel
theorem dX7_knowers_6 : decode cX7_knowers 6 = .ok (.getfield 36, 3) := by decide +kernel
theorem dX7_knowers_9 : decode cX7_knowers 9 = .ok (.if_icmp .ge 28, 3) := by decide +kernel
theorem dX7_knowers_12 : decode cX7_knowers 12 = .ok (.iload_n 1, 1) := by decide +kernel
theorem dX7_knowers_13 : decode cX7_knowers 13 = .ok (.aload_n 0, 1) := by decide +kernel
theorem dX7_knowers_14 : decode cX7_knowers 14 = .ok (.iload_n 2, 1) := by decide +kernel
theorem dX7_knowers_15 : decode cX7_knowers 15 = .ok (.iload_n 2, 1) := by decide +kernel
theorem dX7_knowers_16 : decode cX7_knowers 16 = .ok (.invokevirtual 117, 3) := by decide +kernel
theorem dX7_knowers_19 : decode cX7_knowers 19 = .ok (.ifCond .eq 9, 3) := by decide +kernel
theorem dX7_knowers_22 : decode cX7_knowers 22 = .ok (.iconst 1, 1) := by decide +kernel
theorem dX7_knowers_23 : decode cX7_knowers 23 = .ok (.iload_n 2, 1) := by decide +kernel
theorem dX7_knowers_24 : decode cX7_knowers 24 = .ok (.ishl, 1) := by decide +kernel
theorem dX7_knowers_25 : decode cX7_knowers 25 = .ok (.goto 4, 3) := by decide +kernel
theorem dX7_knowers_28 : decode cX7_knowers 28 = .ok (.iconst 0, 1) := by decide +kernel
theorem dX7_knowers_29 : decode cX7_knowers 29 = .ok (.ior, 1) := by decide +kernel
theorem dX7_knowers_30 : decode cX7_knowers 30 = .ok (.istore_n 1, 1) := by decide +kernel
theorem dX7_knowers_31 : decode cX7_knowers 31 = .ok (.iinc 2 1, 3) := by decide +kernel
theorem dX7_knowers_34 : decode cX7_knowers 34 = .ok (.goto (-30), 3) := by decide +kernel
theorem dX7_knowers_37 : decode cX7_knowers 37 = .ok (.iload_n 1, 1) := by decide +kernel
theorem dX7_knowers_38 : decode cX7_knowers 38 = .ok (.ireturn, 1) := by decide +kernel
theorem dX7_prizesOfAll_0 : decode cX7_prizesOfAll 0 = .ok (.iconst 0, 1) := by decide +kernel
theorem dX7_prizesOfAll_1 : decode cX7_prizesOfAll 1 = .ok (.istore_n 1, 1) := by decide +kernel
theorem dX7_prizesOfAll_2 : decode cX7_prizesOfAll 2 = .ok (.iconst 0, 1) := by decide +kernel
theorem dX7_prizesOfAll_3 : decode cX7_prizesOfAll 3 = .ok (.istore_n 2, 1) := by decide +kernel
theorem dX7_prizesOfAll_4 : decode cX7_prizesOfAll 4 = .ok (.iload_n 2, 1) := by decide +kernel
theorem dX7_prizesOfAll_5 : decode cX7_prizesOfAll 5 = .ok (.aload_n 0, 1) := by decide +kernel
theorem dX7_prizesOfAll_6 : decode cX7_prizesOfAll 6 = .ok (.getfield 36, 3) := by decide +kernel
theorem dX7_prizesOfAll_9 : decode cX7_prizesOfAll 9 = .ok (.if_icmp .ge 18, 3) := by decide +kernel
theorem dX7_prizesOfAll_12 : decode cX7_prizesOfAll 12 = .ok (.iload_n 1, 1) := by decide +kernel
theorem dX7_prizesOfAll_13 : decode cX7_prizesOfAll 13 = .ok (.aload_n 0, 1) := by decide +kernel
theorem dX7_prizesOfAll_14 : decode cX7_prizesOfAll 14 = .ok (.getfield 21, 3) := by decide +kernel
theorem dX7_prizesOfAll_17 : decode cX7_prizesOfAll 17 = .ok (.iload_n 2, 1) := by decide +kernel
theorem dX7_prizesOfAll_18 : decode cX7_prizesOfAll 18 = .ok (.iaload, 1) := by decide +kernel
theorem dX7_prizesOfAll_19 : decode cX7_prizesOfAll 19 = .ok (.iadd, 1) := by decide +kernel
theorem dX7_prizesOfAll_20 : decode cX7_prizesOfAll 20 = .ok (.istore_n 1, 1) := by decide +kernel
theorem dX7_prizesOfAll_21 : decode cX7_prizesOfAll 21 = .ok (.iinc 2 1, 3) := by decide +kernel
theorem dX7_prizesOfAll_24 : decode cX7_prizesOfAll 24 = .ok (.goto (-20), 3) := by decide +kernel
theorem dX7_prizesOfAll_27 : decode cX7_prizesOfAll 27 = .ok (.iload_n 1, 1) := by decide +kernel
theorem dX7_prizesOfAll_28 : decode cX7_prizesOfAll 28 = .ok (.ireturn, 1) := by decide +kernel
theorem dX7_draw_0 : decode cX7_draw 0 = .ok (.aload_n 0, 1) := by decide +kernel
theorem dX7_draw_1 : decode cX7_draw 1 = .ok (.aload_n 0, 1) := by decide +kernel
theorem dX7_draw_2 : decode cX7_draw 2 = .ok (.getfield 53, 3) := by decide +kernel
theorem dX7_draw_5 : decode cX7_draw 5 = .ok (.ldc2_w 120, 3) := by decide +kernel
theorem dX7_draw_8 : decode cX7_draw 8 = .ok (.lmul, 1) := by decide +kernel
theorem dX7_draw_9 : decode cX7_draw 9 = .ok (.ldc2_w 122, 3) := by decide +kernel
theorem dX7_draw_12 : decode cX7_draw 12 = .ok (.ladd, 1) := by decide +kernel
theorem dX7_draw_13 : decode cX7_draw 13 = .ok (.ldc2_w 124, 3) := by decide +kernel
theorem dX7_draw_16 : decode cX7_draw 16 = .ok (.land, 1) := by decide +kernel
theorem dX7_draw_17 : decode cX7_draw 17 = .ok (.putfield 53, 3) := by decide +kernel
theorem dX7_draw_20 : decode cX7_draw 20 = .ok (.aload_n 0, 1) := by decide +kernel
theorem dX7_draw_21 : decode cX7_draw 21 = .ok (.getfield 53, 3) := by decide +kernel
theorem dX7_draw_24 : decode cX7_draw 24 = .ok (.ldc2_w 126, 3) := by decide +kernel
theorem dX7_draw_27 : decode cX7_draw 27 = .ok (.ldiv, 1) := by decide +kernel
theorem dX7_draw_28 : decode cX7_draw 28 = .ok (.l2i, 1) := by decide +kernel
theorem dX7_draw_29 : decode cX7_draw 29 = .ok (.ireturn, 1) := by decide +kernel
theorem dX8_init_0 : decode cX8_init 0 = .ok (.aload_n 0, 1) := by decide +kernel
theorem dX8_init_1 : decode cX8_init 1 = .ok (.invokespecial 3, 3) := by decide +kernel
theorem dX8_init_4 : decode cX8_init 4 = .ok (.aload_n 0, 1) := by decide +kernel
theorem dX8_init_5 : decode cX8_init 5 = .ok (.new 9, 3) := by decide +kernel
theorem dX8_init_8 : decode cX8_init 8 = .ok (.dup, 1) := by decide +kernel
theorem dX8_init_9 : decode cX8_init 9 = .ok (.iconst 3, 1) := by decide +kernel
theorem dX8_init_10 : decode cX8_init 10 = .ok (.invokespecial 11, 3) := by decide +kernel
theorem dX8_init_13 : decode cX8_init 13 = .ok (.putfield 14, 3) := by decide +kernel
theorem dX8_init_16 : decode cX8_init 16 = .ok (.aload_n 0, 1) := by decide +kernel
theorem dX8_init_17 : decode cX8_init 17 = .ok (.new 9, 3) := by decide +kernel
theorem dX8_init_20 : decode cX8_init 20 = .ok (.dup, 1) := by decide +kernel
theorem dX8_init_21 : decode cX8_init 21 = .ok (.bipush 6, 2) := by decide +kernel
theorem dX8_init_23 : decode cX8_init 23 = .ok (.invokespecial 11, 3) := by decide +kernel
theorem dX8_init_26 : decode cX8_init 26 = .ok (.putfield 20, 3) := by decide +kernel
theorem dX8_init_29 : decode cX8_init 29 = .ok (.aload_n 0, 1) := by decide +kernel
theorem dX8_init_30 : decode cX8_init 30 = .ok (.new 9, 3) := by decide +kernel
theorem dX8_init_33 : decode cX8_init 33 = .ok (.dup, 1) := by decide +kernel
theorem dX8_init_34 : decode cX8_init 34 = .ok (.bipush 8, 2) := by decide +kernel
theorem dX8_init_36 : decode cX8_init 36 = .ok (.invokespecial 11, 3) := by decide +kernel
theorem dX8_init_39 : decode cX8_init 39 = .ok (.putfield 23, 3) := by decide +kernel
theorem dX8_init_42 : decode cX8_init 42 = .ok (.aload_n 0, 1) := by decide +kernel
theorem dX8_init_43 : decode cX8_init 43 = .ok (.new 26, 3) := by decide +kernel
theorem dX8_init_46 : decode cX8_init 46 = .ok (.dup, 1) := by decide +kernel
theorem dX8_init_47 : decode cX8_init 47 = .ok (.invokespecial 28, 3) := by decide +kernel
theorem dX8_init_50 : decode cX8_init 50 = .ok (.putfield 29, 3) := by decide +kernel
theorem dX8_init_53 : decode cX8_init 53 = .ok (.aload_n 0, 1) := by decide +kernel
theorem dX8_init_54 : decode cX8_init 54 = .ok (.iconst 3, 1) := by decide +kernel
theorem dX8_init_55 : decode cX8_init 55 = .ok (.newarray .int, 2) := by decide +kernel
theorem dX8_init_57 : decode cX8_init 57 = .ok (.putfield 33, 3) := by decide +kernel
theorem dX8_init_60 : decode cX8_init 60 = .ok (.aload_n 0, 1) := by decide +kernel
theorem dX8_init_61 : decode cX8_init 61 = .ok (.bipush 6, 2) := by decide +kernel
theorem dX8_init_63 : decode cX8_init 63 = .ok (.newarray .int, 2) := by decide +kernel
theorem dX8_init_65 : decode cX8_init 65 = .ok (.putfield 37, 3) := by decide +kernel
theorem dX8_init_68 : decode cX8_init 68 = .ok (.aload_n 0, 1) := by decide +kernel
theorem dX8_init_69 : decode cX8_init 69 = .ok (.bipush 6, 2) := by decide +kernel
theorem dX8_init_71 : decode cX8_init 71 = .ok (.newarray .int, 2) := by decide +kernel
theorem dX8_init_73 : decode cX8_init 73 = .ok (.putfield 40, 3) := by decide +kernel
theorem dX8_init_76 : decode cX8_init 76 = .ok (.aload_n 0, 1) := by decide +kernel
theorem dX8_init_77 : decode cX8_init 77 = .ok (.bipush 8, 2) := by decide +kernel
theorem dX8_init_79 : decode cX8_init 79 = .ok (.newarray .int, 2) := by decide +kernel
theorem dX8_init_81 : decode cX8_init 81 = .ok (.putfield 43, 3) := by decide +kernel
theorem dX8_init_84 : decode cX8_init 84 = .ok (.aload_n 0, 1) := by decide +kernel
theorem dX8_init_85 : decode cX8_init 85 = .ok (.bipush 8, 2) := by decide +kernel
theorem dX8_init_87 : decode cX8_init 87 = .ok (.newarray .long, 2) := by decide +kernel
theorem dX8_init_89 : decode cX8_init 89 = .ok (.putfield 46, 3) := by decide +kernel
theorem dX8_init_92 : decode cX8_init 92 = .ok (.aload_n 0, 1) := by decide +kernel
theorem dX8_init_93 : decode cX8_init 93 = .ok (.bipush 12, 2) := by decide +kernel
theorem dX8_init_95 : decode cX8_init 95 = .ok (.newarray .int, 2) := by decide +kernel
theorem dX8_init_97 : decode cX8_init 97 = .ok (.putfield 50, 3) := by decide +kernel
theorem dX8_init_100 : decode cX8_init 100 = .ok (.aload_n 0, 1) := by decide +kernel
theorem dX8_init_101 : decode cX8_init 101 = .ok (.bipush 12, 2) := by decide +kernel
theorem dX8_init_103 : decode cX8_init 103 = .ok (.newarray .int, 2) := by decide +kernel
theorem dX8_init_105 : decode cX8_init 105 = .ok (.putfield 53, 3) := by decide +kernel
theorem dX8_init_108 : decode cX8_init 108 = .ok (.aload_n 0, 1) := by decide +kernel
theorem dX8_init_109 : decode cX8_init 109 = .ok (.bipush 12, 2) := by decide +kernel
theorem dX8_init_111 : decode cX8_init 111 = .ok (.newarray .int, 2) := by decide +kernel
theorem dX8_init_113 : decode cX8_init 113 = .ok (.putfield 56, 3) := by decide +kernel
theorem dX8_init_116 : decode cX8_init 116 = .ok (.aload_n 0, 1) := by decide +kernel
theorem dX8_init_117 : decode cX8_init 117 = .ok (.iconst 2, 1) := by decide +kernel
theorem dX8_init_118 : decode cX8_init 118 = .ok (.newarray .int, 2) := by decide +kernel
theorem dX8_init_120 : decode cX8_init 120 = .ok (.putfield 59, 3) := by decide +kernel
theorem dX8_init_123 : decode cX8_init 123 = .ok (.aload_n 0, 1) := by decide +kernel
theorem dX8_init_124 : decode cX8_init 124 = .ok (.iconst 2, 1) := by decide +kernel
theorem dX8_init_125 : decode cX8_init 125 = .ok (.newarray .long, 2) := by decide +kernel
theorem dX8_init_127 : decode cX8_init 127 = .ok (.putfield 62, 3) := by decide +kernel
theorem dX8_init_130 : decode cX8_init 130 = .ok (.aload_n 0, 1) := by decide +kernel
theorem dX8_init_131 : decode cX8_init 131 = .ok (.iconst (-1), 1) := by decide +kernel
theorem dX8_init_132 : decode cX8_init 132 = .ok (.putfield 65, 3) := by decide +kernel
theorem dX8_init_135 : decode cX8_init 135 = .ok (.aload_n 0, 1) := by decide +kernel
theorem dX8_init_136 : decode cX8_init 136 = .ok (.iconst (-1), 1) := by decide +kernel
theorem dX8_init_137 : decode cX8_init 137 = .ok (.putfield 69, 3) := by decide +kernel
theorem dX8_init_140 : decode cX8_init 140 = .ok (.return_, 1) := by decide +kernel
