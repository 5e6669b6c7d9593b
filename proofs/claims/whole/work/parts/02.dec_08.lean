theorem dX11_goesOn_0 : decode cX11_goesOn 0 = .ok (.iconst 0, 1) := by decide +kernel
theorem dX11_goesOn_1 : decode cX11_goesOn 1 = .ok (.istore_n 2, 1) := by decide +kernel
theorem dX11_goesOn_2 : decode cX11_goesOn 2 = .ok (.iload_n 2, 1) := by decide +kernel
theorem dX11_goesOn_3 : decode cX11_goesOn 3 = .ok (.iload_n 1, 1) := by decide +kernel
theorem dX11_goesOn_4 : decode cX11_goesOn 4 = .ok (.if_icmp .ge 15, 3) := by decide +kernel
theorem dX11_goesOn_7 : decode cX11_goesOn 7 = .ok (.aload_n 0, 1) := by decide +kernel
theorem dX11_goesOn_8 : decode cX11_goesOn 8 = .ok (.iconst 1, 1) := by decide +kernel
theorem dX11_goesOn_9 : decode cX11_goesOn 9 = .ok (.iconst 0, 1) := by decide +kernel
theorem dX11_goesOn_10 : decode cX11_goesOn 10 = .ok (.invokevirtual 456, 3) := by decide +kernel
theorem dX11_goesOn_13 : decode cX11_goesOn 13 = .ok (.iinc 2 1, 3) := by decide +kernel
theorem dX11_goesOn_16 : decode cX11_goesOn 16 = .ok (.goto (-14), 3) := by decide +kernel
theorem dX11_goesOn_19 : decode cX11_goesOn 19 = .ok (.return_, 1) := by decide +kernel
theorem dX11_coloursOf_0 : decode cX11_coloursOf 0 = .ok (.iconst 0, 1) := by decide +kernel
theorem dX11_coloursOf_1 : decode cX11_coloursOf 1 = .ok (.istore_n 3, 1) := by decide +kernel
theorem dX11_coloursOf_2 : decode cX11_coloursOf 2 = .ok (.iconst 0, 1) := by decide +kernel
theorem dX11_coloursOf_3 : decode cX11_coloursOf 3 = .ok (.istore 4, 2) := by decide +kernel
theorem dX11_coloursOf_5 : decode cX11_coloursOf 5 = .ok (.iload 4, 2) := by decide +kernel
theorem dX11_coloursOf_7 : decode cX11_coloursOf 7 = .ok (.aload_n 0, 1) := by decide +kernel
theorem dX11_coloursOf_8 : decode cX11_coloursOf 8 = .ok (.getfield 335, 3) := by decide +kernel
theorem dX11_coloursOf_11 : decode cX11_coloursOf 11 = .ok (.if_icmp .ge 40, 3) := by decide +kernel
theorem dX11_coloursOf_14 : decode cX11_coloursOf 14 = .ok (.iload_n 3, 1) := by decide +kernel
theorem dX11_coloursOf_15 : decode cX11_coloursOf 15 = .ok (.aload_n 0, 1) := by decide +kernel
theorem dX11_coloursOf_16 : decode cX11_coloursOf 16 = .ok (.iload_n 1, 1) := by decide +kernel
theorem dX11_coloursOf_17 : decode cX11_coloursOf 17 = .ok (.iload 4, 2) := by decide +kernel
theorem dX11_coloursOf_19 : decode cX11_coloursOf 19 = .ok (.invokevirtual 397, 3) := by decide +kernel
theorem dX11_coloursOf_22 : decode cX11_coloursOf 22 = .ok (.ifCond .eq 20, 3) := by decide +kernel
theorem dX11_coloursOf_25 : decode cX11_coloursOf 25 = .ok (.iconst 1, 1) := by decide +kernel
theorem dX11_coloursOf_26 : decode cX11_coloursOf 26 = .ok (.aload_n 0, 1) := by decide +kernel
theorem dX11_coloursOf_27 : decode cX11_coloursOf 27 = .ok (.getfield 72, 3) := by decide +kernel
theorem dX11_coloursOf_30 : decode cX11_coloursOf 30 = .ok (.bipush 6, 2) := by decide +kernel
theorem dX11_coloursOf_32 : decode cX11_coloursOf 32 = .ok (.iload 4, 2) := by decide +kernel
theorem dX11_coloursOf_34 : decode cX11_coloursOf 34 = .ok (.imul, 1) := by decide +kernel
theorem dX11_coloursOf_35 : decode cX11_coloursOf 35 = .ok (.iload_n 2, 1) := by decide +kernel
theorem dX11_coloursOf_36 : decode cX11_coloursOf 36 = .ok (.iadd, 1) := by decide +kernel
theorem dX11_coloursOf_37 : decode cX11_coloursOf 37 = .ok (.iaload, 1) := by decide +kernel
theorem dX11_coloursOf_38 : decode cX11_coloursOf 38 = .ok (.ishl, 1) := by decide +kernel
theorem dX11_coloursOf_39 : decode cX11_coloursOf 39 = .ok (.goto 4, 3) := by decide +kernel
theorem dX11_coloursOf_42 : decode cX11_coloursOf 42 = .ok (.iconst 0, 1) := by decide +kernel
theorem dX11_coloursOf_43 : decode cX11_coloursOf 43 = .ok (.ior, 1) := by decide +kernel
theorem dX11_coloursOf_44 : decode cX11_coloursOf 44 = .ok (.istore_n 3, 1) := by decide +kernel
theorem dX11_coloursOf_45 : decode cX11_coloursOf 45 = .ok (.iinc 4 1, 3) := by decide +kernel
theorem dX11_coloursOf_48 : decode cX11_coloursOf 48 = .ok (.goto (-43), 3) := by decide +kernel
theorem dX11_coloursOf_51 : decode cX11_coloursOf 51 = .ok (.iload_n 3, 1) := by decide +kernel
theorem dX11_coloursOf_52 : decode cX11_coloursOf 52 = .ok (.ireturn, 1) := by decide +kernel
theorem dX11_person_0 : decode cX11_person 0 = .ok (.aload_n 0, 1) := by decide +kernel
theorem dX11_person_1 : decode cX11_person 1 = .ok (.aload_n 0, 1) := by decide +kernel
theorem dX11_person_2 : decode cX11_person 2 = .ok (.iload_n 1, 1) := by decide +kernel
theorem dX11_person_3 : decode cX11_person 3 = .ok (.invokevirtual 460, 3) := by decide +kernel
theorem dX11_person_6 : decode cX11_person 6 = .ok (.ifCond .ne 7, 3) := by decide +kernel
theorem dX11_person_9 : decode cX11_person 9 = .ok (.iconst 1, 1) := by decide +kernel
theorem dX11_person_10 : decode cX11_person 10 = .ok (.goto 17, 3) := by decide +kernel
theorem dX11_person_13 : decode cX11_person 13 = .ok (.iload_n 2, 1) := by decide +kernel
theorem dX11_person_14 : decode cX11_person 14 = .ok (.ifCond .lt 8, 3) := by decide +kernel
theorem dX11_person_17 : decode cX11_person 17 = .ok (.iload_n 2, 1) := by decide +kernel
theorem dX11_person_18 : decode cX11_person 18 = .ok (.iconst 5, 1) := by decide +kernel
theorem dX11_person_19 : decode cX11_person 19 = .ok (.if_icmp .le 7, 3) := by decide +kernel
theorem dX11_person_22 : decode cX11_person 22 = .ok (.iconst 2, 1) := by decide +kernel
theorem dX11_person_23 : decode cX11_person 23 = .ok (.goto 4, 3) := by decide +kernel
theorem dX11_person_26 : decode cX11_person 26 = .ok (.iconst 0, 1) := by decide +kernel
theorem dX11_person_27 : decode cX11_person 27 = .ok (.putfield 128, 3) := by decide +kernel
theorem dX11_person_30 : decode cX11_person 30 = .ok (.aload_n 0, 1) := by decide +kernel
theorem dX11_person_31 : decode cX11_person 31 = .ok (.getfield 128, 3) := by decide +kernel
theorem dX11_person_34 : decode cX11_person 34 = .ok (.ifCond .eq 5, 3) := by decide +kernel
theorem dX11_person_37 : decode cX11_person 37 = .ok (.iconst 0, 1) := by decide +kernel
theorem dX11_person_38 : decode cX11_person 38 = .ok (.ireturn, 1) := by decide +kernel
theorem dX11_person_39 : decode cX11_person 39 = .ok (.aload_n 0, 1) := by decide +kernel
theorem dX11_person_40 : decode cX11_person 40 = .ok (.iconst 0, 1) := by decide +kernel
theorem dX11_person_41 : decode cX11_person 41 = .ok (.invokevirtual 428, 3) := by decide +kernel
theorem dX11_person_44 : decode cX11_person 44 = .ok (.iload_n 2, 1) := by decide +kernel
theorem dX11_person_45 : decode cX11_person 45 = .ok (.tableswitch 74 0 4 #[35, 42, 49, 60, 67], 35) := by decide +kernel
theorem dX11_person_80 : decode cX11_person 80 = .ok (.aload_n 0, 1) := by decide +kernel
theorem dX11_person_81 : decode cX11_person 81 = .ok (.getfield 25, 3) := by decide +kernel
theorem dX11_person_84 : decode cX11_person 84 = .ok (.iload_n 1, 1) := by decide +kernel
theorem dX11_person_85 : decode cX11_person 85 = .ok (.iaload, 1) := by decide +kernel
theorem dX11_person_86 : decode cX11_person 86 = .ok (.ireturn, 1) := by decide +kernel
theorem dX11_person_87 : decode cX11_person 87 = .ok (.aload_n 0, 1) := by decide +kernel
theorem dX11_person_88 : decode cX11_person 88 = .ok (.getfield 90, 3) := by decide +kernel
theorem dX11_person_91 : decode cX11_person 91 = .ok (.iload_n 1, 1) := by decide +kernel
theorem dX11_person_92 : decode cX11_person 92 = .ok (.iaload, 1) := by decide +kernel
theorem dX11_person_93 : decode cX11_person 93 = .ok (.ireturn, 1) := by decide +kernel
theorem dX11_person_94 : decode cX11_person 94 = .ok (.aload_n 0, 1) := by decide +kernel
theorem dX11_person_95 : decode cX11_person 95 = .ok (.getfield 87, 3) := by decide +kernel
theorem dX11_person_98 : decode cX11_person 98 = .ok (.iconst 0, 1) := by decide +kernel
theorem dX11_person_99 : decode cX11_person 99 = .ok (.iaload, 1) := by decide +kernel
theorem dX11_person_100 : decode cX11_person 100 = .ok (.iload_n 1, 1) := by decide +kernel
theorem dX11_person_101 : decode cX11_person 101 = .ok (.ishr, 1) := by decide +kernel
theorem dX11_person_102 : decode cX11_person 102 = .ok (.iconst 1, 1) := by decide +kernel
theorem dX11_person_103 : decode cX11_person 103 = .ok (.iand, 1) := by decide +kernel
theorem dX11_person_104 : decode cX11_person 104 = .ok (.ireturn, 1) := by decide +kernel
theorem dX11_person_105 : decode cX11_person 105 = .ok (.aload_n 0, 1) := by decide +kernel
theorem dX11_person_106 : decode cX11_person 106 = .ok (.getfield 93, 3) := by decide +kernel
theorem dX11_person_109 : decode cX11_person 109 = .ok (.iload_n 1, 1) := by decide +kernel
theorem dX11_person_110 : decode cX11_person 110 = .ok (.iaload, 1) := by decide +kernel
theorem dX11_person_111 : decode cX11_person 111 = .ok (.ireturn, 1) := by decide +kernel
theorem dX11_person_112 : decode cX11_person 112 = .ok (.aload_n 0, 1) := by decide +kernel
theorem dX11_person_113 : decode cX11_person 113 = .ok (.iload_n 1, 1) := by decide +kernel
theorem dX11_person_114 : decode cX11_person 114 = .ok (.iload_n 1, 1) := by decide +kernel
theorem dX11_person_115 : decode cX11_person 115 = .ok (.invokevirtual 463, 3) := by decide +kernel
theorem dX11_person_118 : decode cX11_person 118 = .ok (.ireturn, 1) := by decide +kernel
theorem dX11_person_119 : decode cX11_person 119 = .ok (.aload_n 0, 1) := by decide +kernel
theorem dX11_person_120 : decode cX11_person 120 = .ok (.iload_n 1, 1) := by decide +kernel
theorem dX11_person_121 : decode cX11_person 121 = .ok (.invokevirtual 410, 3) := by decide +kernel
theorem dX11_person_124 : decode cX11_person 124 = .ok (.ireturn, 1) := by decide +kernel
theorem dX11_own_0 : decode cX11_own 0 = .ok (.aload_n 0, 1) := by decide +kernel
theorem dX11_own_1 : decode cX11_own 1 = .ok (.iconst 0, 1) := by decide +kernel
theorem dX11_own_2 : decode cX11_own 2 = .ok (.putfield 128, 3) := by decide +kernel
theorem dX11_own_5 : decode cX11_own 5 = .ok (.aload_n 0, 1) := by decide +kernel
theorem dX11_own_6 : decode cX11_own 6 = .ok (.iload_n 1, 1) := by decide +kernel
theorem dX11_own_7 : decode cX11_own 7 = .ok (.invokevirtual 460, 3) := by decide +kernel
theorem dX11_own_10 : decode cX11_own 10 = .ok (.ifCond .ne 5, 3) := by decide +kernel
theorem dX11_own_13 : decode cX11_own 13 = .ok (.iconst (-1), 1) := by decide +kernel
theorem dX11_own_14 : decode cX11_own 14 = .ok (.ireturn, 1) := by decide +kernel
theorem dX11_own_15 : decode cX11_own 15 = .ok (.aload_n 0, 1) := by decide +kernel
theorem dX11_own_16 : decode cX11_own 16 = .ok (.iconst 0, 1) := by decide +kernel
theorem dX11_own_17 : decode cX11_own 17 = .ok (.invokevirtual 428, 3) := by decide +kernel
theorem dX11_own_20 : decode cX11_own 20 = .ok (.aload_n 0, 1) := by decide +kernel
theorem dX11_own_21 : decode cX11_own 21 = .ok (.getfield 103, 3) := by decide +kernel
theorem dX11_own_24 : decode cX11_own 24 = .ok (.sipush 729, 3) := by decide +kernel
theorem dX11_own_27 : decode cX11_own 27 = .ok (.iload_n 1, 1) := by decide +kernel
theorem dX11_own_28 : decode cX11_own 28 = .ok (.imul, 1) := by decide +kernel
theorem dX11_own_29 : decode cX11_own 29 = .ok (.aload_n 0, 1) := by decide +kernel
theorem dX11_own_30 : decode cX11_own 30 = .ok (.getfield 338, 3) := by decide +kernel
theorem dX11_own_33 : decode cX11_own 33 = .ok (.iadd, 1) := by decide +kernel
theorem dX11_own_34 : decode cX11_own 34 = .ok (.baload, 1) := by decide +kernel
theorem dX11_own_35 : decode cX11_own 35 = .ok (.ifCond .eq 12, 3) := by decide +kernel
theorem dX11_own_38 : decode cX11_own 38 = .ok (.aload_n 0, 1) := by decide +kernel
theorem dX11_own_39 : decode cX11_own 39 = .ok (.getfield 25, 3) := by decide +kernel
theorem dX11_own_42 : decode cX11_own 42 = .ok (.iload_n 1, 1) := by decide +kernel
theorem dX11_own_43 : decode cX11_own 43 = .ok (.iaload, 1) := by decide +kernel
theorem dX11_own_44 : decode cX11_own 44 = .ok (.goto 5, 3) := by decide +kernel
theorem dX11_own_47 : decode cX11_own 47 = .ok (.bipush (-2), 2) := by decide +kernel
theorem dX11_own_49 : decode cX11_own 49 = .ok (.ireturn, 1) := by decide +kernel
theorem dX11_world_0 : decode cX11_world 0 = .ok (.aload_n 0, 1) := by decide +kernel
theorem dX11_world_1 : decode cX11_world 1 = .ok (.iconst 0, 1) := by decide +kernel
theorem dX11_world_2 : decode cX11_world 2 = .ok (.putfield 128, 3) := by decide +kernel
theorem dX11_world_5 : decode cX11_world 5 = .ok (.iload_n 1, 1) := by decide +kernel
theorem dX11_world_6 : decode cX11_world 6 = .ok (.ifCond .lt 11, 3) := by decide +kernel
theorem dX11_world_9 : decode cX11_world 9 = .ok (.aload_n 0, 1) := by decide +kernel
theorem dX11_world_10 : decode cX11_world 10 = .ok (.iload_n 2, 1) := by decide +kernel
theorem dX11_world_11 : decode cX11_world 11 = .ok (.invokevirtual 460, 3) := by decide +kernel
theorem dX11_world_14 : decode cX11_world 14 = .ok (.ifCond .ne 5, 3) := by decide +kernel
theorem dX11_world_17 : decode cX11_world 17 = .ok (.iconst (-1), 1) := by decide +kernel
theorem dX11_world_18 : decode cX11_world 18 = .ok (.ireturn, 1) := by decide +kernel
theorem dX11_world_19 : decode cX11_world 19 = .ok (.iconst 0, 1) := by decide +kernel
theorem dX11_world_20 : decode cX11_world 20 = .ok (.istore_n 3, 1) := by decide +kernel
theorem dX11_world_21 : decode cX11_world 21 = .ok (.iconst 0, 1) := by decide +kernel
theorem dX11_world_22 : decode cX11_world 22 = .ok (.istore 4, 2) := by decide +kernel
theorem dX11_world_24 : decode cX11_world 24 = .ok (.iload 4, 2) := by decide +kernel
theorem dX11_world_26 : decode cX11_world 26 = .ok (.aload_n 0, 1) := by decide +kernel
theorem dX11_world_27 : decode cX11_world 27 = .ok (.getfield 335, 3) := by decide +kernel
theorem dX11_world_30 : decode cX11_world 30 = .ok (.if_icmp .ge 43, 3) := by decide +kernel
theorem dX11_world_33 : decode cX11_world 33 = .ok (.aload_n 0, 1) := by decide +kernel
theorem dX11_world_34 : decode cX11_world 34 = .ok (.getfield 96, 3) := by decide +kernel
theorem dX11_world_37 : decode cX11_world 37 = .ok (.iload 4, 2) := by decide +kernel
theorem dX11_world_39 : decode cX11_world 39 = .ok (.baload, 1) := by decide +kernel
theorem dX11_world_40 : decode cX11_world 40 = .ok (.ifCond .ne 6, 3) := by decide +kernel
theorem dX11_world_43 : decode cX11_world 43 = .ok (.goto 24, 3) := by decide +kernel
theorem dX11_world_46 : decode cX11_world 46 = .ok (.iload_n 3, 1) := by decide +kernel
theorem dX11_world_47 : decode cX11_world 47 = .ok (.iload_n 1, 1) := by decide +kernel
theorem dX11_world_48 : decode cX11_world 48 = .ok (.if_icmp .ne 16, 3) := by decide +kernel
theorem dX11_world_51 : decode cX11_world 51 = .ok (.aload_n 0, 1) := by decide +kernel
theorem dX11_world_52 : decode cX11_world 52 = .ok (.getfield 72, 3) := by decide +kernel
theorem dX11_world_55 : decode cX11_world 55 = .ok (.bipush 6, 2) := by decide +kernel
theorem dX11_world_57 : decode cX11_world 57 = .ok (.iload 4, 2) := by decide +kernel
theorem dX11_world_59 : decode cX11_world 59 = .ok (.imul, 1) := by decide +kernel
theorem dX11_world_60 : decode cX11_world 60 = .ok (.iload_n 2, 1) := by decide +kernel
theorem dX11_world_61 : decode cX11_world 61 = .ok (.iadd, 1) := by decide +kernel
theorem dX11_world_62 : decode cX11_world 62 = .ok (.iaload, 1) := by decide +kernel
theorem dX11_world_63 : decode cX11_world 63 = .ok (.ireturn, 1) := by decide +kernel
theorem dX11_world_64 : decode cX11_world 64 = .ok (.iinc 3 1, 3) := by decide +kernel
theorem dX11_world_67 : decode cX11_world 67 = .ok (.iinc 4 1, 3) := by decide +kernel
theorem dX11_world_70 : decode cX11_world 70 = .ok (.goto (-46), 3) := by decide +kernel
theorem dX11_world_73 : decode cX11_world 73 = .ok (.bipush (-2), 2) := by decide +kernel
theorem dX11_world_75 : decode cX11_world 75 = .ok (.ireturn, 1) := by decide +kernel
theorem dX11_real_0 : decode cX11_real 0 = .ok (.aload_n 0, 1) := by decide +kernel
theorem dX11_real_1 : decode cX11_real 1 = .ok (.iconst 0, 1) := by decide +kernel
theorem dX11_real_2 : decode cX11_real 2 = .ok (.putfield 128, 3) := by decide +kernel
theorem dX11_real_5 : decode cX11_real 5 = .ok (.iconst 0, 1) := by decide +kernel
theorem dX11_real_6 : decode cX11_real 6 = .ok (.istore_n 1, 1) := by decide +kernel
theorem dX11_real_7 : decode cX11_real 7 = .ok (.iconst 0, 1) := by decide +kernel
theorem dX11_real_8 : decode cX11_real 8 = .ok (.istore_n 2, 1) := by decide +kernel
theorem dX11_real_9 : decode cX11_real 9 = .ok (.iload_n 2, 1) := by decide +kernel
theorem dX11_real_10 : decode cX11_real 10 = .ok (.aload_n 0, 1) := by decide +kernel
theorem dX11_real_11 : decode cX11_real 11 = .ok (.getfield 338, 3) := by decide +kernel
theorem dX11_real_14 : decode cX11_real 14 = .ok (.if_icmp .ge 26, 3) := by decide +kernel
theorem dX11_real_17 : decode cX11_real 17 = .ok (.iload_n 1, 1) := by decide +kernel
theorem dX11_real_18 : decode cX11_real 18 = .ok (.aload_n 0, 1) := by decide +kernel
theorem dX11_real_19 : decode cX11_real 19 = .ok (.getfield 96, 3) := by decide +kernel
theorem dX11_real_22 : decode cX11_real 22 = .ok (.iload_n 2, 1) := by decide +kernel
theorem dX11_real_23 : decode cX11_real 23 = .ok (.baload, 1) := by decide +kernel
theorem dX11_real_24 : decode cX11_real 24 = .ok (.ifCond .eq 7, 3) := by decide +kernel
theorem dX11_real_27 : decode cX11_real 27 = .ok (.iconst 1, 1) := by decide +kernel
theorem dX11_real_28 : decode cX11_real 28 = .ok (.goto 4, 3) := by decide +kernel
theorem dX11_real_31 : decode cX11_real 31 = .ok (.iconst 0, 1) := by decide +kernel
theorem dX11_real_32 : decode cX11_real 32 = .ok (.iadd, 1) := by decide +kernel
theorem dX11_real_33 : decode cX11_real 33 = .ok (.istore_n 1, 1) := by decide +kernel
theorem dX11_real_34 : decode cX11_real 34 = .ok (.iinc 2 1, 3) := by decide +kernel
theorem dX11_real_37 : decode cX11_real 37 = .ok (.goto (-28), 3) := by decide +kernel
theorem dX11_real_40 : decode cX11_real 40 = .ok (.iload_n 1, 1) := by decide +kernel
theorem dX11_real_41 : decode cX11_real 41 = .ok (.ireturn, 1) := by decide +kernel
theorem dX11_is_0 : decode cX11_is 0 = .ok (.aload_n 0, 1) := by decide +kernel
theorem dX11_is_1 : decode cX11_is 1 = .ok (.iconst 0, 1) := by decide +kernel
theorem dX11_is_2 : decode cX11_is 2 = .ok (.putfield 128, 3) := by decide +kernel
theorem dX11_is_5 : decode cX11_is 5 = .ok (.aload_n 0, 1) := by decide +kernel
theorem dX11_is_6 : decode cX11_is 6 = .ok (.iload_n 1, 1) := by decide +kernel
theorem dX11_is_7 : decode cX11_is 7 = .ok (.invokevirtual 466, 3) := by decide +kernel
theorem dX11_is_10 : decode cX11_is 10 = .ok (.ifCond .ne 5, 3) := by decide +kernel
theorem dX11_is_13 : decode cX11_is 13 = .ok (.iconst (-1), 1) := by decide +kernel
theorem dX11_is_14 : decode cX11_is 14 = .ok (.ireturn, 1) := by decide +kernel
theorem dX11_is_15 : decode cX11_is 15 = .ok (.aload_n 0, 1) := by decide +kernel
theorem dX11_is_16 : decode cX11_is 16 = .ok (.iconst 0, 1) := by decide +kernel
theorem dX11_is_17 : decode cX11_is 17 = .ok (.invokevirtual 428, 3) := by decide +kernel
theorem dX11_is_20 : decode cX11_is 20 = .ok (.aload_n 0, 1) := by decide +kernel
theorem dX11_is_21 : decode cX11_is 21 = .ok (.getfield 115, 3) := by decide +kernel
theorem dX11_is_24 : decode cX11_is 24 = .ok (.sipush 729, 3) := by decide +kernel
theorem dX11_is_27 : decode cX11_is 27 = .ok (.iload_n 1, 1) := by decide +kernel
theorem dX11_is_28 : decode cX11_is 28 = .ok (.imul, 1) := by decide +kernel
theorem dX11_is_29 : decode cX11_is 29 = .ok (.aload_n 0, 1) := by decide +kernel
theorem dX11_is_30 : decode cX11_is 30 = .ok (.getfield 338, 3) := by decide +kernel
theorem dX11_is_33 : decode cX11_is 33 = .ok (.iadd, 1) := by decide +kernel
theorem dX11_is_34 : decode cX11_is 34 = .ok (.baload, 1) := by decide +kernel
theorem dX11_is_35 : decode cX11_is 35 = .ok (.ifCond .eq 7, 3) := by decide +kernel
theorem dX11_is_38 : decode cX11_is 38 = .ok (.iconst 1, 1) := by decide +kernel
theorem dX11_is_39 : decode cX11_is 39 = .ok (.goto 4, 3) := by decide +kernel
theorem dX11_is_42 : decode cX11_is 42 = .ok (.iconst 0, 1) := by decide +kernel
theorem dX11_is_43 : decode cX11_is 43 = .ok (.ireturn, 1) := by decide +kernel
theorem dX11_sure_0 : decode cX11_sure 0 = .ok (.aload_n 0, 1) := by decide +kernel
theorem dX11_sure_1 : decode cX11_sure 1 = .ok (.iconst 0, 1) := by decide +kernel
theorem dX11_sure_2 : decode cX11_sure 2 = .ok (.putfield 128, 3) := by decide +kernel
theorem dX11_sure_5 : decode cX11_sure 5 = .ok (.aload_n 0, 1) := by decide +kernel
theorem dX11_sure_6 : decode cX11_sure 6 = .ok (.iload_n 1, 1) := by decide +kernel
theorem dX11_sure_7 : decode cX11_sure 7 = .ok (.invokevirtual 460, 3) := by decide +kernel
theorem dX11_sure_10 : decode cX11_sure 10 = .ok (.ifCond .eq 11, 3) := by decide +kernel
theorem dX11_sure_13 : decode cX11_sure 13 = .ok (.aload_n 0, 1) := by decide +kernel
theorem dX11_sure_14 : decode cX11_sure 14 = .ok (.iload_n 2, 1) := by decide +kernel
theorem dX11_sure_15 : decode cX11_sure 15 = .ok (.invokevirtual 466, 3) := by decide +kernel
theorem dX11_sure_18 : decode cX11_sure 18 = .ok (.ifCond .ne 5, 3) := by decide +kernel
theorem dX11_sure_21 : decode cX11_sure 21 = .ok (.iconst (-1), 1) := by decide +kernel
theorem dX11_sure_22 : decode cX11_sure 22 = .ok (.ireturn, 1) := by decide +kernel
theorem dX11_sure_23 : decode cX11_sure 23 = .ok (.aload_n 0, 1) := by decide +kernel
theorem dX11_sure_24 : decode cX11_sure 24 = .ok (.iconst 0, 1) := by decide +kernel
theorem dX11_sure_25 : decode cX11_sure 25 = .ok (.invokevirtual 428, 3) := by decide +kernel
theorem dX11_sure_28 : decode cX11_sure 28 = .ok (.iconst 1, 1) := by decide +kernel
theorem dX11_sure_29 : decode cX11_sure 29 = .ok (.istore_n 3, 1) := by decide +kernel
theorem dX11_sure_30 : decode cX11_sure 30 = .ok (.iconst 1, 1) := by decide +kernel
theorem dX11_sure_31 : decode cX11_sure 31 = .ok (.istore 4, 2) := by decide +kernel
theorem dX11_sure_33 : decode cX11_sure 33 = .ok (.iconst 0, 1) := by decide +kernel
theorem dX11_sure_34 : decode cX11_sure 34 = .ok (.istore 5, 2) := by decide +kernel
theorem dX11_sure_36 : decode cX11_sure 36 = .ok (.iload 5, 2) := by decide +kernel
theorem dX11_sure_38 : decode cX11_sure 38 = .ok (.aload_n 0, 1) := by decide +kernel
theorem dX11_sure_39 : decode cX11_sure 39 = .ok (.getfield 335, 3) := by decide +kernel
theorem dX11_sure_42 : decode cX11_sure 42 = .ok (.if_icmp .ge 64, 3) := by decide +kernel
theorem dX11_sure_45 : decode cX11_sure 45 = .ok (.aload_n 0, 1) := by decide +kernel
theorem dX11_sure_46 : decode cX11_sure 46 = .ok (.iload_n 1, 1) := by decide +kernel
theorem dX11_sure_47 : decode cX11_sure 47 = .ok (.iload 5, 2) := by decide +kernel
theorem dX11_sure_49 : decode cX11_sure 49 = .ok (.invokevirtual 397, 3) := by decide +kernel
theorem dX11_sure_52 : decode cX11_sure 52 = .ok (.ifCond .ne 6, 3) := by decide +kernel
theorem dX11_sure_55 : decode cX11_sure 55 = .ok (.goto 45, 3) := by decide +kernel
theorem dX11_sure_58 : decode cX11_sure 58 = .ok (.iload_n 3, 1) := by decide +kernel
theorem dX11_sure_59 : decode cX11_sure 59 = .ok (.aload_n 0, 1) := by decide +kernel
theorem dX11_sure_60 : decode cX11_sure 60 = .ok (.getfield 115, 3) := by decide +kernel
theorem dX11_sure_63 : decode cX11_sure 63 = .ok (.sipush 729, 3) := by decide +kernel
theorem dX11_sure_66 : decode cX11_sure 66 = .ok (.iload_n 2, 1) := by decide +kernel
theorem dX11_sure_67 : decode cX11_sure 67 = .ok (.imul, 1) := by decide +kernel
theorem dX11_sure_68 : decode cX11_sure 68 = .ok (.iload 5, 2) := by decide +kernel
theorem dX11_sure_70 : decode cX11_sure 70 = .ok (.iadd, 1) := by decide +kernel
theorem dX11_sure_71 : decode cX11_sure 71 = .ok (.baload, 1) := by decide +kernel
theorem dX11_sure_72 : decode cX11_sure 72 = .ok (.iand, 1) := by decide +kernel
theorem dX11_sure_73 : decode cX11_sure 73 = .ok (.istore_n 3, 1) := by decide +kernel
theorem dX11_sure_74 : decode cX11_sure 74 = .ok (.iload 4, 2) := by decide +kernel
theorem dX11_sure_76 : decode cX11_sure 76 = .ok (.aload_n 0, 1) := by decide +kernel
theorem dX11_sure_77 : decode cX11_sure 77 = .ok (.getfield 115, 3) := by decide +kernel
theorem dX11_sure_80 : decode cX11_sure 80 = .ok (.sipush 729, 3) := by decide +kernel
theorem dX11_sure_83 : decode cX11_sure 83 = .ok (.iload_n 2, 1) := by decide +kernel
theorem dX11_sure_84 : decode cX11_sure 84 = .ok (.imul, 1) := by decide +kernel
theorem dX11_sure_85 : decode cX11_sure 85 = .ok (.iload 5, 2) := by decide +kernel
theorem dX11_sure_87 : decode cX11_sure 87 = .ok (.iadd, 1) := by decide +kernel
theorem dX11_sure_88 : decode cX11_sure 88 = .ok (.baload, 1) := by decide +kernel
theorem dX11_sure_89 : decode cX11_sure 89 = .ok (.ifCond .ne 7, 3) := by decide +kernel
theorem dX11_sure_92 : decode cX11_sure 92 = .ok (.iconst 1, 1) := by decide +kernel
theorem dX11_sure_93 : decode cX11_sure 93 = .ok (.goto 4, 3) := by decide +kernel
theorem dX11_sure_96 : decode cX11_sure 96 = .ok (.iconst 0, 1) := by decide +kernel
theorem dX11_sure_97 : decode cX11_sure 97 = .ok (.iand, 1) := by decide +kernel
theorem dX11_sure_98 : decode cX11_sure 98 = .ok (.istore 4, 2) := by decide +kernel
theorem dX11_sure_100 : decode cX11_sure 100 = .ok (.iinc 5 1, 3) := by decide +kernel
theorem dX11_sure_103 : decode cX11_sure 103 = .ok (.goto (-67), 3) := by decide +kernel
theorem dX11_sure_106 : decode cX11_sure 106 = .ok (.iload_n 3, 1) := by decide +kernel
theorem dX11_sure_107 : decode cX11_sure 107 = .ok (.ifCond .eq 7, 3) := by decide +kernel
theorem dX11_sure_110 : decode cX11_sure 110 = .ok (.iconst 1, 1) := by decide +kernel
theorem dX11_sure_111 : decode cX11_sure 111 = .ok (.goto 13, 3) := by decide +kernel
theorem dX11_sure_114 : decode cX11_sure 114 = .ok (.iload 4, 2) := by decide +kernel
theorem dX11_sure_116 : decode cX11_sure 116 = .ok (.ifCond .eq 7, 3) := by decide +kernel
theorem dX11_sure_119 : decode cX11_sure 119 = .ok (.iconst 0, 1) := by decide +kernel
theorem dX11_sure_120 : decode cX11_sure 120 = .ok (.goto 4, 3) := by decide +kernel
theorem dX11_sure_123 : decode cX11_sure 123 = .ok (.iconst 2, 1) := by decide +kernel
theorem dX11_sure_124 : decode cX11_sure 124 = .ok (.ireturn, 1) := by decide +kernel
theorem dX11_putsFact_0 : decode cX11_putsFact 0 = .ok (.aload_n 0, 1) := by decide +kernel
theorem dX11_putsFact_1 : decode cX11_putsFact 1 = .ok (.iconst 0, 1) := by decide +kernel
theorem dX11_putsFact_2 : decode cX11_putsFact 2 = .ok (.invokevirtual 428, 3) := by decide +kernel
theorem dX11_putsFact_5 : decode cX11_putsFact 5 = .ok (.aload_n 0, 1) := by decide +kernel
theorem dX11_putsFact_6 : decode cX11_putsFact 6 = .ok (.iconst 1, 1) := by decide +kernel
theorem dX11_putsFact_7 : decode cX11_putsFact 7 = .ok (.putfield 371, 3) := by decide +kernel
theorem dX11_putsFact_10 : decode cX11_putsFact 10 = .ok (.iconst 0, 1) := by decide +kernel
theorem dX11_putsFact_11 : decode cX11_putsFact 11 = .ok (.istore_n 2, 1) := by decide +kernel
theorem dX11_putsFact_12 : decode cX11_putsFact 12 = .ok (.iload_n 2, 1) := by decide +kernel
theorem dX11_putsFact_13 : decode cX11_putsFact 13 = .ok (.aload_n 0, 1) := by decide +kernel
theorem dX11_putsFact_14 : decode cX11_putsFact 14 = .ok (.getfield 335, 3) := by decide +kernel
theorem dX11_putsFact_17 : decode cX11_putsFact 17 = .ok (.if_icmp .ge 27, 3) := by decide +kernel
theorem dX11_putsFact_20 : decode cX11_putsFact 20 = .ok (.aload_n 0, 1) := by decide +kernel
theorem dX11_putsFact_21 : decode cX11_putsFact 21 = .ok (.getfield 119, 3) := by decide +kernel
theorem dX11_putsFact_24 : decode cX11_putsFact 24 = .ok (.iload_n 2, 1) := by decide +kernel
theorem dX11_putsFact_25 : decode cX11_putsFact 25 = .ok (.aload_n 0, 1) := by decide +kernel
theorem dX11_putsFact_26 : decode cX11_putsFact 26 = .ok (.getfield 115, 3) := by decide +kernel
theorem dX11_putsFact_29 : decode cX11_putsFact 29 = .ok (.sipush 729, 3) := by decide +kernel
theorem dX11_putsFact_32 : decode cX11_putsFact 32 = .ok (.iload_n 1, 1) := by decide +kernel
theorem dX11_putsFact_33 : decode cX11_putsFact 33 = .ok (.imul, 1) := by decide +kernel
theorem dX11_putsFact_34 : decode cX11_putsFact 34 = .ok (.iload_n 2, 1) := by decide +kernel
theorem dX11_putsFact_35 : decode cX11_putsFact 35 = .ok (.iadd, 1) := by decide +kernel
theorem dX11_putsFact_36 : decode cX11_putsFact 36 = .ok (.baload, 1) := by decide +kernel
theorem dX11_putsFact_37 : decode cX11_putsFact 37 = .ok (.bastore, 1) := by decide +kernel
theorem dX11_putsFact_38 : decode cX11_putsFact 38 = .ok (.iinc 2 1, 3) := by decide +kernel
theorem dX11_putsFact_41 : decode cX11_putsFact 41 = .ok (.goto (-29), 3) := by decide +kernel
theorem dX11_putsFact_44 : decode cX11_putsFact 44 = .ok (.return_, 1) := by decide +kernel
theorem dX11_common_0 : decode cX11_common 0 = .ok (.aload_n 0, 1) := by decide +kernel
theorem dX11_common_1 : decode cX11_common 1 = .ok (.iconst 0, 1) := by decide +kernel
theorem dX11_common_2 : decode cX11_common 2 = .ok (.putfield 128, 3) := by decide +kernel
theorem dX11_common_5 : decode cX11_common 5 = .ok (.aload_n 0, 1) := by decide +kernel
theorem dX11_common_6 : decode cX11_common 6 = .ok (.iload_n 1, 1) := by decide +kernel
theorem dX11_common_7 : decode cX11_common 7 = .ok (.invokevirtual 466, 3) := by decide +kernel
theorem dX11_common_10 : decode cX11_common 10 = .ok (.ifCond .ne 5, 3) := by decide +kernel
theorem dX11_common_13 : decode cX11_common 13 = .ok (.iconst (-1), 1) := by decide +kernel
theorem dX11_common_14 : decode cX11_common 14 = .ok (.ireturn, 1) := by decide +kernel
theorem dX11_common_15 : decode cX11_common 15 = .ok (.aload_n 0, 1) := by decide +kernel
theorem dX11_common_16 : decode cX11_common 16 = .ok (.iload_n 1, 1) := by decide +kernel
theorem dX11_common_17 : decode cX11_common 17 = .ok (.invokevirtual 469, 3) := by decide +kernel
theorem dX11_common_20 : decode cX11_common 20 = .ok (.aload_n 0, 1) := by decide +kernel
theorem dX11_common_21 : decode cX11_common 21 = .ok (.invokevirtual 390, 3) := by decide +kernel
theorem dX11_common_24 : decode cX11_common 24 = .ok (.aload_n 0, 1) := by decide +kernel
theorem dX11_common_25 : decode cX11_common 25 = .ok (.getfield 119, 3) := by decide +kernel
theorem dX11_common_28 : decode cX11_common 28 = .ok (.aload_n 0, 1) := by decide +kernel
theorem dX11_common_29 : decode cX11_common 29 = .ok (.getfield 338, 3) := by decide +kernel
theorem dX11_common_32 : decode cX11_common 32 = .ok (.baload, 1) := by decide +kernel
theorem dX11_common_33 : decode cX11_common 33 = .ok (.ifCond .eq 7, 3) := by decide +kernel
theorem dX11_common_36 : decode cX11_common 36 = .ok (.iconst 1, 1) := by decide +kernel
theorem dX11_common_37 : decode cX11_common 37 = .ok (.goto 4, 3) := by decide +kernel
theorem dX11_common_40 : decode cX11_common 40 = .ok (.iconst 0, 1) := by decide +kernel
theorem dX11_common_41 : decode cX11_common 41 = .ok (.ireturn, 1) := by decide +kernel
theorem dX11_depth_0 : decode cX11_depth 0 = .ok (.aload_n 0, 1) := by decide +kernel
theorem dX11_depth_1 : decode cX11_depth 1 = .ok (.iconst 0, 1) := by decide +kernel
theorem dX11_depth_2 : decode cX11_depth 2 = .ok (.putfield 128, 3) := by decide +kernel
theorem dX11_depth_5 : decode cX11_depth 5 = .ok (.aload_n 0, 1) := by decide +kernel
theorem dX11_depth_6 : decode cX11_depth 6 = .ok (.iload_n 1, 1) := by decide +kernel
theorem dX11_depth_7 : decode cX11_depth 7 = .ok (.invokevirtual 466, 3) := by decide +kernel
theorem dX11_depth_10 : decode cX11_depth 10 = .ok (.ifCond .ne 5, 3) := by decide +kernel
theorem dX11_depth_13 : decode cX11_depth 13 = .ok (.iconst (-1), 1) := by decide +kernel
theorem dX11_depth_14 : decode cX11_depth 14 = .ok (.ireturn, 1) := by decide +kernel
theorem dX11_depth_15 : decode cX11_depth 15 = .ok (.aload_n 0, 1) := by decide +kernel
theorem dX11_depth_16 : decode cX11_depth 16 = .ok (.iload_n 1, 1) := by decide +kernel
theorem dX11_depth_17 : decode cX11_depth 17 = .ok (.invokevirtual 469, 3) := by decide +kernel
theorem dX11_depth_20 : decode cX11_depth 20 = .ok (.aload_n 0, 1) := by decide +kernel
theorem dX11_depth_21 : decode cX11_depth 21 = .ok (.getfield 119, 3) := by decide +kernel
theorem dX11_depth_24 : decode cX11_depth 24 = .ok (.aload_n 0, 1) := by decide +kernel
theorem dX11_depth_25 : decode cX11_depth 25 = .ok (.getfield 338, 3) := by decide +kernel
theorem dX11_depth_28 : decode cX11_depth 28 = .ok (.baload, 1) := by decide +kernel
theorem dX11_depth_29 : decode cX11_depth 29 = .ok (.ifCond .ne 6, 3) := by decide +kernel
theorem dX11_depth_32 : decode cX11_depth 32 = .ok (.bipush (-2), 2) := by decide +kernel
theorem dX11_depth_34 : decode cX11_depth 34 = .ok (.ireturn, 1) := by decide +kernel
theorem dX11_depth_35 : decode cX11_depth 35 = .ok (.iconst 0, 1) := by decide +kernel
theorem dX11_depth_36 : decode cX11_depth 36 = .ok (.istore_n 2, 1) := by decide +kernel
theorem dX11_depth_37 : decode cX11_depth 37 = .ok (.iload_n 2, 1) := by decide +kernel
theorem dX11_depth_38 : decode cX11_depth 38 = .ok (.bipush 20, 2) := by decide +kernel
theorem dX11_depth_40 : decode cX11_depth 40 = .ok (.if_icmp .ge 27, 3) := by decide +kernel
theorem dX11_depth_43 : decode cX11_depth 43 = .ok (.aload_n 0, 1) := by decide +kernel
theorem dX11_depth_44 : decode cX11_depth 44 = .ok (.invokevirtual 387, 3) := by decide +kernel
theorem dX11_depth_47 : decode cX11_depth 47 = .ok (.aload_n 0, 1) := by decide +kernel
theorem dX11_depth_48 : decode cX11_depth 48 = .ok (.getfield 119, 3) := by decide +kernel
theorem dX11_depth_51 : decode cX11_depth 51 = .ok (.aload_n 0, 1) := by decide +kernel
theorem dX11_depth_52 : decode cX11_depth 52 = .ok (.getfield 338, 3) := by decide +kernel
theorem dX11_depth_55 : decode cX11_depth 55 = .ok (.baload, 1) := by decide +kernel
theorem dX11_depth_56 : decode cX11_depth 56 = .ok (.ifCond .ne 5, 3) := by decide +kernel
theorem dX11_depth_59 : decode cX11_depth 59 = .ok (.iload_n 2, 1) := by decide +kernel
theorem dX11_depth_60 : decode cX11_depth 60 = .ok (.ireturn, 1) := by decide +kernel
theorem dX11_depth_61 : decode cX11_depth 61 = .ok (.iinc 2 1, 3) := by decide +kernel
theorem dX11_depth_64 : decode cX11_depth 64 = .ok (.goto (-27), 3) := by decide +kernel
theorem dX11_depth_67 : decode cX11_depth 67 = .ok (.bipush 20, 2) := by decide +kernel
theorem dX11_depth_69 : decode cX11_depth 69 = .ok (.ireturn, 1) := by decide +kernel
theorem dX11_law_0 : decode cX11_law 0 = .ok (.aload_n 0, 1) := by decide +kernel
theorem dX11_law_1 : decode cX11_law 1 = .ok (.iconst 0, 1) := by decide +kernel
theorem dX11_law_2 : decode cX11_law 2 = .ok (.putfield 128, 3) := by decide +kernel
theorem dX11_law_5 : decode cX11_law 5 = .ok (.iload_n 1, 1) := by decide +kernel
theorem dX11_law_6 : decode cX11_law 6 = .ok (.ifCond .lt 24, 3) := by decide +kernel
theorem dX11_law_9 : decode cX11_law 9 = .ok (.iload_n 1, 1) := by decide +kernel
theorem dX11_law_10 : decode cX11_law 10 = .ok (.iconst 1, 1) := by decide +kernel
theorem dX11_law_11 : decode cX11_law 11 = .ok (.if_icmp .gt 19, 3) := by decide +kernel
theorem dX11_law_14 : decode cX11_law 14 = .ok (.aload_n 0, 1) := by decide +kernel
theorem dX11_law_15 : decode cX11_law 15 = .ok (.iload_n 1, 1) := by decide +kernel
theorem dX11_law_16 : decode cX11_law 16 = .ok (.invokevirtual 413, 3) := by decide +kernel
theorem dX11_law_19 : decode cX11_law 19 = .ok (.ifCond .eq 11, 3) := by decide +kernel
theorem dX11_law_22 : decode cX11_law 22 = .ok (.aload_n 0, 1) := by decide +kernel
theorem dX11_law_23 : decode cX11_law 23 = .ok (.iload_n 2, 1) := by decide +kernel
theorem dX11_law_24 : decode cX11_law 24 = .ok (.invokevirtual 460, 3) := by decide +kernel
theorem dX11_law_27 : decode cX11_law 27 = .ok (.ifCond .ne 7, 3) := by decide +kernel
theorem dX11_law_30 : decode cX11_law 30 = .ok (.ldc2_w 474, 3) := by decide +kernel
theorem dX11_law_33 : decode cX11_law 33 = .ok (.lreturn, 1) := by decide +kernel
theorem dX11_law_34 : decode cX11_law 34 = .ok (.aload_n 0, 1) := by decide +kernel
theorem dX11_law_35 : decode cX11_law 35 = .ok (.iconst 0, 1) := by decide +kernel
theorem dX11_law_36 : decode cX11_law 36 = .ok (.invokevirtual 428, 3) := by decide +kernel
theorem dX11_law_39 : decode cX11_law 39 = .ok (.aload_n 0, 1) := by decide +kernel
theorem dX11_law_40 : decode cX11_law 40 = .ok (.iload_n 2, 1) := by decide +kernel
theorem dX11_law_41 : decode cX11_law 41 = .ok (.invokevirtual 416, 3) := by decide +kernel
theorem dX11_law_44 : decode cX11_law 44 = .ok (.aload_n 0, 1) := by decide +kernel
theorem dX11_law_45 : decode cX11_law 45 = .ok (.iload_n 1, 1) := by decide +kernel
theorem dX11_law_46 : decode cX11_law 46 = .ok (.invokevirtual 419, 3) := by decide +kernel
theorem dX11_law_49 : decode cX11_law 49 = .ok (.ifCond .eq 12, 3) := by decide +kernel
theorem dX11_law_52 : decode cX11_law 52 = .ok (.aload_n 0, 1) := by decide +kernel
theorem dX11_law_53 : decode cX11_law 53 = .ok (.getfield 69, 3) := by decide +kernel
theorem dX11_law_56 : decode cX11_law 56 = .ok (.iconst 0, 1) := by decide +kernel
theorem dX11_law_57 : decode cX11_law 57 = .ok (.laload, 1) := by decide +kernel
theorem dX11_law_58 : decode cX11_law 58 = .ok (.goto 6, 3) := by decide +kernel
theorem dX11_law_61 : decode cX11_law 61 = .ok (.ldc2_w 474, 3) := by decide +kernel
theorem dX11_law_64 : decode cX11_law 64 = .ok (.lreturn, 1) := by decide +kernel
theorem dX11_keepNow_0 : decode cX11_keepNow 0 = .ok (.aload_n 0, 1) := by decide +kernel
theorem dX11_keepNow_1 : decode cX11_keepNow 1 = .ok (.getfield 312, 3) := by decide +kernel
theorem dX11_keepNow_4 : decode cX11_keepNow 4 = .ok (.bipush 20, 2) := by decide +kernel
theorem dX11_keepNow_6 : decode cX11_keepNow 6 = .ok (.if_icmp .ne 39, 3) := by decide +kernel
theorem dX11_keepNow_9 : decode cX11_keepNow 9 = .ok (.iconst 1, 1) := by decide +kernel
theorem dX11_keepNow_10 : decode cX11_keepNow 10 = .ok (.istore_n 1, 1) := by decide +kernel
theorem dX11_keepNow_11 : decode cX11_keepNow 11 = .ok (.iload_n 1, 1) := by decide +kernel
theorem dX11_keepNow_12 : decode cX11_keepNow 12 = .ok (.bipush 20, 2) := by decide +kernel
theorem dX11_keepNow_14 : decode cX11_keepNow 14 = .ok (.if_icmp .ge 21, 3) := by decide +kernel
theorem dX11_keepNow_17 : decode cX11_keepNow 17 = .ok (.aload_n 0, 1) := by decide +kernel
theorem dX11_keepNow_18 : decode cX11_keepNow 18 = .ok (.iconst 3, 1) := by decide +kernel
theorem dX11_keepNow_19 : decode cX11_keepNow 19 = .ok (.iload_n 1, 1) := by decide +kernel
theorem dX11_keepNow_20 : decode cX11_keepNow 20 = .ok (.iadd, 1) := by decide +kernel
theorem dX11_keepNow_21 : decode cX11_keepNow 21 = .ok (.iconst 1, 1) := by decide +kernel
theorem dX11_keepNow_22 : decode cX11_keepNow 22 = .ok (.isub, 1) := by decide +kernel
theorem dX11_keepNow_23 : decode cX11_keepNow 23 = .ok (.iconst 3, 1) := by decide +kernel
theorem dX11_keepNow_24 : decode cX11_keepNow 24 = .ok (.iload_n 1, 1) := by decide +kernel
theorem dX11_keepNow_25 : decode cX11_keepNow 25 = .ok (.iadd, 1) := by decide +kernel
theorem dX11_keepNow_26 : decode cX11_keepNow 26 = .ok (.invokevirtual 476, 3) := by decide +kernel
theorem dX11_keepNow_29 : decode cX11_keepNow 29 = .ok (.iinc 1 1, 3) := by decide +kernel
theorem dX11_keepNow_32 : decode cX11_keepNow 32 = .ok (.goto (-21), 3) := by decide +kernel
theorem dX11_keepNow_35 : decode cX11_keepNow 35 = .ok (.aload_n 0, 1) := by decide +kernel
theorem dX11_keepNow_36 : decode cX11_keepNow 36 = .ok (.dup, 1) := by decide +kernel
theorem dX11_keepNow_37 : decode cX11_keepNow 37 = .ok (.getfield 312, 3) := by decide +kernel
theorem dX11_keepNow_40 : decode cX11_keepNow 40 = .ok (.iconst 1, 1) := by decide +kernel
theorem dX11_keepNow_41 : decode cX11_keepNow 41 = .ok (.isub, 1) := by decide +kernel
theorem dX11_keepNow_42 : decode cX11_keepNow 42 = .ok (.putfield 312, 3) := by decide +kernel
theorem dX11_keepNow_45 : decode cX11_keepNow 45 = .ok (.aload_n 0, 1) := by decide +kernel
theorem dX11_keepNow_46 : decode cX11_keepNow 46 = .ok (.iconst 3, 1) := by decide +kernel
theorem dX11_keepNow_47 : decode cX11_keepNow 47 = .ok (.aload_n 0, 1) := by decide +kernel
theorem dX11_keepNow_48 : decode cX11_keepNow 48 = .ok (.getfield 312, 3) := by decide +kernel
theorem dX11_keepNow_51 : decode cX11_keepNow 51 = .ok (.iadd, 1) := by decide +kernel
theorem dX11_keepNow_52 : decode cX11_keepNow 52 = .ok (.iconst 0, 1) := by decide +kernel
theorem dX11_keepNow_53 : decode cX11_keepNow 53 = .ok (.invokevirtual 476, 3) := by decide +kernel
theorem dX11_keepNow_56 : decode cX11_keepNow 56 = .ok (.aload_n 0, 1) := by decide +kernel
theorem dX11_keepNow_57 : decode cX11_keepNow 57 = .ok (.dup, 1) := by decide +kernel
theorem dX11_keepNow_58 : decode cX11_keepNow 58 = .ok (.getfield 312, 3) := by decide +kernel
theorem dX11_keepNow_61 : decode cX11_keepNow 61 = .ok (.iconst 1, 1) := by decide +kernel
theorem dX11_keepNow_62 : decode cX11_keepNow 62 = .ok (.iadd, 1) := by decide +kernel
theorem dX11_keepNow_63 : decode cX11_keepNow 63 = .ok (.putfield 312, 3) := by decide +kernel
theorem dX11_keepNow_66 : decode cX11_keepNow 66 = .ok (.return_, 1) := by decide +kernel
theorem dX11_tell_0 : decode cX11_tell 0 = .ok (.aload_n 0, 1) := by decide +kernel
theorem dX11_tell_1 : decode cX11_tell 1 = .ok (.iconst 0, 1) := by decide +kernel
theorem dX11_tell_2 : decode cX11_tell 2 = .ok (.putfield 128, 3) := by decide +kernel
theorem dX11_tell_5 : decode cX11_tell 5 = .ok (.aload_n 0, 1) := by decide +kernel
theorem dX11_tell_6 : decode cX11_tell 6 = .ok (.iload_n 1, 1) := by decide +kernel
theorem dX11_tell_7 : decode cX11_tell 7 = .ok (.invokevirtual 466, 3) := by decide +kernel
theorem dX11_tell_10 : decode cX11_tell 10 = .ok (.ifCond .ne 5, 3) := by decide +kernel
theorem dX11_tell_13 : decode cX11_tell 13 = .ok (.iconst (-1), 1) := by decide +kernel
theorem dX11_tell_14 : decode cX11_tell 14 = .ok (.ireturn, 1) := by decide +kernel
theorem dX11_tell_15 : decode cX11_tell 15 = .ok (.aload_n 0, 1) := by decide +kernel
theorem dX11_tell_16 : decode cX11_tell 16 = .ok (.iconst 0, 1) := by decide +kernel
theorem dX11_tell_17 : decode cX11_tell 17 = .ok (.invokevirtual 428, 3) := by decide +kernel
theorem dX11_tell_20 : decode cX11_tell 20 = .ok (.aload_n 0, 1) := by decide +kernel
theorem dX11_tell_21 : decode cX11_tell 21 = .ok (.getfield 115, 3) := by decide +kernel
theorem dX11_tell_24 : decode cX11_tell 24 = .ok (.sipush 729, 3) := by decide +kernel
theorem dX11_tell_27 : decode cX11_tell 27 = .ok (.iload_n 1, 1) := by decide +kernel
theorem dX11_tell_28 : decode cX11_tell 28 = .ok (.imul, 1) := by decide +kernel
theorem dX11_tell_29 : decode cX11_tell 29 = .ok (.aload_n 0, 1) := by decide +kernel
theorem dX11_tell_30 : decode cX11_tell 30 = .ok (.getfield 338, 3) := by decide +kernel
theorem dX11_tell_33 : decode cX11_tell 33 = .ok (.iadd, 1) := by decide +kernel
theorem dX11_tell_34 : decode cX11_tell 34 = .ok (.baload, 1) := by decide +kernel
theorem dX11_tell_35 : decode cX11_tell 35 = .ok (.ifCond .ne 6, 3) := by decide +kernel
theorem dX11_tell_38 : decode cX11_tell 38 = .ok (.bipush (-2), 2) := by decide +kernel
theorem dX11_tell_40 : decode cX11_tell 40 = .ok (.ireturn, 1) := by decide +kernel
theorem dX11_tell_41 : decode cX11_tell 41 = .ok (.aload_n 0, 1) := by decide +kernel
theorem dX11_tell_42 : decode cX11_tell 42 = .ok (.invokevirtual 479, 3) := by decide +kernel
theorem dX11_tell_45 : decode cX11_tell 45 = .ok (.aload_n 0, 1) := by decide +kernel
theorem dX11_tell_46 : decode cX11_tell 46 = .ok (.iconst 0, 1) := by decide +kernel
theorem dX11_tell_47 : decode cX11_tell 47 = .ok (.iload_n 1, 1) := by decide +kernel
theorem dX11_tell_48 : decode cX11_tell 48 = .ok (.invokevirtual 449, 3) := by decide +kernel
theorem dX11_tell_51 : decode cX11_tell 51 = .ok (.pop, 1) := by decide +kernel
theorem dX11_tell_52 : decode cX11_tell 52 = .ok (.aload_n 0, 1) := by decide +kernel
theorem dX11_tell_53 : decode cX11_tell 53 = .ok (.iconst 0, 1) := by decide +kernel
theorem dX11_tell_54 : decode cX11_tell 54 = .ok (.invokevirtual 401, 3) := by decide +kernel
theorem dX11_tell_57 : decode cX11_tell 57 = .ok (.ireturn, 1) := by decide +kernel
theorem dX11_ask_0 : decode cX11_ask 0 = .ok (.aload_n 0, 1) := by decide +kernel
theorem dX11_ask_1 : decode cX11_ask 1 = .ok (.iconst 0, 1) := by decide +kernel
theorem dX11_ask_2 : decode cX11_ask 2 = .ok (.putfield 128, 3) := by decide +kernel
theorem dX11_ask_5 : decode cX11_ask 5 = .ok (.aload_n 0, 1) := by decide +kernel
theorem dX11_ask_6 : decode cX11_ask 6 = .ok (.invokevirtual 479, 3) := by decide +kernel
theorem dX11_ask_9 : decode cX11_ask 9 = .ok (.aload_n 0, 1) := by decide +kernel
theorem dX11_ask_10 : decode cX11_ask 10 = .ok (.iconst 0, 1) := by decide +kernel
theorem dX11_ask_11 : decode cX11_ask 11 = .ok (.iconst 0, 1) := by decide +kernel
theorem dX11_ask_12 : decode cX11_ask 12 = .ok (.invokevirtual 452, 3) := by decide +kernel
theorem dX11_ask_15 : decode cX11_ask 15 = .ok (.ireturn, 1) := by decide +kernel
theorem dX11_peep_0 : decode cX11_peep 0 = .ok (.aload_n 0, 1) := by decide +kernel
theorem dX11_peep_1 : decode cX11_peep 1 = .ok (.iconst 0, 1) := by decide +kernel
theorem dX11_peep_2 : decode cX11_peep 2 = .ok (.putfield 128, 3) := by decide +kernel
theorem dX11_peep_5 : decode cX11_peep 5 = .ok (.aload_n 0, 1) := by decide +kernel
theorem dX11_peep_6 : decode cX11_peep 6 = .ok (.iload_n 1, 1) := by decide +kernel
theorem dX11_peep_7 : decode cX11_peep 7 = .ok (.invokevirtual 460, 3) := by decide +kernel
theorem dX11_peep_10 : decode cX11_peep 10 = .ok (.ifCond .eq 16, 3) := by decide +kernel
theorem dX11_peep_13 : decode cX11_peep 13 = .ok (.aload_n 0, 1) := by decide +kernel
theorem dX11_peep_14 : decode cX11_peep 14 = .ok (.iload_n 2, 1) := by decide +kernel
theorem dX11_peep_15 : decode cX11_peep 15 = .ok (.invokevirtual 460, 3) := by decide +kernel
theorem dX11_peep_18 : decode cX11_peep 18 = .ok (.ifCond .eq 8, 3) := by decide +kernel
theorem dX11_peep_21 : decode cX11_peep 21 = .ok (.iload_n 1, 1) := by decide +kernel
theorem dX11_peep_22 : decode cX11_peep 22 = .ok (.iload_n 2, 1) := by decide +kernel
theorem dX11_peep_23 : decode cX11_peep 23 = .ok (.if_icmp .ne 5, 3) := by decide +kernel
theorem dX11_peep_26 : decode cX11_peep 26 = .ok (.iconst (-1), 1) := by decide +kernel
theorem dX11_peep_27 : decode cX11_peep 27 = .ok (.ireturn, 1) := by decide +kernel
theorem dX11_peep_28 : decode cX11_peep 28 = .ok (.aload_n 0, 1) := by decide +kernel
theorem dX11_peep_29 : decode cX11_peep 29 = .ok (.getfield 90, 3) := by decide +kernel
theorem dX11_peep_32 : decode cX11_peep 32 = .ok (.iload_n 1, 1) := by decide +kernel
theorem dX11_peep_33 : decode cX11_peep 33 = .ok (.iaload, 1) := by decide +kernel
theorem dX11_peep_34 : decode cX11_peep 34 = .ok (.iload_n 2, 1) := by decide +kernel
theorem dX11_peep_35 : decode cX11_peep 35 = .ok (.ishr, 1) := by decide +kernel
theorem dX11_peep_36 : decode cX11_peep 36 = .ok (.iconst 1, 1) := by decide +kernel
theorem dX11_peep_37 : decode cX11_peep 37 = .ok (.iand, 1) := by decide +kernel
theorem dX11_peep_38 : decode cX11_peep 38 = .ok (.iconst 1, 1) := by decide +kernel
theorem dX11_peep_39 : decode cX11_peep 39 = .ok (.if_icmp .ne 6, 3) := by decide +kernel
theorem dX11_peep_42 : decode cX11_peep 42 = .ok (.bipush (-2), 2) := by decide +kernel
theorem dX11_peep_44 : decode cX11_peep 44 = .ok (.ireturn, 1) := by decide +kernel
theorem dX11_peep_45 : decode cX11_peep 45 = .ok (.aload_n 0, 1) := by decide +kernel
theorem dX11_peep_46 : decode cX11_peep 46 = .ok (.invokevirtual 479, 3) := by decide +kernel
theorem dX11_peep_49 : decode cX11_peep 49 = .ok (.aload_n 0, 1) := by decide +kernel
theorem dX11_peep_50 : decode cX11_peep 50 = .ok (.getfield 90, 3) := by decide +kernel
theorem dX11_peep_53 : decode cX11_peep 53 = .ok (.iload_n 1, 1) := by decide +kernel
theorem dX11_peep_54 : decode cX11_peep 54 = .ok (.dup2, 1) := by decide +kernel
theorem dX11_peep_55 : decode cX11_peep 55 = .ok (.iaload, 1) := by decide +kernel
theorem dX11_peep_56 : decode cX11_peep 56 = .ok (.iconst 1, 1) := by decide +kernel
theorem dX11_peep_57 : decode cX11_peep 57 = .ok (.iload_n 2, 1) := by decide +kernel
theorem dX11_peep_58 : decode cX11_peep 58 = .ok (.ishl, 1) := by decide +kernel
theorem dX11_peep_59 : decode cX11_peep 59 = .ok (.ior, 1) := by decide +kernel
theorem dX11_peep_60 : decode cX11_peep 60 = .ok (.iastore, 1) := by decide +kernel
theorem dX11_peep_61 : decode cX11_peep 61 = .ok (.aload_n 0, 1) := by decide +kernel
theorem dX11_peep_62 : decode cX11_peep 62 = .ok (.iconst 0, 1) := by decide +kernel
theorem dX11_peep_63 : decode cX11_peep 63 = .ok (.invokevirtual 428, 3) := by decide +kernel
theorem dX11_peep_66 : decode cX11_peep 66 = .ok (.aload_n 0, 1) := by decide +kernel
theorem dX11_peep_67 : decode cX11_peep 67 = .ok (.iload_n 1, 1) := by decide +kernel
theorem dX11_peep_68 : decode cX11_peep 68 = .ok (.invokevirtual 410, 3) := by decide +kernel
theorem dX11_peep_71 : decode cX11_peep 71 = .ok (.ireturn, 1) := by decide +kernel
theorem dX11_go_0 : decode cX11_go 0 = .ok (.aload_n 0, 1) := by decide +kernel
theorem dX11_go_1 : decode cX11_go 1 = .ok (.iconst 0, 1) := by decide +kernel
theorem dX11_go_2 : decode cX11_go 2 = .ok (.putfield 128, 3) := by decide +kernel
theorem dX11_go_5 : decode cX11_go 5 = .ok (.iload_n 1, 1) := by decide +kernel
theorem dX11_go_6 : decode cX11_go 6 = .ok (.ifCond .lt 24, 3) := by decide +kernel
theorem dX11_go_9 : decode cX11_go 9 = .ok (.iload_n 1, 1) := by decide +kernel
theorem dX11_go_10 : decode cX11_go 10 = .ok (.sipush 200, 3) := by decide +kernel
theorem dX11_go_13 : decode cX11_go 13 = .ok (.if_icmp .gt 17, 3) := by decide +kernel
theorem dX11_go_16 : decode cX11_go 16 = .ok (.aload_n 0, 1) := by decide +kernel
theorem dX11_go_17 : decode cX11_go 17 = .ok (.getfield 75, 3) := by decide +kernel
theorem dX11_go_20 : decode cX11_go 20 = .ok (.iconst 0, 1) := by decide +kernel
theorem dX11_go_21 : decode cX11_go 21 = .ok (.iaload, 1) := by decide +kernel
theorem dX11_go_22 : decode cX11_go 22 = .ok (.iload_n 1, 1) := by decide +kernel
theorem dX11_go_23 : decode cX11_go 23 = .ok (.iadd, 1) := by decide +kernel
theorem dX11_go_24 : decode cX11_go 24 = .ok (.sipush 9800, 3) := by decide +kernel
theorem dX11_go_27 : decode cX11_go 27 = .ok (.if_icmp .le 5, 3) := by decide +kernel
theorem dX11_go_30 : decode cX11_go 30 = .ok (.iconst (-1), 1) := by decide +kernel
theorem dX11_go_31 : decode cX11_go 31 = .ok (.ireturn, 1) := by decide +kernel
theorem dX11_go_32 : decode cX11_go 32 = .ok (.iload_n 1, 1) := by decide +kernel
theorem dX11_go_33 : decode cX11_go 33 = .ok (.ifCond .le 8, 3) := by decide +kernel
theorem dX11_go_36 : decode cX11_go 36 = .ok (.aload_n 0, 1) := by decide +kernel
theorem dX11_go_37 : decode cX11_go 37 = .ok (.iconst 0, 1) := by decide +kernel
theorem dX11_go_38 : decode cX11_go 38 = .ok (.putfield 312, 3) := by decide +kernel
theorem dX11_go_41 : decode cX11_go 41 = .ok (.iconst 0, 1) := by decide +kernel
theorem dX11_go_42 : decode cX11_go 42 = .ok (.istore_n 2, 1) := by decide +kernel
theorem dX11_go_43 : decode cX11_go 43 = .ok (.iload_n 2, 1) := by decide +kernel
theorem dX11_go_44 : decode cX11_go 44 = .ok (.iload_n 1, 1) := by decide +kernel
theorem dX11_go_45 : decode cX11_go 45 = .ok (.if_icmp .ge 15, 3) := by decide +kernel
theorem dX11_go_48 : decode cX11_go 48 = .ok (.aload_n 0, 1) := by decide +kernel
theorem dX11_go_49 : decode cX11_go 49 = .ok (.iconst 0, 1) := by decide +kernel
theorem dX11_go_50 : decode cX11_go 50 = .ok (.iconst 1, 1) := by decide +kernel
theorem dX11_go_51 : decode cX11_go 51 = .ok (.invokevirtual 456, 3) := by decide +kernel
theorem dX11_go_54 : decode cX11_go 54 = .ok (.iinc 2 1, 3) := by decide +kernel
theorem dX11_go_57 : decode cX11_go 57 = .ok (.goto (-14), 3) := by decide +kernel
theorem dX11_go_60 : decode cX11_go 60 = .ok (.aload_n 0, 1) := by decide +kernel
theorem dX11_go_61 : decode cX11_go 61 = .ok (.getfield 75, 3) := by decide +kernel
theorem dX11_go_64 : decode cX11_go 64 = .ok (.iconst 0, 1) := by decide +kernel
theorem dX11_go_65 : decode cX11_go 65 = .ok (.iaload, 1) := by decide +kernel
theorem dX11_go_66 : decode cX11_go 66 = .ok (.ireturn, 1) := by decide +kernel
theorem dX11_ahead_0 : decode cX11_ahead 0 = .ok (.aload_n 0, 1) := by decide +kernel
theorem dX11_ahead_1 : decode cX11_ahead 1 = .ok (.iconst 0, 1) := by decide +kernel
theorem dX11_ahead_2 : decode cX11_ahead 2 = .ok (.putfield 128, 3) := by decide +kernel
theorem dX11_ahead_5 : decode cX11_ahead 5 = .ok (.iload_n 1, 1) := by decide +kernel
theorem dX11_ahead_6 : decode cX11_ahead 6 = .ok (.ifCond .lt 32, 3) := by decide +kernel
theorem dX11_ahead_9 : decode cX11_ahead 9 = .ok (.iload_n 1, 1) := by decide +kernel
theorem dX11_ahead_10 : decode cX11_ahead 10 = .ok (.sipush 200, 3) := by decide +kernel
theorem dX11_ahead_13 : decode cX11_ahead 13 = .ok (.if_icmp .gt 25, 3) := by decide +kernel
theorem dX11_ahead_16 : decode cX11_ahead 16 = .ok (.iload_n 2, 1) := by decide +kernel
theorem dX11_ahead_17 : decode cX11_ahead 17 = .ok (.ifCond .lt 21, 3) := by decide +kernel
theorem dX11_ahead_20 : decode cX11_ahead 20 = .ok (.iload_n 2, 1) := by decide +kernel
theorem dX11_ahead_21 : decode cX11_ahead 21 = .ok (.iconst 4, 1) := by decide +kernel
theorem dX11_ahead_22 : decode cX11_ahead 22 = .ok (.if_icmp .gt 16, 3) := by decide +kernel
theorem dX11_ahead_25 : decode cX11_ahead 25 = .ok (.iload_n 2, 1) := by decide +kernel
theorem dX11_ahead_26 : decode cX11_ahead 26 = .ok (.iconst 3, 1) := by decide +kernel
theorem dX11_ahead_27 : decode cX11_ahead 27 = .ok (.if_icmp .ne 13, 3) := by decide +kernel
theorem dX11_ahead_30 : decode cX11_ahead 30 = .ok (.aload_n 0, 1) := by decide +kernel
theorem dX11_ahead_31 : decode cX11_ahead 31 = .ok (.iload_n 3, 1) := by decide +kernel
theorem dX11_ahead_32 : decode cX11_ahead 32 = .ok (.invokevirtual 460, 3) := by decide +kernel
theorem dX11_ahead_35 : decode cX11_ahead 35 = .ok (.ifCond .ne 5, 3) := by decide +kernel
theorem dX11_ahead_38 : decode cX11_ahead 38 = .ok (.iconst (-1), 1) := by decide +kernel
theorem dX11_ahead_39 : decode cX11_ahead 39 = .ok (.ireturn, 1) := by decide +kernel
theorem dX11_ahead_40 : decode cX11_ahead 40 = .ok (.aload_n 0, 1) := by decide +kernel
theorem dX11_ahead_41 : decode cX11_ahead 41 = .ok (.iconst 1, 1) := by decide +kernel
theorem dX11_ahead_42 : decode cX11_ahead 42 = .ok (.iconst 0, 1) := by decide +kernel
theorem dX11_ahead_43 : decode cX11_ahead 43 = .ok (.invokevirtual 476, 3) := by decide +kernel
theorem dX11_ahead_46 : decode cX11_ahead 46 = .ok (.aload_n 0, 1) := by decide +kernel
theorem dX11_ahead_47 : decode cX11_ahead 47 = .ok (.iload_n 1, 1) := by decide +kernel
theorem dX11_ahead_48 : decode cX11_ahead 48 = .ok (.invokevirtual 482, 3) := by decide +kernel
theorem dX11_ahead_51 : decode cX11_ahead 51 = .ok (.aload_n 0, 1) := by decide +kernel
theorem dX11_ahead_52 : decode cX11_ahead 52 = .ok (.iconst 1, 1) := by decide +kernel
theorem dX11_ahead_53 : decode cX11_ahead 53 = .ok (.invokevirtual 428, 3) := by decide +kernel
theorem dX11_ahead_56 : decode cX11_ahead 56 = .ok (.iload_n 2, 1) := by decide +kernel
theorem dX11_ahead_57 : decode cX11_ahead 57 = .ok (.tableswitch 65 0 3 #[31, 37, 45, 55], 31) := by decide +kernel
theorem dX11_ahead_88 : decode cX11_ahead 88 = .ok (.aload_n 0, 1) := by decide +kernel
theorem dX11_ahead_89 : decode cX11_ahead 89 = .ok (.iconst 1, 1) := by decide +kernel
theorem dX11_ahead_90 : decode cX11_ahead 90 = .ok (.invokevirtual 401, 3) := by decide +kernel
theorem dX11_ahead_93 : decode cX11_ahead 93 = .ok (.ireturn, 1) := by decide +kernel
theorem dX11_ahead_94 : decode cX11_ahead 94 = .ok (.aload_n 0, 1) := by decide +kernel
theorem dX11_ahead_95 : decode cX11_ahead 95 = .ok (.invokevirtual 407, 3) := by decide +kernel
theorem dX11_ahead_98 : decode cX11_ahead 98 = .ok (.invokestatic 404, 3) := by decide +kernel
theorem dX11_ahead_101 : decode cX11_ahead 101 = .ok (.ireturn, 1) := by decide +kernel
theorem dX11_ahead_102 : decode cX11_ahead 102 = .ok (.aload_n 0, 1) := by decide +kernel
theorem dX11_ahead_103 : decode cX11_ahead 103 = .ok (.getfield 87, 3) := by decide +kernel
theorem dX11_ahead_106 : decode cX11_ahead 106 = .ok (.iconst 1, 1) := by decide +kernel
theorem dX11_ahead_107 : decode cX11_ahead 107 = .ok (.iaload, 1) := by decide +kernel
theorem dX11_ahead_108 : decode cX11_ahead 108 = .ok (.invokestatic 404, 3) := by decide +kernel
theorem dX11_ahead_111 : decode cX11_ahead 111 = .ok (.ireturn, 1) := by decide +kernel
theorem dX11_ahead_112 : decode cX11_ahead 112 = .ok (.aload_n 0, 1) := by decide +kernel
theorem dX11_ahead_113 : decode cX11_ahead 113 = .ok (.getfield 93, 3) := by decide +kernel
theorem dX11_ahead_116 : decode cX11_ahead 116 = .ok (.bipush 6, 2) := by decide +kernel
theorem dX11_ahead_118 : decode cX11_ahead 118 = .ok (.iload_n 3, 1) := by decide +kernel
theorem dX11_ahead_119 : decode cX11_ahead 119 = .ok (.iadd, 1) := by decide +kernel
theorem dX11_ahead_120 : decode cX11_ahead 120 = .ok (.iaload, 1) := by decide +kernel
theorem dX11_ahead_121 : decode cX11_ahead 121 = .ok (.ireturn, 1) := by decide +kernel
theorem dX11_ahead_122 : decode cX11_ahead 122 = .ok (.aload_n 0, 1) := by decide +kernel
theorem dX11_ahead_123 : decode cX11_ahead 123 = .ok (.getfield 84, 3) := by decide +kernel
theorem dX11_ahead_126 : decode cX11_ahead 126 = .ok (.iconst 1, 1) := by decide +kernel
theorem dX11_ahead_127 : decode cX11_ahead 127 = .ok (.iaload, 1) := by decide +kernel
theorem dX11_ahead_128 : decode cX11_ahead 128 = .ok (.aload_n 0, 1) := by decide +kernel
theorem dX11_ahead_129 : decode cX11_ahead 129 = .ok (.getfield 84, 3) := by decide +kernel
theorem dX11_ahead_132 : decode cX11_ahead 132 = .ok (.iconst 0, 1) := by decide +kernel
theorem dX11_ahead_133 : decode cX11_ahead 133 = .ok (.iaload, 1) := by decide +kernel
theorem dX11_ahead_134 : decode cX11_ahead 134 = .ok (.isub, 1) := by decide +kernel
theorem dX11_ahead_135 : decode cX11_ahead 135 = .ok (.ireturn, 1) := by decide +kernel
theorem dX11_willKnow_0 : decode cX11_willKnow 0 = .ok (.aload_n 0, 1) := by decide +kernel
theorem dX11_willKnow_1 : decode cX11_willKnow 1 = .ok (.iconst 0, 1) := by decide +kernel
theorem dX11_willKnow_2 : decode cX11_willKnow 2 = .ok (.putfield 128, 3) := by decide +kernel
theorem dX11_willKnow_5 : decode cX11_willKnow 5 = .ok (.aload_n 0, 1) := by decide +kernel
theorem dX11_willKnow_6 : decode cX11_willKnow 6 = .ok (.iload_n 1, 1) := by decide +kernel
theorem dX11_willKnow_7 : decode cX11_willKnow 7 = .ok (.invokevirtual 460, 3) := by decide +kernel
theorem dX11_willKnow_10 : decode cX11_willKnow 10 = .ok (.ifCond .ne 5, 3) := by decide +kernel
theorem dX11_willKnow_13 : decode cX11_willKnow 13 = .ok (.iconst (-1), 1) := by decide +kernel
theorem dX11_willKnow_14 : decode cX11_willKnow 14 = .ok (.ireturn, 1) := by decide +kernel
theorem dX11_willKnow_15 : decode cX11_willKnow 15 = .ok (.aload_n 0, 1) := by decide +kernel
theorem dX11_willKnow_16 : decode cX11_willKnow 16 = .ok (.iconst 1, 1) := by decide +kernel
theorem dX11_willKnow_17 : decode cX11_willKnow 17 = .ok (.iconst 0, 1) := by decide +kernel
theorem dX11_willKnow_18 : decode cX11_willKnow 18 = .ok (.invokevirtual 476, 3) := by decide +kernel
theorem dX11_willKnow_21 : decode cX11_willKnow 21 = .ok (.iconst 0, 1) := by decide +kernel
theorem dX11_willKnow_22 : decode cX11_willKnow 22 = .ok (.istore_n 2, 1) := by decide +kernel
theorem dX11_willKnow_23 : decode cX11_willKnow 23 = .ok (.iload_n 2, 1) := by decide +kernel
theorem dX11_willKnow_24 : decode cX11_willKnow 24 = .ok (.sipush 199, 3) := by decide +kernel
theorem dX11_willKnow_27 : decode cX11_willKnow 27 = .ok (.if_icmp .gt 40, 3) := by decide +kernel
theorem dX11_willKnow_30 : decode cX11_willKnow 30 = .ok (.aload_n 0, 1) := by decide +kernel
theorem dX11_willKnow_31 : decode cX11_willKnow 31 = .ok (.iconst 1, 1) := by decide +kernel
theorem dX11_willKnow_32 : decode cX11_willKnow 32 = .ok (.invokevirtual 428, 3) := by decide +kernel
theorem dX11_willKnow_35 : decode cX11_willKnow 35 = .ok (.aload_n 0, 1) := by decide +kernel
theorem dX11_willKnow_36 : decode cX11_willKnow 36 = .ok (.getfield 103, 3) := by decide +kernel
theorem dX11_willKnow_39 : decode cX11_willKnow 39 = .ok (.sipush 729, 3) := by decide +kernel
theorem dX11_willKnow_42 : decode cX11_willKnow 42 = .ok (.iload_n 1, 1) := by decide +kernel
theorem dX11_willKnow_43 : decode cX11_willKnow 43 = .ok (.imul, 1) := by decide +kernel
theorem dX11_willKnow_44 : decode cX11_willKnow 44 = .ok (.aload_n 0, 1) := by decide +kernel
theorem dX11_willKnow_45 : decode cX11_willKnow 45 = .ok (.getfield 338, 3) := by decide +kernel
theorem dX11_willKnow_48 : decode cX11_willKnow 48 = .ok (.iadd, 1) := by decide +kernel
theorem dX11_willKnow_49 : decode cX11_willKnow 49 = .ok (.baload, 1) := by decide +kernel
theorem dX11_willKnow_50 : decode cX11_willKnow 50 = .ok (.ifCond .eq 5, 3) := by decide +kernel
theorem dX11_willKnow_53 : decode cX11_willKnow 53 = .ok (.iload_n 2, 1) := by decide +kernel
theorem dX11_willKnow_54 : decode cX11_willKnow 54 = .ok (.ireturn, 1) := by decide +kernel
theorem dX11_willKnow_55 : decode cX11_willKnow 55 = .ok (.aload_n 0, 1) := by decide +kernel
theorem dX11_willKnow_56 : decode cX11_willKnow 56 = .ok (.iconst 1, 1) := by decide +kernel
theorem dX11_willKnow_57 : decode cX11_willKnow 57 = .ok (.iconst 0, 1) := by decide +kernel
theorem dX11_willKnow_58 : decode cX11_willKnow 58 = .ok (.invokevirtual 456, 3) := by decide +kernel
theorem dX11_willKnow_61 : decode cX11_willKnow 61 = .ok (.iinc 2 1, 3) := by decide +kernel
theorem dX11_willKnow_64 : decode cX11_willKnow 64 = .ok (.goto (-41), 3) := by decide +kernel
theorem dX11_willKnow_67 : decode cX11_willKnow 67 = .ok (.bipush (-2), 2) := by decide +kernel
theorem dX11_willKnow_69 : decode cX11_willKnow 69 = .ok (.ireturn, 1) := by decide +kernel
theorem dX11_parts_0 : decode cX11_parts 0 = .ok (.aload_n 0, 1) := by decide +kernel
theorem dX11_parts_1 : decode cX11_parts 1 = .ok (.iconst 0, 1) := by decide +kernel
theorem dX11_parts_2 : decode cX11_parts 2 = .ok (.putfield 128, 3) := by decide +kernel
theorem dX11_parts_5 : decode cX11_parts 5 = .ok (.aload_n 0, 1) := by decide +kernel
theorem dX11_parts_6 : decode cX11_parts 6 = .ok (.iconst 0, 1) := by decide +kernel
theorem dX11_parts_7 : decode cX11_parts 7 = .ok (.invokevirtual 428, 3) := by decide +kernel
theorem dX11_parts_10 : decode cX11_parts 10 = .ok (.iconst 0, 1) := by decide +kernel
theorem dX11_parts_11 : decode cX11_parts 11 = .ok (.istore_n 1, 1) := by decide +kernel
theorem dX11_parts_12 : decode cX11_parts 12 = .ok (.iconst 0, 1) := by decide +kernel
theorem dX11_parts_13 : decode cX11_parts 13 = .ok (.istore_n 2, 1) := by decide +kernel
theorem dX11_parts_14 : decode cX11_parts 14 = .ok (.iload_n 2, 1) := by decide +kernel
theorem dX11_parts_15 : decode cX11_parts 15 = .ok (.aload_n 0, 1) := by decide +kernel
theorem dX11_parts_16 : decode cX11_parts 16 = .ok (.getfield 335, 3) := by decide +kernel
theorem dX11_parts_19 : decode cX11_parts 19 = .ok (.if_icmp .ge 35, 3) := by decide +kernel
theorem dX11_parts_22 : decode cX11_parts 22 = .ok (.iload_n 1, 1) := by decide +kernel
theorem dX11_parts_23 : decode cX11_parts 23 = .ok (.aload_n 0, 1) := by decide +kernel
theorem dX11_parts_24 : decode cX11_parts 24 = .ok (.iload_n 2, 1) := by decide +kernel
theorem dX11_parts_25 : decode cX11_parts 25 = .ok (.invokevirtual 362, 3) := by decide +kernel
theorem dX11_parts_28 : decode cX11_parts 28 = .ok (.ifCond .eq 17, 3) := by decide +kernel
theorem dX11_parts_31 : decode cX11_parts 31 = .ok (.aload_n 0, 1) := by decide +kernel
theorem dX11_parts_32 : decode cX11_parts 32 = .ok (.getfield 106, 3) := by decide +kernel
theorem dX11_parts_35 : decode cX11_parts 35 = .ok (.iload_n 2, 1) := by decide +kernel
theorem dX11_parts_36 : decode cX11_parts 36 = .ok (.iaload, 1) := by decide +kernel
theorem dX11_parts_37 : decode cX11_parts 37 = .ok (.iload_n 2, 1) := by decide +kernel
theorem dX11_parts_38 : decode cX11_parts 38 = .ok (.if_icmp .ne 7, 3) := by decide +kernel
theorem dX11_parts_41 : decode cX11_parts 41 = .ok (.iconst 1, 1) := by decide +kernel
theorem dX11_parts_42 : decode cX11_parts 42 = .ok (.goto 4, 3) := by decide +kernel
theorem dX11_parts_45 : decode cX11_parts 45 = .ok (.iconst 0, 1) := by decide +kernel
theorem dX11_parts_46 : decode cX11_parts 46 = .ok (.iadd, 1) := by decide +kernel
theorem dX11_parts_47 : decode cX11_parts 47 = .ok (.istore_n 1, 1) := by decide +kernel
theorem dX11_parts_48 : decode cX11_parts 48 = .ok (.iinc 2 1, 3) := by decide +kernel
theorem dX11_parts_51 : decode cX11_parts 51 = .ok (.goto (-37), 3) := by decide +kernel
theorem dX11_parts_54 : decode cX11_parts 54 = .ok (.iload_n 1, 1) := by decide +kernel
theorem dX11_parts_55 : decode cX11_parts 55 = .ok (.ireturn, 1) := by decide +kernel
theorem dX11_rounds_0 : decode cX11_rounds 0 = .ok (.aload_n 0, 1) := by decide +kernel
theorem dX11_rounds_1 : decode cX11_rounds 1 = .ok (.iconst 0, 1) := by decide +kernel
theorem dX11_rounds_2 : decode cX11_rounds 2 = .ok (.putfield 128, 3) := by decide +kernel
theorem dX11_rounds_5 : decode cX11_rounds 5 = .ok (.iload_n 1, 1) := by decide +kernel
theorem dX11_rounds_6 : decode cX11_rounds 6 = .ok (.ifCond .lt 8, 3) := by decide +kernel
theorem dX11_rounds_9 : decode cX11_rounds 9 = .ok (.iload_n 1, 1) := by decide +kernel
theorem dX11_rounds_10 : decode cX11_rounds 10 = .ok (.iconst 2, 1) := by decide +kernel
theorem dX11_rounds_11 : decode cX11_rounds 11 = .ok (.if_icmp .le 5, 3) := by decide +kernel
theorem dX11_rounds_14 : decode cX11_rounds 14 = .ok (.iconst (-1), 1) := by decide +kernel
theorem dX11_rounds_15 : decode cX11_rounds 15 = .ok (.ireturn, 1) := by decide +kernel
theorem dX11_rounds_16 : decode cX11_rounds 16 = .ok (.aload_n 0, 1) := by decide +kernel
theorem dX11_rounds_17 : decode cX11_rounds 17 = .ok (.iconst 1, 1) := by decide +kernel
theorem dX11_rounds_18 : decode cX11_rounds 18 = .ok (.iconst 0, 1) := by decide +kernel
theorem dX11_rounds_19 : decode cX11_rounds 19 = .ok (.invokevirtual 476, 3) := by decide +kernel
theorem dX11_rounds_22 : decode cX11_rounds 22 = .ok (.aload_n 0, 1) := by decide +kernel
theorem dX11_rounds_23 : decode cX11_rounds 23 = .ok (.iconst 5, 1) := by decide +kernel
theorem dX11_rounds_24 : decode cX11_rounds 24 = .ok (.putfield 431, 3) := by decide +kernel
theorem dX11_rounds_27 : decode cX11_rounds 27 = .ok (.iconst 0, 1) := by decide +kernel
theorem dX11_rounds_28 : decode cX11_rounds 28 = .ok (.istore_n 2, 1) := by decide +kernel
theorem dX11_rounds_29 : decode cX11_rounds 29 = .ok (.aload_n 0, 1) := by decide +kernel
theorem dX11_rounds_30 : decode cX11_rounds 30 = .ok (.iconst 1, 1) := by decide +kernel
theorem dX11_rounds_31 : decode cX11_rounds 31 = .ok (.invokevirtual 401, 3) := by decide +kernel
theorem dX11_rounds_34 : decode cX11_rounds 34 = .ok (.istore_n 3, 1) := by decide +kernel
theorem dX11_rounds_35 : decode cX11_rounds 35 = .ok (.aload_n 0, 1) := by decide +kernel
theorem dX11_rounds_36 : decode cX11_rounds 36 = .ok (.iconst 1, 1) := by decide +kernel
theorem dX11_rounds_37 : decode cX11_rounds 37 = .ok (.iconst 0, 1) := by decide +kernel
theorem dX11_rounds_38 : decode cX11_rounds 38 = .ok (.invokevirtual 452, 3) := by decide +kernel
theorem dX11_rounds_41 : decode cX11_rounds 41 = .ok (.pop, 1) := by decide +kernel
theorem dX11_rounds_42 : decode cX11_rounds 42 = .ok (.aload_n 0, 1) := by decide +kernel
theorem dX11_rounds_43 : decode cX11_rounds 43 = .ok (.iconst 1, 1) := by decide +kernel
theorem dX11_rounds_44 : decode cX11_rounds 44 = .ok (.invokevirtual 401, 3) := by decide +kernel
theorem dX11_rounds_47 : decode cX11_rounds 47 = .ok (.iload_n 3, 1) := by decide +kernel
theorem dX11_rounds_48 : decode cX11_rounds 48 = .ok (.if_icmp .eq 22, 3) := by decide +kernel
theorem dX11_rounds_51 : decode cX11_rounds 51 = .ok (.iinc 2 1, 3) := by decide +kernel
theorem dX11_rounds_54 : decode cX11_rounds 54 = .ok (.aload_n 0, 1) := by decide +kernel
theorem dX11_rounds_55 : decode cX11_rounds 55 = .ok (.iconst 1, 1) := by decide +kernel
theorem dX11_rounds_56 : decode cX11_rounds 56 = .ok (.invokevirtual 401, 3) := by decide +kernel
theorem dX11_rounds_59 : decode cX11_rounds 59 = .ok (.istore_n 3, 1) := by decide +kernel
theorem dX11_rounds_60 : decode cX11_rounds 60 = .ok (.aload_n 0, 1) := by decide +kernel
theorem dX11_rounds_61 : decode cX11_rounds 61 = .ok (.iconst 1, 1) := by decide +kernel
theorem dX11_rounds_62 : decode cX11_rounds 62 = .ok (.iconst 0, 1) := by decide +kernel
theorem dX11_rounds_63 : decode cX11_rounds 63 = .ok (.invokevirtual 452, 3) := by decide +kernel
theorem dX11_rounds_66 : decode cX11_rounds 66 = .ok (.pop, 1) := by decide +kernel
theorem dX11_rounds_67 : decode cX11_rounds 67 = .ok (.goto (-25), 3) := by decide +kernel
theorem dX11_rounds_70 : decode cX11_rounds 70 = .ok (.aload_n 0, 1) := by decide +kernel
theorem dX11_rounds_71 : decode cX11_rounds 71 = .ok (.iconst 0, 1) := by decide +kernel
theorem dX11_rounds_72 : decode cX11_rounds 72 = .ok (.putfield 431, 3) := by decide +kernel
theorem dX11_rounds_75 : decode cX11_rounds 75 = .ok (.aload_n 0, 1) := by decide +kernel
theorem dX11_rounds_76 : decode cX11_rounds 76 = .ok (.iconst 1, 1) := by decide +kernel
theorem dX11_rounds_77 : decode cX11_rounds 77 = .ok (.invokevirtual 428, 3) := by decide +kernel
theorem dX11_rounds_80 : decode cX11_rounds 80 = .ok (.iload_n 1, 1) := by decide +kernel
theorem dX11_rounds_81 : decode cX11_rounds 81 = .ok (.ifCond .ne 7, 3) := by decide +kernel
theorem dX11_rounds_84 : decode cX11_rounds 84 = .ok (.iload_n 2, 1) := by decide +kernel
theorem dX11_rounds_85 : decode cX11_rounds 85 = .ok (.goto 16, 3) := by decide +kernel
theorem dX11_rounds_88 : decode cX11_rounds 88 = .ok (.iload_n 1, 1) := by decide +kernel
theorem dX11_rounds_89 : decode cX11_rounds 89 = .ok (.iconst 1, 1) := by decide +kernel
theorem dX11_rounds_90 : decode cX11_rounds 90 = .ok (.if_icmp .ne 10, 3) := by decide +kernel
theorem dX11_rounds_93 : decode cX11_rounds 93 = .ok (.aload_n 0, 1) := by decide +kernel
theorem dX11_rounds_94 : decode cX11_rounds 94 = .ok (.invokevirtual 407, 3) := by decide +kernel
theorem dX11_rounds_97 : decode cX11_rounds 97 = .ok (.goto 4, 3) := by decide +kernel
theorem dX11_rounds_100 : decode cX11_rounds 100 = .ok (.iload_n 3, 1) := by decide +kernel
theorem dX11_rounds_101 : decode cX11_rounds 101 = .ok (.ireturn, 1) := by decide +kernel
theorem dX11_wouldKnow_0 : decode cX11_wouldKnow 0 = .ok (.iconst 0, 1) := by decide +kernel
theorem dX11_wouldKnow_1 : decode cX11_wouldKnow 1 = .ok (.istore_n 3, 1) := by decide +kernel
theorem dX11_wouldKnow_2 : decode cX11_wouldKnow 2 = .ok (.iload_n 3, 1) := by decide +kernel
theorem dX11_wouldKnow_3 : decode cX11_wouldKnow 3 = .ok (.aload_n 0, 1) := by decide +kernel
theorem dX11_wouldKnow_4 : decode cX11_wouldKnow 4 = .ok (.getfield 335, 3) := by decide +kernel
theorem dX11_wouldKnow_7 : decode cX11_wouldKnow 7 = .ok (.if_icmp .ge 106, 3) := by decide +kernel
theorem dX11_wouldKnow_10 : decode cX11_wouldKnow 10 = .ok (.aload_n 0, 1) := by decide +kernel
theorem dX11_wouldKnow_11 : decode cX11_wouldKnow 11 = .ok (.iload_n 1, 1) := by decide +kernel
theorem dX11_wouldKnow_12 : decode cX11_wouldKnow 12 = .ok (.iload_n 3, 1) := by decide +kernel
theorem dX11_wouldKnow_13 : decode cX11_wouldKnow 13 = .ok (.invokevirtual 397, 3) := by decide +kernel
theorem dX11_wouldKnow_16 : decode cX11_wouldKnow 16 = .ok (.ifCond .eq 91, 3) := by decide +kernel
theorem dX11_wouldKnow_19 : decode cX11_wouldKnow 19 = .ok (.aload_n 0, 1) := by decide +kernel
theorem dX11_wouldKnow_20 : decode cX11_wouldKnow 20 = .ok (.getfield 72, 3) := by decide +kernel
theorem dX11_wouldKnow_23 : decode cX11_wouldKnow 23 = .ok (.bipush 6, 2) := by decide +kernel
theorem dX11_wouldKnow_25 : decode cX11_wouldKnow 25 = .ok (.iload_n 3, 1) := by decide +kernel
theorem dX11_wouldKnow_26 : decode cX11_wouldKnow 26 = .ok (.imul, 1) := by decide +kernel
theorem dX11_wouldKnow_27 : decode cX11_wouldKnow 27 = .ok (.iload_n 1, 1) := by decide +kernel
theorem dX11_wouldKnow_28 : decode cX11_wouldKnow 28 = .ok (.iadd, 1) := by decide +kernel
theorem dX11_wouldKnow_29 : decode cX11_wouldKnow 29 = .ok (.iaload, 1) := by decide +kernel
theorem dX11_wouldKnow_30 : decode cX11_wouldKnow 30 = .ok (.aload_n 0, 1) := by decide +kernel
theorem dX11_wouldKnow_31 : decode cX11_wouldKnow 31 = .ok (.getfield 25, 3) := by decide +kernel
theorem dX11_wouldKnow_34 : decode cX11_wouldKnow 34 = .ok (.iload_n 1, 1) := by decide +kernel
theorem dX11_wouldKnow_35 : decode cX11_wouldKnow 35 = .ok (.iaload, 1) := by decide +kernel
theorem dX11_wouldKnow_36 : decode cX11_wouldKnow 36 = .ok (.if_icmp .ne 6, 3) := by decide +kernel
theorem dX11_wouldKnow_39 : decode cX11_wouldKnow 39 = .ok (.goto 68, 3) := by decide +kernel
theorem dX11_wouldKnow_42 : decode cX11_wouldKnow 42 = .ok (.iconst 1, 1) := by decide +kernel
theorem dX11_wouldKnow_43 : decode cX11_wouldKnow 43 = .ok (.istore 4, 2) := by decide +kernel
theorem dX11_wouldKnow_45 : decode cX11_wouldKnow 45 = .ok (.iconst 0, 1) := by decide +kernel
theorem dX11_wouldKnow_46 : decode cX11_wouldKnow 46 = .ok (.istore 5, 2) := by decide +kernel
theorem dX11_wouldKnow_48 : decode cX11_wouldKnow 48 = .ok (.iload 5, 2) := by decide +kernel
theorem dX11_wouldKnow_50 : decode cX11_wouldKnow 50 = .ok (.aload_n 0, 1) := by decide +kernel
theorem dX11_wouldKnow_51 : decode cX11_wouldKnow 51 = .ok (.getfield 13, 3) := by decide +kernel
theorem dX11_wouldKnow_54 : decode cX11_wouldKnow 54 = .ok (.iconst 2, 1) := by decide +kernel
theorem dX11_wouldKnow_55 : decode cX11_wouldKnow 55 = .ok (.iaload, 1) := by decide +kernel
theorem dX11_wouldKnow_56 : decode cX11_wouldKnow 56 = .ok (.if_icmp .ge 44, 3) := by decide +kernel
theorem dX11_wouldKnow_59 : decode cX11_wouldKnow 59 = .ok (.iload 4, 2) := by decide +kernel
theorem dX11_wouldKnow_61 : decode cX11_wouldKnow 61 = .ok (.iload_n 2, 1) := by decide +kernel
theorem dX11_wouldKnow_62 : decode cX11_wouldKnow 62 = .ok (.iload 5, 2) := by decide +kernel
theorem dX11_wouldKnow_64 : decode cX11_wouldKnow 64 = .ok (.ishr, 1) := by decide +kernel
theorem dX11_wouldKnow_65 : decode cX11_wouldKnow 65 = .ok (.iconst 1, 1) := by decide +kernel
theorem dX11_wouldKnow_66 : decode cX11_wouldKnow 66 = .ok (.iand, 1) := by decide +kernel
theorem dX11_wouldKnow_67 : decode cX11_wouldKnow 67 = .ok (.ifCond .eq 19, 3) := by decide +kernel
theorem dX11_wouldKnow_70 : decode cX11_wouldKnow 70 = .ok (.aload_n 0, 1) := by decide +kernel
theorem dX11_wouldKnow_71 : decode cX11_wouldKnow 71 = .ok (.getfield 115, 3) := by decide +kernel
theorem dX11_wouldKnow_74 : decode cX11_wouldKnow 74 = .ok (.sipush 729, 3) := by decide +kernel
theorem dX11_wouldKnow_77 : decode cX11_wouldKnow 77 = .ok (.iload 5, 2) := by decide +kernel
theorem dX11_wouldKnow_79 : decode cX11_wouldKnow 79 = .ok (.imul, 1) := by decide +kernel
theorem dX11_wouldKnow_80 : decode cX11_wouldKnow 80 = .ok (.iload_n 3, 1) := by decide +kernel
theorem dX11_wouldKnow_81 : decode cX11_wouldKnow 81 = .ok (.iadd, 1) := by decide +kernel
theorem dX11_wouldKnow_82 : decode cX11_wouldKnow 82 = .ok (.baload, 1) := by decide +kernel
theorem dX11_wouldKnow_83 : decode cX11_wouldKnow 83 = .ok (.ifCond .eq 7, 3) := by decide +kernel
theorem dX11_wouldKnow_86 : decode cX11_wouldKnow 86 = .ok (.iconst 1, 1) := by decide +kernel
theorem dX11_wouldKnow_87 : decode cX11_wouldKnow 87 = .ok (.goto 4, 3) := by decide +kernel
theorem dX11_wouldKnow_90 : decode cX11_wouldKnow 90 = .ok (.iconst 0, 1) := by decide +kernel
theorem dX11_wouldKnow_91 : decode cX11_wouldKnow 91 = .ok (.iand, 1) := by decide +kernel
theorem dX11_wouldKnow_92 : decode cX11_wouldKnow 92 = .ok (.istore 4, 2) := by decide +kernel
theorem dX11_wouldKnow_94 : decode cX11_wouldKnow 94 = .ok (.iinc 5 1, 3) := by decide +kernel
theorem dX11_wouldKnow_97 : decode cX11_wouldKnow 97 = .ok (.goto (-49), 3) := by decide +kernel
theorem dX11_wouldKnow_100 : decode cX11_wouldKnow 100 = .ok (.iload 4, 2) := by decide +kernel
theorem dX11_wouldKnow_102 : decode cX11_wouldKnow 102 = .ok (.ifCond .eq 5, 3) := by decide +kernel
theorem dX11_wouldKnow_105 : decode cX11_wouldKnow 105 = .ok (.iconst 0, 1) := by decide +kernel
theorem dX11_wouldKnow_106 : decode cX11_wouldKnow 106 = .ok (.ireturn, 1) := by decide +kernel
theorem dX11_wouldKnow_107 : decode cX11_wouldKnow 107 = .ok (.iinc 3 1, 3) := by decide +kernel
theorem dX11_wouldKnow_110 : decode cX11_wouldKnow 110 = .ok (.goto (-108), 3) := by decide +kernel
theorem dX11_wouldKnow_113 : decode cX11_wouldKnow 113 = .ok (.iconst 1, 1) := by decide +kernel
theorem dX11_wouldKnow_114 : decode cX11_wouldKnow 114 = .ok (.ireturn, 1) := by decide +kernel
theorem dX11_areSo_0 : decode cX11_areSo 0 = .ok (.iconst 0, 1) := by decide +kernel
theorem dX11_areSo_1 : decode cX11_areSo 1 = .ok (.istore_n 2, 1) := by decide +kernel
theorem dX11_areSo_2 : decode cX11_areSo 2 = .ok (.iload_n 2, 1) := by decide +kernel
theorem dX11_areSo_3 : decode cX11_areSo 3 = .ok (.aload_n 0, 1) := by decide +kernel
theorem dX11_areSo_4 : decode cX11_areSo 4 = .ok (.getfield 13, 3) := by decide +kernel
theorem dX11_areSo_7 : decode cX11_areSo 7 = .ok (.iconst 2, 1) := by decide +kernel
theorem dX11_areSo_8 : decode cX11_areSo 8 = .ok (.iaload, 1) := by decide +kernel
theorem dX11_areSo_9 : decode cX11_areSo 9 = .ok (.if_icmp .ge 38, 3) := by decide +kernel
theorem dX11_areSo_12 : decode cX11_areSo 12 = .ok (.iload_n 1, 1) := by decide +kernel
theorem dX11_areSo_13 : decode cX11_areSo 13 = .ok (.iload_n 2, 1) := by decide +kernel
theorem dX11_areSo_14 : decode cX11_areSo 14 = .ok (.ishr, 1) := by decide +kernel
theorem dX11_areSo_15 : decode cX11_areSo 15 = .ok (.iconst 1, 1) := by decide +kernel
theorem dX11_areSo_16 : decode cX11_areSo 16 = .ok (.iand, 1) := by decide +kernel
theorem dX11_areSo_17 : decode cX11_areSo 17 = .ok (.iconst 1, 1) := by decide +kernel
theorem dX11_areSo_18 : decode cX11_areSo 18 = .ok (.if_icmp .ne 23, 3) := by decide +kernel
theorem dX11_areSo_21 : decode cX11_areSo 21 = .ok (.aload_n 0, 1) := by decide +kernel
theorem dX11_areSo_22 : decode cX11_areSo 22 = .ok (.getfield 115, 3) := by decide +kernel
theorem dX11_areSo_25 : decode cX11_areSo 25 = .ok (.sipush 729, 3) := by decide +kernel
theorem dX11_areSo_28 : decode cX11_areSo 28 = .ok (.iload_n 2, 1) := by decide +kernel
theorem dX11_areSo_29 : decode cX11_areSo 29 = .ok (.imul, 1) := by decide +kernel
theorem dX11_areSo_30 : decode cX11_areSo 30 = .ok (.aload_n 0, 1) := by decide +kernel
theorem dX11_areSo_31 : decode cX11_areSo 31 = .ok (.getfield 338, 3) := by decide +kernel
theorem dX11_areSo_34 : decode cX11_areSo 34 = .ok (.iadd, 1) := by decide +kernel
theorem dX11_areSo_35 : decode cX11_areSo 35 = .ok (.baload, 1) := by decide +kernel
theorem dX11_areSo_36 : decode cX11_areSo 36 = .ok (.ifCond .ne 5, 3) := by decide +kernel
theorem dX11_areSo_39 : decode cX11_areSo 39 = .ok (.iconst 0, 1) := by decide +kernel
theorem dX11_areSo_40 : decode cX11_areSo 40 = .ok (.ireturn, 1) := by decide +kernel
theorem dX11_areSo_41 : decode cX11_areSo 41 = .ok (.iinc 2 1, 3) := by decide +kernel
theorem dX11_areSo_44 : decode cX11_areSo 44 = .ok (.goto (-42), 3) := by decide +kernel
theorem dX11_areSo_47 : decode cX11_areSo 47 = .ok (.iconst 1, 1) := by decide +kernel
theorem dX11_areSo_48 : decode cX11_areSo 48 = .ok (.ireturn, 1) := by decide +kernel
theorem dX11_taught_0 : decode cX11_taught 0 = .ok (.aload_n 0, 1) := by decide +kernel
theorem dX11_taught_1 : decode cX11_taught 1 = .ok (.iconst 0, 1) := by decide +kernel
theorem dX11_taught_2 : decode cX11_taught 2 = .ok (.invokevirtual 428, 3) := by decide +kernel
theorem dX11_taught_5 : decode cX11_taught 5 = .ok (.bipush (-2), 2) := by decide +kernel
theorem dX11_taught_7 : decode cX11_taught 7 = .ok (.istore_n 2, 1) := by decide +kernel
theorem dX11_taught_8 : decode cX11_taught 8 = .ok (.iconst 0, 1) := by decide +kernel
theorem dX11_taught_9 : decode cX11_taught 9 = .ok (.istore_n 3, 1) := by decide +kernel
theorem dX11_taught_10 : decode cX11_taught 10 = .ok (.iload_n 3, 1) := by decide +kernel
theorem dX11_taught_11 : decode cX11_taught 11 = .ok (.iconst 1, 1) := by decide +kernel
theorem dX11_taught_12 : decode cX11_taught 12 = .ok (.aload_n 0, 1) := by decide +kernel
theorem dX11_taught_13 : decode cX11_taught 13 = .ok (.getfield 13, 3) := by decide +kernel
theorem dX11_taught_16 : decode cX11_taught 16 = .ok (.iconst 2, 1) := by decide +kernel
theorem dX11_taught_17 : decode cX11_taught 17 = .ok (.iaload, 1) := by decide +kernel
theorem dX11_taught_18 : decode cX11_taught 18 = .ok (.ishl, 1) := by decide +kernel
theorem dX11_taught_19 : decode cX11_taught 19 = .ok (.if_icmp .ge 94, 3) := by decide +kernel
theorem dX11_taught_22 : decode cX11_taught 22 = .ok (.aload_n 0, 1) := by decide +kernel
theorem dX11_taught_23 : decode cX11_taught 23 = .ok (.iload_n 3, 1) := by decide +kernel
theorem dX11_taught_24 : decode cX11_taught 24 = .ok (.invokevirtual 485, 3) := by decide +kernel
theorem dX11_taught_27 : decode cX11_taught 27 = .ok (.ifCond .eq 80, 3) := by decide +kernel
theorem dX11_taught_30 : decode cX11_taught 30 = .ok (.iload_n 2, 1) := by decide +kernel
theorem dX11_taught_31 : decode cX11_taught 31 = .ok (.ifCond .lt 17, 3) := by decide +kernel
theorem dX11_taught_34 : decode cX11_taught 34 = .ok (.iload_n 3, 1) := by decide +kernel
theorem dX11_taught_35 : decode cX11_taught 35 = .ok (.invokestatic 404, 3) := by decide +kernel
theorem dX11_taught_38 : decode cX11_taught 38 = .ok (.iload_n 2, 1) := by decide +kernel
theorem dX11_taught_39 : decode cX11_taught 39 = .ok (.invokestatic 404, 3) := by decide +kernel
theorem dX11_taught_42 : decode cX11_taught 42 = .ok (.if_icmp .lt 6, 3) := by decide +kernel
theorem dX11_taught_45 : decode cX11_taught 45 = .ok (.goto 62, 3) := by decide +kernel
theorem dX11_taught_48 : decode cX11_taught 48 = .ok (.iconst 1, 1) := by decide +kernel
theorem dX11_taught_49 : decode cX11_taught 49 = .ok (.istore 4, 2) := by decide +kernel
theorem dX11_taught_51 : decode cX11_taught 51 = .ok (.iconst 0, 1) := by decide +kernel
theorem dX11_taught_52 : decode cX11_taught 52 = .ok (.istore 5, 2) := by decide +kernel
theorem dX11_taught_54 : decode cX11_taught 54 = .ok (.iload 5, 2) := by decide +kernel
theorem dX11_taught_56 : decode cX11_taught 56 = .ok (.aload_n 0, 1) := by decide +kernel
theorem dX11_taught_57 : decode cX11_taught 57 = .ok (.getfield 13, 3) := by decide +kernel
theorem dX11_taught_60 : decode cX11_taught 60 = .ok (.iconst 1, 1) := by decide +kernel
theorem dX11_taught_61 : decode cX11_taught 61 = .ok (.iaload, 1) := by decide +kernel
theorem dX11_taught_62 : decode cX11_taught 62 = .ok (.if_icmp .ge 38, 3) := by decide +kernel
theorem dX11_taught_65 : decode cX11_taught 65 = .ok (.iload 4, 2) := by decide +kernel
theorem dX11_taught_67 : decode cX11_taught 67 = .ok (.iload_n 1, 1) := by decide +kernel
theorem dX11_taught_68 : decode cX11_taught 68 = .ok (.iload 5, 2) := by decide +kernel
theorem dX11_taught_70 : decode cX11_taught 70 = .ok (.ishr, 1) := by decide +kernel
theorem dX11_taught_71 : decode cX11_taught 71 = .ok (.iconst 1, 1) := by decide +kernel
theorem dX11_taught_72 : decode cX11_taught 72 = .ok (.iand, 1) := by decide +kernel
theorem dX11_taught_73 : decode cX11_taught 73 = .ok (.ifCond .eq 13, 3) := by decide +kernel
theorem dX11_taught_76 : decode cX11_taught 76 = .ok (.aload_n 0, 1) := by decide +kernel
theorem dX11_taught_77 : decode cX11_taught 77 = .ok (.iload 5, 2) := by decide +kernel
theorem dX11_taught_79 : decode cX11_taught 79 = .ok (.iload_n 3, 1) := by decide +kernel
theorem dX11_taught_80 : decode cX11_taught 80 = .ok (.invokevirtual 488, 3) := by decide +kernel
theorem dX11_taught_83 : decode cX11_taught 83 = .ok (.ifCond .eq 7, 3) := by decide +kernel
theorem dX11_taught_86 : decode cX11_taught 86 = .ok (.iconst 1, 1) := by decide +kernel
theorem dX11_taught_87 : decode cX11_taught 87 = .ok (.goto 4, 3) := by decide +kernel
theorem dX11_taught_90 : decode cX11_taught 90 = .ok (.iconst 0, 1) := by decide +kernel
theorem dX11_taught_91 : decode cX11_taught 91 = .ok (.iand, 1) := by decide +kernel
theorem dX11_taught_92 : decode cX11_taught 92 = .ok (.istore 4, 2) := by decide +kernel
theorem dX11_taught_94 : decode cX11_taught 94 = .ok (.iinc 5 1, 3) := by decide +kernel
theorem dX11_taught_97 : decode cX11_taught 97 = .ok (.goto (-43), 3) := by decide +kernel
theorem dX11_taught_100 : decode cX11_taught 100 = .ok (.iload 4, 2) := by decide +kernel
theorem dX11_taught_102 : decode cX11_taught 102 = .ok (.ifCond .eq 5, 3) := by decide +kernel
theorem dX11_taught_105 : decode cX11_taught 105 = .ok (.iload_n 3, 1) := by decide +kernel
theorem dX11_taught_106 : decode cX11_taught 106 = .ok (.istore_n 2, 1) := by decide +kernel
theorem dX11_taught_107 : decode cX11_taught 107 = .ok (.iinc 3 1, 3) := by decide +kernel
theorem dX11_taught_110 : decode cX11_taught 110 = .ok (.goto (-100), 3) := by decide +kernel
theorem dX11_taught_113 : decode cX11_taught 113 = .ok (.iload_n 2, 1) := by decide +kernel
theorem dX11_taught_114 : decode cX11_taught 114 = .ok (.ireturn, 1) := by decide +kernel
theorem dX11_teach_0 : decode cX11_teach 0 = .ok (.aload_n 0, 1) := by decide +kernel
theorem dX11_teach_1 : decode cX11_teach 1 = .ok (.iconst 0, 1) := by decide +kernel
theorem dX11_teach_2 : decode cX11_teach 2 = .ok (.putfield 128, 3) := by decide +kernel
theorem dX11_teach_5 : decode cX11_teach 5 = .ok (.aload_n 0, 1) := by decide +kernel
theorem dX11_teach_6 : decode cX11_teach 6 = .ok (.iload_n 1, 1) := by decide +kernel
theorem dX11_teach_7 : decode cX11_teach 7 = .ok (.invokevirtual 460, 3) := by decide +kernel
theorem dX11_teach_10 : decode cX11_teach 10 = .ok (.ifCond .eq 13, 3) := by decide +kernel
theorem dX11_teach_13 : decode cX11_teach 13 = .ok (.aload_n 0, 1) := by decide +kernel
theorem dX11_teach_14 : decode cX11_teach 14 = .ok (.iconst 1, 1) := by decide +kernel
theorem dX11_teach_15 : decode cX11_teach 15 = .ok (.iload_n 1, 1) := by decide +kernel
theorem dX11_teach_16 : decode cX11_teach 16 = .ok (.ishl, 1) := by decide +kernel
theorem dX11_teach_17 : decode cX11_teach 17 = .ok (.invokevirtual 491, 3) := by decide +kernel
theorem dX11_teach_20 : decode cX11_teach 20 = .ok (.goto 4, 3) := by decide +kernel
theorem dX11_teach_23 : decode cX11_teach 23 = .ok (.iconst (-1), 1) := by decide +kernel
theorem dX11_teach_24 : decode cX11_teach 24 = .ok (.ireturn, 1) := by decide +kernel
theorem dX11_teachAll_0 : decode cX11_teachAll 0 = .ok (.aload_n 0, 1) := by decide +kernel
theorem dX11_teachAll_1 : decode cX11_teachAll 1 = .ok (.iconst 0, 1) := by decide +kernel
theorem dX11_teachAll_2 : decode cX11_teachAll 2 = .ok (.putfield 128, 3) := by decide +kernel
theorem dX11_teachAll_5 : decode cX11_teachAll 5 = .ok (.aload_n 0, 1) := by decide +kernel
theorem dX11_teachAll_6 : decode cX11_teachAll 6 = .ok (.iconst 1, 1) := by decide +kernel
theorem dX11_teachAll_7 : decode cX11_teachAll 7 = .ok (.aload_n 0, 1) := by decide +kernel
theorem dX11_teachAll_8 : decode cX11_teachAll 8 = .ok (.getfield 13, 3) := by decide +kernel
theorem dX11_teachAll_11 : decode cX11_teachAll 11 = .ok (.iconst 1, 1) := by decide +kernel
theorem dX11_teachAll_12 : decode cX11_teachAll 12 = .ok (.iaload, 1) := by decide +kernel
theorem dX11_teachAll_13 : decode cX11_teachAll 13 = .ok (.ishl, 1) := by decide +kernel
theorem dX11_teachAll_14 : decode cX11_teachAll 14 = .ok (.iconst 1, 1) := by decide +kernel
theorem dX11_teachAll_15 : decode cX11_teachAll 15 = .ok (.isub, 1) := by decide +kernel
theorem dX11_teachAll_16 : decode cX11_teachAll 16 = .ok (.invokevirtual 491, 3) := by decide +kernel
theorem dX11_teachAll_19 : decode cX11_teachAll 19 = .ok (.ireturn, 1) := by decide +kernel
theorem dX11_manyBy_0 : decode cX11_manyBy 0 = .ok (.iconst 0, 1) := by decide +kernel
theorem dX11_manyBy_1 : decode cX11_manyBy 1 = .ok (.istore 4, 2) := by decide +kernel
theorem dX11_manyBy_3 : decode cX11_manyBy 3 = .ok (.iconst 0, 1) := by decide +kernel
theorem dX11_manyBy_4 : decode cX11_manyBy 4 = .ok (.istore 5, 2) := by decide +kernel
theorem dX11_manyBy_6 : decode cX11_manyBy 6 = .ok (.iload 5, 2) := by decide +kernel
theorem dX11_manyBy_8 : decode cX11_manyBy 8 = .ok (.aload_n 0, 1) := by decide +kernel
theorem dX11_manyBy_9 : decode cX11_manyBy 9 = .ok (.getfield 335, 3) := by decide +kernel
theorem dX11_manyBy_12 : decode cX11_manyBy 12 = .ok (.if_icmp .ge 45, 3) := by decide +kernel
theorem dX11_manyBy_15 : decode cX11_manyBy 15 = .ok (.iload 4, 2) := by decide +kernel
theorem dX11_manyBy_17 : decode cX11_manyBy 17 = .ok (.aload_n 0, 1) := by decide +kernel
theorem dX11_manyBy_18 : decode cX11_manyBy 18 = .ok (.iload_n 1, 1) := by decide +kernel
theorem dX11_manyBy_19 : decode cX11_manyBy 19 = .ok (.iload 5, 2) := by decide +kernel
theorem dX11_manyBy_21 : decode cX11_manyBy 21 = .ok (.invokevirtual 397, 3) := by decide +kernel
theorem dX11_manyBy_24 : decode cX11_manyBy 24 = .ok (.ifCond .eq 23, 3) := by decide +kernel
theorem dX11_manyBy_27 : decode cX11_manyBy 27 = .ok (.aload_n 0, 1) := by decide +kernel
theorem dX11_manyBy_28 : decode cX11_manyBy 28 = .ok (.getfield 72, 3) := by decide +kernel
theorem dX11_manyBy_31 : decode cX11_manyBy 31 = .ok (.bipush 6, 2) := by decide +kernel
theorem dX11_manyBy_33 : decode cX11_manyBy 33 = .ok (.iload 5, 2) := by decide +kernel
theorem dX11_manyBy_35 : decode cX11_manyBy 35 = .ok (.imul, 1) := by decide +kernel
theorem dX11_manyBy_36 : decode cX11_manyBy 36 = .ok (.iload_n 2, 1) := by decide +kernel
theorem dX11_manyBy_37 : decode cX11_manyBy 37 = .ok (.iadd, 1) := by decide +kernel
theorem dX11_manyBy_38 : decode cX11_manyBy 38 = .ok (.iaload, 1) := by decide +kernel
theorem dX11_manyBy_39 : decode cX11_manyBy 39 = .ok (.iload_n 3, 1) := by decide +kernel
theorem dX11_manyBy_40 : decode cX11_manyBy 40 = .ok (.if_icmp .ne 7, 3) := by decide +kernel
theorem dX11_manyBy_43 : decode cX11_manyBy 43 = .ok (.iconst 1, 1) := by decide +kernel
theorem dX11_manyBy_44 : decode cX11_manyBy 44 = .ok (.goto 4, 3) := by decide +kernel
theorem dX11_manyBy_47 : decode cX11_manyBy 47 = .ok (.iconst 0, 1) := by decide +kernel
theorem dX11_manyBy_48 : decode cX11_manyBy 48 = .ok (.iadd, 1) := by decide +kernel
theorem dX11_manyBy_49 : decode cX11_manyBy 49 = .ok (.istore 4, 2) := by decide +kernel
theorem dX11_manyBy_51 : decode cX11_manyBy 51 = .ok (.iinc 5 1, 3) := by decide +kernel
theorem dX11_manyBy_54 : decode cX11_manyBy 54 = .ok (.goto (-48), 3) := by decide +kernel
theorem dX11_manyBy_57 : decode cX11_manyBy 57 = .ok (.iload 4, 2) := by decide +kernel
theorem dX11_manyBy_59 : decode cX11_manyBy 59 = .ok (.ireturn, 1) := by decide +kernel
theorem dX11_worstBy_0 : decode cX11_worstBy 0 = .ok (.iconst 0, 1) := by decide +kernel
theorem dX11_worstBy_1 : decode cX11_worstBy 1 = .ok (.istore_n 3, 1) := by decide +kernel
theorem dX11_worstBy_2 : decode cX11_worstBy 2 = .ok (.iconst 0, 1) := by decide +kernel
theorem dX11_worstBy_3 : decode cX11_worstBy 3 = .ok (.istore 4, 2) := by decide +kernel
theorem dX11_worstBy_5 : decode cX11_worstBy 5 = .ok (.iload 4, 2) := by decide +kernel
theorem dX11_worstBy_7 : decode cX11_worstBy 7 = .ok (.aload_n 0, 1) := by decide +kernel
theorem dX11_worstBy_8 : decode cX11_worstBy 8 = .ok (.getfield 13, 3) := by decide +kernel
theorem dX11_worstBy_11 : decode cX11_worstBy 11 = .ok (.iconst 0, 1) := by decide +kernel
theorem dX11_worstBy_12 : decode cX11_worstBy 12 = .ok (.iaload, 1) := by decide +kernel
theorem dX11_worstBy_13 : decode cX11_worstBy 13 = .ok (.if_icmp .ge 22, 3) := by decide +kernel
theorem dX11_worstBy_16 : decode cX11_worstBy 16 = .ok (.iload_n 3, 1) := by decide +kernel
theorem dX11_worstBy_17 : decode cX11_worstBy 17 = .ok (.aload_n 0, 1) := by decide +kernel
theorem dX11_worstBy_18 : decode cX11_worstBy 18 = .ok (.iload_n 1, 1) := by decide +kernel
theorem dX11_worstBy_19 : decode cX11_worstBy 19 = .ok (.iload_n 2, 1) := by decide +kernel
theorem dX11_worstBy_20 : decode cX11_worstBy 20 = .ok (.iload 4, 2) := by decide +kernel
theorem dX11_worstBy_22 : decode cX11_worstBy 22 = .ok (.invokevirtual 494, 3) := by decide +kernel
theorem dX11_worstBy_25 : decode cX11_worstBy 25 = .ok (.invokestatic 498, 3) := by decide +kernel
theorem dX11_worstBy_28 : decode cX11_worstBy 28 = .ok (.istore_n 3, 1) := by decide +kernel
theorem dX11_worstBy_29 : decode cX11_worstBy 29 = .ok (.iinc 4 1, 3) := by decide +kernel
theorem dX11_worstBy_32 : decode cX11_worstBy 32 = .ok (.goto (-27), 3) := by decide +kernel
theorem dX11_worstBy_35 : decode cX11_worstBy 35 = .ok (.iload_n 3, 1) := by decide +kernel
theorem dX11_worstBy_36 : decode cX11_worstBy 36 = .ok (.ireturn, 1) := by decide +kernel
theorem dX11_look_0 : decode cX11_look 0 = .ok (.aload_n 0, 1) := by decide +kernel
theorem dX11_look_1 : decode cX11_look 1 = .ok (.iconst 0, 1) := by decide +kernel
theorem dX11_look_2 : decode cX11_look 2 = .ok (.putfield 128, 3) := by decide +kernel
theorem dX11_look_5 : decode cX11_look 5 = .ok (.aload_n 0, 1) := by decide +kernel
theorem dX11_look_6 : decode cX11_look 6 = .ok (.iload_n 1, 1) := by decide +kernel
theorem dX11_look_7 : decode cX11_look 7 = .ok (.invokevirtual 460, 3) := by decide +kernel
theorem dX11_look_10 : decode cX11_look 10 = .ok (.ifCond .eq 12, 3) := by decide +kernel
theorem dX11_look_13 : decode cX11_look 13 = .ok (.iload_n 2, 1) := by decide +kernel
theorem dX11_look_14 : decode cX11_look 14 = .ok (.ifCond .lt 8, 3) := by decide +kernel
theorem dX11_look_17 : decode cX11_look 17 = .ok (.iload_n 2, 1) := by decide +kernel
theorem dX11_look_18 : decode cX11_look 18 = .ok (.iconst 1, 1) := by decide +kernel
theorem dX11_look_19 : decode cX11_look 19 = .ok (.if_icmp .le 5, 3) := by decide +kernel
theorem dX11_look_22 : decode cX11_look 22 = .ok (.iconst (-1), 1) := by decide +kernel
theorem dX11_look_23 : decode cX11_look 23 = .ok (.ireturn, 1) := by decide +kernel
theorem dX11_look_24 : decode cX11_look 24 = .ok (.aload_n 0, 1) := by decide +kernel
theorem dX11_look_25 : decode cX11_look 25 = .ok (.iconst 0, 1) := by decide +kernel
theorem dX11_look_26 : decode cX11_look 26 = .ok (.invokevirtual 428, 3) := by decide +kernel
theorem dX11_look_29 : decode cX11_look 29 = .ok (.bipush (-2), 2) := by decide +kernel
theorem dX11_look_31 : decode cX11_look 31 = .ok (.istore_n 3, 1) := by decide +kernel
theorem dX11_look_32 : decode cX11_look 32 = .ok (.iconst 0, 1) := by decide +kernel
theorem dX11_look_33 : decode cX11_look 33 = .ok (.istore 4, 2) := by decide +kernel
theorem dX11_look_35 : decode cX11_look 35 = .ok (.iload 4, 2) := by decide +kernel
theorem dX11_look_37 : decode cX11_look 37 = .ok (.aload_n 0, 1) := by decide +kernel
theorem dX11_look_38 : decode cX11_look 38 = .ok (.getfield 13, 3) := by decide +kernel
theorem dX11_look_41 : decode cX11_look 41 = .ok (.iconst 1, 1) := by decide +kernel
theorem dX11_look_42 : decode cX11_look 42 = .ok (.iaload, 1) := by decide +kernel
theorem dX11_look_43 : decode cX11_look 43 = .ok (.if_icmp .ge 56, 3) := by decide +kernel
theorem dX11_look_46 : decode cX11_look 46 = .ok (.iload 4, 2) := by decide +kernel
theorem dX11_look_48 : decode cX11_look 48 = .ok (.iload_n 1, 1) := by decide +kernel
theorem dX11_look_49 : decode cX11_look 49 = .ok (.if_icmp .eq 44, 3) := by decide +kernel
theorem dX11_look_52 : decode cX11_look 52 = .ok (.aload_n 0, 1) := by decide +kernel
theorem dX11_look_53 : decode cX11_look 53 = .ok (.getfield 90, 3) := by decide +kernel
theorem dX11_look_56 : decode cX11_look 56 = .ok (.iload_n 1, 1) := by decide +kernel
theorem dX11_look_57 : decode cX11_look 57 = .ok (.iaload, 1) := by decide +kernel
theorem dX11_look_58 : decode cX11_look 58 = .ok (.iload 4, 2) := by decide +kernel
theorem dX11_look_60 : decode cX11_look 60 = .ok (.ishr, 1) := by decide +kernel
theorem dX11_look_61 : decode cX11_look 61 = .ok (.iconst 1, 1) := by decide +kernel
theorem dX11_look_62 : decode cX11_look 62 = .ok (.iand, 1) := by decide +kernel
theorem dX11_look_63 : decode cX11_look 63 = .ok (.iconst 1, 1) := by decide +kernel
theorem dX11_look_64 : decode cX11_look 64 = .ok (.if_icmp .ne 6, 3) := by decide +kernel
theorem dX11_look_67 : decode cX11_look 67 = .ok (.goto 26, 3) := by decide +kernel
theorem dX11_look_70 : decode cX11_look 70 = .ok (.iload_n 3, 1) := by decide +kernel
theorem dX11_look_71 : decode cX11_look 71 = .ok (.ifCond .lt 19, 3) := by decide +kernel
theorem dX11_look_74 : decode cX11_look 74 = .ok (.aload_n 0, 1) := by decide +kernel
theorem dX11_look_75 : decode cX11_look 75 = .ok (.iload_n 1, 1) := by decide +kernel
theorem dX11_look_76 : decode cX11_look 76 = .ok (.iload 4, 2) := by decide +kernel
theorem dX11_look_78 : decode cX11_look 78 = .ok (.invokevirtual 500, 3) := by decide +kernel
theorem dX11_look_81 : decode cX11_look 81 = .ok (.aload_n 0, 1) := by decide +kernel
theorem dX11_look_82 : decode cX11_look 82 = .ok (.iload_n 1, 1) := by decide +kernel
theorem dX11_look_83 : decode cX11_look 83 = .ok (.iload_n 3, 1) := by decide +kernel
theorem dX11_look_84 : decode cX11_look 84 = .ok (.invokevirtual 500, 3) := by decide +kernel
theorem dX11_look_87 : decode cX11_look 87 = .ok (.if_icmp .ge 6, 3) := by decide +kernel
theorem dX11_look_90 : decode cX11_look 90 = .ok (.iload 4, 2) := by decide +kernel
theorem dX11_look_92 : decode cX11_look 92 = .ok (.istore_n 3, 1) := by decide +kernel
theorem dX11_look_93 : decode cX11_look 93 = .ok (.iinc 4 1, 3) := by decide +kernel
theorem dX11_look_96 : decode cX11_look 96 = .ok (.goto (-61), 3) := by decide +kernel
theorem dX11_look_99 : decode cX11_look 99 = .ok (.iload_n 3, 1) := by decide +kernel
theorem dX11_look_100 : decode cX11_look 100 = .ok (.ifCond .lt 7, 3) := by decide +kernel
theorem dX11_look_103 : decode cX11_look 103 = .ok (.iload_n 2, 1) := by decide +kernel
theorem dX11_look_104 : decode cX11_look 104 = .ok (.ifCond .ne 7, 3) := by decide +kernel
theorem dX11_look_107 : decode cX11_look 107 = .ok (.iload_n 3, 1) := by decide +kernel
theorem dX11_look_108 : decode cX11_look 108 = .ok (.goto 9, 3) := by decide +kernel
theorem dX11_look_111 : decode cX11_look 111 = .ok (.aload_n 0, 1) := by decide +kernel
theorem dX11_look_112 : decode cX11_look 112 = .ok (.iload_n 1, 1) := by decide +kernel
theorem dX11_look_113 : decode cX11_look 113 = .ok (.iload_n 3, 1) := by decide +kernel
theorem dX11_look_114 : decode cX11_look 114 = .ok (.invokevirtual 500, 3) := by decide +kernel
theorem dX11_look_117 : decode cX11_look 117 = .ok (.ireturn, 1) := by decide +kernel
theorem dX11_shared_0 : decode cX11_shared 0 = .ok (.iload_n 0, 1) := by decide +kernel
theorem dX11_shared_1 : decode cX11_shared 1 = .ok (.istore_n 2, 1) := by decide +kernel
theorem dX11_shared_2 : decode cX11_shared 2 = .ok (.iload_n 1, 1) := by decide +kernel
theorem dX11_shared_3 : decode cX11_shared 3 = .ok (.istore_n 3, 1) := by decide +kernel
theorem dX11_shared_4 : decode cX11_shared 4 = .ok (.iload_n 3, 1) := by decide +kernel
theorem dX11_shared_5 : decode cX11_shared 5 = .ok (.ifCond .eq 16, 3) := by decide +kernel
theorem dX11_shared_8 : decode cX11_shared 8 = .ok (.iload_n 2, 1) := by decide +kernel
theorem dX11_shared_9 : decode cX11_shared 9 = .ok (.iload_n 3, 1) := by decide +kernel
theorem dX11_shared_10 : decode cX11_shared 10 = .ok (.irem, 1) := by decide +kernel
theorem dX11_shared_11 : decode cX11_shared 11 = .ok (.istore 4, 2) := by decide +kernel
theorem dX11_shared_13 : decode cX11_shared 13 = .ok (.iload_n 3, 1) := by decide +kernel
theorem dX11_shared_14 : decode cX11_shared 14 = .ok (.istore_n 2, 1) := by decide +kernel
theorem dX11_shared_15 : decode cX11_shared 15 = .ok (.iload 4, 2) := by decide +kernel
theorem dX11_shared_17 : decode cX11_shared 17 = .ok (.istore_n 3, 1) := by decide +kernel
theorem dX11_shared_18 : decode cX11_shared 18 = .ok (.goto (-14), 3) := by decide +kernel
theorem dX11_shared_21 : decode cX11_shared 21 = .ok (.iload_n 2, 1) := by decide +kernel
theorem dX11_shared_22 : decode cX11_shared 22 = .ok (.ireturn, 1) := by decide +kernel
theorem dX11_guess_0 : decode cX11_guess 0 = .ok (.aload_n 0, 1) := by decide +kernel
theorem dX11_guess_1 : decode cX11_guess 1 = .ok (.iconst 0, 1) := by decide +kernel
theorem dX11_guess_2 : decode cX11_guess 2 = .ok (.putfield 128, 3) := by decide +kernel
theorem dX11_guess_5 : decode cX11_guess 5 = .ok (.aload_n 0, 1) := by decide +kernel
theorem dX11_guess_6 : decode cX11_guess 6 = .ok (.iload_n 1, 1) := by decide +kernel
theorem dX11_guess_7 : decode cX11_guess 7 = .ok (.invokevirtual 460, 3) := by decide +kernel
theorem dX11_guess_10 : decode cX11_guess 10 = .ok (.ifCond .eq 12, 3) := by decide +kernel
theorem dX11_guess_13 : decode cX11_guess 13 = .ok (.iload_n 2, 1) := by decide +kernel
theorem dX11_guess_14 : decode cX11_guess 14 = .ok (.ifCond .lt 8, 3) := by decide +kernel
theorem dX11_guess_17 : decode cX11_guess 17 = .ok (.iload_n 2, 1) := by decide +kernel
theorem dX11_guess_18 : decode cX11_guess 18 = .ok (.iconst 2, 1) := by decide +kernel
theorem dX11_guess_19 : decode cX11_guess 19 = .ok (.if_icmp .le 5, 3) := by decide +kernel
theorem dX11_guess_22 : decode cX11_guess 22 = .ok (.iconst (-1), 1) := by decide +kernel
theorem dX11_guess_23 : decode cX11_guess 23 = .ok (.ireturn, 1) := by decide +kernel
theorem dX11_guess_24 : decode cX11_guess 24 = .ok (.aload_n 0, 1) := by decide +kernel
theorem dX11_guess_25 : decode cX11_guess 25 = .ok (.iconst 0, 1) := by decide +kernel
theorem dX11_guess_26 : decode cX11_guess 26 = .ok (.invokevirtual 428, 3) := by decide +kernel
theorem dX11_guess_29 : decode cX11_guess 29 = .ok (.iconst 0, 1) := by decide +kernel
theorem dX11_guess_30 : decode cX11_guess 30 = .ok (.istore_n 3, 1) := by decide +kernel
theorem dX11_guess_31 : decode cX11_guess 31 = .ok (.iconst 1, 1) := by decide +kernel
theorem dX11_guess_32 : decode cX11_guess 32 = .ok (.istore 4, 2) := by decide +kernel
theorem dX11_guess_34 : decode cX11_guess 34 = .ok (.iload 4, 2) := by decide +kernel
theorem dX11_guess_36 : decode cX11_guess 36 = .ok (.aload_n 0, 1) := by decide +kernel
theorem dX11_guess_37 : decode cX11_guess 37 = .ok (.getfield 13, 3) := by decide +kernel
theorem dX11_guess_40 : decode cX11_guess 40 = .ok (.iconst 0, 1) := by decide +kernel
theorem dX11_guess_41 : decode cX11_guess 41 = .ok (.iaload, 1) := by decide +kernel
theorem dX11_guess_42 : decode cX11_guess 42 = .ok (.if_icmp .ge 30, 3) := by decide +kernel
theorem dX11_guess_45 : decode cX11_guess 45 = .ok (.aload_n 0, 1) := by decide +kernel
theorem dX11_guess_46 : decode cX11_guess 46 = .ok (.iload_n 1, 1) := by decide +kernel
theorem dX11_guess_47 : decode cX11_guess 47 = .ok (.iload_n 1, 1) := by decide +kernel
theorem dX11_guess_48 : decode cX11_guess 48 = .ok (.iload 4, 2) := by decide +kernel
theorem dX11_guess_50 : decode cX11_guess 50 = .ok (.invokevirtual 494, 3) := by decide +kernel
theorem dX11_guess_53 : decode cX11_guess 53 = .ok (.aload_n 0, 1) := by decide +kernel
theorem dX11_guess_54 : decode cX11_guess 54 = .ok (.iload_n 1, 1) := by decide +kernel
theorem dX11_guess_55 : decode cX11_guess 55 = .ok (.iload_n 1, 1) := by decide +kernel
theorem dX11_guess_56 : decode cX11_guess 56 = .ok (.iload_n 3, 1) := by decide +kernel
theorem dX11_guess_57 : decode cX11_guess 57 = .ok (.invokevirtual 494, 3) := by decide +kernel
theorem dX11_guess_60 : decode cX11_guess 60 = .ok (.if_icmp .le 6, 3) := by decide +kernel
theorem dX11_guess_63 : decode cX11_guess 63 = .ok (.iload 4, 2) := by decide +kernel
theorem dX11_guess_65 : decode cX11_guess 65 = .ok (.istore_n 3, 1) := by decide +kernel
theorem dX11_guess_66 : decode cX11_guess 66 = .ok (.iinc 4 1, 3) := by decide +kernel
theorem dX11_guess_69 : decode cX11_guess 69 = .ok (.goto (-35), 3) := by decide +kernel
theorem dX11_guess_72 : decode cX11_guess 72 = .ok (.aload_n 0, 1) := by decide +kernel
theorem dX11_guess_73 : decode cX11_guess 73 = .ok (.iload_n 1, 1) := by decide +kernel
theorem dX11_guess_74 : decode cX11_guess 74 = .ok (.iload_n 1, 1) := by decide +kernel
theorem dX11_guess_75 : decode cX11_guess 75 = .ok (.iload_n 3, 1) := by decide +kernel
theorem dX11_guess_76 : decode cX11_guess 76 = .ok (.invokevirtual 494, 3) := by decide +kernel
theorem dX11_guess_79 : decode cX11_guess 79 = .ok (.istore 4, 2) := by decide +kernel
theorem dX11_guess_81 : decode cX11_guess 81 = .ok (.aload_n 0, 1) := by decide +kernel
theorem dX11_guess_82 : decode cX11_guess 82 = .ok (.iload_n 1, 1) := by decide +kernel
theorem dX11_guess_83 : decode cX11_guess 83 = .ok (.invokevirtual 410, 3) := by decide +kernel
theorem dX11_guess_86 : decode cX11_guess 86 = .ok (.istore 5, 2) := by decide +kernel
theorem dX11_guess_88 : decode cX11_guess 88 = .ok (.iload 4, 2) := by decide +kernel
theorem dX11_guess_90 : decode cX11_guess 90 = .ok (.iload 5, 2) := by decide +kernel
theorem dX11_guess_92 : decode cX11_guess 92 = .ok (.invokestatic 503, 3) := by decide +kernel
theorem dX11_guess_95 : decode cX11_guess 95 = .ok (.istore 6, 2) := by decide +kernel
theorem dX11_guess_97 : decode cX11_guess 97 = .ok (.iload_n 2, 1) := by decide +kernel
theorem dX11_guess_98 : decode cX11_guess 98 = .ok (.ifCond .ne 7, 3) := by decide +kernel
theorem dX11_guess_101 : decode cX11_guess 101 = .ok (.iload_n 3, 1) := by decide +kernel
theorem dX11_guess_102 : decode cX11_guess 102 = .ok (.goto 21, 3) := by decide +kernel
theorem dX11_guess_105 : decode cX11_guess 105 = .ok (.iload_n 2, 1) := by decide +kernel
theorem dX11_guess_106 : decode cX11_guess 106 = .ok (.iconst 1, 1) := by decide +kernel
theorem dX11_guess_107 : decode cX11_guess 107 = .ok (.if_icmp .ne 11, 3) := by decide +kernel
theorem dX11_guess_110 : decode cX11_guess 110 = .ok (.iload 4, 2) := by decide +kernel
theorem dX11_guess_112 : decode cX11_guess 112 = .ok (.iload 6, 2) := by decide +kernel
theorem dX11_guess_114 : decode cX11_guess 114 = .ok (.idiv, 1) := by decide +kernel
theorem dX11_guess_115 : decode cX11_guess 115 = .ok (.goto 8, 3) := by decide +kernel
theorem dX11_guess_118 : decode cX11_guess 118 = .ok (.iload 5, 2) := by decide +kernel
theorem dX11_guess_120 : decode cX11_guess 120 = .ok (.iload 6, 2) := by decide +kernel
theorem dX11_guess_122 : decode cX11_guess 122 = .ok (.idiv, 1) := by decide +kernel
theorem dX11_guess_123 : decode cX11_guess 123 = .ok (.ireturn, 1) := by decide +kernel
theorem dX11_likely_0 : decode cX11_likely 0 = .ok (.aload_n 0, 1) := by decide +kernel
theorem dX11_likely_1 : decode cX11_likely 1 = .ok (.iconst 0, 1) := by decide +kernel
theorem dX11_likely_2 : decode cX11_likely 2 = .ok (.putfield 128, 3) := by decide +kernel
theorem dX11_likely_5 : decode cX11_likely 5 = .ok (.aload_n 0, 1) := by decide +kernel
theorem dX11_likely_6 : decode cX11_likely 6 = .ok (.iload_n 1, 1) := by decide +kernel
theorem dX11_likely_7 : decode cX11_likely 7 = .ok (.invokevirtual 466, 3) := by decide +kernel
theorem dX11_likely_10 : decode cX11_likely 10 = .ok (.ifCond .eq 12, 3) := by decide +kernel
theorem dX11_likely_13 : decode cX11_likely 13 = .ok (.iload_n 2, 1) := by decide +kernel
theorem dX11_likely_14 : decode cX11_likely 14 = .ok (.ifCond .lt 8, 3) := by decide +kernel
theorem dX11_likely_17 : decode cX11_likely 17 = .ok (.iload_n 2, 1) := by decide +kernel
theorem dX11_likely_18 : decode cX11_likely 18 = .ok (.iconst 1, 1) := by decide +kernel
theorem dX11_likely_19 : decode cX11_likely 19 = .ok (.if_icmp .le 5, 3) := by decide +kernel
theorem dX11_likely_22 : decode cX11_likely 22 = .ok (.iconst (-1), 1) := by decide +kernel
theorem dX11_likely_23 : decode cX11_likely 23 = .ok (.ireturn, 1) := by decide +kernel
theorem dX11_likely_24 : decode cX11_likely 24 = .ok (.aload_n 0, 1) := by decide +kernel
theorem dX11_likely_25 : decode cX11_likely 25 = .ok (.iconst 0, 1) := by decide +kernel
theorem dX11_likely_26 : decode cX11_likely 26 = .ok (.invokevirtual 428, 3) := by decide +kernel
theorem dX11_likely_29 : decode cX11_likely 29 = .ok (.iconst 0, 1) := by decide +kernel
theorem dX11_likely_30 : decode cX11_likely 30 = .ok (.istore_n 3, 1) := by decide +kernel
theorem dX11_likely_31 : decode cX11_likely 31 = .ok (.iconst 0, 1) := by decide +kernel
theorem dX11_likely_32 : decode cX11_likely 32 = .ok (.istore 4, 2) := by decide +kernel
theorem dX11_likely_34 : decode cX11_likely 34 = .ok (.iload 4, 2) := by decide +kernel
theorem dX11_likely_36 : decode cX11_likely 36 = .ok (.aload_n 0, 1) := by decide +kernel
theorem dX11_likely_37 : decode cX11_likely 37 = .ok (.getfield 335, 3) := by decide +kernel
theorem dX11_likely_40 : decode cX11_likely 40 = .ok (.if_icmp .ge 42, 3) := by decide +kernel
theorem dX11_likely_43 : decode cX11_likely 43 = .ok (.iload_n 3, 1) := by decide +kernel
theorem dX11_likely_44 : decode cX11_likely 44 = .ok (.aload_n 0, 1) := by decide +kernel
theorem dX11_likely_45 : decode cX11_likely 45 = .ok (.iload 4, 2) := by decide +kernel
theorem dX11_likely_47 : decode cX11_likely 47 = .ok (.invokevirtual 362, 3) := by decide +kernel
theorem dX11_likely_50 : decode cX11_likely 50 = .ok (.ifCond .eq 23, 3) := by decide +kernel
theorem dX11_likely_53 : decode cX11_likely 53 = .ok (.aload_n 0, 1) := by decide +kernel
theorem dX11_likely_54 : decode cX11_likely 54 = .ok (.getfield 115, 3) := by decide +kernel
theorem dX11_likely_57 : decode cX11_likely 57 = .ok (.sipush 729, 3) := by decide +kernel
theorem dX11_likely_60 : decode cX11_likely 60 = .ok (.iload_n 1, 1) := by decide +kernel
theorem dX11_likely_61 : decode cX11_likely 61 = .ok (.imul, 1) := by decide +kernel
theorem dX11_likely_62 : decode cX11_likely 62 = .ok (.iload 4, 2) := by decide +kernel
theorem dX11_likely_64 : decode cX11_likely 64 = .ok (.iadd, 1) := by decide +kernel
theorem dX11_likely_65 : decode cX11_likely 65 = .ok (.baload, 1) := by decide +kernel
theorem dX11_likely_66 : decode cX11_likely 66 = .ok (.ifCond .eq 7, 3) := by decide +kernel
theorem dX11_likely_69 : decode cX11_likely 69 = .ok (.iconst 1, 1) := by decide +kernel
theorem dX11_likely_70 : decode cX11_likely 70 = .ok (.goto 4, 3) := by decide +kernel
theorem dX11_likely_73 : decode cX11_likely 73 = .ok (.iconst 0, 1) := by decide +kernel
theorem dX11_likely_74 : decode cX11_likely 74 = .ok (.iadd, 1) := by decide +kernel
theorem dX11_likely_75 : decode cX11_likely 75 = .ok (.istore_n 3, 1) := by decide +kernel
theorem dX11_likely_76 : decode cX11_likely 76 = .ok (.iinc 4 1, 3) := by decide +kernel
theorem dX11_likely_79 : decode cX11_likely 79 = .ok (.goto (-45), 3) := by decide +kernel
theorem dX11_likely_82 : decode cX11_likely 82 = .ok (.aload_n 0, 1) := by decide +kernel
theorem dX11_likely_83 : decode cX11_likely 83 = .ok (.iconst 0, 1) := by decide +kernel
theorem dX11_likely_84 : decode cX11_likely 84 = .ok (.invokevirtual 401, 3) := by decide +kernel
theorem dX11_likely_87 : decode cX11_likely 87 = .ok (.istore 4, 2) := by decide +kernel
theorem dX11_likely_89 : decode cX11_likely 89 = .ok (.iload_n 3, 1) := by decide +kernel
theorem dX11_likely_90 : decode cX11_likely 90 = .ok (.iload 4, 2) := by decide +kernel
theorem dX11_likely_92 : decode cX11_likely 92 = .ok (.invokestatic 503, 3) := by decide +kernel
theorem dX11_likely_95 : decode cX11_likely 95 = .ok (.istore 5, 2) := by decide +kernel
theorem dX11_likely_97 : decode cX11_likely 97 = .ok (.iload_n 2, 1) := by decide +kernel
theorem dX11_likely_98 : decode cX11_likely 98 = .ok (.ifCond .ne 10, 3) := by decide +kernel
theorem dX11_likely_101 : decode cX11_likely 101 = .ok (.iload_n 3, 1) := by decide +kernel
theorem dX11_likely_102 : decode cX11_likely 102 = .ok (.iload 5, 2) := by decide +kernel
theorem dX11_likely_104 : decode cX11_likely 104 = .ok (.idiv, 1) := by decide +kernel
theorem dX11_likely_105 : decode cX11_likely 105 = .ok (.goto 8, 3) := by decide +kernel
theorem dX11_likely_108 : decode cX11_likely 108 = .ok (.iload 4, 2) := by decide +kernel
theorem dX11_likely_110 : decode cX11_likely 110 = .ok (.iload 5, 2) := by decide +kernel
theorem dX11_likely_112 : decode cX11_likely 112 = .ok (.idiv, 1) := by decide +kernel
theorem dX11_likely_113 : decode cX11_likely 113 = .ok (.ireturn, 1) := by decide +kernel
theorem dX11_areTwo_0 : decode cX11_areTwo 0 = .ok (.aload_n 0, 1) := by decide +kernel
theorem dX11_areTwo_1 : decode cX11_areTwo 1 = .ok (.iload_n 1, 1) := by decide +kernel
theorem dX11_areTwo_2 : decode cX11_areTwo 2 = .ok (.invokevirtual 460, 3) := by decide +kernel
theorem dX11_areTwo_5 : decode cX11_areTwo 5 = .ok (.ifCond .eq 20, 3) := by decide +kernel
theorem dX11_areTwo_8 : decode cX11_areTwo 8 = .ok (.aload_n 0, 1) := by decide +kernel
theorem dX11_areTwo_9 : decode cX11_areTwo 9 = .ok (.iload_n 2, 1) := by decide +kernel
theorem dX11_areTwo_10 : decode cX11_areTwo 10 = .ok (.invokevirtual 460, 3) := by decide +kernel
theorem dX11_areTwo_13 : decode cX11_areTwo 13 = .ok (.ifCond .eq 12, 3) := by decide +kernel
theorem dX11_areTwo_16 : decode cX11_areTwo 16 = .ok (.iload_n 1, 1) := by decide +kernel
theorem dX11_areTwo_17 : decode cX11_areTwo 17 = .ok (.iload_n 2, 1) := by decide +kernel
theorem dX11_areTwo_18 : decode cX11_areTwo 18 = .ok (.if_icmp .eq 7, 3) := by decide +kernel
theorem dX11_areTwo_21 : decode cX11_areTwo 21 = .ok (.iconst 1, 1) := by decide +kernel
theorem dX11_areTwo_22 : decode cX11_areTwo 22 = .ok (.goto 4, 3) := by decide +kernel
theorem dX11_areTwo_25 : decode cX11_areTwo 25 = .ok (.iconst 0, 1) := by decide +kernel
theorem dX11_areTwo_26 : decode cX11_areTwo 26 = .ok (.ireturn, 1) := by decide +kernel
theorem dX11_secret_0 : decode cX11_secret 0 = .ok (.aload_n 0, 1) := by decide +kernel
theorem dX11_secret_1 : decode cX11_secret 1 = .ok (.iconst 0, 1) := by decide +kernel
theorem dX11_secret_2 : decode cX11_secret 2 = .ok (.putfield 128, 3) := by decide +kernel
theorem dX11_secret_5 : decode cX11_secret 5 = .ok (.aload_n 0, 1) := by decide +kernel
theorem dX11_secret_6 : decode cX11_secret 6 = .ok (.iload_n 1, 1) := by decide +kernel
theorem dX11_secret_7 : decode cX11_secret 7 = .ok (.iload_n 2, 1) := by decide +kernel
theorem dX11_secret_8 : decode cX11_secret 8 = .ok (.invokevirtual 506, 3) := by decide +kernel
theorem dX11_secret_11 : decode cX11_secret 11 = .ok (.ifCond .ne 5, 3) := by decide +kernel
theorem dX11_secret_14 : decode cX11_secret 14 = .ok (.iconst (-1), 1) := by decide +kernel
theorem dX11_secret_15 : decode cX11_secret 15 = .ok (.ireturn, 1) := by decide +kernel
theorem dX11_secret_16 : decode cX11_secret 16 = .ok (.aload_n 0, 1) := by decide +kernel
theorem dX11_secret_17 : decode cX11_secret 17 = .ok (.iconst 0, 1) := by decide +kernel
theorem dX11_secret_18 : decode cX11_secret 18 = .ok (.invokevirtual 428, 3) := by decide +kernel
theorem dX11_secret_21 : decode cX11_secret 21 = .ok (.aload_n 0, 1) := by decide +kernel
theorem dX11_secret_22 : decode cX11_secret 22 = .ok (.iload_n 2, 1) := by decide +kernel
theorem dX11_secret_23 : decode cX11_secret 23 = .ok (.iload_n 1, 1) := by decide +kernel
theorem dX11_secret_24 : decode cX11_secret 24 = .ok (.invokevirtual 463, 3) := by decide +kernel
theorem dX11_secret_27 : decode cX11_secret 27 = .ok (.invokestatic 404, 3) := by decide +kernel
theorem dX11_secret_30 : decode cX11_secret 30 = .ok (.iconst 1, 1) := by decide +kernel
theorem dX11_secret_31 : decode cX11_secret 31 = .ok (.if_icmp .le 7, 3) := by decide +kernel
theorem dX11_secret_34 : decode cX11_secret 34 = .ok (.iconst 1, 1) := by decide +kernel
theorem dX11_secret_35 : decode cX11_secret 35 = .ok (.goto 4, 3) := by decide +kernel
theorem dX11_secret_38 : decode cX11_secret 38 = .ok (.iconst 0, 1) := by decide +kernel
theorem dX11_secret_39 : decode cX11_secret 39 = .ok (.ireturn, 1) := by decide +kernel
