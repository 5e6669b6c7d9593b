theorem dX10_peep_0 : decode cX10_peep 0 = .ok (.aload_n 0, 1) := by decide +kernel
theorem dX10_peep_1 : decode cX10_peep 1 = .ok (.iload_n 1, 1) := by decide +kernel
theorem dX10_peep_2 : decode cX10_peep 2 = .ok (.iload_n 2, 1) := by decide +kernel
theorem dX10_peep_3 : decode cX10_peep 3 = .ok (.invokevirtual 245, 3) := by decide +kernel
theorem dX10_peep_6 : decode cX10_peep 6 = .ok (.ifCond .ne 5, 3) := by decide +kernel
theorem dX10_peep_9 : decode cX10_peep 9 = .ok (.iconst (-1), 1) := by decide +kernel
theorem dX10_peep_10 : decode cX10_peep 10 = .ok (.ireturn, 1) := by decide +kernel
theorem dX10_peep_11 : decode cX10_peep 11 = .ok (.aload_n 0, 1) := by decide +kernel
theorem dX10_peep_12 : decode cX10_peep 12 = .ok (.getfield 67, 3) := by decide +kernel
theorem dX10_peep_15 : decode cX10_peep 15 = .ok (.getfield 144, 3) := by decide +kernel
theorem dX10_peep_18 : decode cX10_peep 18 = .ok (.iload_n 1, 1) := by decide +kernel
theorem dX10_peep_19 : decode cX10_peep 19 = .ok (.iaload, 1) := by decide +kernel
theorem dX10_peep_20 : decode cX10_peep 20 = .ok (.iload_n 2, 1) := by decide +kernel
theorem dX10_peep_21 : decode cX10_peep 21 = .ok (.ishr, 1) := by decide +kernel
theorem dX10_peep_22 : decode cX10_peep 22 = .ok (.iconst 1, 1) := by decide +kernel
theorem dX10_peep_23 : decode cX10_peep 23 = .ok (.iand, 1) := by decide +kernel
theorem dX10_peep_24 : decode cX10_peep 24 = .ok (.ifCond .eq 6, 3) := by decide +kernel
theorem dX10_peep_27 : decode cX10_peep 27 = .ok (.bipush (-2), 2) := by decide +kernel
theorem dX10_peep_29 : decode cX10_peep 29 = .ok (.ireturn, 1) := by decide +kernel
theorem dX10_peep_30 : decode cX10_peep 30 = .ok (.aload_n 0, 1) := by decide +kernel
theorem dX10_peep_31 : decode cX10_peep 31 = .ok (.aload_n 0, 1) := by decide +kernel
theorem dX10_peep_32 : decode cX10_peep 32 = .ok (.getfield 67, 3) := by decide +kernel
theorem dX10_peep_35 : decode cX10_peep 35 = .ok (.invokevirtual 238, 3) := by decide +kernel
theorem dX10_peep_38 : decode cX10_peep 38 = .ok (.aload_n 0, 1) := by decide +kernel
theorem dX10_peep_39 : decode cX10_peep 39 = .ok (.getfield 67, 3) := by decide +kernel
theorem dX10_peep_42 : decode cX10_peep 42 = .ok (.iload_n 1, 1) := by decide +kernel
theorem dX10_peep_43 : decode cX10_peep 43 = .ok (.iload_n 2, 1) := by decide +kernel
theorem dX10_peep_44 : decode cX10_peep 44 = .ok (.invokevirtual 248, 3) := by decide +kernel
theorem dX10_peep_47 : decode cX10_peep 47 = .ok (.aload_n 0, 1) := by decide +kernel
theorem dX10_peep_48 : decode cX10_peep 48 = .ok (.getfield 67, 3) := by decide +kernel
theorem dX10_peep_51 : decode cX10_peep 51 = .ok (.iload_n 1, 1) := by decide +kernel
theorem dX10_peep_52 : decode cX10_peep 52 = .ok (.invokevirtual 157, 3) := by decide +kernel
theorem dX10_peep_55 : decode cX10_peep 55 = .ok (.ireturn, 1) := by decide +kernel
theorem dX10_remember_0 : decode cX10_remember 0 = .ok (.aload_n 0, 1) := by decide +kernel
theorem dX10_remember_1 : decode cX10_remember 1 = .ok (.getfield 252, 3) := by decide +kernel
theorem dX10_remember_4 : decode cX10_remember 4 = .ok (.ifCond .lt 12, 3) := by decide +kernel
theorem dX10_remember_7 : decode cX10_remember 7 = .ok (.aload_n 0, 1) := by decide +kernel
theorem dX10_remember_8 : decode cX10_remember 8 = .ok (.getfield 252, 3) := by decide +kernel
theorem dX10_remember_11 : decode cX10_remember 11 = .ok (.bipush 20, 2) := by decide +kernel
theorem dX10_remember_13 : decode cX10_remember 13 = .ok (.if_icmp .lt 8, 3) := by decide +kernel
theorem dX10_remember_16 : decode cX10_remember 16 = .ok (.aload_n 0, 1) := by decide +kernel
theorem dX10_remember_17 : decode cX10_remember 17 = .ok (.iconst 0, 1) := by decide +kernel
theorem dX10_remember_18 : decode cX10_remember 18 = .ok (.putfield 252, 3) := by decide +kernel
theorem dX10_remember_21 : decode cX10_remember 21 = .ok (.aload_n 0, 1) := by decide +kernel
theorem dX10_remember_22 : decode cX10_remember 22 = .ok (.getfield 77, 3) := by decide +kernel
theorem dX10_remember_25 : decode cX10_remember 25 = .ok (.aload_n 0, 1) := by decide +kernel
theorem dX10_remember_26 : decode cX10_remember 26 = .ok (.getfield 252, 3) := by decide +kernel
theorem dX10_remember_29 : decode cX10_remember 29 = .ok (.aaload, 1) := by decide +kernel
theorem dX10_remember_30 : decode cX10_remember 30 = .ok (.ifnonnull 19, 3) := by decide +kernel
theorem dX10_remember_33 : decode cX10_remember 33 = .ok (.aload_n 0, 1) := by decide +kernel
theorem dX10_remember_34 : decode cX10_remember 34 = .ok (.getfield 77, 3) := by decide +kernel
theorem dX10_remember_37 : decode cX10_remember 37 = .ok (.aload_n 0, 1) := by decide +kernel
theorem dX10_remember_38 : decode cX10_remember 38 = .ok (.getfield 252, 3) := by decide +kernel
theorem dX10_remember_41 : decode cX10_remember 41 = .ok (.new 64, 3) := by decide +kernel
theorem dX10_remember_44 : decode cX10_remember 44 = .ok (.dup, 1) := by decide +kernel
theorem dX10_remember_45 : decode cX10_remember 45 = .ok (.invokespecial 66, 3) := by decide +kernel
theorem dX10_remember_48 : decode cX10_remember 48 = .ok (.aastore, 1) := by decide +kernel
theorem dX10_remember_49 : decode cX10_remember 49 = .ok (.aload_n 0, 1) := by decide +kernel
theorem dX10_remember_50 : decode cX10_remember 50 = .ok (.getfield 77, 3) := by decide +kernel
theorem dX10_remember_53 : decode cX10_remember 53 = .ok (.aload_n 0, 1) := by decide +kernel
theorem dX10_remember_54 : decode cX10_remember 54 = .ok (.getfield 252, 3) := by decide +kernel
theorem dX10_remember_57 : decode cX10_remember 57 = .ok (.aaload, 1) := by decide +kernel
theorem dX10_remember_58 : decode cX10_remember 58 = .ok (.aload_n 1, 1) := by decide +kernel
theorem dX10_remember_59 : decode cX10_remember 59 = .ok (.invokevirtual 226, 3) := by decide +kernel
theorem dX10_remember_62 : decode cX10_remember 62 = .ok (.aload_n 0, 1) := by decide +kernel
theorem dX10_remember_63 : decode cX10_remember 63 = .ok (.dup, 1) := by decide +kernel
theorem dX10_remember_64 : decode cX10_remember 64 = .ok (.getfield 252, 3) := by decide +kernel
theorem dX10_remember_67 : decode cX10_remember 67 = .ok (.iconst 1, 1) := by decide +kernel
theorem dX10_remember_68 : decode cX10_remember 68 = .ok (.iadd, 1) := by decide +kernel
theorem dX10_remember_69 : decode cX10_remember 69 = .ok (.putfield 252, 3) := by decide +kernel
theorem dX10_remember_72 : decode cX10_remember 72 = .ok (.aload_n 0, 1) := by decide +kernel
theorem dX10_remember_73 : decode cX10_remember 73 = .ok (.aload_n 0, 1) := by decide +kernel
theorem dX10_remember_74 : decode cX10_remember 74 = .ok (.getfield 105, 3) := by decide +kernel
theorem dX10_remember_77 : decode cX10_remember 77 = .ok (.iconst 1, 1) := by decide +kernel
theorem dX10_remember_78 : decode cX10_remember 78 = .ok (.iadd, 1) := by decide +kernel
theorem dX10_remember_79 : decode cX10_remember 79 = .ok (.bipush 20, 2) := by decide +kernel
theorem dX10_remember_81 : decode cX10_remember 81 = .ok (.invokestatic 255, 3) := by decide +kernel
theorem dX10_remember_84 : decode cX10_remember 84 = .ok (.putfield 105, 3) := by decide +kernel
theorem dX10_remember_87 : decode cX10_remember 87 = .ok (.return_, 1) := by decide +kernel
theorem dX10_go_0 : decode cX10_go 0 = .ok (.iload_n 1, 1) := by decide +kernel
theorem dX10_go_1 : decode cX10_go 1 = .ok (.ifCond .lt 25, 3) := by decide +kernel
theorem dX10_go_4 : decode cX10_go 4 = .ok (.iload_n 1, 1) := by decide +kernel
theorem dX10_go_5 : decode cX10_go 5 = .ok (.sipush 200, 3) := by decide +kernel
theorem dX10_go_8 : decode cX10_go 8 = .ok (.if_icmp .gt 18, 3) := by decide +kernel
theorem dX10_go_11 : decode cX10_go 11 = .ok (.aload_n 0, 1) := by decide +kernel
theorem dX10_go_12 : decode cX10_go 12 = .ok (.getfield 67, 3) := by decide +kernel
theorem dX10_go_15 : decode cX10_go 15 = .ok (.getfield 260, 3) := by decide +kernel
theorem dX10_go_18 : decode cX10_go 18 = .ok (.iload_n 1, 1) := by decide +kernel
theorem dX10_go_19 : decode cX10_go 19 = .ok (.iadd, 1) := by decide +kernel
theorem dX10_go_20 : decode cX10_go 20 = .ok (.sipush 9800, 3) := by decide +kernel
theorem dX10_go_23 : decode cX10_go 23 = .ok (.if_icmp .le 5, 3) := by decide +kernel
theorem dX10_go_26 : decode cX10_go 26 = .ok (.iconst (-1), 1) := by decide +kernel
theorem dX10_go_27 : decode cX10_go 27 = .ok (.ireturn, 1) := by decide +kernel
theorem dX10_go_28 : decode cX10_go 28 = .ok (.iload_n 1, 1) := by decide +kernel
theorem dX10_go_29 : decode cX10_go 29 = .ok (.ifCond .le 8, 3) := by decide +kernel
theorem dX10_go_32 : decode cX10_go 32 = .ok (.aload_n 0, 1) := by decide +kernel
theorem dX10_go_33 : decode cX10_go 33 = .ok (.iconst 0, 1) := by decide +kernel
theorem dX10_go_34 : decode cX10_go 34 = .ok (.putfield 105, 3) := by decide +kernel
theorem dX10_go_37 : decode cX10_go 37 = .ok (.aload_n 0, 1) := by decide +kernel
theorem dX10_go_38 : decode cX10_go 38 = .ok (.getfield 60, 3) := by decide +kernel
theorem dX10_go_41 : decode cX10_go 41 = .ok (.aload_n 0, 1) := by decide +kernel
theorem dX10_go_42 : decode cX10_go 42 = .ok (.getfield 48, 3) := by decide +kernel
theorem dX10_go_45 : decode cX10_go 45 = .ok (.iconst 1, 1) := by decide +kernel
theorem dX10_go_46 : decode cX10_go 46 = .ok (.iconst (-1), 1) := by decide +kernel
theorem dX10_go_47 : decode cX10_go 47 = .ok (.iconst (-1), 1) := by decide +kernel
theorem dX10_go_48 : decode cX10_go 48 = .ok (.invokevirtual 230, 3) := by decide +kernel
theorem dX10_go_51 : decode cX10_go 51 = .ok (.aload_n 0, 1) := by decide +kernel
theorem dX10_go_52 : decode cX10_go 52 = .ok (.getfield 60, 3) := by decide +kernel
theorem dX10_go_55 : decode cX10_go 55 = .ok (.aload_n 0, 1) := by decide +kernel
theorem dX10_go_56 : decode cX10_go 56 = .ok (.getfield 67, 3) := by decide +kernel
theorem dX10_go_59 : decode cX10_go 59 = .ok (.iload_n 1, 1) := by decide +kernel
theorem dX10_go_60 : decode cX10_go 60 = .ok (.invokevirtual 263, 3) := by decide +kernel
theorem dX10_go_63 : decode cX10_go 63 = .ok (.aload_n 0, 1) := by decide +kernel
theorem dX10_go_64 : decode cX10_go 64 = .ok (.getfield 67, 3) := by decide +kernel
theorem dX10_go_67 : decode cX10_go 67 = .ok (.getfield 260, 3) := by decide +kernel
theorem dX10_go_70 : decode cX10_go 70 = .ok (.ireturn, 1) := by decide +kernel
theorem dX10_ahead_0 : decode cX10_ahead 0 = .ok (.iload_n 1, 1) := by decide +kernel
theorem dX10_ahead_1 : decode cX10_ahead 1 = .ok (.ifCond .lt 32, 3) := by decide +kernel
theorem dX10_ahead_4 : decode cX10_ahead 4 = .ok (.iload_n 1, 1) := by decide +kernel
theorem dX10_ahead_5 : decode cX10_ahead 5 = .ok (.sipush 200, 3) := by decide +kernel
theorem dX10_ahead_8 : decode cX10_ahead 8 = .ok (.if_icmp .gt 25, 3) := by decide +kernel
theorem dX10_ahead_11 : decode cX10_ahead 11 = .ok (.iload_n 2, 1) := by decide +kernel
theorem dX10_ahead_12 : decode cX10_ahead 12 = .ok (.ifCond .lt 21, 3) := by decide +kernel
theorem dX10_ahead_15 : decode cX10_ahead 15 = .ok (.iload_n 2, 1) := by decide +kernel
theorem dX10_ahead_16 : decode cX10_ahead 16 = .ok (.iconst 4, 1) := by decide +kernel
theorem dX10_ahead_17 : decode cX10_ahead 17 = .ok (.if_icmp .gt 16, 3) := by decide +kernel
theorem dX10_ahead_20 : decode cX10_ahead 20 = .ok (.iload_n 2, 1) := by decide +kernel
theorem dX10_ahead_21 : decode cX10_ahead 21 = .ok (.iconst 3, 1) := by decide +kernel
theorem dX10_ahead_22 : decode cX10_ahead 22 = .ok (.if_icmp .ne 13, 3) := by decide +kernel
theorem dX10_ahead_25 : decode cX10_ahead 25 = .ok (.aload_n 0, 1) := by decide +kernel
theorem dX10_ahead_26 : decode cX10_ahead 26 = .ok (.iload_n 3, 1) := by decide +kernel
theorem dX10_ahead_27 : decode cX10_ahead 27 = .ok (.invokevirtual 134, 3) := by decide +kernel
theorem dX10_ahead_30 : decode cX10_ahead 30 = .ok (.ifCond .ne 5, 3) := by decide +kernel
theorem dX10_ahead_33 : decode cX10_ahead 33 = .ok (.iconst (-1), 1) := by decide +kernel
theorem dX10_ahead_34 : decode cX10_ahead 34 = .ok (.ireturn, 1) := by decide +kernel
theorem dX10_ahead_35 : decode cX10_ahead 35 = .ok (.aload_n 0, 1) := by decide +kernel
theorem dX10_ahead_36 : decode cX10_ahead 36 = .ok (.getfield 71, 3) := by decide +kernel
theorem dX10_ahead_39 : decode cX10_ahead 39 = .ok (.aload_n 0, 1) := by decide +kernel
theorem dX10_ahead_40 : decode cX10_ahead 40 = .ok (.getfield 67, 3) := by decide +kernel
theorem dX10_ahead_43 : decode cX10_ahead 43 = .ok (.invokevirtual 226, 3) := by decide +kernel
theorem dX10_ahead_46 : decode cX10_ahead 46 = .ok (.aload_n 0, 1) := by decide +kernel
theorem dX10_ahead_47 : decode cX10_ahead 47 = .ok (.getfield 60, 3) := by decide +kernel
theorem dX10_ahead_50 : decode cX10_ahead 50 = .ok (.aload_n 0, 1) := by decide +kernel
theorem dX10_ahead_51 : decode cX10_ahead 51 = .ok (.getfield 48, 3) := by decide +kernel
theorem dX10_ahead_54 : decode cX10_ahead 54 = .ok (.iconst 0, 1) := by decide +kernel
theorem dX10_ahead_55 : decode cX10_ahead 55 = .ok (.iconst (-1), 1) := by decide +kernel
theorem dX10_ahead_56 : decode cX10_ahead 56 = .ok (.iconst (-1), 1) := by decide +kernel
theorem dX10_ahead_57 : decode cX10_ahead 57 = .ok (.invokevirtual 230, 3) := by decide +kernel
theorem dX10_ahead_60 : decode cX10_ahead 60 = .ok (.aload_n 0, 1) := by decide +kernel
theorem dX10_ahead_61 : decode cX10_ahead 61 = .ok (.getfield 60, 3) := by decide +kernel
theorem dX10_ahead_64 : decode cX10_ahead 64 = .ok (.aload_n 0, 1) := by decide +kernel
theorem dX10_ahead_65 : decode cX10_ahead 65 = .ok (.getfield 71, 3) := by decide +kernel
theorem dX10_ahead_68 : decode cX10_ahead 68 = .ok (.iload_n 1, 1) := by decide +kernel
theorem dX10_ahead_69 : decode cX10_ahead 69 = .ok (.invokevirtual 263, 3) := by decide +kernel
theorem dX10_ahead_72 : decode cX10_ahead 72 = .ok (.iload_n 2, 1) := by decide +kernel
theorem dX10_ahead_73 : decode cX10_ahead 73 = .ok (.tableswitch 71 0 3 #[31, 39, 50, 61], 31) := by decide +kernel
theorem dX10_ahead_104 : decode cX10_ahead 104 = .ok (.aload_n 0, 1) := by decide +kernel
theorem dX10_ahead_105 : decode cX10_ahead 105 = .ok (.getfield 71, 3) := by decide +kernel
theorem dX10_ahead_108 : decode cX10_ahead 108 = .ok (.getfield 167, 3) := by decide +kernel
theorem dX10_ahead_111 : decode cX10_ahead 111 = .ok (.ireturn, 1) := by decide +kernel
theorem dX10_ahead_112 : decode cX10_ahead 112 = .ok (.aload_n 0, 1) := by decide +kernel
theorem dX10_ahead_113 : decode cX10_ahead 113 = .ok (.getfield 71, 3) := by decide +kernel
theorem dX10_ahead_116 : decode cX10_ahead 116 = .ok (.invokevirtual 213, 3) := by decide +kernel
theorem dX10_ahead_119 : decode cX10_ahead 119 = .ok (.invokestatic 217, 3) := by decide +kernel
theorem dX10_ahead_122 : decode cX10_ahead 122 = .ok (.ireturn, 1) := by decide +kernel
theorem dX10_ahead_123 : decode cX10_ahead 123 = .ok (.aload_n 0, 1) := by decide +kernel
theorem dX10_ahead_124 : decode cX10_ahead 124 = .ok (.getfield 71, 3) := by decide +kernel
theorem dX10_ahead_127 : decode cX10_ahead 127 = .ok (.getfield 147, 3) := by decide +kernel
theorem dX10_ahead_130 : decode cX10_ahead 130 = .ok (.invokestatic 217, 3) := by decide +kernel
theorem dX10_ahead_133 : decode cX10_ahead 133 = .ok (.ireturn, 1) := by decide +kernel
theorem dX10_ahead_134 : decode cX10_ahead 134 = .ok (.aload_n 0, 1) := by decide +kernel
theorem dX10_ahead_135 : decode cX10_ahead 135 = .ok (.getfield 71, 3) := by decide +kernel
theorem dX10_ahead_138 : decode cX10_ahead 138 = .ok (.getfield 150, 3) := by decide +kernel
theorem dX10_ahead_141 : decode cX10_ahead 141 = .ok (.iload_n 3, 1) := by decide +kernel
theorem dX10_ahead_142 : decode cX10_ahead 142 = .ok (.iaload, 1) := by decide +kernel
theorem dX10_ahead_143 : decode cX10_ahead 143 = .ok (.ireturn, 1) := by decide +kernel
theorem dX10_ahead_144 : decode cX10_ahead 144 = .ok (.aload_n 0, 1) := by decide +kernel
theorem dX10_ahead_145 : decode cX10_ahead 145 = .ok (.getfield 71, 3) := by decide +kernel
theorem dX10_ahead_148 : decode cX10_ahead 148 = .ok (.getfield 266, 3) := by decide +kernel
theorem dX10_ahead_151 : decode cX10_ahead 151 = .ok (.aload_n 0, 1) := by decide +kernel
theorem dX10_ahead_152 : decode cX10_ahead 152 = .ok (.getfield 67, 3) := by decide +kernel
theorem dX10_ahead_155 : decode cX10_ahead 155 = .ok (.getfield 266, 3) := by decide +kernel
theorem dX10_ahead_158 : decode cX10_ahead 158 = .ok (.isub, 1) := by decide +kernel
theorem dX10_ahead_159 : decode cX10_ahead 159 = .ok (.ireturn, 1) := by decide +kernel
theorem dX10_willKnow_0 : decode cX10_willKnow 0 = .ok (.aload_n 0, 1) := by decide +kernel
theorem dX10_willKnow_1 : decode cX10_willKnow 1 = .ok (.iload_n 1, 1) := by decide +kernel
theorem dX10_willKnow_2 : decode cX10_willKnow 2 = .ok (.invokevirtual 134, 3) := by decide +kernel
theorem dX10_willKnow_5 : decode cX10_willKnow 5 = .ok (.ifCond .ne 5, 3) := by decide +kernel
theorem dX10_willKnow_8 : decode cX10_willKnow 8 = .ok (.iconst (-1), 1) := by decide +kernel
theorem dX10_willKnow_9 : decode cX10_willKnow 9 = .ok (.ireturn, 1) := by decide +kernel
theorem dX10_willKnow_10 : decode cX10_willKnow 10 = .ok (.aload_n 0, 1) := by decide +kernel
theorem dX10_willKnow_11 : decode cX10_willKnow 11 = .ok (.getfield 71, 3) := by decide +kernel
theorem dX10_willKnow_14 : decode cX10_willKnow 14 = .ok (.aload_n 0, 1) := by decide +kernel
theorem dX10_willKnow_15 : decode cX10_willKnow 15 = .ok (.getfield 67, 3) := by decide +kernel
theorem dX10_willKnow_18 : decode cX10_willKnow 18 = .ok (.invokevirtual 226, 3) := by decide +kernel
theorem dX10_willKnow_21 : decode cX10_willKnow 21 = .ok (.aload_n 0, 1) := by decide +kernel
theorem dX10_willKnow_22 : decode cX10_willKnow 22 = .ok (.getfield 60, 3) := by decide +kernel
theorem dX10_willKnow_25 : decode cX10_willKnow 25 = .ok (.aload_n 0, 1) := by decide +kernel
theorem dX10_willKnow_26 : decode cX10_willKnow 26 = .ok (.getfield 48, 3) := by decide +kernel
theorem dX10_willKnow_29 : decode cX10_willKnow 29 = .ok (.iconst 0, 1) := by decide +kernel
theorem dX10_willKnow_30 : decode cX10_willKnow 30 = .ok (.iconst (-1), 1) := by decide +kernel
theorem dX10_willKnow_31 : decode cX10_willKnow 31 = .ok (.iconst (-1), 1) := by decide +kernel
theorem dX10_willKnow_32 : decode cX10_willKnow 32 = .ok (.invokevirtual 230, 3) := by decide +kernel
theorem dX10_willKnow_35 : decode cX10_willKnow 35 = .ok (.iconst 0, 1) := by decide +kernel
theorem dX10_willKnow_36 : decode cX10_willKnow 36 = .ok (.istore_n 2, 1) := by decide +kernel
theorem dX10_willKnow_37 : decode cX10_willKnow 37 = .ok (.iload_n 2, 1) := by decide +kernel
theorem dX10_willKnow_38 : decode cX10_willKnow 38 = .ok (.sipush 200, 3) := by decide +kernel
theorem dX10_willKnow_41 : decode cX10_willKnow 41 = .ok (.if_icmp .ge 50, 3) := by decide +kernel
theorem dX10_willKnow_44 : decode cX10_willKnow 44 = .ok (.aload_n 0, 1) := by decide +kernel
theorem dX10_willKnow_45 : decode cX10_willKnow 45 = .ok (.getfield 71, 3) := by decide +kernel
theorem dX10_willKnow_48 : decode cX10_willKnow 48 = .ok (.iload_n 1, 1) := by decide +kernel
theorem dX10_willKnow_49 : decode cX10_willKnow 49 = .ok (.iload_n 1, 1) := by decide +kernel
theorem dX10_willKnow_50 : decode cX10_willKnow 50 = .ok (.invokevirtual 163, 3) := by decide +kernel
theorem dX10_willKnow_53 : decode cX10_willKnow 53 = .ok (.ifCond .eq 5, 3) := by decide +kernel
theorem dX10_willKnow_56 : decode cX10_willKnow 56 = .ok (.iload_n 2, 1) := by decide +kernel
theorem dX10_willKnow_57 : decode cX10_willKnow 57 = .ok (.ireturn, 1) := by decide +kernel
theorem dX10_willKnow_58 : decode cX10_willKnow 58 = .ok (.aload_n 0, 1) := by decide +kernel
theorem dX10_willKnow_59 : decode cX10_willKnow 59 = .ok (.getfield 71, 3) := by decide +kernel
theorem dX10_willKnow_62 : decode cX10_willKnow 62 = .ok (.getfield 260, 3) := by decide +kernel
theorem dX10_willKnow_65 : decode cX10_willKnow 65 = .ok (.bipush 99, 2) := by decide +kernel
theorem dX10_willKnow_67 : decode cX10_willKnow 67 = .ok (.if_icmp .le 6, 3) := by decide +kernel
theorem dX10_willKnow_70 : decode cX10_willKnow 70 = .ok (.bipush (-2), 2) := by decide +kernel
theorem dX10_willKnow_72 : decode cX10_willKnow 72 = .ok (.ireturn, 1) := by decide +kernel
theorem dX10_willKnow_73 : decode cX10_willKnow 73 = .ok (.aload_n 0, 1) := by decide +kernel
theorem dX10_willKnow_74 : decode cX10_willKnow 74 = .ok (.getfield 60, 3) := by decide +kernel
theorem dX10_willKnow_77 : decode cX10_willKnow 77 = .ok (.aload_n 0, 1) := by decide +kernel
theorem dX10_willKnow_78 : decode cX10_willKnow 78 = .ok (.getfield 71, 3) := by decide +kernel
theorem dX10_willKnow_81 : decode cX10_willKnow 81 = .ok (.iconst 1, 1) := by decide +kernel
theorem dX10_willKnow_82 : decode cX10_willKnow 82 = .ok (.invokevirtual 263, 3) := by decide +kernel
theorem dX10_willKnow_85 : decode cX10_willKnow 85 = .ok (.iinc 2 1, 3) := by decide +kernel
theorem dX10_willKnow_88 : decode cX10_willKnow 88 = .ok (.goto (-51), 3) := by decide +kernel
theorem dX10_willKnow_91 : decode cX10_willKnow 91 = .ok (.bipush (-2), 2) := by decide +kernel
theorem dX10_willKnow_93 : decode cX10_willKnow 93 = .ok (.ireturn, 1) := by decide +kernel
theorem dX10_parts_0 : decode cX10_parts 0 = .ok (.aload_n 0, 1) := by decide +kernel
theorem dX10_parts_1 : decode cX10_parts 1 = .ok (.getfield 34, 3) := by decide +kernel
theorem dX10_parts_4 : decode cX10_parts 4 = .ok (.aload_n 0, 1) := by decide +kernel
theorem dX10_parts_5 : decode cX10_parts 5 = .ok (.getfield 67, 3) := by decide +kernel
theorem dX10_parts_8 : decode cX10_parts 8 = .ok (.invokevirtual 269, 3) := by decide +kernel
theorem dX10_parts_11 : decode cX10_parts 11 = .ok (.ireturn, 1) := by decide +kernel
theorem dX10_rounds_0 : decode cX10_rounds 0 = .ok (.iload_n 1, 1) := by decide +kernel
theorem dX10_rounds_1 : decode cX10_rounds 1 = .ok (.ifCond .lt 8, 3) := by decide +kernel
theorem dX10_rounds_4 : decode cX10_rounds 4 = .ok (.iload_n 1, 1) := by decide +kernel
theorem dX10_rounds_5 : decode cX10_rounds 5 = .ok (.iconst 2, 1) := by decide +kernel
theorem dX10_rounds_6 : decode cX10_rounds 6 = .ok (.if_icmp .le 5, 3) := by decide +kernel
theorem dX10_rounds_9 : decode cX10_rounds 9 = .ok (.iconst (-1), 1) := by decide +kernel
theorem dX10_rounds_10 : decode cX10_rounds 10 = .ok (.ireturn, 1) := by decide +kernel
theorem dX10_rounds_11 : decode cX10_rounds 11 = .ok (.aload_n 0, 1) := by decide +kernel
theorem dX10_rounds_12 : decode cX10_rounds 12 = .ok (.getfield 71, 3) := by decide +kernel
theorem dX10_rounds_15 : decode cX10_rounds 15 = .ok (.aload_n 0, 1) := by decide +kernel
theorem dX10_rounds_16 : decode cX10_rounds 16 = .ok (.getfield 67, 3) := by decide +kernel
theorem dX10_rounds_19 : decode cX10_rounds 19 = .ok (.invokevirtual 226, 3) := by decide +kernel
theorem dX10_rounds_22 : decode cX10_rounds 22 = .ok (.aload_n 0, 1) := by decide +kernel
theorem dX10_rounds_23 : decode cX10_rounds 23 = .ok (.getfield 60, 3) := by decide +kernel
theorem dX10_rounds_26 : decode cX10_rounds 26 = .ok (.aload_n 0, 1) := by decide +kernel
theorem dX10_rounds_27 : decode cX10_rounds 27 = .ok (.getfield 48, 3) := by decide +kernel
theorem dX10_rounds_30 : decode cX10_rounds 30 = .ok (.iconst 0, 1) := by decide +kernel
theorem dX10_rounds_31 : decode cX10_rounds 31 = .ok (.iconst 0, 1) := by decide +kernel
theorem dX10_rounds_32 : decode cX10_rounds 32 = .ok (.iconst (-1), 1) := by decide +kernel
theorem dX10_rounds_33 : decode cX10_rounds 33 = .ok (.invokevirtual 230, 3) := by decide +kernel
theorem dX10_rounds_36 : decode cX10_rounds 36 = .ok (.iconst 0, 1) := by decide +kernel
theorem dX10_rounds_37 : decode cX10_rounds 37 = .ok (.istore_n 2, 1) := by decide +kernel
theorem dX10_rounds_38 : decode cX10_rounds 38 = .ok (.iconst 0, 1) := by decide +kernel
theorem dX10_rounds_39 : decode cX10_rounds 39 = .ok (.istore_n 3, 1) := by decide +kernel
theorem dX10_rounds_40 : decode cX10_rounds 40 = .ok (.iload_n 3, 1) := by decide +kernel
theorem dX10_rounds_41 : decode cX10_rounds 41 = .ok (.sipush 729, 3) := by decide +kernel
theorem dX10_rounds_44 : decode cX10_rounds 44 = .ok (.if_icmp .ge 48, 3) := by decide +kernel
theorem dX10_rounds_47 : decode cX10_rounds 47 = .ok (.aload_n 0, 1) := by decide +kernel
theorem dX10_rounds_48 : decode cX10_rounds 48 = .ok (.getfield 71, 3) := by decide +kernel
theorem dX10_rounds_51 : decode cX10_rounds 51 = .ok (.getfield 167, 3) := by decide +kernel
theorem dX10_rounds_54 : decode cX10_rounds 54 = .ok (.istore 4, 2) := by decide +kernel
theorem dX10_rounds_56 : decode cX10_rounds 56 = .ok (.aload_n 0, 1) := by decide +kernel
theorem dX10_rounds_57 : decode cX10_rounds 57 = .ok (.getfield 60, 3) := by decide +kernel
theorem dX10_rounds_60 : decode cX10_rounds 60 = .ok (.aload_n 0, 1) := by decide +kernel
theorem dX10_rounds_61 : decode cX10_rounds 61 = .ok (.getfield 71, 3) := by decide +kernel
theorem dX10_rounds_64 : decode cX10_rounds 64 = .ok (.invokevirtual 241, 3) := by decide +kernel
theorem dX10_rounds_67 : decode cX10_rounds 67 = .ok (.pop, 1) := by decide +kernel
theorem dX10_rounds_68 : decode cX10_rounds 68 = .ok (.aload_n 0, 1) := by decide +kernel
theorem dX10_rounds_69 : decode cX10_rounds 69 = .ok (.getfield 71, 3) := by decide +kernel
theorem dX10_rounds_72 : decode cX10_rounds 72 = .ok (.getfield 167, 3) := by decide +kernel
theorem dX10_rounds_75 : decode cX10_rounds 75 = .ok (.iload 4, 2) := by decide +kernel
theorem dX10_rounds_77 : decode cX10_rounds 77 = .ok (.if_icmp .ne 6, 3) := by decide +kernel
theorem dX10_rounds_80 : decode cX10_rounds 80 = .ok (.goto 12, 3) := by decide +kernel
theorem dX10_rounds_83 : decode cX10_rounds 83 = .ok (.iinc 2 1, 3) := by decide +kernel
theorem dX10_rounds_86 : decode cX10_rounds 86 = .ok (.iinc 3 1, 3) := by decide +kernel
theorem dX10_rounds_89 : decode cX10_rounds 89 = .ok (.goto (-49), 3) := by decide +kernel
theorem dX10_rounds_92 : decode cX10_rounds 92 = .ok (.iload_n 1, 1) := by decide +kernel
theorem dX10_rounds_93 : decode cX10_rounds 93 = .ok (.ifCond .ne 5, 3) := by decide +kernel
theorem dX10_rounds_96 : decode cX10_rounds 96 = .ok (.iload_n 2, 1) := by decide +kernel
theorem dX10_rounds_97 : decode cX10_rounds 97 = .ok (.ireturn, 1) := by decide +kernel
theorem dX10_rounds_98 : decode cX10_rounds 98 = .ok (.iload_n 1, 1) := by decide +kernel
theorem dX10_rounds_99 : decode cX10_rounds 99 = .ok (.iconst 1, 1) := by decide +kernel
theorem dX10_rounds_100 : decode cX10_rounds 100 = .ok (.if_icmp .ne 13, 3) := by decide +kernel
theorem dX10_rounds_103 : decode cX10_rounds 103 = .ok (.aload_n 0, 1) := by decide +kernel
theorem dX10_rounds_104 : decode cX10_rounds 104 = .ok (.getfield 71, 3) := by decide +kernel
theorem dX10_rounds_107 : decode cX10_rounds 107 = .ok (.invokevirtual 213, 3) := by decide +kernel
theorem dX10_rounds_110 : decode cX10_rounds 110 = .ok (.goto 10, 3) := by decide +kernel
theorem dX10_rounds_113 : decode cX10_rounds 113 = .ok (.aload_n 0, 1) := by decide +kernel
theorem dX10_rounds_114 : decode cX10_rounds 114 = .ok (.getfield 71, 3) := by decide +kernel
theorem dX10_rounds_117 : decode cX10_rounds 117 = .ok (.getfield 167, 3) := by decide +kernel
theorem dX10_rounds_120 : decode cX10_rounds 120 = .ok (.ireturn, 1) := by decide +kernel
theorem dX10_teach_0 : decode cX10_teach 0 = .ok (.aload_n 0, 1) := by decide +kernel
theorem dX10_teach_1 : decode cX10_teach 1 = .ok (.iload_n 1, 1) := by decide +kernel
theorem dX10_teach_2 : decode cX10_teach 2 = .ok (.invokevirtual 134, 3) := by decide +kernel
theorem dX10_teach_5 : decode cX10_teach 5 = .ok (.ifCond .eq 24, 3) := by decide +kernel
theorem dX10_teach_8 : decode cX10_teach 8 = .ok (.aload_n 0, 1) := by decide +kernel
theorem dX10_teach_9 : decode cX10_teach 9 = .ok (.getfield 34, 3) := by decide +kernel
theorem dX10_teach_12 : decode cX10_teach 12 = .ok (.aload_n 0, 1) := by decide +kernel
theorem dX10_teach_13 : decode cX10_teach 13 = .ok (.getfield 48, 3) := by decide +kernel
theorem dX10_teach_16 : decode cX10_teach 16 = .ok (.aload_n 0, 1) := by decide +kernel
theorem dX10_teach_17 : decode cX10_teach 17 = .ok (.getfield 67, 3) := by decide +kernel
theorem dX10_teach_20 : decode cX10_teach 20 = .ok (.iconst 1, 1) := by decide +kernel
theorem dX10_teach_21 : decode cX10_teach 21 = .ok (.iload_n 1, 1) := by decide +kernel
theorem dX10_teach_22 : decode cX10_teach 22 = .ok (.ishl, 1) := by decide +kernel
theorem dX10_teach_23 : decode cX10_teach 23 = .ok (.invokevirtual 272, 3) := by decide +kernel
theorem dX10_teach_26 : decode cX10_teach 26 = .ok (.goto 4, 3) := by decide +kernel
theorem dX10_teach_29 : decode cX10_teach 29 = .ok (.iconst (-1), 1) := by decide +kernel
theorem dX10_teach_30 : decode cX10_teach 30 = .ok (.ireturn, 1) := by decide +kernel
theorem dX10_teachAll_0 : decode cX10_teachAll 0 = .ok (.aload_n 0, 1) := by decide +kernel
theorem dX10_teachAll_1 : decode cX10_teachAll 1 = .ok (.getfield 34, 3) := by decide +kernel
theorem dX10_teachAll_4 : decode cX10_teachAll 4 = .ok (.aload_n 0, 1) := by decide +kernel
theorem dX10_teachAll_5 : decode cX10_teachAll 5 = .ok (.getfield 48, 3) := by decide +kernel
theorem dX10_teachAll_8 : decode cX10_teachAll 8 = .ok (.aload_n 0, 1) := by decide +kernel
theorem dX10_teachAll_9 : decode cX10_teachAll 9 = .ok (.getfield 67, 3) := by decide +kernel
theorem dX10_teachAll_12 : decode cX10_teachAll 12 = .ok (.iconst 1, 1) := by decide +kernel
theorem dX10_teachAll_13 : decode cX10_teachAll 13 = .ok (.aload_n 0, 1) := by decide +kernel
theorem dX10_teachAll_14 : decode cX10_teachAll 14 = .ok (.getfield 67, 3) := by decide +kernel
theorem dX10_teachAll_17 : decode cX10_teachAll 17 = .ok (.getfield 276, 3) := by decide +kernel
theorem dX10_teachAll_20 : decode cX10_teachAll 20 = .ok (.ishl, 1) := by decide +kernel
theorem dX10_teachAll_21 : decode cX10_teachAll 21 = .ok (.iconst 1, 1) := by decide +kernel
theorem dX10_teachAll_22 : decode cX10_teachAll 22 = .ok (.isub, 1) := by decide +kernel
theorem dX10_teachAll_23 : decode cX10_teachAll 23 = .ok (.invokevirtual 272, 3) := by decide +kernel
theorem dX10_teachAll_26 : decode cX10_teachAll 26 = .ok (.ireturn, 1) := by decide +kernel
theorem dX10_look_0 : decode cX10_look 0 = .ok (.aload_n 0, 1) := by decide +kernel
theorem dX10_look_1 : decode cX10_look 1 = .ok (.iload_n 1, 1) := by decide +kernel
theorem dX10_look_2 : decode cX10_look 2 = .ok (.invokevirtual 134, 3) := by decide +kernel
theorem dX10_look_5 : decode cX10_look 5 = .ok (.ifCond .eq 12, 3) := by decide +kernel
theorem dX10_look_8 : decode cX10_look 8 = .ok (.iload_n 2, 1) := by decide +kernel
theorem dX10_look_9 : decode cX10_look 9 = .ok (.ifCond .eq 10, 3) := by decide +kernel
theorem dX10_look_12 : decode cX10_look 12 = .ok (.iload_n 2, 1) := by decide +kernel
theorem dX10_look_13 : decode cX10_look 13 = .ok (.iconst 1, 1) := by decide +kernel
theorem dX10_look_14 : decode cX10_look 14 = .ok (.if_icmp .eq 5, 3) := by decide +kernel
theorem dX10_look_17 : decode cX10_look 17 = .ok (.iconst (-1), 1) := by decide +kernel
theorem dX10_look_18 : decode cX10_look 18 = .ok (.ireturn, 1) := by decide +kernel
theorem dX10_look_19 : decode cX10_look 19 = .ok (.bipush (-2), 2) := by decide +kernel
theorem dX10_look_21 : decode cX10_look 21 = .ok (.istore_n 3, 1) := by decide +kernel
theorem dX10_look_22 : decode cX10_look 22 = .ok (.sipush 730, 3) := by decide +kernel
theorem dX10_look_25 : decode cX10_look 25 = .ok (.istore 4, 2) := by decide +kernel
theorem dX10_look_27 : decode cX10_look 27 = .ok (.iconst 0, 1) := by decide +kernel
theorem dX10_look_28 : decode cX10_look 28 = .ok (.istore 5, 2) := by decide +kernel
theorem dX10_look_30 : decode cX10_look 30 = .ok (.iload 5, 2) := by decide +kernel
theorem dX10_look_32 : decode cX10_look 32 = .ok (.aload_n 0, 1) := by decide +kernel
theorem dX10_look_33 : decode cX10_look 33 = .ok (.getfield 67, 3) := by decide +kernel
theorem dX10_look_36 : decode cX10_look 36 = .ok (.getfield 276, 3) := by decide +kernel
theorem dX10_look_39 : decode cX10_look 39 = .ok (.if_icmp .ge 74, 3) := by decide +kernel
theorem dX10_look_42 : decode cX10_look 42 = .ok (.iload 5, 2) := by decide +kernel
theorem dX10_look_44 : decode cX10_look 44 = .ok (.iload_n 1, 1) := by decide +kernel
theorem dX10_look_45 : decode cX10_look 45 = .ok (.if_icmp .eq 24, 3) := by decide +kernel
theorem dX10_look_48 : decode cX10_look 48 = .ok (.aload_n 0, 1) := by decide +kernel
theorem dX10_look_49 : decode cX10_look 49 = .ok (.getfield 67, 3) := by decide +kernel
theorem dX10_look_52 : decode cX10_look 52 = .ok (.getfield 144, 3) := by decide +kernel
theorem dX10_look_55 : decode cX10_look 55 = .ok (.iload_n 1, 1) := by decide +kernel
theorem dX10_look_56 : decode cX10_look 56 = .ok (.iaload, 1) := by decide +kernel
theorem dX10_look_57 : decode cX10_look 57 = .ok (.iload 5, 2) := by decide +kernel
theorem dX10_look_59 : decode cX10_look 59 = .ok (.ishr, 1) := by decide +kernel
theorem dX10_look_60 : decode cX10_look 60 = .ok (.iconst 1, 1) := by decide +kernel
theorem dX10_look_61 : decode cX10_look 61 = .ok (.iand, 1) := by decide +kernel
theorem dX10_look_62 : decode cX10_look 62 = .ok (.ifCond .ne 7, 3) := by decide +kernel
theorem dX10_look_65 : decode cX10_look 65 = .ok (.iconst 1, 1) := by decide +kernel
theorem dX10_look_66 : decode cX10_look 66 = .ok (.goto 4, 3) := by decide +kernel
theorem dX10_look_69 : decode cX10_look 69 = .ok (.iconst 0, 1) := by decide +kernel
theorem dX10_look_70 : decode cX10_look 70 = .ok (.istore 6, 2) := by decide +kernel
theorem dX10_look_72 : decode cX10_look 72 = .ok (.iload 6, 2) := by decide +kernel
theorem dX10_look_74 : decode cX10_look 74 = .ok (.ifCond .eq 33, 3) := by decide +kernel
theorem dX10_look_77 : decode cX10_look 77 = .ok (.aload_n 0, 1) := by decide +kernel
theorem dX10_look_78 : decode cX10_look 78 = .ok (.getfield 67, 3) := by decide +kernel
theorem dX10_look_81 : decode cX10_look 81 = .ok (.iload_n 1, 1) := by decide +kernel
theorem dX10_look_82 : decode cX10_look 82 = .ok (.iload 5, 2) := by decide +kernel
theorem dX10_look_84 : decode cX10_look 84 = .ok (.invokevirtual 278, 3) := by decide +kernel
theorem dX10_look_87 : decode cX10_look 87 = .ok (.iload 4, 2) := by decide +kernel
theorem dX10_look_89 : decode cX10_look 89 = .ok (.if_icmp .ge 18, 3) := by decide +kernel
theorem dX10_look_92 : decode cX10_look 92 = .ok (.iload 5, 2) := by decide +kernel
theorem dX10_look_94 : decode cX10_look 94 = .ok (.istore_n 3, 1) := by decide +kernel
theorem dX10_look_95 : decode cX10_look 95 = .ok (.aload_n 0, 1) := by decide +kernel
theorem dX10_look_96 : decode cX10_look 96 = .ok (.getfield 67, 3) := by decide +kernel
theorem dX10_look_99 : decode cX10_look 99 = .ok (.iload_n 1, 1) := by decide +kernel
theorem dX10_look_100 : decode cX10_look 100 = .ok (.iload 5, 2) := by decide +kernel
theorem dX10_look_102 : decode cX10_look 102 = .ok (.invokevirtual 278, 3) := by decide +kernel
theorem dX10_look_105 : decode cX10_look 105 = .ok (.istore 4, 2) := by decide +kernel
theorem dX10_look_107 : decode cX10_look 107 = .ok (.iinc 5 1, 3) := by decide +kernel
theorem dX10_look_110 : decode cX10_look 110 = .ok (.goto (-80), 3) := by decide +kernel
theorem dX10_look_113 : decode cX10_look 113 = .ok (.iload_n 2, 1) := by decide +kernel
theorem dX10_look_114 : decode cX10_look 114 = .ok (.ifCond .eq 7, 3) := by decide +kernel
theorem dX10_look_117 : decode cX10_look 117 = .ok (.iload_n 3, 1) := by decide +kernel
theorem dX10_look_118 : decode cX10_look 118 = .ok (.ifCond .ge 7, 3) := by decide +kernel
theorem dX10_look_121 : decode cX10_look 121 = .ok (.iload_n 3, 1) := by decide +kernel
theorem dX10_look_122 : decode cX10_look 122 = .ok (.goto 5, 3) := by decide +kernel
theorem dX10_look_125 : decode cX10_look 125 = .ok (.iload 4, 2) := by decide +kernel
theorem dX10_look_127 : decode cX10_look 127 = .ok (.ireturn, 1) := by decide +kernel
theorem dX10_guess_0 : decode cX10_guess 0 = .ok (.aload_n 0, 1) := by decide +kernel
theorem dX10_guess_1 : decode cX10_guess 1 = .ok (.iload_n 1, 1) := by decide +kernel
theorem dX10_guess_2 : decode cX10_guess 2 = .ok (.invokevirtual 134, 3) := by decide +kernel
theorem dX10_guess_5 : decode cX10_guess 5 = .ok (.ifCond .eq 12, 3) := by decide +kernel
theorem dX10_guess_8 : decode cX10_guess 8 = .ok (.iload_n 2, 1) := by decide +kernel
theorem dX10_guess_9 : decode cX10_guess 9 = .ok (.ifCond .lt 8, 3) := by decide +kernel
theorem dX10_guess_12 : decode cX10_guess 12 = .ok (.iload_n 2, 1) := by decide +kernel
theorem dX10_guess_13 : decode cX10_guess 13 = .ok (.iconst 2, 1) := by decide +kernel
theorem dX10_guess_14 : decode cX10_guess 14 = .ok (.if_icmp .le 5, 3) := by decide +kernel
theorem dX10_guess_17 : decode cX10_guess 17 = .ok (.iconst (-1), 1) := by decide +kernel
theorem dX10_guess_18 : decode cX10_guess 18 = .ok (.ireturn, 1) := by decide +kernel
theorem dX10_guess_19 : decode cX10_guess 19 = .ok (.aload_n 0, 1) := by decide +kernel
theorem dX10_guess_20 : decode cX10_guess 20 = .ok (.getfield 67, 3) := by decide +kernel
theorem dX10_guess_23 : decode cX10_guess 23 = .ok (.iload_n 1, 1) := by decide +kernel
theorem dX10_guess_24 : decode cX10_guess 24 = .ok (.iload_n 1, 1) := by decide +kernel
theorem dX10_guess_25 : decode cX10_guess 25 = .ok (.invokevirtual 278, 3) := by decide +kernel
theorem dX10_guess_28 : decode cX10_guess 28 = .ok (.istore_n 3, 1) := by decide +kernel
theorem dX10_guess_29 : decode cX10_guess 29 = .ok (.iload_n 2, 1) := by decide +kernel
theorem dX10_guess_30 : decode cX10_guess 30 = .ok (.iconst 1, 1) := by decide +kernel
theorem dX10_guess_31 : decode cX10_guess 31 = .ok (.if_icmp .ne 17, 3) := by decide +kernel
theorem dX10_guess_34 : decode cX10_guess 34 = .ok (.iload_n 3, 1) := by decide +kernel
theorem dX10_guess_35 : decode cX10_guess 35 = .ok (.iload_n 3, 1) := by decide +kernel
theorem dX10_guess_36 : decode cX10_guess 36 = .ok (.aload_n 0, 1) := by decide +kernel
theorem dX10_guess_37 : decode cX10_guess 37 = .ok (.getfield 67, 3) := by decide +kernel
theorem dX10_guess_40 : decode cX10_guess 40 = .ok (.iload_n 1, 1) := by decide +kernel
theorem dX10_guess_41 : decode cX10_guess 41 = .ok (.invokevirtual 157, 3) := by decide +kernel
theorem dX10_guess_44 : decode cX10_guess 44 = .ok (.invokestatic 281, 3) := by decide +kernel
theorem dX10_guess_47 : decode cX10_guess 47 = .ok (.ireturn, 1) := by decide +kernel
theorem dX10_guess_48 : decode cX10_guess 48 = .ok (.iload_n 2, 1) := by decide +kernel
theorem dX10_guess_49 : decode cX10_guess 49 = .ok (.iconst 2, 1) := by decide +kernel
theorem dX10_guess_50 : decode cX10_guess 50 = .ok (.if_icmp .ne 24, 3) := by decide +kernel
theorem dX10_guess_53 : decode cX10_guess 53 = .ok (.aload_n 0, 1) := by decide +kernel
theorem dX10_guess_54 : decode cX10_guess 54 = .ok (.getfield 67, 3) := by decide +kernel
theorem dX10_guess_57 : decode cX10_guess 57 = .ok (.iload_n 1, 1) := by decide +kernel
theorem dX10_guess_58 : decode cX10_guess 58 = .ok (.invokevirtual 157, 3) := by decide +kernel
theorem dX10_guess_61 : decode cX10_guess 61 = .ok (.iload_n 3, 1) := by decide +kernel
theorem dX10_guess_62 : decode cX10_guess 62 = .ok (.aload_n 0, 1) := by decide +kernel
theorem dX10_guess_63 : decode cX10_guess 63 = .ok (.getfield 67, 3) := by decide +kernel
theorem dX10_guess_66 : decode cX10_guess 66 = .ok (.iload_n 1, 1) := by decide +kernel
theorem dX10_guess_67 : decode cX10_guess 67 = .ok (.invokevirtual 157, 3) := by decide +kernel
theorem dX10_guess_70 : decode cX10_guess 70 = .ok (.invokestatic 281, 3) := by decide +kernel
theorem dX10_guess_73 : decode cX10_guess 73 = .ok (.ireturn, 1) := by decide +kernel
theorem dX10_guess_74 : decode cX10_guess 74 = .ok (.iconst 0, 1) := by decide +kernel
theorem dX10_guess_75 : decode cX10_guess 75 = .ok (.istore 4, 2) := by decide +kernel
theorem dX10_guess_77 : decode cX10_guess 77 = .ok (.iload 4, 2) := by decide +kernel
theorem dX10_guess_79 : decode cX10_guess 79 = .ok (.iconst 3, 1) := by decide +kernel
theorem dX10_guess_80 : decode cX10_guess 80 = .ok (.if_icmp .ge 27, 3) := by decide +kernel
theorem dX10_guess_83 : decode cX10_guess 83 = .ok (.aload_n 0, 1) := by decide +kernel
theorem dX10_guess_84 : decode cX10_guess 84 = .ok (.getfield 67, 3) := by decide +kernel
theorem dX10_guess_87 : decode cX10_guess 87 = .ok (.iload_n 1, 1) := by decide +kernel
theorem dX10_guess_88 : decode cX10_guess 88 = .ok (.iload_n 1, 1) := by decide +kernel
theorem dX10_guess_89 : decode cX10_guess 89 = .ok (.iload 4, 2) := by decide +kernel
theorem dX10_guess_91 : decode cX10_guess 91 = .ok (.invokevirtual 285, 3) := by decide +kernel
theorem dX10_guess_94 : decode cX10_guess 94 = .ok (.iload_n 3, 1) := by decide +kernel
theorem dX10_guess_95 : decode cX10_guess 95 = .ok (.if_icmp .ne 6, 3) := by decide +kernel
theorem dX10_guess_98 : decode cX10_guess 98 = .ok (.iload 4, 2) := by decide +kernel
theorem dX10_guess_100 : decode cX10_guess 100 = .ok (.ireturn, 1) := by decide +kernel
theorem dX10_guess_101 : decode cX10_guess 101 = .ok (.iinc 4 1, 3) := by decide +kernel
theorem dX10_guess_104 : decode cX10_guess 104 = .ok (.goto (-27), 3) := by decide +kernel
theorem dX10_guess_107 : decode cX10_guess 107 = .ok (.iconst (-1), 1) := by decide +kernel
theorem dX10_guess_108 : decode cX10_guess 108 = .ok (.ireturn, 1) := by decide +kernel
theorem dX10_likely_0 : decode cX10_likely 0 = .ok (.aload_n 0, 1) := by decide +kernel
theorem dX10_likely_1 : decode cX10_likely 1 = .ok (.iload_n 1, 1) := by decide +kernel
theorem dX10_likely_2 : decode cX10_likely 2 = .ok (.invokevirtual 179, 3) := by decide +kernel
theorem dX10_likely_5 : decode cX10_likely 5 = .ok (.ifCond .eq 12, 3) := by decide +kernel
theorem dX10_likely_8 : decode cX10_likely 8 = .ok (.iload_n 2, 1) := by decide +kernel
theorem dX10_likely_9 : decode cX10_likely 9 = .ok (.ifCond .eq 10, 3) := by decide +kernel
theorem dX10_likely_12 : decode cX10_likely 12 = .ok (.iload_n 2, 1) := by decide +kernel
theorem dX10_likely_13 : decode cX10_likely 13 = .ok (.iconst 1, 1) := by decide +kernel
theorem dX10_likely_14 : decode cX10_likely 14 = .ok (.if_icmp .eq 5, 3) := by decide +kernel
theorem dX10_likely_17 : decode cX10_likely 17 = .ok (.iconst (-1), 1) := by decide +kernel
theorem dX10_likely_18 : decode cX10_likely 18 = .ok (.ireturn, 1) := by decide +kernel
theorem dX10_likely_19 : decode cX10_likely 19 = .ok (.aload_n 0, 1) := by decide +kernel
theorem dX10_likely_20 : decode cX10_likely 20 = .ok (.getfield 34, 3) := by decide +kernel
theorem dX10_likely_23 : decode cX10_likely 23 = .ok (.aload_n 0, 1) := by decide +kernel
theorem dX10_likely_24 : decode cX10_likely 24 = .ok (.getfield 48, 3) := by decide +kernel
theorem dX10_likely_27 : decode cX10_likely 27 = .ok (.aload_n 0, 1) := by decide +kernel
theorem dX10_likely_28 : decode cX10_likely 28 = .ok (.getfield 67, 3) := by decide +kernel
theorem dX10_likely_31 : decode cX10_likely 31 = .ok (.aload_n 0, 1) := by decide +kernel
theorem dX10_likely_32 : decode cX10_likely 32 = .ok (.getfield 48, 3) := by decide +kernel
theorem dX10_likely_35 : decode cX10_likely 35 = .ok (.getfield 182, 3) := by decide +kernel
theorem dX10_likely_38 : decode cX10_likely 38 = .ok (.iload_n 1, 1) := by decide +kernel
theorem dX10_likely_39 : decode cX10_likely 39 = .ok (.laload, 1) := by decide +kernel
theorem dX10_likely_40 : decode cX10_likely 40 = .ok (.invokevirtual 186, 3) := by decide +kernel
theorem dX10_likely_43 : decode cX10_likely 43 = .ok (.aload_n 0, 1) := by decide +kernel
theorem dX10_likely_44 : decode cX10_likely 44 = .ok (.getfield 34, 3) := by decide +kernel
theorem dX10_likely_47 : decode cX10_likely 47 = .ok (.aload_n 0, 1) := by decide +kernel
theorem dX10_likely_48 : decode cX10_likely 48 = .ok (.getfield 67, 3) := by decide +kernel
theorem dX10_likely_51 : decode cX10_likely 51 = .ok (.aload_n 0, 1) := by decide +kernel
theorem dX10_likely_52 : decode cX10_likely 52 = .ok (.getfield 48, 3) := by decide +kernel
theorem dX10_likely_55 : decode cX10_likely 55 = .ok (.getfield 190, 3) := by decide +kernel
theorem dX10_likely_58 : decode cX10_likely 58 = .ok (.iload_n 1, 1) := by decide +kernel
theorem dX10_likely_59 : decode cX10_likely 59 = .ok (.iaload, 1) := by decide +kernel
theorem dX10_likely_60 : decode cX10_likely 60 = .ok (.invokevirtual 288, 3) := by decide +kernel
theorem dX10_likely_63 : decode cX10_likely 63 = .ok (.istore_n 3, 1) := by decide +kernel
theorem dX10_likely_64 : decode cX10_likely 64 = .ok (.iload_n 2, 1) := by decide +kernel
theorem dX10_likely_65 : decode cX10_likely 65 = .ok (.ifCond .ne 7, 3) := by decide +kernel
theorem dX10_likely_68 : decode cX10_likely 68 = .ok (.iload_n 3, 1) := by decide +kernel
theorem dX10_likely_69 : decode cX10_likely 69 = .ok (.goto 10, 3) := by decide +kernel
theorem dX10_likely_72 : decode cX10_likely 72 = .ok (.aload_n 0, 1) := by decide +kernel
theorem dX10_likely_73 : decode cX10_likely 73 = .ok (.getfield 67, 3) := by decide +kernel
theorem dX10_likely_76 : decode cX10_likely 76 = .ok (.getfield 167, 3) := by decide +kernel
theorem dX10_likely_79 : decode cX10_likely 79 = .ok (.iload_n 3, 1) := by decide +kernel
theorem dX10_likely_80 : decode cX10_likely 80 = .ok (.aload_n 0, 1) := by decide +kernel
theorem dX10_likely_81 : decode cX10_likely 81 = .ok (.getfield 67, 3) := by decide +kernel
theorem dX10_likely_84 : decode cX10_likely 84 = .ok (.getfield 167, 3) := by decide +kernel
theorem dX10_likely_87 : decode cX10_likely 87 = .ok (.invokestatic 281, 3) := by decide +kernel
theorem dX10_likely_90 : decode cX10_likely 90 = .ok (.ireturn, 1) := by decide +kernel
theorem dX10_leastTerm_0 : decode cX10_leastTerm 0 = .ok (.iload_n 1, 1) := by decide +kernel
theorem dX10_leastTerm_1 : decode cX10_leastTerm 1 = .ok (.istore_n 3, 1) := by decide +kernel
theorem dX10_leastTerm_2 : decode cX10_leastTerm 2 = .ok (.iload_n 2, 1) := by decide +kernel
theorem dX10_leastTerm_3 : decode cX10_leastTerm 3 = .ok (.istore 4, 2) := by decide +kernel
theorem dX10_leastTerm_5 : decode cX10_leastTerm 5 = .ok (.iconst 0, 1) := by decide +kernel
theorem dX10_leastTerm_6 : decode cX10_leastTerm 6 = .ok (.istore 5, 2) := by decide +kernel
theorem dX10_leastTerm_8 : decode cX10_leastTerm 8 = .ok (.iload 5, 2) := by decide +kernel
theorem dX10_leastTerm_10 : decode cX10_leastTerm 10 = .ok (.bipush 64, 2) := by decide +kernel
theorem dX10_leastTerm_12 : decode cX10_leastTerm 12 = .ok (.if_icmp .ge 27, 3) := by decide +kernel
theorem dX10_leastTerm_15 : decode cX10_leastTerm 15 = .ok (.iload 4, 2) := by decide +kernel
theorem dX10_leastTerm_17 : decode cX10_leastTerm 17 = .ok (.ifCond .eq 22, 3) := by decide +kernel
theorem dX10_leastTerm_20 : decode cX10_leastTerm 20 = .ok (.iload_n 3, 1) := by decide +kernel
theorem dX10_leastTerm_21 : decode cX10_leastTerm 21 = .ok (.iload 4, 2) := by decide +kernel
theorem dX10_leastTerm_23 : decode cX10_leastTerm 23 = .ok (.irem, 1) := by decide +kernel
theorem dX10_leastTerm_24 : decode cX10_leastTerm 24 = .ok (.istore 6, 2) := by decide +kernel
theorem dX10_leastTerm_26 : decode cX10_leastTerm 26 = .ok (.iload 4, 2) := by decide +kernel
theorem dX10_leastTerm_28 : decode cX10_leastTerm 28 = .ok (.istore_n 3, 1) := by decide +kernel
theorem dX10_leastTerm_29 : decode cX10_leastTerm 29 = .ok (.iload 6, 2) := by decide +kernel
theorem dX10_leastTerm_31 : decode cX10_leastTerm 31 = .ok (.istore 4, 2) := by decide +kernel
theorem dX10_leastTerm_33 : decode cX10_leastTerm 33 = .ok (.iinc 5 1, 3) := by decide +kernel
theorem dX10_leastTerm_36 : decode cX10_leastTerm 36 = .ok (.goto (-28), 3) := by decide +kernel
theorem dX10_leastTerm_39 : decode cX10_leastTerm 39 = .ok (.iload_n 3, 1) := by decide +kernel
theorem dX10_leastTerm_40 : decode cX10_leastTerm 40 = .ok (.ifCond .le 9, 3) := by decide +kernel
theorem dX10_leastTerm_43 : decode cX10_leastTerm 43 = .ok (.iload_n 0, 1) := by decide +kernel
theorem dX10_leastTerm_44 : decode cX10_leastTerm 44 = .ok (.iload_n 3, 1) := by decide +kernel
theorem dX10_leastTerm_45 : decode cX10_leastTerm 45 = .ok (.idiv, 1) := by decide +kernel
theorem dX10_leastTerm_46 : decode cX10_leastTerm 46 = .ok (.goto 4, 3) := by decide +kernel
theorem dX10_leastTerm_49 : decode cX10_leastTerm 49 = .ok (.iload_n 0, 1) := by decide +kernel
theorem dX10_leastTerm_50 : decode cX10_leastTerm 50 = .ok (.ireturn, 1) := by decide +kernel
theorem dX10_secret_0 : decode cX10_secret 0 = .ok (.aload_n 0, 1) := by decide +kernel
theorem dX10_secret_1 : decode cX10_secret 1 = .ok (.iload_n 1, 1) := by decide +kernel
theorem dX10_secret_2 : decode cX10_secret 2 = .ok (.iload_n 2, 1) := by decide +kernel
theorem dX10_secret_3 : decode cX10_secret 3 = .ok (.invokevirtual 245, 3) := by decide +kernel
theorem dX10_secret_6 : decode cX10_secret 6 = .ok (.ifCond .ne 5, 3) := by decide +kernel
theorem dX10_secret_9 : decode cX10_secret 9 = .ok (.iconst (-1), 1) := by decide +kernel
theorem dX10_secret_10 : decode cX10_secret 10 = .ok (.ireturn, 1) := by decide +kernel
theorem dX10_secret_11 : decode cX10_secret 11 = .ok (.aload_n 0, 1) := by decide +kernel
theorem dX10_secret_12 : decode cX10_secret 12 = .ok (.getfield 67, 3) := by decide +kernel
theorem dX10_secret_15 : decode cX10_secret 15 = .ok (.iload_n 2, 1) := by decide +kernel
theorem dX10_secret_16 : decode cX10_secret 16 = .ok (.iload_n 1, 1) := by decide +kernel
theorem dX10_secret_17 : decode cX10_secret 17 = .ok (.invokevirtual 163, 3) := by decide +kernel
theorem dX10_secret_20 : decode cX10_secret 20 = .ok (.ifCond .eq 7, 3) := by decide +kernel
theorem dX10_secret_23 : decode cX10_secret 23 = .ok (.iconst 0, 1) := by decide +kernel
theorem dX10_secret_24 : decode cX10_secret 24 = .ok (.goto 4, 3) := by decide +kernel
theorem dX10_secret_27 : decode cX10_secret 27 = .ok (.iconst 1, 1) := by decide +kernel
theorem dX10_secret_28 : decode cX10_secret 28 = .ok (.ireturn, 1) := by decide +kernel
theorem dX10_rests_0 : decode cX10_rests 0 = .ok (.aload_n 0, 1) := by decide +kernel
theorem dX10_rests_1 : decode cX10_rests 1 = .ok (.iload_n 1, 1) := by decide +kernel
theorem dX10_rests_2 : decode cX10_rests 2 = .ok (.iload_n 2, 1) := by decide +kernel
theorem dX10_rests_3 : decode cX10_rests 3 = .ok (.invokevirtual 245, 3) := by decide +kernel
theorem dX10_rests_6 : decode cX10_rests 6 = .ok (.ifCond .ne 5, 3) := by decide +kernel
theorem dX10_rests_9 : decode cX10_rests 9 = .ok (.iconst (-1), 1) := by decide +kernel
theorem dX10_rests_10 : decode cX10_rests 10 = .ok (.ireturn, 1) := by decide +kernel
theorem dX10_rests_11 : decode cX10_rests 11 = .ok (.iconst 0, 1) := by decide +kernel
theorem dX10_rests_12 : decode cX10_rests 12 = .ok (.istore_n 3, 1) := by decide +kernel
theorem dX10_rests_13 : decode cX10_rests 13 = .ok (.iconst 0, 1) := by decide +kernel
theorem dX10_rests_14 : decode cX10_rests 14 = .ok (.istore 4, 2) := by decide +kernel
theorem dX10_rests_16 : decode cX10_rests 16 = .ok (.iload 4, 2) := by decide +kernel
theorem dX10_rests_18 : decode cX10_rests 18 = .ok (.iconst 4, 1) := by decide +kernel
theorem dX10_rests_19 : decode cX10_rests 19 = .ok (.if_icmp .ge 28, 3) := by decide +kernel
theorem dX10_rests_22 : decode cX10_rests 22 = .ok (.iload_n 3, 1) := by decide +kernel
theorem dX10_rests_23 : decode cX10_rests 23 = .ok (.aload_n 0, 1) := by decide +kernel
theorem dX10_rests_24 : decode cX10_rests 24 = .ok (.iload_n 1, 1) := by decide +kernel
theorem dX10_rests_25 : decode cX10_rests 25 = .ok (.iload_n 2, 1) := by decide +kernel
theorem dX10_rests_26 : decode cX10_rests 26 = .ok (.iload 4, 2) := by decide +kernel
theorem dX10_rests_28 : decode cX10_rests 28 = .ok (.invokevirtual 292, 3) := by decide +kernel
theorem dX10_rests_31 : decode cX10_rests 31 = .ok (.ifCond .eq 7, 3) := by decide +kernel
theorem dX10_rests_34 : decode cX10_rests 34 = .ok (.iconst 1, 1) := by decide +kernel
theorem dX10_rests_35 : decode cX10_rests 35 = .ok (.goto 4, 3) := by decide +kernel
theorem dX10_rests_38 : decode cX10_rests 38 = .ok (.iconst 0, 1) := by decide +kernel
theorem dX10_rests_39 : decode cX10_rests 39 = .ok (.iadd, 1) := by decide +kernel
theorem dX10_rests_40 : decode cX10_rests 40 = .ok (.istore_n 3, 1) := by decide +kernel
theorem dX10_rests_41 : decode cX10_rests 41 = .ok (.iinc 4 1, 3) := by decide +kernel
theorem dX10_rests_44 : decode cX10_rests 44 = .ok (.goto (-28), 3) := by decide +kernel
theorem dX10_rests_47 : decode cX10_rests 47 = .ok (.iload_n 3, 1) := by decide +kernel
theorem dX10_rests_48 : decode cX10_rests 48 = .ok (.ireturn, 1) := by decide +kernel
theorem dX10_rest_0 : decode cX10_rest 0 = .ok (.aload_n 0, 1) := by decide +kernel
theorem dX10_rest_1 : decode cX10_rest 1 = .ok (.iload_n 1, 1) := by decide +kernel
theorem dX10_rest_2 : decode cX10_rest 2 = .ok (.iload_n 2, 1) := by decide +kernel
theorem dX10_rest_3 : decode cX10_rest 3 = .ok (.invokevirtual 245, 3) := by decide +kernel
theorem dX10_rest_6 : decode cX10_rest 6 = .ok (.ifCond .eq 7, 3) := by decide +kernel
theorem dX10_rest_9 : decode cX10_rest 9 = .ok (.iload_n 3, 1) := by decide +kernel
theorem dX10_rest_10 : decode cX10_rest 10 = .ok (.ifCond .ge 5, 3) := by decide +kernel
theorem dX10_rest_13 : decode cX10_rest 13 = .ok (.iconst (-1), 1) := by decide +kernel
theorem dX10_rest_14 : decode cX10_rest 14 = .ok (.ireturn, 1) := by decide +kernel
theorem dX10_rest_15 : decode cX10_rest 15 = .ok (.iconst 0, 1) := by decide +kernel
theorem dX10_rest_16 : decode cX10_rest 16 = .ok (.istore 4, 2) := by decide +kernel
theorem dX10_rest_18 : decode cX10_rest 18 = .ok (.iconst 0, 1) := by decide +kernel
theorem dX10_rest_19 : decode cX10_rest 19 = .ok (.istore 5, 2) := by decide +kernel
theorem dX10_rest_21 : decode cX10_rest 21 = .ok (.iload 5, 2) := by decide +kernel
theorem dX10_rest_23 : decode cX10_rest 23 = .ok (.iconst 4, 1) := by decide +kernel
theorem dX10_rest_24 : decode cX10_rest 24 = .ok (.if_icmp .ge 42, 3) := by decide +kernel
theorem dX10_rest_27 : decode cX10_rest 27 = .ok (.aload_n 0, 1) := by decide +kernel
theorem dX10_rest_28 : decode cX10_rest 28 = .ok (.iload_n 1, 1) := by decide +kernel
theorem dX10_rest_29 : decode cX10_rest 29 = .ok (.iload_n 2, 1) := by decide +kernel
theorem dX10_rest_30 : decode cX10_rest 30 = .ok (.iload 5, 2) := by decide +kernel
theorem dX10_rest_32 : decode cX10_rest 32 = .ok (.invokevirtual 292, 3) := by decide +kernel
theorem dX10_rest_35 : decode cX10_rest 35 = .ok (.ifCond .eq 25, 3) := by decide +kernel
theorem dX10_rest_38 : decode cX10_rest 38 = .ok (.iload 4, 2) := by decide +kernel
theorem dX10_rest_40 : decode cX10_rest 40 = .ok (.iload_n 3, 1) := by decide +kernel
theorem dX10_rest_41 : decode cX10_rest 41 = .ok (.if_icmp .ne 16, 3) := by decide +kernel
theorem dX10_rest_44 : decode cX10_rest 44 = .ok (.bipush 10, 2) := by decide +kernel
theorem dX10_rest_46 : decode cX10_rest 46 = .ok (.iload 5, 2) := by decide +kernel
theorem dX10_rest_48 : decode cX10_rest 48 = .ok (.iconst 1, 1) := by decide +kernel
theorem dX10_rest_49 : decode cX10_rest 49 = .ok (.ishr, 1) := by decide +kernel
theorem dX10_rest_50 : decode cX10_rest 50 = .ok (.imul, 1) := by decide +kernel
theorem dX10_rest_51 : decode cX10_rest 51 = .ok (.iload 5, 2) := by decide +kernel
theorem dX10_rest_53 : decode cX10_rest 53 = .ok (.iconst 1, 1) := by decide +kernel
theorem dX10_rest_54 : decode cX10_rest 54 = .ok (.iand, 1) := by decide +kernel
theorem dX10_rest_55 : decode cX10_rest 55 = .ok (.iadd, 1) := by decide +kernel
theorem dX10_rest_56 : decode cX10_rest 56 = .ok (.ireturn, 1) := by decide +kernel
theorem dX10_rest_57 : decode cX10_rest 57 = .ok (.iinc 4 1, 3) := by decide +kernel
theorem dX10_rest_60 : decode cX10_rest 60 = .ok (.iinc 5 1, 3) := by decide +kernel
theorem dX10_rest_63 : decode cX10_rest 63 = .ok (.goto (-42), 3) := by decide +kernel
theorem dX10_rest_66 : decode cX10_rest 66 = .ok (.bipush (-2), 2) := by decide +kernel
theorem dX10_rest_68 : decode cX10_rest 68 = .ok (.ireturn, 1) := by decide +kernel
theorem dX10_isRest_0 : decode cX10_isRest 0 = .ok (.iload_n 3, 1) := by decide +kernel
theorem dX10_isRest_1 : decode cX10_isRest 1 = .ok (.iconst 1, 1) := by decide +kernel
theorem dX10_isRest_2 : decode cX10_isRest 2 = .ok (.ishr, 1) := by decide +kernel
theorem dX10_isRest_3 : decode cX10_isRest 3 = .ok (.istore 4, 2) := by decide +kernel
theorem dX10_isRest_5 : decode cX10_isRest 5 = .ok (.iload_n 3, 1) := by decide +kernel
theorem dX10_isRest_6 : decode cX10_isRest 6 = .ok (.iconst 1, 1) := by decide +kernel
theorem dX10_isRest_7 : decode cX10_isRest 7 = .ok (.iand, 1) := by decide +kernel
theorem dX10_isRest_8 : decode cX10_isRest 8 = .ok (.istore 5, 2) := by decide +kernel
theorem dX10_isRest_10 : decode cX10_isRest 10 = .ok (.aload_n 0, 1) := by decide +kernel
theorem dX10_isRest_11 : decode cX10_isRest 11 = .ok (.iload_n 1, 1) := by decide +kernel
theorem dX10_isRest_12 : decode cX10_isRest 12 = .ok (.iload 4, 2) := by decide +kernel
theorem dX10_isRest_14 : decode cX10_isRest 14 = .ok (.iload 5, 2) := by decide +kernel
theorem dX10_isRest_16 : decode cX10_isRest 16 = .ok (.invokevirtual 296, 3) := by decide +kernel
theorem dX10_isRest_19 : decode cX10_isRest 19 = .ok (.aload_n 0, 1) := by decide +kernel
theorem dX10_isRest_20 : decode cX10_isRest 20 = .ok (.iload_n 1, 1) := by decide +kernel
theorem dX10_isRest_21 : decode cX10_isRest 21 = .ok (.iconst 1, 1) := by decide +kernel
theorem dX10_isRest_22 : decode cX10_isRest 22 = .ok (.iload 4, 2) := by decide +kernel
theorem dX10_isRest_24 : decode cX10_isRest 24 = .ok (.isub, 1) := by decide +kernel
theorem dX10_isRest_25 : decode cX10_isRest 25 = .ok (.iload 5, 2) := by decide +kernel
theorem dX10_isRest_27 : decode cX10_isRest 27 = .ok (.invokevirtual 296, 3) := by decide +kernel
theorem dX10_isRest_30 : decode cX10_isRest 30 = .ok (.if_icmp .lt 30, 3) := by decide +kernel
theorem dX10_isRest_33 : decode cX10_isRest 33 = .ok (.aload_n 0, 1) := by decide +kernel
theorem dX10_isRest_34 : decode cX10_isRest 34 = .ok (.iload_n 2, 1) := by decide +kernel
theorem dX10_isRest_35 : decode cX10_isRest 35 = .ok (.iload 5, 2) := by decide +kernel
theorem dX10_isRest_37 : decode cX10_isRest 37 = .ok (.iload 4, 2) := by decide +kernel
theorem dX10_isRest_39 : decode cX10_isRest 39 = .ok (.invokevirtual 296, 3) := by decide +kernel
theorem dX10_isRest_42 : decode cX10_isRest 42 = .ok (.aload_n 0, 1) := by decide +kernel
theorem dX10_isRest_43 : decode cX10_isRest 43 = .ok (.iload_n 2, 1) := by decide +kernel
theorem dX10_isRest_44 : decode cX10_isRest 44 = .ok (.iconst 1, 1) := by decide +kernel
theorem dX10_isRest_45 : decode cX10_isRest 45 = .ok (.iload 5, 2) := by decide +kernel
theorem dX10_isRest_47 : decode cX10_isRest 47 = .ok (.isub, 1) := by decide +kernel
theorem dX10_isRest_48 : decode cX10_isRest 48 = .ok (.iload 4, 2) := by decide +kernel
theorem dX10_isRest_50 : decode cX10_isRest 50 = .ok (.invokevirtual 296, 3) := by decide +kernel
theorem dX10_isRest_53 : decode cX10_isRest 53 = .ok (.if_icmp .lt 7, 3) := by decide +kernel
theorem dX10_isRest_56 : decode cX10_isRest 56 = .ok (.iconst 1, 1) := by decide +kernel
theorem dX10_isRest_57 : decode cX10_isRest 57 = .ok (.goto 4, 3) := by decide +kernel
theorem dX10_isRest_60 : decode cX10_isRest 60 = .ok (.iconst 0, 1) := by decide +kernel
theorem dX10_isRest_61 : decode cX10_isRest 61 = .ok (.ireturn, 1) := by decide +kernel
theorem dX10_share_0 : decode cX10_share 0 = .ok (.iload_n 2, 1) := by decide +kernel
theorem dX10_share_1 : decode cX10_share 1 = .ok (.ifCond .ne 28, 3) := by decide +kernel
theorem dX10_share_4 : decode cX10_share 4 = .ok (.iload_n 3, 1) := by decide +kernel
theorem dX10_share_5 : decode cX10_share 5 = .ok (.ifCond .ne 8, 3) := by decide +kernel
theorem dX10_share_8 : decode cX10_share 8 = .ok (.bipush 9, 2) := by decide +kernel
theorem dX10_share_10 : decode cX10_share 10 = .ok (.goto 5, 3) := by decide +kernel
theorem dX10_share_13 : decode cX10_share 13 = .ok (.bipush 12, 2) := by decide +kernel
theorem dX10_share_15 : decode cX10_share 15 = .ok (.aload_n 0, 1) := by decide +kernel
theorem dX10_share_16 : decode cX10_share 16 = .ok (.getfield 67, 3) := by decide +kernel
theorem dX10_share_19 : decode cX10_share 19 = .ok (.iload_n 1, 1) := by decide +kernel
theorem dX10_share_20 : decode cX10_share 20 = .ok (.invokevirtual 157, 3) := by decide +kernel
theorem dX10_share_23 : decode cX10_share 23 = .ok (.isub, 1) := by decide +kernel
theorem dX10_share_24 : decode cX10_share 24 = .ok (.iconst 0, 1) := by decide +kernel
theorem dX10_share_25 : decode cX10_share 25 = .ok (.invokestatic 299, 3) := by decide +kernel
theorem dX10_share_28 : decode cX10_share 28 = .ok (.ireturn, 1) := by decide +kernel
theorem dX10_share_29 : decode cX10_share 29 = .ok (.aload_n 0, 1) := by decide +kernel
theorem dX10_share_30 : decode cX10_share 30 = .ok (.getfield 67, 3) := by decide +kernel
theorem dX10_share_33 : decode cX10_share 33 = .ok (.getfield 144, 3) := by decide +kernel
theorem dX10_share_36 : decode cX10_share 36 = .ok (.iload_n 1, 1) := by decide +kernel
theorem dX10_share_37 : decode cX10_share 37 = .ok (.iaload, 1) := by decide +kernel
theorem dX10_share_38 : decode cX10_share 38 = .ok (.invokestatic 217, 3) := by decide +kernel
theorem dX10_share_41 : decode cX10_share 41 = .ok (.iload_n 3, 1) := by decide +kernel
theorem dX10_share_42 : decode cX10_share 42 = .ok (.ifCond .ne 7, 3) := by decide +kernel
theorem dX10_share_45 : decode cX10_share 45 = .ok (.iconst 2, 1) := by decide +kernel
theorem dX10_share_46 : decode cX10_share 46 = .ok (.goto 4, 3) := by decide +kernel
theorem dX10_share_49 : decode cX10_share 49 = .ok (.iconst 0, 1) := by decide +kernel
theorem dX10_share_50 : decode cX10_share 50 = .ok (.iadd, 1) := by decide +kernel
theorem dX10_share_51 : decode cX10_share 51 = .ok (.ireturn, 1) := by decide +kernel
theorem dX10_chance_0 : decode cX10_chance 0 = .ok (.iload_n 1, 1) := by decide +kernel
theorem dX10_chance_1 : decode cX10_chance 1 = .ok (.ifCond .lt 22, 3) := by decide +kernel
theorem dX10_chance_4 : decode cX10_chance 4 = .ok (.iload_n 2, 1) := by decide +kernel
theorem dX10_chance_5 : decode cX10_chance 5 = .ok (.iconst 1, 1) := by decide +kernel
theorem dX10_chance_6 : decode cX10_chance 6 = .ok (.if_icmp .lt 17, 3) := by decide +kernel
theorem dX10_chance_9 : decode cX10_chance 9 = .ok (.iload_n 2, 1) := by decide +kernel
theorem dX10_chance_10 : decode cX10_chance 10 = .ok (.bipush 99, 2) := by decide +kernel
theorem dX10_chance_12 : decode cX10_chance 12 = .ok (.if_icmp .gt 11, 3) := by decide +kernel
theorem dX10_chance_15 : decode cX10_chance 15 = .ok (.aload_n 0, 1) := by decide +kernel
theorem dX10_chance_16 : decode cX10_chance 16 = .ok (.iload_n 3, 1) := by decide +kernel
theorem dX10_chance_17 : decode cX10_chance 17 = .ok (.invokevirtual 134, 3) := by decide +kernel
theorem dX10_chance_20 : decode cX10_chance 20 = .ok (.ifCond .ne 5, 3) := by decide +kernel
theorem dX10_chance_23 : decode cX10_chance 23 = .ok (.iconst (-1), 1) := by decide +kernel
theorem dX10_chance_24 : decode cX10_chance 24 = .ok (.ireturn, 1) := by decide +kernel
theorem dX10_chance_25 : decode cX10_chance 25 = .ok (.aload_n 0, 1) := by decide +kernel
theorem dX10_chance_26 : decode cX10_chance 26 = .ok (.getfield 60, 3) := by decide +kernel
theorem dX10_chance_29 : decode cX10_chance 29 = .ok (.aload_n 0, 1) := by decide +kernel
theorem dX10_chance_30 : decode cX10_chance 30 = .ok (.getfield 48, 3) := by decide +kernel
theorem dX10_chance_33 : decode cX10_chance 33 = .ok (.iconst 1, 1) := by decide +kernel
theorem dX10_chance_34 : decode cX10_chance 34 = .ok (.iconst (-1), 1) := by decide +kernel
theorem dX10_chance_35 : decode cX10_chance 35 = .ok (.iconst (-1), 1) := by decide +kernel
theorem dX10_chance_36 : decode cX10_chance 36 = .ok (.invokevirtual 230, 3) := by decide +kernel
theorem dX10_chance_39 : decode cX10_chance 39 = .ok (.iload_n 1, 1) := by decide +kernel
theorem dX10_chance_40 : decode cX10_chance 40 = .ok (.i2l, 1) := by decide +kernel
theorem dX10_chance_41 : decode cX10_chance 41 = .ok (.lstore 4, 2) := by decide +kernel
theorem dX10_chance_43 : decode cX10_chance 43 = .ok (.iconst 0, 1) := by decide +kernel
theorem dX10_chance_44 : decode cX10_chance 44 = .ok (.istore 6, 2) := by decide +kernel
theorem dX10_chance_46 : decode cX10_chance 46 = .ok (.iconst 0, 1) := by decide +kernel
theorem dX10_chance_47 : decode cX10_chance 47 = .ok (.istore 7, 2) := by decide +kernel
theorem dX10_chance_49 : decode cX10_chance 49 = .ok (.iload 7, 2) := by decide +kernel
theorem dX10_chance_51 : decode cX10_chance 51 = .ok (.bipush 10, 2) := by decide +kernel
theorem dX10_chance_53 : decode cX10_chance 53 = .ok (.if_icmp .ge 66, 3) := by decide +kernel
theorem dX10_chance_56 : decode cX10_chance 56 = .ok (.aload_n 0, 1) := by decide +kernel
theorem dX10_chance_57 : decode cX10_chance 57 = .ok (.getfield 71, 3) := by decide +kernel
theorem dX10_chance_60 : decode cX10_chance 60 = .ok (.aload_n 0, 1) := by decide +kernel
theorem dX10_chance_61 : decode cX10_chance 61 = .ok (.getfield 67, 3) := by decide +kernel
theorem dX10_chance_64 : decode cX10_chance 64 = .ok (.invokevirtual 226, 3) := by decide +kernel
theorem dX10_chance_67 : decode cX10_chance 67 = .ok (.aload_n 0, 1) := by decide +kernel
theorem dX10_chance_68 : decode cX10_chance 68 = .ok (.getfield 71, 3) := by decide +kernel
theorem dX10_chance_71 : decode cX10_chance 71 = .ok (.lload 4, 2) := by decide +kernel
theorem dX10_chance_73 : decode cX10_chance 73 = .ok (.putfield 302, 3) := by decide +kernel
theorem dX10_chance_76 : decode cX10_chance 76 = .ok (.aload_n 0, 1) := by decide +kernel
theorem dX10_chance_77 : decode cX10_chance 77 = .ok (.getfield 60, 3) := by decide +kernel
theorem dX10_chance_80 : decode cX10_chance 80 = .ok (.aload_n 0, 1) := by decide +kernel
theorem dX10_chance_81 : decode cX10_chance 81 = .ok (.getfield 71, 3) := by decide +kernel
theorem dX10_chance_84 : decode cX10_chance 84 = .ok (.iload_n 2, 1) := by decide +kernel
theorem dX10_chance_85 : decode cX10_chance 85 = .ok (.invokevirtual 263, 3) := by decide +kernel
theorem dX10_chance_88 : decode cX10_chance 88 = .ok (.aload_n 0, 1) := by decide +kernel
theorem dX10_chance_89 : decode cX10_chance 89 = .ok (.getfield 71, 3) := by decide +kernel
theorem dX10_chance_92 : decode cX10_chance 92 = .ok (.getfield 302, 3) := by decide +kernel
theorem dX10_chance_95 : decode cX10_chance 95 = .ok (.lstore 4, 2) := by decide +kernel
theorem dX10_chance_97 : decode cX10_chance 97 = .ok (.iload 6, 2) := by decide +kernel
theorem dX10_chance_99 : decode cX10_chance 99 = .ok (.aload_n 0, 1) := by decide +kernel
theorem dX10_chance_100 : decode cX10_chance 100 = .ok (.getfield 71, 3) := by decide +kernel
theorem dX10_chance_103 : decode cX10_chance 103 = .ok (.getfield 147, 3) := by decide +kernel
theorem dX10_chance_106 : decode cX10_chance 106 = .ok (.iload_n 3, 1) := by decide +kernel
theorem dX10_chance_107 : decode cX10_chance 107 = .ok (.ishr, 1) := by decide +kernel
theorem dX10_chance_108 : decode cX10_chance 108 = .ok (.iconst 1, 1) := by decide +kernel
theorem dX10_chance_109 : decode cX10_chance 109 = .ok (.iand, 1) := by decide +kernel
theorem dX10_chance_110 : decode cX10_chance 110 = .ok (.iadd, 1) := by decide +kernel
theorem dX10_chance_111 : decode cX10_chance 111 = .ok (.istore 6, 2) := by decide +kernel
theorem dX10_chance_113 : decode cX10_chance 113 = .ok (.iinc 7 1, 3) := by decide +kernel
theorem dX10_chance_116 : decode cX10_chance 116 = .ok (.goto (-67), 3) := by decide +kernel
theorem dX10_chance_119 : decode cX10_chance 119 = .ok (.iload 6, 2) := by decide +kernel
theorem dX10_chance_121 : decode cX10_chance 121 = .ok (.ireturn, 1) := by decide +kernel
theorem dX10_tried_0 : decode cX10_tried 0 = .ok (.iload_n 1, 1) := by decide +kernel
theorem dX10_tried_1 : decode cX10_tried 1 = .ok (.ifCond .lt 19, 3) := by decide +kernel
theorem dX10_tried_4 : decode cX10_tried 4 = .ok (.iload_n 1, 1) := by decide +kernel
theorem dX10_tried_5 : decode cX10_tried 5 = .ok (.iconst 4, 1) := by decide +kernel
theorem dX10_tried_6 : decode cX10_tried 6 = .ok (.if_icmp .gt 14, 3) := by decide +kernel
theorem dX10_tried_9 : decode cX10_tried 9 = .ok (.iload_n 3, 1) := by decide +kernel
theorem dX10_tried_10 : decode cX10_tried 10 = .ok (.ifCond .lt 10, 3) := by decide +kernel
theorem dX10_tried_13 : decode cX10_tried 13 = .ok (.iload_n 3, 1) := by decide +kernel
theorem dX10_tried_14 : decode cX10_tried 14 = .ok (.sipush 200, 3) := by decide +kernel
theorem dX10_tried_17 : decode cX10_tried 17 = .ok (.if_icmp .le 5, 3) := by decide +kernel
theorem dX10_tried_20 : decode cX10_tried 20 = .ok (.iconst (-1), 1) := by decide +kernel
theorem dX10_tried_21 : decode cX10_tried 21 = .ok (.ireturn, 1) := by decide +kernel
theorem dX10_tried_22 : decode cX10_tried 22 = .ok (.iload_n 1, 1) := by decide +kernel
theorem dX10_tried_23 : decode cX10_tried 23 = .ok (.iconst 2, 1) := by decide +kernel
theorem dX10_tried_24 : decode cX10_tried 24 = .ok (.if_icmp .ne 14, 3) := by decide +kernel
theorem dX10_tried_27 : decode cX10_tried 27 = .ok (.aload_n 0, 1) := by decide +kernel
theorem dX10_tried_28 : decode cX10_tried 28 = .ok (.iload_n 2, 1) := by decide +kernel
theorem dX10_tried_29 : decode cX10_tried 29 = .ok (.invokevirtual 134, 3) := by decide +kernel
theorem dX10_tried_32 : decode cX10_tried 32 = .ok (.ifCond .ne 12, 3) := by decide +kernel
theorem dX10_tried_35 : decode cX10_tried 35 = .ok (.goto 7, 3) := by decide +kernel
theorem dX10_tried_38 : decode cX10_tried 38 = .ok (.iload_n 2, 1) := by decide +kernel
theorem dX10_tried_39 : decode cX10_tried 39 = .ok (.ifCond .eq 5, 3) := by decide +kernel
theorem dX10_tried_42 : decode cX10_tried 42 = .ok (.iconst (-1), 1) := by decide +kernel
theorem dX10_tried_43 : decode cX10_tried 43 = .ok (.ireturn, 1) := by decide +kernel
theorem dX10_tried_44 : decode cX10_tried 44 = .ok (.aload_n 0, 1) := by decide +kernel
theorem dX10_tried_45 : decode cX10_tried 45 = .ok (.getfield 71, 3) := by decide +kernel
theorem dX10_tried_48 : decode cX10_tried 48 = .ok (.aload_n 0, 1) := by decide +kernel
theorem dX10_tried_49 : decode cX10_tried 49 = .ok (.getfield 67, 3) := by decide +kernel
theorem dX10_tried_52 : decode cX10_tried 52 = .ok (.invokevirtual 226, 3) := by decide +kernel
theorem dX10_tried_55 : decode cX10_tried 55 = .ok (.iload_n 1, 1) := by decide +kernel
theorem dX10_tried_56 : decode cX10_tried 56 = .ok (.iconst 4, 1) := by decide +kernel
theorem dX10_tried_57 : decode cX10_tried 57 = .ok (.if_icmp .ne 10, 3) := by decide +kernel
theorem dX10_tried_60 : decode cX10_tried 60 = .ok (.aload_n 0, 1) := by decide +kernel
theorem dX10_tried_61 : decode cX10_tried 61 = .ok (.getfield 71, 3) := by decide +kernel
theorem dX10_tried_64 : decode cX10_tried 64 = .ok (.invokevirtual 306, 3) := by decide +kernel
theorem dX10_tried_67 : decode cX10_tried 67 = .ok (.aload_n 0, 1) := by decide +kernel
theorem dX10_tried_68 : decode cX10_tried 68 = .ok (.getfield 60, 3) := by decide +kernel
theorem dX10_tried_71 : decode cX10_tried 71 = .ok (.aload_n 0, 1) := by decide +kernel
theorem dX10_tried_72 : decode cX10_tried 72 = .ok (.getfield 48, 3) := by decide +kernel
theorem dX10_tried_75 : decode cX10_tried 75 = .ok (.iconst 0, 1) := by decide +kernel
theorem dX10_tried_76 : decode cX10_tried 76 = .ok (.iload_n 1, 1) := by decide +kernel
theorem dX10_tried_77 : decode cX10_tried 77 = .ok (.iload_n 2, 1) := by decide +kernel
theorem dX10_tried_78 : decode cX10_tried 78 = .ok (.invokevirtual 230, 3) := by decide +kernel
theorem dX10_tried_81 : decode cX10_tried 81 = .ok (.aload_n 0, 1) := by decide +kernel
theorem dX10_tried_82 : decode cX10_tried 82 = .ok (.getfield 60, 3) := by decide +kernel
theorem dX10_tried_85 : decode cX10_tried 85 = .ok (.aload_n 0, 1) := by decide +kernel
theorem dX10_tried_86 : decode cX10_tried 86 = .ok (.getfield 71, 3) := by decide +kernel
theorem dX10_tried_89 : decode cX10_tried 89 = .ok (.iload_n 3, 1) := by decide +kernel
theorem dX10_tried_90 : decode cX10_tried 90 = .ok (.invokevirtual 263, 3) := by decide +kernel
theorem dX10_tried_93 : decode cX10_tried 93 = .ok (.aload_n 0, 1) := by decide +kernel
theorem dX10_tried_94 : decode cX10_tried 94 = .ok (.getfield 71, 3) := by decide +kernel
theorem dX10_tried_97 : decode cX10_tried 97 = .ok (.getfield 167, 3) := by decide +kernel
theorem dX10_tried_100 : decode cX10_tried 100 = .ok (.ireturn, 1) := by decide +kernel
theorem dX10_undo_0 : decode cX10_undo 0 = .ok (.aload_n 0, 1) := by decide +kernel
theorem dX10_undo_1 : decode cX10_undo 1 = .ok (.getfield 105, 3) := by decide +kernel
theorem dX10_undo_4 : decode cX10_undo 4 = .ok (.ifCond .gt 5, 3) := by decide +kernel
theorem dX10_undo_7 : decode cX10_undo 7 = .ok (.iconst (-1), 1) := by decide +kernel
theorem dX10_undo_8 : decode cX10_undo 8 = .ok (.ireturn, 1) := by decide +kernel
theorem dX10_undo_9 : decode cX10_undo 9 = .ok (.aload_n 0, 1) := by decide +kernel
theorem dX10_undo_10 : decode cX10_undo 10 = .ok (.aload_n 0, 1) := by decide +kernel
theorem dX10_undo_11 : decode cX10_undo 11 = .ok (.getfield 252, 3) := by decide +kernel
theorem dX10_undo_14 : decode cX10_undo 14 = .ok (.ifCond .le 12, 3) := by decide +kernel
theorem dX10_undo_17 : decode cX10_undo 17 = .ok (.aload_n 0, 1) := by decide +kernel
theorem dX10_undo_18 : decode cX10_undo 18 = .ok (.getfield 252, 3) := by decide +kernel
theorem dX10_undo_21 : decode cX10_undo 21 = .ok (.iconst 1, 1) := by decide +kernel
theorem dX10_undo_22 : decode cX10_undo 22 = .ok (.isub, 1) := by decide +kernel
theorem dX10_undo_23 : decode cX10_undo 23 = .ok (.goto 5, 3) := by decide +kernel
theorem dX10_undo_26 : decode cX10_undo 26 = .ok (.bipush 19, 2) := by decide +kernel
theorem dX10_undo_28 : decode cX10_undo 28 = .ok (.putfield 252, 3) := by decide +kernel
theorem dX10_undo_31 : decode cX10_undo 31 = .ok (.aload_n 0, 1) := by decide +kernel
theorem dX10_undo_32 : decode cX10_undo 32 = .ok (.dup, 1) := by decide +kernel
theorem dX10_undo_33 : decode cX10_undo 33 = .ok (.getfield 105, 3) := by decide +kernel
theorem dX10_undo_36 : decode cX10_undo 36 = .ok (.iconst 1, 1) := by decide +kernel
theorem dX10_undo_37 : decode cX10_undo 37 = .ok (.isub, 1) := by decide +kernel
theorem dX10_undo_38 : decode cX10_undo 38 = .ok (.putfield 105, 3) := by decide +kernel
theorem dX10_undo_41 : decode cX10_undo 41 = .ok (.aload_n 0, 1) := by decide +kernel
theorem dX10_undo_42 : decode cX10_undo 42 = .ok (.getfield 252, 3) := by decide +kernel
theorem dX10_undo_45 : decode cX10_undo 45 = .ok (.bipush 20, 2) := by decide +kernel
theorem dX10_undo_47 : decode cX10_undo 47 = .ok (.if_icmp .ge 31, 3) := by decide +kernel
theorem dX10_undo_50 : decode cX10_undo 50 = .ok (.aload_n 0, 1) := by decide +kernel
theorem dX10_undo_51 : decode cX10_undo 51 = .ok (.getfield 77, 3) := by decide +kernel
theorem dX10_undo_54 : decode cX10_undo 54 = .ok (.aload_n 0, 1) := by decide +kernel
theorem dX10_undo_55 : decode cX10_undo 55 = .ok (.getfield 252, 3) := by decide +kernel
theorem dX10_undo_58 : decode cX10_undo 58 = .ok (.aaload, 1) := by decide +kernel
theorem dX10_undo_59 : decode cX10_undo 59 = .ok (.ifnull 19, 3) := by decide +kernel
theorem dX10_undo_62 : decode cX10_undo 62 = .ok (.aload_n 0, 1) := by decide +kernel
theorem dX10_undo_63 : decode cX10_undo 63 = .ok (.getfield 67, 3) := by decide +kernel
theorem dX10_undo_66 : decode cX10_undo 66 = .ok (.aload_n 0, 1) := by decide +kernel
theorem dX10_undo_67 : decode cX10_undo 67 = .ok (.getfield 77, 3) := by decide +kernel
theorem dX10_undo_70 : decode cX10_undo 70 = .ok (.aload_n 0, 1) := by decide +kernel
theorem dX10_undo_71 : decode cX10_undo 71 = .ok (.getfield 252, 3) := by decide +kernel
theorem dX10_undo_74 : decode cX10_undo 74 = .ok (.aaload, 1) := by decide +kernel
theorem dX10_undo_75 : decode cX10_undo 75 = .ok (.invokevirtual 226, 3) := by decide +kernel
theorem dX10_undo_78 : decode cX10_undo 78 = .ok (.aload_n 0, 1) := by decide +kernel
theorem dX10_undo_79 : decode cX10_undo 79 = .ok (.getfield 105, 3) := by decide +kernel
theorem dX10_undo_82 : decode cX10_undo 82 = .ok (.ireturn, 1) := by decide +kernel
theorem dX10_keep_0 : decode cX10_keep 0 = .ok (.aload_n 0, 1) := by decide +kernel
theorem dX10_keep_1 : decode cX10_keep 1 = .ok (.getfield 74, 3) := by decide +kernel
theorem dX10_keep_4 : decode cX10_keep 4 = .ok (.aload_n 0, 1) := by decide +kernel
theorem dX10_keep_5 : decode cX10_keep 5 = .ok (.getfield 67, 3) := by decide +kernel
theorem dX10_keep_8 : decode cX10_keep 8 = .ok (.invokevirtual 226, 3) := by decide +kernel
theorem dX10_keep_11 : decode cX10_keep 11 = .ok (.aload_n 0, 1) := by decide +kernel
theorem dX10_keep_12 : decode cX10_keep 12 = .ok (.iconst 1, 1) := by decide +kernel
theorem dX10_keep_13 : decode cX10_keep 13 = .ok (.putfield 101, 3) := by decide +kernel
theorem dX10_keep_16 : decode cX10_keep 16 = .ok (.aload_n 0, 1) := by decide +kernel
theorem dX10_keep_17 : decode cX10_keep 17 = .ok (.getfield 67, 3) := by decide +kernel
theorem dX10_keep_20 : decode cX10_keep 20 = .ok (.getfield 260, 3) := by decide +kernel
theorem dX10_keep_23 : decode cX10_keep 23 = .ok (.ireturn, 1) := by decide +kernel
theorem dX10_back_0 : decode cX10_back 0 = .ok (.aload_n 0, 1) := by decide +kernel
theorem dX10_back_1 : decode cX10_back 1 = .ok (.getfield 101, 3) := by decide +kernel
theorem dX10_back_4 : decode cX10_back 4 = .ok (.ifCond .ne 5, 3) := by decide +kernel
theorem dX10_back_7 : decode cX10_back 7 = .ok (.iconst (-1), 1) := by decide +kernel
theorem dX10_back_8 : decode cX10_back 8 = .ok (.ireturn, 1) := by decide +kernel
theorem dX10_back_9 : decode cX10_back 9 = .ok (.aload_n 0, 1) := by decide +kernel
theorem dX10_back_10 : decode cX10_back 10 = .ok (.getfield 67, 3) := by decide +kernel
theorem dX10_back_13 : decode cX10_back 13 = .ok (.aload_n 0, 1) := by decide +kernel
theorem dX10_back_14 : decode cX10_back 14 = .ok (.getfield 74, 3) := by decide +kernel
theorem dX10_back_17 : decode cX10_back 17 = .ok (.invokevirtual 226, 3) := by decide +kernel
theorem dX10_back_20 : decode cX10_back 20 = .ok (.aload_n 0, 1) := by decide +kernel
theorem dX10_back_21 : decode cX10_back 21 = .ok (.iconst 0, 1) := by decide +kernel
theorem dX10_back_22 : decode cX10_back 22 = .ok (.putfield 105, 3) := by decide +kernel
theorem dX10_back_25 : decode cX10_back 25 = .ok (.aload_n 0, 1) := by decide +kernel
theorem dX10_back_26 : decode cX10_back 26 = .ok (.getfield 67, 3) := by decide +kernel
theorem dX10_back_29 : decode cX10_back 29 = .ok (.getfield 260, 3) := by decide +kernel
theorem dX10_back_32 : decode cX10_back 32 = .ok (.ireturn, 1) := by decide +kernel
theorem dX10_count_0 : decode cX10_count 0 = .ok (.iload_n 1, 1) := by decide +kernel
theorem dX10_count_1 : decode cX10_count 1 = .ok (.tableswitch 198 0 13 #[71, 82, 93, 104, 112, 120, 131, 139, 147, 158, 169, 177, 185, 193], 71) := by decide +kernel
theorem dX10_count_72 : decode cX10_count 72 = .ok (.aload_n 0, 1) := by decide +kernel
theorem dX10_count_73 : decode cX10_count 73 = .ok (.getfield 48, 3) := by decide +kernel
theorem dX10_count_76 : decode cX10_count 76 = .ok (.getfield 114, 3) := by decide +kernel
theorem dX10_count_79 : decode cX10_count 79 = .ok (.getfield 309, 3) := by decide +kernel
theorem dX10_count_82 : decode cX10_count 82 = .ok (.ireturn, 1) := by decide +kernel
theorem dX10_count_83 : decode cX10_count 83 = .ok (.aload_n 0, 1) := by decide +kernel
theorem dX10_count_84 : decode cX10_count 84 = .ok (.getfield 48, 3) := by decide +kernel
theorem dX10_count_87 : decode cX10_count 87 = .ok (.getfield 124, 3) := by decide +kernel
theorem dX10_count_90 : decode cX10_count 90 = .ok (.getfield 309, 3) := by decide +kernel
theorem dX10_count_93 : decode cX10_count 93 = .ok (.ireturn, 1) := by decide +kernel
theorem dX10_count_94 : decode cX10_count 94 = .ok (.aload_n 0, 1) := by decide +kernel
theorem dX10_count_95 : decode cX10_count 95 = .ok (.getfield 48, 3) := by decide +kernel
theorem dX10_count_98 : decode cX10_count 98 = .ok (.getfield 127, 3) := by decide +kernel
theorem dX10_count_101 : decode cX10_count 101 = .ok (.getfield 309, 3) := by decide +kernel
theorem dX10_count_104 : decode cX10_count 104 = .ok (.ireturn, 1) := by decide +kernel
theorem dX10_count_105 : decode cX10_count 105 = .ok (.aload_n 0, 1) := by decide +kernel
theorem dX10_count_106 : decode cX10_count 106 = .ok (.getfield 48, 3) := by decide +kernel
theorem dX10_count_109 : decode cX10_count 109 = .ok (.getfield 310, 3) := by decide +kernel
theorem dX10_count_112 : decode cX10_count 112 = .ok (.ireturn, 1) := by decide +kernel
theorem dX10_count_113 : decode cX10_count 113 = .ok (.aload_n 0, 1) := by decide +kernel
theorem dX10_count_114 : decode cX10_count 114 = .ok (.getfield 48, 3) := by decide +kernel
theorem dX10_count_117 : decode cX10_count 117 = .ok (.getfield 313, 3) := by decide +kernel
theorem dX10_count_120 : decode cX10_count 120 = .ok (.ireturn, 1) := by decide +kernel
theorem dX10_count_121 : decode cX10_count 121 = .ok (.aload_n 0, 1) := by decide +kernel
theorem dX10_count_122 : decode cX10_count 122 = .ok (.getfield 48, 3) := by decide +kernel
theorem dX10_count_125 : decode cX10_count 125 = .ok (.getfield 316, 3) := by decide +kernel
theorem dX10_count_128 : decode cX10_count 128 = .ok (.getfield 320, 3) := by decide +kernel
theorem dX10_count_131 : decode cX10_count 131 = .ok (.ireturn, 1) := by decide +kernel
theorem dX10_count_132 : decode cX10_count 132 = .ok (.aload_n 0, 1) := by decide +kernel
theorem dX10_count_133 : decode cX10_count 133 = .ok (.getfield 67, 3) := by decide +kernel
theorem dX10_count_136 : decode cX10_count 136 = .ok (.getfield 260, 3) := by decide +kernel
theorem dX10_count_139 : decode cX10_count 139 = .ok (.ireturn, 1) := by decide +kernel
theorem dX10_count_140 : decode cX10_count 140 = .ok (.aload_n 0, 1) := by decide +kernel
theorem dX10_count_141 : decode cX10_count 141 = .ok (.getfield 67, 3) := by decide +kernel
theorem dX10_count_144 : decode cX10_count 144 = .ok (.getfield 167, 3) := by decide +kernel
theorem dX10_count_147 : decode cX10_count 147 = .ok (.ireturn, 1) := by decide +kernel
theorem dX10_count_148 : decode cX10_count 148 = .ok (.aload_n 0, 1) := by decide +kernel
theorem dX10_count_149 : decode cX10_count 149 = .ok (.getfield 67, 3) := by decide +kernel
theorem dX10_count_152 : decode cX10_count 152 = .ok (.invokevirtual 213, 3) := by decide +kernel
theorem dX10_count_155 : decode cX10_count 155 = .ok (.invokestatic 217, 3) := by decide +kernel
theorem dX10_count_158 : decode cX10_count 158 = .ok (.ireturn, 1) := by decide +kernel
theorem dX10_count_159 : decode cX10_count 159 = .ok (.aload_n 0, 1) := by decide +kernel
theorem dX10_count_160 : decode cX10_count 160 = .ok (.getfield 67, 3) := by decide +kernel
theorem dX10_count_163 : decode cX10_count 163 = .ok (.getfield 147, 3) := by decide +kernel
theorem dX10_count_166 : decode cX10_count 166 = .ok (.invokestatic 217, 3) := by decide +kernel
theorem dX10_count_169 : decode cX10_count 169 = .ok (.ireturn, 1) := by decide +kernel
theorem dX10_count_170 : decode cX10_count 170 = .ok (.aload_n 0, 1) := by decide +kernel
theorem dX10_count_171 : decode cX10_count 171 = .ok (.getfield 67, 3) := by decide +kernel
theorem dX10_count_174 : decode cX10_count 174 = .ok (.invokevirtual 323, 3) := by decide +kernel
theorem dX10_count_177 : decode cX10_count 177 = .ok (.ireturn, 1) := by decide +kernel
theorem dX10_count_178 : decode cX10_count 178 = .ok (.aload_n 0, 1) := by decide +kernel
theorem dX10_count_179 : decode cX10_count 179 = .ok (.getfield 67, 3) := by decide +kernel
theorem dX10_count_182 : decode cX10_count 182 = .ok (.getfield 326, 3) := by decide +kernel
theorem dX10_count_185 : decode cX10_count 185 = .ok (.ireturn, 1) := by decide +kernel
theorem dX10_count_186 : decode cX10_count 186 = .ok (.aload_n 0, 1) := by decide +kernel
theorem dX10_count_187 : decode cX10_count 187 = .ok (.getfield 67, 3) := by decide +kernel
theorem dX10_count_190 : decode cX10_count 190 = .ok (.getfield 266, 3) := by decide +kernel
theorem dX10_count_193 : decode cX10_count 193 = .ok (.ireturn, 1) := by decide +kernel
theorem dX10_count_194 : decode cX10_count 194 = .ok (.aload_n 0, 1) := by decide +kernel
theorem dX10_count_195 : decode cX10_count 195 = .ok (.getfield 105, 3) := by decide +kernel
theorem dX10_count_198 : decode cX10_count 198 = .ok (.ireturn, 1) := by decide +kernel
theorem dX10_count_199 : decode cX10_count 199 = .ok (.iconst (-1), 1) := by decide +kernel
theorem dX10_count_200 : decode cX10_count 200 = .ok (.ireturn, 1) := by decide +kernel
theorem dX10_shiftOf_0 : decode cX10_shiftOf 0 = .ok (.bipush 10, 2) := by decide +kernel
theorem dX10_shiftOf_2 : decode cX10_shiftOf 2 = .ok (.iconst 2, 1) := by decide +kernel
theorem dX10_shiftOf_3 : decode cX10_shiftOf 3 = .ok (.iload_n 0, 1) := by decide +kernel
theorem dX10_shiftOf_4 : decode cX10_shiftOf 4 = .ok (.imul, 1) := by decide +kernel
theorem dX10_shiftOf_5 : decode cX10_shiftOf 5 = .ok (.isub, 1) := by decide +kernel
theorem dX10_shiftOf_6 : decode cX10_shiftOf 6 = .ok (.ireturn, 1) := by decide +kernel
theorem dX10_colourIn_0 : decode cX10_colourIn 0 = .ok (.iload_n 0, 1) := by decide +kernel
theorem dX10_colourIn_1 : decode cX10_colourIn 1 = .ok (.iload_n 1, 1) := by decide +kernel
theorem dX10_colourIn_2 : decode cX10_colourIn 2 = .ok (.invokestatic 329, 3) := by decide +kernel
theorem dX10_colourIn_5 : decode cX10_colourIn 5 = .ok (.ishr, 1) := by decide +kernel
theorem dX10_colourIn_6 : decode cX10_colourIn 6 = .ok (.iconst 3, 1) := by decide +kernel
theorem dX10_colourIn_7 : decode cX10_colourIn 7 = .ok (.iand, 1) := by decide +kernel
theorem dX10_colourIn_8 : decode cX10_colourIn 8 = .ok (.ireturn, 1) := by decide +kernel
theorem dX11_init_0 : decode cX11_init 0 = .ok (.aload_n 0, 1) := by decide +kernel
theorem dX11_init_1 : decode cX11_init 1 = .ok (.invokespecial 1, 3) := by decide +kernel
theorem dX11_init_4 : decode cX11_init 4 = .ok (.aload_n 0, 1) := by decide +kernel
theorem dX11_init_5 : decode cX11_init 5 = .ok (.sipush 700, 3) := by decide +kernel
theorem dX11_init_8 : decode cX11_init 8 = .ok (.newarray .int, 2) := by decide +kernel
theorem dX11_init_10 : decode cX11_init 10 = .ok (.putfield 7, 3) := by decide +kernel
theorem dX11_init_13 : decode cX11_init 13 = .ok (.aload_n 0, 1) := by decide +kernel
theorem dX11_init_14 : decode cX11_init 14 = .ok (.bipush 18, 2) := by decide +kernel
theorem dX11_init_16 : decode cX11_init 16 = .ok (.newarray .int, 2) := by decide +kernel
theorem dX11_init_18 : decode cX11_init 18 = .ok (.putfield 13, 3) := by decide +kernel
theorem dX11_init_21 : decode cX11_init 21 = .ok (.aload_n 0, 1) := by decide +kernel
theorem dX11_init_22 : decode cX11_init 22 = .ok (.bipush 6, 2) := by decide +kernel
theorem dX11_init_24 : decode cX11_init 24 = .ok (.newarray .int, 2) := by decide +kernel
theorem dX11_init_26 : decode cX11_init 26 = .ok (.putfield 16, 3) := by decide +kernel
theorem dX11_init_29 : decode cX11_init 29 = .ok (.aload_n 0, 1) := by decide +kernel
theorem dX11_init_30 : decode cX11_init 30 = .ok (.bipush 6, 2) := by decide +kernel
theorem dX11_init_32 : decode cX11_init 32 = .ok (.newarray .int, 2) := by decide +kernel
theorem dX11_init_34 : decode cX11_init 34 = .ok (.putfield 19, 3) := by decide +kernel
theorem dX11_init_37 : decode cX11_init 37 = .ok (.aload_n 0, 1) := by decide +kernel
theorem dX11_init_38 : decode cX11_init 38 = .ok (.bipush 12, 2) := by decide +kernel
theorem dX11_init_40 : decode cX11_init 40 = .ok (.newarray .int, 2) := by decide +kernel
theorem dX11_init_42 : decode cX11_init 42 = .ok (.putfield 22, 3) := by decide +kernel
theorem dX11_init_45 : decode cX11_init 45 = .ok (.aload_n 0, 1) := by decide +kernel
theorem dX11_init_46 : decode cX11_init 46 = .ok (.bipush 12, 2) := by decide +kernel
theorem dX11_init_48 : decode cX11_init 48 = .ok (.newarray .int, 2) := by decide +kernel
theorem dX11_init_50 : decode cX11_init 50 = .ok (.putfield 25, 3) := by decide +kernel
theorem dX11_init_53 : decode cX11_init 53 = .ok (.aload_n 0, 1) := by decide +kernel
theorem dX11_init_54 : decode cX11_init 54 = .ok (.bipush 12, 2) := by decide +kernel
theorem dX11_init_56 : decode cX11_init 56 = .ok (.newarray .int, 2) := by decide +kernel
theorem dX11_init_58 : decode cX11_init 58 = .ok (.putfield 28, 3) := by decide +kernel
theorem dX11_init_61 : decode cX11_init 61 = .ok (.aload_n 0, 1) := by decide +kernel
theorem dX11_init_62 : decode cX11_init 62 = .ok (.bipush 16, 2) := by decide +kernel
theorem dX11_init_64 : decode cX11_init 64 = .ok (.newarray .int, 2) := by decide +kernel
theorem dX11_init_66 : decode cX11_init 66 = .ok (.putfield 31, 3) := by decide +kernel
theorem dX11_init_69 : decode cX11_init 69 = .ok (.aload_n 0, 1) := by decide +kernel
theorem dX11_init_70 : decode cX11_init 70 = .ok (.bipush 16, 2) := by decide +kernel
theorem dX11_init_72 : decode cX11_init 72 = .ok (.newarray .int, 2) := by decide +kernel
theorem dX11_init_74 : decode cX11_init 74 = .ok (.putfield 34, 3) := by decide +kernel
theorem dX11_init_77 : decode cX11_init 77 = .ok (.aload_n 0, 1) := by decide +kernel
theorem dX11_init_78 : decode cX11_init 78 = .ok (.bipush 16, 2) := by decide +kernel
theorem dX11_init_80 : decode cX11_init 80 = .ok (.newarray .int, 2) := by decide +kernel
theorem dX11_init_82 : decode cX11_init 82 = .ok (.putfield 37, 3) := by decide +kernel
theorem dX11_init_85 : decode cX11_init 85 = .ok (.aload_n 0, 1) := by decide +kernel
theorem dX11_init_86 : decode cX11_init 86 = .ok (.bipush 24, 2) := by decide +kernel
theorem dX11_init_88 : decode cX11_init 88 = .ok (.newarray .int, 2) := by decide +kernel
theorem dX11_init_90 : decode cX11_init 90 = .ok (.putfield 40, 3) := by decide +kernel
theorem dX11_init_93 : decode cX11_init 93 = .ok (.aload_n 0, 1) := by decide +kernel
theorem dX11_init_94 : decode cX11_init 94 = .ok (.bipush 24, 2) := by decide +kernel
theorem dX11_init_96 : decode cX11_init 96 = .ok (.newarray .int, 2) := by decide +kernel
theorem dX11_init_98 : decode cX11_init 98 = .ok (.putfield 43, 3) := by decide +kernel
theorem dX11_init_101 : decode cX11_init 101 = .ok (.aload_n 0, 1) := by decide +kernel
theorem dX11_init_102 : decode cX11_init 102 = .ok (.bipush 24, 2) := by decide +kernel
theorem dX11_init_104 : decode cX11_init 104 = .ok (.newarray .int, 2) := by decide +kernel
theorem dX11_init_106 : decode cX11_init 106 = .ok (.putfield 46, 3) := by decide +kernel
theorem dX11_init_109 : decode cX11_init 109 = .ok (.aload_n 0, 1) := by decide +kernel
theorem dX11_init_110 : decode cX11_init 110 = .ok (.iconst 4, 1) := by decide +kernel
theorem dX11_init_111 : decode cX11_init 111 = .ok (.newarray .int, 2) := by decide +kernel
theorem dX11_init_113 : decode cX11_init 113 = .ok (.putfield 49, 3) := by decide +kernel
theorem dX11_init_116 : decode cX11_init 116 = .ok (.aload_n 0, 1) := by decide +kernel
theorem dX11_init_117 : decode cX11_init 117 = .ok (.iconst 4, 1) := by decide +kernel
theorem dX11_init_118 : decode cX11_init 118 = .ok (.newarray .int, 2) := by decide +kernel
theorem dX11_init_120 : decode cX11_init 120 = .ok (.putfield 52, 3) := by decide +kernel
theorem dX11_init_123 : decode cX11_init 123 = .ok (.aload_n 0, 1) := by decide +kernel
theorem dX11_init_124 : decode cX11_init 124 = .ok (.sipush 128, 3) := by decide +kernel
theorem dX11_init_127 : decode cX11_init 127 = .ok (.newarray .int, 2) := by decide +kernel
theorem dX11_init_129 : decode cX11_init 129 = .ok (.putfield 55, 3) := by decide +kernel
theorem dX11_init_132 : decode cX11_init 132 = .ok (.aload_n 0, 1) := by decide +kernel
theorem dX11_init_133 : decode cX11_init 133 = .ok (.sipush 128, 3) := by decide +kernel
theorem dX11_init_136 : decode cX11_init 136 = .ok (.newarray .int, 2) := by decide +kernel
theorem dX11_init_138 : decode cX11_init 138 = .ok (.putfield 58, 3) := by decide +kernel
theorem dX11_init_141 : decode cX11_init 141 = .ok (.aload_n 0, 1) := by decide +kernel
theorem dX11_init_142 : decode cX11_init 142 = .ok (.iconst (-1), 1) := by decide +kernel
theorem dX11_init_143 : decode cX11_init 143 = .ok (.putfield 61, 3) := by decide +kernel
theorem dX11_init_146 : decode cX11_init 146 = .ok (.aload_n 0, 1) := by decide +kernel
theorem dX11_init_147 : decode cX11_init 147 = .ok (.bipush 7, 2) := by decide +kernel
theorem dX11_init_149 : decode cX11_init 149 = .ok (.newarray .long, 2) := by decide +kernel
theorem dX11_init_151 : decode cX11_init 151 = .ok (.putfield 65, 3) := by decide +kernel
theorem dX11_init_154 : decode cX11_init 154 = .ok (.aload_n 0, 1) := by decide +kernel
theorem dX11_init_155 : decode cX11_init 155 = .ok (.bipush 64, 2) := by decide +kernel
theorem dX11_init_157 : decode cX11_init 157 = .ok (.newarray .long, 2) := by decide +kernel
theorem dX11_init_159 : decode cX11_init 159 = .ok (.putfield 69, 3) := by decide +kernel
theorem dX11_init_162 : decode cX11_init 162 = .ok (.aload_n 0, 1) := by decide +kernel
theorem dX11_init_163 : decode cX11_init 163 = .ok (.sipush 4374, 3) := by decide +kernel
theorem dX11_init_166 : decode cX11_init 166 = .ok (.newarray .int, 2) := by decide +kernel
theorem dX11_init_168 : decode cX11_init 168 = .ok (.putfield 72, 3) := by decide +kernel
theorem dX11_init_171 : decode cX11_init 171 = .ok (.aload_n 0, 1) := by decide +kernel
theorem dX11_init_172 : decode cX11_init 172 = .ok (.bipush 23, 2) := by decide +kernel
theorem dX11_init_174 : decode cX11_init 174 = .ok (.newarray .int, 2) := by decide +kernel
theorem dX11_init_176 : decode cX11_init 176 = .ok (.putfield 75, 3) := by decide +kernel
theorem dX11_init_179 : decode cX11_init 179 = .ok (.aload_n 0, 1) := by decide +kernel
theorem dX11_init_180 : decode cX11_init 180 = .ok (.bipush 23, 2) := by decide +kernel
theorem dX11_init_182 : decode cX11_init 182 = .ok (.newarray .int, 2) := by decide +kernel
theorem dX11_init_184 : decode cX11_init 184 = .ok (.putfield 78, 3) := by decide +kernel
theorem dX11_init_187 : decode cX11_init 187 = .ok (.aload_n 0, 1) := by decide +kernel
theorem dX11_init_188 : decode cX11_init 188 = .ok (.bipush 23, 2) := by decide +kernel
theorem dX11_init_190 : decode cX11_init 190 = .ok (.newarray .int, 2) := by decide +kernel
theorem dX11_init_192 : decode cX11_init 192 = .ok (.putfield 81, 3) := by decide +kernel
theorem dX11_init_195 : decode cX11_init 195 = .ok (.aload_n 0, 1) := by decide +kernel
theorem dX11_init_196 : decode cX11_init 196 = .ok (.bipush 23, 2) := by decide +kernel
theorem dX11_init_198 : decode cX11_init 198 = .ok (.newarray .int, 2) := by decide +kernel
theorem dX11_init_200 : decode cX11_init 200 = .ok (.putfield 84, 3) := by decide +kernel
theorem dX11_init_203 : decode cX11_init 203 = .ok (.aload_n 0, 1) := by decide +kernel
theorem dX11_init_204 : decode cX11_init 204 = .ok (.bipush 23, 2) := by decide +kernel
theorem dX11_init_206 : decode cX11_init 206 = .ok (.newarray .int, 2) := by decide +kernel
theorem dX11_init_208 : decode cX11_init 208 = .ok (.putfield 87, 3) := by decide +kernel
theorem dX11_init_211 : decode cX11_init 211 = .ok (.aload_n 0, 1) := by decide +kernel
theorem dX11_init_212 : decode cX11_init 212 = .ok (.sipush 138, 3) := by decide +kernel
theorem dX11_init_215 : decode cX11_init 215 = .ok (.newarray .int, 2) := by decide +kernel
theorem dX11_init_217 : decode cX11_init 217 = .ok (.putfield 90, 3) := by decide +kernel
theorem dX11_init_220 : decode cX11_init 220 = .ok (.aload_n 0, 1) := by decide +kernel
theorem dX11_init_221 : decode cX11_init 221 = .ok (.sipush 138, 3) := by decide +kernel
theorem dX11_init_224 : decode cX11_init 224 = .ok (.newarray .int, 2) := by decide +kernel
theorem dX11_init_226 : decode cX11_init 226 = .ok (.putfield 93, 3) := by decide +kernel
theorem dX11_init_229 : decode cX11_init 229 = .ok (.aload_n 0, 1) := by decide +kernel
theorem dX11_init_230 : decode cX11_init 230 = .ok (.sipush 16767, 3) := by decide +kernel
theorem dX11_init_233 : decode cX11_init 233 = .ok (.newarray .boolean, 2) := by decide +kernel
theorem dX11_init_235 : decode cX11_init 235 = .ok (.putfield 96, 3) := by decide +kernel
theorem dX11_init_238 : decode cX11_init 238 = .ok (.aload_n 0, 1) := by decide +kernel
theorem dX11_init_239 : decode cX11_init 239 = .ok (.sipush 4374, 3) := by decide +kernel
theorem dX11_init_242 : decode cX11_init 242 = .ok (.newarray .int, 2) := by decide +kernel
theorem dX11_init_244 : decode cX11_init 244 = .ok (.putfield 100, 3) := by decide +kernel
theorem dX11_init_247 : decode cX11_init 247 = .ok (.aload_n 0, 1) := by decide +kernel
theorem dX11_init_248 : decode cX11_init 248 = .ok (.sipush 4374, 3) := by decide +kernel
theorem dX11_init_251 : decode cX11_init 251 = .ok (.newarray .boolean, 2) := by decide +kernel
theorem dX11_init_253 : decode cX11_init 253 = .ok (.putfield 103, 3) := by decide +kernel
theorem dX11_init_256 : decode cX11_init 256 = .ok (.aload_n 0, 1) := by decide +kernel
theorem dX11_init_257 : decode cX11_init 257 = .ok (.sipush 729, 3) := by decide +kernel
theorem dX11_init_260 : decode cX11_init 260 = .ok (.newarray .int, 2) := by decide +kernel
theorem dX11_init_262 : decode cX11_init 262 = .ok (.putfield 106, 3) := by decide +kernel
theorem dX11_init_265 : decode cX11_init 265 = .ok (.aload_n 0, 1) := by decide +kernel
theorem dX11_init_266 : decode cX11_init 266 = .ok (.sipush 729, 3) := by decide +kernel
theorem dX11_init_269 : decode cX11_init 269 = .ok (.newarray .boolean, 2) := by decide +kernel
theorem dX11_init_271 : decode cX11_init 271 = .ok (.putfield 109, 3) := by decide +kernel
theorem dX11_init_274 : decode cX11_init 274 = .ok (.aload_n 0, 1) := by decide +kernel
theorem dX11_init_275 : decode cX11_init 275 = .ok (.sipush 729, 3) := by decide +kernel
theorem dX11_init_278 : decode cX11_init 278 = .ok (.newarray .int, 2) := by decide +kernel
theorem dX11_init_280 : decode cX11_init 280 = .ok (.putfield 112, 3) := by decide +kernel
theorem dX11_init_283 : decode cX11_init 283 = .ok (.aload_n 0, 1) := by decide +kernel
theorem dX11_init_284 : decode cX11_init 284 = .ok (.sipush 5832, 3) := by decide +kernel
theorem dX11_init_287 : decode cX11_init 287 = .ok (.newarray .boolean, 2) := by decide +kernel
theorem dX11_init_289 : decode cX11_init 289 = .ok (.putfield 115, 3) := by decide +kernel
theorem dX11_init_292 : decode cX11_init 292 = .ok (.aload_n 0, 1) := by decide +kernel
theorem dX11_init_293 : decode cX11_init 293 = .ok (.ldc 118, 2) := by decide +kernel
theorem dX11_init_295 : decode cX11_init 295 = .ok (.newarray .boolean, 2) := by decide +kernel
theorem dX11_init_297 : decode cX11_init 297 = .ok (.putfield 119, 3) := by decide +kernel
theorem dX11_init_300 : decode cX11_init 300 = .ok (.aload_n 0, 1) := by decide +kernel
theorem dX11_init_301 : decode cX11_init 301 = .ok (.iconst (-1), 1) := by decide +kernel
theorem dX11_init_302 : decode cX11_init 302 = .ok (.putfield 122, 3) := by decide +kernel
theorem dX11_init_305 : decode cX11_init 305 = .ok (.aload_n 0, 1) := by decide +kernel
theorem dX11_init_306 : decode cX11_init 306 = .ok (.invokevirtual 125, 3) := by decide +kernel
theorem dX11_init_309 : decode cX11_init 309 = .ok (.return_, 1) := by decide +kernel
theorem dX11_thrown_0 : decode cX11_thrown 0 = .ok (.aload_n 0, 1) := by decide +kernel
theorem dX11_thrown_1 : decode cX11_thrown 1 = .ok (.getfield 128, 3) := by decide +kernel
theorem dX11_thrown_4 : decode cX11_thrown 4 = .ok (.ireturn, 1) := by decide +kernel
theorem dX11_feed_0 : decode cX11_feed 0 = .ok (.aload_n 0, 1) := by decide +kernel
theorem dX11_feed_1 : decode cX11_feed 1 = .ok (.iconst 0, 1) := by decide +kernel
theorem dX11_feed_2 : decode cX11_feed 2 = .ok (.putfield 128, 3) := by decide +kernel
theorem dX11_feed_5 : decode cX11_feed 5 = .ok (.aload_n 0, 1) := by decide +kernel
theorem dX11_feed_6 : decode cX11_feed 6 = .ok (.getfield 131, 3) := by decide +kernel
theorem dX11_feed_9 : decode cX11_feed 9 = .ok (.sipush 680, 3) := by decide +kernel
theorem dX11_feed_12 : decode cX11_feed 12 = .ok (.if_icmp .le 5, 3) := by decide +kernel
theorem dX11_feed_15 : decode cX11_feed 15 = .ok (.iconst (-1), 1) := by decide +kernel
theorem dX11_feed_16 : decode cX11_feed 16 = .ok (.ireturn, 1) := by decide +kernel
theorem dX11_feed_17 : decode cX11_feed 17 = .ok (.iconst 0, 1) := by decide +kernel
theorem dX11_feed_18 : decode cX11_feed 18 = .ok (.istore 6, 2) := by decide +kernel
theorem dX11_feed_20 : decode cX11_feed 20 = .ok (.iload 6, 2) := by decide +kernel
theorem dX11_feed_22 : decode cX11_feed 22 = .ok (.bipush 20, 2) := by decide +kernel
theorem dX11_feed_24 : decode cX11_feed 24 = .ok (.if_icmp .ge 86, 3) := by decide +kernel
theorem dX11_feed_27 : decode cX11_feed 27 = .ok (.iload 6, 2) := by decide +kernel
theorem dX11_feed_29 : decode cX11_feed 29 = .ok (.iconst 4, 1) := by decide +kernel
theorem dX11_feed_30 : decode cX11_feed 30 = .ok (.if_icmp .ge 7, 3) := by decide +kernel
theorem dX11_feed_33 : decode cX11_feed 33 = .ok (.iload_n 1, 1) := by decide +kernel
theorem dX11_feed_34 : decode cX11_feed 34 = .ok (.goto 39, 3) := by decide +kernel
theorem dX11_feed_37 : decode cX11_feed 37 = .ok (.iload 6, 2) := by decide +kernel
theorem dX11_feed_39 : decode cX11_feed 39 = .ok (.bipush 8, 2) := by decide +kernel
theorem dX11_feed_41 : decode cX11_feed 41 = .ok (.if_icmp .ge 7, 3) := by decide +kernel
theorem dX11_feed_44 : decode cX11_feed 44 = .ok (.iload_n 2, 1) := by decide +kernel
theorem dX11_feed_45 : decode cX11_feed 45 = .ok (.goto 28, 3) := by decide +kernel
theorem dX11_feed_48 : decode cX11_feed 48 = .ok (.iload 6, 2) := by decide +kernel
theorem dX11_feed_50 : decode cX11_feed 50 = .ok (.bipush 12, 2) := by decide +kernel
theorem dX11_feed_52 : decode cX11_feed 52 = .ok (.if_icmp .ge 7, 3) := by decide +kernel
theorem dX11_feed_55 : decode cX11_feed 55 = .ok (.iload_n 3, 1) := by decide +kernel
theorem dX11_feed_56 : decode cX11_feed 56 = .ok (.goto 17, 3) := by decide +kernel
theorem dX11_feed_59 : decode cX11_feed 59 = .ok (.iload 6, 2) := by decide +kernel
theorem dX11_feed_61 : decode cX11_feed 61 = .ok (.bipush 16, 2) := by decide +kernel
theorem dX11_feed_63 : decode cX11_feed 63 = .ok (.if_icmp .ge 8, 3) := by decide +kernel
theorem dX11_feed_66 : decode cX11_feed 66 = .ok (.iload 4, 2) := by decide +kernel
theorem dX11_feed_68 : decode cX11_feed 68 = .ok (.goto 5, 3) := by decide +kernel
theorem dX11_feed_71 : decode cX11_feed 71 = .ok (.iload 5, 2) := by decide +kernel
theorem dX11_feed_73 : decode cX11_feed 73 = .ok (.istore 7, 2) := by decide +kernel
theorem dX11_feed_75 : decode cX11_feed 75 = .ok (.aload_n 0, 1) := by decide +kernel
theorem dX11_feed_76 : decode cX11_feed 76 = .ok (.getfield 7, 3) := by decide +kernel
theorem dX11_feed_79 : decode cX11_feed 79 = .ok (.aload_n 0, 1) := by decide +kernel
theorem dX11_feed_80 : decode cX11_feed 80 = .ok (.getfield 131, 3) := by decide +kernel
theorem dX11_feed_83 : decode cX11_feed 83 = .ok (.iload 6, 2) := by decide +kernel
theorem dX11_feed_85 : decode cX11_feed 85 = .ok (.iadd, 1) := by decide +kernel
theorem dX11_feed_86 : decode cX11_feed 86 = .ok (.iload 7, 2) := by decide +kernel
theorem dX11_feed_88 : decode cX11_feed 88 = .ok (.bipush 24, 2) := by decide +kernel
theorem dX11_feed_90 : decode cX11_feed 90 = .ok (.bipush 8, 2) := by decide +kernel
theorem dX11_feed_92 : decode cX11_feed 92 = .ok (.iload 6, 2) := by decide +kernel
theorem dX11_feed_94 : decode cX11_feed 94 = .ok (.iconst 4, 1) := by decide +kernel
theorem dX11_feed_95 : decode cX11_feed 95 = .ok (.irem, 1) := by decide +kernel
theorem dX11_feed_96 : decode cX11_feed 96 = .ok (.imul, 1) := by decide +kernel
theorem dX11_feed_97 : decode cX11_feed 97 = .ok (.isub, 1) := by decide +kernel
theorem dX11_feed_98 : decode cX11_feed 98 = .ok (.ishr, 1) := by decide +kernel
theorem dX11_feed_99 : decode cX11_feed 99 = .ok (.sipush 255, 3) := by decide +kernel
theorem dX11_feed_102 : decode cX11_feed 102 = .ok (.iand, 1) := by decide +kernel
theorem dX11_feed_103 : decode cX11_feed 103 = .ok (.iastore, 1) := by decide +kernel
theorem dX11_feed_104 : decode cX11_feed 104 = .ok (.iinc 6 1, 3) := by decide +kernel
theorem dX11_feed_107 : decode cX11_feed 107 = .ok (.goto (-87), 3) := by decide +kernel
theorem dX11_feed_110 : decode cX11_feed 110 = .ok (.aload_n 0, 1) := by decide +kernel
theorem dX11_feed_111 : decode cX11_feed 111 = .ok (.dup, 1) := by decide +kernel
theorem dX11_feed_112 : decode cX11_feed 112 = .ok (.getfield 131, 3) := by decide +kernel
theorem dX11_feed_115 : decode cX11_feed 115 = .ok (.bipush 20, 2) := by decide +kernel
theorem dX11_feed_117 : decode cX11_feed 117 = .ok (.iadd, 1) := by decide +kernel
theorem dX11_feed_118 : decode cX11_feed 118 = .ok (.putfield 131, 3) := by decide +kernel
theorem dX11_feed_121 : decode cX11_feed 121 = .ok (.aload_n 0, 1) := by decide +kernel
theorem dX11_feed_122 : decode cX11_feed 122 = .ok (.getfield 131, 3) := by decide +kernel
theorem dX11_feed_125 : decode cX11_feed 125 = .ok (.ireturn, 1) := by decide +kernel
theorem dX11_here_0 : decode cX11_here 0 = .ok (.aload_n 0, 1) := by decide +kernel
theorem dX11_here_1 : decode cX11_here 1 = .ok (.getfield 134, 3) := by decide +kernel
theorem dX11_here_4 : decode cX11_here 4 = .ok (.aload_n 0, 1) := by decide +kernel
theorem dX11_here_5 : decode cX11_here 5 = .ok (.getfield 137, 3) := by decide +kernel
theorem dX11_here_8 : decode cX11_here 8 = .ok (.if_icmp .ge 15, 3) := by decide +kernel
theorem dX11_here_11 : decode cX11_here 11 = .ok (.aload_n 0, 1) := by decide +kernel
theorem dX11_here_12 : decode cX11_here 12 = .ok (.getfield 7, 3) := by decide +kernel
theorem dX11_here_15 : decode cX11_here 15 = .ok (.aload_n 0, 1) := by decide +kernel
theorem dX11_here_16 : decode cX11_here 16 = .ok (.getfield 134, 3) := by decide +kernel
theorem dX11_here_19 : decode cX11_here 19 = .ok (.iaload, 1) := by decide +kernel
theorem dX11_here_20 : decode cX11_here 20 = .ok (.goto 4, 3) := by decide +kernel
theorem dX11_here_23 : decode cX11_here 23 = .ok (.iconst (-1), 1) := by decide +kernel
theorem dX11_here_24 : decode cX11_here 24 = .ok (.ireturn, 1) := by decide +kernel
theorem dX11_isSmall_0 : decode cX11_isSmall 0 = .ok (.iload_n 0, 1) := by decide +kernel
theorem dX11_isSmall_1 : decode cX11_isSmall 1 = .ok (.bipush 97, 2) := by decide +kernel
theorem dX11_isSmall_3 : decode cX11_isSmall 3 = .ok (.if_icmp .lt 13, 3) := by decide +kernel
theorem dX11_isSmall_6 : decode cX11_isSmall 6 = .ok (.iload_n 0, 1) := by decide +kernel
theorem dX11_isSmall_7 : decode cX11_isSmall 7 = .ok (.bipush 122, 2) := by decide +kernel
theorem dX11_isSmall_9 : decode cX11_isSmall 9 = .ok (.if_icmp .gt 7, 3) := by decide +kernel
theorem dX11_isSmall_12 : decode cX11_isSmall 12 = .ok (.iconst 1, 1) := by decide +kernel
theorem dX11_isSmall_13 : decode cX11_isSmall 13 = .ok (.goto 4, 3) := by decide +kernel
theorem dX11_isSmall_16 : decode cX11_isSmall 16 = .ok (.iconst 0, 1) := by decide +kernel
theorem dX11_isSmall_17 : decode cX11_isSmall 17 = .ok (.ireturn, 1) := by decide +kernel
theorem dX11_isDigit_0 : decode cX11_isDigit 0 = .ok (.iload_n 0, 1) := by decide +kernel
theorem dX11_isDigit_1 : decode cX11_isDigit 1 = .ok (.bipush 48, 2) := by decide +kernel
theorem dX11_isDigit_3 : decode cX11_isDigit 3 = .ok (.if_icmp .lt 13, 3) := by decide +kernel
theorem dX11_isDigit_6 : decode cX11_isDigit 6 = .ok (.iload_n 0, 1) := by decide +kernel
theorem dX11_isDigit_7 : decode cX11_isDigit 7 = .ok (.bipush 57, 2) := by decide +kernel
theorem dX11_isDigit_9 : decode cX11_isDigit 9 = .ok (.if_icmp .gt 7, 3) := by decide +kernel
theorem dX11_isDigit_12 : decode cX11_isDigit 12 = .ok (.iconst 1, 1) := by decide +kernel
theorem dX11_isDigit_13 : decode cX11_isDigit 13 = .ok (.goto 4, 3) := by decide +kernel
theorem dX11_isDigit_16 : decode cX11_isDigit 16 = .ok (.iconst 0, 1) := by decide +kernel
theorem dX11_isDigit_17 : decode cX11_isDigit 17 = .ok (.ireturn, 1) := by decide +kernel
