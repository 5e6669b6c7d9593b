theorem dX11_expression_0 : decode cX11_expression 0 = .ok (.aload_n 0, 1) := by decide +kernel
theorem dX11_expression_1 : decode cX11_expression 1 = .ok (.invokevirtual 283, 3) := by decide +kernel
theorem dX11_expression_4 : decode cX11_expression 4 = .ok (.aload_n 0, 1) := by decide +kernel
theorem dX11_expression_5 : decode cX11_expression 5 = .ok (.bipush 11, 2) := by decide +kernel
theorem dX11_expression_7 : decode cX11_expression 7 = .ok (.invokevirtual 259, 3) := by decide +kernel
theorem dX11_expression_10 : decode cX11_expression 10 = .ok (.ifCond .eq 26, 3) := by decide +kernel
theorem dX11_expression_13 : decode cX11_expression 13 = .ok (.aload_n 0, 1) := by decide +kernel
theorem dX11_expression_14 : decode cX11_expression 14 = .ok (.invokevirtual 262, 3) := by decide +kernel
theorem dX11_expression_17 : decode cX11_expression 17 = .ok (.aload_n 0, 1) := by decide +kernel
theorem dX11_expression_18 : decode cX11_expression 18 = .ok (.invokevirtual 235, 3) := by decide +kernel
theorem dX11_expression_21 : decode cX11_expression 21 = .ok (.aload_n 0, 1) := by decide +kernel
theorem dX11_expression_22 : decode cX11_expression 22 = .ok (.invokevirtual 283, 3) := by decide +kernel
theorem dX11_expression_25 : decode cX11_expression 25 = .ok (.aload_n 0, 1) := by decide +kernel
theorem dX11_expression_26 : decode cX11_expression 26 = .ok (.iconst 2, 1) := by decide +kernel
theorem dX11_expression_27 : decode cX11_expression 27 = .ok (.sipush 262, 3) := by decide +kernel
theorem dX11_expression_30 : decode cX11_expression 30 = .ok (.invokevirtual 265, 3) := by decide +kernel
theorem dX11_expression_33 : decode cX11_expression 33 = .ok (.goto (-29), 3) := by decide +kernel
theorem dX11_expression_36 : decode cX11_expression 36 = .ok (.return_, 1) := by decide +kernel
theorem dX11_conjunction_0 : decode cX11_conjunction 0 = .ok (.aload_n 0, 1) := by decide +kernel
theorem dX11_conjunction_1 : decode cX11_conjunction 1 = .ok (.invokevirtual 286, 3) := by decide +kernel
theorem dX11_conjunction_4 : decode cX11_conjunction 4 = .ok (.aload_n 0, 1) := by decide +kernel
theorem dX11_conjunction_5 : decode cX11_conjunction 5 = .ok (.bipush 12, 2) := by decide +kernel
theorem dX11_conjunction_7 : decode cX11_conjunction 7 = .ok (.invokevirtual 259, 3) := by decide +kernel
theorem dX11_conjunction_10 : decode cX11_conjunction 10 = .ok (.ifCond .eq 26, 3) := by decide +kernel
theorem dX11_conjunction_13 : decode cX11_conjunction 13 = .ok (.aload_n 0, 1) := by decide +kernel
theorem dX11_conjunction_14 : decode cX11_conjunction 14 = .ok (.invokevirtual 262, 3) := by decide +kernel
theorem dX11_conjunction_17 : decode cX11_conjunction 17 = .ok (.aload_n 0, 1) := by decide +kernel
theorem dX11_conjunction_18 : decode cX11_conjunction 18 = .ok (.invokevirtual 235, 3) := by decide +kernel
theorem dX11_conjunction_21 : decode cX11_conjunction 21 = .ok (.aload_n 0, 1) := by decide +kernel
theorem dX11_conjunction_22 : decode cX11_conjunction 22 = .ok (.invokevirtual 286, 3) := by decide +kernel
theorem dX11_conjunction_25 : decode cX11_conjunction 25 = .ok (.aload_n 0, 1) := by decide +kernel
theorem dX11_conjunction_26 : decode cX11_conjunction 26 = .ok (.iconst 2, 1) := by decide +kernel
theorem dX11_conjunction_27 : decode cX11_conjunction 27 = .ok (.sipush 261, 3) := by decide +kernel
theorem dX11_conjunction_30 : decode cX11_conjunction 30 = .ok (.invokevirtual 265, 3) := by decide +kernel
theorem dX11_conjunction_33 : decode cX11_conjunction 33 = .ok (.goto (-29), 3) := by decide +kernel
theorem dX11_conjunction_36 : decode cX11_conjunction 36 = .ok (.return_, 1) := by decide +kernel
theorem dX11_negation_0 : decode cX11_negation 0 = .ok (.aload_n 0, 1) := by decide +kernel
theorem dX11_negation_1 : decode cX11_negation 1 = .ok (.bipush 13, 2) := by decide +kernel
theorem dX11_negation_3 : decode cX11_negation 3 = .ok (.invokevirtual 259, 3) := by decide +kernel
theorem dX11_negation_6 : decode cX11_negation 6 = .ok (.ifCond .eq 24, 3) := by decide +kernel
theorem dX11_negation_9 : decode cX11_negation 9 = .ok (.aload_n 0, 1) := by decide +kernel
theorem dX11_negation_10 : decode cX11_negation 10 = .ok (.invokevirtual 262, 3) := by decide +kernel
theorem dX11_negation_13 : decode cX11_negation 13 = .ok (.aload_n 0, 1) := by decide +kernel
theorem dX11_negation_14 : decode cX11_negation 14 = .ok (.invokevirtual 235, 3) := by decide +kernel
theorem dX11_negation_17 : decode cX11_negation 17 = .ok (.aload_n 0, 1) := by decide +kernel
theorem dX11_negation_18 : decode cX11_negation 18 = .ok (.invokevirtual 286, 3) := by decide +kernel
theorem dX11_negation_21 : decode cX11_negation 21 = .ok (.aload_n 0, 1) := by decide +kernel
theorem dX11_negation_22 : decode cX11_negation 22 = .ok (.iconst 2, 1) := by decide +kernel
theorem dX11_negation_23 : decode cX11_negation 23 = .ok (.sipush 260, 3) := by decide +kernel
theorem dX11_negation_26 : decode cX11_negation 26 = .ok (.invokevirtual 265, 3) := by decide +kernel
theorem dX11_negation_29 : decode cX11_negation 29 = .ok (.return_, 1) := by decide +kernel
theorem dX11_negation_30 : decode cX11_negation 30 = .ok (.aload_n 0, 1) := by decide +kernel
theorem dX11_negation_31 : decode cX11_negation 31 = .ok (.invokevirtual 289, 3) := by decide +kernel
theorem dX11_negation_34 : decode cX11_negation 34 = .ok (.aload_n 0, 1) := by decide +kernel
theorem dX11_negation_35 : decode cX11_negation 35 = .ok (.getfield 182, 3) := by decide +kernel
theorem dX11_negation_38 : decode cX11_negation 38 = .ok (.ifCond .ne 48, 3) := by decide +kernel
theorem dX11_negation_41 : decode cX11_negation 41 = .ok (.aload_n 0, 1) := by decide +kernel
theorem dX11_negation_42 : decode cX11_negation 42 = .ok (.getfield 147, 3) := by decide +kernel
theorem dX11_negation_45 : decode cX11_negation 45 = .ok (.iconst 3, 1) := by decide +kernel
theorem dX11_negation_46 : decode cX11_negation 46 = .ok (.if_icmp .ne 40, 3) := by decide +kernel
theorem dX11_negation_49 : decode cX11_negation 49 = .ok (.aload_n 0, 1) := by decide +kernel
theorem dX11_negation_50 : decode cX11_negation 50 = .ok (.getfield 157, 3) := by decide +kernel
theorem dX11_negation_53 : decode cX11_negation 53 = .ok (.bipush 60, 2) := by decide +kernel
theorem dX11_negation_55 : decode cX11_negation 55 = .ok (.if_icmp .eq 32, 3) := by decide +kernel
theorem dX11_negation_58 : decode cX11_negation 58 = .ok (.aload_n 0, 1) := by decide +kernel
theorem dX11_negation_59 : decode cX11_negation 59 = .ok (.getfield 157, 3) := by decide +kernel
theorem dX11_negation_62 : decode cX11_negation 62 = .ok (.bipush 62, 2) := by decide +kernel
theorem dX11_negation_64 : decode cX11_negation 64 = .ok (.if_icmp .eq 23, 3) := by decide +kernel
theorem dX11_negation_67 : decode cX11_negation 67 = .ok (.aload_n 0, 1) := by decide +kernel
theorem dX11_negation_68 : decode cX11_negation 68 = .ok (.getfield 157, 3) := by decide +kernel
theorem dX11_negation_71 : decode cX11_negation 71 = .ok (.bipush 61, 2) := by decide +kernel
theorem dX11_negation_73 : decode cX11_negation 73 = .ok (.if_icmp .eq 14, 3) := by decide +kernel
theorem dX11_negation_76 : decode cX11_negation 76 = .ok (.aload_n 0, 1) := by decide +kernel
theorem dX11_negation_77 : decode cX11_negation 77 = .ok (.getfield 157, 3) := by decide +kernel
theorem dX11_negation_80 : decode cX11_negation 80 = .ok (.sipush 256, 3) := by decide +kernel
theorem dX11_negation_83 : decode cX11_negation 83 = .ok (.if_icmp .ge 4, 3) := by decide +kernel
theorem dX11_negation_86 : decode cX11_negation 86 = .ok (.return_, 1) := by decide +kernel
theorem dX11_negation_87 : decode cX11_negation 87 = .ok (.aload_n 0, 1) := by decide +kernel
theorem dX11_negation_88 : decode cX11_negation 88 = .ok (.getfield 157, 3) := by decide +kernel
theorem dX11_negation_91 : decode cX11_negation 91 = .ok (.istore_n 1, 1) := by decide +kernel
theorem dX11_negation_92 : decode cX11_negation 92 = .ok (.aload_n 0, 1) := by decide +kernel
theorem dX11_negation_93 : decode cX11_negation 93 = .ok (.invokevirtual 262, 3) := by decide +kernel
theorem dX11_negation_96 : decode cX11_negation 96 = .ok (.aload_n 0, 1) := by decide +kernel
theorem dX11_negation_97 : decode cX11_negation 97 = .ok (.invokevirtual 235, 3) := by decide +kernel
theorem dX11_negation_100 : decode cX11_negation 100 = .ok (.aload_n 0, 1) := by decide +kernel
theorem dX11_negation_101 : decode cX11_negation 101 = .ok (.invokevirtual 289, 3) := by decide +kernel
theorem dX11_negation_104 : decode cX11_negation 104 = .ok (.aload_n 0, 1) := by decide +kernel
theorem dX11_negation_105 : decode cX11_negation 105 = .ok (.iconst 2, 1) := by decide +kernel
theorem dX11_negation_106 : decode cX11_negation 106 = .ok (.iload_n 1, 1) := by decide +kernel
theorem dX11_negation_107 : decode cX11_negation 107 = .ok (.invokevirtual 265, 3) := by decide +kernel
theorem dX11_negation_110 : decode cX11_negation 110 = .ok (.return_, 1) := by decide +kernel
theorem dX11_sum_0 : decode cX11_sum 0 = .ok (.aload_n 0, 1) := by decide +kernel
theorem dX11_sum_1 : decode cX11_sum 1 = .ok (.invokevirtual 292, 3) := by decide +kernel
theorem dX11_sum_4 : decode cX11_sum 4 = .ok (.aload_n 0, 1) := by decide +kernel
theorem dX11_sum_5 : decode cX11_sum 5 = .ok (.bipush 43, 2) := by decide +kernel
theorem dX11_sum_7 : decode cX11_sum 7 = .ok (.invokevirtual 241, 3) := by decide +kernel
theorem dX11_sum_10 : decode cX11_sum 10 = .ok (.ifCond .ne 12, 3) := by decide +kernel
theorem dX11_sum_13 : decode cX11_sum 13 = .ok (.aload_n 0, 1) := by decide +kernel
theorem dX11_sum_14 : decode cX11_sum 14 = .ok (.bipush 45, 2) := by decide +kernel
theorem dX11_sum_16 : decode cX11_sum 16 = .ok (.invokevirtual 241, 3) := by decide +kernel
theorem dX11_sum_19 : decode cX11_sum 19 = .ok (.ifCond .eq 29, 3) := by decide +kernel
theorem dX11_sum_22 : decode cX11_sum 22 = .ok (.aload_n 0, 1) := by decide +kernel
theorem dX11_sum_23 : decode cX11_sum 23 = .ok (.getfield 157, 3) := by decide +kernel
theorem dX11_sum_26 : decode cX11_sum 26 = .ok (.istore_n 1, 1) := by decide +kernel
theorem dX11_sum_27 : decode cX11_sum 27 = .ok (.aload_n 0, 1) := by decide +kernel
theorem dX11_sum_28 : decode cX11_sum 28 = .ok (.invokevirtual 262, 3) := by decide +kernel
theorem dX11_sum_31 : decode cX11_sum 31 = .ok (.aload_n 0, 1) := by decide +kernel
theorem dX11_sum_32 : decode cX11_sum 32 = .ok (.invokevirtual 235, 3) := by decide +kernel
theorem dX11_sum_35 : decode cX11_sum 35 = .ok (.aload_n 0, 1) := by decide +kernel
theorem dX11_sum_36 : decode cX11_sum 36 = .ok (.invokevirtual 292, 3) := by decide +kernel
theorem dX11_sum_39 : decode cX11_sum 39 = .ok (.aload_n 0, 1) := by decide +kernel
theorem dX11_sum_40 : decode cX11_sum 40 = .ok (.iconst 2, 1) := by decide +kernel
theorem dX11_sum_41 : decode cX11_sum 41 = .ok (.iload_n 1, 1) := by decide +kernel
theorem dX11_sum_42 : decode cX11_sum 42 = .ok (.invokevirtual 265, 3) := by decide +kernel
theorem dX11_sum_45 : decode cX11_sum 45 = .ok (.goto (-41), 3) := by decide +kernel
theorem dX11_sum_48 : decode cX11_sum 48 = .ok (.return_, 1) := by decide +kernel
theorem dX11_product_0 : decode cX11_product 0 = .ok (.aload_n 0, 1) := by decide +kernel
theorem dX11_product_1 : decode cX11_product 1 = .ok (.invokevirtual 295, 3) := by decide +kernel
theorem dX11_product_4 : decode cX11_product 4 = .ok (.aload_n 0, 1) := by decide +kernel
theorem dX11_product_5 : decode cX11_product 5 = .ok (.bipush 42, 2) := by decide +kernel
theorem dX11_product_7 : decode cX11_product 7 = .ok (.invokevirtual 241, 3) := by decide +kernel
theorem dX11_product_10 : decode cX11_product 10 = .ok (.ifCond .ne 12, 3) := by decide +kernel
theorem dX11_product_13 : decode cX11_product 13 = .ok (.aload_n 0, 1) := by decide +kernel
theorem dX11_product_14 : decode cX11_product 14 = .ok (.bipush 47, 2) := by decide +kernel
theorem dX11_product_16 : decode cX11_product 16 = .ok (.invokevirtual 241, 3) := by decide +kernel
theorem dX11_product_19 : decode cX11_product 19 = .ok (.ifCond .eq 29, 3) := by decide +kernel
theorem dX11_product_22 : decode cX11_product 22 = .ok (.aload_n 0, 1) := by decide +kernel
theorem dX11_product_23 : decode cX11_product 23 = .ok (.getfield 157, 3) := by decide +kernel
theorem dX11_product_26 : decode cX11_product 26 = .ok (.istore_n 1, 1) := by decide +kernel
theorem dX11_product_27 : decode cX11_product 27 = .ok (.aload_n 0, 1) := by decide +kernel
theorem dX11_product_28 : decode cX11_product 28 = .ok (.invokevirtual 262, 3) := by decide +kernel
theorem dX11_product_31 : decode cX11_product 31 = .ok (.aload_n 0, 1) := by decide +kernel
theorem dX11_product_32 : decode cX11_product 32 = .ok (.invokevirtual 235, 3) := by decide +kernel
theorem dX11_product_35 : decode cX11_product 35 = .ok (.aload_n 0, 1) := by decide +kernel
theorem dX11_product_36 : decode cX11_product 36 = .ok (.invokevirtual 295, 3) := by decide +kernel
theorem dX11_product_39 : decode cX11_product 39 = .ok (.aload_n 0, 1) := by decide +kernel
theorem dX11_product_40 : decode cX11_product 40 = .ok (.iconst 2, 1) := by decide +kernel
theorem dX11_product_41 : decode cX11_product 41 = .ok (.iload_n 1, 1) := by decide +kernel
theorem dX11_product_42 : decode cX11_product 42 = .ok (.invokevirtual 265, 3) := by decide +kernel
theorem dX11_product_45 : decode cX11_product 45 = .ok (.goto (-41), 3) := by decide +kernel
theorem dX11_product_48 : decode cX11_product 48 = .ok (.return_, 1) := by decide +kernel
theorem dX11_primary_0 : decode cX11_primary 0 = .ok (.aload_n 0, 1) := by decide +kernel
theorem dX11_primary_1 : decode cX11_primary 1 = .ok (.getfield 182, 3) := by decide +kernel
theorem dX11_primary_4 : decode cX11_primary 4 = .ok (.ifCond .eq 4, 3) := by decide +kernel
theorem dX11_primary_7 : decode cX11_primary 7 = .ok (.return_, 1) := by decide +kernel
theorem dX11_primary_8 : decode cX11_primary 8 = .ok (.aload_n 0, 1) := by decide +kernel
theorem dX11_primary_9 : decode cX11_primary 9 = .ok (.bipush 40, 2) := by decide +kernel
theorem dX11_primary_11 : decode cX11_primary 11 = .ok (.invokevirtual 241, 3) := by decide +kernel
theorem dX11_primary_14 : decode cX11_primary 14 = .ok (.ifCond .eq 87, 3) := by decide +kernel
theorem dX11_primary_17 : decode cX11_primary 17 = .ok (.aload_n 0, 1) := by decide +kernel
theorem dX11_primary_18 : decode cX11_primary 18 = .ok (.getfield 274, 3) := by decide +kernel
theorem dX11_primary_21 : decode cX11_primary 21 = .ok (.bipush 8, 2) := by decide +kernel
theorem dX11_primary_23 : decode cX11_primary 23 = .ok (.if_icmp .ne 8, 3) := by decide +kernel
theorem dX11_primary_26 : decode cX11_primary 26 = .ok (.aload_n 0, 1) := by decide +kernel
theorem dX11_primary_27 : decode cX11_primary 27 = .ok (.iconst 2, 1) := by decide +kernel
theorem dX11_primary_28 : decode cX11_primary 28 = .ok (.invokevirtual 191, 3) := by decide +kernel
theorem dX11_primary_31 : decode cX11_primary 31 = .ok (.aload_n 0, 1) := by decide +kernel
theorem dX11_primary_32 : decode cX11_primary 32 = .ok (.getfield 182, 3) := by decide +kernel
theorem dX11_primary_35 : decode cX11_primary 35 = .ok (.ifCond .eq 4, 3) := by decide +kernel
theorem dX11_primary_38 : decode cX11_primary 38 = .ok (.return_, 1) := by decide +kernel
theorem dX11_primary_39 : decode cX11_primary 39 = .ok (.aload_n 0, 1) := by decide +kernel
theorem dX11_primary_40 : decode cX11_primary 40 = .ok (.dup, 1) := by decide +kernel
theorem dX11_primary_41 : decode cX11_primary 41 = .ok (.getfield 274, 3) := by decide +kernel
theorem dX11_primary_44 : decode cX11_primary 44 = .ok (.iconst 1, 1) := by decide +kernel
theorem dX11_primary_45 : decode cX11_primary 45 = .ok (.iadd, 1) := by decide +kernel
theorem dX11_primary_46 : decode cX11_primary 46 = .ok (.putfield 274, 3) := by decide +kernel
theorem dX11_primary_49 : decode cX11_primary 49 = .ok (.aload_n 0, 1) := by decide +kernel
theorem dX11_primary_50 : decode cX11_primary 50 = .ok (.invokevirtual 188, 3) := by decide +kernel
theorem dX11_primary_53 : decode cX11_primary 53 = .ok (.aload_n 0, 1) := by decide +kernel
theorem dX11_primary_54 : decode cX11_primary 54 = .ok (.invokevirtual 253, 3) := by decide +kernel
theorem dX11_primary_57 : decode cX11_primary 57 = .ok (.aload_n 0, 1) := by decide +kernel
theorem dX11_primary_58 : decode cX11_primary 58 = .ok (.getfield 182, 3) := by decide +kernel
theorem dX11_primary_61 : decode cX11_primary 61 = .ok (.ifCond .ne 17, 3) := by decide +kernel
theorem dX11_primary_64 : decode cX11_primary 64 = .ok (.aload_n 0, 1) := by decide +kernel
theorem dX11_primary_65 : decode cX11_primary 65 = .ok (.bipush 41, 2) := by decide +kernel
theorem dX11_primary_67 : decode cX11_primary 67 = .ok (.invokevirtual 241, 3) := by decide +kernel
theorem dX11_primary_70 : decode cX11_primary 70 = .ok (.ifCond .ne 8, 3) := by decide +kernel
theorem dX11_primary_73 : decode cX11_primary 73 = .ok (.aload_n 0, 1) := by decide +kernel
theorem dX11_primary_74 : decode cX11_primary 74 = .ok (.iconst 1, 1) := by decide +kernel
theorem dX11_primary_75 : decode cX11_primary 75 = .ok (.invokevirtual 191, 3) := by decide +kernel
theorem dX11_primary_78 : decode cX11_primary 78 = .ok (.aload_n 0, 1) := by decide +kernel
theorem dX11_primary_79 : decode cX11_primary 79 = .ok (.getfield 182, 3) := by decide +kernel
theorem dX11_primary_82 : decode cX11_primary 82 = .ok (.ifCond .eq 4, 3) := by decide +kernel
theorem dX11_primary_85 : decode cX11_primary 85 = .ok (.return_, 1) := by decide +kernel
theorem dX11_primary_86 : decode cX11_primary 86 = .ok (.aload_n 0, 1) := by decide +kernel
theorem dX11_primary_87 : decode cX11_primary 87 = .ok (.dup, 1) := by decide +kernel
theorem dX11_primary_88 : decode cX11_primary 88 = .ok (.getfield 274, 3) := by decide +kernel
theorem dX11_primary_91 : decode cX11_primary 91 = .ok (.iconst 1, 1) := by decide +kernel
theorem dX11_primary_92 : decode cX11_primary 92 = .ok (.isub, 1) := by decide +kernel
theorem dX11_primary_93 : decode cX11_primary 93 = .ok (.putfield 274, 3) := by decide +kernel
theorem dX11_primary_96 : decode cX11_primary 96 = .ok (.aload_n 0, 1) := by decide +kernel
theorem dX11_primary_97 : decode cX11_primary 97 = .ok (.invokevirtual 188, 3) := by decide +kernel
theorem dX11_primary_100 : decode cX11_primary 100 = .ok (.return_, 1) := by decide +kernel
theorem dX11_primary_101 : decode cX11_primary 101 = .ok (.aload_n 0, 1) := by decide +kernel
theorem dX11_primary_102 : decode cX11_primary 102 = .ok (.getfield 147, 3) := by decide +kernel
theorem dX11_primary_105 : decode cX11_primary 105 = .ok (.iconst 2, 1) := by decide +kernel
theorem dX11_primary_106 : decode cX11_primary 106 = .ok (.if_icmp .ne 7, 3) := by decide +kernel
theorem dX11_primary_109 : decode cX11_primary 109 = .ok (.iconst 1, 1) := by decide +kernel
theorem dX11_primary_110 : decode cX11_primary 110 = .ok (.goto 4, 3) := by decide +kernel
theorem dX11_primary_113 : decode cX11_primary 113 = .ok (.iconst 0, 1) := by decide +kernel
theorem dX11_primary_114 : decode cX11_primary 114 = .ok (.istore_n 1, 1) := by decide +kernel
theorem dX11_primary_115 : decode cX11_primary 115 = .ok (.iload_n 1, 1) := by decide +kernel
theorem dX11_primary_116 : decode cX11_primary 116 = .ok (.ifCond .eq 21, 3) := by decide +kernel
theorem dX11_primary_119 : decode cX11_primary 119 = .ok (.aload_n 0, 1) := by decide +kernel
theorem dX11_primary_120 : decode cX11_primary 120 = .ok (.getfield 157, 3) := by decide +kernel
theorem dX11_primary_123 : decode cX11_primary 123 = .ok (.sipush 9999, 3) := by decide +kernel
theorem dX11_primary_126 : decode cX11_primary 126 = .ok (.if_icmp .le 11, 3) := by decide +kernel
theorem dX11_primary_129 : decode cX11_primary 129 = .ok (.aload_n 0, 1) := by decide +kernel
theorem dX11_primary_130 : decode cX11_primary 130 = .ok (.iconst 2, 1) := by decide +kernel
theorem dX11_primary_131 : decode cX11_primary 131 = .ok (.invokevirtual 191, 3) := by decide +kernel
theorem dX11_primary_134 : decode cX11_primary 134 = .ok (.goto 28, 3) := by decide +kernel
theorem dX11_primary_137 : decode cX11_primary 137 = .ok (.iload_n 1, 1) := by decide +kernel
theorem dX11_primary_138 : decode cX11_primary 138 = .ok (.ifCond .ne 24, 3) := by decide +kernel
theorem dX11_primary_141 : decode cX11_primary 141 = .ok (.aload_n 0, 1) := by decide +kernel
theorem dX11_primary_142 : decode cX11_primary 142 = .ok (.getfield 147, 3) := by decide +kernel
theorem dX11_primary_145 : decode cX11_primary 145 = .ok (.ifCond .ne 12, 3) := by decide +kernel
theorem dX11_primary_148 : decode cX11_primary 148 = .ok (.aload_n 0, 1) := by decide +kernel
theorem dX11_primary_149 : decode cX11_primary 149 = .ok (.getfield 157, 3) := by decide +kernel
theorem dX11_primary_152 : decode cX11_primary 152 = .ok (.bipush 21, 2) := by decide +kernel
theorem dX11_primary_154 : decode cX11_primary 154 = .ok (.if_icmp .ge 8, 3) := by decide +kernel
theorem dX11_primary_157 : decode cX11_primary 157 = .ok (.aload_n 0, 1) := by decide +kernel
theorem dX11_primary_158 : decode cX11_primary 158 = .ok (.iconst 1, 1) := by decide +kernel
theorem dX11_primary_159 : decode cX11_primary 159 = .ok (.invokevirtual 191, 3) := by decide +kernel
theorem dX11_primary_162 : decode cX11_primary 162 = .ok (.aload_n 0, 1) := by decide +kernel
theorem dX11_primary_163 : decode cX11_primary 163 = .ok (.invokevirtual 262, 3) := by decide +kernel
theorem dX11_primary_166 : decode cX11_primary 166 = .ok (.aload_n 0, 1) := by decide +kernel
theorem dX11_primary_167 : decode cX11_primary 167 = .ok (.iload_n 1, 1) := by decide +kernel
theorem dX11_primary_168 : decode cX11_primary 168 = .ok (.ifCond .eq 7, 3) := by decide +kernel
theorem dX11_primary_171 : decode cX11_primary 171 = .ok (.iconst 0, 1) := by decide +kernel
theorem dX11_primary_172 : decode cX11_primary 172 = .ok (.goto 4, 3) := by decide +kernel
theorem dX11_primary_175 : decode cX11_primary 175 = .ok (.iconst 1, 1) := by decide +kernel
theorem dX11_primary_176 : decode cX11_primary 176 = .ok (.iload_n 1, 1) := by decide +kernel
theorem dX11_primary_177 : decode cX11_primary 177 = .ok (.ifCond .eq 10, 3) := by decide +kernel
theorem dX11_primary_180 : decode cX11_primary 180 = .ok (.aload_n 0, 1) := by decide +kernel
theorem dX11_primary_181 : decode cX11_primary 181 = .ok (.getfield 157, 3) := by decide +kernel
theorem dX11_primary_184 : decode cX11_primary 184 = .ok (.goto 10, 3) := by decide +kernel
theorem dX11_primary_187 : decode cX11_primary 187 = .ok (.aload_n 0, 1) := by decide +kernel
theorem dX11_primary_188 : decode cX11_primary 188 = .ok (.getfield 157, 3) := by decide +kernel
theorem dX11_primary_191 : decode cX11_primary 191 = .ok (.bipush 21, 2) := by decide +kernel
theorem dX11_primary_193 : decode cX11_primary 193 = .ok (.isub, 1) := by decide +kernel
theorem dX11_primary_194 : decode cX11_primary 194 = .ok (.invokevirtual 265, 3) := by decide +kernel
theorem dX11_primary_197 : decode cX11_primary 197 = .ok (.aload_n 0, 1) := by decide +kernel
theorem dX11_primary_198 : decode cX11_primary 198 = .ok (.invokevirtual 235, 3) := by decide +kernel
theorem dX11_primary_201 : decode cX11_primary 201 = .ok (.return_, 1) := by decide +kernel
theorem dX11_half_0 : decode cX11_half 0 = .ok (.aload_n 0, 1) := by decide +kernel
theorem dX11_half_1 : decode cX11_half 1 = .ok (.arraylength, 1) := by decide +kernel
theorem dX11_half_2 : decode cX11_half 2 = .ok (.iconst 2, 1) := by decide +kernel
theorem dX11_half_3 : decode cX11_half 3 = .ok (.idiv, 1) := by decide +kernel
theorem dX11_half_4 : decode cX11_half 4 = .ok (.istore_n 1, 1) := by decide +kernel
theorem dX11_half_5 : decode cX11_half 5 = .ok (.iconst 0, 1) := by decide +kernel
theorem dX11_half_6 : decode cX11_half 6 = .ok (.istore_n 2, 1) := by decide +kernel
theorem dX11_half_7 : decode cX11_half 7 = .ok (.iload_n 2, 1) := by decide +kernel
theorem dX11_half_8 : decode cX11_half 8 = .ok (.iload_n 1, 1) := by decide +kernel
theorem dX11_half_9 : decode cX11_half 9 = .ok (.if_icmp .ge 17, 3) := by decide +kernel
theorem dX11_half_12 : decode cX11_half 12 = .ok (.aload_n 0, 1) := by decide +kernel
theorem dX11_half_13 : decode cX11_half 13 = .ok (.iload_n 2, 1) := by decide +kernel
theorem dX11_half_14 : decode cX11_half 14 = .ok (.aload_n 0, 1) := by decide +kernel
theorem dX11_half_15 : decode cX11_half 15 = .ok (.iload_n 1, 1) := by decide +kernel
theorem dX11_half_16 : decode cX11_half 16 = .ok (.iload_n 2, 1) := by decide +kernel
theorem dX11_half_17 : decode cX11_half 17 = .ok (.iadd, 1) := by decide +kernel
theorem dX11_half_18 : decode cX11_half 18 = .ok (.iaload, 1) := by decide +kernel
theorem dX11_half_19 : decode cX11_half 19 = .ok (.iastore, 1) := by decide +kernel
theorem dX11_half_20 : decode cX11_half 20 = .ok (.iinc 2 1, 3) := by decide +kernel
theorem dX11_half_23 : decode cX11_half 23 = .ok (.goto (-16), 3) := by decide +kernel
theorem dX11_half_26 : decode cX11_half 26 = .ok (.return_, 1) := by decide +kernel
theorem dX11_text_0 : decode cX11_text 0 = .ok (.aload_n 0, 1) := by decide +kernel
theorem dX11_text_1 : decode cX11_text 1 = .ok (.iconst 0, 1) := by decide +kernel
theorem dX11_text_2 : decode cX11_text 2 = .ok (.putfield 128, 3) := by decide +kernel
theorem dX11_text_5 : decode cX11_text 5 = .ok (.iload_n 1, 1) := by decide +kernel
theorem dX11_text_6 : decode cX11_text 6 = .ok (.ifCond .lt 11, 3) := by decide +kernel
theorem dX11_text_9 : decode cX11_text 9 = .ok (.iload_n 1, 1) := by decide +kernel
theorem dX11_text_10 : decode cX11_text 10 = .ok (.aload_n 0, 1) := by decide +kernel
theorem dX11_text_11 : decode cX11_text 11 = .ok (.getfield 131, 3) := by decide +kernel
theorem dX11_text_14 : decode cX11_text 14 = .ok (.if_icmp .le 6, 3) := by decide +kernel
theorem dX11_text_17 : decode cX11_text 17 = .ok (.bipush (-2), 2) := by decide +kernel
theorem dX11_text_19 : decode cX11_text 19 = .ok (.ireturn, 1) := by decide +kernel
theorem dX11_text_20 : decode cX11_text 20 = .ok (.aload_n 0, 1) := by decide +kernel
theorem dX11_text_21 : decode cX11_text 21 = .ok (.iload_n 1, 1) := by decide +kernel
theorem dX11_text_22 : decode cX11_text 22 = .ok (.putfield 137, 3) := by decide +kernel
theorem dX11_text_25 : decode cX11_text 25 = .ok (.aload_n 0, 1) := by decide +kernel
theorem dX11_text_26 : decode cX11_text 26 = .ok (.iconst 0, 1) := by decide +kernel
theorem dX11_text_27 : decode cX11_text 27 = .ok (.putfield 131, 3) := by decide +kernel
theorem dX11_text_30 : decode cX11_text 30 = .ok (.aload_n 0, 1) := by decide +kernel
theorem dX11_text_31 : decode cX11_text 31 = .ok (.iconst 0, 1) := by decide +kernel
theorem dX11_text_32 : decode cX11_text 32 = .ok (.putfield 134, 3) := by decide +kernel
theorem dX11_text_35 : decode cX11_text 35 = .ok (.aload_n 0, 1) := by decide +kernel
theorem dX11_text_36 : decode cX11_text 36 = .ok (.iconst 0, 1) := by decide +kernel
theorem dX11_text_37 : decode cX11_text 37 = .ok (.putfield 182, 3) := by decide +kernel
theorem dX11_text_40 : decode cX11_text 40 = .ok (.aload_n 0, 1) := by decide +kernel
theorem dX11_text_41 : decode cX11_text 41 = .ok (.iconst (-1), 1) := by decide +kernel
theorem dX11_text_42 : decode cX11_text 42 = .ok (.putfield 185, 3) := by decide +kernel
theorem dX11_text_45 : decode cX11_text 45 = .ok (.iconst 0, 1) := by decide +kernel
theorem dX11_text_46 : decode cX11_text 46 = .ok (.istore_n 2, 1) := by decide +kernel
theorem dX11_text_47 : decode cX11_text 47 = .ok (.iload_n 2, 1) := by decide +kernel
theorem dX11_text_48 : decode cX11_text 48 = .ok (.bipush 9, 2) := by decide +kernel
theorem dX11_text_50 : decode cX11_text 50 = .ok (.if_icmp .ge 15, 3) := by decide +kernel
theorem dX11_text_53 : decode cX11_text 53 = .ok (.aload_n 0, 1) := by decide +kernel
theorem dX11_text_54 : decode cX11_text 54 = .ok (.iload_n 2, 1) := by decide +kernel
theorem dX11_text_55 : decode cX11_text 55 = .ok (.iconst 0, 1) := by decide +kernel
theorem dX11_text_56 : decode cX11_text 56 = .ok (.invokevirtual 219, 3) := by decide +kernel
theorem dX11_text_59 : decode cX11_text 59 = .ok (.iinc 2 1, 3) := by decide +kernel
theorem dX11_text_62 : decode cX11_text 62 = .ok (.goto (-15), 3) := by decide +kernel
theorem dX11_text_65 : decode cX11_text 65 = .ok (.iconst 2, 1) := by decide +kernel
theorem dX11_text_66 : decode cX11_text 66 = .ok (.istore_n 2, 1) := by decide +kernel
theorem dX11_text_67 : decode cX11_text 67 = .ok (.iload_n 2, 1) := by decide +kernel
theorem dX11_text_68 : decode cX11_text 68 = .ok (.iconst 4, 1) := by decide +kernel
theorem dX11_text_69 : decode cX11_text 69 = .ok (.if_icmp .ge 23, 3) := by decide +kernel
theorem dX11_text_72 : decode cX11_text 72 = .ok (.aload_n 0, 1) := by decide +kernel
theorem dX11_text_73 : decode cX11_text 73 = .ok (.getfield 49, 3) := by decide +kernel
theorem dX11_text_76 : decode cX11_text 76 = .ok (.iload_n 2, 1) := by decide +kernel
theorem dX11_text_77 : decode cX11_text 77 = .ok (.iconst 0, 1) := by decide +kernel
theorem dX11_text_78 : decode cX11_text 78 = .ok (.iastore, 1) := by decide +kernel
theorem dX11_text_79 : decode cX11_text 79 = .ok (.aload_n 0, 1) := by decide +kernel
theorem dX11_text_80 : decode cX11_text 80 = .ok (.getfield 52, 3) := by decide +kernel
theorem dX11_text_83 : decode cX11_text 83 = .ok (.iload_n 2, 1) := by decide +kernel
theorem dX11_text_84 : decode cX11_text 84 = .ok (.iconst 0, 1) := by decide +kernel
theorem dX11_text_85 : decode cX11_text 85 = .ok (.iastore, 1) := by decide +kernel
theorem dX11_text_86 : decode cX11_text 86 = .ok (.iinc 2 1, 3) := by decide +kernel
theorem dX11_text_89 : decode cX11_text 89 = .ok (.goto (-22), 3) := by decide +kernel
theorem dX11_text_92 : decode cX11_text 92 = .ok (.aload_n 0, 1) := by decide +kernel
theorem dX11_text_93 : decode cX11_text 93 = .ok (.iconst 0, 1) := by decide +kernel
theorem dX11_text_94 : decode cX11_text 94 = .ok (.putfield 209, 3) := by decide +kernel
theorem dX11_text_97 : decode cX11_text 97 = .ok (.aload_n 0, 1) := by decide +kernel
theorem dX11_text_98 : decode cX11_text 98 = .ok (.iconst 0, 1) := by decide +kernel
theorem dX11_text_99 : decode cX11_text 99 = .ok (.putfield 244, 3) := by decide +kernel
theorem dX11_text_102 : decode cX11_text 102 = .ok (.aload_n 0, 1) := by decide +kernel
theorem dX11_text_103 : decode cX11_text 103 = .ok (.iconst 0, 1) := by decide +kernel
theorem dX11_text_104 : decode cX11_text 104 = .ok (.putfield 274, 3) := by decide +kernel
theorem dX11_text_107 : decode cX11_text 107 = .ok (.aload_n 0, 1) := by decide +kernel
theorem dX11_text_108 : decode cX11_text 108 = .ok (.iconst 0, 1) := by decide +kernel
theorem dX11_text_109 : decode cX11_text 109 = .ok (.putfield 280, 3) := by decide +kernel
theorem dX11_text_112 : decode cX11_text 112 = .ok (.aload_n 0, 1) := by decide +kernel
theorem dX11_text_113 : decode cX11_text 113 = .ok (.invokevirtual 188, 3) := by decide +kernel
theorem dX11_text_116 : decode cX11_text 116 = .ok (.aload_n 0, 1) := by decide +kernel
theorem dX11_text_117 : decode cX11_text 117 = .ok (.getfield 182, 3) := by decide +kernel
theorem dX11_text_120 : decode cX11_text 120 = .ok (.ifCond .ne 18, 3) := by decide +kernel
theorem dX11_text_123 : decode cX11_text 123 = .ok (.aload_n 0, 1) := by decide +kernel
theorem dX11_text_124 : decode cX11_text 124 = .ok (.getfield 147, 3) := by decide +kernel
theorem dX11_text_127 : decode cX11_text 127 = .ok (.iconst 4, 1) := by decide +kernel
theorem dX11_text_128 : decode cX11_text 128 = .ok (.if_icmp .eq 10, 3) := by decide +kernel
theorem dX11_text_131 : decode cX11_text 131 = .ok (.aload_n 0, 1) := by decide +kernel
theorem dX11_text_132 : decode cX11_text 132 = .ok (.invokevirtual 298, 3) := by decide +kernel
theorem dX11_text_135 : decode cX11_text 135 = .ok (.goto (-19), 3) := by decide +kernel
theorem dX11_text_138 : decode cX11_text 138 = .ok (.aload_n 0, 1) := by decide +kernel
theorem dX11_text_139 : decode cX11_text 139 = .ok (.aload_n 0, 1) := by decide +kernel
theorem dX11_text_140 : decode cX11_text 140 = .ok (.getfield 182, 3) := by decide +kernel
theorem dX11_text_143 : decode cX11_text 143 = .ok (.putfield 301, 3) := by decide +kernel
theorem dX11_text_146 : decode cX11_text 146 = .ok (.aload_n 0, 1) := by decide +kernel
theorem dX11_text_147 : decode cX11_text 147 = .ok (.aload_n 0, 1) := by decide +kernel
theorem dX11_text_148 : decode cX11_text 148 = .ok (.getfield 185, 3) := by decide +kernel
theorem dX11_text_151 : decode cX11_text 151 = .ok (.putfield 61, 3) := by decide +kernel
theorem dX11_text_154 : decode cX11_text 154 = .ok (.aload_n 0, 1) := by decide +kernel
theorem dX11_text_155 : decode cX11_text 155 = .ok (.getfield 182, 3) := by decide +kernel
theorem dX11_text_158 : decode cX11_text 158 = .ok (.ifCond .eq 5, 3) := by decide +kernel
theorem dX11_text_161 : decode cX11_text 161 = .ok (.iconst (-1), 1) := by decide +kernel
theorem dX11_text_162 : decode cX11_text 162 = .ok (.ireturn, 1) := by decide +kernel
theorem dX11_text_163 : decode cX11_text 163 = .ok (.aload_n 0, 1) := by decide +kernel
theorem dX11_text_164 : decode cX11_text 164 = .ok (.getfield 13, 3) := by decide +kernel
theorem dX11_text_167 : decode cX11_text 167 = .ok (.invokestatic 304, 3) := by decide +kernel
theorem dX11_text_170 : decode cX11_text 170 = .ok (.aload_n 0, 1) := by decide +kernel
theorem dX11_text_171 : decode cX11_text 171 = .ok (.getfield 16, 3) := by decide +kernel
theorem dX11_text_174 : decode cX11_text 174 = .ok (.invokestatic 304, 3) := by decide +kernel
theorem dX11_text_177 : decode cX11_text 177 = .ok (.aload_n 0, 1) := by decide +kernel
theorem dX11_text_178 : decode cX11_text 178 = .ok (.getfield 19, 3) := by decide +kernel
theorem dX11_text_181 : decode cX11_text 181 = .ok (.invokestatic 304, 3) := by decide +kernel
theorem dX11_text_184 : decode cX11_text 184 = .ok (.aload_n 0, 1) := by decide +kernel
theorem dX11_text_185 : decode cX11_text 185 = .ok (.getfield 22, 3) := by decide +kernel
theorem dX11_text_188 : decode cX11_text 188 = .ok (.invokestatic 304, 3) := by decide +kernel
theorem dX11_text_191 : decode cX11_text 191 = .ok (.aload_n 0, 1) := by decide +kernel
theorem dX11_text_192 : decode cX11_text 192 = .ok (.getfield 25, 3) := by decide +kernel
theorem dX11_text_195 : decode cX11_text 195 = .ok (.invokestatic 304, 3) := by decide +kernel
theorem dX11_text_198 : decode cX11_text 198 = .ok (.aload_n 0, 1) := by decide +kernel
theorem dX11_text_199 : decode cX11_text 199 = .ok (.getfield 28, 3) := by decide +kernel
theorem dX11_text_202 : decode cX11_text 202 = .ok (.invokestatic 304, 3) := by decide +kernel
theorem dX11_text_205 : decode cX11_text 205 = .ok (.aload_n 0, 1) := by decide +kernel
theorem dX11_text_206 : decode cX11_text 206 = .ok (.getfield 31, 3) := by decide +kernel
theorem dX11_text_209 : decode cX11_text 209 = .ok (.invokestatic 304, 3) := by decide +kernel
theorem dX11_text_212 : decode cX11_text 212 = .ok (.aload_n 0, 1) := by decide +kernel
theorem dX11_text_213 : decode cX11_text 213 = .ok (.getfield 34, 3) := by decide +kernel
theorem dX11_text_216 : decode cX11_text 216 = .ok (.invokestatic 304, 3) := by decide +kernel
theorem dX11_text_219 : decode cX11_text 219 = .ok (.aload_n 0, 1) := by decide +kernel
theorem dX11_text_220 : decode cX11_text 220 = .ok (.getfield 37, 3) := by decide +kernel
theorem dX11_text_223 : decode cX11_text 223 = .ok (.invokestatic 304, 3) := by decide +kernel
theorem dX11_text_226 : decode cX11_text 226 = .ok (.aload_n 0, 1) := by decide +kernel
theorem dX11_text_227 : decode cX11_text 227 = .ok (.getfield 40, 3) := by decide +kernel
theorem dX11_text_230 : decode cX11_text 230 = .ok (.invokestatic 304, 3) := by decide +kernel
theorem dX11_text_233 : decode cX11_text 233 = .ok (.aload_n 0, 1) := by decide +kernel
theorem dX11_text_234 : decode cX11_text 234 = .ok (.getfield 43, 3) := by decide +kernel
theorem dX11_text_237 : decode cX11_text 237 = .ok (.invokestatic 304, 3) := by decide +kernel
theorem dX11_text_240 : decode cX11_text 240 = .ok (.aload_n 0, 1) := by decide +kernel
theorem dX11_text_241 : decode cX11_text 241 = .ok (.getfield 46, 3) := by decide +kernel
theorem dX11_text_244 : decode cX11_text 244 = .ok (.invokestatic 304, 3) := by decide +kernel
theorem dX11_text_247 : decode cX11_text 247 = .ok (.aload_n 0, 1) := by decide +kernel
theorem dX11_text_248 : decode cX11_text 248 = .ok (.getfield 49, 3) := by decide +kernel
theorem dX11_text_251 : decode cX11_text 251 = .ok (.invokestatic 304, 3) := by decide +kernel
theorem dX11_text_254 : decode cX11_text 254 = .ok (.aload_n 0, 1) := by decide +kernel
theorem dX11_text_255 : decode cX11_text 255 = .ok (.getfield 52, 3) := by decide +kernel
theorem dX11_text_258 : decode cX11_text 258 = .ok (.invokestatic 304, 3) := by decide +kernel
theorem dX11_text_261 : decode cX11_text 261 = .ok (.aload_n 0, 1) := by decide +kernel
theorem dX11_text_262 : decode cX11_text 262 = .ok (.getfield 55, 3) := by decide +kernel
theorem dX11_text_265 : decode cX11_text 265 = .ok (.invokestatic 304, 3) := by decide +kernel
theorem dX11_text_268 : decode cX11_text 268 = .ok (.aload_n 0, 1) := by decide +kernel
theorem dX11_text_269 : decode cX11_text 269 = .ok (.getfield 58, 3) := by decide +kernel
theorem dX11_text_272 : decode cX11_text 272 = .ok (.invokestatic 304, 3) := by decide +kernel
theorem dX11_text_275 : decode cX11_text 275 = .ok (.aload_n 0, 1) := by decide +kernel
theorem dX11_text_276 : decode cX11_text 276 = .ok (.iconst 0, 1) := by decide +kernel
theorem dX11_text_277 : decode cX11_text 277 = .ok (.putfield 308, 3) := by decide +kernel
theorem dX11_text_280 : decode cX11_text 280 = .ok (.aload_n 0, 1) := by decide +kernel
theorem dX11_text_281 : decode cX11_text 281 = .ok (.iconst 0, 1) := by decide +kernel
theorem dX11_text_282 : decode cX11_text 282 = .ok (.putfield 312, 3) := by decide +kernel
theorem dX11_text_285 : decode cX11_text 285 = .ok (.aload_n 0, 1) := by decide +kernel
theorem dX11_text_286 : decode cX11_text 286 = .ok (.invokevirtual 125, 3) := by decide +kernel
theorem dX11_text_289 : decode cX11_text 289 = .ok (.aload_n 0, 1) := by decide +kernel
theorem dX11_text_290 : decode cX11_text 290 = .ok (.getfield 244, 3) := by decide +kernel
theorem dX11_text_293 : decode cX11_text 293 = .ok (.ireturn, 1) := by decide +kernel
theorem dX11_fault_0 : decode cX11_fault 0 = .ok (.aload_n 0, 1) := by decide +kernel
theorem dX11_fault_1 : decode cX11_fault 1 = .ok (.iconst 0, 1) := by decide +kernel
theorem dX11_fault_2 : decode cX11_fault 2 = .ok (.putfield 128, 3) := by decide +kernel
theorem dX11_fault_5 : decode cX11_fault 5 = .ok (.iload_n 1, 1) := by decide +kernel
theorem dX11_fault_6 : decode cX11_fault 6 = .ok (.ifCond .ne 10, 3) := by decide +kernel
theorem dX11_fault_9 : decode cX11_fault 9 = .ok (.aload_n 0, 1) := by decide +kernel
theorem dX11_fault_10 : decode cX11_fault 10 = .ok (.getfield 301, 3) := by decide +kernel
theorem dX11_fault_13 : decode cX11_fault 13 = .ok (.goto 16, 3) := by decide +kernel
theorem dX11_fault_16 : decode cX11_fault 16 = .ok (.iload_n 1, 1) := by decide +kernel
theorem dX11_fault_17 : decode cX11_fault 17 = .ok (.iconst 1, 1) := by decide +kernel
theorem dX11_fault_18 : decode cX11_fault 18 = .ok (.if_icmp .ne 10, 3) := by decide +kernel
theorem dX11_fault_21 : decode cX11_fault 21 = .ok (.aload_n 0, 1) := by decide +kernel
theorem dX11_fault_22 : decode cX11_fault 22 = .ok (.getfield 61, 3) := by decide +kernel
theorem dX11_fault_25 : decode cX11_fault 25 = .ok (.goto 4, 3) := by decide +kernel
theorem dX11_fault_28 : decode cX11_fault 28 = .ok (.iconst (-1), 1) := by decide +kernel
theorem dX11_fault_29 : decode cX11_fault 29 = .ok (.ireturn, 1) := by decide +kernel
theorem dX11_named_0 : decode cX11_named 0 = .ok (.aload_n 0, 1) := by decide +kernel
theorem dX11_named_1 : decode cX11_named 1 = .ok (.iconst 0, 1) := by decide +kernel
theorem dX11_named_2 : decode cX11_named 2 = .ok (.putfield 128, 3) := by decide +kernel
theorem dX11_named_5 : decode cX11_named 5 = .ok (.iload_n 1, 1) := by decide +kernel
theorem dX11_named_6 : decode cX11_named 6 = .ok (.tableswitch 74 0 2 #[26, 42, 58], 26) := by decide +kernel
theorem dX11_named_32 : decode cX11_named 32 = .ok (.aload_n 0, 1) := by decide +kernel
theorem dX11_named_33 : decode cX11_named 33 = .ok (.getfield 16, 3) := by decide +kernel
theorem dX11_named_36 : decode cX11_named 36 = .ok (.iconst 0, 1) := by decide +kernel
theorem dX11_named_37 : decode cX11_named 37 = .ok (.aload_n 0, 1) := by decide +kernel
theorem dX11_named_38 : decode cX11_named 38 = .ok (.getfield 13, 3) := by decide +kernel
theorem dX11_named_41 : decode cX11_named 41 = .ok (.iconst 0, 1) := by decide +kernel
theorem dX11_named_42 : decode cX11_named 42 = .ok (.iaload, 1) := by decide +kernel
theorem dX11_named_43 : decode cX11_named 43 = .ok (.iload_n 2, 1) := by decide +kernel
theorem dX11_named_44 : decode cX11_named 44 = .ok (.invokestatic 194, 3) := by decide +kernel
theorem dX11_named_47 : decode cX11_named 47 = .ok (.ireturn, 1) := by decide +kernel
theorem dX11_named_48 : decode cX11_named 48 = .ok (.aload_n 0, 1) := by decide +kernel
theorem dX11_named_49 : decode cX11_named 49 = .ok (.getfield 22, 3) := by decide +kernel
theorem dX11_named_52 : decode cX11_named 52 = .ok (.iconst 0, 1) := by decide +kernel
theorem dX11_named_53 : decode cX11_named 53 = .ok (.aload_n 0, 1) := by decide +kernel
theorem dX11_named_54 : decode cX11_named 54 = .ok (.getfield 13, 3) := by decide +kernel
theorem dX11_named_57 : decode cX11_named 57 = .ok (.iconst 1, 1) := by decide +kernel
theorem dX11_named_58 : decode cX11_named 58 = .ok (.iaload, 1) := by decide +kernel
theorem dX11_named_59 : decode cX11_named 59 = .ok (.iload_n 2, 1) := by decide +kernel
theorem dX11_named_60 : decode cX11_named 60 = .ok (.invokestatic 194, 3) := by decide +kernel
theorem dX11_named_63 : decode cX11_named 63 = .ok (.ireturn, 1) := by decide +kernel
theorem dX11_named_64 : decode cX11_named 64 = .ok (.aload_n 0, 1) := by decide +kernel
theorem dX11_named_65 : decode cX11_named 65 = .ok (.getfield 31, 3) := by decide +kernel
theorem dX11_named_68 : decode cX11_named 68 = .ok (.iconst 0, 1) := by decide +kernel
theorem dX11_named_69 : decode cX11_named 69 = .ok (.aload_n 0, 1) := by decide +kernel
theorem dX11_named_70 : decode cX11_named 70 = .ok (.getfield 13, 3) := by decide +kernel
theorem dX11_named_73 : decode cX11_named 73 = .ok (.iconst 2, 1) := by decide +kernel
theorem dX11_named_74 : decode cX11_named 74 = .ok (.iaload, 1) := by decide +kernel
theorem dX11_named_75 : decode cX11_named 75 = .ok (.iload_n 2, 1) := by decide +kernel
theorem dX11_named_76 : decode cX11_named 76 = .ok (.invokestatic 194, 3) := by decide +kernel
theorem dX11_named_79 : decode cX11_named 79 = .ok (.ireturn, 1) := by decide +kernel
theorem dX11_named_80 : decode cX11_named 80 = .ok (.iconst (-1), 1) := by decide +kernel
theorem dX11_named_81 : decode cX11_named 81 = .ok (.ireturn, 1) := by decide +kernel
theorem dX11_oneIf_0 : decode cX11_oneIf 0 = .ok (.iload_n 0, 1) := by decide +kernel
theorem dX11_oneIf_1 : decode cX11_oneIf 1 = .ok (.ifCond .eq 7, 3) := by decide +kernel
theorem dX11_oneIf_4 : decode cX11_oneIf 4 = .ok (.lconst 1, 1) := by decide +kernel
theorem dX11_oneIf_5 : decode cX11_oneIf 5 = .ok (.goto 4, 3) := by decide +kernel
theorem dX11_oneIf_8 : decode cX11_oneIf 8 = .ok (.lconst 0, 1) := by decide +kernel
theorem dX11_oneIf_9 : decode cX11_oneIf 9 = .ok (.lreturn, 1) := by decide +kernel
theorem dX11_works_0 : decode cX11_works 0 = .ok (.aload_n 0, 1) := by decide +kernel
theorem dX11_works_1 : decode cX11_works 1 = .ok (.getfield 69, 3) := by decide +kernel
theorem dX11_works_4 : decode cX11_works 4 = .ok (.aload_n 0, 1) := by decide +kernel
theorem dX11_works_5 : decode cX11_works 5 = .ok (.getfield 315, 3) := by decide +kernel
theorem dX11_works_8 : decode cX11_works 8 = .ok (.iconst 1, 1) := by decide +kernel
theorem dX11_works_9 : decode cX11_works 9 = .ok (.isub, 1) := by decide +kernel
theorem dX11_works_10 : decode cX11_works 10 = .ok (.laload, 1) := by decide +kernel
theorem dX11_works_11 : decode cX11_works 11 = .ok (.lstore_n 2, 1) := by decide +kernel
theorem dX11_works_12 : decode cX11_works 12 = .ok (.iload_n 1, 1) := by decide +kernel
theorem dX11_works_13 : decode cX11_works 13 = .ok (.sipush 260, 3) := by decide +kernel
theorem dX11_works_16 : decode cX11_works 16 = .ok (.if_icmp .ne 30, 3) := by decide +kernel
theorem dX11_works_19 : decode cX11_works 19 = .ok (.aload_n 0, 1) := by decide +kernel
theorem dX11_works_20 : decode cX11_works 20 = .ok (.getfield 69, 3) := by decide +kernel
theorem dX11_works_23 : decode cX11_works 23 = .ok (.aload_n 0, 1) := by decide +kernel
theorem dX11_works_24 : decode cX11_works 24 = .ok (.getfield 315, 3) := by decide +kernel
theorem dX11_works_27 : decode cX11_works 27 = .ok (.iconst 1, 1) := by decide +kernel
theorem dX11_works_28 : decode cX11_works 28 = .ok (.isub, 1) := by decide +kernel
theorem dX11_works_29 : decode cX11_works 29 = .ok (.lload_n 2, 1) := by decide +kernel
theorem dX11_works_30 : decode cX11_works 30 = .ok (.lconst 0, 1) := by decide +kernel
theorem dX11_works_31 : decode cX11_works 31 = .ok (.lcmp, 1) := by decide +kernel
theorem dX11_works_32 : decode cX11_works 32 = .ok (.ifCond .ne 7, 3) := by decide +kernel
theorem dX11_works_35 : decode cX11_works 35 = .ok (.iconst 1, 1) := by decide +kernel
theorem dX11_works_36 : decode cX11_works 36 = .ok (.goto 4, 3) := by decide +kernel
theorem dX11_works_39 : decode cX11_works 39 = .ok (.iconst 0, 1) := by decide +kernel
theorem dX11_works_40 : decode cX11_works 40 = .ok (.invokestatic 318, 3) := by decide +kernel
theorem dX11_works_43 : decode cX11_works 43 = .ok (.lastore, 1) := by decide +kernel
theorem dX11_works_44 : decode cX11_works 44 = .ok (.iconst 1, 1) := by decide +kernel
theorem dX11_works_45 : decode cX11_works 45 = .ok (.ireturn, 1) := by decide +kernel
theorem dX11_works_46 : decode cX11_works 46 = .ok (.aload_n 0, 1) := by decide +kernel
theorem dX11_works_47 : decode cX11_works 47 = .ok (.getfield 69, 3) := by decide +kernel
theorem dX11_works_50 : decode cX11_works 50 = .ok (.aload_n 0, 1) := by decide +kernel
theorem dX11_works_51 : decode cX11_works 51 = .ok (.getfield 315, 3) := by decide +kernel
theorem dX11_works_54 : decode cX11_works 54 = .ok (.iconst 2, 1) := by decide +kernel
theorem dX11_works_55 : decode cX11_works 55 = .ok (.isub, 1) := by decide +kernel
theorem dX11_works_56 : decode cX11_works 56 = .ok (.laload, 1) := by decide +kernel
theorem dX11_works_57 : decode cX11_works 57 = .ok (.lstore 4, 2) := by decide +kernel
theorem dX11_works_59 : decode cX11_works 59 = .ok (.aload_n 0, 1) := by decide +kernel
theorem dX11_works_60 : decode cX11_works 60 = .ok (.dup, 1) := by decide +kernel
theorem dX11_works_61 : decode cX11_works 61 = .ok (.getfield 315, 3) := by decide +kernel
theorem dX11_works_64 : decode cX11_works 64 = .ok (.iconst 1, 1) := by decide +kernel
theorem dX11_works_65 : decode cX11_works 65 = .ok (.isub, 1) := by decide +kernel
theorem dX11_works_66 : decode cX11_works 66 = .ok (.putfield 315, 3) := by decide +kernel
theorem dX11_works_69 : decode cX11_works 69 = .ok (.iload_n 1, 1) := by decide +kernel
theorem dX11_works_70 : decode cX11_works 70 = .ok (.lookupswitch 314 #[(42, 116), (43, 98), (45, 107), (47, 151), (60, 168), (61, 208), (62, 188), (256, 228), (257, 268), (258, 248), (261, 288)], 98) := by decide +kernel
theorem dX11_works_168 : decode cX11_works 168 = .ok (.lload 4, 2) := by decide +kernel
theorem dX11_works_170 : decode cX11_works 170 = .ok (.lload_n 2, 1) := by decide +kernel
theorem dX11_works_171 : decode cX11_works 171 = .ok (.ladd, 1) := by decide +kernel
theorem dX11_works_172 : decode cX11_works 172 = .ok (.lstore 6, 2) := by decide +kernel
theorem dX11_works_174 : decode cX11_works 174 = .ok (.goto 233, 3) := by decide +kernel
theorem dX11_works_177 : decode cX11_works 177 = .ok (.lload 4, 2) := by decide +kernel
theorem dX11_works_179 : decode cX11_works 179 = .ok (.lload_n 2, 1) := by decide +kernel
theorem dX11_works_180 : decode cX11_works 180 = .ok (.lsub, 1) := by decide +kernel
theorem dX11_works_181 : decode cX11_works 181 = .ok (.lstore 6, 2) := by decide +kernel
theorem dX11_works_183 : decode cX11_works 183 = .ok (.goto 224, 3) := by decide +kernel
theorem dX11_works_186 : decode cX11_works 186 = .ok (.lload 4, 2) := by decide +kernel
theorem dX11_works_188 : decode cX11_works 188 = .ok (.lconst 0, 1) := by decide +kernel
theorem dX11_works_189 : decode cX11_works 189 = .ok (.lcmp, 1) := by decide +kernel
theorem dX11_works_190 : decode cX11_works 190 = .ok (.ifCond .eq 22, 3) := by decide +kernel
theorem dX11_works_193 : decode cX11_works 193 = .ok (.lload_n 2, 1) := by decide +kernel
theorem dX11_works_194 : decode cX11_works 194 = .ok (.invokestatic 322, 3) := by decide +kernel
theorem dX11_works_197 : decode cX11_works 197 = .ok (.ldc2_w 328, 3) := by decide +kernel
theorem dX11_works_200 : decode cX11_works 200 = .ok (.lload 4, 2) := by decide +kernel
theorem dX11_works_202 : decode cX11_works 202 = .ok (.invokestatic 322, 3) := by decide +kernel
theorem dX11_works_205 : decode cX11_works 205 = .ok (.ldiv, 1) := by decide +kernel
theorem dX11_works_206 : decode cX11_works 206 = .ok (.lcmp, 1) := by decide +kernel
theorem dX11_works_207 : decode cX11_works 207 = .ok (.ifCond .le 5, 3) := by decide +kernel
theorem dX11_works_210 : decode cX11_works 210 = .ok (.iconst 0, 1) := by decide +kernel
theorem dX11_works_211 : decode cX11_works 211 = .ok (.ireturn, 1) := by decide +kernel
theorem dX11_works_212 : decode cX11_works 212 = .ok (.lload 4, 2) := by decide +kernel
theorem dX11_works_214 : decode cX11_works 214 = .ok (.lload_n 2, 1) := by decide +kernel
theorem dX11_works_215 : decode cX11_works 215 = .ok (.lmul, 1) := by decide +kernel
theorem dX11_works_216 : decode cX11_works 216 = .ok (.lstore 6, 2) := by decide +kernel
theorem dX11_works_218 : decode cX11_works 218 = .ok (.goto 189, 3) := by decide +kernel
theorem dX11_works_221 : decode cX11_works 221 = .ok (.lload_n 2, 1) := by decide +kernel
theorem dX11_works_222 : decode cX11_works 222 = .ok (.lconst 0, 1) := by decide +kernel
theorem dX11_works_223 : decode cX11_works 223 = .ok (.lcmp, 1) := by decide +kernel
theorem dX11_works_224 : decode cX11_works 224 = .ok (.ifCond .ne 5, 3) := by decide +kernel
theorem dX11_works_227 : decode cX11_works 227 = .ok (.iconst 0, 1) := by decide +kernel
theorem dX11_works_228 : decode cX11_works 228 = .ok (.ireturn, 1) := by decide +kernel
theorem dX11_works_229 : decode cX11_works 229 = .ok (.lload 4, 2) := by decide +kernel
theorem dX11_works_231 : decode cX11_works 231 = .ok (.lload_n 2, 1) := by decide +kernel
theorem dX11_works_232 : decode cX11_works 232 = .ok (.ldiv, 1) := by decide +kernel
theorem dX11_works_233 : decode cX11_works 233 = .ok (.lstore 6, 2) := by decide +kernel
theorem dX11_works_235 : decode cX11_works 235 = .ok (.goto 172, 3) := by decide +kernel
theorem dX11_works_238 : decode cX11_works 238 = .ok (.lload 4, 2) := by decide +kernel
theorem dX11_works_240 : decode cX11_works 240 = .ok (.lload_n 2, 1) := by decide +kernel
theorem dX11_works_241 : decode cX11_works 241 = .ok (.lcmp, 1) := by decide +kernel
theorem dX11_works_242 : decode cX11_works 242 = .ok (.ifCond .ge 7, 3) := by decide +kernel
theorem dX11_works_245 : decode cX11_works 245 = .ok (.iconst 1, 1) := by decide +kernel
theorem dX11_works_246 : decode cX11_works 246 = .ok (.goto 4, 3) := by decide +kernel
theorem dX11_works_249 : decode cX11_works 249 = .ok (.iconst 0, 1) := by decide +kernel
theorem dX11_works_250 : decode cX11_works 250 = .ok (.invokestatic 318, 3) := by decide +kernel
theorem dX11_works_253 : decode cX11_works 253 = .ok (.lstore 6, 2) := by decide +kernel
theorem dX11_works_255 : decode cX11_works 255 = .ok (.goto 152, 3) := by decide +kernel
theorem dX11_works_258 : decode cX11_works 258 = .ok (.lload 4, 2) := by decide +kernel
theorem dX11_works_260 : decode cX11_works 260 = .ok (.lload_n 2, 1) := by decide +kernel
theorem dX11_works_261 : decode cX11_works 261 = .ok (.lcmp, 1) := by decide +kernel
theorem dX11_works_262 : decode cX11_works 262 = .ok (.ifCond .le 7, 3) := by decide +kernel
theorem dX11_works_265 : decode cX11_works 265 = .ok (.iconst 1, 1) := by decide +kernel
theorem dX11_works_266 : decode cX11_works 266 = .ok (.goto 4, 3) := by decide +kernel
theorem dX11_works_269 : decode cX11_works 269 = .ok (.iconst 0, 1) := by decide +kernel
theorem dX11_works_270 : decode cX11_works 270 = .ok (.invokestatic 318, 3) := by decide +kernel
theorem dX11_works_273 : decode cX11_works 273 = .ok (.lstore 6, 2) := by decide +kernel
theorem dX11_works_275 : decode cX11_works 275 = .ok (.goto 132, 3) := by decide +kernel
theorem dX11_works_278 : decode cX11_works 278 = .ok (.lload 4, 2) := by decide +kernel
theorem dX11_works_280 : decode cX11_works 280 = .ok (.lload_n 2, 1) := by decide +kernel
theorem dX11_works_281 : decode cX11_works 281 = .ok (.lcmp, 1) := by decide +kernel
theorem dX11_works_282 : decode cX11_works 282 = .ok (.ifCond .ne 7, 3) := by decide +kernel
theorem dX11_works_285 : decode cX11_works 285 = .ok (.iconst 1, 1) := by decide +kernel
theorem dX11_works_286 : decode cX11_works 286 = .ok (.goto 4, 3) := by decide +kernel
theorem dX11_works_289 : decode cX11_works 289 = .ok (.iconst 0, 1) := by decide +kernel
theorem dX11_works_290 : decode cX11_works 290 = .ok (.invokestatic 318, 3) := by decide +kernel
theorem dX11_works_293 : decode cX11_works 293 = .ok (.lstore 6, 2) := by decide +kernel
theorem dX11_works_295 : decode cX11_works 295 = .ok (.goto 112, 3) := by decide +kernel
theorem dX11_works_298 : decode cX11_works 298 = .ok (.lload 4, 2) := by decide +kernel
theorem dX11_works_300 : decode cX11_works 300 = .ok (.lload_n 2, 1) := by decide +kernel
theorem dX11_works_301 : decode cX11_works 301 = .ok (.lcmp, 1) := by decide +kernel
theorem dX11_works_302 : decode cX11_works 302 = .ok (.ifCond .gt 7, 3) := by decide +kernel
theorem dX11_works_305 : decode cX11_works 305 = .ok (.iconst 1, 1) := by decide +kernel
theorem dX11_works_306 : decode cX11_works 306 = .ok (.goto 4, 3) := by decide +kernel
theorem dX11_works_309 : decode cX11_works 309 = .ok (.iconst 0, 1) := by decide +kernel
theorem dX11_works_310 : decode cX11_works 310 = .ok (.invokestatic 318, 3) := by decide +kernel
theorem dX11_works_313 : decode cX11_works 313 = .ok (.lstore 6, 2) := by decide +kernel
theorem dX11_works_315 : decode cX11_works 315 = .ok (.goto 92, 3) := by decide +kernel
theorem dX11_works_318 : decode cX11_works 318 = .ok (.lload 4, 2) := by decide +kernel
theorem dX11_works_320 : decode cX11_works 320 = .ok (.lload_n 2, 1) := by decide +kernel
theorem dX11_works_321 : decode cX11_works 321 = .ok (.lcmp, 1) := by decide +kernel
theorem dX11_works_322 : decode cX11_works 322 = .ok (.ifCond .lt 7, 3) := by decide +kernel
theorem dX11_works_325 : decode cX11_works 325 = .ok (.iconst 1, 1) := by decide +kernel
theorem dX11_works_326 : decode cX11_works 326 = .ok (.goto 4, 3) := by decide +kernel
theorem dX11_works_329 : decode cX11_works 329 = .ok (.iconst 0, 1) := by decide +kernel
theorem dX11_works_330 : decode cX11_works 330 = .ok (.invokestatic 318, 3) := by decide +kernel
theorem dX11_works_333 : decode cX11_works 333 = .ok (.lstore 6, 2) := by decide +kernel
theorem dX11_works_335 : decode cX11_works 335 = .ok (.goto 72, 3) := by decide +kernel
theorem dX11_works_338 : decode cX11_works 338 = .ok (.lload 4, 2) := by decide +kernel
theorem dX11_works_340 : decode cX11_works 340 = .ok (.lload_n 2, 1) := by decide +kernel
theorem dX11_works_341 : decode cX11_works 341 = .ok (.lcmp, 1) := by decide +kernel
theorem dX11_works_342 : decode cX11_works 342 = .ok (.ifCond .eq 7, 3) := by decide +kernel
theorem dX11_works_345 : decode cX11_works 345 = .ok (.iconst 1, 1) := by decide +kernel
theorem dX11_works_346 : decode cX11_works 346 = .ok (.goto 4, 3) := by decide +kernel
theorem dX11_works_349 : decode cX11_works 349 = .ok (.iconst 0, 1) := by decide +kernel
theorem dX11_works_350 : decode cX11_works 350 = .ok (.invokestatic 318, 3) := by decide +kernel
theorem dX11_works_353 : decode cX11_works 353 = .ok (.lstore 6, 2) := by decide +kernel
theorem dX11_works_355 : decode cX11_works 355 = .ok (.goto 52, 3) := by decide +kernel
theorem dX11_works_358 : decode cX11_works 358 = .ok (.lload 4, 2) := by decide +kernel
theorem dX11_works_360 : decode cX11_works 360 = .ok (.lconst 0, 1) := by decide +kernel
theorem dX11_works_361 : decode cX11_works 361 = .ok (.lcmp, 1) := by decide +kernel
theorem dX11_works_362 : decode cX11_works 362 = .ok (.ifCond .eq 13, 3) := by decide +kernel
theorem dX11_works_365 : decode cX11_works 365 = .ok (.lload_n 2, 1) := by decide +kernel
theorem dX11_works_366 : decode cX11_works 366 = .ok (.lconst 0, 1) := by decide +kernel
theorem dX11_works_367 : decode cX11_works 367 = .ok (.lcmp, 1) := by decide +kernel
theorem dX11_works_368 : decode cX11_works 368 = .ok (.ifCond .eq 7, 3) := by decide +kernel
theorem dX11_works_371 : decode cX11_works 371 = .ok (.iconst 1, 1) := by decide +kernel
theorem dX11_works_372 : decode cX11_works 372 = .ok (.goto 4, 3) := by decide +kernel
theorem dX11_works_375 : decode cX11_works 375 = .ok (.iconst 0, 1) := by decide +kernel
theorem dX11_works_376 : decode cX11_works 376 = .ok (.invokestatic 318, 3) := by decide +kernel
theorem dX11_works_379 : decode cX11_works 379 = .ok (.lstore 6, 2) := by decide +kernel
theorem dX11_works_381 : decode cX11_works 381 = .ok (.goto 26, 3) := by decide +kernel
theorem dX11_works_384 : decode cX11_works 384 = .ok (.lload 4, 2) := by decide +kernel
theorem dX11_works_386 : decode cX11_works 386 = .ok (.lconst 0, 1) := by decide +kernel
theorem dX11_works_387 : decode cX11_works 387 = .ok (.lcmp, 1) := by decide +kernel
theorem dX11_works_388 : decode cX11_works 388 = .ok (.ifCond .ne 9, 3) := by decide +kernel
theorem dX11_works_391 : decode cX11_works 391 = .ok (.lload_n 2, 1) := by decide +kernel
theorem dX11_works_392 : decode cX11_works 392 = .ok (.lconst 0, 1) := by decide +kernel
theorem dX11_works_393 : decode cX11_works 393 = .ok (.lcmp, 1) := by decide +kernel
theorem dX11_works_394 : decode cX11_works 394 = .ok (.ifCond .eq 7, 3) := by decide +kernel
theorem dX11_works_397 : decode cX11_works 397 = .ok (.iconst 1, 1) := by decide +kernel
theorem dX11_works_398 : decode cX11_works 398 = .ok (.goto 4, 3) := by decide +kernel
theorem dX11_works_401 : decode cX11_works 401 = .ok (.iconst 0, 1) := by decide +kernel
theorem dX11_works_402 : decode cX11_works 402 = .ok (.invokestatic 318, 3) := by decide +kernel
theorem dX11_works_405 : decode cX11_works 405 = .ok (.lstore 6, 2) := by decide +kernel
theorem dX11_works_407 : decode cX11_works 407 = .ok (.aload_n 0, 1) := by decide +kernel
theorem dX11_works_408 : decode cX11_works 408 = .ok (.getfield 69, 3) := by decide +kernel
theorem dX11_works_411 : decode cX11_works 411 = .ok (.aload_n 0, 1) := by decide +kernel
theorem dX11_works_412 : decode cX11_works 412 = .ok (.getfield 315, 3) := by decide +kernel
theorem dX11_works_415 : decode cX11_works 415 = .ok (.iconst 1, 1) := by decide +kernel
theorem dX11_works_416 : decode cX11_works 416 = .ok (.isub, 1) := by decide +kernel
theorem dX11_works_417 : decode cX11_works 417 = .ok (.lload 6, 2) := by decide +kernel
theorem dX11_works_419 : decode cX11_works 419 = .ok (.lastore, 1) := by decide +kernel
theorem dX11_works_420 : decode cX11_works 420 = .ok (.lload 6, 2) := by decide +kernel
theorem dX11_works_422 : decode cX11_works 422 = .ok (.ldc2_w 328, 3) := by decide +kernel
theorem dX11_works_425 : decode cX11_works 425 = .ok (.lcmp, 1) := by decide +kernel
theorem dX11_works_426 : decode cX11_works 426 = .ok (.ifCond .gt 16, 3) := by decide +kernel
theorem dX11_works_429 : decode cX11_works 429 = .ok (.lload 6, 2) := by decide +kernel
theorem dX11_works_431 : decode cX11_works 431 = .ok (.ldc2_w 330, 3) := by decide +kernel
theorem dX11_works_434 : decode cX11_works 434 = .ok (.lcmp, 1) := by decide +kernel
theorem dX11_works_435 : decode cX11_works 435 = .ok (.ifCond .lt 7, 3) := by decide +kernel
theorem dX11_works_438 : decode cX11_works 438 = .ok (.iconst 1, 1) := by decide +kernel
theorem dX11_works_439 : decode cX11_works 439 = .ok (.goto 4, 3) := by decide +kernel
theorem dX11_works_442 : decode cX11_works 442 = .ok (.iconst 0, 1) := by decide +kernel
theorem dX11_works_443 : decode cX11_works 443 = .ok (.ireturn, 1) := by decide +kernel
theorem dX11_goes_0 : decode cX11_goes 0 = .ok (.aload_n 0, 1) := by decide +kernel
theorem dX11_goes_1 : decode cX11_goes 1 = .ok (.iconst 0, 1) := by decide +kernel
theorem dX11_goes_2 : decode cX11_goes 2 = .ok (.putfield 315, 3) := by decide +kernel
theorem dX11_goes_5 : decode cX11_goes 5 = .ok (.aload_n 0, 1) := by decide +kernel
theorem dX11_goes_6 : decode cX11_goes 6 = .ok (.getfield 49, 3) := by decide +kernel
theorem dX11_goes_9 : decode cX11_goes 9 = .ok (.iload_n 1, 1) := by decide +kernel
theorem dX11_goes_10 : decode cX11_goes 10 = .ok (.iaload, 1) := by decide +kernel
theorem dX11_goes_11 : decode cX11_goes 11 = .ok (.istore_n 2, 1) := by decide +kernel
theorem dX11_goes_12 : decode cX11_goes 12 = .ok (.iload_n 2, 1) := by decide +kernel
theorem dX11_goes_13 : decode cX11_goes 13 = .ok (.aload_n 0, 1) := by decide +kernel
theorem dX11_goes_14 : decode cX11_goes 14 = .ok (.getfield 52, 3) := by decide +kernel
theorem dX11_goes_17 : decode cX11_goes 17 = .ok (.iload_n 1, 1) := by decide +kernel
theorem dX11_goes_18 : decode cX11_goes 18 = .ok (.iaload, 1) := by decide +kernel
theorem dX11_goes_19 : decode cX11_goes 19 = .ok (.if_icmp .ge 83, 3) := by decide +kernel
theorem dX11_goes_22 : decode cX11_goes 22 = .ok (.aload_n 0, 1) := by decide +kernel
theorem dX11_goes_23 : decode cX11_goes 23 = .ok (.getfield 55, 3) := by decide +kernel
theorem dX11_goes_26 : decode cX11_goes 26 = .ok (.iload_n 2, 1) := by decide +kernel
theorem dX11_goes_27 : decode cX11_goes 27 = .ok (.iaload, 1) := by decide +kernel
theorem dX11_goes_28 : decode cX11_goes 28 = .ok (.iconst 2, 1) := by decide +kernel
theorem dX11_goes_29 : decode cX11_goes 29 = .ok (.if_icmp .ne 18, 3) := by decide +kernel
theorem dX11_goes_32 : decode cX11_goes 32 = .ok (.aload_n 0, 1) := by decide +kernel
theorem dX11_goes_33 : decode cX11_goes 33 = .ok (.aload_n 0, 1) := by decide +kernel
theorem dX11_goes_34 : decode cX11_goes 34 = .ok (.getfield 58, 3) := by decide +kernel
theorem dX11_goes_37 : decode cX11_goes 37 = .ok (.iload_n 2, 1) := by decide +kernel
theorem dX11_goes_38 : decode cX11_goes 38 = .ok (.iaload, 1) := by decide +kernel
theorem dX11_goes_39 : decode cX11_goes 39 = .ok (.invokevirtual 332, 3) := by decide +kernel
theorem dX11_goes_42 : decode cX11_goes 42 = .ok (.ifCond .ne 54, 3) := by decide +kernel
theorem dX11_goes_45 : decode cX11_goes 45 = .ok (.iconst 0, 1) := by decide +kernel
theorem dX11_goes_46 : decode cX11_goes 46 = .ok (.ireturn, 1) := by decide +kernel
theorem dX11_goes_47 : decode cX11_goes 47 = .ok (.aload_n 0, 1) := by decide +kernel
theorem dX11_goes_48 : decode cX11_goes 48 = .ok (.getfield 69, 3) := by decide +kernel
theorem dX11_goes_51 : decode cX11_goes 51 = .ok (.aload_n 0, 1) := by decide +kernel
theorem dX11_goes_52 : decode cX11_goes 52 = .ok (.getfield 315, 3) := by decide +kernel
theorem dX11_goes_55 : decode cX11_goes 55 = .ok (.aload_n 0, 1) := by decide +kernel
theorem dX11_goes_56 : decode cX11_goes 56 = .ok (.getfield 55, 3) := by decide +kernel
theorem dX11_goes_59 : decode cX11_goes 59 = .ok (.iload_n 2, 1) := by decide +kernel
theorem dX11_goes_60 : decode cX11_goes 60 = .ok (.iaload, 1) := by decide +kernel
theorem dX11_goes_61 : decode cX11_goes 61 = .ok (.ifCond .ne 13, 3) := by decide +kernel
theorem dX11_goes_64 : decode cX11_goes 64 = .ok (.aload_n 0, 1) := by decide +kernel
theorem dX11_goes_65 : decode cX11_goes 65 = .ok (.getfield 58, 3) := by decide +kernel
theorem dX11_goes_68 : decode cX11_goes 68 = .ok (.iload_n 2, 1) := by decide +kernel
theorem dX11_goes_69 : decode cX11_goes 69 = .ok (.iaload, 1) := by decide +kernel
theorem dX11_goes_70 : decode cX11_goes 70 = .ok (.i2l, 1) := by decide +kernel
theorem dX11_goes_71 : decode cX11_goes 71 = .ok (.goto 14, 3) := by decide +kernel
theorem dX11_goes_74 : decode cX11_goes 74 = .ok (.aload_n 0, 1) := by decide +kernel
theorem dX11_goes_75 : decode cX11_goes 75 = .ok (.getfield 65, 3) := by decide +kernel
theorem dX11_goes_78 : decode cX11_goes 78 = .ok (.aload_n 0, 1) := by decide +kernel
theorem dX11_goes_79 : decode cX11_goes 79 = .ok (.getfield 58, 3) := by decide +kernel
theorem dX11_goes_82 : decode cX11_goes 82 = .ok (.iload_n 2, 1) := by decide +kernel
theorem dX11_goes_83 : decode cX11_goes 83 = .ok (.iaload, 1) := by decide +kernel
theorem dX11_goes_84 : decode cX11_goes 84 = .ok (.laload, 1) := by decide +kernel
theorem dX11_goes_85 : decode cX11_goes 85 = .ok (.lastore, 1) := by decide +kernel
theorem dX11_goes_86 : decode cX11_goes 86 = .ok (.aload_n 0, 1) := by decide +kernel
theorem dX11_goes_87 : decode cX11_goes 87 = .ok (.dup, 1) := by decide +kernel
theorem dX11_goes_88 : decode cX11_goes 88 = .ok (.getfield 315, 3) := by decide +kernel
theorem dX11_goes_91 : decode cX11_goes 91 = .ok (.iconst 1, 1) := by decide +kernel
theorem dX11_goes_92 : decode cX11_goes 92 = .ok (.iadd, 1) := by decide +kernel
theorem dX11_goes_93 : decode cX11_goes 93 = .ok (.putfield 315, 3) := by decide +kernel
theorem dX11_goes_96 : decode cX11_goes 96 = .ok (.iinc 2 1, 3) := by decide +kernel
theorem dX11_goes_99 : decode cX11_goes 99 = .ok (.goto (-87), 3) := by decide +kernel
theorem dX11_goes_102 : decode cX11_goes 102 = .ok (.iconst 1, 1) := by decide +kernel
theorem dX11_goes_103 : decode cX11_goes 103 = .ok (.ireturn, 1) := by decide +kernel
theorem dX11_hasLaw_0 : decode cX11_hasLaw 0 = .ok (.aload_n 0, 1) := by decide +kernel
theorem dX11_hasLaw_1 : decode cX11_hasLaw 1 = .ok (.getfield 52, 3) := by decide +kernel
theorem dX11_hasLaw_4 : decode cX11_hasLaw 4 = .ok (.iload_n 1, 1) := by decide +kernel
theorem dX11_hasLaw_5 : decode cX11_hasLaw 5 = .ok (.iaload, 1) := by decide +kernel
theorem dX11_hasLaw_6 : decode cX11_hasLaw 6 = .ok (.aload_n 0, 1) := by decide +kernel
theorem dX11_hasLaw_7 : decode cX11_hasLaw 7 = .ok (.getfield 49, 3) := by decide +kernel
theorem dX11_hasLaw_10 : decode cX11_hasLaw 10 = .ok (.iload_n 1, 1) := by decide +kernel
theorem dX11_hasLaw_11 : decode cX11_hasLaw 11 = .ok (.iaload, 1) := by decide +kernel
theorem dX11_hasLaw_12 : decode cX11_hasLaw 12 = .ok (.if_icmp .le 7, 3) := by decide +kernel
theorem dX11_hasLaw_15 : decode cX11_hasLaw 15 = .ok (.iconst 1, 1) := by decide +kernel
theorem dX11_hasLaw_16 : decode cX11_hasLaw 16 = .ok (.goto 4, 3) := by decide +kernel
theorem dX11_hasLaw_19 : decode cX11_hasLaw 19 = .ok (.iconst 0, 1) := by decide +kernel
theorem dX11_hasLaw_20 : decode cX11_hasLaw 20 = .ok (.ireturn, 1) := by decide +kernel
theorem dX11_laysWorlds_0 : decode cX11_laysWorlds 0 = .ok (.aload_n 0, 1) := by decide +kernel
theorem dX11_laysWorlds_1 : decode cX11_laysWorlds 1 = .ok (.iconst 0, 1) := by decide +kernel
theorem dX11_laysWorlds_2 : decode cX11_laysWorlds 2 = .ok (.putfield 335, 3) := by decide +kernel
theorem dX11_laysWorlds_5 : decode cX11_laysWorlds 5 = .ok (.aload_n 0, 1) := by decide +kernel
theorem dX11_laysWorlds_6 : decode cX11_laysWorlds 6 = .ok (.iconst 0, 1) := by decide +kernel
theorem dX11_laysWorlds_7 : decode cX11_laysWorlds 7 = .ok (.putfield 338, 3) := by decide +kernel
theorem dX11_laysWorlds_10 : decode cX11_laysWorlds 10 = .ok (.iconst 1, 1) := by decide +kernel
theorem dX11_laysWorlds_11 : decode cX11_laysWorlds 11 = .ok (.istore_n 1, 1) := by decide +kernel
theorem dX11_laysWorlds_12 : decode cX11_laysWorlds 12 = .ok (.iconst 0, 1) := by decide +kernel
theorem dX11_laysWorlds_13 : decode cX11_laysWorlds 13 = .ok (.istore_n 2, 1) := by decide +kernel
theorem dX11_laysWorlds_14 : decode cX11_laysWorlds 14 = .ok (.iload_n 2, 1) := by decide +kernel
theorem dX11_laysWorlds_15 : decode cX11_laysWorlds 15 = .ok (.aload_n 0, 1) := by decide +kernel
theorem dX11_laysWorlds_16 : decode cX11_laysWorlds 16 = .ok (.getfield 13, 3) := by decide +kernel
theorem dX11_laysWorlds_19 : decode cX11_laysWorlds 19 = .ok (.iconst 1, 1) := by decide +kernel
theorem dX11_laysWorlds_20 : decode cX11_laysWorlds 20 = .ok (.iaload, 1) := by decide +kernel
theorem dX11_laysWorlds_21 : decode cX11_laysWorlds 21 = .ok (.if_icmp .ge 18, 3) := by decide +kernel
theorem dX11_laysWorlds_24 : decode cX11_laysWorlds 24 = .ok (.iload_n 1, 1) := by decide +kernel
theorem dX11_laysWorlds_25 : decode cX11_laysWorlds 25 = .ok (.aload_n 0, 1) := by decide +kernel
theorem dX11_laysWorlds_26 : decode cX11_laysWorlds 26 = .ok (.getfield 13, 3) := by decide +kernel
theorem dX11_laysWorlds_29 : decode cX11_laysWorlds 29 = .ok (.iconst 0, 1) := by decide +kernel
theorem dX11_laysWorlds_30 : decode cX11_laysWorlds 30 = .ok (.iaload, 1) := by decide +kernel
theorem dX11_laysWorlds_31 : decode cX11_laysWorlds 31 = .ok (.imul, 1) := by decide +kernel
theorem dX11_laysWorlds_32 : decode cX11_laysWorlds 32 = .ok (.istore_n 1, 1) := by decide +kernel
theorem dX11_laysWorlds_33 : decode cX11_laysWorlds 33 = .ok (.iinc 2 1, 3) := by decide +kernel
theorem dX11_laysWorlds_36 : decode cX11_laysWorlds 36 = .ok (.goto (-22), 3) := by decide +kernel
theorem dX11_laysWorlds_39 : decode cX11_laysWorlds 39 = .ok (.iconst 0, 1) := by decide +kernel
theorem dX11_laysWorlds_40 : decode cX11_laysWorlds 40 = .ok (.istore_n 2, 1) := by decide +kernel
theorem dX11_laysWorlds_41 : decode cX11_laysWorlds 41 = .ok (.iload_n 2, 1) := by decide +kernel
theorem dX11_laysWorlds_42 : decode cX11_laysWorlds 42 = .ok (.iload_n 1, 1) := by decide +kernel
theorem dX11_laysWorlds_43 : decode cX11_laysWorlds 43 = .ok (.if_icmp .ge 139, 3) := by decide +kernel
theorem dX11_laysWorlds_46 : decode cX11_laysWorlds 46 = .ok (.iload_n 2, 1) := by decide +kernel
theorem dX11_laysWorlds_47 : decode cX11_laysWorlds 47 = .ok (.istore_n 3, 1) := by decide +kernel
theorem dX11_laysWorlds_48 : decode cX11_laysWorlds 48 = .ok (.iconst 1, 1) := by decide +kernel
theorem dX11_laysWorlds_49 : decode cX11_laysWorlds 49 = .ok (.istore 4, 2) := by decide +kernel
theorem dX11_laysWorlds_51 : decode cX11_laysWorlds 51 = .ok (.aload_n 0, 1) := by decide +kernel
theorem dX11_laysWorlds_52 : decode cX11_laysWorlds 52 = .ok (.getfield 13, 3) := by decide +kernel
theorem dX11_laysWorlds_55 : decode cX11_laysWorlds 55 = .ok (.iconst 1, 1) := by decide +kernel
theorem dX11_laysWorlds_56 : decode cX11_laysWorlds 56 = .ok (.iaload, 1) := by decide +kernel
theorem dX11_laysWorlds_57 : decode cX11_laysWorlds 57 = .ok (.iconst 1, 1) := by decide +kernel
theorem dX11_laysWorlds_58 : decode cX11_laysWorlds 58 = .ok (.isub, 1) := by decide +kernel
theorem dX11_laysWorlds_59 : decode cX11_laysWorlds 59 = .ok (.istore 5, 2) := by decide +kernel
theorem dX11_laysWorlds_61 : decode cX11_laysWorlds 61 = .ok (.iload 5, 2) := by decide +kernel
theorem dX11_laysWorlds_63 : decode cX11_laysWorlds 63 = .ok (.ifCond .lt 76, 3) := by decide +kernel
theorem dX11_laysWorlds_66 : decode cX11_laysWorlds 66 = .ok (.aload_n 0, 1) := by decide +kernel
theorem dX11_laysWorlds_67 : decode cX11_laysWorlds 67 = .ok (.getfield 72, 3) := by decide +kernel
theorem dX11_laysWorlds_70 : decode cX11_laysWorlds 70 = .ok (.bipush 6, 2) := by decide +kernel
theorem dX11_laysWorlds_72 : decode cX11_laysWorlds 72 = .ok (.aload_n 0, 1) := by decide +kernel
theorem dX11_laysWorlds_73 : decode cX11_laysWorlds 73 = .ok (.getfield 335, 3) := by decide +kernel
theorem dX11_laysWorlds_76 : decode cX11_laysWorlds 76 = .ok (.imul, 1) := by decide +kernel
theorem dX11_laysWorlds_77 : decode cX11_laysWorlds 77 = .ok (.iload 5, 2) := by decide +kernel
theorem dX11_laysWorlds_79 : decode cX11_laysWorlds 79 = .ok (.iadd, 1) := by decide +kernel
theorem dX11_laysWorlds_80 : decode cX11_laysWorlds 80 = .ok (.iload_n 3, 1) := by decide +kernel
theorem dX11_laysWorlds_81 : decode cX11_laysWorlds 81 = .ok (.aload_n 0, 1) := by decide +kernel
theorem dX11_laysWorlds_82 : decode cX11_laysWorlds 82 = .ok (.getfield 13, 3) := by decide +kernel
theorem dX11_laysWorlds_85 : decode cX11_laysWorlds 85 = .ok (.iconst 0, 1) := by decide +kernel
theorem dX11_laysWorlds_86 : decode cX11_laysWorlds 86 = .ok (.iaload, 1) := by decide +kernel
theorem dX11_laysWorlds_87 : decode cX11_laysWorlds 87 = .ok (.irem, 1) := by decide +kernel
theorem dX11_laysWorlds_88 : decode cX11_laysWorlds 88 = .ok (.iastore, 1) := by decide +kernel
theorem dX11_laysWorlds_89 : decode cX11_laysWorlds 89 = .ok (.iload_n 3, 1) := by decide +kernel
theorem dX11_laysWorlds_90 : decode cX11_laysWorlds 90 = .ok (.aload_n 0, 1) := by decide +kernel
theorem dX11_laysWorlds_91 : decode cX11_laysWorlds 91 = .ok (.getfield 13, 3) := by decide +kernel
theorem dX11_laysWorlds_94 : decode cX11_laysWorlds 94 = .ok (.iconst 0, 1) := by decide +kernel
theorem dX11_laysWorlds_95 : decode cX11_laysWorlds 95 = .ok (.iaload, 1) := by decide +kernel
theorem dX11_laysWorlds_96 : decode cX11_laysWorlds 96 = .ok (.idiv, 1) := by decide +kernel
theorem dX11_laysWorlds_97 : decode cX11_laysWorlds 97 = .ok (.istore_n 3, 1) := by decide +kernel
theorem dX11_laysWorlds_98 : decode cX11_laysWorlds 98 = .ok (.iload 4, 2) := by decide +kernel
theorem dX11_laysWorlds_100 : decode cX11_laysWorlds 100 = .ok (.aload_n 0, 1) := by decide +kernel
theorem dX11_laysWorlds_101 : decode cX11_laysWorlds 101 = .ok (.getfield 72, 3) := by decide +kernel
theorem dX11_laysWorlds_104 : decode cX11_laysWorlds 104 = .ok (.bipush 6, 2) := by decide +kernel
theorem dX11_laysWorlds_106 : decode cX11_laysWorlds 106 = .ok (.aload_n 0, 1) := by decide +kernel
theorem dX11_laysWorlds_107 : decode cX11_laysWorlds 107 = .ok (.getfield 335, 3) := by decide +kernel
theorem dX11_laysWorlds_110 : decode cX11_laysWorlds 110 = .ok (.imul, 1) := by decide +kernel
theorem dX11_laysWorlds_111 : decode cX11_laysWorlds 111 = .ok (.iload 5, 2) := by decide +kernel
theorem dX11_laysWorlds_113 : decode cX11_laysWorlds 113 = .ok (.iadd, 1) := by decide +kernel
theorem dX11_laysWorlds_114 : decode cX11_laysWorlds 114 = .ok (.iaload, 1) := by decide +kernel
theorem dX11_laysWorlds_115 : decode cX11_laysWorlds 115 = .ok (.aload_n 0, 1) := by decide +kernel
theorem dX11_laysWorlds_116 : decode cX11_laysWorlds 116 = .ok (.getfield 25, 3) := by decide +kernel
theorem dX11_laysWorlds_119 : decode cX11_laysWorlds 119 = .ok (.iload 5, 2) := by decide +kernel
theorem dX11_laysWorlds_121 : decode cX11_laysWorlds 121 = .ok (.iaload, 1) := by decide +kernel
theorem dX11_laysWorlds_122 : decode cX11_laysWorlds 122 = .ok (.if_icmp .ne 7, 3) := by decide +kernel
theorem dX11_laysWorlds_125 : decode cX11_laysWorlds 125 = .ok (.iconst 1, 1) := by decide +kernel
theorem dX11_laysWorlds_126 : decode cX11_laysWorlds 126 = .ok (.goto 4, 3) := by decide +kernel
theorem dX11_laysWorlds_129 : decode cX11_laysWorlds 129 = .ok (.iconst 0, 1) := by decide +kernel
theorem dX11_laysWorlds_130 : decode cX11_laysWorlds 130 = .ok (.iand, 1) := by decide +kernel
theorem dX11_laysWorlds_131 : decode cX11_laysWorlds 131 = .ok (.istore 4, 2) := by decide +kernel
theorem dX11_laysWorlds_133 : decode cX11_laysWorlds 133 = .ok (.iinc 5 (-1), 3) := by decide +kernel
theorem dX11_laysWorlds_136 : decode cX11_laysWorlds 136 = .ok (.goto (-75), 3) := by decide +kernel
theorem dX11_laysWorlds_139 : decode cX11_laysWorlds 139 = .ok (.aload_n 0, 1) := by decide +kernel
theorem dX11_laysWorlds_140 : decode cX11_laysWorlds 140 = .ok (.aload_n 0, 1) := by decide +kernel
theorem dX11_laysWorlds_141 : decode cX11_laysWorlds 141 = .ok (.getfield 335, 3) := by decide +kernel
theorem dX11_laysWorlds_144 : decode cX11_laysWorlds 144 = .ok (.invokevirtual 341, 3) := by decide +kernel
theorem dX11_laysWorlds_147 : decode cX11_laysWorlds 147 = .ok (.ifCond .ne 6, 3) := by decide +kernel
theorem dX11_laysWorlds_150 : decode cX11_laysWorlds 150 = .ok (.goto 26, 3) := by decide +kernel
theorem dX11_laysWorlds_153 : decode cX11_laysWorlds 153 = .ok (.iload 4, 2) := by decide +kernel
theorem dX11_laysWorlds_155 : decode cX11_laysWorlds 155 = .ok (.ifCond .eq 11, 3) := by decide +kernel
theorem dX11_laysWorlds_158 : decode cX11_laysWorlds 158 = .ok (.aload_n 0, 1) := by decide +kernel
theorem dX11_laysWorlds_159 : decode cX11_laysWorlds 159 = .ok (.aload_n 0, 1) := by decide +kernel
theorem dX11_laysWorlds_160 : decode cX11_laysWorlds 160 = .ok (.getfield 335, 3) := by decide +kernel
theorem dX11_laysWorlds_163 : decode cX11_laysWorlds 163 = .ok (.putfield 338, 3) := by decide +kernel
theorem dX11_laysWorlds_166 : decode cX11_laysWorlds 166 = .ok (.aload_n 0, 1) := by decide +kernel
theorem dX11_laysWorlds_167 : decode cX11_laysWorlds 167 = .ok (.dup, 1) := by decide +kernel
theorem dX11_laysWorlds_168 : decode cX11_laysWorlds 168 = .ok (.getfield 335, 3) := by decide +kernel
theorem dX11_laysWorlds_171 : decode cX11_laysWorlds 171 = .ok (.iconst 1, 1) := by decide +kernel
theorem dX11_laysWorlds_172 : decode cX11_laysWorlds 172 = .ok (.iadd, 1) := by decide +kernel
theorem dX11_laysWorlds_173 : decode cX11_laysWorlds 173 = .ok (.putfield 335, 3) := by decide +kernel
theorem dX11_laysWorlds_176 : decode cX11_laysWorlds 176 = .ok (.iinc 2 1, 3) := by decide +kernel
theorem dX11_laysWorlds_179 : decode cX11_laysWorlds 179 = .ok (.goto (-138), 3) := by decide +kernel
theorem dX11_laysWorlds_182 : decode cX11_laysWorlds 182 = .ok (.return_, 1) := by decide +kernel
theorem dX11_manyOf_0 : decode cX11_manyOf 0 = .ok (.iconst 0, 1) := by decide +kernel
theorem dX11_manyOf_1 : decode cX11_manyOf 1 = .ok (.istore_n 3, 1) := by decide +kernel
theorem dX11_manyOf_2 : decode cX11_manyOf 2 = .ok (.iconst 0, 1) := by decide +kernel
theorem dX11_manyOf_3 : decode cX11_manyOf 3 = .ok (.istore 4, 2) := by decide +kernel
theorem dX11_manyOf_5 : decode cX11_manyOf 5 = .ok (.iload 4, 2) := by decide +kernel
theorem dX11_manyOf_7 : decode cX11_manyOf 7 = .ok (.aload_n 0, 1) := by decide +kernel
theorem dX11_manyOf_8 : decode cX11_manyOf 8 = .ok (.getfield 13, 3) := by decide +kernel
theorem dX11_manyOf_11 : decode cX11_manyOf 11 = .ok (.iconst 1, 1) := by decide +kernel
theorem dX11_manyOf_12 : decode cX11_manyOf 12 = .ok (.iaload, 1) := by decide +kernel
theorem dX11_manyOf_13 : decode cX11_manyOf 13 = .ok (.if_icmp .ge 33, 3) := by decide +kernel
theorem dX11_manyOf_16 : decode cX11_manyOf 16 = .ok (.iload_n 3, 1) := by decide +kernel
theorem dX11_manyOf_17 : decode cX11_manyOf 17 = .ok (.aload_n 0, 1) := by decide +kernel
theorem dX11_manyOf_18 : decode cX11_manyOf 18 = .ok (.getfield 72, 3) := by decide +kernel
theorem dX11_manyOf_21 : decode cX11_manyOf 21 = .ok (.bipush 6, 2) := by decide +kernel
theorem dX11_manyOf_23 : decode cX11_manyOf 23 = .ok (.iload_n 1, 1) := by decide +kernel
theorem dX11_manyOf_24 : decode cX11_manyOf 24 = .ok (.imul, 1) := by decide +kernel
theorem dX11_manyOf_25 : decode cX11_manyOf 25 = .ok (.iload 4, 2) := by decide +kernel
theorem dX11_manyOf_27 : decode cX11_manyOf 27 = .ok (.iadd, 1) := by decide +kernel
theorem dX11_manyOf_28 : decode cX11_manyOf 28 = .ok (.iaload, 1) := by decide +kernel
theorem dX11_manyOf_29 : decode cX11_manyOf 29 = .ok (.iload_n 2, 1) := by decide +kernel
theorem dX11_manyOf_30 : decode cX11_manyOf 30 = .ok (.if_icmp .ne 7, 3) := by decide +kernel
theorem dX11_manyOf_33 : decode cX11_manyOf 33 = .ok (.iconst 1, 1) := by decide +kernel
theorem dX11_manyOf_34 : decode cX11_manyOf 34 = .ok (.goto 4, 3) := by decide +kernel
theorem dX11_manyOf_37 : decode cX11_manyOf 37 = .ok (.iconst 0, 1) := by decide +kernel
theorem dX11_manyOf_38 : decode cX11_manyOf 38 = .ok (.iadd, 1) := by decide +kernel
theorem dX11_manyOf_39 : decode cX11_manyOf 39 = .ok (.istore_n 3, 1) := by decide +kernel
theorem dX11_manyOf_40 : decode cX11_manyOf 40 = .ok (.iinc 4 1, 3) := by decide +kernel
theorem dX11_manyOf_43 : decode cX11_manyOf 43 = .ok (.goto (-38), 3) := by decide +kernel
theorem dX11_manyOf_46 : decode cX11_manyOf 46 = .ok (.iload_n 3, 1) := by decide +kernel
theorem dX11_manyOf_47 : decode cX11_manyOf 47 = .ok (.ireturn, 1) := by decide +kernel
theorem dX11_isInStock_0 : decode cX11_isInStock 0 = .ok (.iconst 0, 1) := by decide +kernel
theorem dX11_isInStock_1 : decode cX11_isInStock 1 = .ok (.istore_n 2, 1) := by decide +kernel
theorem dX11_isInStock_2 : decode cX11_isInStock 2 = .ok (.iload_n 2, 1) := by decide +kernel
theorem dX11_isInStock_3 : decode cX11_isInStock 3 = .ok (.aload_n 0, 1) := by decide +kernel
theorem dX11_isInStock_4 : decode cX11_isInStock 4 = .ok (.getfield 13, 3) := by decide +kernel
theorem dX11_isInStock_7 : decode cX11_isInStock 7 = .ok (.iconst 0, 1) := by decide +kernel
theorem dX11_isInStock_8 : decode cX11_isInStock 8 = .ok (.iaload, 1) := by decide +kernel
theorem dX11_isInStock_9 : decode cX11_isInStock 9 = .ok (.if_icmp .ge 26, 3) := by decide +kernel
theorem dX11_isInStock_12 : decode cX11_isInStock 12 = .ok (.aload_n 0, 1) := by decide +kernel
theorem dX11_isInStock_13 : decode cX11_isInStock 13 = .ok (.iload_n 1, 1) := by decide +kernel
theorem dX11_isInStock_14 : decode cX11_isInStock 14 = .ok (.iload_n 2, 1) := by decide +kernel
theorem dX11_isInStock_15 : decode cX11_isInStock 15 = .ok (.invokevirtual 344, 3) := by decide +kernel
theorem dX11_isInStock_18 : decode cX11_isInStock 18 = .ok (.aload_n 0, 1) := by decide +kernel
theorem dX11_isInStock_19 : decode cX11_isInStock 19 = .ok (.getfield 19, 3) := by decide +kernel
theorem dX11_isInStock_22 : decode cX11_isInStock 22 = .ok (.iload_n 2, 1) := by decide +kernel
theorem dX11_isInStock_23 : decode cX11_isInStock 23 = .ok (.iaload, 1) := by decide +kernel
theorem dX11_isInStock_24 : decode cX11_isInStock 24 = .ok (.if_icmp .le 5, 3) := by decide +kernel
theorem dX11_isInStock_27 : decode cX11_isInStock 27 = .ok (.iconst 0, 1) := by decide +kernel
theorem dX11_isInStock_28 : decode cX11_isInStock 28 = .ok (.ireturn, 1) := by decide +kernel
theorem dX11_isInStock_29 : decode cX11_isInStock 29 = .ok (.iinc 2 1, 3) := by decide +kernel
theorem dX11_isInStock_32 : decode cX11_isInStock 32 = .ok (.goto (-30), 3) := by decide +kernel
theorem dX11_isInStock_35 : decode cX11_isInStock 35 = .ok (.iconst 1, 1) := by decide +kernel
theorem dX11_isInStock_36 : decode cX11_isInStock 36 = .ok (.ireturn, 1) := by decide +kernel
theorem dX11_begins_0 : decode cX11_begins 0 = .ok (.aload_n 0, 1) := by decide +kernel
theorem dX11_begins_1 : decode cX11_begins 1 = .ok (.invokevirtual 347, 3) := by decide +kernel
theorem dX11_begins_4 : decode cX11_begins 4 = .ok (.aload_n 0, 1) := by decide +kernel
theorem dX11_begins_5 : decode cX11_begins 5 = .ok (.getfield 75, 3) := by decide +kernel
theorem dX11_begins_8 : decode cX11_begins 8 = .ok (.iconst 0, 1) := by decide +kernel
theorem dX11_begins_9 : decode cX11_begins 9 = .ok (.iconst 0, 1) := by decide +kernel
theorem dX11_begins_10 : decode cX11_begins 10 = .ok (.iastore, 1) := by decide +kernel
theorem dX11_begins_11 : decode cX11_begins 11 = .ok (.aload_n 0, 1) := by decide +kernel
theorem dX11_begins_12 : decode cX11_begins 12 = .ok (.getfield 78, 3) := by decide +kernel
theorem dX11_begins_15 : decode cX11_begins 15 = .ok (.iconst 0, 1) := by decide +kernel
theorem dX11_begins_16 : decode cX11_begins 16 = .ok (.aload_n 0, 1) := by decide +kernel
theorem dX11_begins_17 : decode cX11_begins 17 = .ok (.getfield 13, 3) := by decide +kernel
theorem dX11_begins_20 : decode cX11_begins 20 = .ok (.bipush 6, 2) := by decide +kernel
theorem dX11_begins_22 : decode cX11_begins 22 = .ok (.iaload, 1) := by decide +kernel
theorem dX11_begins_23 : decode cX11_begins 23 = .ok (.iastore, 1) := by decide +kernel
theorem dX11_begins_24 : decode cX11_begins 24 = .ok (.aload_n 0, 1) := by decide +kernel
theorem dX11_begins_25 : decode cX11_begins 25 = .ok (.getfield 81, 3) := by decide +kernel
theorem dX11_begins_28 : decode cX11_begins 28 = .ok (.iconst 0, 1) := by decide +kernel
theorem dX11_begins_29 : decode cX11_begins 29 = .ok (.iconst 0, 1) := by decide +kernel
theorem dX11_begins_30 : decode cX11_begins 30 = .ok (.iastore, 1) := by decide +kernel
theorem dX11_begins_31 : decode cX11_begins 31 = .ok (.aload_n 0, 1) := by decide +kernel
theorem dX11_begins_32 : decode cX11_begins 32 = .ok (.getfield 84, 3) := by decide +kernel
theorem dX11_begins_35 : decode cX11_begins 35 = .ok (.iconst 0, 1) := by decide +kernel
theorem dX11_begins_36 : decode cX11_begins 36 = .ok (.iconst 0, 1) := by decide +kernel
theorem dX11_begins_37 : decode cX11_begins 37 = .ok (.iastore, 1) := by decide +kernel
theorem dX11_begins_38 : decode cX11_begins 38 = .ok (.aload_n 0, 1) := by decide +kernel
theorem dX11_begins_39 : decode cX11_begins 39 = .ok (.getfield 87, 3) := by decide +kernel
theorem dX11_begins_42 : decode cX11_begins 42 = .ok (.iconst 0, 1) := by decide +kernel
theorem dX11_begins_43 : decode cX11_begins 43 = .ok (.iconst 0, 1) := by decide +kernel
theorem dX11_begins_44 : decode cX11_begins 44 = .ok (.iastore, 1) := by decide +kernel
theorem dX11_begins_45 : decode cX11_begins 45 = .ok (.iconst 0, 1) := by decide +kernel
theorem dX11_begins_46 : decode cX11_begins 46 = .ok (.istore_n 1, 1) := by decide +kernel
theorem dX11_begins_47 : decode cX11_begins 47 = .ok (.iload_n 1, 1) := by decide +kernel
theorem dX11_begins_48 : decode cX11_begins 48 = .ok (.bipush 6, 2) := by decide +kernel
theorem dX11_begins_50 : decode cX11_begins 50 = .ok (.if_icmp .ge 42, 3) := by decide +kernel
theorem dX11_begins_53 : decode cX11_begins 53 = .ok (.aload_n 0, 1) := by decide +kernel
theorem dX11_begins_54 : decode cX11_begins 54 = .ok (.getfield 90, 3) := by decide +kernel
theorem dX11_begins_57 : decode cX11_begins 57 = .ok (.iload_n 1, 1) := by decide +kernel
theorem dX11_begins_58 : decode cX11_begins 58 = .ok (.iload_n 1, 1) := by decide +kernel
theorem dX11_begins_59 : decode cX11_begins 59 = .ok (.aload_n 0, 1) := by decide +kernel
theorem dX11_begins_60 : decode cX11_begins 60 = .ok (.getfield 13, 3) := by decide +kernel
theorem dX11_begins_63 : decode cX11_begins 63 = .ok (.iconst 1, 1) := by decide +kernel
theorem dX11_begins_64 : decode cX11_begins 64 = .ok (.iaload, 1) := by decide +kernel
theorem dX11_begins_65 : decode cX11_begins 65 = .ok (.if_icmp .ge 12, 3) := by decide +kernel
theorem dX11_begins_68 : decode cX11_begins 68 = .ok (.aload_n 0, 1) := by decide +kernel
theorem dX11_begins_69 : decode cX11_begins 69 = .ok (.getfield 28, 3) := by decide +kernel
theorem dX11_begins_72 : decode cX11_begins 72 = .ok (.iload_n 1, 1) := by decide +kernel
theorem dX11_begins_73 : decode cX11_begins 73 = .ok (.iaload, 1) := by decide +kernel
theorem dX11_begins_74 : decode cX11_begins 74 = .ok (.goto 4, 3) := by decide +kernel
theorem dX11_begins_77 : decode cX11_begins 77 = .ok (.iconst 0, 1) := by decide +kernel
theorem dX11_begins_78 : decode cX11_begins 78 = .ok (.iastore, 1) := by decide +kernel
theorem dX11_begins_79 : decode cX11_begins 79 = .ok (.aload_n 0, 1) := by decide +kernel
theorem dX11_begins_80 : decode cX11_begins 80 = .ok (.getfield 93, 3) := by decide +kernel
theorem dX11_begins_83 : decode cX11_begins 83 = .ok (.iload_n 1, 1) := by decide +kernel
theorem dX11_begins_84 : decode cX11_begins 84 = .ok (.iconst 0, 1) := by decide +kernel
theorem dX11_begins_85 : decode cX11_begins 85 = .ok (.iastore, 1) := by decide +kernel
theorem dX11_begins_86 : decode cX11_begins 86 = .ok (.iinc 1 1, 3) := by decide +kernel
theorem dX11_begins_89 : decode cX11_begins 89 = .ok (.goto (-42), 3) := by decide +kernel
theorem dX11_begins_92 : decode cX11_begins 92 = .ok (.iconst 0, 1) := by decide +kernel
theorem dX11_begins_93 : decode cX11_begins 93 = .ok (.istore_n 1, 1) := by decide +kernel
theorem dX11_begins_94 : decode cX11_begins 94 = .ok (.iload_n 1, 1) := by decide +kernel
theorem dX11_begins_95 : decode cX11_begins 95 = .ok (.sipush 729, 3) := by decide +kernel
theorem dX11_begins_98 : decode cX11_begins 98 = .ok (.if_icmp .ge 28, 3) := by decide +kernel
theorem dX11_begins_101 : decode cX11_begins 101 = .ok (.aload_n 0, 1) := by decide +kernel
theorem dX11_begins_102 : decode cX11_begins 102 = .ok (.getfield 96, 3) := by decide +kernel
theorem dX11_begins_105 : decode cX11_begins 105 = .ok (.iload_n 1, 1) := by decide +kernel
theorem dX11_begins_106 : decode cX11_begins 106 = .ok (.iload_n 1, 1) := by decide +kernel
theorem dX11_begins_107 : decode cX11_begins 107 = .ok (.aload_n 0, 1) := by decide +kernel
theorem dX11_begins_108 : decode cX11_begins 108 = .ok (.getfield 335, 3) := by decide +kernel
theorem dX11_begins_111 : decode cX11_begins 111 = .ok (.if_icmp .ge 7, 3) := by decide +kernel
theorem dX11_begins_114 : decode cX11_begins 114 = .ok (.iconst 1, 1) := by decide +kernel
theorem dX11_begins_115 : decode cX11_begins 115 = .ok (.goto 4, 3) := by decide +kernel
theorem dX11_begins_118 : decode cX11_begins 118 = .ok (.iconst 0, 1) := by decide +kernel
theorem dX11_begins_119 : decode cX11_begins 119 = .ok (.bastore, 1) := by decide +kernel
theorem dX11_begins_120 : decode cX11_begins 120 = .ok (.iinc 1 1, 3) := by decide +kernel
theorem dX11_begins_123 : decode cX11_begins 123 = .ok (.goto (-29), 3) := by decide +kernel
theorem dX11_begins_126 : decode cX11_begins 126 = .ok (.return_, 1) := by decide +kernel
theorem dX11_copies_0 : decode cX11_copies 0 = .ok (.aload_n 0, 1) := by decide +kernel
theorem dX11_copies_1 : decode cX11_copies 1 = .ok (.getfield 75, 3) := by decide +kernel
theorem dX11_copies_4 : decode cX11_copies 4 = .ok (.iload_n 1, 1) := by decide +kernel
theorem dX11_copies_5 : decode cX11_copies 5 = .ok (.aload_n 0, 1) := by decide +kernel
theorem dX11_copies_6 : decode cX11_copies 6 = .ok (.getfield 75, 3) := by decide +kernel
theorem dX11_copies_9 : decode cX11_copies 9 = .ok (.iload_n 2, 1) := by decide +kernel
theorem dX11_copies_10 : decode cX11_copies 10 = .ok (.iaload, 1) := by decide +kernel
theorem dX11_copies_11 : decode cX11_copies 11 = .ok (.iastore, 1) := by decide +kernel
theorem dX11_copies_12 : decode cX11_copies 12 = .ok (.aload_n 0, 1) := by decide +kernel
theorem dX11_copies_13 : decode cX11_copies 13 = .ok (.getfield 78, 3) := by decide +kernel
theorem dX11_copies_16 : decode cX11_copies 16 = .ok (.iload_n 1, 1) := by decide +kernel
theorem dX11_copies_17 : decode cX11_copies 17 = .ok (.aload_n 0, 1) := by decide +kernel
theorem dX11_copies_18 : decode cX11_copies 18 = .ok (.getfield 78, 3) := by decide +kernel
theorem dX11_copies_21 : decode cX11_copies 21 = .ok (.iload_n 2, 1) := by decide +kernel
theorem dX11_copies_22 : decode cX11_copies 22 = .ok (.iaload, 1) := by decide +kernel
theorem dX11_copies_23 : decode cX11_copies 23 = .ok (.iastore, 1) := by decide +kernel
theorem dX11_copies_24 : decode cX11_copies 24 = .ok (.aload_n 0, 1) := by decide +kernel
theorem dX11_copies_25 : decode cX11_copies 25 = .ok (.getfield 81, 3) := by decide +kernel
theorem dX11_copies_28 : decode cX11_copies 28 = .ok (.iload_n 1, 1) := by decide +kernel
theorem dX11_copies_29 : decode cX11_copies 29 = .ok (.aload_n 0, 1) := by decide +kernel
theorem dX11_copies_30 : decode cX11_copies 30 = .ok (.getfield 81, 3) := by decide +kernel
theorem dX11_copies_33 : decode cX11_copies 33 = .ok (.iload_n 2, 1) := by decide +kernel
theorem dX11_copies_34 : decode cX11_copies 34 = .ok (.iaload, 1) := by decide +kernel
theorem dX11_copies_35 : decode cX11_copies 35 = .ok (.iastore, 1) := by decide +kernel
theorem dX11_copies_36 : decode cX11_copies 36 = .ok (.aload_n 0, 1) := by decide +kernel
theorem dX11_copies_37 : decode cX11_copies 37 = .ok (.getfield 84, 3) := by decide +kernel
theorem dX11_copies_40 : decode cX11_copies 40 = .ok (.iload_n 1, 1) := by decide +kernel
theorem dX11_copies_41 : decode cX11_copies 41 = .ok (.aload_n 0, 1) := by decide +kernel
theorem dX11_copies_42 : decode cX11_copies 42 = .ok (.getfield 84, 3) := by decide +kernel
theorem dX11_copies_45 : decode cX11_copies 45 = .ok (.iload_n 2, 1) := by decide +kernel
theorem dX11_copies_46 : decode cX11_copies 46 = .ok (.iaload, 1) := by decide +kernel
theorem dX11_copies_47 : decode cX11_copies 47 = .ok (.iastore, 1) := by decide +kernel
theorem dX11_copies_48 : decode cX11_copies 48 = .ok (.aload_n 0, 1) := by decide +kernel
theorem dX11_copies_49 : decode cX11_copies 49 = .ok (.getfield 87, 3) := by decide +kernel
theorem dX11_copies_52 : decode cX11_copies 52 = .ok (.iload_n 1, 1) := by decide +kernel
theorem dX11_copies_53 : decode cX11_copies 53 = .ok (.aload_n 0, 1) := by decide +kernel
theorem dX11_copies_54 : decode cX11_copies 54 = .ok (.getfield 87, 3) := by decide +kernel
theorem dX11_copies_57 : decode cX11_copies 57 = .ok (.iload_n 2, 1) := by decide +kernel
theorem dX11_copies_58 : decode cX11_copies 58 = .ok (.iaload, 1) := by decide +kernel
theorem dX11_copies_59 : decode cX11_copies 59 = .ok (.iastore, 1) := by decide +kernel
theorem dX11_copies_60 : decode cX11_copies 60 = .ok (.iconst 0, 1) := by decide +kernel
theorem dX11_copies_61 : decode cX11_copies 61 = .ok (.istore_n 3, 1) := by decide +kernel
theorem dX11_copies_62 : decode cX11_copies 62 = .ok (.iload_n 3, 1) := by decide +kernel
theorem dX11_copies_63 : decode cX11_copies 63 = .ok (.bipush 6, 2) := by decide +kernel
theorem dX11_copies_65 : decode cX11_copies 65 = .ok (.if_icmp .ge 53, 3) := by decide +kernel
theorem dX11_copies_68 : decode cX11_copies 68 = .ok (.aload_n 0, 1) := by decide +kernel
theorem dX11_copies_69 : decode cX11_copies 69 = .ok (.getfield 90, 3) := by decide +kernel
theorem dX11_copies_72 : decode cX11_copies 72 = .ok (.bipush 6, 2) := by decide +kernel
theorem dX11_copies_74 : decode cX11_copies 74 = .ok (.iload_n 1, 1) := by decide +kernel
theorem dX11_copies_75 : decode cX11_copies 75 = .ok (.imul, 1) := by decide +kernel
theorem dX11_copies_76 : decode cX11_copies 76 = .ok (.iload_n 3, 1) := by decide +kernel
theorem dX11_copies_77 : decode cX11_copies 77 = .ok (.iadd, 1) := by decide +kernel
theorem dX11_copies_78 : decode cX11_copies 78 = .ok (.aload_n 0, 1) := by decide +kernel
theorem dX11_copies_79 : decode cX11_copies 79 = .ok (.getfield 90, 3) := by decide +kernel
theorem dX11_copies_82 : decode cX11_copies 82 = .ok (.bipush 6, 2) := by decide +kernel
theorem dX11_copies_84 : decode cX11_copies 84 = .ok (.iload_n 2, 1) := by decide +kernel
theorem dX11_copies_85 : decode cX11_copies 85 = .ok (.imul, 1) := by decide +kernel
theorem dX11_copies_86 : decode cX11_copies 86 = .ok (.iload_n 3, 1) := by decide +kernel
theorem dX11_copies_87 : decode cX11_copies 87 = .ok (.iadd, 1) := by decide +kernel
theorem dX11_copies_88 : decode cX11_copies 88 = .ok (.iaload, 1) := by decide +kernel
theorem dX11_copies_89 : decode cX11_copies 89 = .ok (.iastore, 1) := by decide +kernel
theorem dX11_copies_90 : decode cX11_copies 90 = .ok (.aload_n 0, 1) := by decide +kernel
theorem dX11_copies_91 : decode cX11_copies 91 = .ok (.getfield 93, 3) := by decide +kernel
theorem dX11_copies_94 : decode cX11_copies 94 = .ok (.bipush 6, 2) := by decide +kernel
theorem dX11_copies_96 : decode cX11_copies 96 = .ok (.iload_n 1, 1) := by decide +kernel
theorem dX11_copies_97 : decode cX11_copies 97 = .ok (.imul, 1) := by decide +kernel
theorem dX11_copies_98 : decode cX11_copies 98 = .ok (.iload_n 3, 1) := by decide +kernel
theorem dX11_copies_99 : decode cX11_copies 99 = .ok (.iadd, 1) := by decide +kernel
theorem dX11_copies_100 : decode cX11_copies 100 = .ok (.aload_n 0, 1) := by decide +kernel
theorem dX11_copies_101 : decode cX11_copies 101 = .ok (.getfield 93, 3) := by decide +kernel
theorem dX11_copies_104 : decode cX11_copies 104 = .ok (.bipush 6, 2) := by decide +kernel
theorem dX11_copies_106 : decode cX11_copies 106 = .ok (.iload_n 2, 1) := by decide +kernel
theorem dX11_copies_107 : decode cX11_copies 107 = .ok (.imul, 1) := by decide +kernel
theorem dX11_copies_108 : decode cX11_copies 108 = .ok (.iload_n 3, 1) := by decide +kernel
theorem dX11_copies_109 : decode cX11_copies 109 = .ok (.iadd, 1) := by decide +kernel
theorem dX11_copies_110 : decode cX11_copies 110 = .ok (.iaload, 1) := by decide +kernel
theorem dX11_copies_111 : decode cX11_copies 111 = .ok (.iastore, 1) := by decide +kernel
theorem dX11_copies_112 : decode cX11_copies 112 = .ok (.iinc 3 1, 3) := by decide +kernel
theorem dX11_copies_115 : decode cX11_copies 115 = .ok (.goto (-53), 3) := by decide +kernel
theorem dX11_copies_118 : decode cX11_copies 118 = .ok (.iconst 0, 1) := by decide +kernel
theorem dX11_copies_119 : decode cX11_copies 119 = .ok (.istore_n 3, 1) := by decide +kernel
theorem dX11_copies_120 : decode cX11_copies 120 = .ok (.iload_n 3, 1) := by decide +kernel
theorem dX11_copies_121 : decode cX11_copies 121 = .ok (.aload_n 0, 1) := by decide +kernel
theorem dX11_copies_122 : decode cX11_copies 122 = .ok (.getfield 335, 3) := by decide +kernel
theorem dX11_copies_125 : decode cX11_copies 125 = .ok (.if_icmp .ge 33, 3) := by decide +kernel
theorem dX11_copies_128 : decode cX11_copies 128 = .ok (.aload_n 0, 1) := by decide +kernel
theorem dX11_copies_129 : decode cX11_copies 129 = .ok (.getfield 96, 3) := by decide +kernel
theorem dX11_copies_132 : decode cX11_copies 132 = .ok (.sipush 729, 3) := by decide +kernel
theorem dX11_copies_135 : decode cX11_copies 135 = .ok (.iload_n 1, 1) := by decide +kernel
theorem dX11_copies_136 : decode cX11_copies 136 = .ok (.imul, 1) := by decide +kernel
theorem dX11_copies_137 : decode cX11_copies 137 = .ok (.iload_n 3, 1) := by decide +kernel
theorem dX11_copies_138 : decode cX11_copies 138 = .ok (.iadd, 1) := by decide +kernel
theorem dX11_copies_139 : decode cX11_copies 139 = .ok (.aload_n 0, 1) := by decide +kernel
theorem dX11_copies_140 : decode cX11_copies 140 = .ok (.getfield 96, 3) := by decide +kernel
theorem dX11_copies_143 : decode cX11_copies 143 = .ok (.sipush 729, 3) := by decide +kernel
theorem dX11_copies_146 : decode cX11_copies 146 = .ok (.iload_n 2, 1) := by decide +kernel
theorem dX11_copies_147 : decode cX11_copies 147 = .ok (.imul, 1) := by decide +kernel
theorem dX11_copies_148 : decode cX11_copies 148 = .ok (.iload_n 3, 1) := by decide +kernel
theorem dX11_copies_149 : decode cX11_copies 149 = .ok (.iadd, 1) := by decide +kernel
theorem dX11_copies_150 : decode cX11_copies 150 = .ok (.baload, 1) := by decide +kernel
theorem dX11_copies_151 : decode cX11_copies 151 = .ok (.bastore, 1) := by decide +kernel
theorem dX11_copies_152 : decode cX11_copies 152 = .ok (.iinc 3 1, 3) := by decide +kernel
theorem dX11_copies_155 : decode cX11_copies 155 = .ok (.goto (-35), 3) := by decide +kernel
theorem dX11_copies_158 : decode cX11_copies 158 = .ok (.return_, 1) := by decide +kernel
theorem dX11_isPerson_0 : decode cX11_isPerson 0 = .ok (.iload_n 1, 1) := by decide +kernel
theorem dX11_isPerson_1 : decode cX11_isPerson 1 = .ok (.ifCond .lt 17, 3) := by decide +kernel
theorem dX11_isPerson_4 : decode cX11_isPerson 4 = .ok (.iload_n 1, 1) := by decide +kernel
theorem dX11_isPerson_5 : decode cX11_isPerson 5 = .ok (.aload_n 0, 1) := by decide +kernel
theorem dX11_isPerson_6 : decode cX11_isPerson 6 = .ok (.getfield 13, 3) := by decide +kernel
theorem dX11_isPerson_9 : decode cX11_isPerson 9 = .ok (.iconst 1, 1) := by decide +kernel
theorem dX11_isPerson_10 : decode cX11_isPerson 10 = .ok (.iaload, 1) := by decide +kernel
theorem dX11_isPerson_11 : decode cX11_isPerson 11 = .ok (.if_icmp .ge 7, 3) := by decide +kernel
theorem dX11_isPerson_14 : decode cX11_isPerson 14 = .ok (.iconst 1, 1) := by decide +kernel
theorem dX11_isPerson_15 : decode cX11_isPerson 15 = .ok (.goto 4, 3) := by decide +kernel
theorem dX11_isPerson_18 : decode cX11_isPerson 18 = .ok (.iconst 0, 1) := by decide +kernel
theorem dX11_isPerson_19 : decode cX11_isPerson 19 = .ok (.ireturn, 1) := by decide +kernel
theorem dX11_isFact_0 : decode cX11_isFact 0 = .ok (.iload_n 1, 1) := by decide +kernel
theorem dX11_isFact_1 : decode cX11_isFact 1 = .ok (.ifCond .lt 17, 3) := by decide +kernel
theorem dX11_isFact_4 : decode cX11_isFact 4 = .ok (.iload_n 1, 1) := by decide +kernel
theorem dX11_isFact_5 : decode cX11_isFact 5 = .ok (.aload_n 0, 1) := by decide +kernel
theorem dX11_isFact_6 : decode cX11_isFact 6 = .ok (.getfield 13, 3) := by decide +kernel
theorem dX11_isFact_9 : decode cX11_isFact 9 = .ok (.iconst 2, 1) := by decide +kernel
theorem dX11_isFact_10 : decode cX11_isFact 10 = .ok (.iaload, 1) := by decide +kernel
theorem dX11_isFact_11 : decode cX11_isFact 11 = .ok (.if_icmp .ge 7, 3) := by decide +kernel
theorem dX11_isFact_14 : decode cX11_isFact 14 = .ok (.iconst 1, 1) := by decide +kernel
theorem dX11_isFact_15 : decode cX11_isFact 15 = .ok (.goto 4, 3) := by decide +kernel
theorem dX11_isFact_18 : decode cX11_isFact 18 = .ok (.iconst 0, 1) := by decide +kernel
theorem dX11_isFact_19 : decode cX11_isFact 19 = .ok (.ireturn, 1) := by decide +kernel
theorem dX11_bitsOf_0 : decode cX11_bitsOf 0 = .ok (.iconst 0, 1) := by decide +kernel
theorem dX11_bitsOf_1 : decode cX11_bitsOf 1 = .ok (.istore_n 1, 1) := by decide +kernel
theorem dX11_bitsOf_2 : decode cX11_bitsOf 2 = .ok (.iconst 0, 1) := by decide +kernel
theorem dX11_bitsOf_3 : decode cX11_bitsOf 3 = .ok (.istore_n 2, 1) := by decide +kernel
theorem dX11_bitsOf_4 : decode cX11_bitsOf 4 = .ok (.iload_n 2, 1) := by decide +kernel
theorem dX11_bitsOf_5 : decode cX11_bitsOf 5 = .ok (.bipush 10, 2) := by decide +kernel
theorem dX11_bitsOf_7 : decode cX11_bitsOf 7 = .ok (.if_icmp .ge 17, 3) := by decide +kernel
theorem dX11_bitsOf_10 : decode cX11_bitsOf 10 = .ok (.iload_n 1, 1) := by decide +kernel
theorem dX11_bitsOf_11 : decode cX11_bitsOf 11 = .ok (.iload_n 0, 1) := by decide +kernel
theorem dX11_bitsOf_12 : decode cX11_bitsOf 12 = .ok (.iload_n 2, 1) := by decide +kernel
theorem dX11_bitsOf_13 : decode cX11_bitsOf 13 = .ok (.ishr, 1) := by decide +kernel
theorem dX11_bitsOf_14 : decode cX11_bitsOf 14 = .ok (.iconst 1, 1) := by decide +kernel
theorem dX11_bitsOf_15 : decode cX11_bitsOf 15 = .ok (.iand, 1) := by decide +kernel
theorem dX11_bitsOf_16 : decode cX11_bitsOf 16 = .ok (.iadd, 1) := by decide +kernel
theorem dX11_bitsOf_17 : decode cX11_bitsOf 17 = .ok (.istore_n 1, 1) := by decide +kernel
theorem dX11_bitsOf_18 : decode cX11_bitsOf 18 = .ok (.iinc 2 1, 3) := by decide +kernel
theorem dX11_bitsOf_21 : decode cX11_bitsOf 21 = .ok (.goto (-17), 3) := by decide +kernel
theorem dX11_bitsOf_24 : decode cX11_bitsOf 24 = .ok (.iload_n 1, 1) := by decide +kernel
theorem dX11_bitsOf_25 : decode cX11_bitsOf 25 = .ok (.ireturn, 1) := by decide +kernel
theorem dX11_leftMany_0 : decode cX11_leftMany 0 = .ok (.iconst 0, 1) := by decide +kernel
theorem dX11_leftMany_1 : decode cX11_leftMany 1 = .ok (.istore_n 2, 1) := by decide +kernel
theorem dX11_leftMany_2 : decode cX11_leftMany 2 = .ok (.iconst 0, 1) := by decide +kernel
theorem dX11_leftMany_3 : decode cX11_leftMany 3 = .ok (.istore_n 3, 1) := by decide +kernel
theorem dX11_leftMany_4 : decode cX11_leftMany 4 = .ok (.iload_n 3, 1) := by decide +kernel
theorem dX11_leftMany_5 : decode cX11_leftMany 5 = .ok (.aload_n 0, 1) := by decide +kernel
theorem dX11_leftMany_6 : decode cX11_leftMany 6 = .ok (.getfield 335, 3) := by decide +kernel
theorem dX11_leftMany_9 : decode cX11_leftMany 9 = .ok (.if_icmp .ge 32, 3) := by decide +kernel
theorem dX11_leftMany_12 : decode cX11_leftMany 12 = .ok (.iload_n 2, 1) := by decide +kernel
theorem dX11_leftMany_13 : decode cX11_leftMany 13 = .ok (.aload_n 0, 1) := by decide +kernel
theorem dX11_leftMany_14 : decode cX11_leftMany 14 = .ok (.getfield 96, 3) := by decide +kernel
theorem dX11_leftMany_17 : decode cX11_leftMany 17 = .ok (.sipush 729, 3) := by decide +kernel
theorem dX11_leftMany_20 : decode cX11_leftMany 20 = .ok (.iload_n 1, 1) := by decide +kernel
theorem dX11_leftMany_21 : decode cX11_leftMany 21 = .ok (.imul, 1) := by decide +kernel
theorem dX11_leftMany_22 : decode cX11_leftMany 22 = .ok (.iload_n 3, 1) := by decide +kernel
theorem dX11_leftMany_23 : decode cX11_leftMany 23 = .ok (.iadd, 1) := by decide +kernel
theorem dX11_leftMany_24 : decode cX11_leftMany 24 = .ok (.baload, 1) := by decide +kernel
theorem dX11_leftMany_25 : decode cX11_leftMany 25 = .ok (.ifCond .eq 7, 3) := by decide +kernel
theorem dX11_leftMany_28 : decode cX11_leftMany 28 = .ok (.iconst 1, 1) := by decide +kernel
theorem dX11_leftMany_29 : decode cX11_leftMany 29 = .ok (.goto 4, 3) := by decide +kernel
theorem dX11_leftMany_32 : decode cX11_leftMany 32 = .ok (.iconst 0, 1) := by decide +kernel
theorem dX11_leftMany_33 : decode cX11_leftMany 33 = .ok (.iadd, 1) := by decide +kernel
theorem dX11_leftMany_34 : decode cX11_leftMany 34 = .ok (.istore_n 2, 1) := by decide +kernel
theorem dX11_leftMany_35 : decode cX11_leftMany 35 = .ok (.iinc 3 1, 3) := by decide +kernel
theorem dX11_leftMany_38 : decode cX11_leftMany 38 = .ok (.goto (-34), 3) := by decide +kernel
theorem dX11_leftMany_41 : decode cX11_leftMany 41 = .ok (.iload_n 2, 1) := by decide +kernel
theorem dX11_leftMany_42 : decode cX11_leftMany 42 = .ok (.ireturn, 1) := by decide +kernel
theorem dX11_isHere_0 : decode cX11_isHere 0 = .ok (.aload_n 0, 1) := by decide +kernel
theorem dX11_isHere_1 : decode cX11_isHere 1 = .ok (.getfield 96, 3) := by decide +kernel
theorem dX11_isHere_4 : decode cX11_isHere 4 = .ok (.sipush 729, 3) := by decide +kernel
theorem dX11_isHere_7 : decode cX11_isHere 7 = .ok (.aload_n 0, 1) := by decide +kernel
theorem dX11_isHere_8 : decode cX11_isHere 8 = .ok (.getfield 350, 3) := by decide +kernel
theorem dX11_isHere_11 : decode cX11_isHere 11 = .ok (.imul, 1) := by decide +kernel
theorem dX11_isHere_12 : decode cX11_isHere 12 = .ok (.iload_n 1, 1) := by decide +kernel
theorem dX11_isHere_13 : decode cX11_isHere 13 = .ok (.iadd, 1) := by decide +kernel
theorem dX11_isHere_14 : decode cX11_isHere 14 = .ok (.baload, 1) := by decide +kernel
theorem dX11_isHere_15 : decode cX11_isHere 15 = .ok (.ireturn, 1) := by decide +kernel
theorem dX11_lays_0 : decode cX11_lays 0 = .ok (.aload_n 0, 1) := by decide +kernel
theorem dX11_lays_1 : decode cX11_lays 1 = .ok (.iload_n 1, 1) := by decide +kernel
theorem dX11_lays_2 : decode cX11_lays 2 = .ok (.putfield 350, 3) := by decide +kernel
theorem dX11_lays_5 : decode cX11_lays 5 = .ok (.iconst 0, 1) := by decide +kernel
theorem dX11_lays_6 : decode cX11_lays 6 = .ok (.istore_n 2, 1) := by decide +kernel
theorem dX11_lays_7 : decode cX11_lays 7 = .ok (.iload_n 2, 1) := by decide +kernel
theorem dX11_lays_8 : decode cX11_lays 8 = .ok (.aload_n 0, 1) := by decide +kernel
theorem dX11_lays_9 : decode cX11_lays 9 = .ok (.getfield 13, 3) := by decide +kernel
theorem dX11_lays_12 : decode cX11_lays 12 = .ok (.iconst 1, 1) := by decide +kernel
theorem dX11_lays_13 : decode cX11_lays 13 = .ok (.iaload, 1) := by decide +kernel
theorem dX11_lays_14 : decode cX11_lays 14 = .ok (.if_icmp .ge 14, 3) := by decide +kernel
theorem dX11_lays_17 : decode cX11_lays 17 = .ok (.aload_n 0, 1) := by decide +kernel
theorem dX11_lays_18 : decode cX11_lays 18 = .ok (.iload_n 2, 1) := by decide +kernel
theorem dX11_lays_19 : decode cX11_lays 19 = .ok (.invokevirtual 353, 3) := by decide +kernel
theorem dX11_lays_22 : decode cX11_lays 22 = .ok (.iinc 2 1, 3) := by decide +kernel
theorem dX11_lays_25 : decode cX11_lays 25 = .ok (.goto (-18), 3) := by decide +kernel
theorem dX11_lays_28 : decode cX11_lays 28 = .ok (.aload_n 0, 1) := by decide +kernel
theorem dX11_lays_29 : decode cX11_lays 29 = .ok (.invokevirtual 356, 3) := by decide +kernel
theorem dX11_lays_32 : decode cX11_lays 32 = .ok (.iconst 0, 1) := by decide +kernel
theorem dX11_lays_33 : decode cX11_lays 33 = .ok (.istore_n 2, 1) := by decide +kernel
theorem dX11_lays_34 : decode cX11_lays 34 = .ok (.iload_n 2, 1) := by decide +kernel
theorem dX11_lays_35 : decode cX11_lays 35 = .ok (.aload_n 0, 1) := by decide +kernel
theorem dX11_lays_36 : decode cX11_lays 36 = .ok (.getfield 13, 3) := by decide +kernel
theorem dX11_lays_39 : decode cX11_lays 39 = .ok (.iconst 2, 1) := by decide +kernel
theorem dX11_lays_40 : decode cX11_lays 40 = .ok (.iaload, 1) := by decide +kernel
theorem dX11_lays_41 : decode cX11_lays 41 = .ok (.if_icmp .ge 14, 3) := by decide +kernel
theorem dX11_lays_44 : decode cX11_lays 44 = .ok (.aload_n 0, 1) := by decide +kernel
theorem dX11_lays_45 : decode cX11_lays 45 = .ok (.iload_n 2, 1) := by decide +kernel
theorem dX11_lays_46 : decode cX11_lays 46 = .ok (.invokevirtual 359, 3) := by decide +kernel
theorem dX11_lays_49 : decode cX11_lays 49 = .ok (.iinc 2 1, 3) := by decide +kernel
theorem dX11_lays_52 : decode cX11_lays 52 = .ok (.goto (-18), 3) := by decide +kernel
theorem dX11_lays_55 : decode cX11_lays 55 = .ok (.return_, 1) := by decide +kernel
