theorem dX8_clear_0 : decode cX8_clear 0 = .ok (.aload_n 0, 1) := by decide +kernel
theorem dX8_clear_1 : decode cX8_clear 1 = .ok (.getfield 14, 3) := by decide +kernel
theorem dX8_clear_4 : decode cX8_clear 4 = .ok (.iconst 0, 1) := by decide +kernel
theorem dX8_clear_5 : decode cX8_clear 5 = .ok (.putfield 72, 3) := by decide +kernel
theorem dX8_clear_8 : decode cX8_clear 8 = .ok (.aload_n 0, 1) := by decide +kernel
theorem dX8_clear_9 : decode cX8_clear 9 = .ok (.getfield 20, 3) := by decide +kernel
theorem dX8_clear_12 : decode cX8_clear 12 = .ok (.iconst 0, 1) := by decide +kernel
theorem dX8_clear_13 : decode cX8_clear 13 = .ok (.putfield 72, 3) := by decide +kernel
theorem dX8_clear_16 : decode cX8_clear 16 = .ok (.aload_n 0, 1) := by decide +kernel
theorem dX8_clear_17 : decode cX8_clear 17 = .ok (.getfield 23, 3) := by decide +kernel
theorem dX8_clear_20 : decode cX8_clear 20 = .ok (.iconst 0, 1) := by decide +kernel
theorem dX8_clear_21 : decode cX8_clear 21 = .ok (.putfield 72, 3) := by decide +kernel
theorem dX8_clear_24 : decode cX8_clear 24 = .ok (.aload_n 0, 1) := by decide +kernel
theorem dX8_clear_25 : decode cX8_clear 25 = .ok (.getfield 29, 3) := by decide +kernel
theorem dX8_clear_28 : decode cX8_clear 28 = .ok (.iconst 0, 1) := by decide +kernel
theorem dX8_clear_29 : decode cX8_clear 29 = .ok (.putfield 75, 3) := by decide +kernel
theorem dX8_clear_32 : decode cX8_clear 32 = .ok (.aload_n 0, 1) := by decide +kernel
theorem dX8_clear_33 : decode cX8_clear 33 = .ok (.getfield 29, 3) := by decide +kernel
theorem dX8_clear_36 : decode cX8_clear 36 = .ok (.iconst 0, 1) := by decide +kernel
theorem dX8_clear_37 : decode cX8_clear 37 = .ok (.putfield 76, 3) := by decide +kernel
theorem dX8_clear_40 : decode cX8_clear 40 = .ok (.aload_n 0, 1) := by decide +kernel
theorem dX8_clear_41 : decode cX8_clear 41 = .ok (.iconst 0, 1) := by decide +kernel
theorem dX8_clear_42 : decode cX8_clear 42 = .ok (.putfield 79, 3) := by decide +kernel
theorem dX8_clear_45 : decode cX8_clear 45 = .ok (.aload_n 0, 1) := by decide +kernel
theorem dX8_clear_46 : decode cX8_clear 46 = .ok (.iconst 0, 1) := by decide +kernel
theorem dX8_clear_47 : decode cX8_clear 47 = .ok (.putfield 82, 3) := by decide +kernel
theorem dX8_clear_50 : decode cX8_clear 50 = .ok (.aload_n 0, 1) := by decide +kernel
theorem dX8_clear_51 : decode cX8_clear 51 = .ok (.iconst (-1), 1) := by decide +kernel
theorem dX8_clear_52 : decode cX8_clear 52 = .ok (.putfield 65, 3) := by decide +kernel
theorem dX8_clear_55 : decode cX8_clear 55 = .ok (.aload_n 0, 1) := by decide +kernel
theorem dX8_clear_56 : decode cX8_clear 56 = .ok (.iconst (-1), 1) := by decide +kernel
theorem dX8_clear_57 : decode cX8_clear 57 = .ok (.putfield 69, 3) := by decide +kernel
theorem dX8_clear_60 : decode cX8_clear 60 = .ok (.aload_n 0, 1) := by decide +kernel
theorem dX8_clear_61 : decode cX8_clear 61 = .ok (.iconst 0, 1) := by decide +kernel
theorem dX8_clear_62 : decode cX8_clear 62 = .ok (.putfield 85, 3) := by decide +kernel
theorem dX8_clear_65 : decode cX8_clear 65 = .ok (.iconst 0, 1) := by decide +kernel
theorem dX8_clear_66 : decode cX8_clear 66 = .ok (.istore_n 1, 1) := by decide +kernel
theorem dX8_clear_67 : decode cX8_clear 67 = .ok (.iload_n 1, 1) := by decide +kernel
theorem dX8_clear_68 : decode cX8_clear 68 = .ok (.bipush 6, 2) := by decide +kernel
theorem dX8_clear_70 : decode cX8_clear 70 = .ok (.if_icmp .ge 16, 3) := by decide +kernel
theorem dX8_clear_73 : decode cX8_clear 73 = .ok (.aload_n 0, 1) := by decide +kernel
theorem dX8_clear_74 : decode cX8_clear 74 = .ok (.getfield 40, 3) := by decide +kernel
theorem dX8_clear_77 : decode cX8_clear 77 = .ok (.iload_n 1, 1) := by decide +kernel
theorem dX8_clear_78 : decode cX8_clear 78 = .ok (.iconst 0, 1) := by decide +kernel
theorem dX8_clear_79 : decode cX8_clear 79 = .ok (.iastore, 1) := by decide +kernel
theorem dX8_clear_80 : decode cX8_clear 80 = .ok (.iinc 1 1, 3) := by decide +kernel
theorem dX8_clear_83 : decode cX8_clear 83 = .ok (.goto (-16), 3) := by decide +kernel
theorem dX8_clear_86 : decode cX8_clear 86 = .ok (.aload_n 0, 1) := by decide +kernel
theorem dX8_clear_87 : decode cX8_clear 87 = .ok (.getfield 62, 3) := by decide +kernel
theorem dX8_clear_90 : decode cX8_clear 90 = .ok (.iconst 0, 1) := by decide +kernel
theorem dX8_clear_91 : decode cX8_clear 91 = .ok (.lconst 0, 1) := by decide +kernel
theorem dX8_clear_92 : decode cX8_clear 92 = .ok (.lastore, 1) := by decide +kernel
theorem dX8_clear_93 : decode cX8_clear 93 = .ok (.aload_n 0, 1) := by decide +kernel
theorem dX8_clear_94 : decode cX8_clear 94 = .ok (.getfield 62, 3) := by decide +kernel
theorem dX8_clear_97 : decode cX8_clear 97 = .ok (.iconst 1, 1) := by decide +kernel
theorem dX8_clear_98 : decode cX8_clear 98 = .ok (.lconst 0, 1) := by decide +kernel
theorem dX8_clear_99 : decode cX8_clear 99 = .ok (.lastore, 1) := by decide +kernel
theorem dX8_clear_100 : decode cX8_clear 100 = .ok (.return_, 1) := by decide +kernel
theorem dX8_hatsOf_0 : decode cX8_hatsOf 0 = .ok (.iconst 0, 1) := by decide +kernel
theorem dX8_hatsOf_1 : decode cX8_hatsOf 1 = .ok (.istore_n 2, 1) := by decide +kernel
theorem dX8_hatsOf_2 : decode cX8_hatsOf 2 = .ok (.iconst 0, 1) := by decide +kernel
theorem dX8_hatsOf_3 : decode cX8_hatsOf 3 = .ok (.istore_n 3, 1) := by decide +kernel
theorem dX8_hatsOf_4 : decode cX8_hatsOf 4 = .ok (.iload_n 3, 1) := by decide +kernel
theorem dX8_hatsOf_5 : decode cX8_hatsOf 5 = .ok (.aload_n 0, 1) := by decide +kernel
theorem dX8_hatsOf_6 : decode cX8_hatsOf 6 = .ok (.getfield 20, 3) := by decide +kernel
theorem dX8_hatsOf_9 : decode cX8_hatsOf 9 = .ok (.getfield 72, 3) := by decide +kernel
theorem dX8_hatsOf_12 : decode cX8_hatsOf 12 = .ok (.if_icmp .ge 27, 3) := by decide +kernel
theorem dX8_hatsOf_15 : decode cX8_hatsOf 15 = .ok (.iload_n 2, 1) := by decide +kernel
theorem dX8_hatsOf_16 : decode cX8_hatsOf 16 = .ok (.aload_n 0, 1) := by decide +kernel
theorem dX8_hatsOf_17 : decode cX8_hatsOf 17 = .ok (.getfield 37, 3) := by decide +kernel
theorem dX8_hatsOf_20 : decode cX8_hatsOf 20 = .ok (.iload_n 3, 1) := by decide +kernel
theorem dX8_hatsOf_21 : decode cX8_hatsOf 21 = .ok (.iaload, 1) := by decide +kernel
theorem dX8_hatsOf_22 : decode cX8_hatsOf 22 = .ok (.iload_n 1, 1) := by decide +kernel
theorem dX8_hatsOf_23 : decode cX8_hatsOf 23 = .ok (.if_icmp .ne 7, 3) := by decide +kernel
theorem dX8_hatsOf_26 : decode cX8_hatsOf 26 = .ok (.iconst 1, 1) := by decide +kernel
theorem dX8_hatsOf_27 : decode cX8_hatsOf 27 = .ok (.goto 4, 3) := by decide +kernel
theorem dX8_hatsOf_30 : decode cX8_hatsOf 30 = .ok (.iconst 0, 1) := by decide +kernel
theorem dX8_hatsOf_31 : decode cX8_hatsOf 31 = .ok (.iadd, 1) := by decide +kernel
theorem dX8_hatsOf_32 : decode cX8_hatsOf 32 = .ok (.istore_n 2, 1) := by decide +kernel
theorem dX8_hatsOf_33 : decode cX8_hatsOf 33 = .ok (.iinc 3 1, 3) := by decide +kernel
theorem dX8_hatsOf_36 : decode cX8_hatsOf 36 = .ok (.goto (-32), 3) := by decide +kernel
theorem dX8_hatsOf_39 : decode cX8_hatsOf 39 = .ok (.iload_n 2, 1) := by decide +kernel
theorem dX8_hatsOf_40 : decode cX8_hatsOf 40 = .ok (.ireturn, 1) := by decide +kernel
theorem dX8_packed_0 : decode cX8_packed 0 = .ok (.iconst 0, 1) := by decide +kernel
theorem dX8_packed_1 : decode cX8_packed 1 = .ok (.istore_n 2, 1) := by decide +kernel
theorem dX8_packed_2 : decode cX8_packed 2 = .ok (.iconst 0, 1) := by decide +kernel
theorem dX8_packed_3 : decode cX8_packed 3 = .ok (.istore_n 3, 1) := by decide +kernel
theorem dX8_packed_4 : decode cX8_packed 4 = .ok (.iload_n 1, 1) := by decide +kernel
theorem dX8_packed_5 : decode cX8_packed 5 = .ok (.istore 4, 2) := by decide +kernel
theorem dX8_packed_7 : decode cX8_packed 7 = .ok (.aload_n 0, 1) := by decide +kernel
theorem dX8_packed_8 : decode cX8_packed 8 = .ok (.getfield 14, 3) := by decide +kernel
theorem dX8_packed_11 : decode cX8_packed 11 = .ok (.getfield 72, 3) := by decide +kernel
theorem dX8_packed_14 : decode cX8_packed 14 = .ok (.istore 5, 2) := by decide +kernel
theorem dX8_packed_16 : decode cX8_packed 16 = .ok (.aload_n 0, 1) := by decide +kernel
theorem dX8_packed_17 : decode cX8_packed 17 = .ok (.getfield 20, 3) := by decide +kernel
theorem dX8_packed_20 : decode cX8_packed 20 = .ok (.getfield 72, 3) := by decide +kernel
theorem dX8_packed_23 : decode cX8_packed 23 = .ok (.iconst 1, 1) := by decide +kernel
theorem dX8_packed_24 : decode cX8_packed 24 = .ok (.isub, 1) := by decide +kernel
theorem dX8_packed_25 : decode cX8_packed 25 = .ok (.istore 6, 2) := by decide +kernel
theorem dX8_packed_27 : decode cX8_packed 27 = .ok (.iload 6, 2) := by decide +kernel
theorem dX8_packed_29 : decode cX8_packed 29 = .ok (.ifCond .lt 48, 3) := by decide +kernel
theorem dX8_packed_32 : decode cX8_packed 32 = .ok (.iload 5, 2) := by decide +kernel
theorem dX8_packed_34 : decode cX8_packed 34 = .ok (.ifCond .le 43, 3) := by decide +kernel
theorem dX8_packed_37 : decode cX8_packed 37 = .ok (.iload 4, 2) := by decide +kernel
theorem dX8_packed_39 : decode cX8_packed 39 = .ok (.iload 5, 2) := by decide +kernel
theorem dX8_packed_41 : decode cX8_packed 41 = .ok (.irem, 1) := by decide +kernel
theorem dX8_packed_42 : decode cX8_packed 42 = .ok (.istore 7, 2) := by decide +kernel
theorem dX8_packed_44 : decode cX8_packed 44 = .ok (.iload 4, 2) := by decide +kernel
theorem dX8_packed_46 : decode cX8_packed 46 = .ok (.iload 5, 2) := by decide +kernel
theorem dX8_packed_48 : decode cX8_packed 48 = .ok (.idiv, 1) := by decide +kernel
theorem dX8_packed_49 : decode cX8_packed 49 = .ok (.istore 4, 2) := by decide +kernel
theorem dX8_packed_51 : decode cX8_packed 51 = .ok (.iload_n 2, 1) := by decide +kernel
theorem dX8_packed_52 : decode cX8_packed 52 = .ok (.iload 7, 2) := by decide +kernel
theorem dX8_packed_54 : decode cX8_packed 54 = .ok (.iload 6, 2) := by decide +kernel
theorem dX8_packed_56 : decode cX8_packed 56 = .ok (.invokestatic 88, 3) := by decide +kernel
theorem dX8_packed_59 : decode cX8_packed 59 = .ok (.ishl, 1) := by decide +kernel
theorem dX8_packed_60 : decode cX8_packed 60 = .ok (.ior, 1) := by decide +kernel
theorem dX8_packed_61 : decode cX8_packed 61 = .ok (.istore_n 2, 1) := by decide +kernel
theorem dX8_packed_62 : decode cX8_packed 62 = .ok (.iload_n 3, 1) := by decide +kernel
theorem dX8_packed_63 : decode cX8_packed 63 = .ok (.iconst 1, 1) := by decide +kernel
theorem dX8_packed_64 : decode cX8_packed 64 = .ok (.iconst 4, 1) := by decide +kernel
theorem dX8_packed_65 : decode cX8_packed 65 = .ok (.iload 7, 2) := by decide +kernel
theorem dX8_packed_67 : decode cX8_packed 67 = .ok (.imul, 1) := by decide +kernel
theorem dX8_packed_68 : decode cX8_packed 68 = .ok (.ishl, 1) := by decide +kernel
theorem dX8_packed_69 : decode cX8_packed 69 = .ok (.iadd, 1) := by decide +kernel
theorem dX8_packed_70 : decode cX8_packed 70 = .ok (.istore_n 3, 1) := by decide +kernel
theorem dX8_packed_71 : decode cX8_packed 71 = .ok (.iinc 6 (-1), 3) := by decide +kernel
theorem dX8_packed_74 : decode cX8_packed 74 = .ok (.goto (-47), 3) := by decide +kernel
theorem dX8_packed_77 : decode cX8_packed 77 = .ok (.iconst 0, 1) := by decide +kernel
theorem dX8_packed_78 : decode cX8_packed 78 = .ok (.istore 6, 2) := by decide +kernel
theorem dX8_packed_80 : decode cX8_packed 80 = .ok (.iload 6, 2) := by decide +kernel
theorem dX8_packed_82 : decode cX8_packed 82 = .ok (.iload 5, 2) := by decide +kernel
theorem dX8_packed_84 : decode cX8_packed 84 = .ok (.if_icmp .ge 30, 3) := by decide +kernel
theorem dX8_packed_87 : decode cX8_packed 87 = .ok (.iload_n 3, 1) := by decide +kernel
theorem dX8_packed_88 : decode cX8_packed 88 = .ok (.iconst 4, 1) := by decide +kernel
theorem dX8_packed_89 : decode cX8_packed 89 = .ok (.iload 6, 2) := by decide +kernel
theorem dX8_packed_91 : decode cX8_packed 91 = .ok (.imul, 1) := by decide +kernel
theorem dX8_packed_92 : decode cX8_packed 92 = .ok (.ishr, 1) := by decide +kernel
theorem dX8_packed_93 : decode cX8_packed 93 = .ok (.bipush 15, 2) := by decide +kernel
theorem dX8_packed_95 : decode cX8_packed 95 = .ok (.iand, 1) := by decide +kernel
theorem dX8_packed_96 : decode cX8_packed 96 = .ok (.aload_n 0, 1) := by decide +kernel
theorem dX8_packed_97 : decode cX8_packed 97 = .ok (.getfield 33, 3) := by decide +kernel
theorem dX8_packed_100 : decode cX8_packed 100 = .ok (.iload 6, 2) := by decide +kernel
theorem dX8_packed_102 : decode cX8_packed 102 = .ok (.iaload, 1) := by decide +kernel
theorem dX8_packed_103 : decode cX8_packed 103 = .ok (.if_icmp .le 5, 3) := by decide +kernel
theorem dX8_packed_106 : decode cX8_packed 106 = .ok (.iconst (-1), 1) := by decide +kernel
theorem dX8_packed_107 : decode cX8_packed 107 = .ok (.ireturn, 1) := by decide +kernel
theorem dX8_packed_108 : decode cX8_packed 108 = .ok (.iinc 6 1, 3) := by decide +kernel
theorem dX8_packed_111 : decode cX8_packed 111 = .ok (.goto (-31), 3) := by decide +kernel
theorem dX8_packed_114 : decode cX8_packed 114 = .ok (.iload_n 2, 1) := by decide +kernel
theorem dX8_packed_115 : decode cX8_packed 115 = .ok (.ireturn, 1) := by decide +kernel
theorem dX9_init_0 : decode cX9_init 0 = .ok (.aload_n 0, 1) := by decide +kernel
theorem dX9_init_1 : decode cX9_init 1 = .ok (.invokespecial 3, 3) := by decide +kernel
theorem dX9_init_4 : decode cX9_init 4 = .ok (.aload_n 0, 1) := by decide +kernel
theorem dX9_init_5 : decode cX9_init 5 = .ok (.bipush 28, 2) := by decide +kernel
theorem dX9_init_7 : decode cX9_init 7 = .ok (.newarray .int, 2) := by decide +kernel
theorem dX9_init_9 : decode cX9_init 9 = .ok (.putfield 9, 3) := by decide +kernel
theorem dX9_init_12 : decode cX9_init 12 = .ok (.aload_n 0, 1) := by decide +kernel
theorem dX9_init_13 : decode cX9_init 13 = .ok (.sipush 701, 3) := by decide +kernel
theorem dX9_init_16 : decode cX9_init 16 = .ok (.newarray .int, 2) := by decide +kernel
theorem dX9_init_18 : decode cX9_init 18 = .ok (.putfield 15, 3) := by decide +kernel
theorem dX9_init_21 : decode cX9_init 21 = .ok (.aload_n 0, 1) := by decide +kernel
theorem dX9_init_22 : decode cX9_init 22 = .ok (.sipush 701, 3) := by decide +kernel
theorem dX9_init_25 : decode cX9_init 25 = .ok (.newarray .int, 2) := by decide +kernel
theorem dX9_init_27 : decode cX9_init 27 = .ok (.putfield 18, 3) := by decide +kernel
theorem dX9_init_30 : decode cX9_init 30 = .ok (.aload_n 0, 1) := by decide +kernel
theorem dX9_init_31 : decode cX9_init 31 = .ok (.sipush 701, 3) := by decide +kernel
theorem dX9_init_34 : decode cX9_init 34 = .ok (.newarray .int, 2) := by decide +kernel
theorem dX9_init_36 : decode cX9_init 36 = .ok (.putfield 21, 3) := by decide +kernel
theorem dX9_init_39 : decode cX9_init 39 = .ok (.aload_n 0, 1) := by decide +kernel
theorem dX9_init_40 : decode cX9_init 40 = .ok (.iconst (-1), 1) := by decide +kernel
theorem dX9_init_41 : decode cX9_init 41 = .ok (.putfield 24, 3) := by decide +kernel
theorem dX9_init_44 : decode cX9_init 44 = .ok (.iconst 0, 1) := by decide +kernel
theorem dX9_init_45 : decode cX9_init 45 = .ok (.istore_n 1, 1) := by decide +kernel
theorem dX9_init_46 : decode cX9_init 46 = .ok (.bipush 25, 2) := by decide +kernel
theorem dX9_init_48 : decode cX9_init 48 = .ok (.istore_n 2, 1) := by decide +kernel
theorem dX9_init_49 : decode cX9_init 49 = .ok (.iconst 0, 1) := by decide +kernel
theorem dX9_init_50 : decode cX9_init 50 = .ok (.istore_n 3, 1) := by decide +kernel
theorem dX9_init_51 : decode cX9_init 51 = .ok (.iload_n 3, 1) := by decide +kernel
theorem dX9_init_52 : decode cX9_init 52 = .ok (.ldc 28, 2) := by decide +kernel
theorem dX9_init_54 : decode cX9_init 54 = .ok (.invokevirtual 30, 3) := by decide +kernel
theorem dX9_init_57 : decode cX9_init 57 = .ok (.if_icmp .ge 60, 3) := by decide +kernel
theorem dX9_init_60 : decode cX9_init 60 = .ok (.iload_n 1, 1) := by decide +kernel
theorem dX9_init_61 : decode cX9_init 61 = .ok (.bipush 28, 2) := by decide +kernel
theorem dX9_init_63 : decode cX9_init 63 = .ok (.if_icmp .ge 54, 3) := by decide +kernel
theorem dX9_init_66 : decode cX9_init 66 = .ok (.ldc 28, 2) := by decide +kernel
theorem dX9_init_68 : decode cX9_init 68 = .ok (.iload_n 3, 1) := by decide +kernel
theorem dX9_init_69 : decode cX9_init 69 = .ok (.invokevirtual 36, 3) := by decide +kernel
theorem dX9_init_72 : decode cX9_init 72 = .ok (.istore 4, 2) := by decide +kernel
theorem dX9_init_74 : decode cX9_init 74 = .ok (.iload 4, 2) := by decide +kernel
theorem dX9_init_76 : decode cX9_init 76 = .ok (.bipush 32, 2) := by decide +kernel
theorem dX9_init_78 : decode cX9_init 78 = .ok (.if_icmp .ne 12, 3) := by decide +kernel
theorem dX9_init_81 : decode cX9_init 81 = .ok (.iinc 1 1, 3) := by decide +kernel
theorem dX9_init_84 : decode cX9_init 84 = .ok (.bipush 25, 2) := by decide +kernel
theorem dX9_init_86 : decode cX9_init 86 = .ok (.istore_n 2, 1) := by decide +kernel
theorem dX9_init_87 : decode cX9_init 87 = .ok (.goto 24, 3) := by decide +kernel
theorem dX9_init_90 : decode cX9_init 90 = .ok (.aload_n 0, 1) := by decide +kernel
theorem dX9_init_91 : decode cX9_init 91 = .ok (.getfield 9, 3) := by decide +kernel
theorem dX9_init_94 : decode cX9_init 94 = .ok (.iload_n 1, 1) := by decide +kernel
theorem dX9_init_95 : decode cX9_init 95 = .ok (.dup2, 1) := by decide +kernel
theorem dX9_init_96 : decode cX9_init 96 = .ok (.iaload, 1) := by decide +kernel
theorem dX9_init_97 : decode cX9_init 97 = .ok (.iload 4, 2) := by decide +kernel
theorem dX9_init_99 : decode cX9_init 99 = .ok (.bipush 97, 2) := by decide +kernel
theorem dX9_init_101 : decode cX9_init 101 = .ok (.isub, 1) := by decide +kernel
theorem dX9_init_102 : decode cX9_init 102 = .ok (.iconst 1, 1) := by decide +kernel
theorem dX9_init_103 : decode cX9_init 103 = .ok (.iadd, 1) := by decide +kernel
theorem dX9_init_104 : decode cX9_init 104 = .ok (.iload_n 2, 1) := by decide +kernel
theorem dX9_init_105 : decode cX9_init 105 = .ok (.ishl, 1) := by decide +kernel
theorem dX9_init_106 : decode cX9_init 106 = .ok (.ior, 1) := by decide +kernel
theorem dX9_init_107 : decode cX9_init 107 = .ok (.iastore, 1) := by decide +kernel
theorem dX9_init_108 : decode cX9_init 108 = .ok (.iinc 2 (-5), 3) := by decide +kernel
theorem dX9_init_111 : decode cX9_init 111 = .ok (.iinc 3 1, 3) := by decide +kernel
theorem dX9_init_114 : decode cX9_init 114 = .ok (.goto (-63), 3) := by decide +kernel
theorem dX9_init_117 : decode cX9_init 117 = .ok (.return_, 1) := by decide +kernel
theorem dX9_scan_0 : decode cX9_scan 0 = .ok (.aload_n 0, 1) := by decide +kernel
theorem dX9_scan_1 : decode cX9_scan 1 = .ok (.iconst 0, 1) := by decide +kernel
theorem dX9_scan_2 : decode cX9_scan 2 = .ok (.putfield 40, 3) := by decide +kernel
theorem dX9_scan_5 : decode cX9_scan 5 = .ok (.aload_n 0, 1) := by decide +kernel
theorem dX9_scan_6 : decode cX9_scan 6 = .ok (.iconst 0, 1) := by decide +kernel
theorem dX9_scan_7 : decode cX9_scan 7 = .ok (.putfield 43, 3) := by decide +kernel
theorem dX9_scan_10 : decode cX9_scan 10 = .ok (.aload_n 0, 1) := by decide +kernel
theorem dX9_scan_11 : decode cX9_scan 11 = .ok (.iconst 0, 1) := by decide +kernel
theorem dX9_scan_12 : decode cX9_scan 12 = .ok (.putfield 46, 3) := by decide +kernel
theorem dX9_scan_15 : decode cX9_scan 15 = .ok (.aload_n 0, 1) := by decide +kernel
theorem dX9_scan_16 : decode cX9_scan 16 = .ok (.iconst (-1), 1) := by decide +kernel
theorem dX9_scan_17 : decode cX9_scan 17 = .ok (.putfield 24, 3) := by decide +kernel
theorem dX9_scan_20 : decode cX9_scan 20 = .ok (.iconst 0, 1) := by decide +kernel
theorem dX9_scan_21 : decode cX9_scan 21 = .ok (.istore_n 3, 1) := by decide +kernel
theorem dX9_scan_22 : decode cX9_scan 22 = .ok (.iconst 0, 1) := by decide +kernel
theorem dX9_scan_23 : decode cX9_scan 23 = .ok (.istore 4, 2) := by decide +kernel
theorem dX9_scan_25 : decode cX9_scan 25 = .ok (.iconst 0, 1) := by decide +kernel
theorem dX9_scan_26 : decode cX9_scan 26 = .ok (.istore 5, 2) := by decide +kernel
theorem dX9_scan_28 : decode cX9_scan 28 = .ok (.iload 5, 2) := by decide +kernel
theorem dX9_scan_30 : decode cX9_scan 30 = .ok (.iload_n 2, 1) := by decide +kernel
theorem dX9_scan_31 : decode cX9_scan 31 = .ok (.if_icmp .ge 136, 3) := by decide +kernel
theorem dX9_scan_34 : decode cX9_scan 34 = .ok (.iload 5, 2) := by decide +kernel
theorem dX9_scan_36 : decode cX9_scan 36 = .ok (.aload_n 1, 1) := by decide +kernel
theorem dX9_scan_37 : decode cX9_scan 37 = .ok (.arraylength, 1) := by decide +kernel
theorem dX9_scan_38 : decode cX9_scan 38 = .ok (.if_icmp .ge 129, 3) := by decide +kernel
theorem dX9_scan_41 : decode cX9_scan 41 = .ok (.aload_n 1, 1) := by decide +kernel
theorem dX9_scan_42 : decode cX9_scan 42 = .ok (.iload 5, 2) := by decide +kernel
theorem dX9_scan_44 : decode cX9_scan 44 = .ok (.baload, 1) := by decide +kernel
theorem dX9_scan_45 : decode cX9_scan 45 = .ok (.istore 6, 2) := by decide +kernel
theorem dX9_scan_47 : decode cX9_scan 47 = .ok (.iload 6, 2) := by decide +kernel
theorem dX9_scan_49 : decode cX9_scan 49 = .ok (.bipush 97, 2) := by decide +kernel
theorem dX9_scan_51 : decode cX9_scan 51 = .ok (.if_icmp .lt 14, 3) := by decide +kernel
theorem dX9_scan_54 : decode cX9_scan 54 = .ok (.iload 6, 2) := by decide +kernel
theorem dX9_scan_56 : decode cX9_scan 56 = .ok (.bipush 122, 2) := by decide +kernel
theorem dX9_scan_58 : decode cX9_scan 58 = .ok (.if_icmp .gt 7, 3) := by decide +kernel
theorem dX9_scan_61 : decode cX9_scan 61 = .ok (.iconst 1, 1) := by decide +kernel
theorem dX9_scan_62 : decode cX9_scan 62 = .ok (.goto 4, 3) := by decide +kernel
theorem dX9_scan_65 : decode cX9_scan 65 = .ok (.iconst 0, 1) := by decide +kernel
theorem dX9_scan_66 : decode cX9_scan 66 = .ok (.istore 7, 2) := by decide +kernel
theorem dX9_scan_68 : decode cX9_scan 68 = .ok (.iload 6, 2) := by decide +kernel
theorem dX9_scan_70 : decode cX9_scan 70 = .ok (.bipush 48, 2) := by decide +kernel
theorem dX9_scan_72 : decode cX9_scan 72 = .ok (.if_icmp .lt 14, 3) := by decide +kernel
theorem dX9_scan_75 : decode cX9_scan 75 = .ok (.iload 6, 2) := by decide +kernel
theorem dX9_scan_77 : decode cX9_scan 77 = .ok (.bipush 57, 2) := by decide +kernel
theorem dX9_scan_79 : decode cX9_scan 79 = .ok (.if_icmp .gt 7, 3) := by decide +kernel
theorem dX9_scan_82 : decode cX9_scan 82 = .ok (.iconst 1, 1) := by decide +kernel
theorem dX9_scan_83 : decode cX9_scan 83 = .ok (.goto 4, 3) := by decide +kernel
theorem dX9_scan_86 : decode cX9_scan 86 = .ok (.iconst 0, 1) := by decide +kernel
theorem dX9_scan_87 : decode cX9_scan 87 = .ok (.istore 8, 2) := by decide +kernel
theorem dX9_scan_89 : decode cX9_scan 89 = .ok (.iload 7, 2) := by decide +kernel
theorem dX9_scan_91 : decode cX9_scan 91 = .ok (.ifCond .eq 20, 3) := by decide +kernel
theorem dX9_scan_94 : decode cX9_scan 94 = .ok (.aload_n 0, 1) := by decide +kernel
theorem dX9_scan_95 : decode cX9_scan 95 = .ok (.iload 6, 2) := by decide +kernel
theorem dX9_scan_97 : decode cX9_scan 97 = .ok (.bipush 97, 2) := by decide +kernel
theorem dX9_scan_99 : decode cX9_scan 99 = .ok (.isub, 1) := by decide +kernel
theorem dX9_scan_100 : decode cX9_scan 100 = .ok (.iconst 1, 1) := by decide +kernel
theorem dX9_scan_101 : decode cX9_scan 101 = .ok (.iadd, 1) := by decide +kernel
theorem dX9_scan_102 : decode cX9_scan 102 = .ok (.iload 5, 2) := by decide +kernel
theorem dX9_scan_104 : decode cX9_scan 104 = .ok (.iload_n 3, 1) := by decide +kernel
theorem dX9_scan_105 : decode cX9_scan 105 = .ok (.invokevirtual 49, 3) := by decide +kernel
theorem dX9_scan_108 : decode cX9_scan 108 = .ok (.goto 46, 3) := by decide +kernel
theorem dX9_scan_111 : decode cX9_scan 111 = .ok (.iload 8, 2) := by decide +kernel
theorem dX9_scan_113 : decode cX9_scan 113 = .ok (.ifCond .eq 19, 3) := by decide +kernel
theorem dX9_scan_116 : decode cX9_scan 116 = .ok (.aload_n 0, 1) := by decide +kernel
theorem dX9_scan_117 : decode cX9_scan 117 = .ok (.iload 6, 2) := by decide +kernel
theorem dX9_scan_119 : decode cX9_scan 119 = .ok (.bipush 48, 2) := by decide +kernel
theorem dX9_scan_121 : decode cX9_scan 121 = .ok (.isub, 1) := by decide +kernel
theorem dX9_scan_122 : decode cX9_scan 122 = .ok (.iload 5, 2) := by decide +kernel
theorem dX9_scan_124 : decode cX9_scan 124 = .ok (.iload 4, 2) := by decide +kernel
theorem dX9_scan_126 : decode cX9_scan 126 = .ok (.invokevirtual 53, 3) := by decide +kernel
theorem dX9_scan_129 : decode cX9_scan 129 = .ok (.goto 25, 3) := by decide +kernel
theorem dX9_scan_132 : decode cX9_scan 132 = .ok (.iload 6, 2) := by decide +kernel
theorem dX9_scan_134 : decode cX9_scan 134 = .ok (.bipush 10, 2) := by decide +kernel
theorem dX9_scan_136 : decode cX9_scan 136 = .ok (.if_icmp .eq 18, 3) := by decide +kernel
theorem dX9_scan_139 : decode cX9_scan 139 = .ok (.iload 6, 2) := by decide +kernel
theorem dX9_scan_141 : decode cX9_scan 141 = .ok (.bipush 32, 2) := by decide +kernel
theorem dX9_scan_143 : decode cX9_scan 143 = .ok (.if_icmp .eq 11, 3) := by decide +kernel
theorem dX9_scan_146 : decode cX9_scan 146 = .ok (.aload_n 0, 1) := by decide +kernel
theorem dX9_scan_147 : decode cX9_scan 147 = .ok (.iload 6, 2) := by decide +kernel
theorem dX9_scan_149 : decode cX9_scan 149 = .ok (.iload 5, 2) := by decide +kernel
theorem dX9_scan_151 : decode cX9_scan 151 = .ok (.invokevirtual 56, 3) := by decide +kernel
theorem dX9_scan_154 : decode cX9_scan 154 = .ok (.iload 7, 2) := by decide +kernel
theorem dX9_scan_156 : decode cX9_scan 156 = .ok (.istore_n 3, 1) := by decide +kernel
theorem dX9_scan_157 : decode cX9_scan 157 = .ok (.iload 8, 2) := by decide +kernel
theorem dX9_scan_159 : decode cX9_scan 159 = .ok (.istore 4, 2) := by decide +kernel
theorem dX9_scan_161 : decode cX9_scan 161 = .ok (.iinc 5 1, 3) := by decide +kernel
theorem dX9_scan_164 : decode cX9_scan 164 = .ok (.goto (-136), 3) := by decide +kernel
theorem dX9_scan_167 : decode cX9_scan 167 = .ok (.aload_n 0, 1) := by decide +kernel
theorem dX9_scan_168 : decode cX9_scan 168 = .ok (.bipush 44, 2) := by decide +kernel
theorem dX9_scan_170 : decode cX9_scan 170 = .ok (.iload_n 2, 1) := by decide +kernel
theorem dX9_scan_171 : decode cX9_scan 171 = .ok (.invokevirtual 60, 3) := by decide +kernel
theorem dX9_scan_174 : decode cX9_scan 174 = .ok (.aload_n 0, 1) := by decide +kernel
theorem dX9_scan_175 : decode cX9_scan 175 = .ok (.invokevirtual 63, 3) := by decide +kernel
theorem dX9_scan_178 : decode cX9_scan 178 = .ok (.return_, 1) := by decide +kernel
theorem dX9_begin_0 : decode cX9_begin 0 = .ok (.aload_n 0, 1) := by decide +kernel
theorem dX9_begin_1 : decode cX9_begin 1 = .ok (.getfield 40, 3) := by decide +kernel
theorem dX9_begin_4 : decode cX9_begin 4 = .ok (.aload_n 0, 1) := by decide +kernel
theorem dX9_begin_5 : decode cX9_begin 5 = .ok (.getfield 15, 3) := by decide +kernel
theorem dX9_begin_8 : decode cX9_begin 8 = .ok (.arraylength, 1) := by decide +kernel
theorem dX9_begin_9 : decode cX9_begin 9 = .ok (.if_icmp .ge 43, 3) := by decide +kernel
theorem dX9_begin_12 : decode cX9_begin 12 = .ok (.aload_n 0, 1) := by decide +kernel
theorem dX9_begin_13 : decode cX9_begin 13 = .ok (.getfield 15, 3) := by decide +kernel
theorem dX9_begin_16 : decode cX9_begin 16 = .ok (.aload_n 0, 1) := by decide +kernel
theorem dX9_begin_17 : decode cX9_begin 17 = .ok (.getfield 40, 3) := by decide +kernel
theorem dX9_begin_20 : decode cX9_begin 20 = .ok (.iload_n 1, 1) := by decide +kernel
theorem dX9_begin_21 : decode cX9_begin 21 = .ok (.iastore, 1) := by decide +kernel
theorem dX9_begin_22 : decode cX9_begin 22 = .ok (.aload_n 0, 1) := by decide +kernel
theorem dX9_begin_23 : decode cX9_begin 23 = .ok (.getfield 18, 3) := by decide +kernel
theorem dX9_begin_26 : decode cX9_begin 26 = .ok (.aload_n 0, 1) := by decide +kernel
theorem dX9_begin_27 : decode cX9_begin 27 = .ok (.getfield 40, 3) := by decide +kernel
theorem dX9_begin_30 : decode cX9_begin 30 = .ok (.iload_n 2, 1) := by decide +kernel
theorem dX9_begin_31 : decode cX9_begin 31 = .ok (.iastore, 1) := by decide +kernel
theorem dX9_begin_32 : decode cX9_begin 32 = .ok (.aload_n 0, 1) := by decide +kernel
theorem dX9_begin_33 : decode cX9_begin 33 = .ok (.getfield 21, 3) := by decide +kernel
theorem dX9_begin_36 : decode cX9_begin 36 = .ok (.aload_n 0, 1) := by decide +kernel
theorem dX9_begin_37 : decode cX9_begin 37 = .ok (.getfield 40, 3) := by decide +kernel
theorem dX9_begin_40 : decode cX9_begin 40 = .ok (.iconst 0, 1) := by decide +kernel
theorem dX9_begin_41 : decode cX9_begin 41 = .ok (.iastore, 1) := by decide +kernel
theorem dX9_begin_42 : decode cX9_begin 42 = .ok (.aload_n 0, 1) := by decide +kernel
theorem dX9_begin_43 : decode cX9_begin 43 = .ok (.dup, 1) := by decide +kernel
theorem dX9_begin_44 : decode cX9_begin 44 = .ok (.getfield 40, 3) := by decide +kernel
theorem dX9_begin_47 : decode cX9_begin 47 = .ok (.iconst 1, 1) := by decide +kernel
theorem dX9_begin_48 : decode cX9_begin 48 = .ok (.iadd, 1) := by decide +kernel
theorem dX9_begin_49 : decode cX9_begin 49 = .ok (.putfield 40, 3) := by decide +kernel
theorem dX9_begin_52 : decode cX9_begin 52 = .ok (.return_, 1) := by decide +kernel
theorem dX9_addLetter_0 : decode cX9_addLetter 0 = .ok (.iload_n 3, 1) := by decide +kernel
theorem dX9_addLetter_1 : decode cX9_addLetter 1 = .ok (.ifCond .ne 15, 3) := by decide +kernel
theorem dX9_addLetter_4 : decode cX9_addLetter 4 = .ok (.aload_n 0, 1) := by decide +kernel
theorem dX9_addLetter_5 : decode cX9_addLetter 5 = .ok (.bipush 39, 2) := by decide +kernel
theorem dX9_addLetter_7 : decode cX9_addLetter 7 = .ok (.iload_n 2, 1) := by decide +kernel
theorem dX9_addLetter_8 : decode cX9_addLetter 8 = .ok (.invokevirtual 60, 3) := by decide +kernel
theorem dX9_addLetter_11 : decode cX9_addLetter 11 = .ok (.aload_n 0, 1) := by decide +kernel
theorem dX9_addLetter_12 : decode cX9_addLetter 12 = .ok (.iconst 0, 1) := by decide +kernel
theorem dX9_addLetter_13 : decode cX9_addLetter 13 = .ok (.putfield 66, 3) := by decide +kernel
theorem dX9_addLetter_16 : decode cX9_addLetter 16 = .ok (.aload_n 0, 1) := by decide +kernel
theorem dX9_addLetter_17 : decode cX9_addLetter 17 = .ok (.dup, 1) := by decide +kernel
theorem dX9_addLetter_18 : decode cX9_addLetter 18 = .ok (.getfield 66, 3) := by decide +kernel
theorem dX9_addLetter_21 : decode cX9_addLetter 21 = .ok (.iconst 1, 1) := by decide +kernel
theorem dX9_addLetter_22 : decode cX9_addLetter 22 = .ok (.iadd, 1) := by decide +kernel
theorem dX9_addLetter_23 : decode cX9_addLetter 23 = .ok (.putfield 66, 3) := by decide +kernel
theorem dX9_addLetter_26 : decode cX9_addLetter 26 = .ok (.aload_n 0, 1) := by decide +kernel
theorem dX9_addLetter_27 : decode cX9_addLetter 27 = .ok (.getfield 40, 3) := by decide +kernel
theorem dX9_addLetter_30 : decode cX9_addLetter 30 = .ok (.ifCond .le 40, 3) := by decide +kernel
theorem dX9_addLetter_33 : decode cX9_addLetter 33 = .ok (.aload_n 0, 1) := by decide +kernel
theorem dX9_addLetter_34 : decode cX9_addLetter 34 = .ok (.getfield 66, 3) := by decide +kernel
theorem dX9_addLetter_37 : decode cX9_addLetter 37 = .ok (.bipush 6, 2) := by decide +kernel
theorem dX9_addLetter_39 : decode cX9_addLetter 39 = .ok (.if_icmp .gt 31, 3) := by decide +kernel
theorem dX9_addLetter_42 : decode cX9_addLetter 42 = .ok (.aload_n 0, 1) := by decide +kernel
theorem dX9_addLetter_43 : decode cX9_addLetter 43 = .ok (.getfield 21, 3) := by decide +kernel
theorem dX9_addLetter_46 : decode cX9_addLetter 46 = .ok (.aload_n 0, 1) := by decide +kernel
theorem dX9_addLetter_47 : decode cX9_addLetter 47 = .ok (.getfield 40, 3) := by decide +kernel
theorem dX9_addLetter_50 : decode cX9_addLetter 50 = .ok (.iconst 1, 1) := by decide +kernel
theorem dX9_addLetter_51 : decode cX9_addLetter 51 = .ok (.isub, 1) := by decide +kernel
theorem dX9_addLetter_52 : decode cX9_addLetter 52 = .ok (.dup2, 1) := by decide +kernel
theorem dX9_addLetter_53 : decode cX9_addLetter 53 = .ok (.iaload, 1) := by decide +kernel
theorem dX9_addLetter_54 : decode cX9_addLetter 54 = .ok (.iload_n 1, 1) := by decide +kernel
theorem dX9_addLetter_55 : decode cX9_addLetter 55 = .ok (.bipush 30, 2) := by decide +kernel
theorem dX9_addLetter_57 : decode cX9_addLetter 57 = .ok (.iconst 5, 1) := by decide +kernel
theorem dX9_addLetter_58 : decode cX9_addLetter 58 = .ok (.aload_n 0, 1) := by decide +kernel
theorem dX9_addLetter_59 : decode cX9_addLetter 59 = .ok (.getfield 66, 3) := by decide +kernel
theorem dX9_addLetter_62 : decode cX9_addLetter 62 = .ok (.imul, 1) := by decide +kernel
theorem dX9_addLetter_63 : decode cX9_addLetter 63 = .ok (.isub, 1) := by decide +kernel
theorem dX9_addLetter_64 : decode cX9_addLetter 64 = .ok (.ishl, 1) := by decide +kernel
theorem dX9_addLetter_65 : decode cX9_addLetter 65 = .ok (.ior, 1) := by decide +kernel
theorem dX9_addLetter_66 : decode cX9_addLetter 66 = .ok (.iastore, 1) := by decide +kernel
theorem dX9_addLetter_67 : decode cX9_addLetter 67 = .ok (.goto 23, 3) := by decide +kernel
theorem dX9_addLetter_70 : decode cX9_addLetter 70 = .ok (.aload_n 0, 1) := by decide +kernel
theorem dX9_addLetter_71 : decode cX9_addLetter 71 = .ok (.getfield 40, 3) := by decide +kernel
theorem dX9_addLetter_74 : decode cX9_addLetter 74 = .ok (.ifCond .le 16, 3) := by decide +kernel
theorem dX9_addLetter_77 : decode cX9_addLetter 77 = .ok (.aload_n 0, 1) := by decide +kernel
theorem dX9_addLetter_78 : decode cX9_addLetter 78 = .ok (.getfield 15, 3) := by decide +kernel
theorem dX9_addLetter_81 : decode cX9_addLetter 81 = .ok (.aload_n 0, 1) := by decide +kernel
theorem dX9_addLetter_82 : decode cX9_addLetter 82 = .ok (.getfield 40, 3) := by decide +kernel
theorem dX9_addLetter_85 : decode cX9_addLetter 85 = .ok (.iconst 1, 1) := by decide +kernel
theorem dX9_addLetter_86 : decode cX9_addLetter 86 = .ok (.isub, 1) := by decide +kernel
theorem dX9_addLetter_87 : decode cX9_addLetter 87 = .ok (.bipush 43, 2) := by decide +kernel
theorem dX9_addLetter_89 : decode cX9_addLetter 89 = .ok (.iastore, 1) := by decide +kernel
theorem dX9_addLetter_90 : decode cX9_addLetter 90 = .ok (.return_, 1) := by decide +kernel
theorem dX9_addDigit_0 : decode cX9_addDigit 0 = .ok (.iload_n 3, 1) := by decide +kernel
theorem dX9_addDigit_1 : decode cX9_addDigit 1 = .ok (.ifCond .ne 10, 3) := by decide +kernel
theorem dX9_addDigit_4 : decode cX9_addDigit 4 = .ok (.aload_n 0, 1) := by decide +kernel
theorem dX9_addDigit_5 : decode cX9_addDigit 5 = .ok (.bipush 38, 2) := by decide +kernel
theorem dX9_addDigit_7 : decode cX9_addDigit 7 = .ok (.iload_n 2, 1) := by decide +kernel
theorem dX9_addDigit_8 : decode cX9_addDigit 8 = .ok (.invokevirtual 60, 3) := by decide +kernel
theorem dX9_addDigit_11 : decode cX9_addDigit 11 = .ok (.aload_n 0, 1) := by decide +kernel
theorem dX9_addDigit_12 : decode cX9_addDigit 12 = .ok (.getfield 40, 3) := by decide +kernel
theorem dX9_addDigit_15 : decode cX9_addDigit 15 = .ok (.ifCond .le 35, 3) := by decide +kernel
theorem dX9_addDigit_18 : decode cX9_addDigit 18 = .ok (.aload_n 0, 1) := by decide +kernel
theorem dX9_addDigit_19 : decode cX9_addDigit 19 = .ok (.getfield 21, 3) := by decide +kernel
theorem dX9_addDigit_22 : decode cX9_addDigit 22 = .ok (.aload_n 0, 1) := by decide +kernel
theorem dX9_addDigit_23 : decode cX9_addDigit 23 = .ok (.getfield 40, 3) := by decide +kernel
theorem dX9_addDigit_26 : decode cX9_addDigit 26 = .ok (.iconst 1, 1) := by decide +kernel
theorem dX9_addDigit_27 : decode cX9_addDigit 27 = .ok (.isub, 1) := by decide +kernel
theorem dX9_addDigit_28 : decode cX9_addDigit 28 = .ok (.aload_n 0, 1) := by decide +kernel
theorem dX9_addDigit_29 : decode cX9_addDigit 29 = .ok (.getfield 21, 3) := by decide +kernel
theorem dX9_addDigit_32 : decode cX9_addDigit 32 = .ok (.aload_n 0, 1) := by decide +kernel
theorem dX9_addDigit_33 : decode cX9_addDigit 33 = .ok (.getfield 40, 3) := by decide +kernel
theorem dX9_addDigit_36 : decode cX9_addDigit 36 = .ok (.iconst 1, 1) := by decide +kernel
theorem dX9_addDigit_37 : decode cX9_addDigit 37 = .ok (.isub, 1) := by decide +kernel
theorem dX9_addDigit_38 : decode cX9_addDigit 38 = .ok (.iaload, 1) := by decide +kernel
theorem dX9_addDigit_39 : decode cX9_addDigit 39 = .ok (.bipush 10, 2) := by decide +kernel
theorem dX9_addDigit_41 : decode cX9_addDigit 41 = .ok (.imul, 1) := by decide +kernel
theorem dX9_addDigit_42 : decode cX9_addDigit 42 = .ok (.iload_n 1, 1) := by decide +kernel
theorem dX9_addDigit_43 : decode cX9_addDigit 43 = .ok (.iadd, 1) := by decide +kernel
theorem dX9_addDigit_44 : decode cX9_addDigit 44 = .ok (.ldc 69, 2) := by decide +kernel
theorem dX9_addDigit_46 : decode cX9_addDigit 46 = .ok (.invokestatic 70, 3) := by decide +kernel
theorem dX9_addDigit_49 : decode cX9_addDigit 49 = .ok (.iastore, 1) := by decide +kernel
theorem dX9_addDigit_50 : decode cX9_addDigit 50 = .ok (.return_, 1) := by decide +kernel
theorem dX9_addSign_0 : decode cX9_addSign 0 = .ok (.aload_n 0, 1) := by decide +kernel
theorem dX9_addSign_1 : decode cX9_addSign 1 = .ok (.getfield 40, 3) := by decide +kernel
theorem dX9_addSign_4 : decode cX9_addSign 4 = .ok (.ifCond .le 24, 3) := by decide +kernel
theorem dX9_addSign_7 : decode cX9_addSign 7 = .ok (.aload_n 0, 1) := by decide +kernel
theorem dX9_addSign_8 : decode cX9_addSign 8 = .ok (.getfield 18, 3) := by decide +kernel
theorem dX9_addSign_11 : decode cX9_addSign 11 = .ok (.aload_n 0, 1) := by decide +kernel
theorem dX9_addSign_12 : decode cX9_addSign 12 = .ok (.getfield 40, 3) := by decide +kernel
theorem dX9_addSign_15 : decode cX9_addSign 15 = .ok (.iconst 1, 1) := by decide +kernel
theorem dX9_addSign_16 : decode cX9_addSign 16 = .ok (.isub, 1) := by decide +kernel
theorem dX9_addSign_17 : decode cX9_addSign 17 = .ok (.iaload, 1) := by decide +kernel
theorem dX9_addSign_18 : decode cX9_addSign 18 = .ok (.iload_n 2, 1) := by decide +kernel
theorem dX9_addSign_19 : decode cX9_addSign 19 = .ok (.iconst 1, 1) := by decide +kernel
theorem dX9_addSign_20 : decode cX9_addSign 20 = .ok (.isub, 1) := by decide +kernel
theorem dX9_addSign_21 : decode cX9_addSign 21 = .ok (.if_icmp .ne 7, 3) := by decide +kernel
theorem dX9_addSign_24 : decode cX9_addSign 24 = .ok (.iconst 1, 1) := by decide +kernel
theorem dX9_addSign_25 : decode cX9_addSign 25 = .ok (.goto 4, 3) := by decide +kernel
theorem dX9_addSign_28 : decode cX9_addSign 28 = .ok (.iconst 0, 1) := by decide +kernel
theorem dX9_addSign_29 : decode cX9_addSign 29 = .ok (.istore_n 3, 1) := by decide +kernel
theorem dX9_addSign_30 : decode cX9_addSign 30 = .ok (.iload_n 3, 1) := by decide +kernel
theorem dX9_addSign_31 : decode cX9_addSign 31 = .ok (.ifCond .eq 17, 3) := by decide +kernel
theorem dX9_addSign_34 : decode cX9_addSign 34 = .ok (.aload_n 0, 1) := by decide +kernel
theorem dX9_addSign_35 : decode cX9_addSign 35 = .ok (.getfield 15, 3) := by decide +kernel
theorem dX9_addSign_38 : decode cX9_addSign 38 = .ok (.aload_n 0, 1) := by decide +kernel
theorem dX9_addSign_39 : decode cX9_addSign 39 = .ok (.getfield 40, 3) := by decide +kernel
theorem dX9_addSign_42 : decode cX9_addSign 42 = .ok (.iconst 1, 1) := by decide +kernel
theorem dX9_addSign_43 : decode cX9_addSign 43 = .ok (.isub, 1) := by decide +kernel
theorem dX9_addSign_44 : decode cX9_addSign 44 = .ok (.iaload, 1) := by decide +kernel
theorem dX9_addSign_45 : decode cX9_addSign 45 = .ok (.goto 5, 3) := by decide +kernel
theorem dX9_addSign_48 : decode cX9_addSign 48 = .ok (.bipush 44, 2) := by decide +kernel
theorem dX9_addSign_50 : decode cX9_addSign 50 = .ok (.istore 4, 2) := by decide +kernel
theorem dX9_addSign_52 : decode cX9_addSign 52 = .ok (.iload_n 1, 1) := by decide +kernel
theorem dX9_addSign_53 : decode cX9_addSign 53 = .ok (.bipush 61, 2) := by decide +kernel
theorem dX9_addSign_55 : decode cX9_addSign 55 = .ok (.if_icmp .ne 45, 3) := by decide +kernel
theorem dX9_addSign_58 : decode cX9_addSign 58 = .ok (.iload 4, 2) := by decide +kernel
theorem dX9_addSign_60 : decode cX9_addSign 60 = .ok (.bipush 32, 2) := by decide +kernel
theorem dX9_addSign_62 : decode cX9_addSign 62 = .ok (.if_icmp .eq 10, 3) := by decide +kernel
theorem dX9_addSign_65 : decode cX9_addSign 65 = .ok (.iload 4, 2) := by decide +kernel
theorem dX9_addSign_67 : decode cX9_addSign 67 = .ok (.bipush 37, 2) := by decide +kernel
theorem dX9_addSign_69 : decode cX9_addSign 69 = .ok (.if_icmp .ne 31, 3) := by decide +kernel
theorem dX9_addSign_72 : decode cX9_addSign 72 = .ok (.aload_n 0, 1) := by decide +kernel
theorem dX9_addSign_73 : decode cX9_addSign 73 = .ok (.getfield 15, 3) := by decide +kernel
theorem dX9_addSign_76 : decode cX9_addSign 76 = .ok (.aload_n 0, 1) := by decide +kernel
theorem dX9_addSign_77 : decode cX9_addSign 77 = .ok (.getfield 40, 3) := by decide +kernel
theorem dX9_addSign_80 : decode cX9_addSign 80 = .ok (.iconst 1, 1) := by decide +kernel
theorem dX9_addSign_81 : decode cX9_addSign 81 = .ok (.isub, 1) := by decide +kernel
theorem dX9_addSign_82 : decode cX9_addSign 82 = .ok (.iload 4, 2) := by decide +kernel
theorem dX9_addSign_84 : decode cX9_addSign 84 = .ok (.bipush 32, 2) := by decide +kernel
theorem dX9_addSign_86 : decode cX9_addSign 86 = .ok (.if_icmp .ne 8, 3) := by decide +kernel
theorem dX9_addSign_89 : decode cX9_addSign 89 = .ok (.bipush 33, 2) := by decide +kernel
theorem dX9_addSign_91 : decode cX9_addSign 91 = .ok (.goto 5, 3) := by decide +kernel
theorem dX9_addSign_94 : decode cX9_addSign 94 = .ok (.bipush 36, 2) := by decide +kernel
theorem dX9_addSign_96 : decode cX9_addSign 96 = .ok (.iastore, 1) := by decide +kernel
theorem dX9_addSign_97 : decode cX9_addSign 97 = .ok (.goto 41, 3) := by decide +kernel
theorem dX9_addSign_100 : decode cX9_addSign 100 = .ok (.iload_n 1, 1) := by decide +kernel
theorem dX9_addSign_101 : decode cX9_addSign 101 = .ok (.bipush 62, 2) := by decide +kernel
theorem dX9_addSign_103 : decode cX9_addSign 103 = .ok (.if_icmp .ne 26, 3) := by decide +kernel
theorem dX9_addSign_106 : decode cX9_addSign 106 = .ok (.iload 4, 2) := by decide +kernel
theorem dX9_addSign_108 : decode cX9_addSign 108 = .ok (.bipush 32, 2) := by decide +kernel
theorem dX9_addSign_110 : decode cX9_addSign 110 = .ok (.if_icmp .ne 19, 3) := by decide +kernel
theorem dX9_addSign_113 : decode cX9_addSign 113 = .ok (.aload_n 0, 1) := by decide +kernel
theorem dX9_addSign_114 : decode cX9_addSign 114 = .ok (.getfield 15, 3) := by decide +kernel
theorem dX9_addSign_117 : decode cX9_addSign 117 = .ok (.aload_n 0, 1) := by decide +kernel
theorem dX9_addSign_118 : decode cX9_addSign 118 = .ok (.getfield 40, 3) := by decide +kernel
theorem dX9_addSign_121 : decode cX9_addSign 121 = .ok (.iconst 1, 1) := by decide +kernel
theorem dX9_addSign_122 : decode cX9_addSign 122 = .ok (.isub, 1) := by decide +kernel
theorem dX9_addSign_123 : decode cX9_addSign 123 = .ok (.bipush 35, 2) := by decide +kernel
theorem dX9_addSign_125 : decode cX9_addSign 125 = .ok (.iastore, 1) := by decide +kernel
theorem dX9_addSign_126 : decode cX9_addSign 126 = .ok (.goto 12, 3) := by decide +kernel
theorem dX9_addSign_129 : decode cX9_addSign 129 = .ok (.aload_n 0, 1) := by decide +kernel
theorem dX9_addSign_130 : decode cX9_addSign 130 = .ok (.iload_n 1, 1) := by decide +kernel
theorem dX9_addSign_131 : decode cX9_addSign 131 = .ok (.invokestatic 76, 3) := by decide +kernel
theorem dX9_addSign_134 : decode cX9_addSign 134 = .ok (.iload_n 2, 1) := by decide +kernel
theorem dX9_addSign_135 : decode cX9_addSign 135 = .ok (.invokevirtual 60, 3) := by decide +kernel
theorem dX9_addSign_138 : decode cX9_addSign 138 = .ok (.return_, 1) := by decide +kernel
theorem dX9_kindOf_0 : decode cX9_kindOf 0 = .ok (.iload_n 0, 1) := by decide +kernel
theorem dX9_kindOf_1 : decode cX9_kindOf 1 = .ok (.tableswitch 137 40 62 #[110, 113, 122, 116, 137, 119, 137, 125, 137, 137, 137, 137, 137, 137, 137, 137, 137, 137, 137, 107, 128, 131, 134], 107) := by decide +kernel
theorem dX9_kindOf_108 : decode cX9_kindOf 108 = .ok (.bipush 40, 2) := by decide +kernel
theorem dX9_kindOf_110 : decode cX9_kindOf 110 = .ok (.ireturn, 1) := by decide +kernel
theorem dX9_kindOf_111 : decode cX9_kindOf 111 = .ok (.bipush 41, 2) := by decide +kernel
theorem dX9_kindOf_113 : decode cX9_kindOf 113 = .ok (.ireturn, 1) := by decide +kernel
theorem dX9_kindOf_114 : decode cX9_kindOf 114 = .ok (.bipush 42, 2) := by decide +kernel
theorem dX9_kindOf_116 : decode cX9_kindOf 116 = .ok (.ireturn, 1) := by decide +kernel
theorem dX9_kindOf_117 : decode cX9_kindOf 117 = .ok (.bipush 28, 2) := by decide +kernel
theorem dX9_kindOf_119 : decode cX9_kindOf 119 = .ok (.ireturn, 1) := by decide +kernel
theorem dX9_kindOf_120 : decode cX9_kindOf 120 = .ok (.bipush 29, 2) := by decide +kernel
theorem dX9_kindOf_122 : decode cX9_kindOf 122 = .ok (.ireturn, 1) := by decide +kernel
theorem dX9_kindOf_123 : decode cX9_kindOf 123 = .ok (.bipush 30, 2) := by decide +kernel
theorem dX9_kindOf_125 : decode cX9_kindOf 125 = .ok (.ireturn, 1) := by decide +kernel
theorem dX9_kindOf_126 : decode cX9_kindOf 126 = .ok (.bipush 31, 2) := by decide +kernel
theorem dX9_kindOf_128 : decode cX9_kindOf 128 = .ok (.ireturn, 1) := by decide +kernel
theorem dX9_kindOf_129 : decode cX9_kindOf 129 = .ok (.bipush 32, 2) := by decide +kernel
theorem dX9_kindOf_131 : decode cX9_kindOf 131 = .ok (.ireturn, 1) := by decide +kernel
theorem dX9_kindOf_132 : decode cX9_kindOf 132 = .ok (.bipush 34, 2) := by decide +kernel
theorem dX9_kindOf_134 : decode cX9_kindOf 134 = .ok (.ireturn, 1) := by decide +kernel
theorem dX9_kindOf_135 : decode cX9_kindOf 135 = .ok (.bipush 37, 2) := by decide +kernel
theorem dX9_kindOf_137 : decode cX9_kindOf 137 = .ok (.ireturn, 1) := by decide +kernel
theorem dX9_kindOf_138 : decode cX9_kindOf 138 = .ok (.bipush 43, 2) := by decide +kernel
theorem dX9_kindOf_140 : decode cX9_kindOf 140 = .ok (.ireturn, 1) := by decide +kernel
theorem dX9_nameWords_0 : decode cX9_nameWords 0 = .ok (.iconst 0, 1) := by decide +kernel
theorem dX9_nameWords_1 : decode cX9_nameWords 1 = .ok (.istore_n 1, 1) := by decide +kernel
theorem dX9_nameWords_2 : decode cX9_nameWords 2 = .ok (.iload_n 1, 1) := by decide +kernel
theorem dX9_nameWords_3 : decode cX9_nameWords 3 = .ok (.aload_n 0, 1) := by decide +kernel
theorem dX9_nameWords_4 : decode cX9_nameWords 4 = .ok (.getfield 40, 3) := by decide +kernel
theorem dX9_nameWords_7 : decode cX9_nameWords 7 = .ok (.if_icmp .ge 56, 3) := by decide +kernel
theorem dX9_nameWords_10 : decode cX9_nameWords 10 = .ok (.iconst 0, 1) := by decide +kernel
theorem dX9_nameWords_11 : decode cX9_nameWords 11 = .ok (.istore_n 2, 1) := by decide +kernel
theorem dX9_nameWords_12 : decode cX9_nameWords 12 = .ok (.iload_n 2, 1) := by decide +kernel
theorem dX9_nameWords_13 : decode cX9_nameWords 13 = .ok (.bipush 28, 2) := by decide +kernel
theorem dX9_nameWords_15 : decode cX9_nameWords 15 = .ok (.if_icmp .ge 42, 3) := by decide +kernel
theorem dX9_nameWords_18 : decode cX9_nameWords 18 = .ok (.aload_n 0, 1) := by decide +kernel
theorem dX9_nameWords_19 : decode cX9_nameWords 19 = .ok (.getfield 15, 3) := by decide +kernel
theorem dX9_nameWords_22 : decode cX9_nameWords 22 = .ok (.iload_n 1, 1) := by decide +kernel
theorem dX9_nameWords_23 : decode cX9_nameWords 23 = .ok (.iaload, 1) := by decide +kernel
theorem dX9_nameWords_24 : decode cX9_nameWords 24 = .ok (.bipush 39, 2) := by decide +kernel
theorem dX9_nameWords_26 : decode cX9_nameWords 26 = .ok (.if_icmp .ne 31, 3) := by decide +kernel
theorem dX9_nameWords_29 : decode cX9_nameWords 29 = .ok (.aload_n 0, 1) := by decide +kernel
theorem dX9_nameWords_30 : decode cX9_nameWords 30 = .ok (.getfield 21, 3) := by decide +kernel
theorem dX9_nameWords_33 : decode cX9_nameWords 33 = .ok (.iload_n 1, 1) := by decide +kernel
theorem dX9_nameWords_34 : decode cX9_nameWords 34 = .ok (.iaload, 1) := by decide +kernel
theorem dX9_nameWords_35 : decode cX9_nameWords 35 = .ok (.aload_n 0, 1) := by decide +kernel
theorem dX9_nameWords_36 : decode cX9_nameWords 36 = .ok (.getfield 9, 3) := by decide +kernel
theorem dX9_nameWords_39 : decode cX9_nameWords 39 = .ok (.iload_n 2, 1) := by decide +kernel
theorem dX9_nameWords_40 : decode cX9_nameWords 40 = .ok (.iaload, 1) := by decide +kernel
theorem dX9_nameWords_41 : decode cX9_nameWords 41 = .ok (.if_icmp .ne 10, 3) := by decide +kernel
theorem dX9_nameWords_44 : decode cX9_nameWords 44 = .ok (.aload_n 0, 1) := by decide +kernel
theorem dX9_nameWords_45 : decode cX9_nameWords 45 = .ok (.getfield 15, 3) := by decide +kernel
theorem dX9_nameWords_48 : decode cX9_nameWords 48 = .ok (.iload_n 1, 1) := by decide +kernel
theorem dX9_nameWords_49 : decode cX9_nameWords 49 = .ok (.iload_n 2, 1) := by decide +kernel
theorem dX9_nameWords_50 : decode cX9_nameWords 50 = .ok (.iastore, 1) := by decide +kernel
theorem dX9_nameWords_51 : decode cX9_nameWords 51 = .ok (.iinc 2 1, 3) := by decide +kernel
theorem dX9_nameWords_54 : decode cX9_nameWords 54 = .ok (.goto (-42), 3) := by decide +kernel
theorem dX9_nameWords_57 : decode cX9_nameWords 57 = .ok (.iinc 1 1, 3) := by decide +kernel
theorem dX9_nameWords_60 : decode cX9_nameWords 60 = .ok (.goto (-58), 3) := by decide +kernel
theorem dX9_nameWords_63 : decode cX9_nameWords 63 = .ok (.return_, 1) := by decide +kernel
theorem dX9_kind_0 : decode cX9_kind 0 = .ok (.aload_n 0, 1) := by decide +kernel
theorem dX9_kind_1 : decode cX9_kind 1 = .ok (.getfield 43, 3) := by decide +kernel
theorem dX9_kind_4 : decode cX9_kind 4 = .ok (.aload_n 0, 1) := by decide +kernel
theorem dX9_kind_5 : decode cX9_kind 5 = .ok (.getfield 40, 3) := by decide +kernel
theorem dX9_kind_8 : decode cX9_kind 8 = .ok (.if_icmp .ge 15, 3) := by decide +kernel
theorem dX9_kind_11 : decode cX9_kind 11 = .ok (.aload_n 0, 1) := by decide +kernel
theorem dX9_kind_12 : decode cX9_kind 12 = .ok (.getfield 15, 3) := by decide +kernel
theorem dX9_kind_15 : decode cX9_kind 15 = .ok (.aload_n 0, 1) := by decide +kernel
theorem dX9_kind_16 : decode cX9_kind 16 = .ok (.getfield 43, 3) := by decide +kernel
theorem dX9_kind_19 : decode cX9_kind 19 = .ok (.iaload, 1) := by decide +kernel
theorem dX9_kind_20 : decode cX9_kind 20 = .ok (.goto 5, 3) := by decide +kernel
theorem dX9_kind_23 : decode cX9_kind 23 = .ok (.bipush 44, 2) := by decide +kernel
theorem dX9_kind_25 : decode cX9_kind 25 = .ok (.ireturn, 1) := by decide +kernel
theorem dX9_value_0 : decode cX9_value 0 = .ok (.aload_n 0, 1) := by decide +kernel
theorem dX9_value_1 : decode cX9_value 1 = .ok (.getfield 43, 3) := by decide +kernel
theorem dX9_value_4 : decode cX9_value 4 = .ok (.aload_n 0, 1) := by decide +kernel
theorem dX9_value_5 : decode cX9_value 5 = .ok (.getfield 40, 3) := by decide +kernel
theorem dX9_value_8 : decode cX9_value 8 = .ok (.if_icmp .ge 15, 3) := by decide +kernel
theorem dX9_value_11 : decode cX9_value 11 = .ok (.aload_n 0, 1) := by decide +kernel
theorem dX9_value_12 : decode cX9_value 12 = .ok (.getfield 21, 3) := by decide +kernel
theorem dX9_value_15 : decode cX9_value 15 = .ok (.aload_n 0, 1) := by decide +kernel
theorem dX9_value_16 : decode cX9_value 16 = .ok (.getfield 43, 3) := by decide +kernel
theorem dX9_value_19 : decode cX9_value 19 = .ok (.iaload, 1) := by decide +kernel
theorem dX9_value_20 : decode cX9_value 20 = .ok (.goto 4, 3) := by decide +kernel
theorem dX9_value_23 : decode cX9_value 23 = .ok (.iconst 0, 1) := by decide +kernel
theorem dX9_value_24 : decode cX9_value 24 = .ok (.ireturn, 1) := by decide +kernel
theorem dX9_step_0 : decode cX9_step 0 = .ok (.aload_n 0, 1) := by decide +kernel
theorem dX9_step_1 : decode cX9_step 1 = .ok (.dup, 1) := by decide +kernel
theorem dX9_step_2 : decode cX9_step 2 = .ok (.getfield 43, 3) := by decide +kernel
theorem dX9_step_5 : decode cX9_step 5 = .ok (.iconst 1, 1) := by decide +kernel
theorem dX9_step_6 : decode cX9_step 6 = .ok (.iadd, 1) := by decide +kernel
theorem dX9_step_7 : decode cX9_step 7 = .ok (.putfield 43, 3) := by decide +kernel
theorem dX9_step_10 : decode cX9_step 10 = .ok (.return_, 1) := by decide +kernel
theorem dX9_fail_0 : decode cX9_fail 0 = .ok (.aload_n 0, 1) := by decide +kernel
theorem dX9_fail_1 : decode cX9_fail 1 = .ok (.iload_n 1, 1) := by decide +kernel
theorem dX9_fail_2 : decode cX9_fail 2 = .ok (.putfield 46, 3) := by decide +kernel
theorem dX9_fail_5 : decode cX9_fail 5 = .ok (.aload_n 0, 1) := by decide +kernel
theorem dX9_fail_6 : decode cX9_fail 6 = .ok (.aload_n 0, 1) := by decide +kernel
theorem dX9_fail_7 : decode cX9_fail 7 = .ok (.getfield 43, 3) := by decide +kernel
theorem dX9_fail_10 : decode cX9_fail 10 = .ok (.aload_n 0, 1) := by decide +kernel
theorem dX9_fail_11 : decode cX9_fail 11 = .ok (.getfield 40, 3) := by decide +kernel
theorem dX9_fail_14 : decode cX9_fail 14 = .ok (.if_icmp .ge 15, 3) := by decide +kernel
theorem dX9_fail_17 : decode cX9_fail 17 = .ok (.aload_n 0, 1) := by decide +kernel
theorem dX9_fail_18 : decode cX9_fail 18 = .ok (.getfield 18, 3) := by decide +kernel
theorem dX9_fail_21 : decode cX9_fail 21 = .ok (.aload_n 0, 1) := by decide +kernel
theorem dX9_fail_22 : decode cX9_fail 22 = .ok (.getfield 43, 3) := by decide +kernel
theorem dX9_fail_25 : decode cX9_fail 25 = .ok (.iaload, 1) := by decide +kernel
theorem dX9_fail_26 : decode cX9_fail 26 = .ok (.goto 4, 3) := by decide +kernel
theorem dX9_fail_29 : decode cX9_fail 29 = .ok (.iconst (-1), 1) := by decide +kernel
theorem dX9_fail_30 : decode cX9_fail 30 = .ok (.putfield 24, 3) := by decide +kernel
theorem dX9_fail_33 : decode cX9_fail 33 = .ok (.iconst 0, 1) := by decide +kernel
theorem dX9_fail_34 : decode cX9_fail 34 = .ok (.ireturn, 1) := by decide +kernel
theorem dX9_isNumber_0 : decode cX9_isNumber 0 = .ok (.aload_n 0, 1) := by decide +kernel
theorem dX9_isNumber_1 : decode cX9_isNumber 1 = .ok (.invokevirtual 80, 3) := by decide +kernel
theorem dX9_isNumber_4 : decode cX9_isNumber 4 = .ok (.bipush 38, 2) := by decide +kernel
theorem dX9_isNumber_6 : decode cX9_isNumber 6 = .ok (.if_icmp .eq 9, 3) := by decide +kernel
theorem dX9_isNumber_9 : decode cX9_isNumber 9 = .ok (.aload_n 0, 1) := by decide +kernel
theorem dX9_isNumber_10 : decode cX9_isNumber 10 = .ok (.iconst 1, 1) := by decide +kernel
theorem dX9_isNumber_11 : decode cX9_isNumber 11 = .ok (.invokevirtual 83, 3) := by decide +kernel
theorem dX9_isNumber_14 : decode cX9_isNumber 14 = .ok (.ireturn, 1) := by decide +kernel
theorem dX9_isNumber_15 : decode cX9_isNumber 15 = .ok (.aload_n 0, 1) := by decide +kernel
theorem dX9_isNumber_16 : decode cX9_isNumber 16 = .ok (.invokevirtual 87, 3) := by decide +kernel
theorem dX9_isNumber_19 : decode cX9_isNumber 19 = .ok (.iload_n 1, 1) := by decide +kernel
theorem dX9_isNumber_20 : decode cX9_isNumber 20 = .ok (.if_icmp .le 11, 3) := by decide +kernel
theorem dX9_isNumber_23 : decode cX9_isNumber 23 = .ok (.aload_n 0, 1) := by decide +kernel
theorem dX9_isNumber_24 : decode cX9_isNumber 24 = .ok (.iconst 2, 1) := by decide +kernel
theorem dX9_isNumber_25 : decode cX9_isNumber 25 = .ok (.invokevirtual 83, 3) := by decide +kernel
theorem dX9_isNumber_28 : decode cX9_isNumber 28 = .ok (.ifCond .eq 7, 3) := by decide +kernel
theorem dX9_isNumber_31 : decode cX9_isNumber 31 = .ok (.iconst 1, 1) := by decide +kernel
theorem dX9_isNumber_32 : decode cX9_isNumber 32 = .ok (.goto 4, 3) := by decide +kernel
theorem dX9_isNumber_35 : decode cX9_isNumber 35 = .ok (.iconst 0, 1) := by decide +kernel
theorem dX9_isNumber_36 : decode cX9_isNumber 36 = .ok (.ireturn, 1) := by decide +kernel
theorem dX9_isFresh_0 : decode cX9_isFresh 0 = .ok (.aload_n 0, 1) := by decide +kernel
theorem dX9_isFresh_1 : decode cX9_isFresh 1 = .ok (.invokevirtual 80, 3) := by decide +kernel
theorem dX9_isFresh_4 : decode cX9_isFresh 4 = .ok (.bipush 39, 2) := by decide +kernel
theorem dX9_isFresh_6 : decode cX9_isFresh 6 = .ok (.if_icmp .eq 9, 3) := by decide +kernel
theorem dX9_isFresh_9 : decode cX9_isFresh 9 = .ok (.aload_n 0, 1) := by decide +kernel
theorem dX9_isFresh_10 : decode cX9_isFresh 10 = .ok (.iconst 1, 1) := by decide +kernel
theorem dX9_isFresh_11 : decode cX9_isFresh 11 = .ok (.invokevirtual 83, 3) := by decide +kernel
theorem dX9_isFresh_14 : decode cX9_isFresh 14 = .ok (.ireturn, 1) := by decide +kernel
theorem dX9_isFresh_15 : decode cX9_isFresh 15 = .ok (.aload_n 1, 1) := by decide +kernel
theorem dX9_isFresh_16 : decode cX9_isFresh 16 = .ok (.aload_n 0, 1) := by decide +kernel
theorem dX9_isFresh_17 : decode cX9_isFresh 17 = .ok (.invokevirtual 87, 3) := by decide +kernel
theorem dX9_isFresh_20 : decode cX9_isFresh 20 = .ok (.invokevirtual 90, 3) := by decide +kernel
theorem dX9_isFresh_23 : decode cX9_isFresh 23 = .ok (.ifCond .lt 11, 3) := by decide +kernel
theorem dX9_isFresh_26 : decode cX9_isFresh 26 = .ok (.aload_n 0, 1) := by decide +kernel
theorem dX9_isFresh_27 : decode cX9_isFresh 27 = .ok (.iconst 3, 1) := by decide +kernel
theorem dX9_isFresh_28 : decode cX9_isFresh 28 = .ok (.invokevirtual 83, 3) := by decide +kernel
theorem dX9_isFresh_31 : decode cX9_isFresh 31 = .ok (.ifCond .eq 7, 3) := by decide +kernel
theorem dX9_isFresh_34 : decode cX9_isFresh 34 = .ok (.iconst 1, 1) := by decide +kernel
theorem dX9_isFresh_35 : decode cX9_isFresh 35 = .ok (.goto 4, 3) := by decide +kernel
theorem dX9_isFresh_38 : decode cX9_isFresh 38 = .ok (.iconst 0, 1) := by decide +kernel
theorem dX9_isFresh_39 : decode cX9_isFresh 39 = .ok (.ireturn, 1) := by decide +kernel
theorem dX9_known_0 : decode cX9_known 0 = .ok (.aload_n 0, 1) := by decide +kernel
theorem dX9_known_1 : decode cX9_known 1 = .ok (.invokevirtual 80, 3) := by decide +kernel
theorem dX9_known_4 : decode cX9_known 4 = .ok (.bipush 39, 2) := by decide +kernel
theorem dX9_known_6 : decode cX9_known 6 = .ok (.if_icmp .eq 11, 3) := by decide +kernel
theorem dX9_known_9 : decode cX9_known 9 = .ok (.aload_n 0, 1) := by decide +kernel
theorem dX9_known_10 : decode cX9_known 10 = .ok (.iconst 1, 1) := by decide +kernel
theorem dX9_known_11 : decode cX9_known 11 = .ok (.invokevirtual 83, 3) := by decide +kernel
theorem dX9_known_14 : decode cX9_known 14 = .ok (.pop, 1) := by decide +kernel
theorem dX9_known_15 : decode cX9_known 15 = .ok (.iconst (-1), 1) := by decide +kernel
theorem dX9_known_16 : decode cX9_known 16 = .ok (.ireturn, 1) := by decide +kernel
theorem dX9_known_17 : decode cX9_known 17 = .ok (.aload_n 1, 1) := by decide +kernel
theorem dX9_known_18 : decode cX9_known 18 = .ok (.aload_n 0, 1) := by decide +kernel
theorem dX9_known_19 : decode cX9_known 19 = .ok (.invokevirtual 87, 3) := by decide +kernel
theorem dX9_known_22 : decode cX9_known 22 = .ok (.invokevirtual 90, 3) := by decide +kernel
theorem dX9_known_25 : decode cX9_known 25 = .ok (.istore_n 2, 1) := by decide +kernel
theorem dX9_known_26 : decode cX9_known 26 = .ok (.iload_n 2, 1) := by decide +kernel
theorem dX9_known_27 : decode cX9_known 27 = .ok (.ifCond .ge 9, 3) := by decide +kernel
theorem dX9_known_30 : decode cX9_known 30 = .ok (.aload_n 0, 1) := by decide +kernel
theorem dX9_known_31 : decode cX9_known 31 = .ok (.iconst 4, 1) := by decide +kernel
theorem dX9_known_32 : decode cX9_known 32 = .ok (.invokevirtual 83, 3) := by decide +kernel
theorem dX9_known_35 : decode cX9_known 35 = .ok (.pop, 1) := by decide +kernel
theorem dX9_known_36 : decode cX9_known 36 = .ok (.iload_n 2, 1) := by decide +kernel
theorem dX9_known_37 : decode cX9_known 37 = .ok (.ireturn, 1) := by decide +kernel
theorem dX9_endsLine_0 : decode cX9_endsLine 0 = .ok (.aload_n 0, 1) := by decide +kernel
theorem dX9_endsLine_1 : decode cX9_endsLine 1 = .ok (.invokevirtual 80, 3) := by decide +kernel
theorem dX9_endsLine_4 : decode cX9_endsLine 4 = .ok (.bipush 40, 2) := by decide +kernel
theorem dX9_endsLine_6 : decode cX9_endsLine 6 = .ok (.if_icmp .eq 9, 3) := by decide +kernel
theorem dX9_endsLine_9 : decode cX9_endsLine 9 = .ok (.aload_n 0, 1) := by decide +kernel
theorem dX9_endsLine_10 : decode cX9_endsLine 10 = .ok (.iconst 1, 1) := by decide +kernel
theorem dX9_endsLine_11 : decode cX9_endsLine 11 = .ok (.invokevirtual 83, 3) := by decide +kernel
theorem dX9_endsLine_14 : decode cX9_endsLine 14 = .ok (.ireturn, 1) := by decide +kernel
theorem dX9_endsLine_15 : decode cX9_endsLine 15 = .ok (.aload_n 0, 1) := by decide +kernel
theorem dX9_endsLine_16 : decode cX9_endsLine 16 = .ok (.dup, 1) := by decide +kernel
theorem dX9_endsLine_17 : decode cX9_endsLine 17 = .ok (.getfield 43, 3) := by decide +kernel
theorem dX9_endsLine_20 : decode cX9_endsLine 20 = .ok (.iconst 1, 1) := by decide +kernel
theorem dX9_endsLine_21 : decode cX9_endsLine 21 = .ok (.iadd, 1) := by decide +kernel
theorem dX9_endsLine_22 : decode cX9_endsLine 22 = .ok (.putfield 43, 3) := by decide +kernel
theorem dX9_endsLine_25 : decode cX9_endsLine 25 = .ok (.iconst 1, 1) := by decide +kernel
theorem dX9_endsLine_26 : decode cX9_endsLine 26 = .ok (.ireturn, 1) := by decide +kernel
theorem dX10_init_0 : decode cX10_init 0 = .ok (.aload_n 0, 1) := by decide +kernel
theorem dX10_init_1 : decode cX10_init 1 = .ok (.invokespecial 3, 3) := by decide +kernel
theorem dX10_init_4 : decode cX10_init 4 = .ok (.aload_n 0, 1) := by decide +kernel
theorem dX10_init_5 : decode cX10_init 5 = .ok (.sipush 700, 3) := by decide +kernel
theorem dX10_init_8 : decode cX10_init 8 = .ok (.newarray .byte, 2) := by decide +kernel
theorem dX10_init_10 : decode cX10_init 10 = .ok (.putfield 11, 3) := by decide +kernel
theorem dX10_init_13 : decode cX10_init 13 = .ok (.aload_n 0, 1) := by decide +kernel
theorem dX10_init_14 : decode cX10_init 14 = .ok (.new 15, 3) := by decide +kernel
theorem dX10_init_17 : decode cX10_init 17 = .ok (.dup, 1) := by decide +kernel
theorem dX10_init_18 : decode cX10_init 18 = .ok (.invokespecial 17, 3) := by decide +kernel
theorem dX10_init_21 : decode cX10_init 21 = .ok (.putfield 18, 3) := by decide +kernel
theorem dX10_init_24 : decode cX10_init 24 = .ok (.aload_n 0, 1) := by decide +kernel
theorem dX10_init_25 : decode cX10_init 25 = .ok (.new 22, 3) := by decide +kernel
theorem dX10_init_28 : decode cX10_init 28 = .ok (.dup, 1) := by decide +kernel
theorem dX10_init_29 : decode cX10_init 29 = .ok (.aload_n 0, 1) := by decide +kernel
theorem dX10_init_30 : decode cX10_init 30 = .ok (.getfield 18, 3) := by decide +kernel
theorem dX10_init_33 : decode cX10_init 33 = .ok (.invokespecial 24, 3) := by decide +kernel
theorem dX10_init_36 : decode cX10_init 36 = .ok (.putfield 27, 3) := by decide +kernel
theorem dX10_init_39 : decode cX10_init 39 = .ok (.aload_n 0, 1) := by decide +kernel
theorem dX10_init_40 : decode cX10_init 40 = .ok (.new 31, 3) := by decide +kernel
theorem dX10_init_43 : decode cX10_init 43 = .ok (.dup, 1) := by decide +kernel
theorem dX10_init_44 : decode cX10_init 44 = .ok (.invokespecial 33, 3) := by decide +kernel
theorem dX10_init_47 : decode cX10_init 47 = .ok (.putfield 34, 3) := by decide +kernel
theorem dX10_init_50 : decode cX10_init 50 = .ok (.aload_n 0, 1) := by decide +kernel
theorem dX10_init_51 : decode cX10_init 51 = .ok (.new 38, 3) := by decide +kernel
theorem dX10_init_54 : decode cX10_init 54 = .ok (.dup, 1) := by decide +kernel
theorem dX10_init_55 : decode cX10_init 55 = .ok (.invokespecial 40, 3) := by decide +kernel
theorem dX10_init_58 : decode cX10_init 58 = .ok (.putfield 41, 3) := by decide +kernel
theorem dX10_init_61 : decode cX10_init 61 = .ok (.aload_n 0, 1) := by decide +kernel
theorem dX10_init_62 : decode cX10_init 62 = .ok (.new 45, 3) := by decide +kernel
theorem dX10_init_65 : decode cX10_init 65 = .ok (.dup, 1) := by decide +kernel
theorem dX10_init_66 : decode cX10_init 66 = .ok (.invokespecial 47, 3) := by decide +kernel
theorem dX10_init_69 : decode cX10_init 69 = .ok (.putfield 48, 3) := by decide +kernel
theorem dX10_init_72 : decode cX10_init 72 = .ok (.aload_n 0, 1) := by decide +kernel
theorem dX10_init_73 : decode cX10_init 73 = .ok (.new 45, 3) := by decide +kernel
theorem dX10_init_76 : decode cX10_init 76 = .ok (.dup, 1) := by decide +kernel
theorem dX10_init_77 : decode cX10_init 77 = .ok (.invokespecial 47, 3) := by decide +kernel
theorem dX10_init_80 : decode cX10_init 80 = .ok (.putfield 52, 3) := by decide +kernel
theorem dX10_init_83 : decode cX10_init 83 = .ok (.aload_n 0, 1) := by decide +kernel
theorem dX10_init_84 : decode cX10_init 84 = .ok (.new 55, 3) := by decide +kernel
theorem dX10_init_87 : decode cX10_init 87 = .ok (.dup, 1) := by decide +kernel
theorem dX10_init_88 : decode cX10_init 88 = .ok (.aload_n 0, 1) := by decide +kernel
theorem dX10_init_89 : decode cX10_init 89 = .ok (.getfield 34, 3) := by decide +kernel
theorem dX10_init_92 : decode cX10_init 92 = .ok (.aload_n 0, 1) := by decide +kernel
theorem dX10_init_93 : decode cX10_init 93 = .ok (.getfield 41, 3) := by decide +kernel
theorem dX10_init_96 : decode cX10_init 96 = .ok (.aload_n 0, 1) := by decide +kernel
theorem dX10_init_97 : decode cX10_init 97 = .ok (.getfield 48, 3) := by decide +kernel
theorem dX10_init_100 : decode cX10_init 100 = .ok (.invokespecial 57, 3) := by decide +kernel
theorem dX10_init_103 : decode cX10_init 103 = .ok (.putfield 60, 3) := by decide +kernel
theorem dX10_init_106 : decode cX10_init 106 = .ok (.aload_n 0, 1) := by decide +kernel
theorem dX10_init_107 : decode cX10_init 107 = .ok (.new 64, 3) := by decide +kernel
theorem dX10_init_110 : decode cX10_init 110 = .ok (.dup, 1) := by decide +kernel
theorem dX10_init_111 : decode cX10_init 111 = .ok (.invokespecial 66, 3) := by decide +kernel
theorem dX10_init_114 : decode cX10_init 114 = .ok (.putfield 67, 3) := by decide +kernel
theorem dX10_init_117 : decode cX10_init 117 = .ok (.aload_n 0, 1) := by decide +kernel
theorem dX10_init_118 : decode cX10_init 118 = .ok (.new 64, 3) := by decide +kernel
theorem dX10_init_121 : decode cX10_init 121 = .ok (.dup, 1) := by decide +kernel
theorem dX10_init_122 : decode cX10_init 122 = .ok (.invokespecial 66, 3) := by decide +kernel
theorem dX10_init_125 : decode cX10_init 125 = .ok (.putfield 71, 3) := by decide +kernel
theorem dX10_init_128 : decode cX10_init 128 = .ok (.aload_n 0, 1) := by decide +kernel
theorem dX10_init_129 : decode cX10_init 129 = .ok (.new 64, 3) := by decide +kernel
theorem dX10_init_132 : decode cX10_init 132 = .ok (.dup, 1) := by decide +kernel
theorem dX10_init_133 : decode cX10_init 133 = .ok (.invokespecial 66, 3) := by decide +kernel
theorem dX10_init_136 : decode cX10_init 136 = .ok (.putfield 74, 3) := by decide +kernel
theorem dX10_init_139 : decode cX10_init 139 = .ok (.aload_n 0, 1) := by decide +kernel
theorem dX10_init_140 : decode cX10_init 140 = .ok (.bipush 20, 2) := by decide +kernel
theorem dX10_init_142 : decode cX10_init 142 = .ok (.anewarray 64, 3) := by decide +kernel
theorem dX10_init_145 : decode cX10_init 145 = .ok (.putfield 77, 3) := by decide +kernel
theorem dX10_init_148 : decode cX10_init 148 = .ok (.aload_n 0, 1) := by decide +kernel
theorem dX10_init_149 : decode cX10_init 149 = .ok (.getfield 67, 3) := by decide +kernel
theorem dX10_init_152 : decode cX10_init 152 = .ok (.aload_n 0, 1) := by decide +kernel
theorem dX10_init_153 : decode cX10_init 153 = .ok (.getfield 48, 3) := by decide +kernel
theorem dX10_init_156 : decode cX10_init 156 = .ok (.invokevirtual 81, 3) := by decide +kernel
theorem dX10_init_159 : decode cX10_init 159 = .ok (.return_, 1) := by decide +kernel
theorem dX10_feed_0 : decode cX10_feed 0 = .ok (.aload_n 0, 1) := by decide +kernel
theorem dX10_feed_1 : decode cX10_feed 1 = .ok (.getfield 85, 3) := by decide +kernel
theorem dX10_feed_4 : decode cX10_feed 4 = .ok (.bipush 20, 2) := by decide +kernel
theorem dX10_feed_6 : decode cX10_feed 6 = .ok (.iadd, 1) := by decide +kernel
theorem dX10_feed_7 : decode cX10_feed 7 = .ok (.sipush 700, 3) := by decide +kernel
theorem dX10_feed_10 : decode cX10_feed 10 = .ok (.if_icmp .le 5, 3) := by decide +kernel
theorem dX10_feed_13 : decode cX10_feed 13 = .ok (.iconst (-1), 1) := by decide +kernel
theorem dX10_feed_14 : decode cX10_feed 14 = .ok (.ireturn, 1) := by decide +kernel
theorem dX10_feed_15 : decode cX10_feed 15 = .ok (.aload_n 0, 1) := by decide +kernel
theorem dX10_feed_16 : decode cX10_feed 16 = .ok (.iload_n 1, 1) := by decide +kernel
theorem dX10_feed_17 : decode cX10_feed 17 = .ok (.invokevirtual 89, 3) := by decide +kernel
theorem dX10_feed_20 : decode cX10_feed 20 = .ok (.aload_n 0, 1) := by decide +kernel
theorem dX10_feed_21 : decode cX10_feed 21 = .ok (.iload_n 2, 1) := by decide +kernel
theorem dX10_feed_22 : decode cX10_feed 22 = .ok (.invokevirtual 89, 3) := by decide +kernel
theorem dX10_feed_25 : decode cX10_feed 25 = .ok (.aload_n 0, 1) := by decide +kernel
theorem dX10_feed_26 : decode cX10_feed 26 = .ok (.iload_n 3, 1) := by decide +kernel
theorem dX10_feed_27 : decode cX10_feed 27 = .ok (.invokevirtual 89, 3) := by decide +kernel
theorem dX10_feed_30 : decode cX10_feed 30 = .ok (.aload_n 0, 1) := by decide +kernel
theorem dX10_feed_31 : decode cX10_feed 31 = .ok (.iload 4, 2) := by decide +kernel
theorem dX10_feed_33 : decode cX10_feed 33 = .ok (.invokevirtual 89, 3) := by decide +kernel
theorem dX10_feed_36 : decode cX10_feed 36 = .ok (.aload_n 0, 1) := by decide +kernel
theorem dX10_feed_37 : decode cX10_feed 37 = .ok (.iload 5, 2) := by decide +kernel
theorem dX10_feed_39 : decode cX10_feed 39 = .ok (.invokevirtual 89, 3) := by decide +kernel
theorem dX10_feed_42 : decode cX10_feed 42 = .ok (.aload_n 0, 1) := by decide +kernel
theorem dX10_feed_43 : decode cX10_feed 43 = .ok (.getfield 85, 3) := by decide +kernel
theorem dX10_feed_46 : decode cX10_feed 46 = .ok (.ireturn, 1) := by decide +kernel
theorem dX10_put_0 : decode cX10_put 0 = .ok (.bipush 24, 2) := by decide +kernel
theorem dX10_put_2 : decode cX10_put 2 = .ok (.istore_n 2, 1) := by decide +kernel
theorem dX10_put_3 : decode cX10_put 3 = .ok (.iload_n 2, 1) := by decide +kernel
theorem dX10_put_4 : decode cX10_put 4 = .ok (.ifCond .lt 42, 3) := by decide +kernel
theorem dX10_put_7 : decode cX10_put 7 = .ok (.aload_n 0, 1) := by decide +kernel
theorem dX10_put_8 : decode cX10_put 8 = .ok (.getfield 85, 3) := by decide +kernel
theorem dX10_put_11 : decode cX10_put 11 = .ok (.sipush 700, 3) := by decide +kernel
theorem dX10_put_14 : decode cX10_put 14 = .ok (.if_icmp .ge 32, 3) := by decide +kernel
theorem dX10_put_17 : decode cX10_put 17 = .ok (.aload_n 0, 1) := by decide +kernel
theorem dX10_put_18 : decode cX10_put 18 = .ok (.getfield 11, 3) := by decide +kernel
theorem dX10_put_21 : decode cX10_put 21 = .ok (.aload_n 0, 1) := by decide +kernel
theorem dX10_put_22 : decode cX10_put 22 = .ok (.getfield 85, 3) := by decide +kernel
theorem dX10_put_25 : decode cX10_put 25 = .ok (.iload_n 1, 1) := by decide +kernel
theorem dX10_put_26 : decode cX10_put 26 = .ok (.iload_n 2, 1) := by decide +kernel
theorem dX10_put_27 : decode cX10_put 27 = .ok (.ishr, 1) := by decide +kernel
theorem dX10_put_28 : decode cX10_put 28 = .ok (.i2b, 1) := by decide +kernel
theorem dX10_put_29 : decode cX10_put 29 = .ok (.bastore, 1) := by decide +kernel
theorem dX10_put_30 : decode cX10_put 30 = .ok (.aload_n 0, 1) := by decide +kernel
theorem dX10_put_31 : decode cX10_put 31 = .ok (.dup, 1) := by decide +kernel
theorem dX10_put_32 : decode cX10_put 32 = .ok (.getfield 85, 3) := by decide +kernel
theorem dX10_put_35 : decode cX10_put 35 = .ok (.iconst 1, 1) := by decide +kernel
theorem dX10_put_36 : decode cX10_put 36 = .ok (.iadd, 1) := by decide +kernel
theorem dX10_put_37 : decode cX10_put 37 = .ok (.putfield 85, 3) := by decide +kernel
theorem dX10_put_40 : decode cX10_put 40 = .ok (.iinc 2 (-8), 3) := by decide +kernel
theorem dX10_put_43 : decode cX10_put 43 = .ok (.goto (-40), 3) := by decide +kernel
theorem dX10_put_46 : decode cX10_put 46 = .ok (.return_, 1) := by decide +kernel
theorem dX10_text_0 : decode cX10_text 0 = .ok (.iload_n 1, 1) := by decide +kernel
theorem dX10_text_1 : decode cX10_text 1 = .ok (.ifCond .lt 11, 3) := by decide +kernel
theorem dX10_text_4 : decode cX10_text 4 = .ok (.iload_n 1, 1) := by decide +kernel
theorem dX10_text_5 : decode cX10_text 5 = .ok (.aload_n 0, 1) := by decide +kernel
theorem dX10_text_6 : decode cX10_text 6 = .ok (.getfield 85, 3) := by decide +kernel
theorem dX10_text_9 : decode cX10_text 9 = .ok (.if_icmp .le 6, 3) := by decide +kernel
theorem dX10_text_12 : decode cX10_text 12 = .ok (.bipush (-2), 2) := by decide +kernel
theorem dX10_text_14 : decode cX10_text 14 = .ok (.ireturn, 1) := by decide +kernel
theorem dX10_text_15 : decode cX10_text 15 = .ok (.aload_n 0, 1) := by decide +kernel
theorem dX10_text_16 : decode cX10_text 16 = .ok (.getfield 18, 3) := by decide +kernel
theorem dX10_text_19 : decode cX10_text 19 = .ok (.aload_n 0, 1) := by decide +kernel
theorem dX10_text_20 : decode cX10_text 20 = .ok (.getfield 11, 3) := by decide +kernel
theorem dX10_text_23 : decode cX10_text 23 = .ok (.iload_n 1, 1) := by decide +kernel
theorem dX10_text_24 : decode cX10_text 24 = .ok (.invokevirtual 93, 3) := by decide +kernel
theorem dX10_text_27 : decode cX10_text 27 = .ok (.aload_n 0, 1) := by decide +kernel
theorem dX10_text_28 : decode cX10_text 28 = .ok (.iconst 0, 1) := by decide +kernel
theorem dX10_text_29 : decode cX10_text 29 = .ok (.putfield 85, 3) := by decide +kernel
theorem dX10_text_32 : decode cX10_text 32 = .ok (.aload_n 0, 1) := by decide +kernel
theorem dX10_text_33 : decode cX10_text 33 = .ok (.getfield 27, 3) := by decide +kernel
theorem dX10_text_36 : decode cX10_text 36 = .ok (.aload_n 0, 1) := by decide +kernel
theorem dX10_text_37 : decode cX10_text 37 = .ok (.getfield 52, 3) := by decide +kernel
theorem dX10_text_40 : decode cX10_text 40 = .ok (.invokevirtual 97, 3) := by decide +kernel
theorem dX10_text_43 : decode cX10_text 43 = .ok (.istore_n 2, 1) := by decide +kernel
theorem dX10_text_44 : decode cX10_text 44 = .ok (.iload_n 2, 1) := by decide +kernel
theorem dX10_text_45 : decode cX10_text 45 = .ok (.ifCond .ge 5, 3) := by decide +kernel
theorem dX10_text_48 : decode cX10_text 48 = .ok (.iconst (-1), 1) := by decide +kernel
theorem dX10_text_49 : decode cX10_text 49 = .ok (.ireturn, 1) := by decide +kernel
theorem dX10_text_50 : decode cX10_text 50 = .ok (.aload_n 0, 1) := by decide +kernel
theorem dX10_text_51 : decode cX10_text 51 = .ok (.getfield 48, 3) := by decide +kernel
theorem dX10_text_54 : decode cX10_text 54 = .ok (.astore_n 3, 1) := by decide +kernel
theorem dX10_text_55 : decode cX10_text 55 = .ok (.aload_n 0, 1) := by decide +kernel
theorem dX10_text_56 : decode cX10_text 56 = .ok (.aload_n 0, 1) := by decide +kernel
theorem dX10_text_57 : decode cX10_text 57 = .ok (.getfield 52, 3) := by decide +kernel
theorem dX10_text_60 : decode cX10_text 60 = .ok (.putfield 48, 3) := by decide +kernel
theorem dX10_text_63 : decode cX10_text 63 = .ok (.aload_n 0, 1) := by decide +kernel
theorem dX10_text_64 : decode cX10_text 64 = .ok (.aload_n 3, 1) := by decide +kernel
theorem dX10_text_65 : decode cX10_text 65 = .ok (.putfield 52, 3) := by decide +kernel
theorem dX10_text_68 : decode cX10_text 68 = .ok (.aload_n 0, 1) := by decide +kernel
theorem dX10_text_69 : decode cX10_text 69 = .ok (.getfield 67, 3) := by decide +kernel
theorem dX10_text_72 : decode cX10_text 72 = .ok (.aload_n 0, 1) := by decide +kernel
theorem dX10_text_73 : decode cX10_text 73 = .ok (.getfield 48, 3) := by decide +kernel
theorem dX10_text_76 : decode cX10_text 76 = .ok (.invokevirtual 81, 3) := by decide +kernel
theorem dX10_text_79 : decode cX10_text 79 = .ok (.aload_n 0, 1) := by decide +kernel
theorem dX10_text_80 : decode cX10_text 80 = .ok (.iconst 0, 1) := by decide +kernel
theorem dX10_text_81 : decode cX10_text 81 = .ok (.putfield 101, 3) := by decide +kernel
theorem dX10_text_84 : decode cX10_text 84 = .ok (.aload_n 0, 1) := by decide +kernel
theorem dX10_text_85 : decode cX10_text 85 = .ok (.iconst 0, 1) := by decide +kernel
theorem dX10_text_86 : decode cX10_text 86 = .ok (.putfield 105, 3) := by decide +kernel
theorem dX10_text_89 : decode cX10_text 89 = .ok (.iload_n 2, 1) := by decide +kernel
theorem dX10_text_90 : decode cX10_text 90 = .ok (.ireturn, 1) := by decide +kernel
theorem dX10_fault_0 : decode cX10_fault 0 = .ok (.iload_n 1, 1) := by decide +kernel
theorem dX10_fault_1 : decode cX10_fault 1 = .ok (.ifCond .ne 11, 3) := by decide +kernel
theorem dX10_fault_4 : decode cX10_fault 4 = .ok (.aload_n 0, 1) := by decide +kernel
theorem dX10_fault_5 : decode cX10_fault 5 = .ok (.getfield 18, 3) := by decide +kernel
theorem dX10_fault_8 : decode cX10_fault 8 = .ok (.getfield 108, 3) := by decide +kernel
theorem dX10_fault_11 : decode cX10_fault 11 = .ok (.ireturn, 1) := by decide +kernel
theorem dX10_fault_12 : decode cX10_fault 12 = .ok (.iload_n 1, 1) := by decide +kernel
theorem dX10_fault_13 : decode cX10_fault 13 = .ok (.iconst 1, 1) := by decide +kernel
theorem dX10_fault_14 : decode cX10_fault 14 = .ok (.if_icmp .ne 13, 3) := by decide +kernel
theorem dX10_fault_17 : decode cX10_fault 17 = .ok (.aload_n 0, 1) := by decide +kernel
theorem dX10_fault_18 : decode cX10_fault 18 = .ok (.getfield 18, 3) := by decide +kernel
theorem dX10_fault_21 : decode cX10_fault 21 = .ok (.getfield 111, 3) := by decide +kernel
theorem dX10_fault_24 : decode cX10_fault 24 = .ok (.goto 4, 3) := by decide +kernel
theorem dX10_fault_27 : decode cX10_fault 27 = .ok (.iconst (-1), 1) := by decide +kernel
theorem dX10_fault_28 : decode cX10_fault 28 = .ok (.ireturn, 1) := by decide +kernel
theorem dX10_named_0 : decode cX10_named 0 = .ok (.iload_n 1, 1) := by decide +kernel
theorem dX10_named_1 : decode cX10_named 1 = .ok (.tableswitch 63 0 2 #[27, 39, 51], 27) := by decide +kernel
theorem dX10_named_28 : decode cX10_named 28 = .ok (.aload_n 0, 1) := by decide +kernel
theorem dX10_named_29 : decode cX10_named 29 = .ok (.getfield 48, 3) := by decide +kernel
theorem dX10_named_32 : decode cX10_named 32 = .ok (.getfield 114, 3) := by decide +kernel
theorem dX10_named_35 : decode cX10_named 35 = .ok (.iload_n 2, 1) := by decide +kernel
theorem dX10_named_36 : decode cX10_named 36 = .ok (.invokevirtual 118, 3) := by decide +kernel
theorem dX10_named_39 : decode cX10_named 39 = .ok (.ireturn, 1) := by decide +kernel
theorem dX10_named_40 : decode cX10_named 40 = .ok (.aload_n 0, 1) := by decide +kernel
theorem dX10_named_41 : decode cX10_named 41 = .ok (.getfield 48, 3) := by decide +kernel
theorem dX10_named_44 : decode cX10_named 44 = .ok (.getfield 124, 3) := by decide +kernel
theorem dX10_named_47 : decode cX10_named 47 = .ok (.iload_n 2, 1) := by decide +kernel
theorem dX10_named_48 : decode cX10_named 48 = .ok (.invokevirtual 118, 3) := by decide +kernel
theorem dX10_named_51 : decode cX10_named 51 = .ok (.ireturn, 1) := by decide +kernel
theorem dX10_named_52 : decode cX10_named 52 = .ok (.aload_n 0, 1) := by decide +kernel
theorem dX10_named_53 : decode cX10_named 53 = .ok (.getfield 48, 3) := by decide +kernel
theorem dX10_named_56 : decode cX10_named 56 = .ok (.getfield 127, 3) := by decide +kernel
theorem dX10_named_59 : decode cX10_named 59 = .ok (.iload_n 2, 1) := by decide +kernel
theorem dX10_named_60 : decode cX10_named 60 = .ok (.invokevirtual 118, 3) := by decide +kernel
theorem dX10_named_63 : decode cX10_named 63 = .ok (.ireturn, 1) := by decide +kernel
theorem dX10_named_64 : decode cX10_named 64 = .ok (.iconst (-1), 1) := by decide +kernel
theorem dX10_named_65 : decode cX10_named 65 = .ok (.ireturn, 1) := by decide +kernel
theorem dX10_isPerson_0 : decode cX10_isPerson 0 = .ok (.aload_n 0, 1) := by decide +kernel
theorem dX10_isPerson_1 : decode cX10_isPerson 1 = .ok (.getfield 48, 3) := by decide +kernel
theorem dX10_isPerson_4 : decode cX10_isPerson 4 = .ok (.getfield 124, 3) := by decide +kernel
theorem dX10_isPerson_7 : decode cX10_isPerson 7 = .ok (.iload_n 1, 1) := by decide +kernel
theorem dX10_isPerson_8 : decode cX10_isPerson 8 = .ok (.invokevirtual 130, 3) := by decide +kernel
theorem dX10_isPerson_11 : decode cX10_isPerson 11 = .ok (.ireturn, 1) := by decide +kernel
theorem dX10_areTwo_0 : decode cX10_areTwo 0 = .ok (.aload_n 0, 1) := by decide +kernel
theorem dX10_areTwo_1 : decode cX10_areTwo 1 = .ok (.iload_n 1, 1) := by decide +kernel
theorem dX10_areTwo_2 : decode cX10_areTwo 2 = .ok (.invokevirtual 134, 3) := by decide +kernel
theorem dX10_areTwo_5 : decode cX10_areTwo 5 = .ok (.ifCond .eq 20, 3) := by decide +kernel
theorem dX10_areTwo_8 : decode cX10_areTwo 8 = .ok (.aload_n 0, 1) := by decide +kernel
theorem dX10_areTwo_9 : decode cX10_areTwo 9 = .ok (.iload_n 2, 1) := by decide +kernel
theorem dX10_areTwo_10 : decode cX10_areTwo 10 = .ok (.invokevirtual 134, 3) := by decide +kernel
theorem dX10_areTwo_13 : decode cX10_areTwo 13 = .ok (.ifCond .eq 12, 3) := by decide +kernel
theorem dX10_areTwo_16 : decode cX10_areTwo 16 = .ok (.iload_n 1, 1) := by decide +kernel
theorem dX10_areTwo_17 : decode cX10_areTwo 17 = .ok (.iload_n 2, 1) := by decide +kernel
theorem dX10_areTwo_18 : decode cX10_areTwo 18 = .ok (.if_icmp .eq 7, 3) := by decide +kernel
theorem dX10_areTwo_21 : decode cX10_areTwo 21 = .ok (.iconst 1, 1) := by decide +kernel
theorem dX10_areTwo_22 : decode cX10_areTwo 22 = .ok (.goto 4, 3) := by decide +kernel
theorem dX10_areTwo_25 : decode cX10_areTwo 25 = .ok (.iconst 0, 1) := by decide +kernel
theorem dX10_areTwo_26 : decode cX10_areTwo 26 = .ok (.ireturn, 1) := by decide +kernel
theorem dX10_isFact_0 : decode cX10_isFact 0 = .ok (.aload_n 0, 1) := by decide +kernel
theorem dX10_isFact_1 : decode cX10_isFact 1 = .ok (.getfield 48, 3) := by decide +kernel
theorem dX10_isFact_4 : decode cX10_isFact 4 = .ok (.getfield 127, 3) := by decide +kernel
theorem dX10_isFact_7 : decode cX10_isFact 7 = .ok (.iload_n 1, 1) := by decide +kernel
theorem dX10_isFact_8 : decode cX10_isFact 8 = .ok (.invokevirtual 130, 3) := by decide +kernel
theorem dX10_isFact_11 : decode cX10_isFact 11 = .ok (.ireturn, 1) := by decide +kernel
theorem dX10_person_0 : decode cX10_person 0 = .ok (.aload_n 0, 1) := by decide +kernel
theorem dX10_person_1 : decode cX10_person 1 = .ok (.iload_n 1, 1) := by decide +kernel
theorem dX10_person_2 : decode cX10_person 2 = .ok (.invokevirtual 134, 3) := by decide +kernel
theorem dX10_person_5 : decode cX10_person 5 = .ok (.ifCond .ne 11, 3) := by decide +kernel
theorem dX10_person_8 : decode cX10_person 8 = .ok (.new 137, 3) := by decide +kernel
theorem dX10_person_11 : decode cX10_person 11 = .ok (.dup, 1) := by decide +kernel
theorem dX10_person_12 : decode cX10_person 12 = .ok (.invokespecial 139, 3) := by decide +kernel
theorem dX10_person_15 : decode cX10_person 15 = .ok (.athrow, 1) := by decide +kernel
theorem dX10_person_16 : decode cX10_person 16 = .ok (.iload_n 2, 1) := by decide +kernel
theorem dX10_person_17 : decode cX10_person 17 = .ok (.tableswitch 100 0 5 #[39, 49, 59, 71, 81, 91], 39) := by decide +kernel
theorem dX10_person_56 : decode cX10_person 56 = .ok (.aload_n 0, 1) := by decide +kernel
theorem dX10_person_57 : decode cX10_person 57 = .ok (.getfield 48, 3) := by decide +kernel
theorem dX10_person_60 : decode cX10_person 60 = .ok (.getfield 140, 3) := by decide +kernel
theorem dX10_person_63 : decode cX10_person 63 = .ok (.iload_n 1, 1) := by decide +kernel
theorem dX10_person_64 : decode cX10_person 64 = .ok (.iaload, 1) := by decide +kernel
theorem dX10_person_65 : decode cX10_person 65 = .ok (.ireturn, 1) := by decide +kernel
theorem dX10_person_66 : decode cX10_person 66 = .ok (.aload_n 0, 1) := by decide +kernel
theorem dX10_person_67 : decode cX10_person 67 = .ok (.getfield 67, 3) := by decide +kernel
theorem dX10_person_70 : decode cX10_person 70 = .ok (.getfield 144, 3) := by decide +kernel
theorem dX10_person_73 : decode cX10_person 73 = .ok (.iload_n 1, 1) := by decide +kernel
theorem dX10_person_74 : decode cX10_person 74 = .ok (.iaload, 1) := by decide +kernel
theorem dX10_person_75 : decode cX10_person 75 = .ok (.ireturn, 1) := by decide +kernel
theorem dX10_person_76 : decode cX10_person 76 = .ok (.aload_n 0, 1) := by decide +kernel
theorem dX10_person_77 : decode cX10_person 77 = .ok (.getfield 67, 3) := by decide +kernel
theorem dX10_person_80 : decode cX10_person 80 = .ok (.getfield 147, 3) := by decide +kernel
theorem dX10_person_83 : decode cX10_person 83 = .ok (.iload_n 1, 1) := by decide +kernel
theorem dX10_person_84 : decode cX10_person 84 = .ok (.ishr, 1) := by decide +kernel
theorem dX10_person_85 : decode cX10_person 85 = .ok (.iconst 1, 1) := by decide +kernel
theorem dX10_person_86 : decode cX10_person 86 = .ok (.iand, 1) := by decide +kernel
theorem dX10_person_87 : decode cX10_person 87 = .ok (.ireturn, 1) := by decide +kernel
theorem dX10_person_88 : decode cX10_person 88 = .ok (.aload_n 0, 1) := by decide +kernel
theorem dX10_person_89 : decode cX10_person 89 = .ok (.getfield 67, 3) := by decide +kernel
theorem dX10_person_92 : decode cX10_person 92 = .ok (.getfield 150, 3) := by decide +kernel
theorem dX10_person_95 : decode cX10_person 95 = .ok (.iload_n 1, 1) := by decide +kernel
theorem dX10_person_96 : decode cX10_person 96 = .ok (.iaload, 1) := by decide +kernel
theorem dX10_person_97 : decode cX10_person 97 = .ok (.ireturn, 1) := by decide +kernel
theorem dX10_person_98 : decode cX10_person 98 = .ok (.aload_n 0, 1) := by decide +kernel
theorem dX10_person_99 : decode cX10_person 99 = .ok (.getfield 67, 3) := by decide +kernel
theorem dX10_person_102 : decode cX10_person 102 = .ok (.iload_n 1, 1) := by decide +kernel
theorem dX10_person_103 : decode cX10_person 103 = .ok (.iload_n 1, 1) := by decide +kernel
theorem dX10_person_104 : decode cX10_person 104 = .ok (.invokevirtual 153, 3) := by decide +kernel
theorem dX10_person_107 : decode cX10_person 107 = .ok (.ireturn, 1) := by decide +kernel
theorem dX10_person_108 : decode cX10_person 108 = .ok (.aload_n 0, 1) := by decide +kernel
theorem dX10_person_109 : decode cX10_person 109 = .ok (.getfield 67, 3) := by decide +kernel
theorem dX10_person_112 : decode cX10_person 112 = .ok (.iload_n 1, 1) := by decide +kernel
theorem dX10_person_113 : decode cX10_person 113 = .ok (.invokevirtual 157, 3) := by decide +kernel
theorem dX10_person_116 : decode cX10_person 116 = .ok (.ireturn, 1) := by decide +kernel
theorem dX10_person_117 : decode cX10_person 117 = .ok (.new 160, 3) := by decide +kernel
theorem dX10_person_120 : decode cX10_person 120 = .ok (.dup, 1) := by decide +kernel
theorem dX10_person_121 : decode cX10_person 121 = .ok (.invokespecial 162, 3) := by decide +kernel
theorem dX10_person_124 : decode cX10_person 124 = .ok (.athrow, 1) := by decide +kernel
theorem dX10_own_0 : decode cX10_own 0 = .ok (.aload_n 0, 1) := by decide +kernel
theorem dX10_own_1 : decode cX10_own 1 = .ok (.iload_n 1, 1) := by decide +kernel
theorem dX10_own_2 : decode cX10_own 2 = .ok (.invokevirtual 134, 3) := by decide +kernel
theorem dX10_own_5 : decode cX10_own 5 = .ok (.ifCond .ne 5, 3) := by decide +kernel
theorem dX10_own_8 : decode cX10_own 8 = .ok (.iconst (-1), 1) := by decide +kernel
theorem dX10_own_9 : decode cX10_own 9 = .ok (.ireturn, 1) := by decide +kernel
theorem dX10_own_10 : decode cX10_own 10 = .ok (.aload_n 0, 1) := by decide +kernel
theorem dX10_own_11 : decode cX10_own 11 = .ok (.getfield 67, 3) := by decide +kernel
theorem dX10_own_14 : decode cX10_own 14 = .ok (.iload_n 1, 1) := by decide +kernel
theorem dX10_own_15 : decode cX10_own 15 = .ok (.iload_n 1, 1) := by decide +kernel
theorem dX10_own_16 : decode cX10_own 16 = .ok (.invokevirtual 163, 3) := by decide +kernel
theorem dX10_own_19 : decode cX10_own 19 = .ok (.ifCond .eq 15, 3) := by decide +kernel
theorem dX10_own_22 : decode cX10_own 22 = .ok (.aload_n 0, 1) := by decide +kernel
theorem dX10_own_23 : decode cX10_own 23 = .ok (.getfield 48, 3) := by decide +kernel
theorem dX10_own_26 : decode cX10_own 26 = .ok (.getfield 140, 3) := by decide +kernel
theorem dX10_own_29 : decode cX10_own 29 = .ok (.iload_n 1, 1) := by decide +kernel
theorem dX10_own_30 : decode cX10_own 30 = .ok (.iaload, 1) := by decide +kernel
theorem dX10_own_31 : decode cX10_own 31 = .ok (.goto 5, 3) := by decide +kernel
theorem dX10_own_34 : decode cX10_own 34 = .ok (.bipush (-2), 2) := by decide +kernel
theorem dX10_own_36 : decode cX10_own 36 = .ok (.ireturn, 1) := by decide +kernel
theorem dX10_world_0 : decode cX10_world 0 = .ok (.iload_n 1, 1) := by decide +kernel
theorem dX10_world_1 : decode cX10_world 1 = .ok (.ifCond .lt 11, 3) := by decide +kernel
theorem dX10_world_4 : decode cX10_world 4 = .ok (.aload_n 0, 1) := by decide +kernel
theorem dX10_world_5 : decode cX10_world 5 = .ok (.iload_n 2, 1) := by decide +kernel
theorem dX10_world_6 : decode cX10_world 6 = .ok (.invokevirtual 134, 3) := by decide +kernel
theorem dX10_world_9 : decode cX10_world 9 = .ok (.ifCond .ne 5, 3) := by decide +kernel
theorem dX10_world_12 : decode cX10_world 12 = .ok (.iconst (-1), 1) := by decide +kernel
theorem dX10_world_13 : decode cX10_world 13 = .ok (.ireturn, 1) := by decide +kernel
theorem dX10_world_14 : decode cX10_world 14 = .ok (.iload_n 1, 1) := by decide +kernel
theorem dX10_world_15 : decode cX10_world 15 = .ok (.aload_n 0, 1) := by decide +kernel
theorem dX10_world_16 : decode cX10_world 16 = .ok (.getfield 67, 3) := by decide +kernel
theorem dX10_world_19 : decode cX10_world 19 = .ok (.getfield 167, 3) := by decide +kernel
theorem dX10_world_22 : decode cX10_world 22 = .ok (.if_icmp .ge 19, 3) := by decide +kernel
theorem dX10_world_25 : decode cX10_world 25 = .ok (.aload_n 0, 1) := by decide +kernel
theorem dX10_world_26 : decode cX10_world 26 = .ok (.getfield 67, 3) := by decide +kernel
theorem dX10_world_29 : decode cX10_world 29 = .ok (.getfield 170, 3) := by decide +kernel
theorem dX10_world_32 : decode cX10_world 32 = .ok (.iload_n 1, 1) := by decide +kernel
theorem dX10_world_33 : decode cX10_world 33 = .ok (.iaload, 1) := by decide +kernel
theorem dX10_world_34 : decode cX10_world 34 = .ok (.iload_n 2, 1) := by decide +kernel
theorem dX10_world_35 : decode cX10_world 35 = .ok (.invokestatic 173, 3) := by decide +kernel
theorem dX10_world_38 : decode cX10_world 38 = .ok (.goto 5, 3) := by decide +kernel
theorem dX10_world_41 : decode cX10_world 41 = .ok (.bipush (-2), 2) := by decide +kernel
theorem dX10_world_43 : decode cX10_world 43 = .ok (.ireturn, 1) := by decide +kernel
theorem dX10_real_0 : decode cX10_real 0 = .ok (.aload_n 0, 1) := by decide +kernel
theorem dX10_real_1 : decode cX10_real 1 = .ok (.getfield 67, 3) := by decide +kernel
theorem dX10_real_4 : decode cX10_real 4 = .ok (.getfield 176, 3) := by decide +kernel
theorem dX10_real_7 : decode cX10_real 7 = .ok (.ireturn, 1) := by decide +kernel
theorem dX10_is_0 : decode cX10_is 0 = .ok (.aload_n 0, 1) := by decide +kernel
theorem dX10_is_1 : decode cX10_is 1 = .ok (.iload_n 1, 1) := by decide +kernel
theorem dX10_is_2 : decode cX10_is 2 = .ok (.invokevirtual 179, 3) := by decide +kernel
theorem dX10_is_5 : decode cX10_is 5 = .ok (.ifCond .ne 5, 3) := by decide +kernel
theorem dX10_is_8 : decode cX10_is 8 = .ok (.iconst (-1), 1) := by decide +kernel
theorem dX10_is_9 : decode cX10_is 9 = .ok (.ireturn, 1) := by decide +kernel
theorem dX10_is_10 : decode cX10_is 10 = .ok (.aload_n 0, 1) := by decide +kernel
theorem dX10_is_11 : decode cX10_is 11 = .ok (.getfield 34, 3) := by decide +kernel
theorem dX10_is_14 : decode cX10_is 14 = .ok (.aload_n 0, 1) := by decide +kernel
theorem dX10_is_15 : decode cX10_is 15 = .ok (.getfield 48, 3) := by decide +kernel
theorem dX10_is_18 : decode cX10_is 18 = .ok (.aload_n 0, 1) := by decide +kernel
theorem dX10_is_19 : decode cX10_is 19 = .ok (.getfield 67, 3) := by decide +kernel
theorem dX10_is_22 : decode cX10_is 22 = .ok (.aload_n 0, 1) := by decide +kernel
theorem dX10_is_23 : decode cX10_is 23 = .ok (.getfield 48, 3) := by decide +kernel
theorem dX10_is_26 : decode cX10_is 26 = .ok (.getfield 182, 3) := by decide +kernel
theorem dX10_is_29 : decode cX10_is 29 = .ok (.iload_n 1, 1) := by decide +kernel
theorem dX10_is_30 : decode cX10_is 30 = .ok (.laload, 1) := by decide +kernel
theorem dX10_is_31 : decode cX10_is 31 = .ok (.invokevirtual 186, 3) := by decide +kernel
theorem dX10_is_34 : decode cX10_is 34 = .ok (.aload_n 0, 1) := by decide +kernel
theorem dX10_is_35 : decode cX10_is 35 = .ok (.getfield 34, 3) := by decide +kernel
theorem dX10_is_38 : decode cX10_is 38 = .ok (.aload_n 0, 1) := by decide +kernel
theorem dX10_is_39 : decode cX10_is 39 = .ok (.getfield 67, 3) := by decide +kernel
theorem dX10_is_42 : decode cX10_is 42 = .ok (.getfield 176, 3) := by decide +kernel
theorem dX10_is_45 : decode cX10_is 45 = .ok (.aload_n 0, 1) := by decide +kernel
theorem dX10_is_46 : decode cX10_is 46 = .ok (.getfield 48, 3) := by decide +kernel
theorem dX10_is_49 : decode cX10_is 49 = .ok (.getfield 190, 3) := by decide +kernel
theorem dX10_is_52 : decode cX10_is 52 = .ok (.iload_n 1, 1) := by decide +kernel
theorem dX10_is_53 : decode cX10_is 53 = .ok (.iaload, 1) := by decide +kernel
theorem dX10_is_54 : decode cX10_is 54 = .ok (.invokevirtual 193, 3) := by decide +kernel
theorem dX10_is_57 : decode cX10_is 57 = .ok (.ireturn, 1) := by decide +kernel
theorem dX10_sure_0 : decode cX10_sure 0 = .ok (.aload_n 0, 1) := by decide +kernel
theorem dX10_sure_1 : decode cX10_sure 1 = .ok (.iload_n 1, 1) := by decide +kernel
theorem dX10_sure_2 : decode cX10_sure 2 = .ok (.invokevirtual 134, 3) := by decide +kernel
theorem dX10_sure_5 : decode cX10_sure 5 = .ok (.ifCond .eq 11, 3) := by decide +kernel
theorem dX10_sure_8 : decode cX10_sure 8 = .ok (.aload_n 0, 1) := by decide +kernel
theorem dX10_sure_9 : decode cX10_sure 9 = .ok (.iload_n 2, 1) := by decide +kernel
theorem dX10_sure_10 : decode cX10_sure 10 = .ok (.invokevirtual 179, 3) := by decide +kernel
theorem dX10_sure_13 : decode cX10_sure 13 = .ok (.ifCond .ne 5, 3) := by decide +kernel
theorem dX10_sure_16 : decode cX10_sure 16 = .ok (.iconst (-1), 1) := by decide +kernel
theorem dX10_sure_17 : decode cX10_sure 17 = .ok (.ireturn, 1) := by decide +kernel
theorem dX10_sure_18 : decode cX10_sure 18 = .ok (.aload_n 0, 1) := by decide +kernel
theorem dX10_sure_19 : decode cX10_sure 19 = .ok (.getfield 34, 3) := by decide +kernel
theorem dX10_sure_22 : decode cX10_sure 22 = .ok (.aload_n 0, 1) := by decide +kernel
theorem dX10_sure_23 : decode cX10_sure 23 = .ok (.getfield 48, 3) := by decide +kernel
theorem dX10_sure_26 : decode cX10_sure 26 = .ok (.aload_n 0, 1) := by decide +kernel
theorem dX10_sure_27 : decode cX10_sure 27 = .ok (.getfield 67, 3) := by decide +kernel
theorem dX10_sure_30 : decode cX10_sure 30 = .ok (.aload_n 0, 1) := by decide +kernel
theorem dX10_sure_31 : decode cX10_sure 31 = .ok (.getfield 48, 3) := by decide +kernel
theorem dX10_sure_34 : decode cX10_sure 34 = .ok (.getfield 182, 3) := by decide +kernel
theorem dX10_sure_37 : decode cX10_sure 37 = .ok (.iload_n 2, 1) := by decide +kernel
theorem dX10_sure_38 : decode cX10_sure 38 = .ok (.laload, 1) := by decide +kernel
theorem dX10_sure_39 : decode cX10_sure 39 = .ok (.invokevirtual 186, 3) := by decide +kernel
theorem dX10_sure_42 : decode cX10_sure 42 = .ok (.aload_n 0, 1) := by decide +kernel
theorem dX10_sure_43 : decode cX10_sure 43 = .ok (.getfield 34, 3) := by decide +kernel
theorem dX10_sure_46 : decode cX10_sure 46 = .ok (.aload_n 0, 1) := by decide +kernel
theorem dX10_sure_47 : decode cX10_sure 47 = .ok (.getfield 67, 3) := by decide +kernel
theorem dX10_sure_50 : decode cX10_sure 50 = .ok (.iload_n 1, 1) := by decide +kernel
theorem dX10_sure_51 : decode cX10_sure 51 = .ok (.aload_n 0, 1) := by decide +kernel
theorem dX10_sure_52 : decode cX10_sure 52 = .ok (.getfield 48, 3) := by decide +kernel
theorem dX10_sure_55 : decode cX10_sure 55 = .ok (.getfield 190, 3) := by decide +kernel
theorem dX10_sure_58 : decode cX10_sure 58 = .ok (.iload_n 2, 1) := by decide +kernel
theorem dX10_sure_59 : decode cX10_sure 59 = .ok (.iaload, 1) := by decide +kernel
theorem dX10_sure_60 : decode cX10_sure 60 = .ok (.invokevirtual 196, 3) := by decide +kernel
theorem dX10_sure_63 : decode cX10_sure 63 = .ok (.ireturn, 1) := by decide +kernel
theorem dX10_common_0 : decode cX10_common 0 = .ok (.aload_n 0, 1) := by decide +kernel
theorem dX10_common_1 : decode cX10_common 1 = .ok (.iload_n 1, 1) := by decide +kernel
theorem dX10_common_2 : decode cX10_common 2 = .ok (.invokevirtual 179, 3) := by decide +kernel
theorem dX10_common_5 : decode cX10_common 5 = .ok (.ifCond .ne 5, 3) := by decide +kernel
theorem dX10_common_8 : decode cX10_common 8 = .ok (.iconst (-1), 1) := by decide +kernel
theorem dX10_common_9 : decode cX10_common 9 = .ok (.ireturn, 1) := by decide +kernel
theorem dX10_common_10 : decode cX10_common 10 = .ok (.aload_n 0, 1) := by decide +kernel
theorem dX10_common_11 : decode cX10_common 11 = .ok (.getfield 34, 3) := by decide +kernel
theorem dX10_common_14 : decode cX10_common 14 = .ok (.aload_n 0, 1) := by decide +kernel
theorem dX10_common_15 : decode cX10_common 15 = .ok (.getfield 48, 3) := by decide +kernel
theorem dX10_common_18 : decode cX10_common 18 = .ok (.aload_n 0, 1) := by decide +kernel
theorem dX10_common_19 : decode cX10_common 19 = .ok (.getfield 67, 3) := by decide +kernel
theorem dX10_common_22 : decode cX10_common 22 = .ok (.aload_n 0, 1) := by decide +kernel
theorem dX10_common_23 : decode cX10_common 23 = .ok (.getfield 48, 3) := by decide +kernel
theorem dX10_common_26 : decode cX10_common 26 = .ok (.getfield 182, 3) := by decide +kernel
theorem dX10_common_29 : decode cX10_common 29 = .ok (.iload_n 1, 1) := by decide +kernel
theorem dX10_common_30 : decode cX10_common 30 = .ok (.laload, 1) := by decide +kernel
theorem dX10_common_31 : decode cX10_common 31 = .ok (.invokevirtual 186, 3) := by decide +kernel
theorem dX10_common_34 : decode cX10_common 34 = .ok (.aload_n 0, 1) := by decide +kernel
theorem dX10_common_35 : decode cX10_common 35 = .ok (.getfield 34, 3) := by decide +kernel
theorem dX10_common_38 : decode cX10_common 38 = .ok (.aload_n 0, 1) := by decide +kernel
theorem dX10_common_39 : decode cX10_common 39 = .ok (.getfield 67, 3) := by decide +kernel
theorem dX10_common_42 : decode cX10_common 42 = .ok (.aload_n 0, 1) := by decide +kernel
theorem dX10_common_43 : decode cX10_common 43 = .ok (.getfield 48, 3) := by decide +kernel
theorem dX10_common_46 : decode cX10_common 46 = .ok (.getfield 190, 3) := by decide +kernel
theorem dX10_common_49 : decode cX10_common 49 = .ok (.iload_n 1, 1) := by decide +kernel
theorem dX10_common_50 : decode cX10_common 50 = .ok (.iaload, 1) := by decide +kernel
theorem dX10_common_51 : decode cX10_common 51 = .ok (.invokevirtual 200, 3) := by decide +kernel
theorem dX10_common_54 : decode cX10_common 54 = .ok (.aload_n 0, 1) := by decide +kernel
theorem dX10_common_55 : decode cX10_common 55 = .ok (.getfield 34, 3) := by decide +kernel
theorem dX10_common_58 : decode cX10_common 58 = .ok (.aload_n 0, 1) := by decide +kernel
theorem dX10_common_59 : decode cX10_common 59 = .ok (.getfield 67, 3) := by decide +kernel
theorem dX10_common_62 : decode cX10_common 62 = .ok (.iconst 0, 1) := by decide +kernel
theorem dX10_common_63 : decode cX10_common 63 = .ok (.iconst 1, 1) := by decide +kernel
theorem dX10_common_64 : decode cX10_common 64 = .ok (.invokevirtual 204, 3) := by decide +kernel
theorem dX10_common_67 : decode cX10_common 67 = .ok (.aload_n 0, 1) := by decide +kernel
theorem dX10_common_68 : decode cX10_common 68 = .ok (.getfield 34, 3) := by decide +kernel
theorem dX10_common_71 : decode cX10_common 71 = .ok (.aload_n 0, 1) := by decide +kernel
theorem dX10_common_72 : decode cX10_common 72 = .ok (.getfield 67, 3) := by decide +kernel
theorem dX10_common_75 : decode cX10_common 75 = .ok (.getfield 176, 3) := by decide +kernel
theorem dX10_common_78 : decode cX10_common 78 = .ok (.iconst 1, 1) := by decide +kernel
theorem dX10_common_79 : decode cX10_common 79 = .ok (.invokevirtual 193, 3) := by decide +kernel
theorem dX10_common_82 : decode cX10_common 82 = .ok (.ireturn, 1) := by decide +kernel
theorem dX10_depth_0 : decode cX10_depth 0 = .ok (.aload_n 0, 1) := by decide +kernel
theorem dX10_depth_1 : decode cX10_depth 1 = .ok (.iload_n 1, 1) := by decide +kernel
theorem dX10_depth_2 : decode cX10_depth 2 = .ok (.invokevirtual 179, 3) := by decide +kernel
theorem dX10_depth_5 : decode cX10_depth 5 = .ok (.ifCond .ne 5, 3) := by decide +kernel
theorem dX10_depth_8 : decode cX10_depth 8 = .ok (.iconst (-1), 1) := by decide +kernel
theorem dX10_depth_9 : decode cX10_depth 9 = .ok (.ireturn, 1) := by decide +kernel
theorem dX10_depth_10 : decode cX10_depth 10 = .ok (.aload_n 0, 1) := by decide +kernel
theorem dX10_depth_11 : decode cX10_depth 11 = .ok (.getfield 34, 3) := by decide +kernel
theorem dX10_depth_14 : decode cX10_depth 14 = .ok (.aload_n 0, 1) := by decide +kernel
theorem dX10_depth_15 : decode cX10_depth 15 = .ok (.getfield 48, 3) := by decide +kernel
theorem dX10_depth_18 : decode cX10_depth 18 = .ok (.aload_n 0, 1) := by decide +kernel
theorem dX10_depth_19 : decode cX10_depth 19 = .ok (.getfield 67, 3) := by decide +kernel
theorem dX10_depth_22 : decode cX10_depth 22 = .ok (.aload_n 0, 1) := by decide +kernel
theorem dX10_depth_23 : decode cX10_depth 23 = .ok (.getfield 48, 3) := by decide +kernel
theorem dX10_depth_26 : decode cX10_depth 26 = .ok (.getfield 182, 3) := by decide +kernel
theorem dX10_depth_29 : decode cX10_depth 29 = .ok (.iload_n 1, 1) := by decide +kernel
theorem dX10_depth_30 : decode cX10_depth 30 = .ok (.laload, 1) := by decide +kernel
theorem dX10_depth_31 : decode cX10_depth 31 = .ok (.invokevirtual 186, 3) := by decide +kernel
theorem dX10_depth_34 : decode cX10_depth 34 = .ok (.aload_n 0, 1) := by decide +kernel
theorem dX10_depth_35 : decode cX10_depth 35 = .ok (.getfield 34, 3) := by decide +kernel
theorem dX10_depth_38 : decode cX10_depth 38 = .ok (.aload_n 0, 1) := by decide +kernel
theorem dX10_depth_39 : decode cX10_depth 39 = .ok (.getfield 67, 3) := by decide +kernel
theorem dX10_depth_42 : decode cX10_depth 42 = .ok (.aload_n 0, 1) := by decide +kernel
theorem dX10_depth_43 : decode cX10_depth 43 = .ok (.getfield 48, 3) := by decide +kernel
theorem dX10_depth_46 : decode cX10_depth 46 = .ok (.getfield 190, 3) := by decide +kernel
theorem dX10_depth_49 : decode cX10_depth 49 = .ok (.iload_n 1, 1) := by decide +kernel
theorem dX10_depth_50 : decode cX10_depth 50 = .ok (.iaload, 1) := by decide +kernel
theorem dX10_depth_51 : decode cX10_depth 51 = .ok (.invokevirtual 200, 3) := by decide +kernel
theorem dX10_depth_54 : decode cX10_depth 54 = .ok (.aload_n 0, 1) := by decide +kernel
theorem dX10_depth_55 : decode cX10_depth 55 = .ok (.getfield 34, 3) := by decide +kernel
theorem dX10_depth_58 : decode cX10_depth 58 = .ok (.aload_n 0, 1) := by decide +kernel
theorem dX10_depth_59 : decode cX10_depth 59 = .ok (.getfield 67, 3) := by decide +kernel
theorem dX10_depth_62 : decode cX10_depth 62 = .ok (.getfield 176, 3) := by decide +kernel
theorem dX10_depth_65 : decode cX10_depth 65 = .ok (.iconst 0, 1) := by decide +kernel
theorem dX10_depth_66 : decode cX10_depth 66 = .ok (.invokevirtual 193, 3) := by decide +kernel
theorem dX10_depth_69 : decode cX10_depth 69 = .ok (.ifCond .ne 6, 3) := by decide +kernel
theorem dX10_depth_72 : decode cX10_depth 72 = .ok (.bipush (-2), 2) := by decide +kernel
theorem dX10_depth_74 : decode cX10_depth 74 = .ok (.ireturn, 1) := by decide +kernel
theorem dX10_depth_75 : decode cX10_depth 75 = .ok (.iconst 0, 1) := by decide +kernel
theorem dX10_depth_76 : decode cX10_depth 76 = .ok (.istore_n 2, 1) := by decide +kernel
theorem dX10_depth_77 : decode cX10_depth 77 = .ok (.iload_n 2, 1) := by decide +kernel
theorem dX10_depth_78 : decode cX10_depth 78 = .ok (.bipush 20, 2) := by decide +kernel
theorem dX10_depth_80 : decode cX10_depth 80 = .ok (.if_icmp .ge 46, 3) := by decide +kernel
theorem dX10_depth_83 : decode cX10_depth 83 = .ok (.aload_n 0, 1) := by decide +kernel
theorem dX10_depth_84 : decode cX10_depth 84 = .ok (.getfield 34, 3) := by decide +kernel
theorem dX10_depth_87 : decode cX10_depth 87 = .ok (.aload_n 0, 1) := by decide +kernel
theorem dX10_depth_88 : decode cX10_depth 88 = .ok (.getfield 67, 3) := by decide +kernel
theorem dX10_depth_91 : decode cX10_depth 91 = .ok (.iload_n 2, 1) := by decide +kernel
theorem dX10_depth_92 : decode cX10_depth 92 = .ok (.iload_n 2, 1) := by decide +kernel
theorem dX10_depth_93 : decode cX10_depth 93 = .ok (.iconst 1, 1) := by decide +kernel
theorem dX10_depth_94 : decode cX10_depth 94 = .ok (.iadd, 1) := by decide +kernel
theorem dX10_depth_95 : decode cX10_depth 95 = .ok (.invokevirtual 208, 3) := by decide +kernel
theorem dX10_depth_98 : decode cX10_depth 98 = .ok (.aload_n 0, 1) := by decide +kernel
theorem dX10_depth_99 : decode cX10_depth 99 = .ok (.getfield 34, 3) := by decide +kernel
theorem dX10_depth_102 : decode cX10_depth 102 = .ok (.aload_n 0, 1) := by decide +kernel
theorem dX10_depth_103 : decode cX10_depth 103 = .ok (.getfield 67, 3) := by decide +kernel
theorem dX10_depth_106 : decode cX10_depth 106 = .ok (.getfield 176, 3) := by decide +kernel
theorem dX10_depth_109 : decode cX10_depth 109 = .ok (.iload_n 2, 1) := by decide +kernel
theorem dX10_depth_110 : decode cX10_depth 110 = .ok (.iconst 1, 1) := by decide +kernel
theorem dX10_depth_111 : decode cX10_depth 111 = .ok (.iadd, 1) := by decide +kernel
theorem dX10_depth_112 : decode cX10_depth 112 = .ok (.invokevirtual 193, 3) := by decide +kernel
theorem dX10_depth_115 : decode cX10_depth 115 = .ok (.ifCond .ne 5, 3) := by decide +kernel
theorem dX10_depth_118 : decode cX10_depth 118 = .ok (.iload_n 2, 1) := by decide +kernel
theorem dX10_depth_119 : decode cX10_depth 119 = .ok (.ireturn, 1) := by decide +kernel
theorem dX10_depth_120 : decode cX10_depth 120 = .ok (.iinc 2 1, 3) := by decide +kernel
theorem dX10_depth_123 : decode cX10_depth 123 = .ok (.goto (-46), 3) := by decide +kernel
theorem dX10_depth_126 : decode cX10_depth 126 = .ok (.bipush 20, 2) := by decide +kernel
theorem dX10_depth_128 : decode cX10_depth 128 = .ok (.ireturn, 1) := by decide +kernel
theorem dX10_law_0 : decode cX10_law 0 = .ok (.iload_n 1, 1) := by decide +kernel
theorem dX10_law_1 : decode cX10_law 1 = .ok (.ifCond .eq 8, 3) := by decide +kernel
theorem dX10_law_4 : decode cX10_law 4 = .ok (.iload_n 1, 1) := by decide +kernel
theorem dX10_law_5 : decode cX10_law 5 = .ok (.iconst 1, 1) := by decide +kernel
theorem dX10_law_6 : decode cX10_law 6 = .ok (.if_icmp .ne 11, 3) := by decide +kernel
theorem dX10_law_9 : decode cX10_law 9 = .ok (.aload_n 0, 1) := by decide +kernel
theorem dX10_law_10 : decode cX10_law 10 = .ok (.iload_n 2, 1) := by decide +kernel
theorem dX10_law_11 : decode cX10_law 11 = .ok (.invokevirtual 134, 3) := by decide +kernel
theorem dX10_law_14 : decode cX10_law 14 = .ok (.ifCond .ne 7, 3) := by decide +kernel
theorem dX10_law_17 : decode cX10_law 17 = .ok (.ldc2_w 211, 3) := by decide +kernel
theorem dX10_law_20 : decode cX10_law 20 = .ok (.lreturn, 1) := by decide +kernel
theorem dX10_law_21 : decode cX10_law 21 = .ok (.aload_n 0, 1) := by decide +kernel
theorem dX10_law_22 : decode cX10_law 22 = .ok (.getfield 41, 3) := by decide +kernel
theorem dX10_law_25 : decode cX10_law 25 = .ok (.aload_n 0, 1) := by decide +kernel
theorem dX10_law_26 : decode cX10_law 26 = .ok (.getfield 48, 3) := by decide +kernel
theorem dX10_law_29 : decode cX10_law 29 = .ok (.iload_n 1, 1) := by decide +kernel
theorem dX10_law_30 : decode cX10_law 30 = .ok (.aload_n 0, 1) := by decide +kernel
theorem dX10_law_31 : decode cX10_law 31 = .ok (.getfield 67, 3) := by decide +kernel
theorem dX10_law_34 : decode cX10_law 34 = .ok (.iload_n 2, 1) := by decide +kernel
theorem dX10_law_35 : decode cX10_law 35 = .ok (.aload_n 0, 1) := by decide +kernel
theorem dX10_law_36 : decode cX10_law 36 = .ok (.getfield 67, 3) := by decide +kernel
theorem dX10_law_39 : decode cX10_law 39 = .ok (.invokevirtual 213, 3) := by decide +kernel
theorem dX10_law_42 : decode cX10_law 42 = .ok (.invokestatic 217, 3) := by decide +kernel
theorem dX10_law_45 : decode cX10_law 45 = .ok (.invokevirtual 222, 3) := by decide +kernel
theorem dX10_law_48 : decode cX10_law 48 = .ok (.lreturn, 1) := by decide +kernel
theorem dX10_tell_0 : decode cX10_tell 0 = .ok (.aload_n 0, 1) := by decide +kernel
theorem dX10_tell_1 : decode cX10_tell 1 = .ok (.iload_n 1, 1) := by decide +kernel
theorem dX10_tell_2 : decode cX10_tell 2 = .ok (.invokevirtual 179, 3) := by decide +kernel
theorem dX10_tell_5 : decode cX10_tell 5 = .ok (.ifCond .ne 5, 3) := by decide +kernel
theorem dX10_tell_8 : decode cX10_tell 8 = .ok (.iconst (-1), 1) := by decide +kernel
theorem dX10_tell_9 : decode cX10_tell 9 = .ok (.ireturn, 1) := by decide +kernel
theorem dX10_tell_10 : decode cX10_tell 10 = .ok (.aload_n 0, 1) := by decide +kernel
theorem dX10_tell_11 : decode cX10_tell 11 = .ok (.getfield 71, 3) := by decide +kernel
theorem dX10_tell_14 : decode cX10_tell 14 = .ok (.aload_n 0, 1) := by decide +kernel
theorem dX10_tell_15 : decode cX10_tell 15 = .ok (.getfield 67, 3) := by decide +kernel
theorem dX10_tell_18 : decode cX10_tell 18 = .ok (.invokevirtual 226, 3) := by decide +kernel
theorem dX10_tell_21 : decode cX10_tell 21 = .ok (.aload_n 0, 1) := by decide +kernel
theorem dX10_tell_22 : decode cX10_tell 22 = .ok (.getfield 60, 3) := by decide +kernel
theorem dX10_tell_25 : decode cX10_tell 25 = .ok (.aload_n 0, 1) := by decide +kernel
theorem dX10_tell_26 : decode cX10_tell 26 = .ok (.getfield 48, 3) := by decide +kernel
theorem dX10_tell_29 : decode cX10_tell 29 = .ok (.iconst 0, 1) := by decide +kernel
theorem dX10_tell_30 : decode cX10_tell 30 = .ok (.iconst (-1), 1) := by decide +kernel
theorem dX10_tell_31 : decode cX10_tell 31 = .ok (.iconst (-1), 1) := by decide +kernel
theorem dX10_tell_32 : decode cX10_tell 32 = .ok (.invokevirtual 230, 3) := by decide +kernel
theorem dX10_tell_35 : decode cX10_tell 35 = .ok (.aload_n 0, 1) := by decide +kernel
theorem dX10_tell_36 : decode cX10_tell 36 = .ok (.getfield 60, 3) := by decide +kernel
theorem dX10_tell_39 : decode cX10_tell 39 = .ok (.aload_n 0, 1) := by decide +kernel
theorem dX10_tell_40 : decode cX10_tell 40 = .ok (.getfield 67, 3) := by decide +kernel
theorem dX10_tell_43 : decode cX10_tell 43 = .ok (.iload_n 1, 1) := by decide +kernel
theorem dX10_tell_44 : decode cX10_tell 44 = .ok (.invokevirtual 234, 3) := by decide +kernel
theorem dX10_tell_47 : decode cX10_tell 47 = .ok (.ifCond .ne 6, 3) := by decide +kernel
theorem dX10_tell_50 : decode cX10_tell 50 = .ok (.bipush (-2), 2) := by decide +kernel
theorem dX10_tell_52 : decode cX10_tell 52 = .ok (.ireturn, 1) := by decide +kernel
theorem dX10_tell_53 : decode cX10_tell 53 = .ok (.aload_n 0, 1) := by decide +kernel
theorem dX10_tell_54 : decode cX10_tell 54 = .ok (.aload_n 0, 1) := by decide +kernel
theorem dX10_tell_55 : decode cX10_tell 55 = .ok (.getfield 71, 3) := by decide +kernel
theorem dX10_tell_58 : decode cX10_tell 58 = .ok (.invokevirtual 238, 3) := by decide +kernel
theorem dX10_tell_61 : decode cX10_tell 61 = .ok (.aload_n 0, 1) := by decide +kernel
theorem dX10_tell_62 : decode cX10_tell 62 = .ok (.getfield 67, 3) := by decide +kernel
theorem dX10_tell_65 : decode cX10_tell 65 = .ok (.getfield 167, 3) := by decide +kernel
theorem dX10_tell_68 : decode cX10_tell 68 = .ok (.ireturn, 1) := by decide +kernel
theorem dX10_ask_0 : decode cX10_ask 0 = .ok (.aload_n 0, 1) := by decide +kernel
theorem dX10_ask_1 : decode cX10_ask 1 = .ok (.aload_n 0, 1) := by decide +kernel
theorem dX10_ask_2 : decode cX10_ask 2 = .ok (.getfield 67, 3) := by decide +kernel
theorem dX10_ask_5 : decode cX10_ask 5 = .ok (.invokevirtual 238, 3) := by decide +kernel
theorem dX10_ask_8 : decode cX10_ask 8 = .ok (.aload_n 0, 1) := by decide +kernel
theorem dX10_ask_9 : decode cX10_ask 9 = .ok (.getfield 60, 3) := by decide +kernel
theorem dX10_ask_12 : decode cX10_ask 12 = .ok (.aload_n 0, 1) := by decide +kernel
theorem dX10_ask_13 : decode cX10_ask 13 = .ok (.getfield 48, 3) := by decide +kernel
theorem dX10_ask_16 : decode cX10_ask 16 = .ok (.iconst 0, 1) := by decide +kernel
theorem dX10_ask_17 : decode cX10_ask 17 = .ok (.iconst (-1), 1) := by decide +kernel
theorem dX10_ask_18 : decode cX10_ask 18 = .ok (.iconst (-1), 1) := by decide +kernel
theorem dX10_ask_19 : decode cX10_ask 19 = .ok (.invokevirtual 230, 3) := by decide +kernel
theorem dX10_ask_22 : decode cX10_ask 22 = .ok (.aload_n 0, 1) := by decide +kernel
theorem dX10_ask_23 : decode cX10_ask 23 = .ok (.getfield 60, 3) := by decide +kernel
theorem dX10_ask_26 : decode cX10_ask 26 = .ok (.aload_n 0, 1) := by decide +kernel
theorem dX10_ask_27 : decode cX10_ask 27 = .ok (.getfield 67, 3) := by decide +kernel
theorem dX10_ask_30 : decode cX10_ask 30 = .ok (.invokevirtual 241, 3) := by decide +kernel
theorem dX10_ask_33 : decode cX10_ask 33 = .ok (.ireturn, 1) := by decide +kernel
