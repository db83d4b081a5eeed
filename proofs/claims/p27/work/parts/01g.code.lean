theorem dL_cell_0 : decode cL_cell 0 = .ok (.iload_n 1, 1) := by decide +kernel
theorem dL_cell_1 : decode cL_cell 1 = .ok (.aload_n 0, 1) := by decide +kernel
theorem dL_cell_2 : decode cL_cell 2 = .ok (.arraylength, 1) := by decide +kernel
theorem dL_cell_3 : decode cL_cell 3 = .ok (.if_icmp .ge 9, 3) := by decide +kernel
theorem dL_cell_6 : decode cL_cell 6 = .ok (.aload_n 0, 1) := by decide +kernel
theorem dL_cell_7 : decode cL_cell 7 = .ok (.iload_n 1, 1) := by decide +kernel
theorem dL_cell_8 : decode cL_cell 8 = .ok (.iaload, 1) := by decide +kernel
theorem dL_cell_9 : decode cL_cell 9 = .ok (.goto 13, 3) := by decide +kernel
theorem dL_cell_12 : decode cL_cell 12 = .ok (.ldc 7, 2) := by decide +kernel
theorem dL_cell_14 : decode cL_cell 14 = .ok (.iload_n 1, 1) := by decide +kernel
theorem dL_cell_15 : decode cL_cell 15 = .ok (.bipush 41, 2) := by decide +kernel
theorem dL_cell_17 : decode cL_cell 17 = .ok (.iadd, 1) := by decide +kernel
theorem dL_cell_18 : decode cL_cell 18 = .ok (.imul, 1) := by decide +kernel
theorem dL_cell_19 : decode cL_cell 19 = .ok (.ldc 8, 2) := by decide +kernel
theorem dL_cell_21 : decode cL_cell 21 = .ok (.iadd, 1) := by decide +kernel
theorem dL_cell_22 : decode cL_cell 22 = .ok (.ireturn, 1) := by decide +kernel
theorem dL_low_0 : decode cL_low 0 = .ok (.iload_n 0, 1) := by decide +kernel
theorem dL_low_1 : decode cL_low 1 = .ok (.ldc 9, 2) := by decide +kernel
theorem dL_low_3 : decode cL_low 3 = .ok (.iand, 1) := by decide +kernel
theorem dL_low_4 : decode cL_low 4 = .ok (.iload_n 1, 1) := by decide +kernel
theorem dL_low_5 : decode cL_low 5 = .ok (.irem, 1) := by decide +kernel
theorem dL_low_6 : decode cL_low 6 = .ok (.ireturn, 1) := by decide +kernel
theorem dL_calls_0 : decode cL_calls 0 = .ok (.iload_n 1, 1) := by decide +kernel
theorem dL_calls_1 : decode cL_calls 1 = .ok (.ifCond .ne 14, 3) := by decide +kernel
theorem dL_calls_4 : decode cL_calls 4 = .ok (.aload_n 0, 1) := by decide +kernel
theorem dL_calls_5 : decode cL_calls 5 = .ok (.iload_n 2, 1) := by decide +kernel
theorem dL_calls_6 : decode cL_calls 6 = .ok (.iload_n 3, 1) := by decide +kernel
theorem dL_calls_7 : decode cL_calls 7 = .ok (.iload 4, 2) := by decide +kernel
theorem dL_calls_9 : decode cL_calls 9 = .ok (.invokevirtual 10, 3) := by decide +kernel
theorem dL_calls_12 : decode cL_calls 12 = .ok (.goto 91, 3) := by decide +kernel
theorem dL_calls_15 : decode cL_calls 15 = .ok (.iload_n 1, 1) := by decide +kernel
theorem dL_calls_16 : decode cL_calls 16 = .ok (.iconst 1, 1) := by decide +kernel
theorem dL_calls_17 : decode cL_calls 17 = .ok (.if_icmp .ne 10, 3) := by decide +kernel
theorem dL_calls_20 : decode cL_calls 20 = .ok (.aload_n 0, 1) := by decide +kernel
theorem dL_calls_21 : decode cL_calls 21 = .ok (.invokevirtual 16, 3) := by decide +kernel
theorem dL_calls_24 : decode cL_calls 24 = .ok (.goto 79, 3) := by decide +kernel
theorem dL_calls_27 : decode cL_calls 27 = .ok (.iload_n 1, 1) := by decide +kernel
theorem dL_calls_28 : decode cL_calls 28 = .ok (.iconst 2, 1) := by decide +kernel
theorem dL_calls_29 : decode cL_calls 29 = .ok (.if_icmp .ne 14, 3) := by decide +kernel
theorem dL_calls_32 : decode cL_calls 32 = .ok (.aload_n 0, 1) := by decide +kernel
theorem dL_calls_33 : decode cL_calls 33 = .ok (.iload_n 2, 1) := by decide +kernel
theorem dL_calls_34 : decode cL_calls 34 = .ok (.iload_n 3, 1) := by decide +kernel
theorem dL_calls_35 : decode cL_calls 35 = .ok (.iload 4, 2) := by decide +kernel
theorem dL_calls_37 : decode cL_calls 37 = .ok (.invokevirtual 20, 3) := by decide +kernel
theorem dL_calls_40 : decode cL_calls 40 = .ok (.goto 63, 3) := by decide +kernel
theorem dL_calls_43 : decode cL_calls 43 = .ok (.iload_n 1, 1) := by decide +kernel
theorem dL_calls_44 : decode cL_calls 44 = .ok (.iconst 3, 1) := by decide +kernel
theorem dL_calls_45 : decode cL_calls 45 = .ok (.if_icmp .ne 11, 3) := by decide +kernel
theorem dL_calls_48 : decode cL_calls 48 = .ok (.aload_n 0, 1) := by decide +kernel
theorem dL_calls_49 : decode cL_calls 49 = .ok (.iload_n 2, 1) := by decide +kernel
theorem dL_calls_50 : decode cL_calls 50 = .ok (.invokevirtual 23, 3) := by decide +kernel
theorem dL_calls_53 : decode cL_calls 53 = .ok (.goto 50, 3) := by decide +kernel
theorem dL_calls_56 : decode cL_calls 56 = .ok (.iload_n 1, 1) := by decide +kernel
theorem dL_calls_57 : decode cL_calls 57 = .ok (.iconst 4, 1) := by decide +kernel
theorem dL_calls_58 : decode cL_calls 58 = .ok (.if_icmp .ne 11, 3) := by decide +kernel
theorem dL_calls_61 : decode cL_calls 61 = .ok (.aload_n 0, 1) := by decide +kernel
theorem dL_calls_62 : decode cL_calls 62 = .ok (.iload_n 2, 1) := by decide +kernel
theorem dL_calls_63 : decode cL_calls 63 = .ok (.invokevirtual 27, 3) := by decide +kernel
theorem dL_calls_66 : decode cL_calls 66 = .ok (.goto 37, 3) := by decide +kernel
theorem dL_calls_69 : decode cL_calls 69 = .ok (.iload_n 1, 1) := by decide +kernel
theorem dL_calls_70 : decode cL_calls 70 = .ok (.iconst 5, 1) := by decide +kernel
theorem dL_calls_71 : decode cL_calls 71 = .ok (.if_icmp .ne 11, 3) := by decide +kernel
theorem dL_calls_74 : decode cL_calls 74 = .ok (.aload_n 0, 1) := by decide +kernel
theorem dL_calls_75 : decode cL_calls 75 = .ok (.iload_n 2, 1) := by decide +kernel
theorem dL_calls_76 : decode cL_calls 76 = .ok (.invokevirtual 30, 3) := by decide +kernel
theorem dL_calls_79 : decode cL_calls 79 = .ok (.goto 24, 3) := by decide +kernel
theorem dL_calls_82 : decode cL_calls 82 = .ok (.iload_n 1, 1) := by decide +kernel
theorem dL_calls_83 : decode cL_calls 83 = .ok (.bipush 6, 2) := by decide +kernel
theorem dL_calls_85 : decode cL_calls 85 = .ok (.if_icmp .ne 12, 3) := by decide +kernel
theorem dL_calls_88 : decode cL_calls 88 = .ok (.aload_n 0, 1) := by decide +kernel
theorem dL_calls_89 : decode cL_calls 89 = .ok (.iload_n 2, 1) := by decide +kernel
theorem dL_calls_90 : decode cL_calls 90 = .ok (.iload_n 3, 1) := by decide +kernel
theorem dL_calls_91 : decode cL_calls 91 = .ok (.invokevirtual 33, 3) := by decide +kernel
theorem dL_calls_94 : decode cL_calls 94 = .ok (.goto 9, 3) := by decide +kernel
theorem dL_calls_97 : decode cL_calls 97 = .ok (.aload_n 0, 1) := by decide +kernel
theorem dL_calls_98 : decode cL_calls 98 = .ok (.iload_n 2, 1) := by decide +kernel
theorem dL_calls_99 : decode cL_calls 99 = .ok (.iload_n 3, 1) := by decide +kernel
theorem dL_calls_100 : decode cL_calls 100 = .ok (.invokevirtual 37, 3) := by decide +kernel
theorem dL_calls_103 : decode cL_calls 103 = .ok (.ireturn, 1) := by decide +kernel
theorem dL_calls_104 : decode cL_calls 104 = .ok (.astore 5, 2) := by decide +kernel
theorem dL_calls_106 : decode cL_calls 106 = .ok (.bipush (-4), 2) := by decide +kernel
theorem dL_calls_108 : decode cL_calls 108 = .ok (.ireturn, 1) := by decide +kernel
theorem dL_calls_109 : decode cL_calls 109 = .ok (.astore 5, 2) := by decide +kernel
theorem dL_calls_111 : decode cL_calls 111 = .ok (.bipush (-2), 2) := by decide +kernel
theorem dL_calls_113 : decode cL_calls 113 = .ok (.ireturn, 1) := by decide +kernel
theorem dL_calls_114 : decode cL_calls 114 = .ok (.astore 5, 2) := by decide +kernel
theorem dL_calls_116 : decode cL_calls 116 = .ok (.bipush (-3), 2) := by decide +kernel
theorem dL_calls_118 : decode cL_calls 118 = .ok (.ireturn, 1) := by decide +kernel
theorem dL_way_0 : decode cL_way 0 = .ok (.iload_n 0, 1) := by decide +kernel
theorem dL_way_1 : decode cL_way 1 = .ok (.bipush 100, 2) := by decide +kernel
theorem dL_way_3 : decode cL_way 3 = .ok (.idiv, 1) := by decide +kernel
theorem dL_way_4 : decode cL_way 4 = .ok (.iload_n 1, 1) := by decide +kernel
theorem dL_way_5 : decode cL_way 5 = .ok (.bipush 100, 2) := by decide +kernel
theorem dL_way_7 : decode cL_way 7 = .ok (.idiv, 1) := by decide +kernel
theorem dL_way_8 : decode cL_way 8 = .ok (.if_icmp .le 15, 3) := by decide +kernel
theorem dL_way_11 : decode cL_way 11 = .ok (.iload_n 0, 1) := by decide +kernel
theorem dL_way_12 : decode cL_way 12 = .ok (.bipush 100, 2) := by decide +kernel
theorem dL_way_14 : decode cL_way 14 = .ok (.idiv, 1) := by decide +kernel
theorem dL_way_15 : decode cL_way 15 = .ok (.iload_n 1, 1) := by decide +kernel
theorem dL_way_16 : decode cL_way 16 = .ok (.bipush 100, 2) := by decide +kernel
theorem dL_way_18 : decode cL_way 18 = .ok (.idiv, 1) := by decide +kernel
theorem dL_way_19 : decode cL_way 19 = .ok (.isub, 1) := by decide +kernel
theorem dL_way_20 : decode cL_way 20 = .ok (.goto 12, 3) := by decide +kernel
theorem dL_way_23 : decode cL_way 23 = .ok (.iload_n 1, 1) := by decide +kernel
theorem dL_way_24 : decode cL_way 24 = .ok (.bipush 100, 2) := by decide +kernel
theorem dL_way_26 : decode cL_way 26 = .ok (.idiv, 1) := by decide +kernel
theorem dL_way_27 : decode cL_way 27 = .ok (.iload_n 0, 1) := by decide +kernel
theorem dL_way_28 : decode cL_way 28 = .ok (.bipush 100, 2) := by decide +kernel
theorem dL_way_30 : decode cL_way 30 = .ok (.idiv, 1) := by decide +kernel
theorem dL_way_31 : decode cL_way 31 = .ok (.isub, 1) := by decide +kernel
theorem dL_way_32 : decode cL_way 32 = .ok (.istore_n 3, 1) := by decide +kernel
theorem dL_way_33 : decode cL_way 33 = .ok (.iload_n 0, 1) := by decide +kernel
theorem dL_way_34 : decode cL_way 34 = .ok (.bipush 100, 2) := by decide +kernel
theorem dL_way_36 : decode cL_way 36 = .ok (.irem, 1) := by decide +kernel
theorem dL_way_37 : decode cL_way 37 = .ok (.istore 4, 2) := by decide +kernel
theorem dL_way_39 : decode cL_way 39 = .ok (.iload_n 1, 1) := by decide +kernel
theorem dL_way_40 : decode cL_way 40 = .ok (.bipush 100, 2) := by decide +kernel
theorem dL_way_42 : decode cL_way 42 = .ok (.irem, 1) := by decide +kernel
theorem dL_way_43 : decode cL_way 43 = .ok (.istore 5, 2) := by decide +kernel
theorem dL_way_45 : decode cL_way 45 = .ok (.iconst 2, 1) := by decide +kernel
theorem dL_way_46 : decode cL_way 46 = .ok (.aload_n 2, 1) := by decide +kernel
theorem dL_way_47 : decode cL_way 47 = .ok (.bipush 6, 2) := by decide +kernel
theorem dL_way_49 : decode cL_way 49 = .ok (.iaload, 1) := by decide +kernel
theorem dL_way_50 : decode cL_way 50 = .ok (.imul, 1) := by decide +kernel
theorem dL_way_51 : decode cL_way 51 = .ok (.iconst 2, 1) := by decide +kernel
theorem dL_way_52 : decode cL_way 52 = .ok (.iadd, 1) := by decide +kernel
theorem dL_way_53 : decode cL_way 53 = .ok (.iload 4, 2) := by decide +kernel
theorem dL_way_55 : decode cL_way 55 = .ok (.isub, 1) := by decide +kernel
theorem dL_way_56 : decode cL_way 56 = .ok (.iload 5, 2) := by decide +kernel
theorem dL_way_58 : decode cL_way 58 = .ok (.isub, 1) := by decide +kernel
theorem dL_way_59 : decode cL_way 59 = .ok (.istore 6, 2) := by decide +kernel
theorem dL_way_61 : decode cL_way 61 = .ok (.iload_n 3, 1) := by decide +kernel
theorem dL_way_62 : decode cL_way 62 = .ok (.ifCond .ne 26, 3) := by decide +kernel
theorem dL_way_65 : decode cL_way 65 = .ok (.iload 4, 2) := by decide +kernel
theorem dL_way_67 : decode cL_way 67 = .ok (.iload 5, 2) := by decide +kernel
theorem dL_way_69 : decode cL_way 69 = .ok (.if_icmp .le 11, 3) := by decide +kernel
theorem dL_way_72 : decode cL_way 72 = .ok (.iload 4, 2) := by decide +kernel
theorem dL_way_74 : decode cL_way 74 = .ok (.iload 5, 2) := by decide +kernel
theorem dL_way_76 : decode cL_way 76 = .ok (.isub, 1) := by decide +kernel
theorem dL_way_77 : decode cL_way 77 = .ok (.goto 38, 3) := by decide +kernel
theorem dL_way_80 : decode cL_way 80 = .ok (.iload 5, 2) := by decide +kernel
theorem dL_way_82 : decode cL_way 82 = .ok (.iload 4, 2) := by decide +kernel
theorem dL_way_84 : decode cL_way 84 = .ok (.isub, 1) := by decide +kernel
theorem dL_way_85 : decode cL_way 85 = .ok (.goto 30, 3) := by decide +kernel
theorem dL_way_88 : decode cL_way 88 = .ok (.iload_n 3, 1) := by decide +kernel
theorem dL_way_89 : decode cL_way 89 = .ok (.aload_n 2, 1) := by decide +kernel
theorem dL_way_90 : decode cL_way 90 = .ok (.bipush 7, 2) := by decide +kernel
theorem dL_way_92 : decode cL_way 92 = .ok (.iaload, 1) := by decide +kernel
theorem dL_way_93 : decode cL_way 93 = .ok (.imul, 1) := by decide +kernel
theorem dL_way_94 : decode cL_way 94 = .ok (.iload 4, 2) := by decide +kernel
theorem dL_way_96 : decode cL_way 96 = .ok (.iload 5, 2) := by decide +kernel
theorem dL_way_98 : decode cL_way 98 = .ok (.iadd, 1) := by decide +kernel
theorem dL_way_99 : decode cL_way 99 = .ok (.iload 6, 2) := by decide +kernel
theorem dL_way_101 : decode cL_way 101 = .ok (.if_icmp .ge 11, 3) := by decide +kernel
theorem dL_way_104 : decode cL_way 104 = .ok (.iload 4, 2) := by decide +kernel
theorem dL_way_106 : decode cL_way 106 = .ok (.iload 5, 2) := by decide +kernel
theorem dL_way_108 : decode cL_way 108 = .ok (.iadd, 1) := by decide +kernel
theorem dL_way_109 : decode cL_way 109 = .ok (.goto 5, 3) := by decide +kernel
theorem dL_way_112 : decode cL_way 112 = .ok (.iload 6, 2) := by decide +kernel
theorem dL_way_114 : decode cL_way 114 = .ok (.iadd, 1) := by decide +kernel
theorem dL_way_115 : decode cL_way 115 = .ok (.ireturn, 1) := by decide +kernel
theorem dL_wanted_0 : decode cL_wanted 0 = .ok (.iconst 0, 1) := by decide +kernel
theorem dL_wanted_1 : decode cL_wanted 1 = .ok (.istore_n 3, 1) := by decide +kernel
theorem dL_wanted_2 : decode cL_wanted 2 = .ok (.iconst 0, 1) := by decide +kernel
theorem dL_wanted_3 : decode cL_wanted 3 = .ok (.istore 4, 2) := by decide +kernel
theorem dL_wanted_5 : decode cL_wanted 5 = .ok (.iload 4, 2) := by decide +kernel
theorem dL_wanted_7 : decode cL_wanted 7 = .ok (.aload_n 1, 1) := by decide +kernel
theorem dL_wanted_8 : decode cL_wanted 8 = .ok (.iconst 4, 1) := by decide +kernel
theorem dL_wanted_9 : decode cL_wanted 9 = .ok (.iload_n 0, 1) := by decide +kernel
theorem dL_wanted_10 : decode cL_wanted 10 = .ok (.imul, 1) := by decide +kernel
theorem dL_wanted_11 : decode cL_wanted 11 = .ok (.iconst 3, 1) := by decide +kernel
theorem dL_wanted_12 : decode cL_wanted 12 = .ok (.iadd, 1) := by decide +kernel
theorem dL_wanted_13 : decode cL_wanted 13 = .ok (.iaload, 1) := by decide +kernel
theorem dL_wanted_14 : decode cL_wanted 14 = .ok (.if_icmp .ge 22, 3) := by decide +kernel
theorem dL_wanted_17 : decode cL_wanted 17 = .ok (.iload_n 3, 1) := by decide +kernel
theorem dL_wanted_18 : decode cL_wanted 18 = .ok (.iconst 1, 1) := by decide +kernel
theorem dL_wanted_19 : decode cL_wanted 19 = .ok (.aload_n 2, 1) := by decide +kernel
theorem dL_wanted_20 : decode cL_wanted 20 = .ok (.iconst 5, 1) := by decide +kernel
theorem dL_wanted_21 : decode cL_wanted 21 = .ok (.iload_n 0, 1) := by decide +kernel
theorem dL_wanted_22 : decode cL_wanted 22 = .ok (.imul, 1) := by decide +kernel
theorem dL_wanted_23 : decode cL_wanted 23 = .ok (.iload 4, 2) := by decide +kernel
theorem dL_wanted_25 : decode cL_wanted 25 = .ok (.iadd, 1) := by decide +kernel
theorem dL_wanted_26 : decode cL_wanted 26 = .ok (.iaload, 1) := by decide +kernel
theorem dL_wanted_27 : decode cL_wanted 27 = .ok (.ishl, 1) := by decide +kernel
theorem dL_wanted_28 : decode cL_wanted 28 = .ok (.ior, 1) := by decide +kernel
theorem dL_wanted_29 : decode cL_wanted 29 = .ok (.istore_n 3, 1) := by decide +kernel
theorem dL_wanted_30 : decode cL_wanted 30 = .ok (.iinc 4 1, 3) := by decide +kernel
theorem dL_wanted_33 : decode cL_wanted 33 = .ok (.goto (-28), 3) := by decide +kernel
theorem dL_wanted_36 : decode cL_wanted 36 = .ok (.iload_n 3, 1) := by decide +kernel
theorem dL_wanted_37 : decode cL_wanted 37 = .ok (.ireturn, 1) := by decide +kernel
theorem dL_products_0 : decode cL_products 0 = .ok (.iconst 0, 1) := by decide +kernel
theorem dL_products_1 : decode cL_products 1 = .ok (.istore 4, 2) := by decide +kernel
theorem dL_products_3 : decode cL_products 3 = .ok (.iconst 0, 1) := by decide +kernel
theorem dL_products_4 : decode cL_products 4 = .ok (.istore 5, 2) := by decide +kernel
theorem dL_products_6 : decode cL_products 6 = .ok (.iload 5, 2) := by decide +kernel
theorem dL_products_8 : decode cL_products 8 = .ok (.aload_n 3, 1) := by decide +kernel
theorem dL_products_9 : decode cL_products 9 = .ok (.iconst 1, 1) := by decide +kernel
theorem dL_products_10 : decode cL_products 10 = .ok (.iaload, 1) := by decide +kernel
theorem dL_products_11 : decode cL_products 11 = .ok (.if_icmp .ge 37, 3) := by decide +kernel
theorem dL_products_14 : decode cL_products 14 = .ok (.iload 4, 2) := by decide +kernel
theorem dL_products_16 : decode cL_products 16 = .ok (.aload_n 1, 1) := by decide +kernel
theorem dL_products_17 : decode cL_products 17 = .ok (.iconst 4, 1) := by decide +kernel
theorem dL_products_18 : decode cL_products 18 = .ok (.iload 5, 2) := by decide +kernel
theorem dL_products_20 : decode cL_products 20 = .ok (.imul, 1) := by decide +kernel
theorem dL_products_21 : decode cL_products 21 = .ok (.iconst 2, 1) := by decide +kernel
theorem dL_products_22 : decode cL_products 22 = .ok (.iadd, 1) := by decide +kernel
theorem dL_products_23 : decode cL_products 23 = .ok (.iaload, 1) := by decide +kernel
theorem dL_products_24 : decode cL_products 24 = .ok (.iload_n 0, 1) := by decide +kernel
theorem dL_products_25 : decode cL_products 25 = .ok (.if_icmp .ne 13, 3) := by decide +kernel
theorem dL_products_28 : decode cL_products 28 = .ok (.iload 5, 2) := by decide +kernel
theorem dL_products_30 : decode cL_products 30 = .ok (.aload_n 1, 1) := by decide +kernel
theorem dL_products_31 : decode cL_products 31 = .ok (.aload_n 2, 1) := by decide +kernel
theorem dL_products_32 : decode cL_products 32 = .ok (.invokestatic 46, 3) := by decide +kernel
theorem dL_products_35 : decode cL_products 35 = .ok (.goto 4, 3) := by decide +kernel
theorem dL_products_38 : decode cL_products 38 = .ok (.iconst 0, 1) := by decide +kernel
theorem dL_products_39 : decode cL_products 39 = .ok (.ior, 1) := by decide +kernel
theorem dL_products_40 : decode cL_products 40 = .ok (.istore 4, 2) := by decide +kernel
theorem dL_products_42 : decode cL_products 42 = .ok (.iinc 5 1, 3) := by decide +kernel
theorem dL_products_45 : decode cL_products 45 = .ok (.goto (-39), 3) := by decide +kernel
theorem dL_products_48 : decode cL_products 48 = .ok (.iload 4, 2) := by decide +kernel
theorem dL_products_50 : decode cL_products 50 = .ok (.ireturn, 1) := by decide +kernel
theorem dL_lines_0 : decode cL_lines 0 = .ok (.iconst 0, 1) := by decide +kernel
theorem dL_lines_1 : decode cL_lines 1 = .ok (.istore_n 3, 1) := by decide +kernel
theorem dL_lines_2 : decode cL_lines 2 = .ok (.iconst 0, 1) := by decide +kernel
theorem dL_lines_3 : decode cL_lines 3 = .ok (.istore 4, 2) := by decide +kernel
theorem dL_lines_5 : decode cL_lines 5 = .ok (.iload 4, 2) := by decide +kernel
theorem dL_lines_7 : decode cL_lines 7 = .ok (.aload_n 2, 1) := by decide +kernel
theorem dL_lines_8 : decode cL_lines 8 = .ok (.iconst 1, 1) := by decide +kernel
theorem dL_lines_9 : decode cL_lines 9 = .ok (.iaload, 1) := by decide +kernel
theorem dL_lines_10 : decode cL_lines 10 = .ok (.if_icmp .ge 36, 3) := by decide +kernel
theorem dL_lines_13 : decode cL_lines 13 = .ok (.iload_n 3, 1) := by decide +kernel
theorem dL_lines_14 : decode cL_lines 14 = .ok (.aload_n 1, 1) := by decide +kernel
theorem dL_lines_15 : decode cL_lines 15 = .ok (.iconst 4, 1) := by decide +kernel
theorem dL_lines_16 : decode cL_lines 16 = .ok (.iload 4, 2) := by decide +kernel
theorem dL_lines_18 : decode cL_lines 18 = .ok (.imul, 1) := by decide +kernel
theorem dL_lines_19 : decode cL_lines 19 = .ok (.iconst 2, 1) := by decide +kernel
theorem dL_lines_20 : decode cL_lines 20 = .ok (.iadd, 1) := by decide +kernel
theorem dL_lines_21 : decode cL_lines 21 = .ok (.iaload, 1) := by decide +kernel
theorem dL_lines_22 : decode cL_lines 22 = .ok (.iload_n 0, 1) := by decide +kernel
theorem dL_lines_23 : decode cL_lines 23 = .ok (.if_icmp .ne 14, 3) := by decide +kernel
theorem dL_lines_26 : decode cL_lines 26 = .ok (.aload_n 1, 1) := by decide +kernel
theorem dL_lines_27 : decode cL_lines 27 = .ok (.iconst 4, 1) := by decide +kernel
theorem dL_lines_28 : decode cL_lines 28 = .ok (.iload 4, 2) := by decide +kernel
theorem dL_lines_30 : decode cL_lines 30 = .ok (.imul, 1) := by decide +kernel
theorem dL_lines_31 : decode cL_lines 31 = .ok (.iconst 3, 1) := by decide +kernel
theorem dL_lines_32 : decode cL_lines 32 = .ok (.iadd, 1) := by decide +kernel
theorem dL_lines_33 : decode cL_lines 33 = .ok (.iaload, 1) := by decide +kernel
theorem dL_lines_34 : decode cL_lines 34 = .ok (.goto 4, 3) := by decide +kernel
theorem dL_lines_37 : decode cL_lines 37 = .ok (.iconst 0, 1) := by decide +kernel
theorem dL_lines_38 : decode cL_lines 38 = .ok (.iadd, 1) := by decide +kernel
theorem dL_lines_39 : decode cL_lines 39 = .ok (.istore_n 3, 1) := by decide +kernel
theorem dL_lines_40 : decode cL_lines 40 = .ok (.iinc 4 1, 3) := by decide +kernel
theorem dL_lines_43 : decode cL_lines 43 = .ok (.goto (-38), 3) := by decide +kernel
theorem dL_lines_46 : decode cL_lines 46 = .ok (.iload_n 3, 1) := by decide +kernel
theorem dL_lines_47 : decode cL_lines 47 = .ok (.ireturn, 1) := by decide +kernel
theorem dL_route_0 : decode cL_route 0 = .ok (.iconst 0, 1) := by decide +kernel
theorem dL_route_1 : decode cL_route 1 = .ok (.istore 5, 2) := by decide +kernel
theorem dL_route_3 : decode cL_route 3 = .ok (.iconst 1, 1) := by decide +kernel
theorem dL_route_4 : decode cL_route 4 = .ok (.istore 6, 2) := by decide +kernel
theorem dL_route_6 : decode cL_route 6 = .ok (.iload 6, 2) := by decide +kernel
theorem dL_route_8 : decode cL_route 8 = .ok (.sipush 700, 3) := by decide +kernel
theorem dL_route_11 : decode cL_route 11 = .ok (.if_icmp .ge 53, 3) := by decide +kernel
theorem dL_route_14 : decode cL_route 14 = .ok (.iconst 0, 1) := by decide +kernel
theorem dL_route_15 : decode cL_route 15 = .ok (.istore 7, 2) := by decide +kernel
theorem dL_route_17 : decode cL_route 17 = .ok (.iload 7, 2) := by decide +kernel
theorem dL_route_19 : decode cL_route 19 = .ok (.bipush 20, 2) := by decide +kernel
theorem dL_route_21 : decode cL_route 21 = .ok (.if_icmp .ge 37, 3) := by decide +kernel
theorem dL_route_24 : decode cL_route 24 = .ok (.iload_n 0, 1) := by decide +kernel
theorem dL_route_25 : decode cL_route 25 = .ok (.iload 7, 2) := by decide +kernel
theorem dL_route_27 : decode cL_route 27 = .ok (.ishr, 1) := by decide +kernel
theorem dL_route_28 : decode cL_route 28 = .ok (.iconst 1, 1) := by decide +kernel
theorem dL_route_29 : decode cL_route 29 = .ok (.iand, 1) := by decide +kernel
theorem dL_route_30 : decode cL_route 30 = .ok (.iconst 1, 1) := by decide +kernel
theorem dL_route_31 : decode cL_route 31 = .ok (.if_icmp .ne 21, 3) := by decide +kernel
theorem dL_route_34 : decode cL_route 34 = .ok (.aload_n 1, 1) := by decide +kernel
theorem dL_route_35 : decode cL_route 35 = .ok (.iload 7, 2) := by decide +kernel
theorem dL_route_37 : decode cL_route 37 = .ok (.iaload, 1) := by decide +kernel
theorem dL_route_38 : decode cL_route 38 = .ok (.iload 6, 2) := by decide +kernel
theorem dL_route_40 : decode cL_route 40 = .ok (.if_icmp .ne 12, 3) := by decide +kernel
theorem dL_route_43 : decode cL_route 43 = .ok (.aload_n 3, 1) := by decide +kernel
theorem dL_route_44 : decode cL_route 44 = .ok (.iload 5, 2) := by decide +kernel
theorem dL_route_46 : decode cL_route 46 = .ok (.iload 6, 2) := by decide +kernel
theorem dL_route_48 : decode cL_route 48 = .ok (.iastore, 1) := by decide +kernel
theorem dL_route_49 : decode cL_route 49 = .ok (.iinc 5 1, 3) := by decide +kernel
theorem dL_route_52 : decode cL_route 52 = .ok (.iinc 7 1, 3) := by decide +kernel
theorem dL_route_55 : decode cL_route 55 = .ok (.goto (-38), 3) := by decide +kernel
theorem dL_route_58 : decode cL_route 58 = .ok (.iinc 6 1, 3) := by decide +kernel
theorem dL_route_61 : decode cL_route 61 = .ok (.goto (-55), 3) := by decide +kernel
theorem dL_route_64 : decode cL_route 64 = .ok (.iconst (-1), 1) := by decide +kernel
theorem dL_route_65 : decode cL_route 65 = .ok (.istore 6, 2) := by decide +kernel
theorem dL_route_67 : decode cL_route 67 = .ok (.iconst 1, 1) := by decide +kernel
theorem dL_route_68 : decode cL_route 68 = .ok (.istore 7, 2) := by decide +kernel
theorem dL_route_70 : decode cL_route 70 = .ok (.iload 7, 2) := by decide +kernel
theorem dL_route_72 : decode cL_route 72 = .ok (.ifCond .eq 115, 3) := by decide +kernel
theorem dL_route_75 : decode cL_route 75 = .ok (.iconst 0, 1) := by decide +kernel
theorem dL_route_76 : decode cL_route 76 = .ok (.istore 8, 2) := by decide +kernel
theorem dL_route_78 : decode cL_route 78 = .ok (.iconst 0, 1) := by decide +kernel
theorem dL_route_79 : decode cL_route 79 = .ok (.istore 9, 2) := by decide +kernel
theorem dL_route_81 : decode cL_route 81 = .ok (.iload 9, 2) := by decide +kernel
theorem dL_route_83 : decode cL_route 83 = .ok (.iload 5, 2) := by decide +kernel
theorem dL_route_85 : decode cL_route 85 = .ok (.if_icmp .gt 49, 3) := by decide +kernel
theorem dL_route_88 : decode cL_route 88 = .ok (.iload 8, 2) := by decide +kernel
theorem dL_route_90 : decode cL_route 90 = .ok (.iload 9, 2) := by decide +kernel
theorem dL_route_92 : decode cL_route 92 = .ok (.ifCond .ne 7, 3) := by decide +kernel
theorem dL_route_95 : decode cL_route 95 = .ok (.iconst 0, 1) := by decide +kernel
theorem dL_route_96 : decode cL_route 96 = .ok (.goto 9, 3) := by decide +kernel
theorem dL_route_99 : decode cL_route 99 = .ok (.aload_n 3, 1) := by decide +kernel
theorem dL_route_100 : decode cL_route 100 = .ok (.iload 9, 2) := by decide +kernel
theorem dL_route_102 : decode cL_route 102 = .ok (.iconst 1, 1) := by decide +kernel
theorem dL_route_103 : decode cL_route 103 = .ok (.isub, 1) := by decide +kernel
theorem dL_route_104 : decode cL_route 104 = .ok (.iaload, 1) := by decide +kernel
theorem dL_route_105 : decode cL_route 105 = .ok (.iload 9, 2) := by decide +kernel
theorem dL_route_107 : decode cL_route 107 = .ok (.iload 5, 2) := by decide +kernel
theorem dL_route_109 : decode cL_route 109 = .ok (.if_icmp .ne 7, 3) := by decide +kernel
theorem dL_route_112 : decode cL_route 112 = .ok (.iconst 0, 1) := by decide +kernel
theorem dL_route_113 : decode cL_route 113 = .ok (.goto 7, 3) := by decide +kernel
theorem dL_route_116 : decode cL_route 116 = .ok (.aload_n 3, 1) := by decide +kernel
theorem dL_route_117 : decode cL_route 117 = .ok (.iload 9, 2) := by decide +kernel
theorem dL_route_119 : decode cL_route 119 = .ok (.iaload, 1) := by decide +kernel
theorem dL_route_120 : decode cL_route 120 = .ok (.aload 4, 2) := by decide +kernel
theorem dL_route_122 : decode cL_route 122 = .ok (.invokestatic 52, 3) := by decide +kernel
theorem dL_route_125 : decode cL_route 125 = .ok (.iadd, 1) := by decide +kernel
theorem dL_route_126 : decode cL_route 126 = .ok (.istore 8, 2) := by decide +kernel
theorem dL_route_128 : decode cL_route 128 = .ok (.iinc 9 1, 3) := by decide +kernel
theorem dL_route_131 : decode cL_route 131 = .ok (.goto (-50), 3) := by decide +kernel
theorem dL_route_134 : decode cL_route 134 = .ok (.iload 6, 2) := by decide +kernel
theorem dL_route_136 : decode cL_route 136 = .ok (.ifCond .lt 10, 3) := by decide +kernel
theorem dL_route_139 : decode cL_route 139 = .ok (.iload 8, 2) := by decide +kernel
theorem dL_route_141 : decode cL_route 141 = .ok (.iload 6, 2) := by decide +kernel
theorem dL_route_143 : decode cL_route 143 = .ok (.if_icmp .ge 33, 3) := by decide +kernel
theorem dL_route_146 : decode cL_route 146 = .ok (.iload 8, 2) := by decide +kernel
theorem dL_route_148 : decode cL_route 148 = .ok (.istore 6, 2) := by decide +kernel
theorem dL_route_150 : decode cL_route 150 = .ok (.iconst 0, 1) := by decide +kernel
theorem dL_route_151 : decode cL_route 151 = .ok (.istore 9, 2) := by decide +kernel
theorem dL_route_153 : decode cL_route 153 = .ok (.iload 9, 2) := by decide +kernel
theorem dL_route_155 : decode cL_route 155 = .ok (.iload 5, 2) := by decide +kernel
theorem dL_route_157 : decode cL_route 157 = .ok (.if_icmp .ge 19, 3) := by decide +kernel
theorem dL_route_160 : decode cL_route 160 = .ok (.aload_n 2, 1) := by decide +kernel
theorem dL_route_161 : decode cL_route 161 = .ok (.iconst 1, 1) := by decide +kernel
theorem dL_route_162 : decode cL_route 162 = .ok (.iload 9, 2) := by decide +kernel
theorem dL_route_164 : decode cL_route 164 = .ok (.iadd, 1) := by decide +kernel
theorem dL_route_165 : decode cL_route 165 = .ok (.aload_n 3, 1) := by decide +kernel
theorem dL_route_166 : decode cL_route 166 = .ok (.iload 9, 2) := by decide +kernel
theorem dL_route_168 : decode cL_route 168 = .ok (.iaload, 1) := by decide +kernel
theorem dL_route_169 : decode cL_route 169 = .ok (.iastore, 1) := by decide +kernel
theorem dL_route_170 : decode cL_route 170 = .ok (.iinc 9 1, 3) := by decide +kernel
theorem dL_route_173 : decode cL_route 173 = .ok (.goto (-20), 3) := by decide +kernel
theorem dL_route_176 : decode cL_route 176 = .ok (.aload_n 3, 1) := by decide +kernel
theorem dL_route_177 : decode cL_route 177 = .ok (.iload 5, 2) := by decide +kernel
theorem dL_route_179 : decode cL_route 179 = .ok (.invokestatic 56, 3) := by decide +kernel
theorem dL_route_182 : decode cL_route 182 = .ok (.istore 7, 2) := by decide +kernel
theorem dL_route_184 : decode cL_route 184 = .ok (.goto (-114), 3) := by decide +kernel
theorem dL_route_187 : decode cL_route 187 = .ok (.aload_n 2, 1) := by decide +kernel
theorem dL_route_188 : decode cL_route 188 = .ok (.iconst 0, 1) := by decide +kernel
theorem dL_route_189 : decode cL_route 189 = .ok (.iload 5, 2) := by decide +kernel
theorem dL_route_191 : decode cL_route 191 = .ok (.iastore, 1) := by decide +kernel
theorem dL_route_192 : decode cL_route 192 = .ok (.iload 6, 2) := by decide +kernel
theorem dL_route_194 : decode cL_route 194 = .ok (.ireturn, 1) := by decide +kernel
theorem dL_next_0 : decode cL_next 0 = .ok (.iload_n 1, 1) := by decide +kernel
theorem dL_next_1 : decode cL_next 1 = .ok (.iconst 2, 1) := by decide +kernel
theorem dL_next_2 : decode cL_next 2 = .ok (.isub, 1) := by decide +kernel
theorem dL_next_3 : decode cL_next 3 = .ok (.istore_n 2, 1) := by decide +kernel
theorem dL_next_4 : decode cL_next 4 = .ok (.iload_n 2, 1) := by decide +kernel
theorem dL_next_5 : decode cL_next 5 = .ok (.ifCond .lt 20, 3) := by decide +kernel
theorem dL_next_8 : decode cL_next 8 = .ok (.aload_n 0, 1) := by decide +kernel
theorem dL_next_9 : decode cL_next 9 = .ok (.iload_n 2, 1) := by decide +kernel
theorem dL_next_10 : decode cL_next 10 = .ok (.iaload, 1) := by decide +kernel
theorem dL_next_11 : decode cL_next 11 = .ok (.aload_n 0, 1) := by decide +kernel
theorem dL_next_12 : decode cL_next 12 = .ok (.iload_n 2, 1) := by decide +kernel
theorem dL_next_13 : decode cL_next 13 = .ok (.iconst 1, 1) := by decide +kernel
theorem dL_next_14 : decode cL_next 14 = .ok (.iadd, 1) := by decide +kernel
theorem dL_next_15 : decode cL_next 15 = .ok (.iaload, 1) := by decide +kernel
theorem dL_next_16 : decode cL_next 16 = .ok (.if_icmp .le 9, 3) := by decide +kernel
theorem dL_next_19 : decode cL_next 19 = .ok (.iinc 2 (-1), 3) := by decide +kernel
theorem dL_next_22 : decode cL_next 22 = .ok (.goto (-18), 3) := by decide +kernel
theorem dL_next_25 : decode cL_next 25 = .ok (.iload_n 2, 1) := by decide +kernel
theorem dL_next_26 : decode cL_next 26 = .ok (.ifCond .ge 5, 3) := by decide +kernel
theorem dL_next_29 : decode cL_next 29 = .ok (.iconst 0, 1) := by decide +kernel
theorem dL_next_30 : decode cL_next 30 = .ok (.ireturn, 1) := by decide +kernel
theorem dL_next_31 : decode cL_next 31 = .ok (.iload_n 1, 1) := by decide +kernel
theorem dL_next_32 : decode cL_next 32 = .ok (.iconst 1, 1) := by decide +kernel
theorem dL_next_33 : decode cL_next 33 = .ok (.isub, 1) := by decide +kernel
theorem dL_next_34 : decode cL_next 34 = .ok (.istore_n 3, 1) := by decide +kernel
theorem dL_next_35 : decode cL_next 35 = .ok (.aload_n 0, 1) := by decide +kernel
theorem dL_next_36 : decode cL_next 36 = .ok (.iload_n 3, 1) := by decide +kernel
theorem dL_next_37 : decode cL_next 37 = .ok (.iaload, 1) := by decide +kernel
theorem dL_next_38 : decode cL_next 38 = .ok (.aload_n 0, 1) := by decide +kernel
theorem dL_next_39 : decode cL_next 39 = .ok (.iload_n 2, 1) := by decide +kernel
theorem dL_next_40 : decode cL_next 40 = .ok (.iaload, 1) := by decide +kernel
theorem dL_next_41 : decode cL_next 41 = .ok (.if_icmp .ge 9, 3) := by decide +kernel
theorem dL_next_44 : decode cL_next 44 = .ok (.iinc 3 (-1), 3) := by decide +kernel
theorem dL_next_47 : decode cL_next 47 = .ok (.goto (-12), 3) := by decide +kernel
theorem dL_next_50 : decode cL_next 50 = .ok (.aload_n 0, 1) := by decide +kernel
theorem dL_next_51 : decode cL_next 51 = .ok (.iload_n 2, 1) := by decide +kernel
theorem dL_next_52 : decode cL_next 52 = .ok (.iaload, 1) := by decide +kernel
theorem dL_next_53 : decode cL_next 53 = .ok (.istore 4, 2) := by decide +kernel
theorem dL_next_55 : decode cL_next 55 = .ok (.aload_n 0, 1) := by decide +kernel
theorem dL_next_56 : decode cL_next 56 = .ok (.iload_n 2, 1) := by decide +kernel
theorem dL_next_57 : decode cL_next 57 = .ok (.aload_n 0, 1) := by decide +kernel
theorem dL_next_58 : decode cL_next 58 = .ok (.iload_n 3, 1) := by decide +kernel
theorem dL_next_59 : decode cL_next 59 = .ok (.iaload, 1) := by decide +kernel
theorem dL_next_60 : decode cL_next 60 = .ok (.iastore, 1) := by decide +kernel
theorem dL_next_61 : decode cL_next 61 = .ok (.aload_n 0, 1) := by decide +kernel
theorem dL_next_62 : decode cL_next 62 = .ok (.iload_n 3, 1) := by decide +kernel
theorem dL_next_63 : decode cL_next 63 = .ok (.iload 4, 2) := by decide +kernel
theorem dL_next_65 : decode cL_next 65 = .ok (.iastore, 1) := by decide +kernel
theorem dL_next_66 : decode cL_next 66 = .ok (.iload_n 2, 1) := by decide +kernel
theorem dL_next_67 : decode cL_next 67 = .ok (.iconst 1, 1) := by decide +kernel
theorem dL_next_68 : decode cL_next 68 = .ok (.iadd, 1) := by decide +kernel
theorem dL_next_69 : decode cL_next 69 = .ok (.istore 5, 2) := by decide +kernel
theorem dL_next_71 : decode cL_next 71 = .ok (.iload_n 1, 1) := by decide +kernel
theorem dL_next_72 : decode cL_next 72 = .ok (.iconst 1, 1) := by decide +kernel
theorem dL_next_73 : decode cL_next 73 = .ok (.isub, 1) := by decide +kernel
theorem dL_next_74 : decode cL_next 74 = .ok (.istore 6, 2) := by decide +kernel
theorem dL_next_76 : decode cL_next 76 = .ok (.iload 5, 2) := by decide +kernel
theorem dL_next_78 : decode cL_next 78 = .ok (.iload 6, 2) := by decide +kernel
theorem dL_next_80 : decode cL_next 80 = .ok (.if_icmp .ge 32, 3) := by decide +kernel
theorem dL_next_83 : decode cL_next 83 = .ok (.aload_n 0, 1) := by decide +kernel
theorem dL_next_84 : decode cL_next 84 = .ok (.iload 5, 2) := by decide +kernel
theorem dL_next_86 : decode cL_next 86 = .ok (.iaload, 1) := by decide +kernel
theorem dL_next_87 : decode cL_next 87 = .ok (.istore 4, 2) := by decide +kernel
theorem dL_next_89 : decode cL_next 89 = .ok (.aload_n 0, 1) := by decide +kernel
theorem dL_next_90 : decode cL_next 90 = .ok (.iload 5, 2) := by decide +kernel
theorem dL_next_92 : decode cL_next 92 = .ok (.aload_n 0, 1) := by decide +kernel
theorem dL_next_93 : decode cL_next 93 = .ok (.iload 6, 2) := by decide +kernel
theorem dL_next_95 : decode cL_next 95 = .ok (.iaload, 1) := by decide +kernel
theorem dL_next_96 : decode cL_next 96 = .ok (.iastore, 1) := by decide +kernel
theorem dL_next_97 : decode cL_next 97 = .ok (.aload_n 0, 1) := by decide +kernel
theorem dL_next_98 : decode cL_next 98 = .ok (.iload 6, 2) := by decide +kernel
theorem dL_next_100 : decode cL_next 100 = .ok (.iload 4, 2) := by decide +kernel
theorem dL_next_102 : decode cL_next 102 = .ok (.iastore, 1) := by decide +kernel
theorem dL_next_103 : decode cL_next 103 = .ok (.iinc 6 (-1), 3) := by decide +kernel
theorem dL_next_106 : decode cL_next 106 = .ok (.iinc 5 1, 3) := by decide +kernel
theorem dL_next_109 : decode cL_next 109 = .ok (.goto (-33), 3) := by decide +kernel
theorem dL_next_112 : decode cL_next 112 = .ok (.iconst 1, 1) := by decide +kernel
theorem dL_next_113 : decode cL_next 113 = .ok (.ireturn, 1) := by decide +kernel
theorem dL_through_0 : decode cL_through 0 = .ok (.iconst 0, 1) := by decide +kernel
theorem dL_through_1 : decode cL_through 1 = .ok (.istore_n 3, 1) := by decide +kernel
theorem dL_through_2 : decode cL_through 2 = .ok (.iconst 0, 1) := by decide +kernel
theorem dL_through_3 : decode cL_through 3 = .ok (.istore 4, 2) := by decide +kernel
theorem dL_through_5 : decode cL_through 5 = .ok (.iconst 0, 1) := by decide +kernel
theorem dL_through_6 : decode cL_through 6 = .ok (.istore 5, 2) := by decide +kernel
theorem dL_through_8 : decode cL_through 8 = .ok (.iconst (-1), 1) := by decide +kernel
theorem dL_through_9 : decode cL_through 9 = .ok (.istore 6, 2) := by decide +kernel
theorem dL_through_11 : decode cL_through 11 = .ok (.iconst 0, 1) := by decide +kernel
theorem dL_through_12 : decode cL_through 12 = .ok (.istore 7, 2) := by decide +kernel
theorem dL_through_14 : decode cL_through 14 = .ok (.iload 7, 2) := by decide +kernel
theorem dL_through_16 : decode cL_through 16 = .ok (.aload_n 2, 1) := by decide +kernel
theorem dL_through_17 : decode cL_through 17 = .ok (.iconst 5, 1) := by decide +kernel
theorem dL_through_18 : decode cL_through 18 = .ok (.iaload, 1) := by decide +kernel
theorem dL_through_19 : decode cL_through 19 = .ok (.if_icmp .ge 194, 3) := by decide +kernel
theorem dL_through_22 : decode cL_through 22 = .ok (.iconst 0, 1) := by decide +kernel
theorem dL_through_23 : decode cL_through 23 = .ok (.istore 8, 2) := by decide +kernel
theorem dL_through_25 : decode cL_through 25 = .ok (.iconst 0, 1) := by decide +kernel
theorem dL_through_26 : decode cL_through 26 = .ok (.istore 9, 2) := by decide +kernel
theorem dL_through_28 : decode cL_through 28 = .ok (.iload 9, 2) := by decide +kernel
theorem dL_through_30 : decode cL_through 30 = .ok (.bipush 20, 2) := by decide +kernel
theorem dL_through_32 : decode cL_through 32 = .ok (.if_icmp .ge 105, 3) := by decide +kernel
theorem dL_through_35 : decode cL_through 35 = .ok (.iload_n 0, 1) := by decide +kernel
theorem dL_through_36 : decode cL_through 36 = .ok (.iload 9, 2) := by decide +kernel
theorem dL_through_38 : decode cL_through 38 = .ok (.ishr, 1) := by decide +kernel
theorem dL_through_39 : decode cL_through 39 = .ok (.iconst 1, 1) := by decide +kernel
theorem dL_through_40 : decode cL_through 40 = .ok (.iand, 1) := by decide +kernel
theorem dL_through_41 : decode cL_through 41 = .ok (.iconst 1, 1) := by decide +kernel
theorem dL_through_42 : decode cL_through 42 = .ok (.if_icmp .ne 19, 3) := by decide +kernel
theorem dL_through_45 : decode cL_through 45 = .ok (.aload_n 1, 1) := by decide +kernel
theorem dL_through_46 : decode cL_through 46 = .ok (.iload 9, 2) := by decide +kernel
theorem dL_through_48 : decode cL_through 48 = .ok (.iaload, 1) := by decide +kernel
theorem dL_through_49 : decode cL_through 49 = .ok (.bipush 100, 2) := by decide +kernel
theorem dL_through_51 : decode cL_through 51 = .ok (.idiv, 1) := by decide +kernel
theorem dL_through_52 : decode cL_through 52 = .ok (.iload 7, 2) := by decide +kernel
theorem dL_through_54 : decode cL_through 54 = .ok (.if_icmp .ne 7, 3) := by decide +kernel
theorem dL_through_57 : decode cL_through 57 = .ok (.iconst 1, 1) := by decide +kernel
theorem dL_through_58 : decode cL_through 58 = .ok (.goto 4, 3) := by decide +kernel
theorem dL_through_61 : decode cL_through 61 = .ok (.iconst 0, 1) := by decide +kernel
theorem dL_through_62 : decode cL_through 62 = .ok (.istore 10, 2) := by decide +kernel
theorem dL_through_64 : decode cL_through 64 = .ok (.iload 10, 2) := by decide +kernel
theorem dL_through_66 : decode cL_through 66 = .ok (.ifCond .eq 25, 3) := by decide +kernel
theorem dL_through_69 : decode cL_through 69 = .ok (.aload_n 1, 1) := by decide +kernel
theorem dL_through_70 : decode cL_through 70 = .ok (.iload 9, 2) := by decide +kernel
theorem dL_through_72 : decode cL_through 72 = .ok (.iaload, 1) := by decide +kernel
theorem dL_through_73 : decode cL_through 73 = .ok (.bipush 100, 2) := by decide +kernel
theorem dL_through_75 : decode cL_through 75 = .ok (.irem, 1) := by decide +kernel
theorem dL_through_76 : decode cL_through 76 = .ok (.iload 8, 2) := by decide +kernel
theorem dL_through_78 : decode cL_through 78 = .ok (.if_icmp .le 13, 3) := by decide +kernel
theorem dL_through_81 : decode cL_through 81 = .ok (.aload_n 1, 1) := by decide +kernel
theorem dL_through_82 : decode cL_through 82 = .ok (.iload 9, 2) := by decide +kernel
theorem dL_through_84 : decode cL_through 84 = .ok (.iaload, 1) := by decide +kernel
theorem dL_through_85 : decode cL_through 85 = .ok (.bipush 100, 2) := by decide +kernel
theorem dL_through_87 : decode cL_through 87 = .ok (.irem, 1) := by decide +kernel
theorem dL_through_88 : decode cL_through 88 = .ok (.goto 5, 3) := by decide +kernel
theorem dL_through_91 : decode cL_through 91 = .ok (.iload 8, 2) := by decide +kernel
theorem dL_through_93 : decode cL_through 93 = .ok (.istore 8, 2) := by decide +kernel
theorem dL_through_95 : decode cL_through 95 = .ok (.iload_n 0, 1) := by decide +kernel
theorem dL_through_96 : decode cL_through 96 = .ok (.iload 9, 2) := by decide +kernel
theorem dL_through_98 : decode cL_through 98 = .ok (.ishr, 1) := by decide +kernel
theorem dL_through_99 : decode cL_through 99 = .ok (.iconst 1, 1) := by decide +kernel
theorem dL_through_100 : decode cL_through 100 = .ok (.iand, 1) := by decide +kernel
theorem dL_through_101 : decode cL_through 101 = .ok (.iconst 1, 1) := by decide +kernel
theorem dL_through_102 : decode cL_through 102 = .ok (.if_icmp .ne 25, 3) := by decide +kernel
theorem dL_through_105 : decode cL_through 105 = .ok (.aload_n 1, 1) := by decide +kernel
theorem dL_through_106 : decode cL_through 106 = .ok (.iload 9, 2) := by decide +kernel
theorem dL_through_108 : decode cL_through 108 = .ok (.iaload, 1) := by decide +kernel
theorem dL_through_109 : decode cL_through 109 = .ok (.bipush 100, 2) := by decide +kernel
theorem dL_through_111 : decode cL_through 111 = .ok (.idiv, 1) := by decide +kernel
theorem dL_through_112 : decode cL_through 112 = .ok (.iload 6, 2) := by decide +kernel
theorem dL_through_114 : decode cL_through 114 = .ok (.if_icmp .le 13, 3) := by decide +kernel
theorem dL_through_117 : decode cL_through 117 = .ok (.aload_n 1, 1) := by decide +kernel
theorem dL_through_118 : decode cL_through 118 = .ok (.iload 9, 2) := by decide +kernel
theorem dL_through_120 : decode cL_through 120 = .ok (.iaload, 1) := by decide +kernel
theorem dL_through_121 : decode cL_through 121 = .ok (.bipush 100, 2) := by decide +kernel
theorem dL_through_123 : decode cL_through 123 = .ok (.idiv, 1) := by decide +kernel
theorem dL_through_124 : decode cL_through 124 = .ok (.goto 5, 3) := by decide +kernel
theorem dL_through_127 : decode cL_through 127 = .ok (.iload 6, 2) := by decide +kernel
theorem dL_through_129 : decode cL_through 129 = .ok (.istore 6, 2) := by decide +kernel
theorem dL_through_131 : decode cL_through 131 = .ok (.iinc 9 1, 3) := by decide +kernel
theorem dL_through_134 : decode cL_through 134 = .ok (.goto (-106), 3) := by decide +kernel
theorem dL_through_137 : decode cL_through 137 = .ok (.iload 8, 2) := by decide +kernel
theorem dL_through_139 : decode cL_through 139 = .ok (.ifCond .le 68, 3) := by decide +kernel
theorem dL_through_142 : decode cL_through 142 = .ok (.iload 5, 2) := by decide +kernel
theorem dL_through_144 : decode cL_through 144 = .ok (.iload 7, 2) := by decide +kernel
theorem dL_through_146 : decode cL_through 146 = .ok (.iload 4, 2) := by decide +kernel
theorem dL_through_148 : decode cL_through 148 = .ok (.isub, 1) := by decide +kernel
theorem dL_through_149 : decode cL_through 149 = .ok (.aload_n 2, 1) := by decide +kernel
theorem dL_through_150 : decode cL_through 150 = .ok (.bipush 7, 2) := by decide +kernel
theorem dL_through_152 : decode cL_through 152 = .ok (.iaload, 1) := by decide +kernel
theorem dL_through_153 : decode cL_through 153 = .ok (.imul, 1) := by decide +kernel
theorem dL_through_154 : decode cL_through 154 = .ok (.iload 7, 2) := by decide +kernel
theorem dL_through_156 : decode cL_through 156 = .ok (.iload 6, 2) := by decide +kernel
theorem dL_through_158 : decode cL_through 158 = .ok (.if_icmp .lt 8, 3) := by decide +kernel
theorem dL_through_161 : decode cL_through 161 = .ok (.iload_n 3, 1) := by decide +kernel
theorem dL_through_162 : decode cL_through 162 = .ok (.iconst 1, 1) := by decide +kernel
theorem dL_through_163 : decode cL_through 163 = .ok (.if_icmp .ne 12, 3) := by decide +kernel
theorem dL_through_166 : decode cL_through 166 = .ok (.aload_n 2, 1) := by decide +kernel
theorem dL_through_167 : decode cL_through 167 = .ok (.bipush 6, 2) := by decide +kernel
theorem dL_through_169 : decode cL_through 169 = .ok (.iaload, 1) := by decide +kernel
theorem dL_through_170 : decode cL_through 170 = .ok (.iconst 1, 1) := by decide +kernel
theorem dL_through_171 : decode cL_through 171 = .ok (.iadd, 1) := by decide +kernel
theorem dL_through_172 : decode cL_through 172 = .ok (.goto 7, 3) := by decide +kernel
theorem dL_through_175 : decode cL_through 175 = .ok (.iconst 2, 1) := by decide +kernel
theorem dL_through_176 : decode cL_through 176 = .ok (.iload 8, 2) := by decide +kernel
theorem dL_through_178 : decode cL_through 178 = .ok (.imul, 1) := by decide +kernel
theorem dL_through_179 : decode cL_through 179 = .ok (.iadd, 1) := by decide +kernel
theorem dL_through_180 : decode cL_through 180 = .ok (.iadd, 1) := by decide +kernel
theorem dL_through_181 : decode cL_through 181 = .ok (.istore 5, 2) := by decide +kernel
theorem dL_through_183 : decode cL_through 183 = .ok (.iload 7, 2) := by decide +kernel
theorem dL_through_185 : decode cL_through 185 = .ok (.iload 6, 2) := by decide +kernel
theorem dL_through_187 : decode cL_through 187 = .ok (.if_icmp .lt 8, 3) := by decide +kernel
theorem dL_through_190 : decode cL_through 190 = .ok (.iload_n 3, 1) := by decide +kernel
theorem dL_through_191 : decode cL_through 191 = .ok (.iconst 1, 1) := by decide +kernel
theorem dL_through_192 : decode cL_through 192 = .ok (.if_icmp .ne 9, 3) := by decide +kernel
theorem dL_through_195 : decode cL_through 195 = .ok (.iconst 1, 1) := by decide +kernel
theorem dL_through_196 : decode cL_through 196 = .ok (.iload_n 3, 1) := by decide +kernel
theorem dL_through_197 : decode cL_through 197 = .ok (.isub, 1) := by decide +kernel
theorem dL_through_198 : decode cL_through 198 = .ok (.goto 4, 3) := by decide +kernel
theorem dL_through_201 : decode cL_through 201 = .ok (.iload_n 3, 1) := by decide +kernel
theorem dL_through_202 : decode cL_through 202 = .ok (.istore_n 3, 1) := by decide +kernel
theorem dL_through_203 : decode cL_through 203 = .ok (.iload 7, 2) := by decide +kernel
theorem dL_through_205 : decode cL_through 205 = .ok (.istore 4, 2) := by decide +kernel
theorem dL_through_207 : decode cL_through 207 = .ok (.iinc 7 1, 3) := by decide +kernel
theorem dL_through_210 : decode cL_through 210 = .ok (.goto (-196), 3) := by decide +kernel
theorem dL_through_213 : decode cL_through 213 = .ok (.iload 5, 2) := by decide +kernel
theorem dL_through_215 : decode cL_through 215 = .ok (.iload 4, 2) := by decide +kernel
theorem dL_through_217 : decode cL_through 217 = .ok (.aload_n 2, 1) := by decide +kernel
theorem dL_through_218 : decode cL_through 218 = .ok (.bipush 7, 2) := by decide +kernel
theorem dL_through_220 : decode cL_through 220 = .ok (.iaload, 1) := by decide +kernel
theorem dL_through_221 : decode cL_through 221 = .ok (.imul, 1) := by decide +kernel
theorem dL_through_222 : decode cL_through 222 = .ok (.iadd, 1) := by decide +kernel
theorem dL_through_223 : decode cL_through 223 = .ok (.ireturn, 1) := by decide +kernel
theorem dL_plans_0 : decode cL_plans 0 = .ok (.iconst 0, 1) := by decide +kernel
theorem dL_plans_1 : decode cL_plans 1 = .ok (.istore 7, 2) := by decide +kernel
theorem dL_plans_3 : decode cL_plans 3 = .ok (.iload 7, 2) := by decide +kernel
theorem dL_plans_5 : decode cL_plans 5 = .ok (.aload 6, 2) := by decide +kernel
theorem dL_plans_7 : decode cL_plans 7 = .ok (.iconst 1, 1) := by decide +kernel
theorem dL_plans_8 : decode cL_plans 8 = .ok (.iaload, 1) := by decide +kernel
theorem dL_plans_9 : decode cL_plans 9 = .ok (.if_icmp .ge 70, 3) := by decide +kernel
theorem dL_plans_12 : decode cL_plans 12 = .ok (.aload_n 2, 1) := by decide +kernel
theorem dL_plans_13 : decode cL_plans 13 = .ok (.iconst 4, 1) := by decide +kernel
theorem dL_plans_14 : decode cL_plans 14 = .ok (.iload 7, 2) := by decide +kernel
theorem dL_plans_16 : decode cL_plans 16 = .ok (.imul, 1) := by decide +kernel
theorem dL_plans_17 : decode cL_plans 17 = .ok (.iconst 1, 1) := by decide +kernel
theorem dL_plans_18 : decode cL_plans 18 = .ok (.iadd, 1) := by decide +kernel
theorem dL_plans_19 : decode cL_plans 19 = .ok (.iaload, 1) := by decide +kernel
theorem dL_plans_20 : decode cL_plans 20 = .ok (.ifCond .ne 53, 3) := by decide +kernel
theorem dL_plans_23 : decode cL_plans 23 = .ok (.aload_n 2, 1) := by decide +kernel
theorem dL_plans_24 : decode cL_plans 24 = .ok (.iconst 4, 1) := by decide +kernel
theorem dL_plans_25 : decode cL_plans 25 = .ok (.iload 7, 2) := by decide +kernel
theorem dL_plans_27 : decode cL_plans 27 = .ok (.imul, 1) := by decide +kernel
theorem dL_plans_28 : decode cL_plans 28 = .ok (.iconst 3, 1) := by decide +kernel
theorem dL_plans_29 : decode cL_plans 29 = .ok (.iadd, 1) := by decide +kernel
theorem dL_plans_30 : decode cL_plans 30 = .ok (.iaload, 1) := by decide +kernel
theorem dL_plans_31 : decode cL_plans 31 = .ok (.ifCond .le 42, 3) := by decide +kernel
theorem dL_plans_34 : decode cL_plans 34 = .ok (.aload_n 2, 1) := by decide +kernel
theorem dL_plans_35 : decode cL_plans 35 = .ok (.iconst 4, 1) := by decide +kernel
theorem dL_plans_36 : decode cL_plans 36 = .ok (.iload 7, 2) := by decide +kernel
theorem dL_plans_38 : decode cL_plans 38 = .ok (.imul, 1) := by decide +kernel
theorem dL_plans_39 : decode cL_plans 39 = .ok (.iaload, 1) := by decide +kernel
theorem dL_plans_40 : decode cL_plans 40 = .ok (.iload_n 0, 1) := by decide +kernel
theorem dL_plans_41 : decode cL_plans 41 = .ok (.if_icmp .gt 32, 3) := by decide +kernel
theorem dL_plans_44 : decode cL_plans 44 = .ok (.aload_n 2, 1) := by decide +kernel
theorem dL_plans_45 : decode cL_plans 45 = .ok (.iconst 4, 1) := by decide +kernel
theorem dL_plans_46 : decode cL_plans 46 = .ok (.iload 7, 2) := by decide +kernel
theorem dL_plans_48 : decode cL_plans 48 = .ok (.imul, 1) := by decide +kernel
theorem dL_plans_49 : decode cL_plans 49 = .ok (.iconst 1, 1) := by decide +kernel
theorem dL_plans_50 : decode cL_plans 50 = .ok (.iadd, 1) := by decide +kernel
theorem dL_plans_51 : decode cL_plans 51 = .ok (.iconst 1, 1) := by decide +kernel
theorem dL_plans_52 : decode cL_plans 52 = .ok (.iastore, 1) := by decide +kernel
theorem dL_plans_53 : decode cL_plans 53 = .ok (.aload_n 2, 1) := by decide +kernel
theorem dL_plans_54 : decode cL_plans 54 = .ok (.iconst 4, 1) := by decide +kernel
theorem dL_plans_55 : decode cL_plans 55 = .ok (.iload 7, 2) := by decide +kernel
theorem dL_plans_57 : decode cL_plans 57 = .ok (.imul, 1) := by decide +kernel
theorem dL_plans_58 : decode cL_plans 58 = .ok (.iconst 2, 1) := by decide +kernel
theorem dL_plans_59 : decode cL_plans 59 = .ok (.iadd, 1) := by decide +kernel
theorem dL_plans_60 : decode cL_plans 60 = .ok (.aload 6, 2) := by decide +kernel
theorem dL_plans_62 : decode cL_plans 62 = .ok (.iconst 2, 1) := by decide +kernel
theorem dL_plans_63 : decode cL_plans 63 = .ok (.iaload, 1) := by decide +kernel
theorem dL_plans_64 : decode cL_plans 64 = .ok (.iastore, 1) := by decide +kernel
theorem dL_plans_65 : decode cL_plans 65 = .ok (.aload 6, 2) := by decide +kernel
theorem dL_plans_67 : decode cL_plans 67 = .ok (.iconst 2, 1) := by decide +kernel
theorem dL_plans_68 : decode cL_plans 68 = .ok (.dup2, 1) := by decide +kernel
theorem dL_plans_69 : decode cL_plans 69 = .ok (.iaload, 1) := by decide +kernel
theorem dL_plans_70 : decode cL_plans 70 = .ok (.iconst 1, 1) := by decide +kernel
theorem dL_plans_71 : decode cL_plans 71 = .ok (.iadd, 1) := by decide +kernel
theorem dL_plans_72 : decode cL_plans 72 = .ok (.iastore, 1) := by decide +kernel
theorem dL_plans_73 : decode cL_plans 73 = .ok (.iinc 7 1, 3) := by decide +kernel
theorem dL_plans_76 : decode cL_plans 76 = .ok (.goto (-73), 3) := by decide +kernel
theorem dL_plans_79 : decode cL_plans 79 = .ok (.iconst 1, 1) := by decide +kernel
theorem dL_plans_80 : decode cL_plans 80 = .ok (.istore 7, 2) := by decide +kernel
theorem dL_plans_82 : decode cL_plans 82 = .ok (.iload 7, 2) := by decide +kernel
theorem dL_plans_84 : decode cL_plans 84 = .ok (.ifCond .le 281, 3) := by decide +kernel
theorem dL_plans_87 : decode cL_plans 87 = .ok (.iconst 0, 1) := by decide +kernel
theorem dL_plans_88 : decode cL_plans 88 = .ok (.istore 7, 2) := by decide +kernel
theorem dL_plans_90 : decode cL_plans 90 = .ok (.iconst 0, 1) := by decide +kernel
theorem dL_plans_91 : decode cL_plans 91 = .ok (.istore 8, 2) := by decide +kernel
theorem dL_plans_93 : decode cL_plans 93 = .ok (.iconst 0, 1) := by decide +kernel
theorem dL_plans_94 : decode cL_plans 94 = .ok (.istore 9, 2) := by decide +kernel
theorem dL_plans_96 : decode cL_plans 96 = .ok (.iload 9, 2) := by decide +kernel
theorem dL_plans_98 : decode cL_plans 98 = .ok (.aload 6, 2) := by decide +kernel
theorem dL_plans_100 : decode cL_plans 100 = .ok (.iconst 2, 1) := by decide +kernel
theorem dL_plans_101 : decode cL_plans 101 = .ok (.iaload, 1) := by decide +kernel
theorem dL_plans_102 : decode cL_plans 102 = .ok (.aload 6, 2) := by decide +kernel
theorem dL_plans_104 : decode cL_plans 104 = .ok (.iconst 2, 1) := by decide +kernel
theorem dL_plans_105 : decode cL_plans 105 = .ok (.iaload, 1) := by decide +kernel
theorem dL_plans_106 : decode cL_plans 106 = .ok (.imul, 1) := by decide +kernel
theorem dL_plans_107 : decode cL_plans 107 = .ok (.if_icmp .ge 155, 3) := by decide +kernel
theorem dL_plans_110 : decode cL_plans 110 = .ok (.iload 9, 2) := by decide +kernel
theorem dL_plans_112 : decode cL_plans 112 = .ok (.aload 6, 2) := by decide +kernel
theorem dL_plans_114 : decode cL_plans 114 = .ok (.iconst 2, 1) := by decide +kernel
theorem dL_plans_115 : decode cL_plans 115 = .ok (.iaload, 1) := by decide +kernel
theorem dL_plans_116 : decode cL_plans 116 = .ok (.idiv, 1) := by decide +kernel
theorem dL_plans_117 : decode cL_plans 117 = .ok (.istore 10, 2) := by decide +kernel
theorem dL_plans_119 : decode cL_plans 119 = .ok (.iload 9, 2) := by decide +kernel
theorem dL_plans_121 : decode cL_plans 121 = .ok (.aload 6, 2) := by decide +kernel
theorem dL_plans_123 : decode cL_plans 123 = .ok (.iconst 2, 1) := by decide +kernel
theorem dL_plans_124 : decode cL_plans 124 = .ok (.iaload, 1) := by decide +kernel
theorem dL_plans_125 : decode cL_plans 125 = .ok (.irem, 1) := by decide +kernel
theorem dL_plans_126 : decode cL_plans 126 = .ok (.istore 11, 2) := by decide +kernel
theorem dL_plans_128 : decode cL_plans 128 = .ok (.iload 10, 2) := by decide +kernel
theorem dL_plans_130 : decode cL_plans 130 = .ok (.iload 11, 2) := by decide +kernel
theorem dL_plans_132 : decode cL_plans 132 = .ok (.if_icmp .ge 124, 3) := by decide +kernel
theorem dL_plans_135 : decode cL_plans 135 = .ok (.iload 10, 2) := by decide +kernel
theorem dL_plans_137 : decode cL_plans 137 = .ok (.aload_n 2, 1) := by decide +kernel
theorem dL_plans_138 : decode cL_plans 138 = .ok (.aload 6, 2) := by decide +kernel
theorem dL_plans_140 : decode cL_plans 140 = .ok (.invokestatic 60, 3) := by decide +kernel
theorem dL_plans_143 : decode cL_plans 143 = .ok (.iload 11, 2) := by decide +kernel
theorem dL_plans_145 : decode cL_plans 145 = .ok (.aload_n 2, 1) := by decide +kernel
theorem dL_plans_146 : decode cL_plans 146 = .ok (.aload 6, 2) := by decide +kernel
theorem dL_plans_148 : decode cL_plans 148 = .ok (.invokestatic 60, 3) := by decide +kernel
theorem dL_plans_151 : decode cL_plans 151 = .ok (.iadd, 1) := by decide +kernel
theorem dL_plans_152 : decode cL_plans 152 = .ok (.aload 6, 2) := by decide +kernel
theorem dL_plans_154 : decode cL_plans 154 = .ok (.iconst 0, 1) := by decide +kernel
theorem dL_plans_155 : decode cL_plans 155 = .ok (.iaload, 1) := by decide +kernel
theorem dL_plans_156 : decode cL_plans 156 = .ok (.if_icmp .gt 100, 3) := by decide +kernel
theorem dL_plans_159 : decode cL_plans 159 = .ok (.iload 10, 2) := by decide +kernel
theorem dL_plans_161 : decode cL_plans 161 = .ok (.aload_n 2, 1) := by decide +kernel
theorem dL_plans_162 : decode cL_plans 162 = .ok (.aload_n 3, 1) := by decide +kernel
theorem dL_plans_163 : decode cL_plans 163 = .ok (.aload 6, 2) := by decide +kernel
theorem dL_plans_165 : decode cL_plans 165 = .ok (.invokestatic 63, 3) := by decide +kernel
theorem dL_plans_168 : decode cL_plans 168 = .ok (.istore 12, 2) := by decide +kernel
theorem dL_plans_170 : decode cL_plans 170 = .ok (.iload 11, 2) := by decide +kernel
theorem dL_plans_172 : decode cL_plans 172 = .ok (.aload_n 2, 1) := by decide +kernel
theorem dL_plans_173 : decode cL_plans 173 = .ok (.aload_n 3, 1) := by decide +kernel
theorem dL_plans_174 : decode cL_plans 174 = .ok (.aload 6, 2) := by decide +kernel
theorem dL_plans_176 : decode cL_plans 176 = .ok (.invokestatic 63, 3) := by decide +kernel
theorem dL_plans_179 : decode cL_plans 179 = .ok (.istore 13, 2) := by decide +kernel
theorem dL_plans_181 : decode cL_plans 181 = .ok (.iload 12, 2) := by decide +kernel
theorem dL_plans_183 : decode cL_plans 183 = .ok (.aload_n 1, 1) := by decide +kernel
theorem dL_plans_184 : decode cL_plans 184 = .ok (.aload 4, 2) := by decide +kernel
theorem dL_plans_186 : decode cL_plans 186 = .ok (.aload 5, 2) := by decide +kernel
theorem dL_plans_188 : decode cL_plans 188 = .ok (.aload 6, 2) := by decide +kernel
theorem dL_plans_190 : decode cL_plans 190 = .ok (.invokestatic 67, 3) := by decide +kernel
theorem dL_plans_193 : decode cL_plans 193 = .ok (.iload 13, 2) := by decide +kernel
theorem dL_plans_195 : decode cL_plans 195 = .ok (.aload_n 1, 1) := by decide +kernel
theorem dL_plans_196 : decode cL_plans 196 = .ok (.aload 4, 2) := by decide +kernel
theorem dL_plans_198 : decode cL_plans 198 = .ok (.aload 5, 2) := by decide +kernel
theorem dL_plans_200 : decode cL_plans 200 = .ok (.aload 6, 2) := by decide +kernel
theorem dL_plans_202 : decode cL_plans 202 = .ok (.invokestatic 67, 3) := by decide +kernel
theorem dL_plans_205 : decode cL_plans 205 = .ok (.iadd, 1) := by decide +kernel
theorem dL_plans_206 : decode cL_plans 206 = .ok (.iload 12, 2) := by decide +kernel
theorem dL_plans_208 : decode cL_plans 208 = .ok (.iload 13, 2) := by decide +kernel
theorem dL_plans_210 : decode cL_plans 210 = .ok (.ior, 1) := by decide +kernel
theorem dL_plans_211 : decode cL_plans 211 = .ok (.aload_n 1, 1) := by decide +kernel
theorem dL_plans_212 : decode cL_plans 212 = .ok (.aload 4, 2) := by decide +kernel
theorem dL_plans_214 : decode cL_plans 214 = .ok (.aload 5, 2) := by decide +kernel
theorem dL_plans_216 : decode cL_plans 216 = .ok (.aload 6, 2) := by decide +kernel
theorem dL_plans_218 : decode cL_plans 218 = .ok (.invokestatic 67, 3) := by decide +kernel
theorem dL_plans_221 : decode cL_plans 221 = .ok (.isub, 1) := by decide +kernel
theorem dL_plans_222 : decode cL_plans 222 = .ok (.istore 14, 2) := by decide +kernel
theorem dL_plans_224 : decode cL_plans 224 = .ok (.iload 14, 2) := by decide +kernel
theorem dL_plans_226 : decode cL_plans 226 = .ok (.iload 7, 2) := by decide +kernel
theorem dL_plans_228 : decode cL_plans 228 = .ok (.if_icmp .le 8, 3) := by decide +kernel
theorem dL_plans_231 : decode cL_plans 231 = .ok (.iload 9, 2) := by decide +kernel
theorem dL_plans_233 : decode cL_plans 233 = .ok (.goto 5, 3) := by decide +kernel
theorem dL_plans_236 : decode cL_plans 236 = .ok (.iload 8, 2) := by decide +kernel
theorem dL_plans_238 : decode cL_plans 238 = .ok (.istore 8, 2) := by decide +kernel
theorem dL_plans_240 : decode cL_plans 240 = .ok (.iload 14, 2) := by decide +kernel
theorem dL_plans_242 : decode cL_plans 242 = .ok (.iload 7, 2) := by decide +kernel
theorem dL_plans_244 : decode cL_plans 244 = .ok (.if_icmp .le 8, 3) := by decide +kernel
theorem dL_plans_247 : decode cL_plans 247 = .ok (.iload 14, 2) := by decide +kernel
theorem dL_plans_249 : decode cL_plans 249 = .ok (.goto 5, 3) := by decide +kernel
theorem dL_plans_252 : decode cL_plans 252 = .ok (.iload 7, 2) := by decide +kernel
theorem dL_plans_254 : decode cL_plans 254 = .ok (.istore 7, 2) := by decide +kernel
theorem dL_plans_256 : decode cL_plans 256 = .ok (.iinc 9 1, 3) := by decide +kernel
theorem dL_plans_259 : decode cL_plans 259 = .ok (.goto (-163), 3) := by decide +kernel
theorem dL_plans_262 : decode cL_plans 262 = .ok (.iload 8, 2) := by decide +kernel
theorem dL_plans_264 : decode cL_plans 264 = .ok (.aload 6, 2) := by decide +kernel
theorem dL_plans_266 : decode cL_plans 266 = .ok (.iconst 2, 1) := by decide +kernel
theorem dL_plans_267 : decode cL_plans 267 = .ok (.iaload, 1) := by decide +kernel
theorem dL_plans_268 : decode cL_plans 268 = .ok (.irem, 1) := by decide +kernel
theorem dL_plans_269 : decode cL_plans 269 = .ok (.istore 9, 2) := by decide +kernel
theorem dL_plans_271 : decode cL_plans 271 = .ok (.iconst 0, 1) := by decide +kernel
theorem dL_plans_272 : decode cL_plans 272 = .ok (.istore 10, 2) := by decide +kernel
theorem dL_plans_274 : decode cL_plans 274 = .ok (.iload 10, 2) := by decide +kernel
theorem dL_plans_276 : decode cL_plans 276 = .ok (.aload 6, 2) := by decide +kernel
theorem dL_plans_278 : decode cL_plans 278 = .ok (.iconst 1, 1) := by decide +kernel
theorem dL_plans_279 : decode cL_plans 279 = .ok (.iaload, 1) := by decide +kernel
theorem dL_plans_280 : decode cL_plans 280 = .ok (.if_icmp .ge 65, 3) := by decide +kernel
theorem dL_plans_283 : decode cL_plans 283 = .ok (.iload 7, 2) := by decide +kernel
theorem dL_plans_285 : decode cL_plans 285 = .ok (.ifCond .le 60, 3) := by decide +kernel
theorem dL_plans_288 : decode cL_plans 288 = .ok (.aload_n 2, 1) := by decide +kernel
theorem dL_plans_289 : decode cL_plans 289 = .ok (.iconst 4, 1) := by decide +kernel
theorem dL_plans_290 : decode cL_plans 290 = .ok (.iload 10, 2) := by decide +kernel
theorem dL_plans_292 : decode cL_plans 292 = .ok (.imul, 1) := by decide +kernel
theorem dL_plans_293 : decode cL_plans 293 = .ok (.iconst 2, 1) := by decide +kernel
theorem dL_plans_294 : decode cL_plans 294 = .ok (.iadd, 1) := by decide +kernel
theorem dL_plans_295 : decode cL_plans 295 = .ok (.iaload, 1) := by decide +kernel
theorem dL_plans_296 : decode cL_plans 296 = .ok (.istore 11, 2) := by decide +kernel
theorem dL_plans_298 : decode cL_plans 298 = .ok (.aload_n 2, 1) := by decide +kernel
theorem dL_plans_299 : decode cL_plans 299 = .ok (.iconst 4, 1) := by decide +kernel
theorem dL_plans_300 : decode cL_plans 300 = .ok (.iload 10, 2) := by decide +kernel
theorem dL_plans_302 : decode cL_plans 302 = .ok (.imul, 1) := by decide +kernel
theorem dL_plans_303 : decode cL_plans 303 = .ok (.iconst 2, 1) := by decide +kernel
theorem dL_plans_304 : decode cL_plans 304 = .ok (.iadd, 1) := by decide +kernel
theorem dL_plans_305 : decode cL_plans 305 = .ok (.iload 11, 2) := by decide +kernel
theorem dL_plans_307 : decode cL_plans 307 = .ok (.iload 9, 2) := by decide +kernel
theorem dL_plans_309 : decode cL_plans 309 = .ok (.if_icmp .ne 13, 3) := by decide +kernel
theorem dL_plans_312 : decode cL_plans 312 = .ok (.iload 8, 2) := by decide +kernel
theorem dL_plans_314 : decode cL_plans 314 = .ok (.aload 6, 2) := by decide +kernel
theorem dL_plans_316 : decode cL_plans 316 = .ok (.iconst 2, 1) := by decide +kernel
theorem dL_plans_317 : decode cL_plans 317 = .ok (.iaload, 1) := by decide +kernel
theorem dL_plans_318 : decode cL_plans 318 = .ok (.idiv, 1) := by decide +kernel
theorem dL_plans_319 : decode cL_plans 319 = .ok (.goto 19, 3) := by decide +kernel
theorem dL_plans_322 : decode cL_plans 322 = .ok (.iload 11, 2) := by decide +kernel
theorem dL_plans_324 : decode cL_plans 324 = .ok (.iload 9, 2) := by decide +kernel
theorem dL_plans_326 : decode cL_plans 326 = .ok (.if_icmp .le 10, 3) := by decide +kernel
theorem dL_plans_329 : decode cL_plans 329 = .ok (.iload 11, 2) := by decide +kernel
theorem dL_plans_331 : decode cL_plans 331 = .ok (.iconst 1, 1) := by decide +kernel
theorem dL_plans_332 : decode cL_plans 332 = .ok (.isub, 1) := by decide +kernel
theorem dL_plans_333 : decode cL_plans 333 = .ok (.goto 5, 3) := by decide +kernel
theorem dL_plans_336 : decode cL_plans 336 = .ok (.iload 11, 2) := by decide +kernel
theorem dL_plans_338 : decode cL_plans 338 = .ok (.iastore, 1) := by decide +kernel
theorem dL_plans_339 : decode cL_plans 339 = .ok (.iinc 10 1, 3) := by decide +kernel
theorem dL_plans_342 : decode cL_plans 342 = .ok (.goto (-68), 3) := by decide +kernel
theorem dL_plans_345 : decode cL_plans 345 = .ok (.aload 6, 2) := by decide +kernel
theorem dL_plans_347 : decode cL_plans 347 = .ok (.iconst 2, 1) := by decide +kernel
theorem dL_plans_348 : decode cL_plans 348 = .ok (.dup2, 1) := by decide +kernel
theorem dL_plans_349 : decode cL_plans 349 = .ok (.iaload, 1) := by decide +kernel
theorem dL_plans_350 : decode cL_plans 350 = .ok (.iload 7, 2) := by decide +kernel
theorem dL_plans_352 : decode cL_plans 352 = .ok (.ifCond .le 7, 3) := by decide +kernel
theorem dL_plans_355 : decode cL_plans 355 = .ok (.iconst 1, 1) := by decide +kernel
theorem dL_plans_356 : decode cL_plans 356 = .ok (.goto 4, 3) := by decide +kernel
theorem dL_plans_359 : decode cL_plans 359 = .ok (.iconst 0, 1) := by decide +kernel
theorem dL_plans_360 : decode cL_plans 360 = .ok (.isub, 1) := by decide +kernel
theorem dL_plans_361 : decode cL_plans 361 = .ok (.iastore, 1) := by decide +kernel
theorem dL_plans_362 : decode cL_plans 362 = .ok (.goto (-280), 3) := by decide +kernel
theorem dL_plans_365 : decode cL_plans 365 = .ok (.return_, 1) := by decide +kernel
theorem dL_picks_0 : decode cL_picks 0 = .ok (.iload_n 0, 1) := by decide +kernel
theorem dL_picks_1 : decode cL_picks 1 = .ok (.aload_n 3, 1) := by decide +kernel
theorem dL_picks_2 : decode cL_picks 2 = .ok (.aload 4, 2) := by decide +kernel
theorem dL_picks_4 : decode cL_picks 4 = .ok (.aload 8, 2) := by decide +kernel
theorem dL_picks_6 : decode cL_picks 6 = .ok (.invokestatic 63, 3) := by decide +kernel
theorem dL_picks_9 : decode cL_picks 9 = .ok (.aload_n 1, 1) := by decide +kernel
theorem dL_picks_10 : decode cL_picks 10 = .ok (.aload 6, 2) := by decide +kernel
theorem dL_picks_12 : decode cL_picks 12 = .ok (.aload 7, 2) := by decide +kernel
theorem dL_picks_14 : decode cL_picks 14 = .ok (.aload 8, 2) := by decide +kernel
theorem dL_picks_16 : decode cL_picks 16 = .ok (.invokestatic 67, 3) := by decide +kernel
theorem dL_picks_19 : decode cL_picks 19 = .ok (.istore 9, 2) := by decide +kernel
theorem dL_picks_21 : decode cL_picks 21 = .ok (.aload 8, 2) := by decide +kernel
theorem dL_picks_23 : decode cL_picks 23 = .ok (.iconst 3, 1) := by decide +kernel
theorem dL_picks_24 : decode cL_picks 24 = .ok (.dup2, 1) := by decide +kernel
theorem dL_picks_25 : decode cL_picks 25 = .ok (.iaload, 1) := by decide +kernel
theorem dL_picks_26 : decode cL_picks 26 = .ok (.iload 9, 2) := by decide +kernel
theorem dL_picks_28 : decode cL_picks 28 = .ok (.iadd, 1) := by decide +kernel
theorem dL_picks_29 : decode cL_picks 29 = .ok (.iastore, 1) := by decide +kernel
theorem dL_picks_30 : decode cL_picks 30 = .ok (.iconst 0, 1) := by decide +kernel
theorem dL_picks_31 : decode cL_picks 31 = .ok (.istore 10, 2) := by decide +kernel
theorem dL_picks_33 : decode cL_picks 33 = .ok (.iload 10, 2) := by decide +kernel
theorem dL_picks_35 : decode cL_picks 35 = .ok (.aload 8, 2) := by decide +kernel
theorem dL_picks_37 : decode cL_picks 37 = .ok (.iconst 1, 1) := by decide +kernel
theorem dL_picks_38 : decode cL_picks 38 = .ok (.iaload, 1) := by decide +kernel
theorem dL_picks_39 : decode cL_picks 39 = .ok (.if_icmp .ge 159, 3) := by decide +kernel
theorem dL_picks_42 : decode cL_picks 42 = .ok (.aload_n 3, 1) := by decide +kernel
theorem dL_picks_43 : decode cL_picks 43 = .ok (.iconst 4, 1) := by decide +kernel
theorem dL_picks_44 : decode cL_picks 44 = .ok (.iload 10, 2) := by decide +kernel
theorem dL_picks_46 : decode cL_picks 46 = .ok (.imul, 1) := by decide +kernel
theorem dL_picks_47 : decode cL_picks 47 = .ok (.iconst 2, 1) := by decide +kernel
theorem dL_picks_48 : decode cL_picks 48 = .ok (.iadd, 1) := by decide +kernel
theorem dL_picks_49 : decode cL_picks 49 = .ok (.iaload, 1) := by decide +kernel
theorem dL_picks_50 : decode cL_picks 50 = .ok (.iload_n 0, 1) := by decide +kernel
theorem dL_picks_51 : decode cL_picks 51 = .ok (.if_icmp .ne 84, 3) := by decide +kernel
theorem dL_picks_54 : decode cL_picks 54 = .ok (.aload 8, 2) := by decide +kernel
theorem dL_picks_56 : decode cL_picks 56 = .ok (.iconst 4, 1) := by decide +kernel
theorem dL_picks_57 : decode cL_picks 57 = .ok (.dup2, 1) := by decide +kernel
theorem dL_picks_58 : decode cL_picks 58 = .ok (.iaload, 1) := by decide +kernel
theorem dL_picks_59 : decode cL_picks 59 = .ok (.iload 10, 2) := by decide +kernel
theorem dL_picks_61 : decode cL_picks 61 = .ok (.aload_n 3, 1) := by decide +kernel
theorem dL_picks_62 : decode cL_picks 62 = .ok (.aload 4, 2) := by decide +kernel
theorem dL_picks_64 : decode cL_picks 64 = .ok (.invokestatic 46, 3) := by decide +kernel
theorem dL_picks_67 : decode cL_picks 67 = .ok (.aload_n 1, 1) := by decide +kernel
theorem dL_picks_68 : decode cL_picks 68 = .ok (.aload 6, 2) := by decide +kernel
theorem dL_picks_70 : decode cL_picks 70 = .ok (.aload 7, 2) := by decide +kernel
theorem dL_picks_72 : decode cL_picks 72 = .ok (.aload 8, 2) := by decide +kernel
theorem dL_picks_74 : decode cL_picks 74 = .ok (.invokestatic 67, 3) := by decide +kernel
theorem dL_picks_77 : decode cL_picks 77 = .ok (.iadd, 1) := by decide +kernel
theorem dL_picks_78 : decode cL_picks 78 = .ok (.iastore, 1) := by decide +kernel
theorem dL_picks_79 : decode cL_picks 79 = .ok (.aload_n 3, 1) := by decide +kernel
theorem dL_picks_80 : decode cL_picks 80 = .ok (.iconst 4, 1) := by decide +kernel
theorem dL_picks_81 : decode cL_picks 81 = .ok (.iload 10, 2) := by decide +kernel
theorem dL_picks_83 : decode cL_picks 83 = .ok (.imul, 1) := by decide +kernel
theorem dL_picks_84 : decode cL_picks 84 = .ok (.iconst 1, 1) := by decide +kernel
theorem dL_picks_85 : decode cL_picks 85 = .ok (.iadd, 1) := by decide +kernel
theorem dL_picks_86 : decode cL_picks 86 = .ok (.iconst 2, 1) := by decide +kernel
theorem dL_picks_87 : decode cL_picks 87 = .ok (.iastore, 1) := by decide +kernel
theorem dL_picks_88 : decode cL_picks 88 = .ok (.iconst 0, 1) := by decide +kernel
theorem dL_picks_89 : decode cL_picks 89 = .ok (.istore 11, 2) := by decide +kernel
theorem dL_picks_91 : decode cL_picks 91 = .ok (.iload 11, 2) := by decide +kernel
theorem dL_picks_93 : decode cL_picks 93 = .ok (.aload_n 3, 1) := by decide +kernel
theorem dL_picks_94 : decode cL_picks 94 = .ok (.iconst 4, 1) := by decide +kernel
theorem dL_picks_95 : decode cL_picks 95 = .ok (.iload 10, 2) := by decide +kernel
theorem dL_picks_97 : decode cL_picks 97 = .ok (.imul, 1) := by decide +kernel
theorem dL_picks_98 : decode cL_picks 98 = .ok (.iconst 3, 1) := by decide +kernel
theorem dL_picks_99 : decode cL_picks 99 = .ok (.iadd, 1) := by decide +kernel
theorem dL_picks_100 : decode cL_picks 100 = .ok (.iaload, 1) := by decide +kernel
theorem dL_picks_101 : decode cL_picks 101 = .ok (.if_icmp .ge 34, 3) := by decide +kernel
theorem dL_picks_104 : decode cL_picks 104 = .ok (.aload_n 2, 1) := by decide +kernel
theorem dL_picks_105 : decode cL_picks 105 = .ok (.aload 4, 2) := by decide +kernel
theorem dL_picks_107 : decode cL_picks 107 = .ok (.iconst 5, 1) := by decide +kernel
theorem dL_picks_108 : decode cL_picks 108 = .ok (.iload 10, 2) := by decide +kernel
theorem dL_picks_110 : decode cL_picks 110 = .ok (.imul, 1) := by decide +kernel
theorem dL_picks_111 : decode cL_picks 111 = .ok (.iload 11, 2) := by decide +kernel
theorem dL_picks_113 : decode cL_picks 113 = .ok (.iadd, 1) := by decide +kernel
theorem dL_picks_114 : decode cL_picks 114 = .ok (.iaload, 1) := by decide +kernel
theorem dL_picks_115 : decode cL_picks 115 = .ok (.dup2, 1) := by decide +kernel
theorem dL_picks_116 : decode cL_picks 116 = .ok (.iaload, 1) := by decide +kernel
theorem dL_picks_117 : decode cL_picks 117 = .ok (.aload 5, 2) := by decide +kernel
theorem dL_picks_119 : decode cL_picks 119 = .ok (.iconst 5, 1) := by decide +kernel
theorem dL_picks_120 : decode cL_picks 120 = .ok (.iload 10, 2) := by decide +kernel
theorem dL_picks_122 : decode cL_picks 122 = .ok (.imul, 1) := by decide +kernel
theorem dL_picks_123 : decode cL_picks 123 = .ok (.iload 11, 2) := by decide +kernel
theorem dL_picks_125 : decode cL_picks 125 = .ok (.iadd, 1) := by decide +kernel
theorem dL_picks_126 : decode cL_picks 126 = .ok (.iaload, 1) := by decide +kernel
theorem dL_picks_127 : decode cL_picks 127 = .ok (.iadd, 1) := by decide +kernel
theorem dL_picks_128 : decode cL_picks 128 = .ok (.iastore, 1) := by decide +kernel
theorem dL_picks_129 : decode cL_picks 129 = .ok (.iinc 11 1, 3) := by decide +kernel
theorem dL_picks_132 : decode cL_picks 132 = .ok (.goto (-41), 3) := by decide +kernel
theorem dL_picks_135 : decode cL_picks 135 = .ok (.aload_n 3, 1) := by decide +kernel
theorem dL_picks_136 : decode cL_picks 136 = .ok (.iconst 4, 1) := by decide +kernel
theorem dL_picks_137 : decode cL_picks 137 = .ok (.iload 10, 2) := by decide +kernel
theorem dL_picks_139 : decode cL_picks 139 = .ok (.imul, 1) := by decide +kernel
theorem dL_picks_140 : decode cL_picks 140 = .ok (.iconst 2, 1) := by decide +kernel
theorem dL_picks_141 : decode cL_picks 141 = .ok (.iadd, 1) := by decide +kernel
theorem dL_picks_142 : decode cL_picks 142 = .ok (.aload_n 3, 1) := by decide +kernel
theorem dL_picks_143 : decode cL_picks 143 = .ok (.iconst 4, 1) := by decide +kernel
theorem dL_picks_144 : decode cL_picks 144 = .ok (.iload 10, 2) := by decide +kernel
theorem dL_picks_146 : decode cL_picks 146 = .ok (.imul, 1) := by decide +kernel
theorem dL_picks_147 : decode cL_picks 147 = .ok (.iconst 2, 1) := by decide +kernel
theorem dL_picks_148 : decode cL_picks 148 = .ok (.iadd, 1) := by decide +kernel
theorem dL_picks_149 : decode cL_picks 149 = .ok (.iaload, 1) := by decide +kernel
theorem dL_picks_150 : decode cL_picks 150 = .ok (.iload_n 0, 1) := by decide +kernel
theorem dL_picks_151 : decode cL_picks 151 = .ok (.if_icmp .ne 7, 3) := by decide +kernel
theorem dL_picks_154 : decode cL_picks 154 = .ok (.iconst (-1), 1) := by decide +kernel
theorem dL_picks_155 : decode cL_picks 155 = .ok (.goto 36, 3) := by decide +kernel
theorem dL_picks_158 : decode cL_picks 158 = .ok (.aload_n 3, 1) := by decide +kernel
theorem dL_picks_159 : decode cL_picks 159 = .ok (.iconst 4, 1) := by decide +kernel
theorem dL_picks_160 : decode cL_picks 160 = .ok (.iload 10, 2) := by decide +kernel
theorem dL_picks_162 : decode cL_picks 162 = .ok (.imul, 1) := by decide +kernel
theorem dL_picks_163 : decode cL_picks 163 = .ok (.iconst 2, 1) := by decide +kernel
theorem dL_picks_164 : decode cL_picks 164 = .ok (.iadd, 1) := by decide +kernel
theorem dL_picks_165 : decode cL_picks 165 = .ok (.iaload, 1) := by decide +kernel
theorem dL_picks_166 : decode cL_picks 166 = .ok (.iload_n 0, 1) := by decide +kernel
theorem dL_picks_167 : decode cL_picks 167 = .ok (.if_icmp .le 16, 3) := by decide +kernel
theorem dL_picks_170 : decode cL_picks 170 = .ok (.aload_n 3, 1) := by decide +kernel
theorem dL_picks_171 : decode cL_picks 171 = .ok (.iconst 4, 1) := by decide +kernel
theorem dL_picks_172 : decode cL_picks 172 = .ok (.iload 10, 2) := by decide +kernel
theorem dL_picks_174 : decode cL_picks 174 = .ok (.imul, 1) := by decide +kernel
theorem dL_picks_175 : decode cL_picks 175 = .ok (.iconst 2, 1) := by decide +kernel
theorem dL_picks_176 : decode cL_picks 176 = .ok (.iadd, 1) := by decide +kernel
theorem dL_picks_177 : decode cL_picks 177 = .ok (.iaload, 1) := by decide +kernel
theorem dL_picks_178 : decode cL_picks 178 = .ok (.iconst 1, 1) := by decide +kernel
theorem dL_picks_179 : decode cL_picks 179 = .ok (.isub, 1) := by decide +kernel
theorem dL_picks_180 : decode cL_picks 180 = .ok (.goto 11, 3) := by decide +kernel
theorem dL_picks_183 : decode cL_picks 183 = .ok (.aload_n 3, 1) := by decide +kernel
theorem dL_picks_184 : decode cL_picks 184 = .ok (.iconst 4, 1) := by decide +kernel
theorem dL_picks_185 : decode cL_picks 185 = .ok (.iload 10, 2) := by decide +kernel
theorem dL_picks_187 : decode cL_picks 187 = .ok (.imul, 1) := by decide +kernel
theorem dL_picks_188 : decode cL_picks 188 = .ok (.iconst 2, 1) := by decide +kernel
theorem dL_picks_189 : decode cL_picks 189 = .ok (.iadd, 1) := by decide +kernel
theorem dL_picks_190 : decode cL_picks 190 = .ok (.iaload, 1) := by decide +kernel
theorem dL_picks_191 : decode cL_picks 191 = .ok (.iastore, 1) := by decide +kernel
theorem dL_picks_192 : decode cL_picks 192 = .ok (.iinc 10 1, 3) := by decide +kernel
theorem dL_picks_195 : decode cL_picks 195 = .ok (.goto (-162), 3) := by decide +kernel
theorem dL_picks_198 : decode cL_picks 198 = .ok (.aload 8, 2) := by decide +kernel
theorem dL_picks_200 : decode cL_picks 200 = .ok (.iconst 2, 1) := by decide +kernel
theorem dL_picks_201 : decode cL_picks 201 = .ok (.dup2, 1) := by decide +kernel
theorem dL_picks_202 : decode cL_picks 202 = .ok (.iaload, 1) := by decide +kernel
theorem dL_picks_203 : decode cL_picks 203 = .ok (.iconst 1, 1) := by decide +kernel
theorem dL_picks_204 : decode cL_picks 204 = .ok (.isub, 1) := by decide +kernel
theorem dL_picks_205 : decode cL_picks 205 = .ok (.iastore, 1) := by decide +kernel
theorem dL_picks_206 : decode cL_picks 206 = .ok (.iload 9, 2) := by decide +kernel
theorem dL_picks_208 : decode cL_picks 208 = .ok (.ireturn, 1) := by decide +kernel
theorem dL_laysOut_0 : decode cL_laysOut 0 = .ok (.iconst 0, 1) := by decide +kernel
theorem dL_laysOut_1 : decode cL_laysOut 1 = .ok (.istore 4, 2) := by decide +kernel
theorem dL_laysOut_3 : decode cL_laysOut 3 = .ok (.iconst 0, 1) := by decide +kernel
theorem dL_laysOut_4 : decode cL_laysOut 4 = .ok (.istore 5, 2) := by decide +kernel
theorem dL_laysOut_6 : decode cL_laysOut 6 = .ok (.iconst 0, 1) := by decide +kernel
theorem dL_laysOut_7 : decode cL_laysOut 7 = .ok (.istore 6, 2) := by decide +kernel
theorem dL_laysOut_9 : decode cL_laysOut 9 = .ok (.iconst 0, 1) := by decide +kernel
theorem dL_laysOut_10 : decode cL_laysOut 10 = .ok (.istore 7, 2) := by decide +kernel
theorem dL_laysOut_12 : decode cL_laysOut 12 = .ok (.iload 7, 2) := by decide +kernel
theorem dL_laysOut_14 : decode cL_laysOut 14 = .ok (.bipush 20, 2) := by decide +kernel
theorem dL_laysOut_16 : decode cL_laysOut 16 = .ok (.if_icmp .ge 36, 3) := by decide +kernel
theorem dL_laysOut_19 : decode cL_laysOut 19 = .ok (.aload_n 0, 1) := by decide +kernel
theorem dL_laysOut_20 : decode cL_laysOut 20 = .ok (.iload 7, 2) := by decide +kernel
theorem dL_laysOut_22 : decode cL_laysOut 22 = .ok (.iaload, 1) := by decide +kernel
theorem dL_laysOut_23 : decode cL_laysOut 23 = .ok (.ifCond .lt 23, 3) := by decide +kernel
theorem dL_laysOut_26 : decode cL_laysOut 26 = .ok (.aload_n 2, 1) := by decide +kernel
theorem dL_laysOut_27 : decode cL_laysOut 27 = .ok (.iload 5, 2) := by decide +kernel
theorem dL_laysOut_29 : decode cL_laysOut 29 = .ok (.aload_n 0, 1) := by decide +kernel
theorem dL_laysOut_30 : decode cL_laysOut 30 = .ok (.iload 7, 2) := by decide +kernel
theorem dL_laysOut_32 : decode cL_laysOut 32 = .ok (.iaload, 1) := by decide +kernel
theorem dL_laysOut_33 : decode cL_laysOut 33 = .ok (.iastore, 1) := by decide +kernel
theorem dL_laysOut_34 : decode cL_laysOut 34 = .ok (.iinc 5 1, 3) := by decide +kernel
theorem dL_laysOut_37 : decode cL_laysOut 37 = .ok (.iload 6, 2) := by decide +kernel
theorem dL_laysOut_39 : decode cL_laysOut 39 = .ok (.iconst 1, 1) := by decide +kernel
theorem dL_laysOut_40 : decode cL_laysOut 40 = .ok (.iload 7, 2) := by decide +kernel
theorem dL_laysOut_42 : decode cL_laysOut 42 = .ok (.ishl, 1) := by decide +kernel
theorem dL_laysOut_43 : decode cL_laysOut 43 = .ok (.ior, 1) := by decide +kernel
theorem dL_laysOut_44 : decode cL_laysOut 44 = .ok (.istore 6, 2) := by decide +kernel
theorem dL_laysOut_46 : decode cL_laysOut 46 = .ok (.iinc 7 1, 3) := by decide +kernel
theorem dL_laysOut_49 : decode cL_laysOut 49 = .ok (.goto (-37), 3) := by decide +kernel
theorem dL_laysOut_52 : decode cL_laysOut 52 = .ok (.iload 5, 2) := by decide +kernel
theorem dL_laysOut_54 : decode cL_laysOut 54 = .ok (.istore 7, 2) := by decide +kernel
theorem dL_laysOut_56 : decode cL_laysOut 56 = .ok (.iload 7, 2) := by decide +kernel
theorem dL_laysOut_58 : decode cL_laysOut 58 = .ok (.ifCond .le 182, 3) := by decide +kernel
theorem dL_laysOut_61 : decode cL_laysOut 61 = .ok (.iconst 0, 1) := by decide +kernel
theorem dL_laysOut_62 : decode cL_laysOut 62 = .ok (.istore 8, 2) := by decide +kernel
theorem dL_laysOut_64 : decode cL_laysOut 64 = .ok (.iconst (-1), 1) := by decide +kernel
theorem dL_laysOut_65 : decode cL_laysOut 65 = .ok (.istore 9, 2) := by decide +kernel
theorem dL_laysOut_67 : decode cL_laysOut 67 = .ok (.iconst 1, 1) := by decide +kernel
theorem dL_laysOut_68 : decode cL_laysOut 68 = .ok (.istore 10, 2) := by decide +kernel
theorem dL_laysOut_70 : decode cL_laysOut 70 = .ok (.iload 10, 2) := by decide +kernel
theorem dL_laysOut_72 : decode cL_laysOut 72 = .ok (.iload 7, 2) := by decide +kernel
theorem dL_laysOut_74 : decode cL_laysOut 74 = .ok (.if_icmp .ge 60, 3) := by decide +kernel
theorem dL_laysOut_77 : decode cL_laysOut 77 = .ok (.iconst 0, 1) := by decide +kernel
theorem dL_laysOut_78 : decode cL_laysOut 78 = .ok (.aload_n 2, 1) := by decide +kernel
theorem dL_laysOut_79 : decode cL_laysOut 79 = .ok (.iload 10, 2) := by decide +kernel
theorem dL_laysOut_81 : decode cL_laysOut 81 = .ok (.iaload, 1) := by decide +kernel
theorem dL_laysOut_82 : decode cL_laysOut 82 = .ok (.aload_n 3, 1) := by decide +kernel
theorem dL_laysOut_83 : decode cL_laysOut 83 = .ok (.invokestatic 52, 3) := by decide +kernel
theorem dL_laysOut_86 : decode cL_laysOut 86 = .ok (.iconst 0, 1) := by decide +kernel
theorem dL_laysOut_87 : decode cL_laysOut 87 = .ok (.aload_n 2, 1) := by decide +kernel
theorem dL_laysOut_88 : decode cL_laysOut 88 = .ok (.iload 8, 2) := by decide +kernel
theorem dL_laysOut_90 : decode cL_laysOut 90 = .ok (.iaload, 1) := by decide +kernel
theorem dL_laysOut_91 : decode cL_laysOut 91 = .ok (.aload_n 3, 1) := by decide +kernel
theorem dL_laysOut_92 : decode cL_laysOut 92 = .ok (.invokestatic 52, 3) := by decide +kernel
theorem dL_laysOut_95 : decode cL_laysOut 95 = .ok (.isub, 1) := by decide +kernel
theorem dL_laysOut_96 : decode cL_laysOut 96 = .ok (.istore 11, 2) := by decide +kernel
theorem dL_laysOut_98 : decode cL_laysOut 98 = .ok (.iload 11, 2) := by decide +kernel
theorem dL_laysOut_100 : decode cL_laysOut 100 = .ok (.ifCond .lt 19, 3) := by decide +kernel
theorem dL_laysOut_103 : decode cL_laysOut 103 = .ok (.iload 11, 2) := by decide +kernel
theorem dL_laysOut_105 : decode cL_laysOut 105 = .ok (.ifCond .ne 19, 3) := by decide +kernel
theorem dL_laysOut_108 : decode cL_laysOut 108 = .ok (.aload_n 2, 1) := by decide +kernel
theorem dL_laysOut_109 : decode cL_laysOut 109 = .ok (.iload 10, 2) := by decide +kernel
theorem dL_laysOut_111 : decode cL_laysOut 111 = .ok (.iaload, 1) := by decide +kernel
theorem dL_laysOut_112 : decode cL_laysOut 112 = .ok (.aload_n 2, 1) := by decide +kernel
theorem dL_laysOut_113 : decode cL_laysOut 113 = .ok (.iload 8, 2) := by decide +kernel
theorem dL_laysOut_115 : decode cL_laysOut 115 = .ok (.iaload, 1) := by decide +kernel
theorem dL_laysOut_116 : decode cL_laysOut 116 = .ok (.if_icmp .ge 8, 3) := by decide +kernel
theorem dL_laysOut_119 : decode cL_laysOut 119 = .ok (.iload 10, 2) := by decide +kernel
theorem dL_laysOut_121 : decode cL_laysOut 121 = .ok (.goto 5, 3) := by decide +kernel
theorem dL_laysOut_124 : decode cL_laysOut 124 = .ok (.iload 8, 2) := by decide +kernel
theorem dL_laysOut_126 : decode cL_laysOut 126 = .ok (.istore 8, 2) := by decide +kernel
theorem dL_laysOut_128 : decode cL_laysOut 128 = .ok (.iinc 10 1, 3) := by decide +kernel
theorem dL_laysOut_131 : decode cL_laysOut 131 = .ok (.goto (-61), 3) := by decide +kernel
theorem dL_laysOut_134 : decode cL_laysOut 134 = .ok (.iconst 0, 1) := by decide +kernel
theorem dL_laysOut_135 : decode cL_laysOut 135 = .ok (.istore 10, 2) := by decide +kernel
theorem dL_laysOut_137 : decode cL_laysOut 137 = .ok (.iload 10, 2) := by decide +kernel
theorem dL_laysOut_139 : decode cL_laysOut 139 = .ok (.bipush 20, 2) := by decide +kernel
theorem dL_laysOut_141 : decode cL_laysOut 141 = .ok (.if_icmp .ge 45, 3) := by decide +kernel
theorem dL_laysOut_144 : decode cL_laysOut 144 = .ok (.iload 6, 2) := by decide +kernel
theorem dL_laysOut_146 : decode cL_laysOut 146 = .ok (.iload 10, 2) := by decide +kernel
theorem dL_laysOut_148 : decode cL_laysOut 148 = .ok (.ishr, 1) := by decide +kernel
theorem dL_laysOut_149 : decode cL_laysOut 149 = .ok (.iconst 1, 1) := by decide +kernel
theorem dL_laysOut_150 : decode cL_laysOut 150 = .ok (.iand, 1) := by decide +kernel
theorem dL_laysOut_151 : decode cL_laysOut 151 = .ok (.iconst 1, 1) := by decide +kernel
theorem dL_laysOut_152 : decode cL_laysOut 152 = .ok (.if_icmp .ne 24, 3) := by decide +kernel
theorem dL_laysOut_155 : decode cL_laysOut 155 = .ok (.iload 9, 2) := by decide +kernel
theorem dL_laysOut_157 : decode cL_laysOut 157 = .ok (.ifCond .lt 14, 3) := by decide +kernel
theorem dL_laysOut_160 : decode cL_laysOut 160 = .ok (.aload_n 1, 1) := by decide +kernel
theorem dL_laysOut_161 : decode cL_laysOut 161 = .ok (.iload 10, 2) := by decide +kernel
theorem dL_laysOut_163 : decode cL_laysOut 163 = .ok (.iaload, 1) := by decide +kernel
theorem dL_laysOut_164 : decode cL_laysOut 164 = .ok (.aload_n 1, 1) := by decide +kernel
theorem dL_laysOut_165 : decode cL_laysOut 165 = .ok (.iload 9, 2) := by decide +kernel
theorem dL_laysOut_167 : decode cL_laysOut 167 = .ok (.iaload, 1) := by decide +kernel
theorem dL_laysOut_168 : decode cL_laysOut 168 = .ok (.if_icmp .le 8, 3) := by decide +kernel
theorem dL_laysOut_171 : decode cL_laysOut 171 = .ok (.iload 10, 2) := by decide +kernel
theorem dL_laysOut_173 : decode cL_laysOut 173 = .ok (.goto 5, 3) := by decide +kernel
theorem dL_laysOut_176 : decode cL_laysOut 176 = .ok (.iload 9, 2) := by decide +kernel
theorem dL_laysOut_178 : decode cL_laysOut 178 = .ok (.istore 9, 2) := by decide +kernel
theorem dL_laysOut_180 : decode cL_laysOut 180 = .ok (.iinc 10 1, 3) := by decide +kernel
theorem dL_laysOut_183 : decode cL_laysOut 183 = .ok (.goto (-46), 3) := by decide +kernel
theorem dL_laysOut_186 : decode cL_laysOut 186 = .ok (.iload 6, 2) := by decide +kernel
theorem dL_laysOut_188 : decode cL_laysOut 188 = .ok (.iconst 1, 1) := by decide +kernel
theorem dL_laysOut_189 : decode cL_laysOut 189 = .ok (.iload 9, 2) := by decide +kernel
theorem dL_laysOut_191 : decode cL_laysOut 191 = .ok (.ishl, 1) := by decide +kernel
theorem dL_laysOut_192 : decode cL_laysOut 192 = .ok (.isub, 1) := by decide +kernel
theorem dL_laysOut_193 : decode cL_laysOut 193 = .ok (.istore 6, 2) := by decide +kernel
theorem dL_laysOut_195 : decode cL_laysOut 195 = .ok (.iload 4, 2) := by decide +kernel
theorem dL_laysOut_197 : decode cL_laysOut 197 = .ok (.aload_n 0, 1) := by decide +kernel
theorem dL_laysOut_198 : decode cL_laysOut 198 = .ok (.iload 9, 2) := by decide +kernel
theorem dL_laysOut_200 : decode cL_laysOut 200 = .ok (.iaload, 1) := by decide +kernel
theorem dL_laysOut_201 : decode cL_laysOut 201 = .ok (.aload_n 2, 1) := by decide +kernel
theorem dL_laysOut_202 : decode cL_laysOut 202 = .ok (.iload 8, 2) := by decide +kernel
theorem dL_laysOut_204 : decode cL_laysOut 204 = .ok (.iaload, 1) := by decide +kernel
theorem dL_laysOut_205 : decode cL_laysOut 205 = .ok (.if_icmp .ne 7, 3) := by decide +kernel
theorem dL_laysOut_208 : decode cL_laysOut 208 = .ok (.iconst 0, 1) := by decide +kernel
theorem dL_laysOut_209 : decode cL_laysOut 209 = .ok (.goto 4, 3) := by decide +kernel
theorem dL_laysOut_212 : decode cL_laysOut 212 = .ok (.iconst 1, 1) := by decide +kernel
theorem dL_laysOut_213 : decode cL_laysOut 213 = .ok (.iadd, 1) := by decide +kernel
theorem dL_laysOut_214 : decode cL_laysOut 214 = .ok (.istore 4, 2) := by decide +kernel
theorem dL_laysOut_216 : decode cL_laysOut 216 = .ok (.aload_n 0, 1) := by decide +kernel
theorem dL_laysOut_217 : decode cL_laysOut 217 = .ok (.iload 9, 2) := by decide +kernel
theorem dL_laysOut_219 : decode cL_laysOut 219 = .ok (.aload_n 2, 1) := by decide +kernel
theorem dL_laysOut_220 : decode cL_laysOut 220 = .ok (.iload 8, 2) := by decide +kernel
theorem dL_laysOut_222 : decode cL_laysOut 222 = .ok (.iaload, 1) := by decide +kernel
theorem dL_laysOut_223 : decode cL_laysOut 223 = .ok (.iastore, 1) := by decide +kernel
theorem dL_laysOut_224 : decode cL_laysOut 224 = .ok (.aload_n 2, 1) := by decide +kernel
theorem dL_laysOut_225 : decode cL_laysOut 225 = .ok (.iload 8, 2) := by decide +kernel
theorem dL_laysOut_227 : decode cL_laysOut 227 = .ok (.aload_n 2, 1) := by decide +kernel
theorem dL_laysOut_228 : decode cL_laysOut 228 = .ok (.iload 7, 2) := by decide +kernel
theorem dL_laysOut_230 : decode cL_laysOut 230 = .ok (.iconst 1, 1) := by decide +kernel
theorem dL_laysOut_231 : decode cL_laysOut 231 = .ok (.isub, 1) := by decide +kernel
theorem dL_laysOut_232 : decode cL_laysOut 232 = .ok (.iaload, 1) := by decide +kernel
theorem dL_laysOut_233 : decode cL_laysOut 233 = .ok (.iastore, 1) := by decide +kernel
theorem dL_laysOut_234 : decode cL_laysOut 234 = .ok (.iinc 7 (-1), 3) := by decide +kernel
theorem dL_laysOut_237 : decode cL_laysOut 237 = .ok (.goto (-181), 3) := by decide +kernel
theorem dL_laysOut_240 : decode cL_laysOut 240 = .ok (.iload 4, 2) := by decide +kernel
theorem dL_laysOut_242 : decode cL_laysOut 242 = .ok (.ireturn, 1) := by decide +kernel
theorem dL_isBatch_0 : decode cL_isBatch 0 = .ok (.iload_n 1, 1) := by decide +kernel
theorem dL_isBatch_1 : decode cL_isBatch 1 = .ok (.aload_n 3, 1) := by decide +kernel
theorem dL_isBatch_2 : decode cL_isBatch 2 = .ok (.aload 4, 2) := by decide +kernel
theorem dL_isBatch_4 : decode cL_isBatch 4 = .ok (.aload 7, 2) := by decide +kernel
theorem dL_isBatch_6 : decode cL_isBatch 6 = .ok (.invokestatic 63, 3) := by decide +kernel
theorem dL_isBatch_9 : decode cL_isBatch 9 = .ok (.istore 8, 2) := by decide +kernel
theorem dL_isBatch_11 : decode cL_isBatch 11 = .ok (.iload 8, 2) := by decide +kernel
theorem dL_isBatch_13 : decode cL_isBatch 13 = .ok (.aload_n 2, 1) := by decide +kernel
theorem dL_isBatch_14 : decode cL_isBatch 14 = .ok (.aload 5, 2) := by decide +kernel
theorem dL_isBatch_16 : decode cL_isBatch 16 = .ok (.aload 6, 2) := by decide +kernel
theorem dL_isBatch_18 : decode cL_isBatch 18 = .ok (.aload 7, 2) := by decide +kernel
theorem dL_isBatch_20 : decode cL_isBatch 20 = .ok (.invokestatic 67, 3) := by decide +kernel
theorem dL_isBatch_23 : decode cL_isBatch 23 = .ok (.istore 9, 2) := by decide +kernel
theorem dL_isBatch_25 : decode cL_isBatch 25 = .ok (.aload_n 0, 1) := by decide +kernel
theorem dL_isBatch_26 : decode cL_isBatch 26 = .ok (.iload_n 1, 1) := by decide +kernel
theorem dL_isBatch_27 : decode cL_isBatch 27 = .ok (.invokevirtual 71, 3) := by decide +kernel
theorem dL_isBatch_30 : decode cL_isBatch 30 = .ok (.iload_n 1, 1) := by decide +kernel
theorem dL_isBatch_31 : decode cL_isBatch 31 = .ok (.aload_n 3, 1) := by decide +kernel
theorem dL_isBatch_32 : decode cL_isBatch 32 = .ok (.aload 7, 2) := by decide +kernel
theorem dL_isBatch_34 : decode cL_isBatch 34 = .ok (.invokestatic 60, 3) := by decide +kernel
theorem dL_isBatch_37 : decode cL_isBatch 37 = .ok (.if_icmp .ne 55, 3) := by decide +kernel
theorem dL_isBatch_40 : decode cL_isBatch 40 = .ok (.aload_n 0, 1) := by decide +kernel
theorem dL_isBatch_41 : decode cL_isBatch 41 = .ok (.iload_n 1, 1) := by decide +kernel
theorem dL_isBatch_42 : decode cL_isBatch 42 = .ok (.invokevirtual 74, 3) := by decide +kernel
theorem dL_isBatch_45 : decode cL_isBatch 45 = .ok (.iload 9, 2) := by decide +kernel
theorem dL_isBatch_47 : decode cL_isBatch 47 = .ok (.if_icmp .ne 45, 3) := by decide +kernel
theorem dL_isBatch_50 : decode cL_isBatch 50 = .ok (.aload_n 0, 1) := by decide +kernel
theorem dL_isBatch_51 : decode cL_isBatch 51 = .ok (.iload_n 1, 1) := by decide +kernel
theorem dL_isBatch_52 : decode cL_isBatch 52 = .ok (.invokevirtual 77, 3) := by decide +kernel
theorem dL_isBatch_55 : decode cL_isBatch 55 = .ok (.iload 9, 2) := by decide +kernel
theorem dL_isBatch_57 : decode cL_isBatch 57 = .ok (.if_icmp .ne 35, 3) := by decide +kernel
theorem dL_isBatch_60 : decode cL_isBatch 60 = .ok (.aload_n 0, 1) := by decide +kernel
theorem dL_isBatch_61 : decode cL_isBatch 61 = .ok (.iload_n 1, 1) := by decide +kernel
theorem dL_isBatch_62 : decode cL_isBatch 62 = .ok (.invokevirtual 80, 3) := by decide +kernel
theorem dL_isBatch_65 : decode cL_isBatch 65 = .ok (.aload 5, 2) := by decide +kernel
theorem dL_isBatch_67 : decode cL_isBatch 67 = .ok (.iconst 0, 1) := by decide +kernel
theorem dL_isBatch_68 : decode cL_isBatch 68 = .ok (.iaload, 1) := by decide +kernel
theorem dL_isBatch_69 : decode cL_isBatch 69 = .ok (.if_icmp .ne 23, 3) := by decide +kernel
theorem dL_isBatch_72 : decode cL_isBatch 72 = .ok (.aload_n 0, 1) := by decide +kernel
theorem dL_isBatch_73 : decode cL_isBatch 73 = .ok (.iload_n 1, 1) := by decide +kernel
theorem dL_isBatch_74 : decode cL_isBatch 74 = .ok (.invokevirtual 83, 3) := by decide +kernel
theorem dL_isBatch_77 : decode cL_isBatch 77 = .ok (.iload 8, 2) := by decide +kernel
theorem dL_isBatch_79 : decode cL_isBatch 79 = .ok (.aload_n 2, 1) := by decide +kernel
theorem dL_isBatch_80 : decode cL_isBatch 80 = .ok (.aload 7, 2) := by decide +kernel
theorem dL_isBatch_82 : decode cL_isBatch 82 = .ok (.invokestatic 86, 3) := by decide +kernel
theorem dL_isBatch_85 : decode cL_isBatch 85 = .ok (.if_icmp .ne 7, 3) := by decide +kernel
theorem dL_isBatch_88 : decode cL_isBatch 88 = .ok (.iconst 1, 1) := by decide +kernel
theorem dL_isBatch_89 : decode cL_isBatch 89 = .ok (.goto 4, 3) := by decide +kernel
theorem dL_isBatch_92 : decode cL_isBatch 92 = .ok (.iconst 0, 1) := by decide +kernel
theorem dL_isBatch_93 : decode cL_isBatch 93 = .ok (.istore 10, 2) := by decide +kernel
theorem dL_isBatch_95 : decode cL_isBatch 95 = .ok (.iconst 0, 1) := by decide +kernel
theorem dL_isBatch_96 : decode cL_isBatch 96 = .ok (.istore 11, 2) := by decide +kernel
theorem dL_isBatch_98 : decode cL_isBatch 98 = .ok (.iload 11, 2) := by decide +kernel
theorem dL_isBatch_100 : decode cL_isBatch 100 = .ok (.aload 5, 2) := by decide +kernel
theorem dL_isBatch_102 : decode cL_isBatch 102 = .ok (.iconst 0, 1) := by decide +kernel
theorem dL_isBatch_103 : decode cL_isBatch 103 = .ok (.iaload, 1) := by decide +kernel
theorem dL_isBatch_104 : decode cL_isBatch 104 = .ok (.if_icmp .ge 41, 3) := by decide +kernel
theorem dL_isBatch_107 : decode cL_isBatch 107 = .ok (.iload 10, 2) := by decide +kernel
theorem dL_isBatch_109 : decode cL_isBatch 109 = .ok (.ifCond .eq 36, 3) := by decide +kernel
theorem dL_isBatch_112 : decode cL_isBatch 112 = .ok (.aload_n 0, 1) := by decide +kernel
theorem dL_isBatch_113 : decode cL_isBatch 113 = .ok (.bipush 7, 2) := by decide +kernel
theorem dL_isBatch_115 : decode cL_isBatch 115 = .ok (.iload_n 1, 1) := by decide +kernel
theorem dL_isBatch_116 : decode cL_isBatch 116 = .ok (.iload 11, 2) := by decide +kernel
theorem dL_isBatch_118 : decode cL_isBatch 118 = .ok (.iconst 0, 1) := by decide +kernel
theorem dL_isBatch_119 : decode cL_isBatch 119 = .ok (.invokestatic 89, 3) := by decide +kernel
theorem dL_isBatch_122 : decode cL_isBatch 122 = .ok (.aload 5, 2) := by decide +kernel
theorem dL_isBatch_124 : decode cL_isBatch 124 = .ok (.iconst 1, 1) := by decide +kernel
theorem dL_isBatch_125 : decode cL_isBatch 125 = .ok (.iload 11, 2) := by decide +kernel
theorem dL_isBatch_127 : decode cL_isBatch 127 = .ok (.iadd, 1) := by decide +kernel
theorem dL_isBatch_128 : decode cL_isBatch 128 = .ok (.iaload, 1) := by decide +kernel
theorem dL_isBatch_129 : decode cL_isBatch 129 = .ok (.if_icmp .ne 7, 3) := by decide +kernel
theorem dL_isBatch_132 : decode cL_isBatch 132 = .ok (.iconst 1, 1) := by decide +kernel
theorem dL_isBatch_133 : decode cL_isBatch 133 = .ok (.goto 4, 3) := by decide +kernel
theorem dL_isBatch_136 : decode cL_isBatch 136 = .ok (.iconst 0, 1) := by decide +kernel
theorem dL_isBatch_137 : decode cL_isBatch 137 = .ok (.istore 10, 2) := by decide +kernel
theorem dL_isBatch_139 : decode cL_isBatch 139 = .ok (.iinc 11 1, 3) := by decide +kernel
theorem dL_isBatch_142 : decode cL_isBatch 142 = .ok (.goto (-44), 3) := by decide +kernel
theorem dL_isBatch_145 : decode cL_isBatch 145 = .ok (.iload 10, 2) := by decide +kernel
theorem dL_isBatch_147 : decode cL_isBatch 147 = .ok (.ifCond .eq 24, 3) := by decide +kernel
theorem dL_isBatch_150 : decode cL_isBatch 150 = .ok (.aload_n 0, 1) := by decide +kernel
theorem dL_isBatch_151 : decode cL_isBatch 151 = .ok (.bipush 7, 2) := by decide +kernel
theorem dL_isBatch_153 : decode cL_isBatch 153 = .ok (.iload_n 1, 1) := by decide +kernel
theorem dL_isBatch_154 : decode cL_isBatch 154 = .ok (.aload 5, 2) := by decide +kernel
theorem dL_isBatch_156 : decode cL_isBatch 156 = .ok (.iconst 0, 1) := by decide +kernel
theorem dL_isBatch_157 : decode cL_isBatch 157 = .ok (.iaload, 1) := by decide +kernel
theorem dL_isBatch_158 : decode cL_isBatch 158 = .ok (.iconst 0, 1) := by decide +kernel
theorem dL_isBatch_159 : decode cL_isBatch 159 = .ok (.invokestatic 89, 3) := by decide +kernel
theorem dL_isBatch_162 : decode cL_isBatch 162 = .ok (.bipush (-4), 2) := by decide +kernel
theorem dL_isBatch_164 : decode cL_isBatch 164 = .ok (.if_icmp .ne 7, 3) := by decide +kernel
theorem dL_isBatch_167 : decode cL_isBatch 167 = .ok (.iconst 1, 1) := by decide +kernel
theorem dL_isBatch_168 : decode cL_isBatch 168 = .ok (.goto 4, 3) := by decide +kernel
theorem dL_isBatch_171 : decode cL_isBatch 171 = .ok (.iconst 0, 1) := by decide +kernel
theorem dL_isBatch_172 : decode cL_isBatch 172 = .ok (.ireturn, 1) := by decide +kernel
theorem dL_isSo_0 : decode cL_isSo 0 = .ok (.aload_n 0, 1) := by decide +kernel
theorem dL_isSo_1 : decode cL_isSo 1 = .ok (.invokevirtual 93, 3) := by decide +kernel
theorem dL_isSo_4 : decode cL_isSo 4 = .ok (.aload 8, 2) := by decide +kernel
theorem dL_isSo_6 : decode cL_isSo 6 = .ok (.iconst 1, 1) := by decide +kernel
theorem dL_isSo_7 : decode cL_isSo 7 = .ok (.iaload, 1) := by decide +kernel
theorem dL_isSo_8 : decode cL_isSo 8 = .ok (.if_icmp .ne 59, 3) := by decide +kernel
theorem dL_isSo_11 : decode cL_isSo 11 = .ok (.aload_n 0, 1) := by decide +kernel
theorem dL_isSo_12 : decode cL_isSo 12 = .ok (.invokevirtual 96, 3) := by decide +kernel
theorem dL_isSo_15 : decode cL_isSo 15 = .ok (.aload 8, 2) := by decide +kernel
theorem dL_isSo_17 : decode cL_isSo 17 = .ok (.iconst 2, 1) := by decide +kernel
theorem dL_isSo_18 : decode cL_isSo 18 = .ok (.iaload, 1) := by decide +kernel
theorem dL_isSo_19 : decode cL_isSo 19 = .ok (.if_icmp .ne 48, 3) := by decide +kernel
theorem dL_isSo_22 : decode cL_isSo 22 = .ok (.aload_n 0, 1) := by decide +kernel
theorem dL_isSo_23 : decode cL_isSo 23 = .ok (.invokevirtual 99, 3) := by decide +kernel
theorem dL_isSo_26 : decode cL_isSo 26 = .ok (.aload 8, 2) := by decide +kernel
theorem dL_isSo_28 : decode cL_isSo 28 = .ok (.iconst 3, 1) := by decide +kernel
theorem dL_isSo_29 : decode cL_isSo 29 = .ok (.iaload, 1) := by decide +kernel
theorem dL_isSo_30 : decode cL_isSo 30 = .ok (.if_icmp .ne 37, 3) := by decide +kernel
theorem dL_isSo_33 : decode cL_isSo 33 = .ok (.aload_n 0, 1) := by decide +kernel
theorem dL_isSo_34 : decode cL_isSo 34 = .ok (.invokevirtual 102, 3) := by decide +kernel
theorem dL_isSo_37 : decode cL_isSo 37 = .ok (.aload 8, 2) := by decide +kernel
theorem dL_isSo_39 : decode cL_isSo 39 = .ok (.iconst 4, 1) := by decide +kernel
theorem dL_isSo_40 : decode cL_isSo 40 = .ok (.iaload, 1) := by decide +kernel
theorem dL_isSo_41 : decode cL_isSo 41 = .ok (.ifCond .ne 7, 3) := by decide +kernel
theorem dL_isSo_44 : decode cL_isSo 44 = .ok (.dconst 1, 1) := by decide +kernel
theorem dL_isSo_45 : decode cL_isSo 45 = .ok (.goto 14, 3) := by decide +kernel
theorem dL_isSo_48 : decode cL_isSo 48 = .ok (.aload 8, 2) := by decide +kernel
theorem dL_isSo_50 : decode cL_isSo 50 = .ok (.iconst 3, 1) := by decide +kernel
theorem dL_isSo_51 : decode cL_isSo 51 = .ok (.iaload, 1) := by decide +kernel
theorem dL_isSo_52 : decode cL_isSo 52 = .ok (.i2d, 1) := by decide +kernel
theorem dL_isSo_53 : decode cL_isSo 53 = .ok (.aload 8, 2) := by decide +kernel
theorem dL_isSo_55 : decode cL_isSo 55 = .ok (.iconst 4, 1) := by decide +kernel
theorem dL_isSo_56 : decode cL_isSo 56 = .ok (.iaload, 1) := by decide +kernel
theorem dL_isSo_57 : decode cL_isSo 57 = .ok (.i2d, 1) := by decide +kernel
theorem dL_isSo_58 : decode cL_isSo 58 = .ok (.ddiv, 1) := by decide +kernel
theorem dL_isSo_59 : decode cL_isSo 59 = .ok (.dcmp .l, 1) := by decide +kernel
theorem dL_isSo_60 : decode cL_isSo 60 = .ok (.ifCond .ne 7, 3) := by decide +kernel
theorem dL_isSo_63 : decode cL_isSo 63 = .ok (.iconst 1, 1) := by decide +kernel
theorem dL_isSo_64 : decode cL_isSo 64 = .ok (.goto 4, 3) := by decide +kernel
theorem dL_isSo_67 : decode cL_isSo 67 = .ok (.iconst 0, 1) := by decide +kernel
theorem dL_isSo_68 : decode cL_isSo 68 = .ok (.istore 9, 2) := by decide +kernel
theorem dL_isSo_70 : decode cL_isSo 70 = .ok (.iconst 0, 1) := by decide +kernel
theorem dL_isSo_71 : decode cL_isSo 71 = .ok (.istore 10, 2) := by decide +kernel
theorem dL_isSo_73 : decode cL_isSo 73 = .ok (.iload 10, 2) := by decide +kernel
theorem dL_isSo_75 : decode cL_isSo 75 = .ok (.bipush 20, 2) := by decide +kernel
theorem dL_isSo_77 : decode cL_isSo 77 = .ok (.if_icmp .ge 47, 3) := by decide +kernel
theorem dL_isSo_80 : decode cL_isSo 80 = .ok (.iload 9, 2) := by decide +kernel
theorem dL_isSo_82 : decode cL_isSo 82 = .ok (.ifCond .eq 42, 3) := by decide +kernel
theorem dL_isSo_85 : decode cL_isSo 85 = .ok (.aload_n 0, 1) := by decide +kernel
theorem dL_isSo_86 : decode cL_isSo 86 = .ok (.iload 10, 2) := by decide +kernel
theorem dL_isSo_88 : decode cL_isSo 88 = .ok (.invokevirtual 106, 3) := by decide +kernel
theorem dL_isSo_91 : decode cL_isSo 91 = .ok (.aload_n 2, 1) := by decide +kernel
theorem dL_isSo_92 : decode cL_isSo 92 = .ok (.iload 10, 2) := by decide +kernel
theorem dL_isSo_94 : decode cL_isSo 94 = .ok (.iaload, 1) := by decide +kernel
theorem dL_isSo_95 : decode cL_isSo 95 = .ok (.if_icmp .ne 20, 3) := by decide +kernel
theorem dL_isSo_98 : decode cL_isSo 98 = .ok (.aload_n 0, 1) := by decide +kernel
theorem dL_isSo_99 : decode cL_isSo 99 = .ok (.iload 10, 2) := by decide +kernel
theorem dL_isSo_101 : decode cL_isSo 101 = .ok (.invokevirtual 109, 3) := by decide +kernel
theorem dL_isSo_104 : decode cL_isSo 104 = .ok (.aload_n 3, 1) := by decide +kernel
theorem dL_isSo_105 : decode cL_isSo 105 = .ok (.iload 10, 2) := by decide +kernel
theorem dL_isSo_107 : decode cL_isSo 107 = .ok (.iaload, 1) := by decide +kernel
theorem dL_isSo_108 : decode cL_isSo 108 = .ok (.if_icmp .ne 7, 3) := by decide +kernel
theorem dL_isSo_111 : decode cL_isSo 111 = .ok (.iconst 1, 1) := by decide +kernel
theorem dL_isSo_112 : decode cL_isSo 112 = .ok (.goto 4, 3) := by decide +kernel
theorem dL_isSo_115 : decode cL_isSo 115 = .ok (.iconst 0, 1) := by decide +kernel
theorem dL_isSo_116 : decode cL_isSo 116 = .ok (.istore 9, 2) := by decide +kernel
theorem dL_isSo_118 : decode cL_isSo 118 = .ok (.iinc 10 1, 3) := by decide +kernel
theorem dL_isSo_121 : decode cL_isSo 121 = .ok (.goto (-48), 3) := by decide +kernel
theorem dL_isSo_124 : decode cL_isSo 124 = .ok (.iconst 0, 1) := by decide +kernel
theorem dL_isSo_125 : decode cL_isSo 125 = .ok (.istore 10, 2) := by decide +kernel
theorem dL_isSo_127 : decode cL_isSo 127 = .ok (.iload 10, 2) := by decide +kernel
theorem dL_isSo_129 : decode cL_isSo 129 = .ok (.aload 8, 2) := by decide +kernel
theorem dL_isSo_131 : decode cL_isSo 131 = .ok (.iconst 1, 1) := by decide +kernel
theorem dL_isSo_132 : decode cL_isSo 132 = .ok (.iaload, 1) := by decide +kernel
theorem dL_isSo_133 : decode cL_isSo 133 = .ok (.if_icmp .ge 57, 3) := by decide +kernel
theorem dL_isSo_136 : decode cL_isSo 136 = .ok (.iload 9, 2) := by decide +kernel
theorem dL_isSo_138 : decode cL_isSo 138 = .ok (.ifCond .eq 52, 3) := by decide +kernel
theorem dL_isSo_141 : decode cL_isSo 141 = .ok (.aload_n 0, 1) := by decide +kernel
theorem dL_isSo_142 : decode cL_isSo 142 = .ok (.iload 10, 2) := by decide +kernel
theorem dL_isSo_144 : decode cL_isSo 144 = .ok (.invokevirtual 112, 3) := by decide +kernel
theorem dL_isSo_147 : decode cL_isSo 147 = .ok (.aload 4, 2) := by decide +kernel
theorem dL_isSo_149 : decode cL_isSo 149 = .ok (.iconst 4, 1) := by decide +kernel
theorem dL_isSo_150 : decode cL_isSo 150 = .ok (.iload 10, 2) := by decide +kernel
theorem dL_isSo_152 : decode cL_isSo 152 = .ok (.imul, 1) := by decide +kernel
theorem dL_isSo_153 : decode cL_isSo 153 = .ok (.iconst 1, 1) := by decide +kernel
theorem dL_isSo_154 : decode cL_isSo 154 = .ok (.iadd, 1) := by decide +kernel
theorem dL_isSo_155 : decode cL_isSo 155 = .ok (.iaload, 1) := by decide +kernel
theorem dL_isSo_156 : decode cL_isSo 156 = .ok (.if_icmp .ne 25, 3) := by decide +kernel
theorem dL_isSo_159 : decode cL_isSo 159 = .ok (.aload_n 0, 1) := by decide +kernel
theorem dL_isSo_160 : decode cL_isSo 160 = .ok (.iload 10, 2) := by decide +kernel
theorem dL_isSo_162 : decode cL_isSo 162 = .ok (.invokevirtual 115, 3) := by decide +kernel
theorem dL_isSo_165 : decode cL_isSo 165 = .ok (.aload 4, 2) := by decide +kernel
theorem dL_isSo_167 : decode cL_isSo 167 = .ok (.iconst 4, 1) := by decide +kernel
theorem dL_isSo_168 : decode cL_isSo 168 = .ok (.iload 10, 2) := by decide +kernel
theorem dL_isSo_170 : decode cL_isSo 170 = .ok (.imul, 1) := by decide +kernel
theorem dL_isSo_171 : decode cL_isSo 171 = .ok (.iconst 2, 1) := by decide +kernel
theorem dL_isSo_172 : decode cL_isSo 172 = .ok (.iadd, 1) := by decide +kernel
theorem dL_isSo_173 : decode cL_isSo 173 = .ok (.iaload, 1) := by decide +kernel
theorem dL_isSo_174 : decode cL_isSo 174 = .ok (.if_icmp .ne 7, 3) := by decide +kernel
theorem dL_isSo_177 : decode cL_isSo 177 = .ok (.iconst 1, 1) := by decide +kernel
theorem dL_isSo_178 : decode cL_isSo 178 = .ok (.goto 4, 3) := by decide +kernel
theorem dL_isSo_181 : decode cL_isSo 181 = .ok (.iconst 0, 1) := by decide +kernel
theorem dL_isSo_182 : decode cL_isSo 182 = .ok (.istore 9, 2) := by decide +kernel
theorem dL_isSo_184 : decode cL_isSo 184 = .ok (.iinc 10 1, 3) := by decide +kernel
theorem dL_isSo_187 : decode cL_isSo 187 = .ok (.goto (-60), 3) := by decide +kernel
theorem dL_isSo_190 : decode cL_isSo 190 = .ok (.iconst 0, 1) := by decide +kernel
theorem dL_isSo_191 : decode cL_isSo 191 = .ok (.istore 10, 2) := by decide +kernel
theorem dL_isSo_193 : decode cL_isSo 193 = .ok (.iload 10, 2) := by decide +kernel
theorem dL_isSo_195 : decode cL_isSo 195 = .ok (.aload 8, 2) := by decide +kernel
theorem dL_isSo_197 : decode cL_isSo 197 = .ok (.iconst 2, 1) := by decide +kernel
theorem dL_isSo_198 : decode cL_isSo 198 = .ok (.iaload, 1) := by decide +kernel
theorem dL_isSo_199 : decode cL_isSo 199 = .ok (.if_icmp .ge 33, 3) := by decide +kernel
theorem dL_isSo_202 : decode cL_isSo 202 = .ok (.iload 9, 2) := by decide +kernel
theorem dL_isSo_204 : decode cL_isSo 204 = .ok (.ifCond .eq 28, 3) := by decide +kernel
theorem dL_isSo_207 : decode cL_isSo 207 = .ok (.aload_n 0, 1) := by decide +kernel
theorem dL_isSo_208 : decode cL_isSo 208 = .ok (.iload 10, 2) := by decide +kernel
theorem dL_isSo_210 : decode cL_isSo 210 = .ok (.aload_n 2, 1) := by decide +kernel
theorem dL_isSo_211 : decode cL_isSo 211 = .ok (.aload 4, 2) := by decide +kernel
theorem dL_isSo_213 : decode cL_isSo 213 = .ok (.aload 5, 2) := by decide +kernel
theorem dL_isSo_215 : decode cL_isSo 215 = .ok (.aload 6, 2) := by decide +kernel
theorem dL_isSo_217 : decode cL_isSo 217 = .ok (.aload 7, 2) := by decide +kernel
theorem dL_isSo_219 : decode cL_isSo 219 = .ok (.aload 8, 2) := by decide +kernel
theorem dL_isSo_221 : decode cL_isSo 221 = .ok (.invokestatic 118, 3) := by decide +kernel
theorem dL_isSo_224 : decode cL_isSo 224 = .ok (.istore 9, 2) := by decide +kernel
theorem dL_isSo_226 : decode cL_isSo 226 = .ok (.iinc 10 1, 3) := by decide +kernel
theorem dL_isSo_229 : decode cL_isSo 229 = .ok (.goto (-36), 3) := by decide +kernel
theorem dL_isSo_232 : decode cL_isSo 232 = .ok (.iconst 0, 1) := by decide +kernel
theorem dL_isSo_233 : decode cL_isSo 233 = .ok (.istore 10, 2) := by decide +kernel
theorem dL_isSo_235 : decode cL_isSo 235 = .ok (.iload 10, 2) := by decide +kernel
theorem dL_isSo_237 : decode cL_isSo 237 = .ok (.aload 8, 2) := by decide +kernel
theorem dL_isSo_239 : decode cL_isSo 239 = .ok (.iconst 5, 1) := by decide +kernel
theorem dL_isSo_240 : decode cL_isSo 240 = .ok (.iaload, 1) := by decide +kernel
theorem dL_isSo_241 : decode cL_isSo 241 = .ok (.if_icmp .ge 123, 3) := by decide +kernel
theorem dL_isSo_244 : decode cL_isSo 244 = .ok (.iload 9, 2) := by decide +kernel
theorem dL_isSo_246 : decode cL_isSo 246 = .ok (.ifCond .eq 118, 3) := by decide +kernel
theorem dL_isSo_249 : decode cL_isSo 249 = .ok (.iconst 0, 1) := by decide +kernel
theorem dL_isSo_250 : decode cL_isSo 250 = .ok (.istore 11, 2) := by decide +kernel
theorem dL_isSo_252 : decode cL_isSo 252 = .ok (.iconst 0, 1) := by decide +kernel
theorem dL_isSo_253 : decode cL_isSo 253 = .ok (.istore 12, 2) := by decide +kernel
theorem dL_isSo_255 : decode cL_isSo 255 = .ok (.iload 12, 2) := by decide +kernel
theorem dL_isSo_257 : decode cL_isSo 257 = .ok (.aload 8, 2) := by decide +kernel
theorem dL_isSo_259 : decode cL_isSo 259 = .ok (.iconst 2, 1) := by decide +kernel
theorem dL_isSo_260 : decode cL_isSo 260 = .ok (.iaload, 1) := by decide +kernel
theorem dL_isSo_261 : decode cL_isSo 261 = .ok (.if_icmp .ge 79, 3) := by decide +kernel
theorem dL_isSo_264 : decode cL_isSo 264 = .ok (.iconst 0, 1) := by decide +kernel
theorem dL_isSo_265 : decode cL_isSo 265 = .ok (.istore 13, 2) := by decide +kernel
theorem dL_isSo_267 : decode cL_isSo 267 = .ok (.iconst 0, 1) := by decide +kernel
theorem dL_isSo_268 : decode cL_isSo 268 = .ok (.istore 14, 2) := by decide +kernel
theorem dL_isSo_270 : decode cL_isSo 270 = .ok (.iload 14, 2) := by decide +kernel
theorem dL_isSo_272 : decode cL_isSo 272 = .ok (.bipush 20, 2) := by decide +kernel
theorem dL_isSo_274 : decode cL_isSo 274 = .ok (.if_icmp .ge 53, 3) := by decide +kernel
theorem dL_isSo_277 : decode cL_isSo 277 = .ok (.iload 13, 2) := by decide +kernel
theorem dL_isSo_279 : decode cL_isSo 279 = .ok (.aload_n 2, 1) := by decide +kernel
theorem dL_isSo_280 : decode cL_isSo 280 = .ok (.iload 14, 2) := by decide +kernel
theorem dL_isSo_282 : decode cL_isSo 282 = .ok (.iaload, 1) := by decide +kernel
theorem dL_isSo_283 : decode cL_isSo 283 = .ok (.ifCond .lt 34, 3) := by decide +kernel
theorem dL_isSo_286 : decode cL_isSo 286 = .ok (.aload_n 2, 1) := by decide +kernel
theorem dL_isSo_287 : decode cL_isSo 287 = .ok (.iload 14, 2) := by decide +kernel
theorem dL_isSo_289 : decode cL_isSo 289 = .ok (.iaload, 1) := by decide +kernel
theorem dL_isSo_290 : decode cL_isSo 290 = .ok (.bipush 100, 2) := by decide +kernel
theorem dL_isSo_292 : decode cL_isSo 292 = .ok (.idiv, 1) := by decide +kernel
theorem dL_isSo_293 : decode cL_isSo 293 = .ok (.iload 10, 2) := by decide +kernel
theorem dL_isSo_295 : decode cL_isSo 295 = .ok (.if_icmp .ne 22, 3) := by decide +kernel
theorem dL_isSo_298 : decode cL_isSo 298 = .ok (.iload 12, 2) := by decide +kernel
theorem dL_isSo_300 : decode cL_isSo 300 = .ok (.aload 4, 2) := by decide +kernel
theorem dL_isSo_302 : decode cL_isSo 302 = .ok (.aload 5, 2) := by decide +kernel
theorem dL_isSo_304 : decode cL_isSo 304 = .ok (.aload 8, 2) := by decide +kernel
theorem dL_isSo_306 : decode cL_isSo 306 = .ok (.invokestatic 63, 3) := by decide +kernel
theorem dL_isSo_309 : decode cL_isSo 309 = .ok (.iload 14, 2) := by decide +kernel
theorem dL_isSo_311 : decode cL_isSo 311 = .ok (.ishr, 1) := by decide +kernel
theorem dL_isSo_312 : decode cL_isSo 312 = .ok (.iconst 1, 1) := by decide +kernel
theorem dL_isSo_313 : decode cL_isSo 313 = .ok (.iand, 1) := by decide +kernel
theorem dL_isSo_314 : decode cL_isSo 314 = .ok (.goto 4, 3) := by decide +kernel
theorem dL_isSo_317 : decode cL_isSo 317 = .ok (.iconst 0, 1) := by decide +kernel
theorem dL_isSo_318 : decode cL_isSo 318 = .ok (.ior, 1) := by decide +kernel
theorem dL_isSo_319 : decode cL_isSo 319 = .ok (.istore 13, 2) := by decide +kernel
theorem dL_isSo_321 : decode cL_isSo 321 = .ok (.iinc 14 1, 3) := by decide +kernel
theorem dL_isSo_324 : decode cL_isSo 324 = .ok (.goto (-54), 3) := by decide +kernel
theorem dL_isSo_327 : decode cL_isSo 327 = .ok (.iload 11, 2) := by decide +kernel
theorem dL_isSo_329 : decode cL_isSo 329 = .ok (.iload 13, 2) := by decide +kernel
theorem dL_isSo_331 : decode cL_isSo 331 = .ok (.iadd, 1) := by decide +kernel
theorem dL_isSo_332 : decode cL_isSo 332 = .ok (.istore 11, 2) := by decide +kernel
theorem dL_isSo_334 : decode cL_isSo 334 = .ok (.iinc 12 1, 3) := by decide +kernel
theorem dL_isSo_337 : decode cL_isSo 337 = .ok (.goto (-82), 3) := by decide +kernel
theorem dL_isSo_340 : decode cL_isSo 340 = .ok (.aload_n 0, 1) := by decide +kernel
theorem dL_isSo_341 : decode cL_isSo 341 = .ok (.iload 10, 2) := by decide +kernel
theorem dL_isSo_343 : decode cL_isSo 343 = .ok (.invokevirtual 122, 3) := by decide +kernel
theorem dL_isSo_346 : decode cL_isSo 346 = .ok (.iload 11, 2) := by decide +kernel
theorem dL_isSo_348 : decode cL_isSo 348 = .ok (.if_icmp .ne 7, 3) := by decide +kernel
theorem dL_isSo_351 : decode cL_isSo 351 = .ok (.iconst 1, 1) := by decide +kernel
theorem dL_isSo_352 : decode cL_isSo 352 = .ok (.goto 4, 3) := by decide +kernel
theorem dL_isSo_355 : decode cL_isSo 355 = .ok (.iconst 0, 1) := by decide +kernel
theorem dL_isSo_356 : decode cL_isSo 356 = .ok (.istore 9, 2) := by decide +kernel
theorem dL_isSo_358 : decode cL_isSo 358 = .ok (.iinc 10 1, 3) := by decide +kernel
theorem dL_isSo_361 : decode cL_isSo 361 = .ok (.goto (-126), 3) := by decide +kernel
theorem dL_isSo_364 : decode cL_isSo 364 = .ok (.iload_n 1, 1) := by decide +kernel
theorem dL_isSo_365 : decode cL_isSo 365 = .ok (.bipush 20, 2) := by decide +kernel
theorem dL_isSo_367 : decode cL_isSo 367 = .ok (.invokestatic 125, 3) := by decide +kernel
theorem dL_isSo_370 : decode cL_isSo 370 = .ok (.istore 10, 2) := by decide +kernel
theorem dL_isSo_372 : decode cL_isSo 372 = .ok (.iload_n 1, 1) := by decide +kernel
theorem dL_isSo_373 : decode cL_isSo 373 = .ok (.iconst 5, 1) := by decide +kernel
theorem dL_isSo_374 : decode cL_isSo 374 = .ok (.ishr, 1) := by decide +kernel
theorem dL_isSo_375 : decode cL_isSo 375 = .ok (.bipush 20, 2) := by decide +kernel
theorem dL_isSo_377 : decode cL_isSo 377 = .ok (.invokestatic 125, 3) := by decide +kernel
theorem dL_isSo_380 : decode cL_isSo 380 = .ok (.istore 11, 2) := by decide +kernel
theorem dL_isSo_382 : decode cL_isSo 382 = .ok (.aload 8, 2) := by decide +kernel
theorem dL_isSo_384 : decode cL_isSo 384 = .ok (.iconst 1, 1) := by decide +kernel
theorem dL_isSo_385 : decode cL_isSo 385 = .ok (.iaload, 1) := by decide +kernel
theorem dL_isSo_386 : decode cL_isSo 386 = .ok (.ifCond .ne 7, 3) := by decide +kernel
theorem dL_isSo_389 : decode cL_isSo 389 = .ok (.iconst (-1), 1) := by decide +kernel
theorem dL_isSo_390 : decode cL_isSo 390 = .ok (.goto 14, 3) := by decide +kernel
theorem dL_isSo_393 : decode cL_isSo 393 = .ok (.iload_n 1, 1) := by decide +kernel
theorem dL_isSo_394 : decode cL_isSo 394 = .ok (.bipush 9, 2) := by decide +kernel
theorem dL_isSo_396 : decode cL_isSo 396 = .ok (.ishr, 1) := by decide +kernel
theorem dL_isSo_397 : decode cL_isSo 397 = .ok (.aload 8, 2) := by decide +kernel
theorem dL_isSo_399 : decode cL_isSo 399 = .ok (.iconst 1, 1) := by decide +kernel
theorem dL_isSo_400 : decode cL_isSo 400 = .ok (.iaload, 1) := by decide +kernel
theorem dL_isSo_401 : decode cL_isSo 401 = .ok (.invokestatic 125, 3) := by decide +kernel
theorem dL_isSo_404 : decode cL_isSo 404 = .ok (.istore 12, 2) := by decide +kernel
theorem dL_isSo_406 : decode cL_isSo 406 = .ok (.iload 9, 2) := by decide +kernel
theorem dL_isSo_408 : decode cL_isSo 408 = .ok (.ifCond .eq 86, 3) := by decide +kernel
theorem dL_isSo_411 : decode cL_isSo 411 = .ok (.aload_n 0, 1) := by decide +kernel
theorem dL_isSo_412 : decode cL_isSo 412 = .ok (.bipush 6, 2) := by decide +kernel
theorem dL_isSo_414 : decode cL_isSo 414 = .ok (.iload 10, 2) := by decide +kernel
theorem dL_isSo_416 : decode cL_isSo 416 = .ok (.iload 11, 2) := by decide +kernel
theorem dL_isSo_418 : decode cL_isSo 418 = .ok (.iconst 0, 1) := by decide +kernel
theorem dL_isSo_419 : decode cL_isSo 419 = .ok (.invokestatic 89, 3) := by decide +kernel
theorem dL_isSo_422 : decode cL_isSo 422 = .ok (.aload_n 2, 1) := by decide +kernel
theorem dL_isSo_423 : decode cL_isSo 423 = .ok (.iload 10, 2) := by decide +kernel
theorem dL_isSo_425 : decode cL_isSo 425 = .ok (.iaload, 1) := by decide +kernel
theorem dL_isSo_426 : decode cL_isSo 426 = .ok (.ifCond .lt 10, 3) := by decide +kernel
theorem dL_isSo_429 : decode cL_isSo 429 = .ok (.aload_n 2, 1) := by decide +kernel
theorem dL_isSo_430 : decode cL_isSo 430 = .ok (.iload 11, 2) := by decide +kernel
theorem dL_isSo_432 : decode cL_isSo 432 = .ok (.iaload, 1) := by decide +kernel
theorem dL_isSo_433 : decode cL_isSo 433 = .ok (.ifCond .ge 8, 3) := by decide +kernel
theorem dL_isSo_436 : decode cL_isSo 436 = .ok (.bipush (-3), 2) := by decide +kernel
theorem dL_isSo_438 : decode cL_isSo 438 = .ok (.goto 16, 3) := by decide +kernel
theorem dL_isSo_441 : decode cL_isSo 441 = .ok (.aload_n 2, 1) := by decide +kernel
theorem dL_isSo_442 : decode cL_isSo 442 = .ok (.iload 10, 2) := by decide +kernel
theorem dL_isSo_444 : decode cL_isSo 444 = .ok (.iaload, 1) := by decide +kernel
theorem dL_isSo_445 : decode cL_isSo 445 = .ok (.aload_n 2, 1) := by decide +kernel
theorem dL_isSo_446 : decode cL_isSo 446 = .ok (.iload 11, 2) := by decide +kernel
theorem dL_isSo_448 : decode cL_isSo 448 = .ok (.iaload, 1) := by decide +kernel
theorem dL_isSo_449 : decode cL_isSo 449 = .ok (.aload 8, 2) := by decide +kernel
theorem dL_isSo_451 : decode cL_isSo 451 = .ok (.invokestatic 52, 3) := by decide +kernel
theorem dL_isSo_454 : decode cL_isSo 454 = .ok (.if_icmp .ne 40, 3) := by decide +kernel
theorem dL_isSo_457 : decode cL_isSo 457 = .ok (.iload 12, 2) := by decide +kernel
theorem dL_isSo_459 : decode cL_isSo 459 = .ok (.ifCond .lt 31, 3) := by decide +kernel
theorem dL_isSo_462 : decode cL_isSo 462 = .ok (.aload_n 0, 1) := by decide +kernel
theorem dL_isSo_463 : decode cL_isSo 463 = .ok (.iload 12, 2) := by decide +kernel
theorem dL_isSo_465 : decode cL_isSo 465 = .ok (.invokevirtual 128, 3) := by decide +kernel
theorem dL_isSo_468 : decode cL_isSo 468 = .ok (.iload 12, 2) := by decide +kernel
theorem dL_isSo_470 : decode cL_isSo 470 = .ok (.aload 4, 2) := by decide +kernel
theorem dL_isSo_472 : decode cL_isSo 472 = .ok (.aload 5, 2) := by decide +kernel
theorem dL_isSo_474 : decode cL_isSo 474 = .ok (.invokestatic 46, 3) := by decide +kernel
theorem dL_isSo_477 : decode cL_isSo 477 = .ok (.aload_n 2, 1) := by decide +kernel
theorem dL_isSo_478 : decode cL_isSo 478 = .ok (.aload 6, 2) := by decide +kernel
theorem dL_isSo_480 : decode cL_isSo 480 = .ok (.aload 7, 2) := by decide +kernel
theorem dL_isSo_482 : decode cL_isSo 482 = .ok (.aload 8, 2) := by decide +kernel
theorem dL_isSo_484 : decode cL_isSo 484 = .ok (.invokestatic 67, 3) := by decide +kernel
theorem dL_isSo_487 : decode cL_isSo 487 = .ok (.if_icmp .ne 7, 3) := by decide +kernel
theorem dL_isSo_490 : decode cL_isSo 490 = .ok (.iconst 1, 1) := by decide +kernel
theorem dL_isSo_491 : decode cL_isSo 491 = .ok (.goto 4, 3) := by decide +kernel
theorem dL_isSo_494 : decode cL_isSo 494 = .ok (.iconst 0, 1) := by decide +kernel
theorem dL_isSo_495 : decode cL_isSo 495 = .ok (.ireturn, 1) := by decide +kernel
theorem dL_law_0 : decode cL_law 0 = .ok (.bipush 8, 2) := by decide +kernel
theorem dL_law_2 : decode cL_law 2 = .ok (.newarray .int, 2) := by decide +kernel
theorem dL_law_4 : decode cL_law 4 = .ok (.astore_n 1, 1) := by decide +kernel
theorem dL_law_5 : decode cL_law 5 = .ok (.aload_n 0, 1) := by decide +kernel
theorem dL_law_6 : decode cL_law 6 = .ok (.iconst 0, 1) := by decide +kernel
theorem dL_law_7 : decode cL_law 7 = .ok (.invokestatic 131, 3) := by decide +kernel
theorem dL_law_10 : decode cL_law 10 = .ok (.istore_n 2, 1) := by decide +kernel
theorem dL_law_11 : decode cL_law 11 = .ok (.aload_n 1, 1) := by decide +kernel
theorem dL_law_12 : decode cL_law 12 = .ok (.iconst 0, 1) := by decide +kernel
theorem dL_law_13 : decode cL_law 13 = .ok (.bipush 6, 2) := by decide +kernel
theorem dL_law_15 : decode cL_law 15 = .ok (.iastore, 1) := by decide +kernel
theorem dL_law_16 : decode cL_law 16 = .ok (.aload_n 1, 1) := by decide +kernel
theorem dL_law_17 : decode cL_law 17 = .ok (.iconst 5, 1) := by decide +kernel
theorem dL_law_18 : decode cL_law 18 = .ok (.iconst 1, 1) := by decide +kernel
theorem dL_law_19 : decode cL_law 19 = .ok (.iload_n 2, 1) := by decide +kernel
theorem dL_law_20 : decode cL_law 20 = .ok (.bipush 6, 2) := by decide +kernel
theorem dL_law_22 : decode cL_law 22 = .ok (.invokestatic 125, 3) := by decide +kernel
theorem dL_law_25 : decode cL_law 25 = .ok (.iadd, 1) := by decide +kernel
theorem dL_law_26 : decode cL_law 26 = .ok (.iastore, 1) := by decide +kernel
theorem dL_law_27 : decode cL_law 27 = .ok (.aload_n 1, 1) := by decide +kernel
theorem dL_law_28 : decode cL_law 28 = .ok (.bipush 6, 2) := by decide +kernel
theorem dL_law_30 : decode cL_law 30 = .ok (.iconst 1, 1) := by decide +kernel
theorem dL_law_31 : decode cL_law 31 = .ok (.iload_n 2, 1) := by decide +kernel
theorem dL_law_32 : decode cL_law 32 = .ok (.iconst 3, 1) := by decide +kernel
theorem dL_law_33 : decode cL_law 33 = .ok (.ishr, 1) := by decide +kernel
theorem dL_law_34 : decode cL_law 34 = .ok (.bipush 20, 2) := by decide +kernel
theorem dL_law_36 : decode cL_law 36 = .ok (.invokestatic 125, 3) := by decide +kernel
theorem dL_law_39 : decode cL_law 39 = .ok (.iadd, 1) := by decide +kernel
theorem dL_law_40 : decode cL_law 40 = .ok (.iastore, 1) := by decide +kernel
theorem dL_law_41 : decode cL_law 41 = .ok (.aload_n 1, 1) := by decide +kernel
theorem dL_law_42 : decode cL_law 42 = .ok (.bipush 7, 2) := by decide +kernel
theorem dL_law_44 : decode cL_law 44 = .ok (.iconst 1, 1) := by decide +kernel
theorem dL_law_45 : decode cL_law 45 = .ok (.iload_n 2, 1) := by decide +kernel
theorem dL_law_46 : decode cL_law 46 = .ok (.bipush 8, 2) := by decide +kernel
theorem dL_law_48 : decode cL_law 48 = .ok (.ishr, 1) := by decide +kernel
theorem dL_law_49 : decode cL_law 49 = .ok (.bipush 9, 2) := by decide +kernel
theorem dL_law_51 : decode cL_law 51 = .ok (.invokestatic 125, 3) := by decide +kernel
theorem dL_law_54 : decode cL_law 54 = .ok (.iadd, 1) := by decide +kernel
theorem dL_law_55 : decode cL_law 55 = .ok (.iastore, 1) := by decide +kernel
theorem dL_law_56 : decode cL_law 56 = .ok (.new 11, 3) := by decide +kernel
theorem dL_law_59 : decode cL_law 59 = .ok (.dup, 1) := by decide +kernel
theorem dL_law_60 : decode cL_law 60 = .ok (.aload_n 1, 1) := by decide +kernel
theorem dL_law_61 : decode cL_law 61 = .ok (.iconst 5, 1) := by decide +kernel
theorem dL_law_62 : decode cL_law 62 = .ok (.iaload, 1) := by decide +kernel
theorem dL_law_63 : decode cL_law 63 = .ok (.aload_n 1, 1) := by decide +kernel
theorem dL_law_64 : decode cL_law 64 = .ok (.bipush 6, 2) := by decide +kernel
theorem dL_law_66 : decode cL_law 66 = .ok (.iaload, 1) := by decide +kernel
theorem dL_law_67 : decode cL_law 67 = .ok (.aload_n 1, 1) := by decide +kernel
theorem dL_law_68 : decode cL_law 68 = .ok (.bipush 7, 2) := by decide +kernel
theorem dL_law_70 : decode cL_law 70 = .ok (.iaload, 1) := by decide +kernel
theorem dL_law_71 : decode cL_law 71 = .ok (.invokespecial 135, 3) := by decide +kernel
theorem dL_law_74 : decode cL_law 74 = .ok (.astore_n 3, 1) := by decide +kernel
theorem dL_law_75 : decode cL_law 75 = .ok (.bipush 20, 2) := by decide +kernel
theorem dL_law_77 : decode cL_law 77 = .ok (.newarray .int, 2) := by decide +kernel
theorem dL_law_79 : decode cL_law 79 = .ok (.astore 4, 2) := by decide +kernel
theorem dL_law_81 : decode cL_law 81 = .ok (.bipush 20, 2) := by decide +kernel
theorem dL_law_83 : decode cL_law 83 = .ok (.newarray .int, 2) := by decide +kernel
theorem dL_law_85 : decode cL_law 85 = .ok (.astore 5, 2) := by decide +kernel
theorem dL_law_87 : decode cL_law 87 = .ok (.bipush 48, 2) := by decide +kernel
theorem dL_law_89 : decode cL_law 89 = .ok (.newarray .int, 2) := by decide +kernel
theorem dL_law_91 : decode cL_law 91 = .ok (.astore 6, 2) := by decide +kernel
theorem dL_law_93 : decode cL_law 93 = .ok (.bipush 60, 2) := by decide +kernel
theorem dL_law_95 : decode cL_law 95 = .ok (.newarray .int, 2) := by decide +kernel
theorem dL_law_97 : decode cL_law 97 = .ok (.astore 7, 2) := by decide +kernel
theorem dL_law_99 : decode cL_law 99 = .ok (.bipush 60, 2) := by decide +kernel
theorem dL_law_101 : decode cL_law 101 = .ok (.newarray .int, 2) := by decide +kernel
theorem dL_law_103 : decode cL_law 103 = .ok (.astore 8, 2) := by decide +kernel
theorem dL_law_105 : decode cL_law 105 = .ok (.bipush 20, 2) := by decide +kernel
theorem dL_law_107 : decode cL_law 107 = .ok (.newarray .int, 2) := by decide +kernel
theorem dL_law_109 : decode cL_law 109 = .ok (.astore 9, 2) := by decide +kernel
theorem dL_law_111 : decode cL_law 111 = .ok (.bipush 10, 2) := by decide +kernel
theorem dL_law_113 : decode cL_law 113 = .ok (.newarray .int, 2) := by decide +kernel
theorem dL_law_115 : decode cL_law 115 = .ok (.astore 10, 2) := by decide +kernel
theorem dL_law_117 : decode cL_law 117 = .ok (.bipush 9, 2) := by decide +kernel
theorem dL_law_119 : decode cL_law 119 = .ok (.newarray .int, 2) := by decide +kernel
theorem dL_law_121 : decode cL_law 121 = .ok (.astore 11, 2) := by decide +kernel
theorem dL_law_123 : decode cL_law 123 = .ok (.iconst 0, 1) := by decide +kernel
theorem dL_law_124 : decode cL_law 124 = .ok (.istore 12, 2) := by decide +kernel
theorem dL_law_126 : decode cL_law 126 = .ok (.iload 12, 2) := by decide +kernel
theorem dL_law_128 : decode cL_law 128 = .ok (.bipush 20, 2) := by decide +kernel
theorem dL_law_130 : decode cL_law 130 = .ok (.if_icmp .ge 15, 3) := by decide +kernel
theorem dL_law_133 : decode cL_law 133 = .ok (.aload 4, 2) := by decide +kernel
theorem dL_law_135 : decode cL_law 135 = .ok (.iload 12, 2) := by decide +kernel
theorem dL_law_137 : decode cL_law 137 = .ok (.iconst (-1), 1) := by decide +kernel
theorem dL_law_138 : decode cL_law 138 = .ok (.iastore, 1) := by decide +kernel
theorem dL_law_139 : decode cL_law 139 = .ok (.iinc 12 1, 3) := by decide +kernel
theorem dL_law_142 : decode cL_law 142 = .ok (.goto (-16), 3) := by decide +kernel
theorem dL_law_145 : decode cL_law 145 = .ok (.iconst 1, 1) := by decide +kernel
theorem dL_law_146 : decode cL_law 146 = .ok (.istore 12, 2) := by decide +kernel
theorem dL_law_148 : decode cL_law 148 = .ok (.iload 12, 2) := by decide +kernel
theorem dL_law_150 : decode cL_law 150 = .ok (.bipush 90, 2) := by decide +kernel
theorem dL_law_152 : decode cL_law 152 = .ok (.if_icmp .ge 1000, 3) := by decide +kernel
theorem dL_law_155 : decode cL_law 155 = .ok (.aload_n 0, 1) := by decide +kernel
theorem dL_law_156 : decode cL_law 156 = .ok (.iload 12, 2) := by decide +kernel
theorem dL_law_158 : decode cL_law 158 = .ok (.invokestatic 131, 3) := by decide +kernel
theorem dL_law_161 : decode cL_law 161 = .ok (.istore_n 2, 1) := by decide +kernel
theorem dL_law_162 : decode cL_law 162 = .ok (.iload 12, 2) := by decide +kernel
theorem dL_law_164 : decode cL_law 164 = .ok (.bipush 9, 2) := by decide +kernel
theorem dL_law_166 : decode cL_law 166 = .ok (.if_icmp .ge 7, 3) := by decide +kernel
theorem dL_law_169 : decode cL_law 169 = .ok (.iconst 0, 1) := by decide +kernel
theorem dL_law_170 : decode cL_law 170 = .ok (.goto 9, 3) := by decide +kernel
theorem dL_law_173 : decode cL_law 173 = .ok (.iload_n 2, 1) := by decide +kernel
theorem dL_law_174 : decode cL_law 174 = .ok (.bipush 20, 2) := by decide +kernel
theorem dL_law_176 : decode cL_law 176 = .ok (.invokestatic 125, 3) := by decide +kernel
theorem dL_law_179 : decode cL_law 179 = .ok (.istore 13, 2) := by decide +kernel
theorem dL_law_181 : decode cL_law 181 = .ok (.iload_n 2, 1) := by decide +kernel
theorem dL_law_182 : decode cL_law 182 = .ok (.iconst 5, 1) := by decide +kernel
theorem dL_law_183 : decode cL_law 183 = .ok (.ishr, 1) := by decide +kernel
theorem dL_law_184 : decode cL_law 184 = .ok (.bipush 20, 2) := by decide +kernel
theorem dL_law_186 : decode cL_law 186 = .ok (.invokestatic 125, 3) := by decide +kernel
theorem dL_law_189 : decode cL_law 189 = .ok (.istore 14, 2) := by decide +kernel
theorem dL_law_191 : decode cL_law 191 = .ok (.iload_n 2, 1) := by decide +kernel
theorem dL_law_192 : decode cL_law 192 = .ok (.bipush 10, 2) := by decide +kernel
theorem dL_law_194 : decode cL_law 194 = .ok (.ishr, 1) := by decide +kernel
theorem dL_law_195 : decode cL_law 195 = .ok (.aload_n 1, 1) := by decide +kernel
theorem dL_law_196 : decode cL_law 196 = .ok (.iconst 1, 1) := by decide +kernel
theorem dL_law_197 : decode cL_law 197 = .ok (.iaload, 1) := by decide +kernel
theorem dL_law_198 : decode cL_law 198 = .ok (.iconst 1, 1) := by decide +kernel
theorem dL_law_199 : decode cL_law 199 = .ok (.iadd, 1) := by decide +kernel
theorem dL_law_200 : decode cL_law 200 = .ok (.invokestatic 125, 3) := by decide +kernel
theorem dL_law_203 : decode cL_law 203 = .ok (.istore 15, 2) := by decide +kernel
theorem dL_law_205 : decode cL_law 205 = .ok (.iconst 0, 1) := by decide +kernel
theorem dL_law_206 : decode cL_law 206 = .ok (.istore 16, 2) := by decide +kernel
theorem dL_law_208 : decode cL_law 208 = .ok (.iconst 0, 1) := by decide +kernel
theorem dL_law_209 : decode cL_law 209 = .ok (.istore 17, 2) := by decide +kernel
theorem dL_law_211 : decode cL_law 211 = .ok (.iload 13, 2) := by decide +kernel
theorem dL_law_213 : decode cL_law 213 = .ok (.iconst 2, 1) := by decide +kernel
theorem dL_law_214 : decode cL_law 214 = .ok (.if_icmp .ge 153, 3) := by decide +kernel
theorem dL_law_217 : decode cL_law 217 = .ok (.iload_n 2, 1) := by decide +kernel
theorem dL_law_218 : decode cL_law 218 = .ok (.bipush 10, 2) := by decide +kernel
theorem dL_law_220 : decode cL_law 220 = .ok (.ishr, 1) := by decide +kernel
theorem dL_law_221 : decode cL_law 221 = .ok (.aload_n 1, 1) := by decide +kernel
theorem dL_law_222 : decode cL_law 222 = .ok (.iconst 5, 1) := by decide +kernel
theorem dL_law_223 : decode cL_law 223 = .ok (.iaload, 1) := by decide +kernel
theorem dL_law_224 : decode cL_law 224 = .ok (.invokestatic 125, 3) := by decide +kernel
theorem dL_law_227 : decode cL_law 227 = .ok (.istore 18, 2) := by decide +kernel
theorem dL_law_229 : decode cL_law 229 = .ok (.iconst 1, 1) := by decide +kernel
theorem dL_law_230 : decode cL_law 230 = .ok (.iload_n 2, 1) := by decide +kernel
theorem dL_law_231 : decode cL_law 231 = .ok (.bipush 13, 2) := by decide +kernel
theorem dL_law_233 : decode cL_law 233 = .ok (.ishr, 1) := by decide +kernel
theorem dL_law_234 : decode cL_law 234 = .ok (.aload_n 1, 1) := by decide +kernel
theorem dL_law_235 : decode cL_law 235 = .ok (.bipush 6, 2) := by decide +kernel
theorem dL_law_237 : decode cL_law 237 = .ok (.iaload, 1) := by decide +kernel
theorem dL_law_238 : decode cL_law 238 = .ok (.invokestatic 125, 3) := by decide +kernel
theorem dL_law_241 : decode cL_law 241 = .ok (.iadd, 1) := by decide +kernel
theorem dL_law_242 : decode cL_law 242 = .ok (.istore 19, 2) := by decide +kernel
theorem dL_law_244 : decode cL_law 244 = .ok (.aload_n 1, 1) := by decide +kernel
theorem dL_law_245 : decode cL_law 245 = .ok (.iconst 2, 1) := by decide +kernel
theorem dL_law_246 : decode cL_law 246 = .ok (.iaload, 1) := by decide +kernel
theorem dL_law_247 : decode cL_law 247 = .ok (.ifCond .ne 7, 3) := by decide +kernel
theorem dL_law_250 : decode cL_law 250 = .ok (.iconst 1, 1) := by decide +kernel
theorem dL_law_251 : decode cL_law 251 = .ok (.goto 4, 3) := by decide +kernel
theorem dL_law_254 : decode cL_law 254 = .ok (.iconst 0, 1) := by decide +kernel
theorem dL_law_255 : decode cL_law 255 = .ok (.istore 20, 2) := by decide +kernel
theorem dL_law_257 : decode cL_law 257 = .ok (.iconst 0, 1) := by decide +kernel
theorem dL_law_258 : decode cL_law 258 = .ok (.istore 21, 2) := by decide +kernel
theorem dL_law_260 : decode cL_law 260 = .ok (.iload 21, 2) := by decide +kernel
theorem dL_law_262 : decode cL_law 262 = .ok (.bipush 20, 2) := by decide +kernel
theorem dL_law_264 : decode cL_law 264 = .ok (.if_icmp .ge 44, 3) := by decide +kernel
theorem dL_law_267 : decode cL_law 267 = .ok (.iload 20, 2) := by decide +kernel
theorem dL_law_269 : decode cL_law 269 = .ok (.ifCond .eq 30, 3) := by decide +kernel
theorem dL_law_272 : decode cL_law 272 = .ok (.iload 21, 2) := by decide +kernel
theorem dL_law_274 : decode cL_law 274 = .ok (.iload 14, 2) := by decide +kernel
theorem dL_law_276 : decode cL_law 276 = .ok (.if_icmp .eq 19, 3) := by decide +kernel
theorem dL_law_279 : decode cL_law 279 = .ok (.aload 4, 2) := by decide +kernel
theorem dL_law_281 : decode cL_law 281 = .ok (.iload 21, 2) := by decide +kernel
theorem dL_law_283 : decode cL_law 283 = .ok (.iaload, 1) := by decide +kernel
theorem dL_law_284 : decode cL_law 284 = .ok (.bipush 100, 2) := by decide +kernel
theorem dL_law_286 : decode cL_law 286 = .ok (.iload 18, 2) := by decide +kernel
theorem dL_law_288 : decode cL_law 288 = .ok (.imul, 1) := by decide +kernel
theorem dL_law_289 : decode cL_law 289 = .ok (.iload 19, 2) := by decide +kernel
theorem dL_law_291 : decode cL_law 291 = .ok (.iadd, 1) := by decide +kernel
theorem dL_law_292 : decode cL_law 292 = .ok (.if_icmp .eq 7, 3) := by decide +kernel
theorem dL_law_295 : decode cL_law 295 = .ok (.iconst 1, 1) := by decide +kernel
theorem dL_law_296 : decode cL_law 296 = .ok (.goto 4, 3) := by decide +kernel
theorem dL_law_299 : decode cL_law 299 = .ok (.iconst 0, 1) := by decide +kernel
theorem dL_law_300 : decode cL_law 300 = .ok (.istore 20, 2) := by decide +kernel
theorem dL_law_302 : decode cL_law 302 = .ok (.iinc 21 1, 3) := by decide +kernel
theorem dL_law_305 : decode cL_law 305 = .ok (.goto (-45), 3) := by decide +kernel
theorem dL_law_308 : decode cL_law 308 = .ok (.iload 20, 2) := by decide +kernel
theorem dL_law_310 : decode cL_law 310 = .ok (.ifCond .eq 11, 3) := by decide +kernel
theorem dL_law_313 : decode cL_law 313 = .ok (.aload 4, 2) := by decide +kernel
theorem dL_law_315 : decode cL_law 315 = .ok (.iload 14, 2) := by decide +kernel
theorem dL_law_317 : decode cL_law 317 = .ok (.iaload, 1) := by decide +kernel
theorem dL_law_318 : decode cL_law 318 = .ok (.goto 5, 3) := by decide +kernel
theorem dL_law_321 : decode cL_law 321 = .ok (.bipush (-3), 2) := by decide +kernel
theorem dL_law_323 : decode cL_law 323 = .ok (.istore 16, 2) := by decide +kernel
theorem dL_law_325 : decode cL_law 325 = .ok (.aload 4, 2) := by decide +kernel
theorem dL_law_327 : decode cL_law 327 = .ok (.iload 14, 2) := by decide +kernel
theorem dL_law_329 : decode cL_law 329 = .ok (.iload 20, 2) := by decide +kernel
theorem dL_law_331 : decode cL_law 331 = .ok (.ifCond .eq 14, 3) := by decide +kernel
theorem dL_law_334 : decode cL_law 334 = .ok (.bipush 100, 2) := by decide +kernel
theorem dL_law_336 : decode cL_law 336 = .ok (.iload 18, 2) := by decide +kernel
theorem dL_law_338 : decode cL_law 338 = .ok (.imul, 1) := by decide +kernel
theorem dL_law_339 : decode cL_law 339 = .ok (.iload 19, 2) := by decide +kernel
theorem dL_law_341 : decode cL_law 341 = .ok (.iadd, 1) := by decide +kernel
theorem dL_law_342 : decode cL_law 342 = .ok (.goto 8, 3) := by decide +kernel
theorem dL_law_345 : decode cL_law 345 = .ok (.aload 4, 2) := by decide +kernel
theorem dL_law_347 : decode cL_law 347 = .ok (.iload 14, 2) := by decide +kernel
theorem dL_law_349 : decode cL_law 349 = .ok (.iaload, 1) := by decide +kernel
theorem dL_law_350 : decode cL_law 350 = .ok (.iastore, 1) := by decide +kernel
theorem dL_law_351 : decode cL_law 351 = .ok (.aload_n 3, 1) := by decide +kernel
theorem dL_law_352 : decode cL_law 352 = .ok (.iconst 0, 1) := by decide +kernel
theorem dL_law_353 : decode cL_law 353 = .ok (.iload 14, 2) := by decide +kernel
theorem dL_law_355 : decode cL_law 355 = .ok (.iload 18, 2) := by decide +kernel
theorem dL_law_357 : decode cL_law 357 = .ok (.iload 19, 2) := by decide +kernel
theorem dL_law_359 : decode cL_law 359 = .ok (.invokestatic 89, 3) := by decide +kernel
theorem dL_law_362 : decode cL_law 362 = .ok (.istore 17, 2) := by decide +kernel
theorem dL_law_364 : decode cL_law 364 = .ok (.goto 750, 3) := by decide +kernel
theorem dL_law_367 : decode cL_law 367 = .ok (.iload 13, 2) := by decide +kernel
theorem dL_law_369 : decode cL_law 369 = .ok (.iconst 5, 1) := by decide +kernel
theorem dL_law_370 : decode cL_law 370 = .ok (.if_icmp .ge 92, 3) := by decide +kernel
theorem dL_law_373 : decode cL_law 373 = .ok (.aload_n 1, 1) := by decide +kernel
theorem dL_law_374 : decode cL_law 374 = .ok (.iconst 1, 1) := by decide +kernel
theorem dL_law_375 : decode cL_law 375 = .ok (.iaload, 1) := by decide +kernel
theorem dL_law_376 : decode cL_law 376 = .ok (.bipush 12, 2) := by decide +kernel
theorem dL_law_378 : decode cL_law 378 = .ok (.if_icmp .ge 84, 3) := by decide +kernel
theorem dL_law_381 : decode cL_law 381 = .ok (.aload 6, 2) := by decide +kernel
theorem dL_law_383 : decode cL_law 383 = .ok (.iconst 4, 1) := by decide +kernel
theorem dL_law_384 : decode cL_law 384 = .ok (.aload_n 1, 1) := by decide +kernel
theorem dL_law_385 : decode cL_law 385 = .ok (.iconst 1, 1) := by decide +kernel
theorem dL_law_386 : decode cL_law 386 = .ok (.iaload, 1) := by decide +kernel
theorem dL_law_387 : decode cL_law 387 = .ok (.imul, 1) := by decide +kernel
theorem dL_law_388 : decode cL_law 388 = .ok (.iload_n 2, 1) := by decide +kernel
theorem dL_law_389 : decode cL_law 389 = .ok (.iconst 4, 1) := by decide +kernel
theorem dL_law_390 : decode cL_law 390 = .ok (.ishr, 1) := by decide +kernel
theorem dL_law_391 : decode cL_law 391 = .ok (.sipush 1000, 3) := by decide +kernel
theorem dL_law_394 : decode cL_law 394 = .ok (.invokestatic 125, 3) := by decide +kernel
theorem dL_law_397 : decode cL_law 397 = .ok (.iastore, 1) := by decide +kernel
theorem dL_law_398 : decode cL_law 398 = .ok (.aload 6, 2) := by decide +kernel
theorem dL_law_400 : decode cL_law 400 = .ok (.iconst 4, 1) := by decide +kernel
theorem dL_law_401 : decode cL_law 401 = .ok (.aload_n 1, 1) := by decide +kernel
theorem dL_law_402 : decode cL_law 402 = .ok (.iconst 1, 1) := by decide +kernel
theorem dL_law_403 : decode cL_law 403 = .ok (.iaload, 1) := by decide +kernel
theorem dL_law_404 : decode cL_law 404 = .ok (.imul, 1) := by decide +kernel
theorem dL_law_405 : decode cL_law 405 = .ok (.iconst 1, 1) := by decide +kernel
theorem dL_law_406 : decode cL_law 406 = .ok (.iadd, 1) := by decide +kernel
theorem dL_law_407 : decode cL_law 407 = .ok (.iconst 0, 1) := by decide +kernel
theorem dL_law_408 : decode cL_law 408 = .ok (.iastore, 1) := by decide +kernel
theorem dL_law_409 : decode cL_law 409 = .ok (.aload 6, 2) := by decide +kernel
theorem dL_law_411 : decode cL_law 411 = .ok (.iconst 4, 1) := by decide +kernel
theorem dL_law_412 : decode cL_law 412 = .ok (.aload_n 1, 1) := by decide +kernel
theorem dL_law_413 : decode cL_law 413 = .ok (.iconst 1, 1) := by decide +kernel
theorem dL_law_414 : decode cL_law 414 = .ok (.iaload, 1) := by decide +kernel
theorem dL_law_415 : decode cL_law 415 = .ok (.imul, 1) := by decide +kernel
theorem dL_law_416 : decode cL_law 416 = .ok (.iconst 2, 1) := by decide +kernel
theorem dL_law_417 : decode cL_law 417 = .ok (.iadd, 1) := by decide +kernel
theorem dL_law_418 : decode cL_law 418 = .ok (.iconst (-1), 1) := by decide +kernel
theorem dL_law_419 : decode cL_law 419 = .ok (.iastore, 1) := by decide +kernel
theorem dL_law_420 : decode cL_law 420 = .ok (.aload 6, 2) := by decide +kernel
theorem dL_law_422 : decode cL_law 422 = .ok (.iconst 4, 1) := by decide +kernel
theorem dL_law_423 : decode cL_law 423 = .ok (.aload_n 1, 1) := by decide +kernel
theorem dL_law_424 : decode cL_law 424 = .ok (.iconst 1, 1) := by decide +kernel
theorem dL_law_425 : decode cL_law 425 = .ok (.iaload, 1) := by decide +kernel
theorem dL_law_426 : decode cL_law 426 = .ok (.imul, 1) := by decide +kernel
theorem dL_law_427 : decode cL_law 427 = .ok (.iconst 3, 1) := by decide +kernel
theorem dL_law_428 : decode cL_law 428 = .ok (.iadd, 1) := by decide +kernel
theorem dL_law_429 : decode cL_law 429 = .ok (.iconst 0, 1) := by decide +kernel
theorem dL_law_430 : decode cL_law 430 = .ok (.iastore, 1) := by decide +kernel
theorem dL_law_431 : decode cL_law 431 = .ok (.aload_n 1, 1) := by decide +kernel
theorem dL_law_432 : decode cL_law 432 = .ok (.iconst 1, 1) := by decide +kernel
theorem dL_law_433 : decode cL_law 433 = .ok (.iaload, 1) := by decide +kernel
theorem dL_law_434 : decode cL_law 434 = .ok (.istore 16, 2) := by decide +kernel
theorem dL_law_436 : decode cL_law 436 = .ok (.aload_n 1, 1) := by decide +kernel
theorem dL_law_437 : decode cL_law 437 = .ok (.iconst 1, 1) := by decide +kernel
theorem dL_law_438 : decode cL_law 438 = .ok (.dup2, 1) := by decide +kernel
theorem dL_law_439 : decode cL_law 439 = .ok (.iaload, 1) := by decide +kernel
theorem dL_law_440 : decode cL_law 440 = .ok (.iconst 1, 1) := by decide +kernel
theorem dL_law_441 : decode cL_law 441 = .ok (.iadd, 1) := by decide +kernel
theorem dL_law_442 : decode cL_law 442 = .ok (.iastore, 1) := by decide +kernel
theorem dL_law_443 : decode cL_law 443 = .ok (.aload_n 3, 1) := by decide +kernel
theorem dL_law_444 : decode cL_law 444 = .ok (.aload 6, 2) := by decide +kernel
theorem dL_law_446 : decode cL_law 446 = .ok (.iconst 4, 1) := by decide +kernel
theorem dL_law_447 : decode cL_law 447 = .ok (.aload_n 1, 1) := by decide +kernel
theorem dL_law_448 : decode cL_law 448 = .ok (.iconst 1, 1) := by decide +kernel
theorem dL_law_449 : decode cL_law 449 = .ok (.iaload, 1) := by decide +kernel
theorem dL_law_450 : decode cL_law 450 = .ok (.imul, 1) := by decide +kernel
theorem dL_law_451 : decode cL_law 451 = .ok (.iconst 4, 1) := by decide +kernel
theorem dL_law_452 : decode cL_law 452 = .ok (.isub, 1) := by decide +kernel
theorem dL_law_453 : decode cL_law 453 = .ok (.iaload, 1) := by decide +kernel
theorem dL_law_454 : decode cL_law 454 = .ok (.invokevirtual 138, 3) := by decide +kernel
theorem dL_law_457 : decode cL_law 457 = .ok (.istore 17, 2) := by decide +kernel
theorem dL_law_459 : decode cL_law 459 = .ok (.goto 655, 3) := by decide +kernel
theorem dL_law_462 : decode cL_law 462 = .ok (.iload 13, 2) := by decide +kernel
theorem dL_law_464 : decode cL_law 464 = .ok (.bipush 13, 2) := by decide +kernel
theorem dL_law_466 : decode cL_law 466 = .ok (.if_icmp .ge 239, 3) := by decide +kernel
theorem dL_law_469 : decode cL_law 469 = .ok (.iconst 0, 1) := by decide +kernel
theorem dL_law_470 : decode cL_law 470 = .ok (.istore 18, 2) := by decide +kernel
theorem dL_law_472 : decode cL_law 472 = .ok (.iload 18, 2) := by decide +kernel
theorem dL_law_474 : decode cL_law 474 = .ok (.bipush 20, 2) := by decide +kernel
theorem dL_law_476 : decode cL_law 476 = .ok (.if_icmp .ge 37, 3) := by decide +kernel
theorem dL_law_479 : decode cL_law 479 = .ok (.aload 4, 2) := by decide +kernel
theorem dL_law_481 : decode cL_law 481 = .ok (.iload 14, 2) := by decide +kernel
theorem dL_law_483 : decode cL_law 483 = .ok (.iaload, 1) := by decide +kernel
theorem dL_law_484 : decode cL_law 484 = .ok (.ifCond .ge 29, 3) := by decide +kernel
theorem dL_law_487 : decode cL_law 487 = .ok (.iload_n 2, 1) := by decide +kernel
theorem dL_law_488 : decode cL_law 488 = .ok (.bipush 16, 2) := by decide +kernel
theorem dL_law_490 : decode cL_law 490 = .ok (.ishr, 1) := by decide +kernel
theorem dL_law_491 : decode cL_law 491 = .ok (.iconst 5, 1) := by decide +kernel
theorem dL_law_492 : decode cL_law 492 = .ok (.invokestatic 125, 3) := by decide +kernel
theorem dL_law_495 : decode cL_law 495 = .ok (.ifCond .le 18, 3) := by decide +kernel
theorem dL_law_498 : decode cL_law 498 = .ok (.iload 14, 2) := by decide +kernel
theorem dL_law_500 : decode cL_law 500 = .ok (.iconst 1, 1) := by decide +kernel
theorem dL_law_501 : decode cL_law 501 = .ok (.iadd, 1) := by decide +kernel
theorem dL_law_502 : decode cL_law 502 = .ok (.bipush 20, 2) := by decide +kernel
theorem dL_law_504 : decode cL_law 504 = .ok (.irem, 1) := by decide +kernel
theorem dL_law_505 : decode cL_law 505 = .ok (.istore 14, 2) := by decide +kernel
theorem dL_law_507 : decode cL_law 507 = .ok (.iinc 18 1, 3) := by decide +kernel
theorem dL_law_510 : decode cL_law 510 = .ok (.goto (-38), 3) := by decide +kernel
theorem dL_law_513 : decode cL_law 513 = .ok (.iload 15, 2) := by decide +kernel
theorem dL_law_515 : decode cL_law 515 = .ok (.aload_n 1, 1) := by decide +kernel
theorem dL_law_516 : decode cL_law 516 = .ok (.iconst 1, 1) := by decide +kernel
theorem dL_law_517 : decode cL_law 517 = .ok (.iaload, 1) := by decide +kernel
theorem dL_law_518 : decode cL_law 518 = .ok (.if_icmp .ge 15, 3) := by decide +kernel
theorem dL_law_521 : decode cL_law 521 = .ok (.aload 6, 2) := by decide +kernel
theorem dL_law_523 : decode cL_law 523 = .ok (.iconst 4, 1) := by decide +kernel
theorem dL_law_524 : decode cL_law 524 = .ok (.iload 15, 2) := by decide +kernel
theorem dL_law_526 : decode cL_law 526 = .ok (.imul, 1) := by decide +kernel
theorem dL_law_527 : decode cL_law 527 = .ok (.iconst 3, 1) := by decide +kernel
theorem dL_law_528 : decode cL_law 528 = .ok (.iadd, 1) := by decide +kernel
theorem dL_law_529 : decode cL_law 529 = .ok (.iaload, 1) := by decide +kernel
theorem dL_law_530 : decode cL_law 530 = .ok (.goto 4, 3) := by decide +kernel
theorem dL_law_533 : decode cL_law 533 = .ok (.iconst 0, 1) := by decide +kernel
theorem dL_law_534 : decode cL_law 534 = .ok (.istore 18, 2) := by decide +kernel
theorem dL_law_536 : decode cL_law 536 = .ok (.iload 15, 2) := by decide +kernel
theorem dL_law_538 : decode cL_law 538 = .ok (.aload_n 1, 1) := by decide +kernel
theorem dL_law_539 : decode cL_law 539 = .ok (.iconst 1, 1) := by decide +kernel
theorem dL_law_540 : decode cL_law 540 = .ok (.iaload, 1) := by decide +kernel
theorem dL_law_541 : decode cL_law 541 = .ok (.if_icmp .ge 58, 3) := by decide +kernel
theorem dL_law_544 : decode cL_law 544 = .ok (.aload 6, 2) := by decide +kernel
theorem dL_law_546 : decode cL_law 546 = .ok (.iconst 4, 1) := by decide +kernel
theorem dL_law_547 : decode cL_law 547 = .ok (.iload 15, 2) := by decide +kernel
theorem dL_law_549 : decode cL_law 549 = .ok (.imul, 1) := by decide +kernel
theorem dL_law_550 : decode cL_law 550 = .ok (.iconst 1, 1) := by decide +kernel
theorem dL_law_551 : decode cL_law 551 = .ok (.iadd, 1) := by decide +kernel
theorem dL_law_552 : decode cL_law 552 = .ok (.iaload, 1) := by decide +kernel
theorem dL_law_553 : decode cL_law 553 = .ok (.ifCond .ne 46, 3) := by decide +kernel
theorem dL_law_556 : decode cL_law 556 = .ok (.iload 18, 2) := by decide +kernel
theorem dL_law_558 : decode cL_law 558 = .ok (.iconst 5, 1) := by decide +kernel
theorem dL_law_559 : decode cL_law 559 = .ok (.if_icmp .ge 40, 3) := by decide +kernel
theorem dL_law_562 : decode cL_law 562 = .ok (.iload 18, 2) := by decide +kernel
theorem dL_law_564 : decode cL_law 564 = .ok (.aload_n 1, 1) := by decide +kernel
theorem dL_law_565 : decode cL_law 565 = .ok (.iconst 0, 1) := by decide +kernel
theorem dL_law_566 : decode cL_law 566 = .ok (.iaload, 1) := by decide +kernel
theorem dL_law_567 : decode cL_law 567 = .ok (.if_icmp .ge 32, 3) := by decide +kernel
theorem dL_law_570 : decode cL_law 570 = .ok (.aload 4, 2) := by decide +kernel
theorem dL_law_572 : decode cL_law 572 = .ok (.iload 14, 2) := by decide +kernel
theorem dL_law_574 : decode cL_law 574 = .ok (.iaload, 1) := by decide +kernel
theorem dL_law_575 : decode cL_law 575 = .ok (.ifCond .lt 24, 3) := by decide +kernel
theorem dL_law_578 : decode cL_law 578 = .ok (.iload 15, 2) := by decide +kernel
theorem dL_law_580 : decode cL_law 580 = .ok (.aload 6, 2) := by decide +kernel
theorem dL_law_582 : decode cL_law 582 = .ok (.aload 7, 2) := by decide +kernel
theorem dL_law_584 : decode cL_law 584 = .ok (.invokestatic 46, 3) := by decide +kernel
theorem dL_law_587 : decode cL_law 587 = .ok (.iload 14, 2) := by decide +kernel
theorem dL_law_589 : decode cL_law 589 = .ok (.ishr, 1) := by decide +kernel
theorem dL_law_590 : decode cL_law 590 = .ok (.iconst 1, 1) := by decide +kernel
theorem dL_law_591 : decode cL_law 591 = .ok (.iand, 1) := by decide +kernel
theorem dL_law_592 : decode cL_law 592 = .ok (.ifCond .ne 7, 3) := by decide +kernel
theorem dL_law_595 : decode cL_law 595 = .ok (.iconst 1, 1) := by decide +kernel
theorem dL_law_596 : decode cL_law 596 = .ok (.goto 4, 3) := by decide +kernel
theorem dL_law_599 : decode cL_law 599 = .ok (.iconst 0, 1) := by decide +kernel
theorem dL_law_600 : decode cL_law 600 = .ok (.istore 19, 2) := by decide +kernel
theorem dL_law_602 : decode cL_law 602 = .ok (.iload 19, 2) := by decide +kernel
theorem dL_law_604 : decode cL_law 604 = .ok (.ifCond .eq 48, 3) := by decide +kernel
theorem dL_law_607 : decode cL_law 607 = .ok (.aload 7, 2) := by decide +kernel
theorem dL_law_609 : decode cL_law 609 = .ok (.iconst 5, 1) := by decide +kernel
theorem dL_law_610 : decode cL_law 610 = .ok (.iload 15, 2) := by decide +kernel
theorem dL_law_612 : decode cL_law 612 = .ok (.imul, 1) := by decide +kernel
theorem dL_law_613 : decode cL_law 613 = .ok (.iload 18, 2) := by decide +kernel
theorem dL_law_615 : decode cL_law 615 = .ok (.iadd, 1) := by decide +kernel
theorem dL_law_616 : decode cL_law 616 = .ok (.iload 14, 2) := by decide +kernel
theorem dL_law_618 : decode cL_law 618 = .ok (.iastore, 1) := by decide +kernel
theorem dL_law_619 : decode cL_law 619 = .ok (.aload 8, 2) := by decide +kernel
theorem dL_law_621 : decode cL_law 621 = .ok (.iconst 5, 1) := by decide +kernel
theorem dL_law_622 : decode cL_law 622 = .ok (.iload 15, 2) := by decide +kernel
theorem dL_law_624 : decode cL_law 624 = .ok (.imul, 1) := by decide +kernel
theorem dL_law_625 : decode cL_law 625 = .ok (.iload 18, 2) := by decide +kernel
theorem dL_law_627 : decode cL_law 627 = .ok (.iadd, 1) := by decide +kernel
theorem dL_law_628 : decode cL_law 628 = .ok (.iconst 1, 1) := by decide +kernel
theorem dL_law_629 : decode cL_law 629 = .ok (.iload_n 2, 1) := by decide +kernel
theorem dL_law_630 : decode cL_law 630 = .ok (.iconst 3, 1) := by decide +kernel
theorem dL_law_631 : decode cL_law 631 = .ok (.ishr, 1) := by decide +kernel
theorem dL_law_632 : decode cL_law 632 = .ok (.bipush 99, 2) := by decide +kernel
theorem dL_law_634 : decode cL_law 634 = .ok (.invokestatic 125, 3) := by decide +kernel
theorem dL_law_637 : decode cL_law 637 = .ok (.iadd, 1) := by decide +kernel
theorem dL_law_638 : decode cL_law 638 = .ok (.iastore, 1) := by decide +kernel
theorem dL_law_639 : decode cL_law 639 = .ok (.aload 6, 2) := by decide +kernel
theorem dL_law_641 : decode cL_law 641 = .ok (.iconst 4, 1) := by decide +kernel
theorem dL_law_642 : decode cL_law 642 = .ok (.iload 15, 2) := by decide +kernel
theorem dL_law_644 : decode cL_law 644 = .ok (.imul, 1) := by decide +kernel
theorem dL_law_645 : decode cL_law 645 = .ok (.iconst 3, 1) := by decide +kernel
theorem dL_law_646 : decode cL_law 646 = .ok (.iadd, 1) := by decide +kernel
theorem dL_law_647 : decode cL_law 647 = .ok (.dup2, 1) := by decide +kernel
theorem dL_law_648 : decode cL_law 648 = .ok (.iaload, 1) := by decide +kernel
theorem dL_law_649 : decode cL_law 649 = .ok (.iconst 1, 1) := by decide +kernel
theorem dL_law_650 : decode cL_law 650 = .ok (.iadd, 1) := by decide +kernel
theorem dL_law_651 : decode cL_law 651 = .ok (.iastore, 1) := by decide +kernel
theorem dL_law_652 : decode cL_law 652 = .ok (.iload 19, 2) := by decide +kernel
theorem dL_law_654 : decode cL_law 654 = .ok (.ifCond .eq 10, 3) := by decide +kernel
theorem dL_law_657 : decode cL_law 657 = .ok (.iload 18, 2) := by decide +kernel
theorem dL_law_659 : decode cL_law 659 = .ok (.iconst 1, 1) := by decide +kernel
theorem dL_law_660 : decode cL_law 660 = .ok (.iadd, 1) := by decide +kernel
theorem dL_law_661 : decode cL_law 661 = .ok (.goto 18, 3) := by decide +kernel
theorem dL_law_664 : decode cL_law 664 = .ok (.iload 15, 2) := by decide +kernel
theorem dL_law_666 : decode cL_law 666 = .ok (.aload_n 1, 1) := by decide +kernel
theorem dL_law_667 : decode cL_law 667 = .ok (.iconst 1, 1) := by decide +kernel
theorem dL_law_668 : decode cL_law 668 = .ok (.iaload, 1) := by decide +kernel
theorem dL_law_669 : decode cL_law 669 = .ok (.if_icmp .ne 8, 3) := by decide +kernel
theorem dL_law_672 : decode cL_law 672 = .ok (.bipush (-4), 2) := by decide +kernel
theorem dL_law_674 : decode cL_law 674 = .ok (.goto 5, 3) := by decide +kernel
theorem dL_law_677 : decode cL_law 677 = .ok (.bipush (-3), 2) := by decide +kernel
theorem dL_law_679 : decode cL_law 679 = .ok (.istore 16, 2) := by decide +kernel
theorem dL_law_681 : decode cL_law 681 = .ok (.aload_n 3, 1) := by decide +kernel
theorem dL_law_682 : decode cL_law 682 = .ok (.iconst 2, 1) := by decide +kernel
theorem dL_law_683 : decode cL_law 683 = .ok (.iload 15, 2) := by decide +kernel
theorem dL_law_685 : decode cL_law 685 = .ok (.iload 14, 2) := by decide +kernel
theorem dL_law_687 : decode cL_law 687 = .ok (.iconst 1, 1) := by decide +kernel
theorem dL_law_688 : decode cL_law 688 = .ok (.iload_n 2, 1) := by decide +kernel
theorem dL_law_689 : decode cL_law 689 = .ok (.iconst 3, 1) := by decide +kernel
theorem dL_law_690 : decode cL_law 690 = .ok (.ishr, 1) := by decide +kernel
theorem dL_law_691 : decode cL_law 691 = .ok (.bipush 99, 2) := by decide +kernel
theorem dL_law_693 : decode cL_law 693 = .ok (.invokestatic 125, 3) := by decide +kernel
theorem dL_law_696 : decode cL_law 696 = .ok (.iadd, 1) := by decide +kernel
theorem dL_law_697 : decode cL_law 697 = .ok (.invokestatic 89, 3) := by decide +kernel
theorem dL_law_700 : decode cL_law 700 = .ok (.istore 17, 2) := by decide +kernel
theorem dL_law_702 : decode cL_law 702 = .ok (.goto 412, 3) := by decide +kernel
theorem dL_law_705 : decode cL_law 705 = .ok (.iload 13, 2) := by decide +kernel
theorem dL_law_707 : decode cL_law 707 = .ok (.bipush 15, 2) := by decide +kernel
theorem dL_law_709 : decode cL_law 709 = .ok (.if_icmp .ge 168, 3) := by decide +kernel
theorem dL_law_712 : decode cL_law 712 = .ok (.iload_n 2, 1) := by decide +kernel
theorem dL_law_713 : decode cL_law 713 = .ok (.bipush 6, 2) := by decide +kernel
theorem dL_law_715 : decode cL_law 715 = .ok (.ishr, 1) := by decide +kernel
theorem dL_law_716 : decode cL_law 716 = .ok (.iconst 3, 1) := by decide +kernel
theorem dL_law_717 : decode cL_law 717 = .ok (.invokestatic 125, 3) := by decide +kernel
theorem dL_law_720 : decode cL_law 720 = .ok (.ifCond .le 9, 3) := by decide +kernel
theorem dL_law_723 : decode cL_law 723 = .ok (.sipush 999, 3) := by decide +kernel
theorem dL_law_726 : decode cL_law 726 = .ok (.goto 13, 3) := by decide +kernel
theorem dL_law_729 : decode cL_law 729 = .ok (.iload_n 2, 1) := by decide +kernel
theorem dL_law_730 : decode cL_law 730 = .ok (.bipush 8, 2) := by decide +kernel
theorem dL_law_732 : decode cL_law 732 = .ok (.ishr, 1) := by decide +kernel
theorem dL_law_733 : decode cL_law 733 = .ok (.sipush 1000, 3) := by decide +kernel
theorem dL_law_736 : decode cL_law 736 = .ok (.invokestatic 125, 3) := by decide +kernel
theorem dL_law_739 : decode cL_law 739 = .ok (.istore 18, 2) := by decide +kernel
theorem dL_law_741 : decode cL_law 741 = .ok (.iconst 0, 1) := by decide +kernel
theorem dL_law_742 : decode cL_law 742 = .ok (.istore 19, 2) := by decide +kernel
theorem dL_law_744 : decode cL_law 744 = .ok (.iconst 0, 1) := by decide +kernel
theorem dL_law_745 : decode cL_law 745 = .ok (.istore 20, 2) := by decide +kernel
theorem dL_law_747 : decode cL_law 747 = .ok (.iload 20, 2) := by decide +kernel
theorem dL_law_749 : decode cL_law 749 = .ok (.aload_n 1, 1) := by decide +kernel
theorem dL_law_750 : decode cL_law 750 = .ok (.iconst 1, 1) := by decide +kernel
theorem dL_law_751 : decode cL_law 751 = .ok (.iaload, 1) := by decide +kernel
theorem dL_law_752 : decode cL_law 752 = .ok (.if_icmp .ge 57, 3) := by decide +kernel
theorem dL_law_755 : decode cL_law 755 = .ok (.iload 19, 2) := by decide +kernel
theorem dL_law_757 : decode cL_law 757 = .ok (.ifCond .ne 39, 3) := by decide +kernel
theorem dL_law_760 : decode cL_law 760 = .ok (.aload 6, 2) := by decide +kernel
theorem dL_law_762 : decode cL_law 762 = .ok (.iconst 4, 1) := by decide +kernel
theorem dL_law_763 : decode cL_law 763 = .ok (.iload 20, 2) := by decide +kernel
theorem dL_law_765 : decode cL_law 765 = .ok (.imul, 1) := by decide +kernel
theorem dL_law_766 : decode cL_law 766 = .ok (.iconst 1, 1) := by decide +kernel
theorem dL_law_767 : decode cL_law 767 = .ok (.iadd, 1) := by decide +kernel
theorem dL_law_768 : decode cL_law 768 = .ok (.iaload, 1) := by decide +kernel
theorem dL_law_769 : decode cL_law 769 = .ok (.ifCond .ne 31, 3) := by decide +kernel
theorem dL_law_772 : decode cL_law 772 = .ok (.aload 6, 2) := by decide +kernel
theorem dL_law_774 : decode cL_law 774 = .ok (.iconst 4, 1) := by decide +kernel
theorem dL_law_775 : decode cL_law 775 = .ok (.iload 20, 2) := by decide +kernel
theorem dL_law_777 : decode cL_law 777 = .ok (.imul, 1) := by decide +kernel
theorem dL_law_778 : decode cL_law 778 = .ok (.iconst 3, 1) := by decide +kernel
theorem dL_law_779 : decode cL_law 779 = .ok (.iadd, 1) := by decide +kernel
theorem dL_law_780 : decode cL_law 780 = .ok (.iaload, 1) := by decide +kernel
theorem dL_law_781 : decode cL_law 781 = .ok (.ifCond .le 19, 3) := by decide +kernel
theorem dL_law_784 : decode cL_law 784 = .ok (.aload 6, 2) := by decide +kernel
theorem dL_law_786 : decode cL_law 786 = .ok (.iconst 4, 1) := by decide +kernel
theorem dL_law_787 : decode cL_law 787 = .ok (.iload 20, 2) := by decide +kernel
theorem dL_law_789 : decode cL_law 789 = .ok (.imul, 1) := by decide +kernel
theorem dL_law_790 : decode cL_law 790 = .ok (.iaload, 1) := by decide +kernel
theorem dL_law_791 : decode cL_law 791 = .ok (.iload 18, 2) := by decide +kernel
theorem dL_law_793 : decode cL_law 793 = .ok (.if_icmp .gt 7, 3) := by decide +kernel
theorem dL_law_796 : decode cL_law 796 = .ok (.iconst 1, 1) := by decide +kernel
theorem dL_law_797 : decode cL_law 797 = .ok (.goto 4, 3) := by decide +kernel
theorem dL_law_800 : decode cL_law 800 = .ok (.iconst 0, 1) := by decide +kernel
theorem dL_law_801 : decode cL_law 801 = .ok (.istore 19, 2) := by decide +kernel
theorem dL_law_803 : decode cL_law 803 = .ok (.iinc 20 1, 3) := by decide +kernel
theorem dL_law_806 : decode cL_law 806 = .ok (.goto (-59), 3) := by decide +kernel
theorem dL_law_809 : decode cL_law 809 = .ok (.iload 19, 2) := by decide +kernel
theorem dL_law_811 : decode cL_law 811 = .ok (.ifCond .eq 13, 3) := by decide +kernel
theorem dL_law_814 : decode cL_law 814 = .ok (.aload_n 1, 1) := by decide +kernel
theorem dL_law_815 : decode cL_law 815 = .ok (.iconst 2, 1) := by decide +kernel
theorem dL_law_816 : decode cL_law 816 = .ok (.iaload, 1) := by decide +kernel
theorem dL_law_817 : decode cL_law 817 = .ok (.ifCond .ne 7, 3) := by decide +kernel
theorem dL_law_820 : decode cL_law 820 = .ok (.iconst 1, 1) := by decide +kernel
theorem dL_law_821 : decode cL_law 821 = .ok (.goto 4, 3) := by decide +kernel
theorem dL_law_824 : decode cL_law 824 = .ok (.iconst 0, 1) := by decide +kernel
theorem dL_law_825 : decode cL_law 825 = .ok (.istore 20, 2) := by decide +kernel
theorem dL_law_827 : decode cL_law 827 = .ok (.iload 20, 2) := by decide +kernel
theorem dL_law_829 : decode cL_law 829 = .ok (.ifCond .eq 19, 3) := by decide +kernel
theorem dL_law_832 : decode cL_law 832 = .ok (.iload 18, 2) := by decide +kernel
theorem dL_law_834 : decode cL_law 834 = .ok (.aload 4, 2) := by decide +kernel
theorem dL_law_836 : decode cL_law 836 = .ok (.aload 6, 2) := by decide +kernel
theorem dL_law_838 : decode cL_law 838 = .ok (.aload 7, 2) := by decide +kernel
theorem dL_law_840 : decode cL_law 840 = .ok (.aload 10, 2) := by decide +kernel
theorem dL_law_842 : decode cL_law 842 = .ok (.aload 11, 2) := by decide +kernel
theorem dL_law_844 : decode cL_law 844 = .ok (.aload_n 1, 1) := by decide +kernel
theorem dL_law_845 : decode cL_law 845 = .ok (.invokestatic 141, 3) := by decide +kernel
theorem dL_law_848 : decode cL_law 848 = .ok (.iload 20, 2) := by decide +kernel
theorem dL_law_850 : decode cL_law 850 = .ok (.ifCond .eq 9, 3) := by decide +kernel
theorem dL_law_853 : decode cL_law 853 = .ok (.aload_n 1, 1) := by decide +kernel
theorem dL_law_854 : decode cL_law 854 = .ok (.iconst 2, 1) := by decide +kernel
theorem dL_law_855 : decode cL_law 855 = .ok (.iaload, 1) := by decide +kernel
theorem dL_law_856 : decode cL_law 856 = .ok (.goto 5, 3) := by decide +kernel
theorem dL_law_859 : decode cL_law 859 = .ok (.bipush (-3), 2) := by decide +kernel
theorem dL_law_861 : decode cL_law 861 = .ok (.istore 16, 2) := by decide +kernel
theorem dL_law_863 : decode cL_law 863 = .ok (.aload_n 3, 1) := by decide +kernel
theorem dL_law_864 : decode cL_law 864 = .ok (.iconst 4, 1) := by decide +kernel
theorem dL_law_865 : decode cL_law 865 = .ok (.iload 18, 2) := by decide +kernel
theorem dL_law_867 : decode cL_law 867 = .ok (.iconst 0, 1) := by decide +kernel
theorem dL_law_868 : decode cL_law 868 = .ok (.iconst 0, 1) := by decide +kernel
theorem dL_law_869 : decode cL_law 869 = .ok (.invokestatic 89, 3) := by decide +kernel
theorem dL_law_872 : decode cL_law 872 = .ok (.istore 17, 2) := by decide +kernel
theorem dL_law_874 : decode cL_law 874 = .ok (.goto 240, 3) := by decide +kernel
theorem dL_law_877 : decode cL_law 877 = .ok (.iload 13, 2) := by decide +kernel
theorem dL_law_879 : decode cL_law 879 = .ok (.bipush 18, 2) := by decide +kernel
theorem dL_law_881 : decode cL_law 881 = .ok (.if_icmp .ge 66, 3) := by decide +kernel
theorem dL_law_884 : decode cL_law 884 = .ok (.iload_n 2, 1) := by decide +kernel
theorem dL_law_885 : decode cL_law 885 = .ok (.bipush 6, 2) := by decide +kernel
theorem dL_law_887 : decode cL_law 887 = .ok (.ishr, 1) := by decide +kernel
theorem dL_law_888 : decode cL_law 888 = .ok (.aload_n 1, 1) := by decide +kernel
theorem dL_law_889 : decode cL_law 889 = .ok (.iconst 2, 1) := by decide +kernel
theorem dL_law_890 : decode cL_law 890 = .ok (.iaload, 1) := by decide +kernel
theorem dL_law_891 : decode cL_law 891 = .ok (.iconst 1, 1) := by decide +kernel
theorem dL_law_892 : decode cL_law 892 = .ok (.iadd, 1) := by decide +kernel
theorem dL_law_893 : decode cL_law 893 = .ok (.invokestatic 125, 3) := by decide +kernel
theorem dL_law_896 : decode cL_law 896 = .ok (.istore 18, 2) := by decide +kernel
theorem dL_law_898 : decode cL_law 898 = .ok (.iload 18, 2) := by decide +kernel
theorem dL_law_900 : decode cL_law 900 = .ok (.aload_n 1, 1) := by decide +kernel
theorem dL_law_901 : decode cL_law 901 = .ok (.iconst 2, 1) := by decide +kernel
theorem dL_law_902 : decode cL_law 902 = .ok (.iaload, 1) := by decide +kernel
theorem dL_law_903 : decode cL_law 903 = .ok (.if_icmp .ne 8, 3) := by decide +kernel
theorem dL_law_906 : decode cL_law 906 = .ok (.bipush (-4), 2) := by decide +kernel
theorem dL_law_908 : decode cL_law 908 = .ok (.goto 23, 3) := by decide +kernel
theorem dL_law_911 : decode cL_law 911 = .ok (.iload 18, 2) := by decide +kernel
theorem dL_law_913 : decode cL_law 913 = .ok (.aload 4, 2) := by decide +kernel
theorem dL_law_915 : decode cL_law 915 = .ok (.aload 5, 2) := by decide +kernel
theorem dL_law_917 : decode cL_law 917 = .ok (.aload 6, 2) := by decide +kernel
theorem dL_law_919 : decode cL_law 919 = .ok (.aload 7, 2) := by decide +kernel
theorem dL_law_921 : decode cL_law 921 = .ok (.aload 8, 2) := by decide +kernel
theorem dL_law_923 : decode cL_law 923 = .ok (.aload 10, 2) := by decide +kernel
theorem dL_law_925 : decode cL_law 925 = .ok (.aload 11, 2) := by decide +kernel
theorem dL_law_927 : decode cL_law 927 = .ok (.aload_n 1, 1) := by decide +kernel
theorem dL_law_928 : decode cL_law 928 = .ok (.invokestatic 145, 3) := by decide +kernel
theorem dL_law_931 : decode cL_law 931 = .ok (.istore 16, 2) := by decide +kernel
theorem dL_law_933 : decode cL_law 933 = .ok (.aload_n 3, 1) := by decide +kernel
theorem dL_law_934 : decode cL_law 934 = .ok (.iconst 5, 1) := by decide +kernel
theorem dL_law_935 : decode cL_law 935 = .ok (.iload 18, 2) := by decide +kernel
theorem dL_law_937 : decode cL_law 937 = .ok (.iconst 0, 1) := by decide +kernel
theorem dL_law_938 : decode cL_law 938 = .ok (.iconst 0, 1) := by decide +kernel
theorem dL_law_939 : decode cL_law 939 = .ok (.invokestatic 89, 3) := by decide +kernel
theorem dL_law_942 : decode cL_law 942 = .ok (.istore 17, 2) := by decide +kernel
theorem dL_law_944 : decode cL_law 944 = .ok (.goto 170, 3) := by decide +kernel
theorem dL_law_947 : decode cL_law 947 = .ok (.iload 13, 2) := by decide +kernel
theorem dL_law_949 : decode cL_law 949 = .ok (.bipush 18, 2) := by decide +kernel
theorem dL_law_951 : decode cL_law 951 = .ok (.if_icmp .ne 39, 3) := by decide +kernel
theorem dL_law_954 : decode cL_law 954 = .ok (.aload_n 1, 1) := by decide +kernel
theorem dL_law_955 : decode cL_law 955 = .ok (.iconst 2, 1) := by decide +kernel
theorem dL_law_956 : decode cL_law 956 = .ok (.iaload, 1) := by decide +kernel
theorem dL_law_957 : decode cL_law 957 = .ok (.ifCond .le 8, 3) := by decide +kernel
theorem dL_law_960 : decode cL_law 960 = .ok (.bipush (-3), 2) := by decide +kernel
theorem dL_law_962 : decode cL_law 962 = .ok (.goto 13, 3) := by decide +kernel
theorem dL_law_965 : decode cL_law 965 = .ok (.aload 4, 2) := by decide +kernel
theorem dL_law_967 : decode cL_law 967 = .ok (.aload 5, 2) := by decide +kernel
theorem dL_law_969 : decode cL_law 969 = .ok (.aload 9, 2) := by decide +kernel
theorem dL_law_971 : decode cL_law 971 = .ok (.aload_n 1, 1) := by decide +kernel
theorem dL_law_972 : decode cL_law 972 = .ok (.invokestatic 149, 3) := by decide +kernel
theorem dL_law_975 : decode cL_law 975 = .ok (.istore 16, 2) := by decide +kernel
theorem dL_law_977 : decode cL_law 977 = .ok (.aload_n 3, 1) := by decide +kernel
theorem dL_law_978 : decode cL_law 978 = .ok (.iconst 1, 1) := by decide +kernel
theorem dL_law_979 : decode cL_law 979 = .ok (.iconst 0, 1) := by decide +kernel
theorem dL_law_980 : decode cL_law 980 = .ok (.iconst 0, 1) := by decide +kernel
theorem dL_law_981 : decode cL_law 981 = .ok (.iconst 0, 1) := by decide +kernel
theorem dL_law_982 : decode cL_law 982 = .ok (.invokestatic 89, 3) := by decide +kernel
theorem dL_law_985 : decode cL_law 985 = .ok (.istore 17, 2) := by decide +kernel
theorem dL_law_987 : decode cL_law 987 = .ok (.goto 127, 3) := by decide +kernel
theorem dL_law_990 : decode cL_law 990 = .ok (.iconst 1, 1) := by decide +kernel
theorem dL_law_991 : decode cL_law 991 = .ok (.iload_n 2, 1) := by decide +kernel
theorem dL_law_992 : decode cL_law 992 = .ok (.bipush 6, 2) := by decide +kernel
theorem dL_law_994 : decode cL_law 994 = .ok (.ishr, 1) := by decide +kernel
theorem dL_law_995 : decode cL_law 995 = .ok (.bipush 6, 2) := by decide +kernel
theorem dL_law_997 : decode cL_law 997 = .ok (.invokestatic 125, 3) := by decide +kernel
theorem dL_law_1000 : decode cL_law 1000 = .ok (.iadd, 1) := by decide +kernel
theorem dL_law_1001 : decode cL_law 1001 = .ok (.istore 18, 2) := by decide +kernel
theorem dL_law_1003 : decode cL_law 1003 = .ok (.aload_n 1, 1) := by decide +kernel
theorem dL_law_1004 : decode cL_law 1004 = .ok (.iconst 2, 1) := by decide +kernel
theorem dL_law_1005 : decode cL_law 1005 = .ok (.iaload, 1) := by decide +kernel
theorem dL_law_1006 : decode cL_law 1006 = .ok (.ifCond .ne 7, 3) := by decide +kernel
theorem dL_law_1009 : decode cL_law 1009 = .ok (.iconst 1, 1) := by decide +kernel
theorem dL_law_1010 : decode cL_law 1010 = .ok (.goto 4, 3) := by decide +kernel
theorem dL_law_1013 : decode cL_law 1013 = .ok (.iconst 0, 1) := by decide +kernel
theorem dL_law_1014 : decode cL_law 1014 = .ok (.istore 19, 2) := by decide +kernel
theorem dL_law_1016 : decode cL_law 1016 = .ok (.iconst 0, 1) := by decide +kernel
theorem dL_law_1017 : decode cL_law 1017 = .ok (.istore 20, 2) := by decide +kernel
theorem dL_law_1019 : decode cL_law 1019 = .ok (.iload 20, 2) := by decide +kernel
theorem dL_law_1021 : decode cL_law 1021 = .ok (.aload_n 1, 1) := by decide +kernel
theorem dL_law_1022 : decode cL_law 1022 = .ok (.iconst 1, 1) := by decide +kernel
theorem dL_law_1023 : decode cL_law 1023 = .ok (.iaload, 1) := by decide +kernel
theorem dL_law_1024 : decode cL_law 1024 = .ok (.if_icmp .ge 48, 3) := by decide +kernel
theorem dL_law_1027 : decode cL_law 1027 = .ok (.iload 19, 2) := by decide +kernel
theorem dL_law_1029 : decode cL_law 1029 = .ok (.ifCond .eq 34, 3) := by decide +kernel
theorem dL_law_1032 : decode cL_law 1032 = .ok (.aload 6, 2) := by decide +kernel
theorem dL_law_1034 : decode cL_law 1034 = .ok (.iconst 4, 1) := by decide +kernel
theorem dL_law_1035 : decode cL_law 1035 = .ok (.iload 20, 2) := by decide +kernel
theorem dL_law_1037 : decode cL_law 1037 = .ok (.imul, 1) := by decide +kernel
theorem dL_law_1038 : decode cL_law 1038 = .ok (.iconst 1, 1) := by decide +kernel
theorem dL_law_1039 : decode cL_law 1039 = .ok (.iadd, 1) := by decide +kernel
theorem dL_law_1040 : decode cL_law 1040 = .ok (.iaload, 1) := by decide +kernel
theorem dL_law_1041 : decode cL_law 1041 = .ok (.iconst 2, 1) := by decide +kernel
theorem dL_law_1042 : decode cL_law 1042 = .ok (.if_icmp .eq 17, 3) := by decide +kernel
theorem dL_law_1045 : decode cL_law 1045 = .ok (.aload 6, 2) := by decide +kernel
theorem dL_law_1047 : decode cL_law 1047 = .ok (.iconst 4, 1) := by decide +kernel
theorem dL_law_1048 : decode cL_law 1048 = .ok (.iload 20, 2) := by decide +kernel
theorem dL_law_1050 : decode cL_law 1050 = .ok (.imul, 1) := by decide +kernel
theorem dL_law_1051 : decode cL_law 1051 = .ok (.iconst 3, 1) := by decide +kernel
theorem dL_law_1052 : decode cL_law 1052 = .ok (.iadd, 1) := by decide +kernel
theorem dL_law_1053 : decode cL_law 1053 = .ok (.iaload, 1) := by decide +kernel
theorem dL_law_1054 : decode cL_law 1054 = .ok (.iload 18, 2) := by decide +kernel
theorem dL_law_1056 : decode cL_law 1056 = .ok (.if_icmp .gt 7, 3) := by decide +kernel
theorem dL_law_1059 : decode cL_law 1059 = .ok (.iconst 1, 1) := by decide +kernel
theorem dL_law_1060 : decode cL_law 1060 = .ok (.goto 4, 3) := by decide +kernel
theorem dL_law_1063 : decode cL_law 1063 = .ok (.iconst 0, 1) := by decide +kernel
theorem dL_law_1064 : decode cL_law 1064 = .ok (.istore 19, 2) := by decide +kernel
theorem dL_law_1066 : decode cL_law 1066 = .ok (.iinc 20 1, 3) := by decide +kernel
theorem dL_law_1069 : decode cL_law 1069 = .ok (.goto (-50), 3) := by decide +kernel
theorem dL_law_1072 : decode cL_law 1072 = .ok (.iload 19, 2) := by decide +kernel
theorem dL_law_1074 : decode cL_law 1074 = .ok (.ifCond .eq 9, 3) := by decide +kernel
theorem dL_law_1077 : decode cL_law 1077 = .ok (.aload_n 1, 1) := by decide +kernel
theorem dL_law_1078 : decode cL_law 1078 = .ok (.iconst 0, 1) := by decide +kernel
theorem dL_law_1079 : decode cL_law 1079 = .ok (.iaload, 1) := by decide +kernel
theorem dL_law_1080 : decode cL_law 1080 = .ok (.goto 5, 3) := by decide +kernel
theorem dL_law_1083 : decode cL_law 1083 = .ok (.bipush (-3), 2) := by decide +kernel
theorem dL_law_1085 : decode cL_law 1085 = .ok (.istore 16, 2) := by decide +kernel
theorem dL_law_1087 : decode cL_law 1087 = .ok (.aload_n 1, 1) := by decide +kernel
theorem dL_law_1088 : decode cL_law 1088 = .ok (.iconst 0, 1) := by decide +kernel
theorem dL_law_1089 : decode cL_law 1089 = .ok (.iload 19, 2) := by decide +kernel
theorem dL_law_1091 : decode cL_law 1091 = .ok (.ifCond .eq 8, 3) := by decide +kernel
theorem dL_law_1094 : decode cL_law 1094 = .ok (.iload 18, 2) := by decide +kernel
theorem dL_law_1096 : decode cL_law 1096 = .ok (.goto 6, 3) := by decide +kernel
theorem dL_law_1099 : decode cL_law 1099 = .ok (.aload_n 1, 1) := by decide +kernel
theorem dL_law_1100 : decode cL_law 1100 = .ok (.iconst 0, 1) := by decide +kernel
theorem dL_law_1101 : decode cL_law 1101 = .ok (.iaload, 1) := by decide +kernel
theorem dL_law_1102 : decode cL_law 1102 = .ok (.iastore, 1) := by decide +kernel
theorem dL_law_1103 : decode cL_law 1103 = .ok (.aload_n 3, 1) := by decide +kernel
theorem dL_law_1104 : decode cL_law 1104 = .ok (.iconst 3, 1) := by decide +kernel
theorem dL_law_1105 : decode cL_law 1105 = .ok (.iload 18, 2) := by decide +kernel
theorem dL_law_1107 : decode cL_law 1107 = .ok (.iconst 0, 1) := by decide +kernel
theorem dL_law_1108 : decode cL_law 1108 = .ok (.iconst 0, 1) := by decide +kernel
theorem dL_law_1109 : decode cL_law 1109 = .ok (.invokestatic 89, 3) := by decide +kernel
theorem dL_law_1112 : decode cL_law 1112 = .ok (.istore 17, 2) := by decide +kernel
theorem dL_law_1114 : decode cL_law 1114 = .ok (.iload 17, 2) := by decide +kernel
theorem dL_law_1116 : decode cL_law 1116 = .ok (.iload 16, 2) := by decide +kernel
theorem dL_law_1118 : decode cL_law 1118 = .ok (.if_icmp .ne 26, 3) := by decide +kernel
theorem dL_law_1121 : decode cL_law 1121 = .ok (.aload_n 3, 1) := by decide +kernel
theorem dL_law_1122 : decode cL_law 1122 = .ok (.iload_n 2, 1) := by decide +kernel
theorem dL_law_1123 : decode cL_law 1123 = .ok (.iconst 1, 1) := by decide +kernel
theorem dL_law_1124 : decode cL_law 1124 = .ok (.ishr, 1) := by decide +kernel
theorem dL_law_1125 : decode cL_law 1125 = .ok (.aload 4, 2) := by decide +kernel
theorem dL_law_1127 : decode cL_law 1127 = .ok (.aload 5, 2) := by decide +kernel
theorem dL_law_1129 : decode cL_law 1129 = .ok (.aload 6, 2) := by decide +kernel
theorem dL_law_1131 : decode cL_law 1131 = .ok (.aload 7, 2) := by decide +kernel
theorem dL_law_1133 : decode cL_law 1133 = .ok (.aload 10, 2) := by decide +kernel
theorem dL_law_1135 : decode cL_law 1135 = .ok (.aload 11, 2) := by decide +kernel
theorem dL_law_1137 : decode cL_law 1137 = .ok (.aload_n 1, 1) := by decide +kernel
theorem dL_law_1138 : decode cL_law 1138 = .ok (.invokestatic 153, 3) := by decide +kernel
theorem dL_law_1141 : decode cL_law 1141 = .ok (.ifCond .ne 5, 3) := by decide +kernel
theorem dL_law_1144 : decode cL_law 1144 = .ok (.iconst 0, 1) := by decide +kernel
theorem dL_law_1145 : decode cL_law 1145 = .ok (.ireturn, 1) := by decide +kernel
theorem dL_law_1146 : decode cL_law 1146 = .ok (.iinc 12 1, 3) := by decide +kernel
theorem dL_law_1149 : decode cL_law 1149 = .ok (.goto (-1001), 3) := by decide +kernel
theorem dL_law_1152 : decode cL_law 1152 = .ok (.iconst 1, 1) := by decide +kernel
theorem dL_law_1153 : decode cL_law 1153 = .ok (.ireturn, 1) := by decide +kernel
