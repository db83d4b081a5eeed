theorem dX6_init_0 : decode cX6_init 0 = .ok (.aload_n 0, 1) := by decide +kernel
theorem dX6_init_1 : decode cX6_init 1 = .ok (.invokespecial 1, 3) := by decide +kernel
theorem dX6_init_4 : decode cX6_init 4 = .ok (.aload_n 0, 1) := by decide +kernel
theorem dX6_init_5 : decode cX6_init 5 = .ok (.bipush 6, 2) := by decide +kernel
theorem dX6_init_7 : decode cX6_init 7 = .ok (.putfield 7, 3) := by decide +kernel
theorem dX6_init_10 : decode cX6_init 10 = .ok (.aload_n 0, 1) := by decide +kernel
theorem dX6_init_11 : decode cX6_init 11 = .ok (.bipush 20, 2) := by decide +kernel
theorem dX6_init_13 : decode cX6_init 13 = .ok (.newarray .int, 2) := by decide +kernel
theorem dX6_init_15 : decode cX6_init 15 = .ok (.putfield 13, 3) := by decide +kernel
theorem dX6_init_18 : decode cX6_init 18 = .ok (.aload_n 0, 1) := by decide +kernel
theorem dX6_init_19 : decode cX6_init 19 = .ok (.bipush 40, 2) := by decide +kernel
theorem dX6_init_21 : decode cX6_init 21 = .ok (.newarray .int, 2) := by decide +kernel
theorem dX6_init_23 : decode cX6_init 23 = .ok (.putfield 17, 3) := by decide +kernel
theorem dX6_init_26 : decode cX6_init 26 = .ok (.aload_n 0, 1) := by decide +kernel
theorem dX6_init_27 : decode cX6_init 27 = .ok (.bipush 40, 2) := by decide +kernel
theorem dX6_init_29 : decode cX6_init 29 = .ok (.newarray .int, 2) := by decide +kernel
theorem dX6_init_31 : decode cX6_init 31 = .ok (.putfield 20, 3) := by decide +kernel
theorem dX6_init_34 : decode cX6_init 34 = .ok (.aload_n 0, 1) := by decide +kernel
theorem dX6_init_35 : decode cX6_init 35 = .ok (.bipush 40, 2) := by decide +kernel
theorem dX6_init_37 : decode cX6_init 37 = .ok (.newarray .int, 2) := by decide +kernel
theorem dX6_init_39 : decode cX6_init 39 = .ok (.putfield 23, 3) := by decide +kernel
theorem dX6_init_42 : decode cX6_init 42 = .ok (.aload_n 0, 1) := by decide +kernel
theorem dX6_init_43 : decode cX6_init 43 = .ok (.bipush 40, 2) := by decide +kernel
theorem dX6_init_45 : decode cX6_init 45 = .ok (.newarray .int, 2) := by decide +kernel
theorem dX6_init_47 : decode cX6_init 47 = .ok (.putfield 26, 3) := by decide +kernel
theorem dX6_init_50 : decode cX6_init 50 = .ok (.aload_n 0, 1) := by decide +kernel
theorem dX6_init_51 : decode cX6_init 51 = .ok (.sipush 200, 3) := by decide +kernel
theorem dX6_init_54 : decode cX6_init 54 = .ok (.newarray .int, 2) := by decide +kernel
theorem dX6_init_56 : decode cX6_init 56 = .ok (.putfield 29, 3) := by decide +kernel
theorem dX6_init_59 : decode cX6_init 59 = .ok (.aload_n 0, 1) := by decide +kernel
theorem dX6_init_60 : decode cX6_init 60 = .ok (.sipush 200, 3) := by decide +kernel
theorem dX6_init_63 : decode cX6_init 63 = .ok (.newarray .int, 2) := by decide +kernel
theorem dX6_init_65 : decode cX6_init 65 = .ok (.putfield 32, 3) := by decide +kernel
theorem dX6_init_68 : decode cX6_init 68 = .ok (.aload_n 0, 1) := by decide +kernel
theorem dX6_init_69 : decode cX6_init 69 = .ok (.bipush 9, 2) := by decide +kernel
theorem dX6_init_71 : decode cX6_init 71 = .ok (.newarray .int, 2) := by decide +kernel
theorem dX6_init_73 : decode cX6_init 73 = .ok (.putfield 35, 3) := by decide +kernel
theorem dX6_init_76 : decode cX6_init 76 = .ok (.aload_n 0, 1) := by decide +kernel
theorem dX6_init_77 : decode cX6_init 77 = .ok (.sipush 5120, 3) := by decide +kernel
theorem dX6_init_80 : decode cX6_init 80 = .ok (.newarray .int, 2) := by decide +kernel
theorem dX6_init_82 : decode cX6_init 82 = .ok (.putfield 38, 3) := by decide +kernel
theorem dX6_init_85 : decode cX6_init 85 = .ok (.aload_n 0, 1) := by decide +kernel
theorem dX6_init_86 : decode cX6_init 86 = .ok (.bipush 9, 2) := by decide +kernel
theorem dX6_init_88 : decode cX6_init 88 = .ok (.newarray .int, 2) := by decide +kernel
theorem dX6_init_90 : decode cX6_init 90 = .ok (.putfield 41, 3) := by decide +kernel
theorem dX6_init_93 : decode cX6_init 93 = .ok (.aload_n 0, 1) := by decide +kernel
theorem dX6_init_94 : decode cX6_init 94 = .ok (.bipush 20, 2) := by decide +kernel
theorem dX6_init_96 : decode cX6_init 96 = .ok (.newarray .int, 2) := by decide +kernel
theorem dX6_init_98 : decode cX6_init 98 = .ok (.putfield 44, 3) := by decide +kernel
theorem dX6_init_101 : decode cX6_init 101 = .ok (.aload_n 0, 1) := by decide +kernel
theorem dX6_init_102 : decode cX6_init 102 = .ok (.bipush 20, 2) := by decide +kernel
theorem dX6_init_104 : decode cX6_init 104 = .ok (.newarray .int, 2) := by decide +kernel
theorem dX6_init_106 : decode cX6_init 106 = .ok (.putfield 47, 3) := by decide +kernel
theorem dX6_init_109 : decode cX6_init 109 = .ok (.aload_n 0, 1) := by decide +kernel
theorem dX6_init_110 : decode cX6_init 110 = .ok (.iload_n 1, 1) := by decide +kernel
theorem dX6_init_111 : decode cX6_init 111 = .ok (.iconst 1, 1) := by decide +kernel
theorem dX6_init_112 : decode cX6_init 112 = .ok (.if_icmp .ge 7, 3) := by decide +kernel
theorem dX6_init_115 : decode cX6_init 115 = .ok (.iconst 1, 1) := by decide +kernel
theorem dX6_init_116 : decode cX6_init 116 = .ok (.goto 15, 3) := by decide +kernel
theorem dX6_init_119 : decode cX6_init 119 = .ok (.iload_n 1, 1) := by decide +kernel
theorem dX6_init_120 : decode cX6_init 120 = .ok (.bipush 6, 2) := by decide +kernel
theorem dX6_init_122 : decode cX6_init 122 = .ok (.if_icmp .le 8, 3) := by decide +kernel
theorem dX6_init_125 : decode cX6_init 125 = .ok (.bipush 6, 2) := by decide +kernel
theorem dX6_init_127 : decode cX6_init 127 = .ok (.goto 4, 3) := by decide +kernel
theorem dX6_init_130 : decode cX6_init 130 = .ok (.iload_n 1, 1) := by decide +kernel
theorem dX6_init_131 : decode cX6_init 131 = .ok (.putfield 50, 3) := by decide +kernel
theorem dX6_init_134 : decode cX6_init 134 = .ok (.aload_n 0, 1) := by decide +kernel
theorem dX6_init_135 : decode cX6_init 135 = .ok (.iload_n 2, 1) := by decide +kernel
theorem dX6_init_136 : decode cX6_init 136 = .ok (.iconst 1, 1) := by decide +kernel
theorem dX6_init_137 : decode cX6_init 137 = .ok (.if_icmp .ge 7, 3) := by decide +kernel
theorem dX6_init_140 : decode cX6_init 140 = .ok (.iconst 1, 1) := by decide +kernel
theorem dX6_init_141 : decode cX6_init 141 = .ok (.goto 15, 3) := by decide +kernel
theorem dX6_init_144 : decode cX6_init 144 = .ok (.iload_n 2, 1) := by decide +kernel
theorem dX6_init_145 : decode cX6_init 145 = .ok (.bipush 20, 2) := by decide +kernel
theorem dX6_init_147 : decode cX6_init 147 = .ok (.if_icmp .le 8, 3) := by decide +kernel
theorem dX6_init_150 : decode cX6_init 150 = .ok (.bipush 20, 2) := by decide +kernel
theorem dX6_init_152 : decode cX6_init 152 = .ok (.goto 4, 3) := by decide +kernel
theorem dX6_init_155 : decode cX6_init 155 = .ok (.iload_n 2, 1) := by decide +kernel
theorem dX6_init_156 : decode cX6_init 156 = .ok (.putfield 53, 3) := by decide +kernel
theorem dX6_init_159 : decode cX6_init 159 = .ok (.aload_n 0, 1) := by decide +kernel
theorem dX6_init_160 : decode cX6_init 160 = .ok (.iload_n 3, 1) := by decide +kernel
theorem dX6_init_161 : decode cX6_init 161 = .ok (.iconst 1, 1) := by decide +kernel
theorem dX6_init_162 : decode cX6_init 162 = .ok (.if_icmp .ge 7, 3) := by decide +kernel
theorem dX6_init_165 : decode cX6_init 165 = .ok (.iconst 1, 1) := by decide +kernel
theorem dX6_init_166 : decode cX6_init 166 = .ok (.goto 15, 3) := by decide +kernel
theorem dX6_init_169 : decode cX6_init 169 = .ok (.iload_n 3, 1) := by decide +kernel
theorem dX6_init_170 : decode cX6_init 170 = .ok (.bipush 9, 2) := by decide +kernel
theorem dX6_init_172 : decode cX6_init 172 = .ok (.if_icmp .le 8, 3) := by decide +kernel
theorem dX6_init_175 : decode cX6_init 175 = .ok (.bipush 9, 2) := by decide +kernel
theorem dX6_init_177 : decode cX6_init 177 = .ok (.goto 4, 3) := by decide +kernel
theorem dX6_init_180 : decode cX6_init 180 = .ok (.iload_n 3, 1) := by decide +kernel
theorem dX6_init_181 : decode cX6_init 181 = .ok (.putfield 56, 3) := by decide +kernel
theorem dX6_init_184 : decode cX6_init 184 = .ok (.iconst 0, 1) := by decide +kernel
theorem dX6_init_185 : decode cX6_init 185 = .ok (.istore 4, 2) := by decide +kernel
theorem dX6_init_187 : decode cX6_init 187 = .ok (.iload 4, 2) := by decide +kernel
theorem dX6_init_189 : decode cX6_init 189 = .ok (.bipush 20, 2) := by decide +kernel
theorem dX6_init_191 : decode cX6_init 191 = .ok (.if_icmp .ge 17, 3) := by decide +kernel
theorem dX6_init_194 : decode cX6_init 194 = .ok (.aload_n 0, 1) := by decide +kernel
theorem dX6_init_195 : decode cX6_init 195 = .ok (.getfield 13, 3) := by decide +kernel
theorem dX6_init_198 : decode cX6_init 198 = .ok (.iload 4, 2) := by decide +kernel
theorem dX6_init_200 : decode cX6_init 200 = .ok (.iconst (-1), 1) := by decide +kernel
theorem dX6_init_201 : decode cX6_init 201 = .ok (.iastore, 1) := by decide +kernel
theorem dX6_init_202 : decode cX6_init 202 = .ok (.iinc 4 1, 3) := by decide +kernel
theorem dX6_init_205 : decode cX6_init 205 = .ok (.goto (-18), 3) := by decide +kernel
theorem dX6_init_208 : decode cX6_init 208 = .ok (.return_, 1) := by decide +kernel
theorem dX6_thrown_0 : decode cX6_thrown 0 = .ok (.aload_n 0, 1) := by decide +kernel
theorem dX6_thrown_1 : decode cX6_thrown 1 = .ok (.getfield 59, 3) := by decide +kernel
theorem dX6_thrown_4 : decode cX6_thrown 4 = .ok (.ireturn, 1) := by decide +kernel
theorem dX6_fails_0 : decode cX6_fails 0 = .ok (.aload_n 0, 1) := by decide +kernel
theorem dX6_fails_1 : decode cX6_fails 1 = .ok (.iload_n 1, 1) := by decide +kernel
theorem dX6_fails_2 : decode cX6_fails 2 = .ok (.putfield 59, 3) := by decide +kernel
theorem dX6_fails_5 : decode cX6_fails 5 = .ok (.iconst 0, 1) := by decide +kernel
theorem dX6_fails_6 : decode cX6_fails 6 = .ok (.ireturn, 1) := by decide +kernel
theorem dX6_in_0 : decode cX6_in 0 = .ok (.iload_n 0, 1) := by decide +kernel
theorem dX6_in_1 : decode cX6_in 1 = .ok (.iload_n 1, 1) := by decide +kernel
theorem dX6_in_2 : decode cX6_in 2 = .ok (.if_icmp .lt 12, 3) := by decide +kernel
theorem dX6_in_5 : decode cX6_in 5 = .ok (.iload_n 0, 1) := by decide +kernel
theorem dX6_in_6 : decode cX6_in 6 = .ok (.iload_n 2, 1) := by decide +kernel
theorem dX6_in_7 : decode cX6_in 7 = .ok (.if_icmp .gt 7, 3) := by decide +kernel
theorem dX6_in_10 : decode cX6_in 10 = .ok (.iconst 1, 1) := by decide +kernel
theorem dX6_in_11 : decode cX6_in 11 = .ok (.goto 4, 3) := by decide +kernel
theorem dX6_in_14 : decode cX6_in 14 = .ok (.iconst 0, 1) := by decide +kernel
theorem dX6_in_15 : decode cX6_in 15 = .ok (.ireturn, 1) := by decide +kernel
theorem dX6_isProduct_0 : decode cX6_isProduct 0 = .ok (.iload_n 0, 1) := by decide +kernel
theorem dX6_isProduct_1 : decode cX6_isProduct 1 = .ok (.iconst 0, 1) := by decide +kernel
theorem dX6_isProduct_2 : decode cX6_isProduct 2 = .ok (.bipush 19, 2) := by decide +kernel
theorem dX6_isProduct_4 : decode cX6_isProduct 4 = .ok (.invokestatic 62, 3) := by decide +kernel
theorem dX6_isProduct_7 : decode cX6_isProduct 7 = .ok (.ireturn, 1) := by decide +kernel
theorem dX6_isOrder_0 : decode cX6_isOrder 0 = .ok (.iload_n 1, 1) := by decide +kernel
theorem dX6_isOrder_1 : decode cX6_isOrder 1 = .ok (.iconst 0, 1) := by decide +kernel
theorem dX6_isOrder_2 : decode cX6_isOrder 2 = .ok (.aload_n 0, 1) := by decide +kernel
theorem dX6_isOrder_3 : decode cX6_isOrder 3 = .ok (.getfield 66, 3) := by decide +kernel
theorem dX6_isOrder_6 : decode cX6_isOrder 6 = .ok (.iconst 1, 1) := by decide +kernel
theorem dX6_isOrder_7 : decode cX6_isOrder 7 = .ok (.isub, 1) := by decide +kernel
theorem dX6_isOrder_8 : decode cX6_isOrder 8 = .ok (.invokestatic 62, 3) := by decide +kernel
theorem dX6_isOrder_11 : decode cX6_isOrder 11 = .ok (.ireturn, 1) := by decide +kernel
theorem dX6_isBatch_0 : decode cX6_isBatch 0 = .ok (.iload_n 1, 1) := by decide +kernel
theorem dX6_isBatch_1 : decode cX6_isBatch 1 = .ok (.iconst 0, 1) := by decide +kernel
theorem dX6_isBatch_2 : decode cX6_isBatch 2 = .ok (.aload_n 0, 1) := by decide +kernel
theorem dX6_isBatch_3 : decode cX6_isBatch 3 = .ok (.getfield 69, 3) := by decide +kernel
theorem dX6_isBatch_6 : decode cX6_isBatch 6 = .ok (.iconst 1, 1) := by decide +kernel
theorem dX6_isBatch_7 : decode cX6_isBatch 7 = .ok (.isub, 1) := by decide +kernel
theorem dX6_isBatch_8 : decode cX6_isBatch 8 = .ok (.invokestatic 62, 3) := by decide +kernel
theorem dX6_isBatch_11 : decode cX6_isBatch 11 = .ok (.ireturn, 1) := by decide +kernel
theorem dX6_way_0 : decode cX6_way 0 = .ok (.iload_n 1, 1) := by decide +kernel
theorem dX6_way_1 : decode cX6_way 1 = .ok (.bipush 100, 2) := by decide +kernel
theorem dX6_way_3 : decode cX6_way 3 = .ok (.idiv, 1) := by decide +kernel
theorem dX6_way_4 : decode cX6_way 4 = .ok (.iload_n 2, 1) := by decide +kernel
theorem dX6_way_5 : decode cX6_way 5 = .ok (.bipush 100, 2) := by decide +kernel
theorem dX6_way_7 : decode cX6_way 7 = .ok (.idiv, 1) := by decide +kernel
theorem dX6_way_8 : decode cX6_way 8 = .ok (.isub, 1) := by decide +kernel
theorem dX6_way_9 : decode cX6_way 9 = .ok (.istore_n 3, 1) := by decide +kernel
theorem dX6_way_10 : decode cX6_way 10 = .ok (.iload_n 1, 1) := by decide +kernel
theorem dX6_way_11 : decode cX6_way 11 = .ok (.bipush 100, 2) := by decide +kernel
theorem dX6_way_13 : decode cX6_way 13 = .ok (.irem, 1) := by decide +kernel
theorem dX6_way_14 : decode cX6_way 14 = .ok (.istore 4, 2) := by decide +kernel
theorem dX6_way_16 : decode cX6_way 16 = .ok (.iload_n 2, 1) := by decide +kernel
theorem dX6_way_17 : decode cX6_way 17 = .ok (.bipush 100, 2) := by decide +kernel
theorem dX6_way_19 : decode cX6_way 19 = .ok (.irem, 1) := by decide +kernel
theorem dX6_way_20 : decode cX6_way 20 = .ok (.istore 5, 2) := by decide +kernel
theorem dX6_way_22 : decode cX6_way 22 = .ok (.iload_n 3, 1) := by decide +kernel
theorem dX6_way_23 : decode cX6_way 23 = .ok (.ifCond .ne 24, 3) := by decide +kernel
theorem dX6_way_26 : decode cX6_way 26 = .ok (.iload 4, 2) := by decide +kernel
theorem dX6_way_28 : decode cX6_way 28 = .ok (.iload 5, 2) := by decide +kernel
theorem dX6_way_30 : decode cX6_way 30 = .ok (.if_icmp .ge 11, 3) := by decide +kernel
theorem dX6_way_33 : decode cX6_way 33 = .ok (.iload 5, 2) := by decide +kernel
theorem dX6_way_35 : decode cX6_way 35 = .ok (.iload 4, 2) := by decide +kernel
theorem dX6_way_37 : decode cX6_way 37 = .ok (.isub, 1) := by decide +kernel
theorem dX6_way_38 : decode cX6_way 38 = .ok (.goto 8, 3) := by decide +kernel
theorem dX6_way_41 : decode cX6_way 41 = .ok (.iload 4, 2) := by decide +kernel
theorem dX6_way_43 : decode cX6_way 43 = .ok (.iload 5, 2) := by decide +kernel
theorem dX6_way_45 : decode cX6_way 45 = .ok (.isub, 1) := by decide +kernel
theorem dX6_way_46 : decode cX6_way 46 = .ok (.ireturn, 1) := by decide +kernel
theorem dX6_way_47 : decode cX6_way 47 = .ok (.iload 4, 2) := by decide +kernel
theorem dX6_way_49 : decode cX6_way 49 = .ok (.iload 5, 2) := by decide +kernel
theorem dX6_way_51 : decode cX6_way 51 = .ok (.iadd, 1) := by decide +kernel
theorem dX6_way_52 : decode cX6_way 52 = .ok (.istore 6, 2) := by decide +kernel
theorem dX6_way_54 : decode cX6_way 54 = .ok (.iconst 2, 1) := by decide +kernel
theorem dX6_way_55 : decode cX6_way 55 = .ok (.aload_n 0, 1) := by decide +kernel
theorem dX6_way_56 : decode cX6_way 56 = .ok (.getfield 53, 3) := by decide +kernel
theorem dX6_way_59 : decode cX6_way 59 = .ok (.iconst 1, 1) := by decide +kernel
theorem dX6_way_60 : decode cX6_way 60 = .ok (.iadd, 1) := by decide +kernel
theorem dX6_way_61 : decode cX6_way 61 = .ok (.imul, 1) := by decide +kernel
theorem dX6_way_62 : decode cX6_way 62 = .ok (.iload 6, 2) := by decide +kernel
theorem dX6_way_64 : decode cX6_way 64 = .ok (.isub, 1) := by decide +kernel
theorem dX6_way_65 : decode cX6_way 65 = .ok (.istore 7, 2) := by decide +kernel
theorem dX6_way_67 : decode cX6_way 67 = .ok (.iload_n 3, 1) := by decide +kernel
theorem dX6_way_68 : decode cX6_way 68 = .ok (.ifCond .ge 8, 3) := by decide +kernel
theorem dX6_way_71 : decode cX6_way 71 = .ok (.iload_n 3, 1) := by decide +kernel
theorem dX6_way_72 : decode cX6_way 72 = .ok (.ineg, 1) := by decide +kernel
theorem dX6_way_73 : decode cX6_way 73 = .ok (.goto 4, 3) := by decide +kernel
theorem dX6_way_76 : decode cX6_way 76 = .ok (.iload_n 3, 1) := by decide +kernel
theorem dX6_way_77 : decode cX6_way 77 = .ok (.aload_n 0, 1) := by decide +kernel
theorem dX6_way_78 : decode cX6_way 78 = .ok (.getfield 56, 3) := by decide +kernel
theorem dX6_way_81 : decode cX6_way 81 = .ok (.imul, 1) := by decide +kernel
theorem dX6_way_82 : decode cX6_way 82 = .ok (.iload 6, 2) := by decide +kernel
theorem dX6_way_84 : decode cX6_way 84 = .ok (.iload 7, 2) := by decide +kernel
theorem dX6_way_86 : decode cX6_way 86 = .ok (.if_icmp .ge 8, 3) := by decide +kernel
theorem dX6_way_89 : decode cX6_way 89 = .ok (.iload 6, 2) := by decide +kernel
theorem dX6_way_91 : decode cX6_way 91 = .ok (.goto 5, 3) := by decide +kernel
theorem dX6_way_94 : decode cX6_way 94 = .ok (.iload 7, 2) := by decide +kernel
theorem dX6_way_96 : decode cX6_way 96 = .ok (.iadd, 1) := by decide +kernel
theorem dX6_way_97 : decode cX6_way 97 = .ok (.ireturn, 1) := by decide +kernel
theorem dX6_step_0 : decode cX6_step 0 = .ok (.aload_n 0, 1) := by decide +kernel
theorem dX6_step_1 : decode cX6_step 1 = .ok (.iload_n 1, 1) := by decide +kernel
theorem dX6_step_2 : decode cX6_step 2 = .ok (.bipush 9, 2) := by decide +kernel
theorem dX6_step_4 : decode cX6_step 4 = .ok (.if_icmp .ne 7, 3) := by decide +kernel
theorem dX6_step_7 : decode cX6_step 7 = .ok (.iconst 0, 1) := by decide +kernel
theorem dX6_step_8 : decode cX6_step 8 = .ok (.goto 14, 3) := by decide +kernel
theorem dX6_step_11 : decode cX6_step 11 = .ok (.aload_n 0, 1) := by decide +kernel
theorem dX6_step_12 : decode cX6_step 12 = .ok (.getfield 13, 3) := by decide +kernel
theorem dX6_step_15 : decode cX6_step 15 = .ok (.aload_n 0, 1) := by decide +kernel
theorem dX6_step_16 : decode cX6_step 16 = .ok (.getfield 35, 3) := by decide +kernel
theorem dX6_step_19 : decode cX6_step 19 = .ok (.iload_n 1, 1) := by decide +kernel
theorem dX6_step_20 : decode cX6_step 20 = .ok (.iaload, 1) := by decide +kernel
theorem dX6_step_21 : decode cX6_step 21 = .ok (.iaload, 1) := by decide +kernel
theorem dX6_step_22 : decode cX6_step 22 = .ok (.iload_n 2, 1) := by decide +kernel
theorem dX6_step_23 : decode cX6_step 23 = .ok (.bipush 9, 2) := by decide +kernel
theorem dX6_step_25 : decode cX6_step 25 = .ok (.if_icmp .ne 7, 3) := by decide +kernel
theorem dX6_step_28 : decode cX6_step 28 = .ok (.iconst 0, 1) := by decide +kernel
theorem dX6_step_29 : decode cX6_step 29 = .ok (.goto 14, 3) := by decide +kernel
theorem dX6_step_32 : decode cX6_step 32 = .ok (.aload_n 0, 1) := by decide +kernel
theorem dX6_step_33 : decode cX6_step 33 = .ok (.getfield 13, 3) := by decide +kernel
theorem dX6_step_36 : decode cX6_step 36 = .ok (.aload_n 0, 1) := by decide +kernel
theorem dX6_step_37 : decode cX6_step 37 = .ok (.getfield 35, 3) := by decide +kernel
theorem dX6_step_40 : decode cX6_step 40 = .ok (.iload_n 2, 1) := by decide +kernel
theorem dX6_step_41 : decode cX6_step 41 = .ok (.iaload, 1) := by decide +kernel
theorem dX6_step_42 : decode cX6_step 42 = .ok (.iaload, 1) := by decide +kernel
theorem dX6_step_43 : decode cX6_step 43 = .ok (.invokevirtual 72, 3) := by decide +kernel
theorem dX6_step_46 : decode cX6_step 46 = .ok (.ireturn, 1) := by decide +kernel
theorem dX6_layRoute_0 : decode cX6_layRoute 0 = .ok (.aload_n 0, 1) := by decide +kernel
theorem dX6_layRoute_1 : decode cX6_layRoute 1 = .ok (.iconst 0, 1) := by decide +kernel
theorem dX6_layRoute_2 : decode cX6_layRoute 2 = .ok (.putfield 76, 3) := by decide +kernel
theorem dX6_layRoute_5 : decode cX6_layRoute 5 = .ok (.iconst 0, 1) := by decide +kernel
theorem dX6_layRoute_6 : decode cX6_layRoute 6 = .ok (.istore_n 2, 1) := by decide +kernel
theorem dX6_layRoute_7 : decode cX6_layRoute 7 = .ok (.iload_n 2, 1) := by decide +kernel
theorem dX6_layRoute_8 : decode cX6_layRoute 8 = .ok (.bipush 20, 2) := by decide +kernel
theorem dX6_layRoute_10 : decode cX6_layRoute 10 = .ok (.if_icmp .ge 86, 3) := by decide +kernel
theorem dX6_layRoute_13 : decode cX6_layRoute 13 = .ok (.iload_n 1, 1) := by decide +kernel
theorem dX6_layRoute_14 : decode cX6_layRoute 14 = .ok (.iload_n 2, 1) := by decide +kernel
theorem dX6_layRoute_15 : decode cX6_layRoute 15 = .ok (.ishr, 1) := by decide +kernel
theorem dX6_layRoute_16 : decode cX6_layRoute 16 = .ok (.iconst 1, 1) := by decide +kernel
theorem dX6_layRoute_17 : decode cX6_layRoute 17 = .ok (.iand, 1) := by decide +kernel
theorem dX6_layRoute_18 : decode cX6_layRoute 18 = .ok (.iconst 1, 1) := by decide +kernel
theorem dX6_layRoute_19 : decode cX6_layRoute 19 = .ok (.if_icmp .ne 71, 3) := by decide +kernel
theorem dX6_layRoute_22 : decode cX6_layRoute 22 = .ok (.aload_n 0, 1) := by decide +kernel
theorem dX6_layRoute_23 : decode cX6_layRoute 23 = .ok (.getfield 76, 3) := by decide +kernel
theorem dX6_layRoute_26 : decode cX6_layRoute 26 = .ok (.istore_n 3, 1) := by decide +kernel
theorem dX6_layRoute_27 : decode cX6_layRoute 27 = .ok (.iload_n 3, 1) := by decide +kernel
theorem dX6_layRoute_28 : decode cX6_layRoute 28 = .ok (.ifCond .le 45, 3) := by decide +kernel
theorem dX6_layRoute_31 : decode cX6_layRoute 31 = .ok (.aload_n 0, 1) := by decide +kernel
theorem dX6_layRoute_32 : decode cX6_layRoute 32 = .ok (.getfield 13, 3) := by decide +kernel
theorem dX6_layRoute_35 : decode cX6_layRoute 35 = .ok (.aload_n 0, 1) := by decide +kernel
theorem dX6_layRoute_36 : decode cX6_layRoute 36 = .ok (.getfield 35, 3) := by decide +kernel
theorem dX6_layRoute_39 : decode cX6_layRoute 39 = .ok (.iload_n 3, 1) := by decide +kernel
theorem dX6_layRoute_40 : decode cX6_layRoute 40 = .ok (.iconst 1, 1) := by decide +kernel
theorem dX6_layRoute_41 : decode cX6_layRoute 41 = .ok (.isub, 1) := by decide +kernel
theorem dX6_layRoute_42 : decode cX6_layRoute 42 = .ok (.iaload, 1) := by decide +kernel
theorem dX6_layRoute_43 : decode cX6_layRoute 43 = .ok (.iaload, 1) := by decide +kernel
theorem dX6_layRoute_44 : decode cX6_layRoute 44 = .ok (.aload_n 0, 1) := by decide +kernel
theorem dX6_layRoute_45 : decode cX6_layRoute 45 = .ok (.getfield 13, 3) := by decide +kernel
theorem dX6_layRoute_48 : decode cX6_layRoute 48 = .ok (.iload_n 2, 1) := by decide +kernel
theorem dX6_layRoute_49 : decode cX6_layRoute 49 = .ok (.iaload, 1) := by decide +kernel
theorem dX6_layRoute_50 : decode cX6_layRoute 50 = .ok (.if_icmp .le 23, 3) := by decide +kernel
theorem dX6_layRoute_53 : decode cX6_layRoute 53 = .ok (.aload_n 0, 1) := by decide +kernel
theorem dX6_layRoute_54 : decode cX6_layRoute 54 = .ok (.getfield 35, 3) := by decide +kernel
theorem dX6_layRoute_57 : decode cX6_layRoute 57 = .ok (.iload_n 3, 1) := by decide +kernel
theorem dX6_layRoute_58 : decode cX6_layRoute 58 = .ok (.aload_n 0, 1) := by decide +kernel
theorem dX6_layRoute_59 : decode cX6_layRoute 59 = .ok (.getfield 35, 3) := by decide +kernel
theorem dX6_layRoute_62 : decode cX6_layRoute 62 = .ok (.iload_n 3, 1) := by decide +kernel
theorem dX6_layRoute_63 : decode cX6_layRoute 63 = .ok (.iconst 1, 1) := by decide +kernel
theorem dX6_layRoute_64 : decode cX6_layRoute 64 = .ok (.isub, 1) := by decide +kernel
theorem dX6_layRoute_65 : decode cX6_layRoute 65 = .ok (.iaload, 1) := by decide +kernel
theorem dX6_layRoute_66 : decode cX6_layRoute 66 = .ok (.iastore, 1) := by decide +kernel
theorem dX6_layRoute_67 : decode cX6_layRoute 67 = .ok (.iinc 3 (-1), 3) := by decide +kernel
theorem dX6_layRoute_70 : decode cX6_layRoute 70 = .ok (.goto (-43), 3) := by decide +kernel
theorem dX6_layRoute_73 : decode cX6_layRoute 73 = .ok (.aload_n 0, 1) := by decide +kernel
theorem dX6_layRoute_74 : decode cX6_layRoute 74 = .ok (.getfield 35, 3) := by decide +kernel
theorem dX6_layRoute_77 : decode cX6_layRoute 77 = .ok (.iload_n 3, 1) := by decide +kernel
theorem dX6_layRoute_78 : decode cX6_layRoute 78 = .ok (.iload_n 2, 1) := by decide +kernel
theorem dX6_layRoute_79 : decode cX6_layRoute 79 = .ok (.iastore, 1) := by decide +kernel
theorem dX6_layRoute_80 : decode cX6_layRoute 80 = .ok (.aload_n 0, 1) := by decide +kernel
theorem dX6_layRoute_81 : decode cX6_layRoute 81 = .ok (.dup, 1) := by decide +kernel
theorem dX6_layRoute_82 : decode cX6_layRoute 82 = .ok (.getfield 76, 3) := by decide +kernel
theorem dX6_layRoute_85 : decode cX6_layRoute 85 = .ok (.iconst 1, 1) := by decide +kernel
theorem dX6_layRoute_86 : decode cX6_layRoute 86 = .ok (.iadd, 1) := by decide +kernel
theorem dX6_layRoute_87 : decode cX6_layRoute 87 = .ok (.putfield 76, 3) := by decide +kernel
theorem dX6_layRoute_90 : decode cX6_layRoute 90 = .ok (.iinc 2 1, 3) := by decide +kernel
theorem dX6_layRoute_93 : decode cX6_layRoute 93 = .ok (.goto (-86), 3) := by decide +kernel
theorem dX6_layRoute_96 : decode cX6_layRoute 96 = .ok (.iconst 0, 1) := by decide +kernel
theorem dX6_layRoute_97 : decode cX6_layRoute 97 = .ok (.istore_n 2, 1) := by decide +kernel
theorem dX6_layRoute_98 : decode cX6_layRoute 98 = .ok (.iload_n 2, 1) := by decide +kernel
theorem dX6_layRoute_99 : decode cX6_layRoute 99 = .ok (.iconst 1, 1) := by decide +kernel
theorem dX6_layRoute_100 : decode cX6_layRoute 100 = .ok (.aload_n 0, 1) := by decide +kernel
theorem dX6_layRoute_101 : decode cX6_layRoute 101 = .ok (.getfield 76, 3) := by decide +kernel
theorem dX6_layRoute_104 : decode cX6_layRoute 104 = .ok (.ishl, 1) := by decide +kernel
theorem dX6_layRoute_105 : decode cX6_layRoute 105 = .ok (.if_icmp .ge 79, 3) := by decide +kernel
theorem dX6_layRoute_108 : decode cX6_layRoute 108 = .ok (.iconst 0, 1) := by decide +kernel
theorem dX6_layRoute_109 : decode cX6_layRoute 109 = .ok (.istore_n 3, 1) := by decide +kernel
theorem dX6_layRoute_110 : decode cX6_layRoute 110 = .ok (.iload_n 3, 1) := by decide +kernel
theorem dX6_layRoute_111 : decode cX6_layRoute 111 = .ok (.bipush 10, 2) := by decide +kernel
theorem dX6_layRoute_113 : decode cX6_layRoute 113 = .ok (.if_icmp .ge 65, 3) := by decide +kernel
theorem dX6_layRoute_116 : decode cX6_layRoute 116 = .ok (.iload_n 3, 1) := by decide +kernel
theorem dX6_layRoute_117 : decode cX6_layRoute 117 = .ok (.bipush 9, 2) := by decide +kernel
theorem dX6_layRoute_119 : decode cX6_layRoute 119 = .ok (.if_icmp .eq 19, 3) := by decide +kernel
theorem dX6_layRoute_122 : decode cX6_layRoute 122 = .ok (.iload_n 3, 1) := by decide +kernel
theorem dX6_layRoute_123 : decode cX6_layRoute 123 = .ok (.aload_n 0, 1) := by decide +kernel
theorem dX6_layRoute_124 : decode cX6_layRoute 124 = .ok (.getfield 76, 3) := by decide +kernel
theorem dX6_layRoute_127 : decode cX6_layRoute 127 = .ok (.if_icmp .ge 15, 3) := by decide +kernel
theorem dX6_layRoute_130 : decode cX6_layRoute 130 = .ok (.iload_n 2, 1) := by decide +kernel
theorem dX6_layRoute_131 : decode cX6_layRoute 131 = .ok (.iload_n 3, 1) := by decide +kernel
theorem dX6_layRoute_132 : decode cX6_layRoute 132 = .ok (.ishr, 1) := by decide +kernel
theorem dX6_layRoute_133 : decode cX6_layRoute 133 = .ok (.iconst 1, 1) := by decide +kernel
theorem dX6_layRoute_134 : decode cX6_layRoute 134 = .ok (.iand, 1) := by decide +kernel
theorem dX6_layRoute_135 : decode cX6_layRoute 135 = .ok (.ifCond .ne 7, 3) := by decide +kernel
theorem dX6_layRoute_138 : decode cX6_layRoute 138 = .ok (.iconst 1, 1) := by decide +kernel
theorem dX6_layRoute_139 : decode cX6_layRoute 139 = .ok (.goto 4, 3) := by decide +kernel
theorem dX6_layRoute_142 : decode cX6_layRoute 142 = .ok (.iconst 0, 1) := by decide +kernel
theorem dX6_layRoute_143 : decode cX6_layRoute 143 = .ok (.istore 4, 2) := by decide +kernel
theorem dX6_layRoute_145 : decode cX6_layRoute 145 = .ok (.aload_n 0, 1) := by decide +kernel
theorem dX6_layRoute_146 : decode cX6_layRoute 146 = .ok (.getfield 38, 3) := by decide +kernel
theorem dX6_layRoute_149 : decode cX6_layRoute 149 = .ok (.bipush 10, 2) := by decide +kernel
theorem dX6_layRoute_151 : decode cX6_layRoute 151 = .ok (.iload_n 2, 1) := by decide +kernel
theorem dX6_layRoute_152 : decode cX6_layRoute 152 = .ok (.imul, 1) := by decide +kernel
theorem dX6_layRoute_153 : decode cX6_layRoute 153 = .ok (.iload_n 3, 1) := by decide +kernel
theorem dX6_layRoute_154 : decode cX6_layRoute 154 = .ok (.iadd, 1) := by decide +kernel
theorem dX6_layRoute_155 : decode cX6_layRoute 155 = .ok (.iload 4, 2) := by decide +kernel
theorem dX6_layRoute_157 : decode cX6_layRoute 157 = .ok (.ifCond .eq 12, 3) := by decide +kernel
theorem dX6_layRoute_160 : decode cX6_layRoute 160 = .ok (.aload_n 0, 1) := by decide +kernel
theorem dX6_layRoute_161 : decode cX6_layRoute 161 = .ok (.iload_n 2, 1) := by decide +kernel
theorem dX6_layRoute_162 : decode cX6_layRoute 162 = .ok (.iload_n 3, 1) := by decide +kernel
theorem dX6_layRoute_163 : decode cX6_layRoute 163 = .ok (.invokevirtual 79, 3) := by decide +kernel
theorem dX6_layRoute_166 : decode cX6_layRoute 166 = .ok (.goto 5, 3) := by decide +kernel
theorem dX6_layRoute_169 : decode cX6_layRoute 169 = .ok (.ldc 82, 2) := by decide +kernel
theorem dX6_layRoute_171 : decode cX6_layRoute 171 = .ok (.iastore, 1) := by decide +kernel
theorem dX6_layRoute_172 : decode cX6_layRoute 172 = .ok (.iinc 3 1, 3) := by decide +kernel
theorem dX6_layRoute_175 : decode cX6_layRoute 175 = .ok (.goto (-65), 3) := by decide +kernel
theorem dX6_layRoute_178 : decode cX6_layRoute 178 = .ok (.iinc 2 1, 3) := by decide +kernel
theorem dX6_layRoute_181 : decode cX6_layRoute 181 = .ok (.goto (-83), 3) := by decide +kernel
theorem dX6_layRoute_184 : decode cX6_layRoute 184 = .ok (.return_, 1) := by decide +kernel
theorem dX6_wayOn_0 : decode cX6_wayOn 0 = .ok (.iload_n 1, 1) := by decide +kernel
theorem dX6_wayOn_1 : decode cX6_wayOn 1 = .ok (.ifCond .ne 13, 3) := by decide +kernel
theorem dX6_wayOn_4 : decode cX6_wayOn 4 = .ok (.aload_n 0, 1) := by decide +kernel
theorem dX6_wayOn_5 : decode cX6_wayOn 5 = .ok (.iload_n 2, 1) := by decide +kernel
theorem dX6_wayOn_6 : decode cX6_wayOn 6 = .ok (.bipush 9, 2) := by decide +kernel
theorem dX6_wayOn_8 : decode cX6_wayOn 8 = .ok (.invokevirtual 83, 3) := by decide +kernel
theorem dX6_wayOn_11 : decode cX6_wayOn 11 = .ok (.goto 5, 3) := by decide +kernel
theorem dX6_wayOn_14 : decode cX6_wayOn 14 = .ok (.ldc 82, 2) := by decide +kernel
theorem dX6_wayOn_16 : decode cX6_wayOn 16 = .ok (.istore_n 3, 1) := by decide +kernel
theorem dX6_wayOn_17 : decode cX6_wayOn 17 = .ok (.iconst 0, 1) := by decide +kernel
theorem dX6_wayOn_18 : decode cX6_wayOn 18 = .ok (.istore 4, 2) := by decide +kernel
theorem dX6_wayOn_20 : decode cX6_wayOn 20 = .ok (.iload 4, 2) := by decide +kernel
theorem dX6_wayOn_22 : decode cX6_wayOn 22 = .ok (.aload_n 0, 1) := by decide +kernel
theorem dX6_wayOn_23 : decode cX6_wayOn 23 = .ok (.getfield 76, 3) := by decide +kernel
theorem dX6_wayOn_26 : decode cX6_wayOn 26 = .ok (.if_icmp .ge 59, 3) := by decide +kernel
theorem dX6_wayOn_29 : decode cX6_wayOn 29 = .ok (.iload_n 1, 1) := by decide +kernel
theorem dX6_wayOn_30 : decode cX6_wayOn 30 = .ok (.iload 4, 2) := by decide +kernel
theorem dX6_wayOn_32 : decode cX6_wayOn 32 = .ok (.ishr, 1) := by decide +kernel
theorem dX6_wayOn_33 : decode cX6_wayOn 33 = .ok (.iconst 1, 1) := by decide +kernel
theorem dX6_wayOn_34 : decode cX6_wayOn 34 = .ok (.iand, 1) := by decide +kernel
theorem dX6_wayOn_35 : decode cX6_wayOn 35 = .ok (.iconst 1, 1) := by decide +kernel
theorem dX6_wayOn_36 : decode cX6_wayOn 36 = .ok (.if_icmp .ne 43, 3) := by decide +kernel
theorem dX6_wayOn_39 : decode cX6_wayOn 39 = .ok (.aload_n 0, 1) := by decide +kernel
theorem dX6_wayOn_40 : decode cX6_wayOn 40 = .ok (.iload_n 2, 1) := by decide +kernel
theorem dX6_wayOn_41 : decode cX6_wayOn 41 = .ok (.iload 4, 2) := by decide +kernel
theorem dX6_wayOn_43 : decode cX6_wayOn 43 = .ok (.invokevirtual 83, 3) := by decide +kernel
theorem dX6_wayOn_46 : decode cX6_wayOn 46 = .ok (.aload_n 0, 1) := by decide +kernel
theorem dX6_wayOn_47 : decode cX6_wayOn 47 = .ok (.getfield 38, 3) := by decide +kernel
theorem dX6_wayOn_50 : decode cX6_wayOn 50 = .ok (.bipush 10, 2) := by decide +kernel
theorem dX6_wayOn_52 : decode cX6_wayOn 52 = .ok (.iload_n 1, 1) := by decide +kernel
theorem dX6_wayOn_53 : decode cX6_wayOn 53 = .ok (.iconst 1, 1) := by decide +kernel
theorem dX6_wayOn_54 : decode cX6_wayOn 54 = .ok (.iload 4, 2) := by decide +kernel
theorem dX6_wayOn_56 : decode cX6_wayOn 56 = .ok (.ishl, 1) := by decide +kernel
theorem dX6_wayOn_57 : decode cX6_wayOn 57 = .ok (.isub, 1) := by decide +kernel
theorem dX6_wayOn_58 : decode cX6_wayOn 58 = .ok (.imul, 1) := by decide +kernel
theorem dX6_wayOn_59 : decode cX6_wayOn 59 = .ok (.iload 4, 2) := by decide +kernel
theorem dX6_wayOn_61 : decode cX6_wayOn 61 = .ok (.iadd, 1) := by decide +kernel
theorem dX6_wayOn_62 : decode cX6_wayOn 62 = .ok (.iaload, 1) := by decide +kernel
theorem dX6_wayOn_63 : decode cX6_wayOn 63 = .ok (.iadd, 1) := by decide +kernel
theorem dX6_wayOn_64 : decode cX6_wayOn 64 = .ok (.istore 5, 2) := by decide +kernel
theorem dX6_wayOn_66 : decode cX6_wayOn 66 = .ok (.iload 5, 2) := by decide +kernel
theorem dX6_wayOn_68 : decode cX6_wayOn 68 = .ok (.iload_n 3, 1) := by decide +kernel
theorem dX6_wayOn_69 : decode cX6_wayOn 69 = .ok (.if_icmp .ge 8, 3) := by decide +kernel
theorem dX6_wayOn_72 : decode cX6_wayOn 72 = .ok (.iload 5, 2) := by decide +kernel
theorem dX6_wayOn_74 : decode cX6_wayOn 74 = .ok (.goto 4, 3) := by decide +kernel
theorem dX6_wayOn_77 : decode cX6_wayOn 77 = .ok (.iload_n 3, 1) := by decide +kernel
theorem dX6_wayOn_78 : decode cX6_wayOn 78 = .ok (.istore_n 3, 1) := by decide +kernel
theorem dX6_wayOn_79 : decode cX6_wayOn 79 = .ok (.iinc 4 1, 3) := by decide +kernel
theorem dX6_wayOn_82 : decode cX6_wayOn 82 = .ok (.goto (-62), 3) := by decide +kernel
theorem dX6_wayOn_85 : decode cX6_wayOn 85 = .ok (.iload_n 3, 1) := by decide +kernel
theorem dX6_wayOn_86 : decode cX6_wayOn 86 = .ok (.ireturn, 1) := by decide +kernel
theorem dX6_length_0 : decode cX6_length 0 = .ok (.aload_n 0, 1) := by decide +kernel
theorem dX6_length_1 : decode cX6_length 1 = .ok (.iload_n 1, 1) := by decide +kernel
theorem dX6_length_2 : decode cX6_length 2 = .ok (.invokevirtual 86, 3) := by decide +kernel
theorem dX6_length_5 : decode cX6_length 5 = .ok (.aload_n 0, 1) := by decide +kernel
theorem dX6_length_6 : decode cX6_length 6 = .ok (.getfield 38, 3) := by decide +kernel
theorem dX6_length_9 : decode cX6_length 9 = .ok (.bipush 10, 2) := by decide +kernel
theorem dX6_length_11 : decode cX6_length 11 = .ok (.iconst 1, 1) := by decide +kernel
theorem dX6_length_12 : decode cX6_length 12 = .ok (.aload_n 0, 1) := by decide +kernel
theorem dX6_length_13 : decode cX6_length 13 = .ok (.getfield 76, 3) := by decide +kernel
theorem dX6_length_16 : decode cX6_length 16 = .ok (.ishl, 1) := by decide +kernel
theorem dX6_length_17 : decode cX6_length 17 = .ok (.iconst 1, 1) := by decide +kernel
theorem dX6_length_18 : decode cX6_length 18 = .ok (.isub, 1) := by decide +kernel
theorem dX6_length_19 : decode cX6_length 19 = .ok (.imul, 1) := by decide +kernel
theorem dX6_length_20 : decode cX6_length 20 = .ok (.bipush 9, 2) := by decide +kernel
theorem dX6_length_22 : decode cX6_length 22 = .ok (.iadd, 1) := by decide +kernel
theorem dX6_length_23 : decode cX6_length 23 = .ok (.iaload, 1) := by decide +kernel
theorem dX6_length_24 : decode cX6_length 24 = .ok (.ireturn, 1) := by decide +kernel
theorem dX6_layPath_0 : decode cX6_layPath 0 = .ok (.aload_n 0, 1) := by decide +kernel
theorem dX6_layPath_1 : decode cX6_layPath 1 = .ok (.iload_n 1, 1) := by decide +kernel
theorem dX6_layPath_2 : decode cX6_layPath 2 = .ok (.invokevirtual 86, 3) := by decide +kernel
theorem dX6_layPath_5 : decode cX6_layPath 5 = .ok (.iconst 1, 1) := by decide +kernel
theorem dX6_layPath_6 : decode cX6_layPath 6 = .ok (.aload_n 0, 1) := by decide +kernel
theorem dX6_layPath_7 : decode cX6_layPath 7 = .ok (.getfield 76, 3) := by decide +kernel
theorem dX6_layPath_10 : decode cX6_layPath 10 = .ok (.ishl, 1) := by decide +kernel
theorem dX6_layPath_11 : decode cX6_layPath 11 = .ok (.iconst 1, 1) := by decide +kernel
theorem dX6_layPath_12 : decode cX6_layPath 12 = .ok (.isub, 1) := by decide +kernel
theorem dX6_layPath_13 : decode cX6_layPath 13 = .ok (.istore_n 2, 1) := by decide +kernel
theorem dX6_layPath_14 : decode cX6_layPath 14 = .ok (.bipush 9, 2) := by decide +kernel
theorem dX6_layPath_16 : decode cX6_layPath 16 = .ok (.istore_n 3, 1) := by decide +kernel
theorem dX6_layPath_17 : decode cX6_layPath 17 = .ok (.iconst 0, 1) := by decide +kernel
theorem dX6_layPath_18 : decode cX6_layPath 18 = .ok (.istore 4, 2) := by decide +kernel
theorem dX6_layPath_20 : decode cX6_layPath 20 = .ok (.iload 4, 2) := by decide +kernel
theorem dX6_layPath_22 : decode cX6_layPath 22 = .ok (.aload_n 0, 1) := by decide +kernel
theorem dX6_layPath_23 : decode cX6_layPath 23 = .ok (.getfield 76, 3) := by decide +kernel
theorem dX6_layPath_26 : decode cX6_layPath 26 = .ok (.if_icmp .ge 120, 3) := by decide +kernel
theorem dX6_layPath_29 : decode cX6_layPath 29 = .ok (.iconst (-1), 1) := by decide +kernel
theorem dX6_layPath_30 : decode cX6_layPath 30 = .ok (.istore 5, 2) := by decide +kernel
theorem dX6_layPath_32 : decode cX6_layPath 32 = .ok (.aload_n 0, 1) := by decide +kernel
theorem dX6_layPath_33 : decode cX6_layPath 33 = .ok (.getfield 76, 3) := by decide +kernel
theorem dX6_layPath_36 : decode cX6_layPath 36 = .ok (.iconst 1, 1) := by decide +kernel
theorem dX6_layPath_37 : decode cX6_layPath 37 = .ok (.isub, 1) := by decide +kernel
theorem dX6_layPath_38 : decode cX6_layPath 38 = .ok (.istore 6, 2) := by decide +kernel
theorem dX6_layPath_40 : decode cX6_layPath 40 = .ok (.iload 6, 2) := by decide +kernel
theorem dX6_layPath_42 : decode cX6_layPath 42 = .ok (.ifCond .lt 79, 3) := by decide +kernel
theorem dX6_layPath_45 : decode cX6_layPath 45 = .ok (.iload_n 2, 1) := by decide +kernel
theorem dX6_layPath_46 : decode cX6_layPath 46 = .ok (.iload 6, 2) := by decide +kernel
theorem dX6_layPath_48 : decode cX6_layPath 48 = .ok (.ishr, 1) := by decide +kernel
theorem dX6_layPath_49 : decode cX6_layPath 49 = .ok (.iconst 1, 1) := by decide +kernel
theorem dX6_layPath_50 : decode cX6_layPath 50 = .ok (.iand, 1) := by decide +kernel
theorem dX6_layPath_51 : decode cX6_layPath 51 = .ok (.iconst 1, 1) := by decide +kernel
theorem dX6_layPath_52 : decode cX6_layPath 52 = .ok (.if_icmp .ne 46, 3) := by decide +kernel
theorem dX6_layPath_55 : decode cX6_layPath 55 = .ok (.aload_n 0, 1) := by decide +kernel
theorem dX6_layPath_56 : decode cX6_layPath 56 = .ok (.iload_n 3, 1) := by decide +kernel
theorem dX6_layPath_57 : decode cX6_layPath 57 = .ok (.iload 6, 2) := by decide +kernel
theorem dX6_layPath_59 : decode cX6_layPath 59 = .ok (.invokevirtual 83, 3) := by decide +kernel
theorem dX6_layPath_62 : decode cX6_layPath 62 = .ok (.aload_n 0, 1) := by decide +kernel
theorem dX6_layPath_63 : decode cX6_layPath 63 = .ok (.getfield 38, 3) := by decide +kernel
theorem dX6_layPath_66 : decode cX6_layPath 66 = .ok (.bipush 10, 2) := by decide +kernel
theorem dX6_layPath_68 : decode cX6_layPath 68 = .ok (.iload_n 2, 1) := by decide +kernel
theorem dX6_layPath_69 : decode cX6_layPath 69 = .ok (.iconst 1, 1) := by decide +kernel
theorem dX6_layPath_70 : decode cX6_layPath 70 = .ok (.iload 6, 2) := by decide +kernel
theorem dX6_layPath_72 : decode cX6_layPath 72 = .ok (.ishl, 1) := by decide +kernel
theorem dX6_layPath_73 : decode cX6_layPath 73 = .ok (.isub, 1) := by decide +kernel
theorem dX6_layPath_74 : decode cX6_layPath 74 = .ok (.imul, 1) := by decide +kernel
theorem dX6_layPath_75 : decode cX6_layPath 75 = .ok (.iload 6, 2) := by decide +kernel
theorem dX6_layPath_77 : decode cX6_layPath 77 = .ok (.iadd, 1) := by decide +kernel
theorem dX6_layPath_78 : decode cX6_layPath 78 = .ok (.iaload, 1) := by decide +kernel
theorem dX6_layPath_79 : decode cX6_layPath 79 = .ok (.iadd, 1) := by decide +kernel
theorem dX6_layPath_80 : decode cX6_layPath 80 = .ok (.aload_n 0, 1) := by decide +kernel
theorem dX6_layPath_81 : decode cX6_layPath 81 = .ok (.getfield 38, 3) := by decide +kernel
theorem dX6_layPath_84 : decode cX6_layPath 84 = .ok (.bipush 10, 2) := by decide +kernel
theorem dX6_layPath_86 : decode cX6_layPath 86 = .ok (.iload_n 2, 1) := by decide +kernel
theorem dX6_layPath_87 : decode cX6_layPath 87 = .ok (.imul, 1) := by decide +kernel
theorem dX6_layPath_88 : decode cX6_layPath 88 = .ok (.iload_n 3, 1) := by decide +kernel
theorem dX6_layPath_89 : decode cX6_layPath 89 = .ok (.iadd, 1) := by decide +kernel
theorem dX6_layPath_90 : decode cX6_layPath 90 = .ok (.iaload, 1) := by decide +kernel
theorem dX6_layPath_91 : decode cX6_layPath 91 = .ok (.if_icmp .ne 7, 3) := by decide +kernel
theorem dX6_layPath_94 : decode cX6_layPath 94 = .ok (.iconst 1, 1) := by decide +kernel
theorem dX6_layPath_95 : decode cX6_layPath 95 = .ok (.goto 4, 3) := by decide +kernel
theorem dX6_layPath_98 : decode cX6_layPath 98 = .ok (.iconst 0, 1) := by decide +kernel
theorem dX6_layPath_99 : decode cX6_layPath 99 = .ok (.istore 7, 2) := by decide +kernel
theorem dX6_layPath_101 : decode cX6_layPath 101 = .ok (.iload 7, 2) := by decide +kernel
theorem dX6_layPath_103 : decode cX6_layPath 103 = .ok (.ifCond .eq 8, 3) := by decide +kernel
theorem dX6_layPath_106 : decode cX6_layPath 106 = .ok (.iload 6, 2) := by decide +kernel
theorem dX6_layPath_108 : decode cX6_layPath 108 = .ok (.goto 5, 3) := by decide +kernel
theorem dX6_layPath_111 : decode cX6_layPath 111 = .ok (.iload 5, 2) := by decide +kernel
theorem dX6_layPath_113 : decode cX6_layPath 113 = .ok (.istore 5, 2) := by decide +kernel
theorem dX6_layPath_115 : decode cX6_layPath 115 = .ok (.iinc 6 (-1), 3) := by decide +kernel
theorem dX6_layPath_118 : decode cX6_layPath 118 = .ok (.goto (-78), 3) := by decide +kernel
theorem dX6_layPath_121 : decode cX6_layPath 121 = .ok (.aload_n 0, 1) := by decide +kernel
theorem dX6_layPath_122 : decode cX6_layPath 122 = .ok (.getfield 41, 3) := by decide +kernel
theorem dX6_layPath_125 : decode cX6_layPath 125 = .ok (.iload 4, 2) := by decide +kernel
theorem dX6_layPath_127 : decode cX6_layPath 127 = .ok (.iload 5, 2) := by decide +kernel
theorem dX6_layPath_129 : decode cX6_layPath 129 = .ok (.iastore, 1) := by decide +kernel
theorem dX6_layPath_130 : decode cX6_layPath 130 = .ok (.iload_n 2, 1) := by decide +kernel
theorem dX6_layPath_131 : decode cX6_layPath 131 = .ok (.iconst 1, 1) := by decide +kernel
theorem dX6_layPath_132 : decode cX6_layPath 132 = .ok (.iload 5, 2) := by decide +kernel
theorem dX6_layPath_134 : decode cX6_layPath 134 = .ok (.ishl, 1) := by decide +kernel
theorem dX6_layPath_135 : decode cX6_layPath 135 = .ok (.isub, 1) := by decide +kernel
theorem dX6_layPath_136 : decode cX6_layPath 136 = .ok (.istore_n 2, 1) := by decide +kernel
theorem dX6_layPath_137 : decode cX6_layPath 137 = .ok (.iload 5, 2) := by decide +kernel
theorem dX6_layPath_139 : decode cX6_layPath 139 = .ok (.istore_n 3, 1) := by decide +kernel
theorem dX6_layPath_140 : decode cX6_layPath 140 = .ok (.iinc 4 1, 3) := by decide +kernel
theorem dX6_layPath_143 : decode cX6_layPath 143 = .ok (.goto (-123), 3) := by decide +kernel
theorem dX6_layPath_146 : decode cX6_layPath 146 = .ok (.return_, 1) := by decide +kernel
theorem dX6_put_0 : decode cX6_put 0 = .ok (.aload_n 0, 1) := by decide +kernel
theorem dX6_put_1 : decode cX6_put 1 = .ok (.iconst 0, 1) := by decide +kernel
theorem dX6_put_2 : decode cX6_put 2 = .ok (.putfield 59, 3) := by decide +kernel
theorem dX6_put_5 : decode cX6_put 5 = .ok (.iload_n 1, 1) := by decide +kernel
theorem dX6_put_6 : decode cX6_put 6 = .ok (.invokestatic 90, 3) := by decide +kernel
theorem dX6_put_9 : decode cX6_put 9 = .ok (.ifCond .eq 29, 3) := by decide +kernel
theorem dX6_put_12 : decode cX6_put 12 = .ok (.iload_n 2, 1) := by decide +kernel
theorem dX6_put_13 : decode cX6_put 13 = .ok (.iconst 0, 1) := by decide +kernel
theorem dX6_put_14 : decode cX6_put 14 = .ok (.aload_n 0, 1) := by decide +kernel
theorem dX6_put_15 : decode cX6_put 15 = .ok (.getfield 50, 3) := by decide +kernel
theorem dX6_put_18 : decode cX6_put 18 = .ok (.iconst 1, 1) := by decide +kernel
theorem dX6_put_19 : decode cX6_put 19 = .ok (.isub, 1) := by decide +kernel
theorem dX6_put_20 : decode cX6_put 20 = .ok (.invokestatic 62, 3) := by decide +kernel
theorem dX6_put_23 : decode cX6_put 23 = .ok (.ifCond .eq 15, 3) := by decide +kernel
theorem dX6_put_26 : decode cX6_put 26 = .ok (.iload_n 3, 1) := by decide +kernel
theorem dX6_put_27 : decode cX6_put 27 = .ok (.iconst 1, 1) := by decide +kernel
theorem dX6_put_28 : decode cX6_put 28 = .ok (.aload_n 0, 1) := by decide +kernel
theorem dX6_put_29 : decode cX6_put 29 = .ok (.getfield 53, 3) := by decide +kernel
theorem dX6_put_32 : decode cX6_put 32 = .ok (.invokestatic 62, 3) := by decide +kernel
theorem dX6_put_35 : decode cX6_put 35 = .ok (.ifCond .ne 9, 3) := by decide +kernel
theorem dX6_put_38 : decode cX6_put 38 = .ok (.aload_n 0, 1) := by decide +kernel
theorem dX6_put_39 : decode cX6_put 39 = .ok (.iconst 1, 1) := by decide +kernel
theorem dX6_put_40 : decode cX6_put 40 = .ok (.invokevirtual 94, 3) := by decide +kernel
theorem dX6_put_43 : decode cX6_put 43 = .ok (.ireturn, 1) := by decide +kernel
theorem dX6_put_44 : decode cX6_put 44 = .ok (.bipush 100, 2) := by decide +kernel
theorem dX6_put_46 : decode cX6_put 46 = .ok (.iload_n 2, 1) := by decide +kernel
theorem dX6_put_47 : decode cX6_put 47 = .ok (.imul, 1) := by decide +kernel
theorem dX6_put_48 : decode cX6_put 48 = .ok (.iload_n 3, 1) := by decide +kernel
theorem dX6_put_49 : decode cX6_put 49 = .ok (.iadd, 1) := by decide +kernel
theorem dX6_put_50 : decode cX6_put 50 = .ok (.istore 4, 2) := by decide +kernel
theorem dX6_put_52 : decode cX6_put 52 = .ok (.iconst 0, 1) := by decide +kernel
theorem dX6_put_53 : decode cX6_put 53 = .ok (.istore 5, 2) := by decide +kernel
theorem dX6_put_55 : decode cX6_put 55 = .ok (.iconst 0, 1) := by decide +kernel
theorem dX6_put_56 : decode cX6_put 56 = .ok (.istore 6, 2) := by decide +kernel
theorem dX6_put_58 : decode cX6_put 58 = .ok (.iload 6, 2) := by decide +kernel
theorem dX6_put_60 : decode cX6_put 60 = .ok (.bipush 20, 2) := by decide +kernel
theorem dX6_put_62 : decode cX6_put 62 = .ok (.if_icmp .ge 39, 3) := by decide +kernel
theorem dX6_put_65 : decode cX6_put 65 = .ok (.iload 5, 2) := by decide +kernel
theorem dX6_put_67 : decode cX6_put 67 = .ok (.ifCond .ne 21, 3) := by decide +kernel
theorem dX6_put_70 : decode cX6_put 70 = .ok (.iload 6, 2) := by decide +kernel
theorem dX6_put_72 : decode cX6_put 72 = .ok (.iload_n 1, 1) := by decide +kernel
theorem dX6_put_73 : decode cX6_put 73 = .ok (.if_icmp .eq 19, 3) := by decide +kernel
theorem dX6_put_76 : decode cX6_put 76 = .ok (.aload_n 0, 1) := by decide +kernel
theorem dX6_put_77 : decode cX6_put 77 = .ok (.getfield 13, 3) := by decide +kernel
theorem dX6_put_80 : decode cX6_put 80 = .ok (.iload 6, 2) := by decide +kernel
theorem dX6_put_82 : decode cX6_put 82 = .ok (.iaload, 1) := by decide +kernel
theorem dX6_put_83 : decode cX6_put 83 = .ok (.iload 4, 2) := by decide +kernel
theorem dX6_put_85 : decode cX6_put 85 = .ok (.if_icmp .ne 7, 3) := by decide +kernel
theorem dX6_put_88 : decode cX6_put 88 = .ok (.iconst 1, 1) := by decide +kernel
theorem dX6_put_89 : decode cX6_put 89 = .ok (.goto 4, 3) := by decide +kernel
theorem dX6_put_92 : decode cX6_put 92 = .ok (.iconst 0, 1) := by decide +kernel
theorem dX6_put_93 : decode cX6_put 93 = .ok (.istore 5, 2) := by decide +kernel
theorem dX6_put_95 : decode cX6_put 95 = .ok (.iinc 6 1, 3) := by decide +kernel
theorem dX6_put_98 : decode cX6_put 98 = .ok (.goto (-40), 3) := by decide +kernel
theorem dX6_put_101 : decode cX6_put 101 = .ok (.iload 5, 2) := by decide +kernel
theorem dX6_put_103 : decode cX6_put 103 = .ok (.ifCond .ne 10, 3) := by decide +kernel
theorem dX6_put_106 : decode cX6_put 106 = .ok (.aload_n 0, 1) := by decide +kernel
theorem dX6_put_107 : decode cX6_put 107 = .ok (.getfield 69, 3) := by decide +kernel
theorem dX6_put_110 : decode cX6_put 110 = .ok (.ifCond .le 9, 3) := by decide +kernel
theorem dX6_put_113 : decode cX6_put 113 = .ok (.aload_n 0, 1) := by decide +kernel
theorem dX6_put_114 : decode cX6_put 114 = .ok (.iconst 2, 1) := by decide +kernel
theorem dX6_put_115 : decode cX6_put 115 = .ok (.invokevirtual 94, 3) := by decide +kernel
theorem dX6_put_118 : decode cX6_put 118 = .ok (.ireturn, 1) := by decide +kernel
theorem dX6_put_119 : decode cX6_put 119 = .ok (.aload_n 0, 1) := by decide +kernel
theorem dX6_put_120 : decode cX6_put 120 = .ok (.getfield 13, 3) := by decide +kernel
theorem dX6_put_123 : decode cX6_put 123 = .ok (.iload_n 1, 1) := by decide +kernel
theorem dX6_put_124 : decode cX6_put 124 = .ok (.iaload, 1) := by decide +kernel
theorem dX6_put_125 : decode cX6_put 125 = .ok (.istore 6, 2) := by decide +kernel
theorem dX6_put_127 : decode cX6_put 127 = .ok (.aload_n 0, 1) := by decide +kernel
theorem dX6_put_128 : decode cX6_put 128 = .ok (.getfield 13, 3) := by decide +kernel
theorem dX6_put_131 : decode cX6_put 131 = .ok (.iload_n 1, 1) := by decide +kernel
theorem dX6_put_132 : decode cX6_put 132 = .ok (.iload 4, 2) := by decide +kernel
theorem dX6_put_134 : decode cX6_put 134 = .ok (.iastore, 1) := by decide +kernel
theorem dX6_put_135 : decode cX6_put 135 = .ok (.iload 6, 2) := by decide +kernel
theorem dX6_put_137 : decode cX6_put 137 = .ok (.ireturn, 1) := by decide +kernel
theorem dX6_turnoverOf_0 : decode cX6_turnoverOf 0 = .ok (.iconst 0, 1) := by decide +kernel
theorem dX6_turnoverOf_1 : decode cX6_turnoverOf 1 = .ok (.istore_n 2, 1) := by decide +kernel
theorem dX6_turnoverOf_2 : decode cX6_turnoverOf 2 = .ok (.iconst 0, 1) := by decide +kernel
theorem dX6_turnoverOf_3 : decode cX6_turnoverOf 3 = .ok (.istore_n 3, 1) := by decide +kernel
theorem dX6_turnoverOf_4 : decode cX6_turnoverOf 4 = .ok (.iload_n 3, 1) := by decide +kernel
theorem dX6_turnoverOf_5 : decode cX6_turnoverOf 5 = .ok (.aload_n 0, 1) := by decide +kernel
theorem dX6_turnoverOf_6 : decode cX6_turnoverOf 6 = .ok (.getfield 66, 3) := by decide +kernel
theorem dX6_turnoverOf_9 : decode cX6_turnoverOf 9 = .ok (.if_icmp .ge 72, 3) := by decide +kernel
theorem dX6_turnoverOf_12 : decode cX6_turnoverOf 12 = .ok (.iconst 0, 1) := by decide +kernel
theorem dX6_turnoverOf_13 : decode cX6_turnoverOf 13 = .ok (.istore 4, 2) := by decide +kernel
theorem dX6_turnoverOf_15 : decode cX6_turnoverOf 15 = .ok (.iload 4, 2) := by decide +kernel
theorem dX6_turnoverOf_17 : decode cX6_turnoverOf 17 = .ok (.aload_n 0, 1) := by decide +kernel
theorem dX6_turnoverOf_18 : decode cX6_turnoverOf 18 = .ok (.getfield 26, 3) := by decide +kernel
theorem dX6_turnoverOf_21 : decode cX6_turnoverOf 21 = .ok (.iload_n 3, 1) := by decide +kernel
theorem dX6_turnoverOf_22 : decode cX6_turnoverOf 22 = .ok (.iaload, 1) := by decide +kernel
theorem dX6_turnoverOf_23 : decode cX6_turnoverOf 23 = .ok (.if_icmp .ge 52, 3) := by decide +kernel
theorem dX6_turnoverOf_26 : decode cX6_turnoverOf 26 = .ok (.iload_n 2, 1) := by decide +kernel
theorem dX6_turnoverOf_27 : decode cX6_turnoverOf 27 = .ok (.aload_n 0, 1) := by decide +kernel
theorem dX6_turnoverOf_28 : decode cX6_turnoverOf 28 = .ok (.getfield 20, 3) := by decide +kernel
theorem dX6_turnoverOf_31 : decode cX6_turnoverOf 31 = .ok (.iload_n 3, 1) := by decide +kernel
theorem dX6_turnoverOf_32 : decode cX6_turnoverOf 32 = .ok (.iaload, 1) := by decide +kernel
theorem dX6_turnoverOf_33 : decode cX6_turnoverOf 33 = .ok (.iconst 2, 1) := by decide +kernel
theorem dX6_turnoverOf_34 : decode cX6_turnoverOf 34 = .ok (.if_icmp .ne 32, 3) := by decide +kernel
theorem dX6_turnoverOf_37 : decode cX6_turnoverOf 37 = .ok (.aload_n 0, 1) := by decide +kernel
theorem dX6_turnoverOf_38 : decode cX6_turnoverOf 38 = .ok (.getfield 29, 3) := by decide +kernel
theorem dX6_turnoverOf_41 : decode cX6_turnoverOf 41 = .ok (.iconst 5, 1) := by decide +kernel
theorem dX6_turnoverOf_42 : decode cX6_turnoverOf 42 = .ok (.iload_n 3, 1) := by decide +kernel
theorem dX6_turnoverOf_43 : decode cX6_turnoverOf 43 = .ok (.imul, 1) := by decide +kernel
theorem dX6_turnoverOf_44 : decode cX6_turnoverOf 44 = .ok (.iload 4, 2) := by decide +kernel
theorem dX6_turnoverOf_46 : decode cX6_turnoverOf 46 = .ok (.iadd, 1) := by decide +kernel
theorem dX6_turnoverOf_47 : decode cX6_turnoverOf 47 = .ok (.iaload, 1) := by decide +kernel
theorem dX6_turnoverOf_48 : decode cX6_turnoverOf 48 = .ok (.iload_n 1, 1) := by decide +kernel
theorem dX6_turnoverOf_49 : decode cX6_turnoverOf 49 = .ok (.if_icmp .ne 17, 3) := by decide +kernel
theorem dX6_turnoverOf_52 : decode cX6_turnoverOf 52 = .ok (.aload_n 0, 1) := by decide +kernel
theorem dX6_turnoverOf_53 : decode cX6_turnoverOf 53 = .ok (.getfield 32, 3) := by decide +kernel
theorem dX6_turnoverOf_56 : decode cX6_turnoverOf 56 = .ok (.iconst 5, 1) := by decide +kernel
theorem dX6_turnoverOf_57 : decode cX6_turnoverOf 57 = .ok (.iload_n 3, 1) := by decide +kernel
theorem dX6_turnoverOf_58 : decode cX6_turnoverOf 58 = .ok (.imul, 1) := by decide +kernel
theorem dX6_turnoverOf_59 : decode cX6_turnoverOf 59 = .ok (.iload 4, 2) := by decide +kernel
theorem dX6_turnoverOf_61 : decode cX6_turnoverOf 61 = .ok (.iadd, 1) := by decide +kernel
theorem dX6_turnoverOf_62 : decode cX6_turnoverOf 62 = .ok (.iaload, 1) := by decide +kernel
theorem dX6_turnoverOf_63 : decode cX6_turnoverOf 63 = .ok (.goto 4, 3) := by decide +kernel
theorem dX6_turnoverOf_66 : decode cX6_turnoverOf 66 = .ok (.iconst 0, 1) := by decide +kernel
theorem dX6_turnoverOf_67 : decode cX6_turnoverOf 67 = .ok (.iadd, 1) := by decide +kernel
theorem dX6_turnoverOf_68 : decode cX6_turnoverOf 68 = .ok (.istore_n 2, 1) := by decide +kernel
theorem dX6_turnoverOf_69 : decode cX6_turnoverOf 69 = .ok (.iinc 4 1, 3) := by decide +kernel
theorem dX6_turnoverOf_72 : decode cX6_turnoverOf 72 = .ok (.goto (-57), 3) := by decide +kernel
theorem dX6_turnoverOf_75 : decode cX6_turnoverOf 75 = .ok (.iinc 3 1, 3) := by decide +kernel
theorem dX6_turnoverOf_78 : decode cX6_turnoverOf 78 = .ok (.goto (-74), 3) := by decide +kernel
theorem dX6_turnoverOf_81 : decode cX6_turnoverOf 81 = .ok (.iload_n 2, 1) := by decide +kernel
theorem dX6_turnoverOf_82 : decode cX6_turnoverOf 82 = .ok (.ireturn, 1) := by decide +kernel
theorem dX6_ranks_0 : decode cX6_ranks 0 = .ok (.iload_n 2, 1) := by decide +kernel
theorem dX6_ranks_1 : decode cX6_ranks 1 = .ok (.istore_n 3, 1) := by decide +kernel
theorem dX6_ranks_2 : decode cX6_ranks 2 = .ok (.iload_n 3, 1) := by decide +kernel
theorem dX6_ranks_3 : decode cX6_ranks 3 = .ok (.ifCond .le 43, 3) := by decide +kernel
theorem dX6_ranks_6 : decode cX6_ranks 6 = .ok (.aload_n 0, 1) := by decide +kernel
theorem dX6_ranks_7 : decode cX6_ranks 7 = .ok (.aload_n 0, 1) := by decide +kernel
theorem dX6_ranks_8 : decode cX6_ranks 8 = .ok (.getfield 44, 3) := by decide +kernel
theorem dX6_ranks_11 : decode cX6_ranks 11 = .ok (.iload_n 3, 1) := by decide +kernel
theorem dX6_ranks_12 : decode cX6_ranks 12 = .ok (.iconst 1, 1) := by decide +kernel
theorem dX6_ranks_13 : decode cX6_ranks 13 = .ok (.isub, 1) := by decide +kernel
theorem dX6_ranks_14 : decode cX6_ranks 14 = .ok (.iaload, 1) := by decide +kernel
theorem dX6_ranks_15 : decode cX6_ranks 15 = .ok (.invokevirtual 98, 3) := by decide +kernel
theorem dX6_ranks_18 : decode cX6_ranks 18 = .ok (.aload_n 0, 1) := by decide +kernel
theorem dX6_ranks_19 : decode cX6_ranks 19 = .ok (.iload_n 1, 1) := by decide +kernel
theorem dX6_ranks_20 : decode cX6_ranks 20 = .ok (.invokevirtual 98, 3) := by decide +kernel
theorem dX6_ranks_23 : decode cX6_ranks 23 = .ok (.if_icmp .ge 23, 3) := by decide +kernel
theorem dX6_ranks_26 : decode cX6_ranks 26 = .ok (.aload_n 0, 1) := by decide +kernel
theorem dX6_ranks_27 : decode cX6_ranks 27 = .ok (.getfield 44, 3) := by decide +kernel
theorem dX6_ranks_30 : decode cX6_ranks 30 = .ok (.iload_n 3, 1) := by decide +kernel
theorem dX6_ranks_31 : decode cX6_ranks 31 = .ok (.aload_n 0, 1) := by decide +kernel
theorem dX6_ranks_32 : decode cX6_ranks 32 = .ok (.getfield 44, 3) := by decide +kernel
theorem dX6_ranks_35 : decode cX6_ranks 35 = .ok (.iload_n 3, 1) := by decide +kernel
theorem dX6_ranks_36 : decode cX6_ranks 36 = .ok (.iconst 1, 1) := by decide +kernel
theorem dX6_ranks_37 : decode cX6_ranks 37 = .ok (.isub, 1) := by decide +kernel
theorem dX6_ranks_38 : decode cX6_ranks 38 = .ok (.iaload, 1) := by decide +kernel
theorem dX6_ranks_39 : decode cX6_ranks 39 = .ok (.iastore, 1) := by decide +kernel
theorem dX6_ranks_40 : decode cX6_ranks 40 = .ok (.iinc 3 (-1), 3) := by decide +kernel
theorem dX6_ranks_43 : decode cX6_ranks 43 = .ok (.goto (-41), 3) := by decide +kernel
theorem dX6_ranks_46 : decode cX6_ranks 46 = .ok (.aload_n 0, 1) := by decide +kernel
theorem dX6_ranks_47 : decode cX6_ranks 47 = .ok (.getfield 44, 3) := by decide +kernel
theorem dX6_ranks_50 : decode cX6_ranks 50 = .ok (.iload_n 3, 1) := by decide +kernel
theorem dX6_ranks_51 : decode cX6_ranks 51 = .ok (.iload_n 1, 1) := by decide +kernel
theorem dX6_ranks_52 : decode cX6_ranks 52 = .ok (.iastore, 1) := by decide +kernel
theorem dX6_ranks_53 : decode cX6_ranks 53 = .ok (.return_, 1) := by decide +kernel
theorem dX6_spreads_0 : decode cX6_spreads 0 = .ok (.iload_n 2, 1) := by decide +kernel
theorem dX6_spreads_1 : decode cX6_spreads 1 = .ok (.istore_n 3, 1) := by decide +kernel
theorem dX6_spreads_2 : decode cX6_spreads 2 = .ok (.iload_n 3, 1) := by decide +kernel
theorem dX6_spreads_3 : decode cX6_spreads 3 = .ok (.ifCond .le 79, 3) := by decide +kernel
theorem dX6_spreads_6 : decode cX6_spreads 6 = .ok (.aload_n 0, 1) := by decide +kernel
theorem dX6_spreads_7 : decode cX6_spreads 7 = .ok (.iconst 0, 1) := by decide +kernel
theorem dX6_spreads_8 : decode cX6_spreads 8 = .ok (.aload_n 0, 1) := by decide +kernel
theorem dX6_spreads_9 : decode cX6_spreads 9 = .ok (.getfield 47, 3) := by decide +kernel
theorem dX6_spreads_12 : decode cX6_spreads 12 = .ok (.iload_n 3, 1) := by decide +kernel
theorem dX6_spreads_13 : decode cX6_spreads 13 = .ok (.iconst 1, 1) := by decide +kernel
theorem dX6_spreads_14 : decode cX6_spreads 14 = .ok (.isub, 1) := by decide +kernel
theorem dX6_spreads_15 : decode cX6_spreads 15 = .ok (.iaload, 1) := by decide +kernel
theorem dX6_spreads_16 : decode cX6_spreads 16 = .ok (.invokevirtual 72, 3) := by decide +kernel
theorem dX6_spreads_19 : decode cX6_spreads 19 = .ok (.aload_n 0, 1) := by decide +kernel
theorem dX6_spreads_20 : decode cX6_spreads 20 = .ok (.iconst 0, 1) := by decide +kernel
theorem dX6_spreads_21 : decode cX6_spreads 21 = .ok (.iload_n 1, 1) := by decide +kernel
theorem dX6_spreads_22 : decode cX6_spreads 22 = .ok (.invokevirtual 72, 3) := by decide +kernel
theorem dX6_spreads_25 : decode cX6_spreads 25 = .ok (.if_icmp .gt 37, 3) := by decide +kernel
theorem dX6_spreads_28 : decode cX6_spreads 28 = .ok (.aload_n 0, 1) := by decide +kernel
theorem dX6_spreads_29 : decode cX6_spreads 29 = .ok (.iconst 0, 1) := by decide +kernel
theorem dX6_spreads_30 : decode cX6_spreads 30 = .ok (.aload_n 0, 1) := by decide +kernel
theorem dX6_spreads_31 : decode cX6_spreads 31 = .ok (.getfield 47, 3) := by decide +kernel
theorem dX6_spreads_34 : decode cX6_spreads 34 = .ok (.iload_n 3, 1) := by decide +kernel
theorem dX6_spreads_35 : decode cX6_spreads 35 = .ok (.iconst 1, 1) := by decide +kernel
theorem dX6_spreads_36 : decode cX6_spreads 36 = .ok (.isub, 1) := by decide +kernel
theorem dX6_spreads_37 : decode cX6_spreads 37 = .ok (.iaload, 1) := by decide +kernel
theorem dX6_spreads_38 : decode cX6_spreads 38 = .ok (.invokevirtual 72, 3) := by decide +kernel
theorem dX6_spreads_41 : decode cX6_spreads 41 = .ok (.aload_n 0, 1) := by decide +kernel
theorem dX6_spreads_42 : decode cX6_spreads 42 = .ok (.iconst 0, 1) := by decide +kernel
theorem dX6_spreads_43 : decode cX6_spreads 43 = .ok (.iload_n 1, 1) := by decide +kernel
theorem dX6_spreads_44 : decode cX6_spreads 44 = .ok (.invokevirtual 72, 3) := by decide +kernel
theorem dX6_spreads_47 : decode cX6_spreads 47 = .ok (.if_icmp .ne 35, 3) := by decide +kernel
theorem dX6_spreads_50 : decode cX6_spreads 50 = .ok (.aload_n 0, 1) := by decide +kernel
theorem dX6_spreads_51 : decode cX6_spreads 51 = .ok (.getfield 47, 3) := by decide +kernel
theorem dX6_spreads_54 : decode cX6_spreads 54 = .ok (.iload_n 3, 1) := by decide +kernel
theorem dX6_spreads_55 : decode cX6_spreads 55 = .ok (.iconst 1, 1) := by decide +kernel
theorem dX6_spreads_56 : decode cX6_spreads 56 = .ok (.isub, 1) := by decide +kernel
theorem dX6_spreads_57 : decode cX6_spreads 57 = .ok (.iaload, 1) := by decide +kernel
theorem dX6_spreads_58 : decode cX6_spreads 58 = .ok (.iload_n 1, 1) := by decide +kernel
theorem dX6_spreads_59 : decode cX6_spreads 59 = .ok (.if_icmp .le 23, 3) := by decide +kernel
theorem dX6_spreads_62 : decode cX6_spreads 62 = .ok (.aload_n 0, 1) := by decide +kernel
theorem dX6_spreads_63 : decode cX6_spreads 63 = .ok (.getfield 47, 3) := by decide +kernel
theorem dX6_spreads_66 : decode cX6_spreads 66 = .ok (.iload_n 3, 1) := by decide +kernel
theorem dX6_spreads_67 : decode cX6_spreads 67 = .ok (.aload_n 0, 1) := by decide +kernel
theorem dX6_spreads_68 : decode cX6_spreads 68 = .ok (.getfield 47, 3) := by decide +kernel
theorem dX6_spreads_71 : decode cX6_spreads 71 = .ok (.iload_n 3, 1) := by decide +kernel
theorem dX6_spreads_72 : decode cX6_spreads 72 = .ok (.iconst 1, 1) := by decide +kernel
theorem dX6_spreads_73 : decode cX6_spreads 73 = .ok (.isub, 1) := by decide +kernel
theorem dX6_spreads_74 : decode cX6_spreads 74 = .ok (.iaload, 1) := by decide +kernel
theorem dX6_spreads_75 : decode cX6_spreads 75 = .ok (.iastore, 1) := by decide +kernel
theorem dX6_spreads_76 : decode cX6_spreads 76 = .ok (.iinc 3 (-1), 3) := by decide +kernel
theorem dX6_spreads_79 : decode cX6_spreads 79 = .ok (.goto (-77), 3) := by decide +kernel
theorem dX6_spreads_82 : decode cX6_spreads 82 = .ok (.aload_n 0, 1) := by decide +kernel
theorem dX6_spreads_83 : decode cX6_spreads 83 = .ok (.getfield 47, 3) := by decide +kernel
theorem dX6_spreads_86 : decode cX6_spreads 86 = .ok (.iload_n 3, 1) := by decide +kernel
theorem dX6_spreads_87 : decode cX6_spreads 87 = .ok (.iload_n 1, 1) := by decide +kernel
theorem dX6_spreads_88 : decode cX6_spreads 88 = .ok (.iastore, 1) := by decide +kernel
theorem dX6_spreads_89 : decode cX6_spreads 89 = .ok (.return_, 1) := by decide +kernel
theorem dX6_layOut_0 : decode cX6_layOut 0 = .ok (.aload_n 0, 1) := by decide +kernel
theorem dX6_layOut_1 : decode cX6_layOut 1 = .ok (.iconst 0, 1) := by decide +kernel
theorem dX6_layOut_2 : decode cX6_layOut 2 = .ok (.putfield 59, 3) := by decide +kernel
theorem dX6_layOut_5 : decode cX6_layOut 5 = .ok (.aload_n 0, 1) := by decide +kernel
theorem dX6_layOut_6 : decode cX6_layOut 6 = .ok (.getfield 69, 3) := by decide +kernel
theorem dX6_layOut_9 : decode cX6_layOut 9 = .ok (.ifCond .le 9, 3) := by decide +kernel
theorem dX6_layOut_12 : decode cX6_layOut 12 = .ok (.aload_n 0, 1) := by decide +kernel
theorem dX6_layOut_13 : decode cX6_layOut 13 = .ok (.iconst 1, 1) := by decide +kernel
theorem dX6_layOut_14 : decode cX6_layOut 14 = .ok (.invokevirtual 94, 3) := by decide +kernel
theorem dX6_layOut_17 : decode cX6_layOut 17 = .ok (.ireturn, 1) := by decide +kernel
theorem dX6_layOut_18 : decode cX6_layOut 18 = .ok (.iconst 0, 1) := by decide +kernel
theorem dX6_layOut_19 : decode cX6_layOut 19 = .ok (.istore_n 1, 1) := by decide +kernel
theorem dX6_layOut_20 : decode cX6_layOut 20 = .ok (.iconst 0, 1) := by decide +kernel
theorem dX6_layOut_21 : decode cX6_layOut 21 = .ok (.istore_n 2, 1) := by decide +kernel
theorem dX6_layOut_22 : decode cX6_layOut 22 = .ok (.iload_n 2, 1) := by decide +kernel
theorem dX6_layOut_23 : decode cX6_layOut 23 = .ok (.bipush 20, 2) := by decide +kernel
theorem dX6_layOut_25 : decode cX6_layOut 25 = .ok (.if_icmp .ge 39, 3) := by decide +kernel
theorem dX6_layOut_28 : decode cX6_layOut 28 = .ok (.aload_n 0, 1) := by decide +kernel
theorem dX6_layOut_29 : decode cX6_layOut 29 = .ok (.getfield 13, 3) := by decide +kernel
theorem dX6_layOut_32 : decode cX6_layOut 32 = .ok (.iload_n 2, 1) := by decide +kernel
theorem dX6_layOut_33 : decode cX6_layOut 33 = .ok (.iaload, 1) := by decide +kernel
theorem dX6_layOut_34 : decode cX6_layOut 34 = .ok (.iconst (-1), 1) := by decide +kernel
theorem dX6_layOut_35 : decode cX6_layOut 35 = .ok (.if_icmp .eq 23, 3) := by decide +kernel
theorem dX6_layOut_38 : decode cX6_layOut 38 = .ok (.aload_n 0, 1) := by decide +kernel
theorem dX6_layOut_39 : decode cX6_layOut 39 = .ok (.iload_n 2, 1) := by decide +kernel
theorem dX6_layOut_40 : decode cX6_layOut 40 = .ok (.iload_n 1, 1) := by decide +kernel
theorem dX6_layOut_41 : decode cX6_layOut 41 = .ok (.invokevirtual 101, 3) := by decide +kernel
theorem dX6_layOut_44 : decode cX6_layOut 44 = .ok (.aload_n 0, 1) := by decide +kernel
theorem dX6_layOut_45 : decode cX6_layOut 45 = .ok (.aload_n 0, 1) := by decide +kernel
theorem dX6_layOut_46 : decode cX6_layOut 46 = .ok (.getfield 13, 3) := by decide +kernel
theorem dX6_layOut_49 : decode cX6_layOut 49 = .ok (.iload_n 2, 1) := by decide +kernel
theorem dX6_layOut_50 : decode cX6_layOut 50 = .ok (.iaload, 1) := by decide +kernel
theorem dX6_layOut_51 : decode cX6_layOut 51 = .ok (.iload_n 1, 1) := by decide +kernel
theorem dX6_layOut_52 : decode cX6_layOut 52 = .ok (.invokevirtual 105, 3) := by decide +kernel
theorem dX6_layOut_55 : decode cX6_layOut 55 = .ok (.iinc 1 1, 3) := by decide +kernel
theorem dX6_layOut_58 : decode cX6_layOut 58 = .ok (.iinc 2 1, 3) := by decide +kernel
theorem dX6_layOut_61 : decode cX6_layOut 61 = .ok (.goto (-39), 3) := by decide +kernel
theorem dX6_layOut_64 : decode cX6_layOut 64 = .ok (.iconst 0, 1) := by decide +kernel
theorem dX6_layOut_65 : decode cX6_layOut 65 = .ok (.istore_n 2, 1) := by decide +kernel
theorem dX6_layOut_66 : decode cX6_layOut 66 = .ok (.iconst 0, 1) := by decide +kernel
theorem dX6_layOut_67 : decode cX6_layOut 67 = .ok (.istore_n 3, 1) := by decide +kernel
theorem dX6_layOut_68 : decode cX6_layOut 68 = .ok (.iload_n 3, 1) := by decide +kernel
theorem dX6_layOut_69 : decode cX6_layOut 69 = .ok (.iload_n 1, 1) := by decide +kernel
theorem dX6_layOut_70 : decode cX6_layOut 70 = .ok (.if_icmp .ge 54, 3) := by decide +kernel
theorem dX6_layOut_73 : decode cX6_layOut 73 = .ok (.iload_n 2, 1) := by decide +kernel
theorem dX6_layOut_74 : decode cX6_layOut 74 = .ok (.aload_n 0, 1) := by decide +kernel
theorem dX6_layOut_75 : decode cX6_layOut 75 = .ok (.getfield 13, 3) := by decide +kernel
theorem dX6_layOut_78 : decode cX6_layOut 78 = .ok (.aload_n 0, 1) := by decide +kernel
theorem dX6_layOut_79 : decode cX6_layOut 79 = .ok (.getfield 44, 3) := by decide +kernel
theorem dX6_layOut_82 : decode cX6_layOut 82 = .ok (.iload_n 3, 1) := by decide +kernel
theorem dX6_layOut_83 : decode cX6_layOut 83 = .ok (.iaload, 1) := by decide +kernel
theorem dX6_layOut_84 : decode cX6_layOut 84 = .ok (.iaload, 1) := by decide +kernel
theorem dX6_layOut_85 : decode cX6_layOut 85 = .ok (.aload_n 0, 1) := by decide +kernel
theorem dX6_layOut_86 : decode cX6_layOut 86 = .ok (.getfield 47, 3) := by decide +kernel
theorem dX6_layOut_89 : decode cX6_layOut 89 = .ok (.iload_n 3, 1) := by decide +kernel
theorem dX6_layOut_90 : decode cX6_layOut 90 = .ok (.iaload, 1) := by decide +kernel
theorem dX6_layOut_91 : decode cX6_layOut 91 = .ok (.if_icmp .ne 7, 3) := by decide +kernel
theorem dX6_layOut_94 : decode cX6_layOut 94 = .ok (.iconst 0, 1) := by decide +kernel
theorem dX6_layOut_95 : decode cX6_layOut 95 = .ok (.goto 4, 3) := by decide +kernel
theorem dX6_layOut_98 : decode cX6_layOut 98 = .ok (.iconst 1, 1) := by decide +kernel
theorem dX6_layOut_99 : decode cX6_layOut 99 = .ok (.iadd, 1) := by decide +kernel
theorem dX6_layOut_100 : decode cX6_layOut 100 = .ok (.istore_n 2, 1) := by decide +kernel
theorem dX6_layOut_101 : decode cX6_layOut 101 = .ok (.aload_n 0, 1) := by decide +kernel
theorem dX6_layOut_102 : decode cX6_layOut 102 = .ok (.getfield 13, 3) := by decide +kernel
theorem dX6_layOut_105 : decode cX6_layOut 105 = .ok (.aload_n 0, 1) := by decide +kernel
theorem dX6_layOut_106 : decode cX6_layOut 106 = .ok (.getfield 44, 3) := by decide +kernel
theorem dX6_layOut_109 : decode cX6_layOut 109 = .ok (.iload_n 3, 1) := by decide +kernel
theorem dX6_layOut_110 : decode cX6_layOut 110 = .ok (.iaload, 1) := by decide +kernel
theorem dX6_layOut_111 : decode cX6_layOut 111 = .ok (.aload_n 0, 1) := by decide +kernel
theorem dX6_layOut_112 : decode cX6_layOut 112 = .ok (.getfield 47, 3) := by decide +kernel
theorem dX6_layOut_115 : decode cX6_layOut 115 = .ok (.iload_n 3, 1) := by decide +kernel
theorem dX6_layOut_116 : decode cX6_layOut 116 = .ok (.iaload, 1) := by decide +kernel
theorem dX6_layOut_117 : decode cX6_layOut 117 = .ok (.iastore, 1) := by decide +kernel
theorem dX6_layOut_118 : decode cX6_layOut 118 = .ok (.iinc 3 1, 3) := by decide +kernel
theorem dX6_layOut_121 : decode cX6_layOut 121 = .ok (.goto (-53), 3) := by decide +kernel
theorem dX6_layOut_124 : decode cX6_layOut 124 = .ok (.iload_n 2, 1) := by decide +kernel
theorem dX6_layOut_125 : decode cX6_layOut 125 = .ok (.ireturn, 1) := by decide +kernel
theorem dX6_placeOf_0 : decode cX6_placeOf 0 = .ok (.aload_n 0, 1) := by decide +kernel
theorem dX6_placeOf_1 : decode cX6_placeOf 1 = .ok (.iconst 0, 1) := by decide +kernel
theorem dX6_placeOf_2 : decode cX6_placeOf 2 = .ok (.putfield 59, 3) := by decide +kernel
theorem dX6_placeOf_5 : decode cX6_placeOf 5 = .ok (.iload_n 1, 1) := by decide +kernel
theorem dX6_placeOf_6 : decode cX6_placeOf 6 = .ok (.invokestatic 90, 3) := by decide +kernel
theorem dX6_placeOf_9 : decode cX6_placeOf 9 = .ok (.ifCond .eq 12, 3) := by decide +kernel
theorem dX6_placeOf_12 : decode cX6_placeOf 12 = .ok (.aload_n 0, 1) := by decide +kernel
theorem dX6_placeOf_13 : decode cX6_placeOf 13 = .ok (.getfield 13, 3) := by decide +kernel
theorem dX6_placeOf_16 : decode cX6_placeOf 16 = .ok (.iload_n 1, 1) := by decide +kernel
theorem dX6_placeOf_17 : decode cX6_placeOf 17 = .ok (.iaload, 1) := by decide +kernel
theorem dX6_placeOf_18 : decode cX6_placeOf 18 = .ok (.goto 8, 3) := by decide +kernel
theorem dX6_placeOf_21 : decode cX6_placeOf 21 = .ok (.aload_n 0, 1) := by decide +kernel
theorem dX6_placeOf_22 : decode cX6_placeOf 22 = .ok (.iconst 1, 1) := by decide +kernel
theorem dX6_placeOf_23 : decode cX6_placeOf 23 = .ok (.invokevirtual 94, 3) := by decide +kernel
theorem dX6_placeOf_26 : decode cX6_placeOf 26 = .ok (.ireturn, 1) := by decide +kernel
theorem dX6_turnover_0 : decode cX6_turnover 0 = .ok (.aload_n 0, 1) := by decide +kernel
theorem dX6_turnover_1 : decode cX6_turnover 1 = .ok (.iconst 0, 1) := by decide +kernel
theorem dX6_turnover_2 : decode cX6_turnover 2 = .ok (.putfield 59, 3) := by decide +kernel
theorem dX6_turnover_5 : decode cX6_turnover 5 = .ok (.iload_n 1, 1) := by decide +kernel
theorem dX6_turnover_6 : decode cX6_turnover 6 = .ok (.invokestatic 90, 3) := by decide +kernel
theorem dX6_turnover_9 : decode cX6_turnover 9 = .ok (.ifCond .eq 11, 3) := by decide +kernel
theorem dX6_turnover_12 : decode cX6_turnover 12 = .ok (.aload_n 0, 1) := by decide +kernel
theorem dX6_turnover_13 : decode cX6_turnover 13 = .ok (.iload_n 1, 1) := by decide +kernel
theorem dX6_turnover_14 : decode cX6_turnover 14 = .ok (.invokevirtual 98, 3) := by decide +kernel
theorem dX6_turnover_17 : decode cX6_turnover 17 = .ok (.goto 8, 3) := by decide +kernel
theorem dX6_turnover_20 : decode cX6_turnover 20 = .ok (.aload_n 0, 1) := by decide +kernel
theorem dX6_turnover_21 : decode cX6_turnover 21 = .ok (.iconst 1, 1) := by decide +kernel
theorem dX6_turnover_22 : decode cX6_turnover 22 = .ok (.invokevirtual 94, 3) := by decide +kernel
theorem dX6_turnover_25 : decode cX6_turnover 25 = .ok (.ireturn, 1) := by decide +kernel
theorem dX6_distance_0 : decode cX6_distance 0 = .ok (.aload_n 0, 1) := by decide +kernel
theorem dX6_distance_1 : decode cX6_distance 1 = .ok (.iconst 0, 1) := by decide +kernel
theorem dX6_distance_2 : decode cX6_distance 2 = .ok (.putfield 59, 3) := by decide +kernel
theorem dX6_distance_5 : decode cX6_distance 5 = .ok (.iload_n 1, 1) := by decide +kernel
theorem dX6_distance_6 : decode cX6_distance 6 = .ok (.invokestatic 90, 3) := by decide +kernel
theorem dX6_distance_9 : decode cX6_distance 9 = .ok (.ifCond .eq 10, 3) := by decide +kernel
theorem dX6_distance_12 : decode cX6_distance 12 = .ok (.iload_n 2, 1) := by decide +kernel
theorem dX6_distance_13 : decode cX6_distance 13 = .ok (.invokestatic 90, 3) := by decide +kernel
theorem dX6_distance_16 : decode cX6_distance 16 = .ok (.ifCond .ne 9, 3) := by decide +kernel
theorem dX6_distance_19 : decode cX6_distance 19 = .ok (.aload_n 0, 1) := by decide +kernel
theorem dX6_distance_20 : decode cX6_distance 20 = .ok (.iconst 1, 1) := by decide +kernel
theorem dX6_distance_21 : decode cX6_distance 21 = .ok (.invokevirtual 94, 3) := by decide +kernel
theorem dX6_distance_24 : decode cX6_distance 24 = .ok (.ireturn, 1) := by decide +kernel
theorem dX6_distance_25 : decode cX6_distance 25 = .ok (.aload_n 0, 1) := by decide +kernel
theorem dX6_distance_26 : decode cX6_distance 26 = .ok (.getfield 13, 3) := by decide +kernel
theorem dX6_distance_29 : decode cX6_distance 29 = .ok (.iload_n 1, 1) := by decide +kernel
theorem dX6_distance_30 : decode cX6_distance 30 = .ok (.iaload, 1) := by decide +kernel
theorem dX6_distance_31 : decode cX6_distance 31 = .ok (.iconst (-1), 1) := by decide +kernel
theorem dX6_distance_32 : decode cX6_distance 32 = .ok (.if_icmp .eq 13, 3) := by decide +kernel
theorem dX6_distance_35 : decode cX6_distance 35 = .ok (.aload_n 0, 1) := by decide +kernel
theorem dX6_distance_36 : decode cX6_distance 36 = .ok (.getfield 13, 3) := by decide +kernel
theorem dX6_distance_39 : decode cX6_distance 39 = .ok (.iload_n 2, 1) := by decide +kernel
theorem dX6_distance_40 : decode cX6_distance 40 = .ok (.iaload, 1) := by decide +kernel
theorem dX6_distance_41 : decode cX6_distance 41 = .ok (.iconst (-1), 1) := by decide +kernel
theorem dX6_distance_42 : decode cX6_distance 42 = .ok (.if_icmp .ne 11, 3) := by decide +kernel
theorem dX6_distance_45 : decode cX6_distance 45 = .ok (.aload_n 0, 1) := by decide +kernel
theorem dX6_distance_46 : decode cX6_distance 46 = .ok (.iconst 2, 1) := by decide +kernel
theorem dX6_distance_47 : decode cX6_distance 47 = .ok (.invokevirtual 94, 3) := by decide +kernel
theorem dX6_distance_50 : decode cX6_distance 50 = .ok (.goto 19, 3) := by decide +kernel
theorem dX6_distance_53 : decode cX6_distance 53 = .ok (.aload_n 0, 1) := by decide +kernel
theorem dX6_distance_54 : decode cX6_distance 54 = .ok (.aload_n 0, 1) := by decide +kernel
theorem dX6_distance_55 : decode cX6_distance 55 = .ok (.getfield 13, 3) := by decide +kernel
theorem dX6_distance_58 : decode cX6_distance 58 = .ok (.iload_n 1, 1) := by decide +kernel
theorem dX6_distance_59 : decode cX6_distance 59 = .ok (.iaload, 1) := by decide +kernel
theorem dX6_distance_60 : decode cX6_distance 60 = .ok (.aload_n 0, 1) := by decide +kernel
theorem dX6_distance_61 : decode cX6_distance 61 = .ok (.getfield 13, 3) := by decide +kernel
theorem dX6_distance_64 : decode cX6_distance 64 = .ok (.iload_n 2, 1) := by decide +kernel
theorem dX6_distance_65 : decode cX6_distance 65 = .ok (.iaload, 1) := by decide +kernel
theorem dX6_distance_66 : decode cX6_distance 66 = .ok (.invokevirtual 72, 3) := by decide +kernel
theorem dX6_distance_69 : decode cX6_distance 69 = .ok (.ireturn, 1) := by decide +kernel
theorem dX6_order_0 : decode cX6_order 0 = .ok (.aload_n 0, 1) := by decide +kernel
theorem dX6_order_1 : decode cX6_order 1 = .ok (.iconst 0, 1) := by decide +kernel
theorem dX6_order_2 : decode cX6_order 2 = .ok (.putfield 59, 3) := by decide +kernel
theorem dX6_order_5 : decode cX6_order 5 = .ok (.iload_n 1, 1) := by decide +kernel
theorem dX6_order_6 : decode cX6_order 6 = .ok (.iconst 0, 1) := by decide +kernel
theorem dX6_order_7 : decode cX6_order 7 = .ok (.sipush 999, 3) := by decide +kernel
theorem dX6_order_10 : decode cX6_order 10 = .ok (.invokestatic 62, 3) := by decide +kernel
theorem dX6_order_13 : decode cX6_order 13 = .ok (.ifCond .ne 9, 3) := by decide +kernel
theorem dX6_order_16 : decode cX6_order 16 = .ok (.aload_n 0, 1) := by decide +kernel
theorem dX6_order_17 : decode cX6_order 17 = .ok (.iconst 1, 1) := by decide +kernel
theorem dX6_order_18 : decode cX6_order 18 = .ok (.invokevirtual 94, 3) := by decide +kernel
theorem dX6_order_21 : decode cX6_order 21 = .ok (.ireturn, 1) := by decide +kernel
theorem dX6_order_22 : decode cX6_order 22 = .ok (.aload_n 0, 1) := by decide +kernel
theorem dX6_order_23 : decode cX6_order 23 = .ok (.getfield 66, 3) := by decide +kernel
theorem dX6_order_26 : decode cX6_order 26 = .ok (.bipush 40, 2) := by decide +kernel
theorem dX6_order_28 : decode cX6_order 28 = .ok (.if_icmp .ne 9, 3) := by decide +kernel
theorem dX6_order_31 : decode cX6_order 31 = .ok (.aload_n 0, 1) := by decide +kernel
theorem dX6_order_32 : decode cX6_order 32 = .ok (.iconst 2, 1) := by decide +kernel
theorem dX6_order_33 : decode cX6_order 33 = .ok (.invokevirtual 94, 3) := by decide +kernel
theorem dX6_order_36 : decode cX6_order 36 = .ok (.ireturn, 1) := by decide +kernel
theorem dX6_order_37 : decode cX6_order 37 = .ok (.aload_n 0, 1) := by decide +kernel
theorem dX6_order_38 : decode cX6_order 38 = .ok (.getfield 17, 3) := by decide +kernel
theorem dX6_order_41 : decode cX6_order 41 = .ok (.aload_n 0, 1) := by decide +kernel
theorem dX6_order_42 : decode cX6_order 42 = .ok (.getfield 66, 3) := by decide +kernel
theorem dX6_order_45 : decode cX6_order 45 = .ok (.iload_n 1, 1) := by decide +kernel
theorem dX6_order_46 : decode cX6_order 46 = .ok (.iastore, 1) := by decide +kernel
theorem dX6_order_47 : decode cX6_order 47 = .ok (.aload_n 0, 1) := by decide +kernel
theorem dX6_order_48 : decode cX6_order 48 = .ok (.getfield 20, 3) := by decide +kernel
theorem dX6_order_51 : decode cX6_order 51 = .ok (.aload_n 0, 1) := by decide +kernel
theorem dX6_order_52 : decode cX6_order 52 = .ok (.getfield 66, 3) := by decide +kernel
theorem dX6_order_55 : decode cX6_order 55 = .ok (.iconst 0, 1) := by decide +kernel
theorem dX6_order_56 : decode cX6_order 56 = .ok (.iastore, 1) := by decide +kernel
theorem dX6_order_57 : decode cX6_order 57 = .ok (.aload_n 0, 1) := by decide +kernel
theorem dX6_order_58 : decode cX6_order 58 = .ok (.getfield 23, 3) := by decide +kernel
theorem dX6_order_61 : decode cX6_order 61 = .ok (.aload_n 0, 1) := by decide +kernel
theorem dX6_order_62 : decode cX6_order 62 = .ok (.getfield 66, 3) := by decide +kernel
theorem dX6_order_65 : decode cX6_order 65 = .ok (.iconst (-1), 1) := by decide +kernel
theorem dX6_order_66 : decode cX6_order 66 = .ok (.iastore, 1) := by decide +kernel
theorem dX6_order_67 : decode cX6_order 67 = .ok (.aload_n 0, 1) := by decide +kernel
theorem dX6_order_68 : decode cX6_order 68 = .ok (.getfield 26, 3) := by decide +kernel
theorem dX6_order_71 : decode cX6_order 71 = .ok (.aload_n 0, 1) := by decide +kernel
theorem dX6_order_72 : decode cX6_order 72 = .ok (.getfield 66, 3) := by decide +kernel
theorem dX6_order_75 : decode cX6_order 75 = .ok (.iconst 0, 1) := by decide +kernel
theorem dX6_order_76 : decode cX6_order 76 = .ok (.iastore, 1) := by decide +kernel
theorem dX6_order_77 : decode cX6_order 77 = .ok (.aload_n 0, 1) := by decide +kernel
theorem dX6_order_78 : decode cX6_order 78 = .ok (.dup, 1) := by decide +kernel
theorem dX6_order_79 : decode cX6_order 79 = .ok (.getfield 66, 3) := by decide +kernel
theorem dX6_order_82 : decode cX6_order 82 = .ok (.iconst 1, 1) := by decide +kernel
theorem dX6_order_83 : decode cX6_order 83 = .ok (.iadd, 1) := by decide +kernel
theorem dX6_order_84 : decode cX6_order 84 = .ok (.putfield 66, 3) := by decide +kernel
theorem dX6_order_87 : decode cX6_order 87 = .ok (.aload_n 0, 1) := by decide +kernel
theorem dX6_order_88 : decode cX6_order 88 = .ok (.getfield 66, 3) := by decide +kernel
theorem dX6_order_91 : decode cX6_order 91 = .ok (.iconst 1, 1) := by decide +kernel
theorem dX6_order_92 : decode cX6_order 92 = .ok (.isub, 1) := by decide +kernel
theorem dX6_order_93 : decode cX6_order 93 = .ok (.ireturn, 1) := by decide +kernel
theorem dX6_wanted_0 : decode cX6_wanted 0 = .ok (.iconst 0, 1) := by decide +kernel
theorem dX6_wanted_1 : decode cX6_wanted 1 = .ok (.istore_n 2, 1) := by decide +kernel
theorem dX6_wanted_2 : decode cX6_wanted 2 = .ok (.iconst 0, 1) := by decide +kernel
theorem dX6_wanted_3 : decode cX6_wanted 3 = .ok (.istore_n 3, 1) := by decide +kernel
theorem dX6_wanted_4 : decode cX6_wanted 4 = .ok (.iload_n 3, 1) := by decide +kernel
theorem dX6_wanted_5 : decode cX6_wanted 5 = .ok (.aload_n 0, 1) := by decide +kernel
theorem dX6_wanted_6 : decode cX6_wanted 6 = .ok (.getfield 26, 3) := by decide +kernel
theorem dX6_wanted_9 : decode cX6_wanted 9 = .ok (.iload_n 1, 1) := by decide +kernel
theorem dX6_wanted_10 : decode cX6_wanted 10 = .ok (.iaload, 1) := by decide +kernel
theorem dX6_wanted_11 : decode cX6_wanted 11 = .ok (.if_icmp .ge 24, 3) := by decide +kernel
theorem dX6_wanted_14 : decode cX6_wanted 14 = .ok (.iload_n 2, 1) := by decide +kernel
theorem dX6_wanted_15 : decode cX6_wanted 15 = .ok (.iconst 1, 1) := by decide +kernel
theorem dX6_wanted_16 : decode cX6_wanted 16 = .ok (.aload_n 0, 1) := by decide +kernel
theorem dX6_wanted_17 : decode cX6_wanted 17 = .ok (.getfield 29, 3) := by decide +kernel
theorem dX6_wanted_20 : decode cX6_wanted 20 = .ok (.iconst 5, 1) := by decide +kernel
theorem dX6_wanted_21 : decode cX6_wanted 21 = .ok (.iload_n 1, 1) := by decide +kernel
theorem dX6_wanted_22 : decode cX6_wanted 22 = .ok (.imul, 1) := by decide +kernel
theorem dX6_wanted_23 : decode cX6_wanted 23 = .ok (.iload_n 3, 1) := by decide +kernel
theorem dX6_wanted_24 : decode cX6_wanted 24 = .ok (.iadd, 1) := by decide +kernel
theorem dX6_wanted_25 : decode cX6_wanted 25 = .ok (.iaload, 1) := by decide +kernel
theorem dX6_wanted_26 : decode cX6_wanted 26 = .ok (.ishl, 1) := by decide +kernel
theorem dX6_wanted_27 : decode cX6_wanted 27 = .ok (.ior, 1) := by decide +kernel
theorem dX6_wanted_28 : decode cX6_wanted 28 = .ok (.istore_n 2, 1) := by decide +kernel
theorem dX6_wanted_29 : decode cX6_wanted 29 = .ok (.iinc 3 1, 3) := by decide +kernel
theorem dX6_wanted_32 : decode cX6_wanted 32 = .ok (.goto (-28), 3) := by decide +kernel
theorem dX6_wanted_35 : decode cX6_wanted 35 = .ok (.iload_n 2, 1) := by decide +kernel
theorem dX6_wanted_36 : decode cX6_wanted 36 = .ok (.ireturn, 1) := by decide +kernel
theorem dX6_line_0 : decode cX6_line 0 = .ok (.aload_n 0, 1) := by decide +kernel
theorem dX6_line_1 : decode cX6_line 1 = .ok (.iconst 0, 1) := by decide +kernel
theorem dX6_line_2 : decode cX6_line 2 = .ok (.putfield 59, 3) := by decide +kernel
theorem dX6_line_5 : decode cX6_line 5 = .ok (.aload_n 0, 1) := by decide +kernel
theorem dX6_line_6 : decode cX6_line 6 = .ok (.iload_n 1, 1) := by decide +kernel
theorem dX6_line_7 : decode cX6_line 7 = .ok (.invokevirtual 108, 3) := by decide +kernel
theorem dX6_line_10 : decode cX6_line 10 = .ok (.ifCond .eq 10, 3) := by decide +kernel
theorem dX6_line_13 : decode cX6_line 13 = .ok (.iload_n 2, 1) := by decide +kernel
theorem dX6_line_14 : decode cX6_line 14 = .ok (.invokestatic 90, 3) := by decide +kernel
theorem dX6_line_17 : decode cX6_line 17 = .ok (.ifCond .ne 9, 3) := by decide +kernel
theorem dX6_line_20 : decode cX6_line 20 = .ok (.aload_n 0, 1) := by decide +kernel
theorem dX6_line_21 : decode cX6_line 21 = .ok (.iconst 1, 1) := by decide +kernel
theorem dX6_line_22 : decode cX6_line 22 = .ok (.invokevirtual 94, 3) := by decide +kernel
theorem dX6_line_25 : decode cX6_line 25 = .ok (.ireturn, 1) := by decide +kernel
theorem dX6_line_26 : decode cX6_line 26 = .ok (.iload_n 3, 1) := by decide +kernel
theorem dX6_line_27 : decode cX6_line 27 = .ok (.iconst 1, 1) := by decide +kernel
theorem dX6_line_28 : decode cX6_line 28 = .ok (.bipush 99, 2) := by decide +kernel
theorem dX6_line_30 : decode cX6_line 30 = .ok (.invokestatic 62, 3) := by decide +kernel
theorem dX6_line_33 : decode cX6_line 33 = .ok (.ifCond .ne 9, 3) := by decide +kernel
theorem dX6_line_36 : decode cX6_line 36 = .ok (.aload_n 0, 1) := by decide +kernel
theorem dX6_line_37 : decode cX6_line 37 = .ok (.iconst 2, 1) := by decide +kernel
theorem dX6_line_38 : decode cX6_line 38 = .ok (.invokevirtual 94, 3) := by decide +kernel
theorem dX6_line_41 : decode cX6_line 41 = .ok (.ireturn, 1) := by decide +kernel
theorem dX6_line_42 : decode cX6_line 42 = .ok (.aload_n 0, 1) := by decide +kernel
theorem dX6_line_43 : decode cX6_line 43 = .ok (.getfield 20, 3) := by decide +kernel
theorem dX6_line_46 : decode cX6_line 46 = .ok (.iload_n 1, 1) := by decide +kernel
theorem dX6_line_47 : decode cX6_line 47 = .ok (.iaload, 1) := by decide +kernel
theorem dX6_line_48 : decode cX6_line 48 = .ok (.ifCond .ne 49, 3) := by decide +kernel
theorem dX6_line_51 : decode cX6_line 51 = .ok (.aload_n 0, 1) := by decide +kernel
theorem dX6_line_52 : decode cX6_line 52 = .ok (.getfield 26, 3) := by decide +kernel
theorem dX6_line_55 : decode cX6_line 55 = .ok (.iload_n 1, 1) := by decide +kernel
theorem dX6_line_56 : decode cX6_line 56 = .ok (.iaload, 1) := by decide +kernel
theorem dX6_line_57 : decode cX6_line 57 = .ok (.iconst 5, 1) := by decide +kernel
theorem dX6_line_58 : decode cX6_line 58 = .ok (.if_icmp .eq 39, 3) := by decide +kernel
theorem dX6_line_61 : decode cX6_line 61 = .ok (.aload_n 0, 1) := by decide +kernel
theorem dX6_line_62 : decode cX6_line 62 = .ok (.getfield 26, 3) := by decide +kernel
theorem dX6_line_65 : decode cX6_line 65 = .ok (.iload_n 1, 1) := by decide +kernel
theorem dX6_line_66 : decode cX6_line 66 = .ok (.iaload, 1) := by decide +kernel
theorem dX6_line_67 : decode cX6_line 67 = .ok (.aload_n 0, 1) := by decide +kernel
theorem dX6_line_68 : decode cX6_line 68 = .ok (.getfield 7, 3) := by decide +kernel
theorem dX6_line_71 : decode cX6_line 71 = .ok (.if_icmp .ge 26, 3) := by decide +kernel
theorem dX6_line_74 : decode cX6_line 74 = .ok (.aload_n 0, 1) := by decide +kernel
theorem dX6_line_75 : decode cX6_line 75 = .ok (.iload_n 1, 1) := by decide +kernel
theorem dX6_line_76 : decode cX6_line 76 = .ok (.invokevirtual 111, 3) := by decide +kernel
theorem dX6_line_79 : decode cX6_line 79 = .ok (.iload_n 2, 1) := by decide +kernel
theorem dX6_line_80 : decode cX6_line 80 = .ok (.ishr, 1) := by decide +kernel
theorem dX6_line_81 : decode cX6_line 81 = .ok (.iconst 1, 1) := by decide +kernel
theorem dX6_line_82 : decode cX6_line 82 = .ok (.iand, 1) := by decide +kernel
theorem dX6_line_83 : decode cX6_line 83 = .ok (.iconst 1, 1) := by decide +kernel
theorem dX6_line_84 : decode cX6_line 84 = .ok (.if_icmp .eq 13, 3) := by decide +kernel
theorem dX6_line_87 : decode cX6_line 87 = .ok (.aload_n 0, 1) := by decide +kernel
theorem dX6_line_88 : decode cX6_line 88 = .ok (.getfield 13, 3) := by decide +kernel
theorem dX6_line_91 : decode cX6_line 91 = .ok (.iload_n 2, 1) := by decide +kernel
theorem dX6_line_92 : decode cX6_line 92 = .ok (.iaload, 1) := by decide +kernel
theorem dX6_line_93 : decode cX6_line 93 = .ok (.iconst (-1), 1) := by decide +kernel
theorem dX6_line_94 : decode cX6_line 94 = .ok (.if_icmp .ne 9, 3) := by decide +kernel
theorem dX6_line_97 : decode cX6_line 97 = .ok (.aload_n 0, 1) := by decide +kernel
theorem dX6_line_98 : decode cX6_line 98 = .ok (.iconst 3, 1) := by decide +kernel
theorem dX6_line_99 : decode cX6_line 99 = .ok (.invokevirtual 94, 3) := by decide +kernel
theorem dX6_line_102 : decode cX6_line 102 = .ok (.ireturn, 1) := by decide +kernel
theorem dX6_line_103 : decode cX6_line 103 = .ok (.aload_n 0, 1) := by decide +kernel
theorem dX6_line_104 : decode cX6_line 104 = .ok (.getfield 29, 3) := by decide +kernel
theorem dX6_line_107 : decode cX6_line 107 = .ok (.iconst 5, 1) := by decide +kernel
theorem dX6_line_108 : decode cX6_line 108 = .ok (.iload_n 1, 1) := by decide +kernel
theorem dX6_line_109 : decode cX6_line 109 = .ok (.imul, 1) := by decide +kernel
theorem dX6_line_110 : decode cX6_line 110 = .ok (.aload_n 0, 1) := by decide +kernel
theorem dX6_line_111 : decode cX6_line 111 = .ok (.getfield 26, 3) := by decide +kernel
theorem dX6_line_114 : decode cX6_line 114 = .ok (.iload_n 1, 1) := by decide +kernel
theorem dX6_line_115 : decode cX6_line 115 = .ok (.iaload, 1) := by decide +kernel
theorem dX6_line_116 : decode cX6_line 116 = .ok (.iadd, 1) := by decide +kernel
theorem dX6_line_117 : decode cX6_line 117 = .ok (.iload_n 2, 1) := by decide +kernel
theorem dX6_line_118 : decode cX6_line 118 = .ok (.iastore, 1) := by decide +kernel
theorem dX6_line_119 : decode cX6_line 119 = .ok (.aload_n 0, 1) := by decide +kernel
theorem dX6_line_120 : decode cX6_line 120 = .ok (.getfield 32, 3) := by decide +kernel
theorem dX6_line_123 : decode cX6_line 123 = .ok (.iconst 5, 1) := by decide +kernel
theorem dX6_line_124 : decode cX6_line 124 = .ok (.iload_n 1, 1) := by decide +kernel
theorem dX6_line_125 : decode cX6_line 125 = .ok (.imul, 1) := by decide +kernel
theorem dX6_line_126 : decode cX6_line 126 = .ok (.aload_n 0, 1) := by decide +kernel
theorem dX6_line_127 : decode cX6_line 127 = .ok (.getfield 26, 3) := by decide +kernel
theorem dX6_line_130 : decode cX6_line 130 = .ok (.iload_n 1, 1) := by decide +kernel
theorem dX6_line_131 : decode cX6_line 131 = .ok (.iaload, 1) := by decide +kernel
theorem dX6_line_132 : decode cX6_line 132 = .ok (.iadd, 1) := by decide +kernel
theorem dX6_line_133 : decode cX6_line 133 = .ok (.iload_n 3, 1) := by decide +kernel
theorem dX6_line_134 : decode cX6_line 134 = .ok (.iastore, 1) := by decide +kernel
theorem dX6_line_135 : decode cX6_line 135 = .ok (.aload_n 0, 1) := by decide +kernel
theorem dX6_line_136 : decode cX6_line 136 = .ok (.getfield 26, 3) := by decide +kernel
theorem dX6_line_139 : decode cX6_line 139 = .ok (.iload_n 1, 1) := by decide +kernel
theorem dX6_line_140 : decode cX6_line 140 = .ok (.dup2, 1) := by decide +kernel
theorem dX6_line_141 : decode cX6_line 141 = .ok (.iaload, 1) := by decide +kernel
theorem dX6_line_142 : decode cX6_line 142 = .ok (.iconst 1, 1) := by decide +kernel
theorem dX6_line_143 : decode cX6_line 143 = .ok (.iadd, 1) := by decide +kernel
theorem dX6_line_144 : decode cX6_line 144 = .ok (.iastore, 1) := by decide +kernel
theorem dX6_line_145 : decode cX6_line 145 = .ok (.aload_n 0, 1) := by decide +kernel
theorem dX6_line_146 : decode cX6_line 146 = .ok (.getfield 26, 3) := by decide +kernel
theorem dX6_line_149 : decode cX6_line 149 = .ok (.iload_n 1, 1) := by decide +kernel
theorem dX6_line_150 : decode cX6_line 150 = .ok (.iaload, 1) := by decide +kernel
theorem dX6_line_151 : decode cX6_line 151 = .ok (.ireturn, 1) := by decide +kernel
theorem dX6_orders_0 : decode cX6_orders 0 = .ok (.aload_n 0, 1) := by decide +kernel
theorem dX6_orders_1 : decode cX6_orders 1 = .ok (.iconst 0, 1) := by decide +kernel
theorem dX6_orders_2 : decode cX6_orders 2 = .ok (.putfield 59, 3) := by decide +kernel
theorem dX6_orders_5 : decode cX6_orders 5 = .ok (.aload_n 0, 1) := by decide +kernel
theorem dX6_orders_6 : decode cX6_orders 6 = .ok (.getfield 66, 3) := by decide +kernel
theorem dX6_orders_9 : decode cX6_orders 9 = .ok (.ireturn, 1) := by decide +kernel
theorem dX6_stateOf_0 : decode cX6_stateOf 0 = .ok (.aload_n 0, 1) := by decide +kernel
theorem dX6_stateOf_1 : decode cX6_stateOf 1 = .ok (.iconst 0, 1) := by decide +kernel
theorem dX6_stateOf_2 : decode cX6_stateOf 2 = .ok (.putfield 59, 3) := by decide +kernel
theorem dX6_stateOf_5 : decode cX6_stateOf 5 = .ok (.aload_n 0, 1) := by decide +kernel
theorem dX6_stateOf_6 : decode cX6_stateOf 6 = .ok (.iload_n 1, 1) := by decide +kernel
theorem dX6_stateOf_7 : decode cX6_stateOf 7 = .ok (.invokevirtual 108, 3) := by decide +kernel
theorem dX6_stateOf_10 : decode cX6_stateOf 10 = .ok (.ifCond .eq 12, 3) := by decide +kernel
theorem dX6_stateOf_13 : decode cX6_stateOf 13 = .ok (.aload_n 0, 1) := by decide +kernel
theorem dX6_stateOf_14 : decode cX6_stateOf 14 = .ok (.getfield 20, 3) := by decide +kernel
theorem dX6_stateOf_17 : decode cX6_stateOf 17 = .ok (.iload_n 1, 1) := by decide +kernel
theorem dX6_stateOf_18 : decode cX6_stateOf 18 = .ok (.iaload, 1) := by decide +kernel
theorem dX6_stateOf_19 : decode cX6_stateOf 19 = .ok (.goto 8, 3) := by decide +kernel
theorem dX6_stateOf_22 : decode cX6_stateOf 22 = .ok (.aload_n 0, 1) := by decide +kernel
theorem dX6_stateOf_23 : decode cX6_stateOf 23 = .ok (.iconst 1, 1) := by decide +kernel
theorem dX6_stateOf_24 : decode cX6_stateOf 24 = .ok (.invokevirtual 94, 3) := by decide +kernel
theorem dX6_stateOf_27 : decode cX6_stateOf 27 = .ok (.ireturn, 1) := by decide +kernel
theorem dX6_lengthAlone_0 : decode cX6_lengthAlone 0 = .ok (.aload_n 0, 1) := by decide +kernel
theorem dX6_lengthAlone_1 : decode cX6_lengthAlone 1 = .ok (.iconst 0, 1) := by decide +kernel
theorem dX6_lengthAlone_2 : decode cX6_lengthAlone 2 = .ok (.putfield 59, 3) := by decide +kernel
theorem dX6_lengthAlone_5 : decode cX6_lengthAlone 5 = .ok (.aload_n 0, 1) := by decide +kernel
theorem dX6_lengthAlone_6 : decode cX6_lengthAlone 6 = .ok (.iload_n 1, 1) := by decide +kernel
theorem dX6_lengthAlone_7 : decode cX6_lengthAlone 7 = .ok (.invokevirtual 108, 3) := by decide +kernel
theorem dX6_lengthAlone_10 : decode cX6_lengthAlone 10 = .ok (.ifCond .eq 15, 3) := by decide +kernel
theorem dX6_lengthAlone_13 : decode cX6_lengthAlone 13 = .ok (.aload_n 0, 1) := by decide +kernel
theorem dX6_lengthAlone_14 : decode cX6_lengthAlone 14 = .ok (.aload_n 0, 1) := by decide +kernel
theorem dX6_lengthAlone_15 : decode cX6_lengthAlone 15 = .ok (.iload_n 1, 1) := by decide +kernel
theorem dX6_lengthAlone_16 : decode cX6_lengthAlone 16 = .ok (.invokevirtual 111, 3) := by decide +kernel
theorem dX6_lengthAlone_19 : decode cX6_lengthAlone 19 = .ok (.invokevirtual 114, 3) := by decide +kernel
theorem dX6_lengthAlone_22 : decode cX6_lengthAlone 22 = .ok (.goto 8, 3) := by decide +kernel
theorem dX6_lengthAlone_25 : decode cX6_lengthAlone 25 = .ok (.aload_n 0, 1) := by decide +kernel
theorem dX6_lengthAlone_26 : decode cX6_lengthAlone 26 = .ok (.iconst 1, 1) := by decide +kernel
theorem dX6_lengthAlone_27 : decode cX6_lengthAlone 27 = .ok (.invokevirtual 94, 3) := by decide +kernel
theorem dX6_lengthAlone_30 : decode cX6_lengthAlone 30 = .ok (.ireturn, 1) := by decide +kernel
theorem dX6_setCapacity_0 : decode cX6_setCapacity 0 = .ok (.aload_n 0, 1) := by decide +kernel
theorem dX6_setCapacity_1 : decode cX6_setCapacity 1 = .ok (.iconst 0, 1) := by decide +kernel
theorem dX6_setCapacity_2 : decode cX6_setCapacity 2 = .ok (.putfield 59, 3) := by decide +kernel
theorem dX6_setCapacity_5 : decode cX6_setCapacity 5 = .ok (.iload_n 1, 1) := by decide +kernel
theorem dX6_setCapacity_6 : decode cX6_setCapacity 6 = .ok (.iconst 1, 1) := by decide +kernel
theorem dX6_setCapacity_7 : decode cX6_setCapacity 7 = .ok (.bipush 9, 2) := by decide +kernel
theorem dX6_setCapacity_9 : decode cX6_setCapacity 9 = .ok (.invokestatic 62, 3) := by decide +kernel
theorem dX6_setCapacity_12 : decode cX6_setCapacity 12 = .ok (.ifCond .ne 9, 3) := by decide +kernel
theorem dX6_setCapacity_15 : decode cX6_setCapacity 15 = .ok (.aload_n 0, 1) := by decide +kernel
theorem dX6_setCapacity_16 : decode cX6_setCapacity 16 = .ok (.iconst 1, 1) := by decide +kernel
theorem dX6_setCapacity_17 : decode cX6_setCapacity 17 = .ok (.invokevirtual 94, 3) := by decide +kernel
theorem dX6_setCapacity_20 : decode cX6_setCapacity 20 = .ok (.ireturn, 1) := by decide +kernel
theorem dX6_setCapacity_21 : decode cX6_setCapacity 21 = .ok (.aload_n 0, 1) := by decide +kernel
theorem dX6_setCapacity_22 : decode cX6_setCapacity 22 = .ok (.getfield 69, 3) := by decide +kernel
theorem dX6_setCapacity_25 : decode cX6_setCapacity 25 = .ok (.ifCond .ne 7, 3) := by decide +kernel
theorem dX6_setCapacity_28 : decode cX6_setCapacity 28 = .ok (.iconst 1, 1) := by decide +kernel
theorem dX6_setCapacity_29 : decode cX6_setCapacity 29 = .ok (.goto 4, 3) := by decide +kernel
theorem dX6_setCapacity_32 : decode cX6_setCapacity 32 = .ok (.iconst 0, 1) := by decide +kernel
theorem dX6_setCapacity_33 : decode cX6_setCapacity 33 = .ok (.istore_n 2, 1) := by decide +kernel
theorem dX6_setCapacity_34 : decode cX6_setCapacity 34 = .ok (.iconst 0, 1) := by decide +kernel
theorem dX6_setCapacity_35 : decode cX6_setCapacity 35 = .ok (.istore_n 3, 1) := by decide +kernel
theorem dX6_setCapacity_36 : decode cX6_setCapacity 36 = .ok (.iload_n 3, 1) := by decide +kernel
theorem dX6_setCapacity_37 : decode cX6_setCapacity 37 = .ok (.aload_n 0, 1) := by decide +kernel
theorem dX6_setCapacity_38 : decode cX6_setCapacity 38 = .ok (.getfield 66, 3) := by decide +kernel
theorem dX6_setCapacity_41 : decode cX6_setCapacity 41 = .ok (.if_icmp .ge 39, 3) := by decide +kernel
theorem dX6_setCapacity_44 : decode cX6_setCapacity 44 = .ok (.iload_n 2, 1) := by decide +kernel
theorem dX6_setCapacity_45 : decode cX6_setCapacity 45 = .ok (.ifCond .eq 27, 3) := by decide +kernel
theorem dX6_setCapacity_48 : decode cX6_setCapacity 48 = .ok (.aload_n 0, 1) := by decide +kernel
theorem dX6_setCapacity_49 : decode cX6_setCapacity 49 = .ok (.getfield 20, 3) := by decide +kernel
theorem dX6_setCapacity_52 : decode cX6_setCapacity 52 = .ok (.iload_n 3, 1) := by decide +kernel
theorem dX6_setCapacity_53 : decode cX6_setCapacity 53 = .ok (.iaload, 1) := by decide +kernel
theorem dX6_setCapacity_54 : decode cX6_setCapacity 54 = .ok (.iconst 2, 1) := by decide +kernel
theorem dX6_setCapacity_55 : decode cX6_setCapacity 55 = .ok (.if_icmp .eq 13, 3) := by decide +kernel
theorem dX6_setCapacity_58 : decode cX6_setCapacity 58 = .ok (.aload_n 0, 1) := by decide +kernel
theorem dX6_setCapacity_59 : decode cX6_setCapacity 59 = .ok (.getfield 26, 3) := by decide +kernel
theorem dX6_setCapacity_62 : decode cX6_setCapacity 62 = .ok (.iload_n 3, 1) := by decide +kernel
theorem dX6_setCapacity_63 : decode cX6_setCapacity 63 = .ok (.iaload, 1) := by decide +kernel
theorem dX6_setCapacity_64 : decode cX6_setCapacity 64 = .ok (.iload_n 1, 1) := by decide +kernel
theorem dX6_setCapacity_65 : decode cX6_setCapacity 65 = .ok (.if_icmp .gt 7, 3) := by decide +kernel
theorem dX6_setCapacity_68 : decode cX6_setCapacity 68 = .ok (.iconst 1, 1) := by decide +kernel
theorem dX6_setCapacity_69 : decode cX6_setCapacity 69 = .ok (.goto 4, 3) := by decide +kernel
theorem dX6_setCapacity_72 : decode cX6_setCapacity 72 = .ok (.iconst 0, 1) := by decide +kernel
theorem dX6_setCapacity_73 : decode cX6_setCapacity 73 = .ok (.istore_n 2, 1) := by decide +kernel
theorem dX6_setCapacity_74 : decode cX6_setCapacity 74 = .ok (.iinc 3 1, 3) := by decide +kernel
theorem dX6_setCapacity_77 : decode cX6_setCapacity 77 = .ok (.goto (-41), 3) := by decide +kernel
theorem dX6_setCapacity_80 : decode cX6_setCapacity 80 = .ok (.iload_n 2, 1) := by decide +kernel
theorem dX6_setCapacity_81 : decode cX6_setCapacity 81 = .ok (.ifCond .ne 9, 3) := by decide +kernel
theorem dX6_setCapacity_84 : decode cX6_setCapacity 84 = .ok (.aload_n 0, 1) := by decide +kernel
theorem dX6_setCapacity_85 : decode cX6_setCapacity 85 = .ok (.iconst 2, 1) := by decide +kernel
theorem dX6_setCapacity_86 : decode cX6_setCapacity 86 = .ok (.invokevirtual 94, 3) := by decide +kernel
theorem dX6_setCapacity_89 : decode cX6_setCapacity 89 = .ok (.ireturn, 1) := by decide +kernel
theorem dX6_setCapacity_90 : decode cX6_setCapacity 90 = .ok (.aload_n 0, 1) := by decide +kernel
theorem dX6_setCapacity_91 : decode cX6_setCapacity 91 = .ok (.getfield 7, 3) := by decide +kernel
theorem dX6_setCapacity_94 : decode cX6_setCapacity 94 = .ok (.istore_n 3, 1) := by decide +kernel
theorem dX6_setCapacity_95 : decode cX6_setCapacity 95 = .ok (.aload_n 0, 1) := by decide +kernel
theorem dX6_setCapacity_96 : decode cX6_setCapacity 96 = .ok (.iload_n 1, 1) := by decide +kernel
theorem dX6_setCapacity_97 : decode cX6_setCapacity 97 = .ok (.putfield 7, 3) := by decide +kernel
theorem dX6_setCapacity_100 : decode cX6_setCapacity 100 = .ok (.iload_n 3, 1) := by decide +kernel
theorem dX6_setCapacity_101 : decode cX6_setCapacity 101 = .ok (.ireturn, 1) := by decide +kernel
theorem dX6_productsOf_0 : decode cX6_productsOf 0 = .ok (.iconst 0, 1) := by decide +kernel
theorem dX6_productsOf_1 : decode cX6_productsOf 1 = .ok (.istore_n 2, 1) := by decide +kernel
theorem dX6_productsOf_2 : decode cX6_productsOf 2 = .ok (.iconst 0, 1) := by decide +kernel
theorem dX6_productsOf_3 : decode cX6_productsOf 3 = .ok (.istore_n 3, 1) := by decide +kernel
theorem dX6_productsOf_4 : decode cX6_productsOf 4 = .ok (.iload_n 3, 1) := by decide +kernel
theorem dX6_productsOf_5 : decode cX6_productsOf 5 = .ok (.aload_n 0, 1) := by decide +kernel
theorem dX6_productsOf_6 : decode cX6_productsOf 6 = .ok (.getfield 66, 3) := by decide +kernel
theorem dX6_productsOf_9 : decode cX6_productsOf 9 = .ok (.if_icmp .ge 31, 3) := by decide +kernel
theorem dX6_productsOf_12 : decode cX6_productsOf 12 = .ok (.iload_n 2, 1) := by decide +kernel
theorem dX6_productsOf_13 : decode cX6_productsOf 13 = .ok (.aload_n 0, 1) := by decide +kernel
theorem dX6_productsOf_14 : decode cX6_productsOf 14 = .ok (.getfield 23, 3) := by decide +kernel
theorem dX6_productsOf_17 : decode cX6_productsOf 17 = .ok (.iload_n 3, 1) := by decide +kernel
theorem dX6_productsOf_18 : decode cX6_productsOf 18 = .ok (.iaload, 1) := by decide +kernel
theorem dX6_productsOf_19 : decode cX6_productsOf 19 = .ok (.iload_n 1, 1) := by decide +kernel
theorem dX6_productsOf_20 : decode cX6_productsOf 20 = .ok (.if_icmp .ne 11, 3) := by decide +kernel
theorem dX6_productsOf_23 : decode cX6_productsOf 23 = .ok (.aload_n 0, 1) := by decide +kernel
theorem dX6_productsOf_24 : decode cX6_productsOf 24 = .ok (.iload_n 3, 1) := by decide +kernel
theorem dX6_productsOf_25 : decode cX6_productsOf 25 = .ok (.invokevirtual 111, 3) := by decide +kernel
theorem dX6_productsOf_28 : decode cX6_productsOf 28 = .ok (.goto 4, 3) := by decide +kernel
theorem dX6_productsOf_31 : decode cX6_productsOf 31 = .ok (.iconst 0, 1) := by decide +kernel
theorem dX6_productsOf_32 : decode cX6_productsOf 32 = .ok (.ior, 1) := by decide +kernel
theorem dX6_productsOf_33 : decode cX6_productsOf 33 = .ok (.istore_n 2, 1) := by decide +kernel
theorem dX6_productsOf_34 : decode cX6_productsOf 34 = .ok (.iinc 3 1, 3) := by decide +kernel
theorem dX6_productsOf_37 : decode cX6_productsOf 37 = .ok (.goto (-33), 3) := by decide +kernel
theorem dX6_productsOf_40 : decode cX6_productsOf 40 = .ok (.iload_n 2, 1) := by decide +kernel
theorem dX6_productsOf_41 : decode cX6_productsOf 41 = .ok (.ireturn, 1) := by decide +kernel
theorem dX6_countLines_0 : decode cX6_countLines 0 = .ok (.iconst 0, 1) := by decide +kernel
theorem dX6_countLines_1 : decode cX6_countLines 1 = .ok (.istore_n 2, 1) := by decide +kernel
theorem dX6_countLines_2 : decode cX6_countLines 2 = .ok (.iconst 0, 1) := by decide +kernel
theorem dX6_countLines_3 : decode cX6_countLines 3 = .ok (.istore_n 3, 1) := by decide +kernel
theorem dX6_countLines_4 : decode cX6_countLines 4 = .ok (.iload_n 3, 1) := by decide +kernel
theorem dX6_countLines_5 : decode cX6_countLines 5 = .ok (.aload_n 0, 1) := by decide +kernel
theorem dX6_countLines_6 : decode cX6_countLines 6 = .ok (.getfield 66, 3) := by decide +kernel
theorem dX6_countLines_9 : decode cX6_countLines 9 = .ok (.if_icmp .ge 32, 3) := by decide +kernel
theorem dX6_countLines_12 : decode cX6_countLines 12 = .ok (.iload_n 2, 1) := by decide +kernel
theorem dX6_countLines_13 : decode cX6_countLines 13 = .ok (.aload_n 0, 1) := by decide +kernel
theorem dX6_countLines_14 : decode cX6_countLines 14 = .ok (.getfield 23, 3) := by decide +kernel
theorem dX6_countLines_17 : decode cX6_countLines 17 = .ok (.iload_n 3, 1) := by decide +kernel
theorem dX6_countLines_18 : decode cX6_countLines 18 = .ok (.iaload, 1) := by decide +kernel
theorem dX6_countLines_19 : decode cX6_countLines 19 = .ok (.iload_n 1, 1) := by decide +kernel
theorem dX6_countLines_20 : decode cX6_countLines 20 = .ok (.if_icmp .ne 12, 3) := by decide +kernel
theorem dX6_countLines_23 : decode cX6_countLines 23 = .ok (.aload_n 0, 1) := by decide +kernel
theorem dX6_countLines_24 : decode cX6_countLines 24 = .ok (.getfield 26, 3) := by decide +kernel
theorem dX6_countLines_27 : decode cX6_countLines 27 = .ok (.iload_n 3, 1) := by decide +kernel
theorem dX6_countLines_28 : decode cX6_countLines 28 = .ok (.iaload, 1) := by decide +kernel
theorem dX6_countLines_29 : decode cX6_countLines 29 = .ok (.goto 4, 3) := by decide +kernel
theorem dX6_countLines_32 : decode cX6_countLines 32 = .ok (.iconst 0, 1) := by decide +kernel
theorem dX6_countLines_33 : decode cX6_countLines 33 = .ok (.iadd, 1) := by decide +kernel
theorem dX6_countLines_34 : decode cX6_countLines 34 = .ok (.istore_n 2, 1) := by decide +kernel
theorem dX6_countLines_35 : decode cX6_countLines 35 = .ok (.iinc 3 1, 3) := by decide +kernel
theorem dX6_countLines_38 : decode cX6_countLines 38 = .ok (.goto (-34), 3) := by decide +kernel
theorem dX6_countLines_41 : decode cX6_countLines 41 = .ok (.iload_n 2, 1) := by decide +kernel
theorem dX6_countLines_42 : decode cX6_countLines 42 = .ok (.ireturn, 1) := by decide +kernel
theorem dX6_closeUp_0 : decode cX6_closeUp 0 = .ok (.iconst 0, 1) := by decide +kernel
theorem dX6_closeUp_1 : decode cX6_closeUp 1 = .ok (.istore_n 2, 1) := by decide +kernel
theorem dX6_closeUp_2 : decode cX6_closeUp 2 = .ok (.iload_n 2, 1) := by decide +kernel
theorem dX6_closeUp_3 : decode cX6_closeUp 3 = .ok (.aload_n 0, 1) := by decide +kernel
theorem dX6_closeUp_4 : decode cX6_closeUp 4 = .ok (.getfield 66, 3) := by decide +kernel
theorem dX6_closeUp_7 : decode cX6_closeUp 7 = .ok (.if_icmp .ge 33, 3) := by decide +kernel
theorem dX6_closeUp_10 : decode cX6_closeUp 10 = .ok (.aload_n 0, 1) := by decide +kernel
theorem dX6_closeUp_11 : decode cX6_closeUp 11 = .ok (.getfield 23, 3) := by decide +kernel
theorem dX6_closeUp_14 : decode cX6_closeUp 14 = .ok (.iload_n 2, 1) := by decide +kernel
theorem dX6_closeUp_15 : decode cX6_closeUp 15 = .ok (.dup2, 1) := by decide +kernel
theorem dX6_closeUp_16 : decode cX6_closeUp 16 = .ok (.iaload, 1) := by decide +kernel
theorem dX6_closeUp_17 : decode cX6_closeUp 17 = .ok (.aload_n 0, 1) := by decide +kernel
theorem dX6_closeUp_18 : decode cX6_closeUp 18 = .ok (.getfield 23, 3) := by decide +kernel
theorem dX6_closeUp_21 : decode cX6_closeUp 21 = .ok (.iload_n 2, 1) := by decide +kernel
theorem dX6_closeUp_22 : decode cX6_closeUp 22 = .ok (.iaload, 1) := by decide +kernel
theorem dX6_closeUp_23 : decode cX6_closeUp 23 = .ok (.iload_n 1, 1) := by decide +kernel
theorem dX6_closeUp_24 : decode cX6_closeUp 24 = .ok (.if_icmp .le 7, 3) := by decide +kernel
theorem dX6_closeUp_27 : decode cX6_closeUp 27 = .ok (.iconst 1, 1) := by decide +kernel
theorem dX6_closeUp_28 : decode cX6_closeUp 28 = .ok (.goto 4, 3) := by decide +kernel
theorem dX6_closeUp_31 : decode cX6_closeUp 31 = .ok (.iconst 0, 1) := by decide +kernel
theorem dX6_closeUp_32 : decode cX6_closeUp 32 = .ok (.isub, 1) := by decide +kernel
theorem dX6_closeUp_33 : decode cX6_closeUp 33 = .ok (.iastore, 1) := by decide +kernel
theorem dX6_closeUp_34 : decode cX6_closeUp 34 = .ok (.iinc 2 1, 3) := by decide +kernel
theorem dX6_closeUp_37 : decode cX6_closeUp 37 = .ok (.goto (-35), 3) := by decide +kernel
theorem dX6_closeUp_40 : decode cX6_closeUp 40 = .ok (.aload_n 0, 1) := by decide +kernel
theorem dX6_closeUp_41 : decode cX6_closeUp 41 = .ok (.dup, 1) := by decide +kernel
theorem dX6_closeUp_42 : decode cX6_closeUp 42 = .ok (.getfield 69, 3) := by decide +kernel
theorem dX6_closeUp_45 : decode cX6_closeUp 45 = .ok (.iconst 1, 1) := by decide +kernel
theorem dX6_closeUp_46 : decode cX6_closeUp 46 = .ok (.isub, 1) := by decide +kernel
theorem dX6_closeUp_47 : decode cX6_closeUp 47 = .ok (.putfield 69, 3) := by decide +kernel
theorem dX6_closeUp_50 : decode cX6_closeUp 50 = .ok (.return_, 1) := by decide +kernel
theorem dX6_joins_0 : decode cX6_joins 0 = .ok (.iconst 0, 1) := by decide +kernel
theorem dX6_joins_1 : decode cX6_joins 1 = .ok (.istore_n 1, 1) := by decide +kernel
theorem dX6_joins_2 : decode cX6_joins 2 = .ok (.iconst (-1), 1) := by decide +kernel
theorem dX6_joins_3 : decode cX6_joins 3 = .ok (.istore_n 2, 1) := by decide +kernel
theorem dX6_joins_4 : decode cX6_joins 4 = .ok (.iconst (-1), 1) := by decide +kernel
theorem dX6_joins_5 : decode cX6_joins 5 = .ok (.istore_n 3, 1) := by decide +kernel
theorem dX6_joins_6 : decode cX6_joins 6 = .ok (.iconst 0, 1) := by decide +kernel
theorem dX6_joins_7 : decode cX6_joins 7 = .ok (.istore 4, 2) := by decide +kernel
theorem dX6_joins_9 : decode cX6_joins 9 = .ok (.iload 4, 2) := by decide +kernel
theorem dX6_joins_11 : decode cX6_joins 11 = .ok (.aload_n 0, 1) := by decide +kernel
theorem dX6_joins_12 : decode cX6_joins 12 = .ok (.getfield 69, 3) := by decide +kernel
theorem dX6_joins_15 : decode cX6_joins 15 = .ok (.if_icmp .ge 130, 3) := by decide +kernel
theorem dX6_joins_18 : decode cX6_joins 18 = .ok (.iload 4, 2) := by decide +kernel
theorem dX6_joins_20 : decode cX6_joins 20 = .ok (.iconst 1, 1) := by decide +kernel
theorem dX6_joins_21 : decode cX6_joins 21 = .ok (.iadd, 1) := by decide +kernel
theorem dX6_joins_22 : decode cX6_joins 22 = .ok (.istore 5, 2) := by decide +kernel
theorem dX6_joins_24 : decode cX6_joins 24 = .ok (.iload 5, 2) := by decide +kernel
theorem dX6_joins_26 : decode cX6_joins 26 = .ok (.aload_n 0, 1) := by decide +kernel
theorem dX6_joins_27 : decode cX6_joins 27 = .ok (.getfield 69, 3) := by decide +kernel
theorem dX6_joins_30 : decode cX6_joins 30 = .ok (.if_icmp .ge 109, 3) := by decide +kernel
theorem dX6_joins_33 : decode cX6_joins 33 = .ok (.aload_n 0, 1) := by decide +kernel
theorem dX6_joins_34 : decode cX6_joins 34 = .ok (.iload 4, 2) := by decide +kernel
theorem dX6_joins_36 : decode cX6_joins 36 = .ok (.invokevirtual 117, 3) := by decide +kernel
theorem dX6_joins_39 : decode cX6_joins 39 = .ok (.aload_n 0, 1) := by decide +kernel
theorem dX6_joins_40 : decode cX6_joins 40 = .ok (.iload 5, 2) := by decide +kernel
theorem dX6_joins_42 : decode cX6_joins 42 = .ok (.invokevirtual 117, 3) := by decide +kernel
theorem dX6_joins_45 : decode cX6_joins 45 = .ok (.iadd, 1) := by decide +kernel
theorem dX6_joins_46 : decode cX6_joins 46 = .ok (.aload_n 0, 1) := by decide +kernel
theorem dX6_joins_47 : decode cX6_joins 47 = .ok (.getfield 7, 3) := by decide +kernel
theorem dX6_joins_50 : decode cX6_joins 50 = .ok (.if_icmp .gt 83, 3) := by decide +kernel
theorem dX6_joins_53 : decode cX6_joins 53 = .ok (.aload_n 0, 1) := by decide +kernel
theorem dX6_joins_54 : decode cX6_joins 54 = .ok (.aload_n 0, 1) := by decide +kernel
theorem dX6_joins_55 : decode cX6_joins 55 = .ok (.iload 4, 2) := by decide +kernel
theorem dX6_joins_57 : decode cX6_joins 57 = .ok (.invokevirtual 120, 3) := by decide +kernel
theorem dX6_joins_60 : decode cX6_joins 60 = .ok (.invokevirtual 114, 3) := by decide +kernel
theorem dX6_joins_63 : decode cX6_joins 63 = .ok (.aload_n 0, 1) := by decide +kernel
theorem dX6_joins_64 : decode cX6_joins 64 = .ok (.aload_n 0, 1) := by decide +kernel
theorem dX6_joins_65 : decode cX6_joins 65 = .ok (.iload 5, 2) := by decide +kernel
theorem dX6_joins_67 : decode cX6_joins 67 = .ok (.invokevirtual 120, 3) := by decide +kernel
theorem dX6_joins_70 : decode cX6_joins 70 = .ok (.invokevirtual 114, 3) := by decide +kernel
theorem dX6_joins_73 : decode cX6_joins 73 = .ok (.iadd, 1) := by decide +kernel
theorem dX6_joins_74 : decode cX6_joins 74 = .ok (.aload_n 0, 1) := by decide +kernel
theorem dX6_joins_75 : decode cX6_joins 75 = .ok (.aload_n 0, 1) := by decide +kernel
theorem dX6_joins_76 : decode cX6_joins 76 = .ok (.iload 4, 2) := by decide +kernel
theorem dX6_joins_78 : decode cX6_joins 78 = .ok (.invokevirtual 120, 3) := by decide +kernel
theorem dX6_joins_81 : decode cX6_joins 81 = .ok (.aload_n 0, 1) := by decide +kernel
theorem dX6_joins_82 : decode cX6_joins 82 = .ok (.iload 5, 2) := by decide +kernel
theorem dX6_joins_84 : decode cX6_joins 84 = .ok (.invokevirtual 120, 3) := by decide +kernel
theorem dX6_joins_87 : decode cX6_joins 87 = .ok (.ior, 1) := by decide +kernel
theorem dX6_joins_88 : decode cX6_joins 88 = .ok (.invokevirtual 114, 3) := by decide +kernel
theorem dX6_joins_91 : decode cX6_joins 91 = .ok (.isub, 1) := by decide +kernel
theorem dX6_joins_92 : decode cX6_joins 92 = .ok (.istore 6, 2) := by decide +kernel
theorem dX6_joins_94 : decode cX6_joins 94 = .ok (.iload 6, 2) := by decide +kernel
theorem dX6_joins_96 : decode cX6_joins 96 = .ok (.iload_n 1, 1) := by decide +kernel
theorem dX6_joins_97 : decode cX6_joins 97 = .ok (.if_icmp .le 8, 3) := by decide +kernel
theorem dX6_joins_100 : decode cX6_joins 100 = .ok (.iload 4, 2) := by decide +kernel
theorem dX6_joins_102 : decode cX6_joins 102 = .ok (.goto 4, 3) := by decide +kernel
theorem dX6_joins_105 : decode cX6_joins 105 = .ok (.iload_n 2, 1) := by decide +kernel
theorem dX6_joins_106 : decode cX6_joins 106 = .ok (.istore_n 2, 1) := by decide +kernel
theorem dX6_joins_107 : decode cX6_joins 107 = .ok (.iload 6, 2) := by decide +kernel
theorem dX6_joins_109 : decode cX6_joins 109 = .ok (.iload_n 1, 1) := by decide +kernel
theorem dX6_joins_110 : decode cX6_joins 110 = .ok (.if_icmp .le 8, 3) := by decide +kernel
theorem dX6_joins_113 : decode cX6_joins 113 = .ok (.iload 5, 2) := by decide +kernel
theorem dX6_joins_115 : decode cX6_joins 115 = .ok (.goto 4, 3) := by decide +kernel
theorem dX6_joins_118 : decode cX6_joins 118 = .ok (.iload_n 3, 1) := by decide +kernel
theorem dX6_joins_119 : decode cX6_joins 119 = .ok (.istore_n 3, 1) := by decide +kernel
theorem dX6_joins_120 : decode cX6_joins 120 = .ok (.iload 6, 2) := by decide +kernel
theorem dX6_joins_122 : decode cX6_joins 122 = .ok (.iload_n 1, 1) := by decide +kernel
theorem dX6_joins_123 : decode cX6_joins 123 = .ok (.if_icmp .le 8, 3) := by decide +kernel
theorem dX6_joins_126 : decode cX6_joins 126 = .ok (.iload 6, 2) := by decide +kernel
theorem dX6_joins_128 : decode cX6_joins 128 = .ok (.goto 4, 3) := by decide +kernel
theorem dX6_joins_131 : decode cX6_joins 131 = .ok (.iload_n 1, 1) := by decide +kernel
theorem dX6_joins_132 : decode cX6_joins 132 = .ok (.istore_n 1, 1) := by decide +kernel
theorem dX6_joins_133 : decode cX6_joins 133 = .ok (.iinc 5 1, 3) := by decide +kernel
theorem dX6_joins_136 : decode cX6_joins 136 = .ok (.goto (-112), 3) := by decide +kernel
theorem dX6_joins_139 : decode cX6_joins 139 = .ok (.iinc 4 1, 3) := by decide +kernel
theorem dX6_joins_142 : decode cX6_joins 142 = .ok (.goto (-133), 3) := by decide +kernel
theorem dX6_joins_145 : decode cX6_joins 145 = .ok (.iconst 0, 1) := by decide +kernel
theorem dX6_joins_146 : decode cX6_joins 146 = .ok (.istore 4, 2) := by decide +kernel
theorem dX6_joins_148 : decode cX6_joins 148 = .ok (.iload 4, 2) := by decide +kernel
theorem dX6_joins_150 : decode cX6_joins 150 = .ok (.aload_n 0, 1) := by decide +kernel
theorem dX6_joins_151 : decode cX6_joins 151 = .ok (.getfield 66, 3) := by decide +kernel
theorem dX6_joins_154 : decode cX6_joins 154 = .ok (.if_icmp .ge 42, 3) := by decide +kernel
theorem dX6_joins_157 : decode cX6_joins 157 = .ok (.iload_n 1, 1) := by decide +kernel
theorem dX6_joins_158 : decode cX6_joins 158 = .ok (.ifCond .le 38, 3) := by decide +kernel
theorem dX6_joins_161 : decode cX6_joins 161 = .ok (.aload_n 0, 1) := by decide +kernel
theorem dX6_joins_162 : decode cX6_joins 162 = .ok (.getfield 23, 3) := by decide +kernel
theorem dX6_joins_165 : decode cX6_joins 165 = .ok (.iload 4, 2) := by decide +kernel
theorem dX6_joins_167 : decode cX6_joins 167 = .ok (.aload_n 0, 1) := by decide +kernel
theorem dX6_joins_168 : decode cX6_joins 168 = .ok (.getfield 23, 3) := by decide +kernel
theorem dX6_joins_171 : decode cX6_joins 171 = .ok (.iload 4, 2) := by decide +kernel
theorem dX6_joins_173 : decode cX6_joins 173 = .ok (.iaload, 1) := by decide +kernel
theorem dX6_joins_174 : decode cX6_joins 174 = .ok (.iload_n 3, 1) := by decide +kernel
theorem dX6_joins_175 : decode cX6_joins 175 = .ok (.if_icmp .ne 7, 3) := by decide +kernel
theorem dX6_joins_178 : decode cX6_joins 178 = .ok (.iload_n 2, 1) := by decide +kernel
theorem dX6_joins_179 : decode cX6_joins 179 = .ok (.goto 10, 3) := by decide +kernel
theorem dX6_joins_182 : decode cX6_joins 182 = .ok (.aload_n 0, 1) := by decide +kernel
theorem dX6_joins_183 : decode cX6_joins 183 = .ok (.getfield 23, 3) := by decide +kernel
theorem dX6_joins_186 : decode cX6_joins 186 = .ok (.iload 4, 2) := by decide +kernel
theorem dX6_joins_188 : decode cX6_joins 188 = .ok (.iaload, 1) := by decide +kernel
theorem dX6_joins_189 : decode cX6_joins 189 = .ok (.iastore, 1) := by decide +kernel
theorem dX6_joins_190 : decode cX6_joins 190 = .ok (.iinc 4 1, 3) := by decide +kernel
theorem dX6_joins_193 : decode cX6_joins 193 = .ok (.goto (-45), 3) := by decide +kernel
theorem dX6_joins_196 : decode cX6_joins 196 = .ok (.iload_n 1, 1) := by decide +kernel
theorem dX6_joins_197 : decode cX6_joins 197 = .ok (.ifCond .le 8, 3) := by decide +kernel
theorem dX6_joins_200 : decode cX6_joins 200 = .ok (.aload_n 0, 1) := by decide +kernel
theorem dX6_joins_201 : decode cX6_joins 201 = .ok (.iload_n 3, 1) := by decide +kernel
theorem dX6_joins_202 : decode cX6_joins 202 = .ok (.invokevirtual 123, 3) := by decide +kernel
theorem dX6_joins_205 : decode cX6_joins 205 = .ok (.iload_n 1, 1) := by decide +kernel
theorem dX6_joins_206 : decode cX6_joins 206 = .ok (.ifCond .le 7, 3) := by decide +kernel
theorem dX6_joins_209 : decode cX6_joins 209 = .ok (.iconst 1, 1) := by decide +kernel
theorem dX6_joins_210 : decode cX6_joins 210 = .ok (.goto 4, 3) := by decide +kernel
theorem dX6_joins_213 : decode cX6_joins 213 = .ok (.iconst 0, 1) := by decide +kernel
theorem dX6_joins_214 : decode cX6_joins 214 = .ok (.ireturn, 1) := by decide +kernel
theorem dX6_planWave_0 : decode cX6_planWave 0 = .ok (.aload_n 0, 1) := by decide +kernel
theorem dX6_planWave_1 : decode cX6_planWave 1 = .ok (.iconst 0, 1) := by decide +kernel
theorem dX6_planWave_2 : decode cX6_planWave 2 = .ok (.putfield 59, 3) := by decide +kernel
theorem dX6_planWave_5 : decode cX6_planWave 5 = .ok (.iload_n 1, 1) := by decide +kernel
theorem dX6_planWave_6 : decode cX6_planWave 6 = .ok (.iconst 0, 1) := by decide +kernel
theorem dX6_planWave_7 : decode cX6_planWave 7 = .ok (.sipush 999, 3) := by decide +kernel
theorem dX6_planWave_10 : decode cX6_planWave 10 = .ok (.invokestatic 62, 3) := by decide +kernel
theorem dX6_planWave_13 : decode cX6_planWave 13 = .ok (.ifCond .ne 9, 3) := by decide +kernel
theorem dX6_planWave_16 : decode cX6_planWave 16 = .ok (.aload_n 0, 1) := by decide +kernel
theorem dX6_planWave_17 : decode cX6_planWave 17 = .ok (.iconst 1, 1) := by decide +kernel
theorem dX6_planWave_18 : decode cX6_planWave 18 = .ok (.invokevirtual 94, 3) := by decide +kernel
theorem dX6_planWave_21 : decode cX6_planWave 21 = .ok (.ireturn, 1) := by decide +kernel
theorem dX6_planWave_22 : decode cX6_planWave 22 = .ok (.iconst 0, 1) := by decide +kernel
theorem dX6_planWave_23 : decode cX6_planWave 23 = .ok (.istore_n 2, 1) := by decide +kernel
theorem dX6_planWave_24 : decode cX6_planWave 24 = .ok (.iconst 0, 1) := by decide +kernel
theorem dX6_planWave_25 : decode cX6_planWave 25 = .ok (.istore_n 3, 1) := by decide +kernel
theorem dX6_planWave_26 : decode cX6_planWave 26 = .ok (.iload_n 3, 1) := by decide +kernel
theorem dX6_planWave_27 : decode cX6_planWave 27 = .ok (.aload_n 0, 1) := by decide +kernel
theorem dX6_planWave_28 : decode cX6_planWave 28 = .ok (.getfield 66, 3) := by decide +kernel
theorem dX6_planWave_31 : decode cX6_planWave 31 = .ok (.if_icmp .ge 45, 3) := by decide +kernel
theorem dX6_planWave_34 : decode cX6_planWave 34 = .ok (.iload_n 2, 1) := by decide +kernel
theorem dX6_planWave_35 : decode cX6_planWave 35 = .ok (.aload_n 0, 1) := by decide +kernel
theorem dX6_planWave_36 : decode cX6_planWave 36 = .ok (.getfield 20, 3) := by decide +kernel
theorem dX6_planWave_39 : decode cX6_planWave 39 = .ok (.iload_n 3, 1) := by decide +kernel
theorem dX6_planWave_40 : decode cX6_planWave 40 = .ok (.iaload, 1) := by decide +kernel
theorem dX6_planWave_41 : decode cX6_planWave 41 = .ok (.ifCond .ne 26, 3) := by decide +kernel
theorem dX6_planWave_44 : decode cX6_planWave 44 = .ok (.aload_n 0, 1) := by decide +kernel
theorem dX6_planWave_45 : decode cX6_planWave 45 = .ok (.getfield 26, 3) := by decide +kernel
theorem dX6_planWave_48 : decode cX6_planWave 48 = .ok (.iload_n 3, 1) := by decide +kernel
theorem dX6_planWave_49 : decode cX6_planWave 49 = .ok (.iaload, 1) := by decide +kernel
theorem dX6_planWave_50 : decode cX6_planWave 50 = .ok (.ifCond .le 17, 3) := by decide +kernel
theorem dX6_planWave_53 : decode cX6_planWave 53 = .ok (.aload_n 0, 1) := by decide +kernel
theorem dX6_planWave_54 : decode cX6_planWave 54 = .ok (.getfield 17, 3) := by decide +kernel
theorem dX6_planWave_57 : decode cX6_planWave 57 = .ok (.iload_n 3, 1) := by decide +kernel
theorem dX6_planWave_58 : decode cX6_planWave 58 = .ok (.iaload, 1) := by decide +kernel
theorem dX6_planWave_59 : decode cX6_planWave 59 = .ok (.iload_n 1, 1) := by decide +kernel
theorem dX6_planWave_60 : decode cX6_planWave 60 = .ok (.if_icmp .gt 7, 3) := by decide +kernel
theorem dX6_planWave_63 : decode cX6_planWave 63 = .ok (.iconst 1, 1) := by decide +kernel
theorem dX6_planWave_64 : decode cX6_planWave 64 = .ok (.goto 4, 3) := by decide +kernel
theorem dX6_planWave_67 : decode cX6_planWave 67 = .ok (.iconst 0, 1) := by decide +kernel
theorem dX6_planWave_68 : decode cX6_planWave 68 = .ok (.iadd, 1) := by decide +kernel
theorem dX6_planWave_69 : decode cX6_planWave 69 = .ok (.istore_n 2, 1) := by decide +kernel
theorem dX6_planWave_70 : decode cX6_planWave 70 = .ok (.iinc 3 1, 3) := by decide +kernel
theorem dX6_planWave_73 : decode cX6_planWave 73 = .ok (.goto (-47), 3) := by decide +kernel
theorem dX6_planWave_76 : decode cX6_planWave 76 = .ok (.aload_n 0, 1) := by decide +kernel
theorem dX6_planWave_77 : decode cX6_planWave 77 = .ok (.getfield 69, 3) := by decide +kernel
theorem dX6_planWave_80 : decode cX6_planWave 80 = .ok (.ifCond .gt 7, 3) := by decide +kernel
theorem dX6_planWave_83 : decode cX6_planWave 83 = .ok (.iload_n 2, 1) := by decide +kernel
theorem dX6_planWave_84 : decode cX6_planWave 84 = .ok (.ifCond .ne 9, 3) := by decide +kernel
theorem dX6_planWave_87 : decode cX6_planWave 87 = .ok (.aload_n 0, 1) := by decide +kernel
theorem dX6_planWave_88 : decode cX6_planWave 88 = .ok (.iconst 2, 1) := by decide +kernel
theorem dX6_planWave_89 : decode cX6_planWave 89 = .ok (.invokevirtual 94, 3) := by decide +kernel
theorem dX6_planWave_92 : decode cX6_planWave 92 = .ok (.ireturn, 1) := by decide +kernel
theorem dX6_planWave_93 : decode cX6_planWave 93 = .ok (.iconst 0, 1) := by decide +kernel
theorem dX6_planWave_94 : decode cX6_planWave 94 = .ok (.istore_n 3, 1) := by decide +kernel
theorem dX6_planWave_95 : decode cX6_planWave 95 = .ok (.iload_n 3, 1) := by decide +kernel
theorem dX6_planWave_96 : decode cX6_planWave 96 = .ok (.aload_n 0, 1) := by decide +kernel
theorem dX6_planWave_97 : decode cX6_planWave 97 = .ok (.getfield 66, 3) := by decide +kernel
theorem dX6_planWave_100 : decode cX6_planWave 100 = .ok (.if_icmp .ge 64, 3) := by decide +kernel
theorem dX6_planWave_103 : decode cX6_planWave 103 = .ok (.aload_n 0, 1) := by decide +kernel
theorem dX6_planWave_104 : decode cX6_planWave 104 = .ok (.getfield 20, 3) := by decide +kernel
theorem dX6_planWave_107 : decode cX6_planWave 107 = .ok (.iload_n 3, 1) := by decide +kernel
theorem dX6_planWave_108 : decode cX6_planWave 108 = .ok (.iaload, 1) := by decide +kernel
theorem dX6_planWave_109 : decode cX6_planWave 109 = .ok (.ifCond .ne 49, 3) := by decide +kernel
theorem dX6_planWave_112 : decode cX6_planWave 112 = .ok (.aload_n 0, 1) := by decide +kernel
theorem dX6_planWave_113 : decode cX6_planWave 113 = .ok (.getfield 26, 3) := by decide +kernel
theorem dX6_planWave_116 : decode cX6_planWave 116 = .ok (.iload_n 3, 1) := by decide +kernel
theorem dX6_planWave_117 : decode cX6_planWave 117 = .ok (.iaload, 1) := by decide +kernel
theorem dX6_planWave_118 : decode cX6_planWave 118 = .ok (.ifCond .le 40, 3) := by decide +kernel
theorem dX6_planWave_121 : decode cX6_planWave 121 = .ok (.aload_n 0, 1) := by decide +kernel
theorem dX6_planWave_122 : decode cX6_planWave 122 = .ok (.getfield 17, 3) := by decide +kernel
theorem dX6_planWave_125 : decode cX6_planWave 125 = .ok (.iload_n 3, 1) := by decide +kernel
theorem dX6_planWave_126 : decode cX6_planWave 126 = .ok (.iaload, 1) := by decide +kernel
theorem dX6_planWave_127 : decode cX6_planWave 127 = .ok (.iload_n 1, 1) := by decide +kernel
theorem dX6_planWave_128 : decode cX6_planWave 128 = .ok (.if_icmp .gt 30, 3) := by decide +kernel
theorem dX6_planWave_131 : decode cX6_planWave 131 = .ok (.aload_n 0, 1) := by decide +kernel
theorem dX6_planWave_132 : decode cX6_planWave 132 = .ok (.getfield 20, 3) := by decide +kernel
theorem dX6_planWave_135 : decode cX6_planWave 135 = .ok (.iload_n 3, 1) := by decide +kernel
theorem dX6_planWave_136 : decode cX6_planWave 136 = .ok (.iconst 1, 1) := by decide +kernel
theorem dX6_planWave_137 : decode cX6_planWave 137 = .ok (.iastore, 1) := by decide +kernel
theorem dX6_planWave_138 : decode cX6_planWave 138 = .ok (.aload_n 0, 1) := by decide +kernel
theorem dX6_planWave_139 : decode cX6_planWave 139 = .ok (.getfield 23, 3) := by decide +kernel
theorem dX6_planWave_142 : decode cX6_planWave 142 = .ok (.iload_n 3, 1) := by decide +kernel
theorem dX6_planWave_143 : decode cX6_planWave 143 = .ok (.aload_n 0, 1) := by decide +kernel
theorem dX6_planWave_144 : decode cX6_planWave 144 = .ok (.getfield 69, 3) := by decide +kernel
theorem dX6_planWave_147 : decode cX6_planWave 147 = .ok (.iastore, 1) := by decide +kernel
theorem dX6_planWave_148 : decode cX6_planWave 148 = .ok (.aload_n 0, 1) := by decide +kernel
theorem dX6_planWave_149 : decode cX6_planWave 149 = .ok (.dup, 1) := by decide +kernel
theorem dX6_planWave_150 : decode cX6_planWave 150 = .ok (.getfield 69, 3) := by decide +kernel
theorem dX6_planWave_153 : decode cX6_planWave 153 = .ok (.iconst 1, 1) := by decide +kernel
theorem dX6_planWave_154 : decode cX6_planWave 154 = .ok (.iadd, 1) := by decide +kernel
theorem dX6_planWave_155 : decode cX6_planWave 155 = .ok (.putfield 69, 3) := by decide +kernel
theorem dX6_planWave_158 : decode cX6_planWave 158 = .ok (.iinc 3 1, 3) := by decide +kernel
theorem dX6_planWave_161 : decode cX6_planWave 161 = .ok (.goto (-66), 3) := by decide +kernel
theorem dX6_planWave_164 : decode cX6_planWave 164 = .ok (.iconst 1, 1) := by decide +kernel
theorem dX6_planWave_165 : decode cX6_planWave 165 = .ok (.istore_n 3, 1) := by decide +kernel
theorem dX6_planWave_166 : decode cX6_planWave 166 = .ok (.iload_n 3, 1) := by decide +kernel
theorem dX6_planWave_167 : decode cX6_planWave 167 = .ok (.ifCond .eq 11, 3) := by decide +kernel
theorem dX6_planWave_170 : decode cX6_planWave 170 = .ok (.aload_n 0, 1) := by decide +kernel
theorem dX6_planWave_171 : decode cX6_planWave 171 = .ok (.invokevirtual 126, 3) := by decide +kernel
theorem dX6_planWave_174 : decode cX6_planWave 174 = .ok (.istore_n 3, 1) := by decide +kernel
theorem dX6_planWave_175 : decode cX6_planWave 175 = .ok (.goto (-9), 3) := by decide +kernel
theorem dX6_planWave_178 : decode cX6_planWave 178 = .ok (.aload_n 0, 1) := by decide +kernel
theorem dX6_planWave_179 : decode cX6_planWave 179 = .ok (.getfield 69, 3) := by decide +kernel
theorem dX6_planWave_182 : decode cX6_planWave 182 = .ok (.ireturn, 1) := by decide +kernel
theorem dX6_pick_0 : decode cX6_pick 0 = .ok (.aload_n 0, 1) := by decide +kernel
theorem dX6_pick_1 : decode cX6_pick 1 = .ok (.iconst 0, 1) := by decide +kernel
theorem dX6_pick_2 : decode cX6_pick 2 = .ok (.putfield 59, 3) := by decide +kernel
theorem dX6_pick_5 : decode cX6_pick 5 = .ok (.aload_n 0, 1) := by decide +kernel
theorem dX6_pick_6 : decode cX6_pick 6 = .ok (.iload_n 1, 1) := by decide +kernel
theorem dX6_pick_7 : decode cX6_pick 7 = .ok (.invokevirtual 130, 3) := by decide +kernel
theorem dX6_pick_10 : decode cX6_pick 10 = .ok (.ifCond .ne 9, 3) := by decide +kernel
theorem dX6_pick_13 : decode cX6_pick 13 = .ok (.aload_n 0, 1) := by decide +kernel
theorem dX6_pick_14 : decode cX6_pick 14 = .ok (.iconst 1, 1) := by decide +kernel
theorem dX6_pick_15 : decode cX6_pick 15 = .ok (.invokevirtual 94, 3) := by decide +kernel
theorem dX6_pick_18 : decode cX6_pick 18 = .ok (.ireturn, 1) := by decide +kernel
theorem dX6_pick_19 : decode cX6_pick 19 = .ok (.aload_n 0, 1) := by decide +kernel
theorem dX6_pick_20 : decode cX6_pick 20 = .ok (.aload_n 0, 1) := by decide +kernel
theorem dX6_pick_21 : decode cX6_pick 21 = .ok (.iload_n 1, 1) := by decide +kernel
theorem dX6_pick_22 : decode cX6_pick 22 = .ok (.invokevirtual 120, 3) := by decide +kernel
theorem dX6_pick_25 : decode cX6_pick 25 = .ok (.invokevirtual 114, 3) := by decide +kernel
theorem dX6_pick_28 : decode cX6_pick 28 = .ok (.istore_n 2, 1) := by decide +kernel
theorem dX6_pick_29 : decode cX6_pick 29 = .ok (.iconst 0, 1) := by decide +kernel
theorem dX6_pick_30 : decode cX6_pick 30 = .ok (.istore_n 3, 1) := by decide +kernel
theorem dX6_pick_31 : decode cX6_pick 31 = .ok (.iload_n 3, 1) := by decide +kernel
theorem dX6_pick_32 : decode cX6_pick 32 = .ok (.aload_n 0, 1) := by decide +kernel
theorem dX6_pick_33 : decode cX6_pick 33 = .ok (.getfield 66, 3) := by decide +kernel
theorem dX6_pick_36 : decode cX6_pick 36 = .ok (.if_icmp .ge 52, 3) := by decide +kernel
theorem dX6_pick_39 : decode cX6_pick 39 = .ok (.aload_n 0, 1) := by decide +kernel
theorem dX6_pick_40 : decode cX6_pick 40 = .ok (.getfield 23, 3) := by decide +kernel
theorem dX6_pick_43 : decode cX6_pick 43 = .ok (.iload_n 3, 1) := by decide +kernel
theorem dX6_pick_44 : decode cX6_pick 44 = .ok (.iaload, 1) := by decide +kernel
theorem dX6_pick_45 : decode cX6_pick 45 = .ok (.iload_n 1, 1) := by decide +kernel
theorem dX6_pick_46 : decode cX6_pick 46 = .ok (.if_icmp .ne 36, 3) := by decide +kernel
theorem dX6_pick_49 : decode cX6_pick 49 = .ok (.aload_n 0, 1) := by decide +kernel
theorem dX6_pick_50 : decode cX6_pick 50 = .ok (.dup, 1) := by decide +kernel
theorem dX6_pick_51 : decode cX6_pick 51 = .ok (.getfield 133, 3) := by decide +kernel
theorem dX6_pick_54 : decode cX6_pick 54 = .ok (.aload_n 0, 1) := by decide +kernel
theorem dX6_pick_55 : decode cX6_pick 55 = .ok (.aload_n 0, 1) := by decide +kernel
theorem dX6_pick_56 : decode cX6_pick 56 = .ok (.iload_n 3, 1) := by decide +kernel
theorem dX6_pick_57 : decode cX6_pick 57 = .ok (.invokevirtual 111, 3) := by decide +kernel
theorem dX6_pick_60 : decode cX6_pick 60 = .ok (.invokevirtual 114, 3) := by decide +kernel
theorem dX6_pick_63 : decode cX6_pick 63 = .ok (.i2l, 1) := by decide +kernel
theorem dX6_pick_64 : decode cX6_pick 64 = .ok (.ladd, 1) := by decide +kernel
theorem dX6_pick_65 : decode cX6_pick 65 = .ok (.putfield 133, 3) := by decide +kernel
theorem dX6_pick_68 : decode cX6_pick 68 = .ok (.aload_n 0, 1) := by decide +kernel
theorem dX6_pick_69 : decode cX6_pick 69 = .ok (.getfield 20, 3) := by decide +kernel
theorem dX6_pick_72 : decode cX6_pick 72 = .ok (.iload_n 3, 1) := by decide +kernel
theorem dX6_pick_73 : decode cX6_pick 73 = .ok (.iconst 2, 1) := by decide +kernel
theorem dX6_pick_74 : decode cX6_pick 74 = .ok (.iastore, 1) := by decide +kernel
theorem dX6_pick_75 : decode cX6_pick 75 = .ok (.aload_n 0, 1) := by decide +kernel
theorem dX6_pick_76 : decode cX6_pick 76 = .ok (.getfield 23, 3) := by decide +kernel
theorem dX6_pick_79 : decode cX6_pick 79 = .ok (.iload_n 3, 1) := by decide +kernel
theorem dX6_pick_80 : decode cX6_pick 80 = .ok (.iconst (-1), 1) := by decide +kernel
theorem dX6_pick_81 : decode cX6_pick 81 = .ok (.iastore, 1) := by decide +kernel
theorem dX6_pick_82 : decode cX6_pick 82 = .ok (.iinc 3 1, 3) := by decide +kernel
theorem dX6_pick_85 : decode cX6_pick 85 = .ok (.goto (-54), 3) := by decide +kernel
theorem dX6_pick_88 : decode cX6_pick 88 = .ok (.aload_n 0, 1) := by decide +kernel
theorem dX6_pick_89 : decode cX6_pick 89 = .ok (.dup, 1) := by decide +kernel
theorem dX6_pick_90 : decode cX6_pick 90 = .ok (.getfield 137, 3) := by decide +kernel
theorem dX6_pick_93 : decode cX6_pick 93 = .ok (.iload_n 2, 1) := by decide +kernel
theorem dX6_pick_94 : decode cX6_pick 94 = .ok (.iadd, 1) := by decide +kernel
theorem dX6_pick_95 : decode cX6_pick 95 = .ok (.putfield 137, 3) := by decide +kernel
theorem dX6_pick_98 : decode cX6_pick 98 = .ok (.aload_n 0, 1) := by decide +kernel
theorem dX6_pick_99 : decode cX6_pick 99 = .ok (.iload_n 1, 1) := by decide +kernel
theorem dX6_pick_100 : decode cX6_pick 100 = .ok (.invokevirtual 123, 3) := by decide +kernel
theorem dX6_pick_103 : decode cX6_pick 103 = .ok (.iload_n 2, 1) := by decide +kernel
theorem dX6_pick_104 : decode cX6_pick 104 = .ok (.ireturn, 1) := by decide +kernel
theorem dX6_batches_0 : decode cX6_batches 0 = .ok (.aload_n 0, 1) := by decide +kernel
theorem dX6_batches_1 : decode cX6_batches 1 = .ok (.iconst 0, 1) := by decide +kernel
theorem dX6_batches_2 : decode cX6_batches 2 = .ok (.putfield 59, 3) := by decide +kernel
theorem dX6_batches_5 : decode cX6_batches 5 = .ok (.aload_n 0, 1) := by decide +kernel
theorem dX6_batches_6 : decode cX6_batches 6 = .ok (.getfield 69, 3) := by decide +kernel
theorem dX6_batches_9 : decode cX6_batches 9 = .ok (.ireturn, 1) := by decide +kernel
theorem dX6_batchOf_0 : decode cX6_batchOf 0 = .ok (.aload_n 0, 1) := by decide +kernel
theorem dX6_batchOf_1 : decode cX6_batchOf 1 = .ok (.iconst 0, 1) := by decide +kernel
theorem dX6_batchOf_2 : decode cX6_batchOf 2 = .ok (.putfield 59, 3) := by decide +kernel
theorem dX6_batchOf_5 : decode cX6_batchOf 5 = .ok (.aload_n 0, 1) := by decide +kernel
theorem dX6_batchOf_6 : decode cX6_batchOf 6 = .ok (.iload_n 1, 1) := by decide +kernel
theorem dX6_batchOf_7 : decode cX6_batchOf 7 = .ok (.invokevirtual 108, 3) := by decide +kernel
theorem dX6_batchOf_10 : decode cX6_batchOf 10 = .ok (.ifCond .eq 12, 3) := by decide +kernel
theorem dX6_batchOf_13 : decode cX6_batchOf 13 = .ok (.aload_n 0, 1) := by decide +kernel
theorem dX6_batchOf_14 : decode cX6_batchOf 14 = .ok (.getfield 23, 3) := by decide +kernel
theorem dX6_batchOf_17 : decode cX6_batchOf 17 = .ok (.iload_n 1, 1) := by decide +kernel
theorem dX6_batchOf_18 : decode cX6_batchOf 18 = .ok (.iaload, 1) := by decide +kernel
theorem dX6_batchOf_19 : decode cX6_batchOf 19 = .ok (.goto 8, 3) := by decide +kernel
theorem dX6_batchOf_22 : decode cX6_batchOf 22 = .ok (.aload_n 0, 1) := by decide +kernel
theorem dX6_batchOf_23 : decode cX6_batchOf 23 = .ok (.iconst 1, 1) := by decide +kernel
theorem dX6_batchOf_24 : decode cX6_batchOf 24 = .ok (.invokevirtual 94, 3) := by decide +kernel
theorem dX6_batchOf_27 : decode cX6_batchOf 27 = .ok (.ireturn, 1) := by decide +kernel
theorem dX6_linesOf_0 : decode cX6_linesOf 0 = .ok (.aload_n 0, 1) := by decide +kernel
theorem dX6_linesOf_1 : decode cX6_linesOf 1 = .ok (.iconst 0, 1) := by decide +kernel
theorem dX6_linesOf_2 : decode cX6_linesOf 2 = .ok (.putfield 59, 3) := by decide +kernel
theorem dX6_linesOf_5 : decode cX6_linesOf 5 = .ok (.aload_n 0, 1) := by decide +kernel
theorem dX6_linesOf_6 : decode cX6_linesOf 6 = .ok (.iload_n 1, 1) := by decide +kernel
theorem dX6_linesOf_7 : decode cX6_linesOf 7 = .ok (.invokevirtual 130, 3) := by decide +kernel
theorem dX6_linesOf_10 : decode cX6_linesOf 10 = .ok (.ifCond .eq 11, 3) := by decide +kernel
theorem dX6_linesOf_13 : decode cX6_linesOf 13 = .ok (.aload_n 0, 1) := by decide +kernel
theorem dX6_linesOf_14 : decode cX6_linesOf 14 = .ok (.iload_n 1, 1) := by decide +kernel
theorem dX6_linesOf_15 : decode cX6_linesOf 15 = .ok (.invokevirtual 117, 3) := by decide +kernel
theorem dX6_linesOf_18 : decode cX6_linesOf 18 = .ok (.goto 8, 3) := by decide +kernel
theorem dX6_linesOf_21 : decode cX6_linesOf 21 = .ok (.aload_n 0, 1) := by decide +kernel
theorem dX6_linesOf_22 : decode cX6_linesOf 22 = .ok (.iconst 1, 1) := by decide +kernel
theorem dX6_linesOf_23 : decode cX6_linesOf 23 = .ok (.invokevirtual 94, 3) := by decide +kernel
theorem dX6_linesOf_26 : decode cX6_linesOf 26 = .ok (.ireturn, 1) := by decide +kernel
theorem dX6_lengthOf_0 : decode cX6_lengthOf 0 = .ok (.aload_n 0, 1) := by decide +kernel
theorem dX6_lengthOf_1 : decode cX6_lengthOf 1 = .ok (.iconst 0, 1) := by decide +kernel
theorem dX6_lengthOf_2 : decode cX6_lengthOf 2 = .ok (.putfield 59, 3) := by decide +kernel
theorem dX6_lengthOf_5 : decode cX6_lengthOf 5 = .ok (.aload_n 0, 1) := by decide +kernel
theorem dX6_lengthOf_6 : decode cX6_lengthOf 6 = .ok (.iload_n 1, 1) := by decide +kernel
theorem dX6_lengthOf_7 : decode cX6_lengthOf 7 = .ok (.invokevirtual 130, 3) := by decide +kernel
theorem dX6_lengthOf_10 : decode cX6_lengthOf 10 = .ok (.ifCond .eq 15, 3) := by decide +kernel
theorem dX6_lengthOf_13 : decode cX6_lengthOf 13 = .ok (.aload_n 0, 1) := by decide +kernel
theorem dX6_lengthOf_14 : decode cX6_lengthOf 14 = .ok (.aload_n 0, 1) := by decide +kernel
theorem dX6_lengthOf_15 : decode cX6_lengthOf 15 = .ok (.iload_n 1, 1) := by decide +kernel
theorem dX6_lengthOf_16 : decode cX6_lengthOf 16 = .ok (.invokevirtual 120, 3) := by decide +kernel
theorem dX6_lengthOf_19 : decode cX6_lengthOf 19 = .ok (.invokevirtual 114, 3) := by decide +kernel
theorem dX6_lengthOf_22 : decode cX6_lengthOf 22 = .ok (.goto 8, 3) := by decide +kernel
theorem dX6_lengthOf_25 : decode cX6_lengthOf 25 = .ok (.aload_n 0, 1) := by decide +kernel
theorem dX6_lengthOf_26 : decode cX6_lengthOf 26 = .ok (.iconst 1, 1) := by decide +kernel
theorem dX6_lengthOf_27 : decode cX6_lengthOf 27 = .ok (.invokevirtual 94, 3) := by decide +kernel
theorem dX6_lengthOf_30 : decode cX6_lengthOf 30 = .ok (.ireturn, 1) := by decide +kernel
theorem dX6_lengthByTrying_0 : decode cX6_lengthByTrying 0 = .ok (.aload_n 0, 1) := by decide +kernel
theorem dX6_lengthByTrying_1 : decode cX6_lengthByTrying 1 = .ok (.iconst 0, 1) := by decide +kernel
theorem dX6_lengthByTrying_2 : decode cX6_lengthByTrying 2 = .ok (.putfield 59, 3) := by decide +kernel
theorem dX6_lengthByTrying_5 : decode cX6_lengthByTrying 5 = .ok (.aload_n 0, 1) := by decide +kernel
theorem dX6_lengthByTrying_6 : decode cX6_lengthByTrying 6 = .ok (.iload_n 1, 1) := by decide +kernel
theorem dX6_lengthByTrying_7 : decode cX6_lengthByTrying 7 = .ok (.invokevirtual 130, 3) := by decide +kernel
theorem dX6_lengthByTrying_10 : decode cX6_lengthByTrying 10 = .ok (.ifCond .ne 9, 3) := by decide +kernel
theorem dX6_lengthByTrying_13 : decode cX6_lengthByTrying 13 = .ok (.aload_n 0, 1) := by decide +kernel
theorem dX6_lengthByTrying_14 : decode cX6_lengthByTrying 14 = .ok (.iconst 1, 1) := by decide +kernel
theorem dX6_lengthByTrying_15 : decode cX6_lengthByTrying 15 = .ok (.invokevirtual 94, 3) := by decide +kernel
theorem dX6_lengthByTrying_18 : decode cX6_lengthByTrying 18 = .ok (.ireturn, 1) := by decide +kernel
theorem dX6_lengthByTrying_19 : decode cX6_lengthByTrying 19 = .ok (.aload_n 0, 1) := by decide +kernel
theorem dX6_lengthByTrying_20 : decode cX6_lengthByTrying 20 = .ok (.aload_n 0, 1) := by decide +kernel
theorem dX6_lengthByTrying_21 : decode cX6_lengthByTrying 21 = .ok (.iload_n 1, 1) := by decide +kernel
theorem dX6_lengthByTrying_22 : decode cX6_lengthByTrying 22 = .ok (.invokevirtual 120, 3) := by decide +kernel
theorem dX6_lengthByTrying_25 : decode cX6_lengthByTrying 25 = .ok (.invokevirtual 114, 3) := by decide +kernel
theorem dX6_lengthByTrying_28 : decode cX6_lengthByTrying 28 = .ok (.istore_n 2, 1) := by decide +kernel
theorem dX6_lengthByTrying_29 : decode cX6_lengthByTrying 29 = .ok (.aload_n 0, 1) := by decide +kernel
theorem dX6_lengthByTrying_30 : decode cX6_lengthByTrying 30 = .ok (.getfield 76, 3) := by decide +kernel
theorem dX6_lengthByTrying_33 : decode cX6_lengthByTrying 33 = .ok (.bipush 7, 2) := by decide +kernel
theorem dX6_lengthByTrying_35 : decode cX6_lengthByTrying 35 = .ok (.if_icmp .le 11, 3) := by decide +kernel
theorem dX6_lengthByTrying_38 : decode cX6_lengthByTrying 38 = .ok (.aload_n 0, 1) := by decide +kernel
theorem dX6_lengthByTrying_39 : decode cX6_lengthByTrying 39 = .ok (.iconst 2, 1) := by decide +kernel
theorem dX6_lengthByTrying_40 : decode cX6_lengthByTrying 40 = .ok (.invokevirtual 94, 3) := by decide +kernel
theorem dX6_lengthByTrying_43 : decode cX6_lengthByTrying 43 = .ok (.goto 4, 3) := by decide +kernel
theorem dX6_lengthByTrying_46 : decode cX6_lengthByTrying 46 = .ok (.iload_n 2, 1) := by decide +kernel
theorem dX6_lengthByTrying_47 : decode cX6_lengthByTrying 47 = .ok (.ireturn, 1) := by decide +kernel
theorem dX6_farthest_0 : decode cX6_farthest 0 = .ok (.aload_n 0, 1) := by decide +kernel
theorem dX6_farthest_1 : decode cX6_farthest 1 = .ok (.iload_n 1, 1) := by decide +kernel
theorem dX6_farthest_2 : decode cX6_farthest 2 = .ok (.invokevirtual 120, 3) := by decide +kernel
theorem dX6_farthest_5 : decode cX6_farthest 5 = .ok (.istore_n 3, 1) := by decide +kernel
theorem dX6_farthest_6 : decode cX6_farthest 6 = .ok (.iconst 0, 1) := by decide +kernel
theorem dX6_farthest_7 : decode cX6_farthest 7 = .ok (.istore 4, 2) := by decide +kernel
theorem dX6_farthest_9 : decode cX6_farthest 9 = .ok (.iconst 0, 1) := by decide +kernel
theorem dX6_farthest_10 : decode cX6_farthest 10 = .ok (.istore 5, 2) := by decide +kernel
theorem dX6_farthest_12 : decode cX6_farthest 12 = .ok (.iload 5, 2) := by decide +kernel
theorem dX6_farthest_14 : decode cX6_farthest 14 = .ok (.bipush 20, 2) := by decide +kernel
theorem dX6_farthest_16 : decode cX6_farthest 16 = .ok (.if_icmp .ge 77, 3) := by decide +kernel
theorem dX6_farthest_19 : decode cX6_farthest 19 = .ok (.iload_n 3, 1) := by decide +kernel
theorem dX6_farthest_20 : decode cX6_farthest 20 = .ok (.iload 5, 2) := by decide +kernel
theorem dX6_farthest_22 : decode cX6_farthest 22 = .ok (.ishr, 1) := by decide +kernel
theorem dX6_farthest_23 : decode cX6_farthest 23 = .ok (.iconst 1, 1) := by decide +kernel
theorem dX6_farthest_24 : decode cX6_farthest 24 = .ok (.iand, 1) := by decide +kernel
theorem dX6_farthest_25 : decode cX6_farthest 25 = .ok (.iconst 1, 1) := by decide +kernel
theorem dX6_farthest_26 : decode cX6_farthest 26 = .ok (.if_icmp .ne 21, 3) := by decide +kernel
theorem dX6_farthest_29 : decode cX6_farthest 29 = .ok (.aload_n 0, 1) := by decide +kernel
theorem dX6_farthest_30 : decode cX6_farthest 30 = .ok (.getfield 13, 3) := by decide +kernel
theorem dX6_farthest_33 : decode cX6_farthest 33 = .ok (.iload 5, 2) := by decide +kernel
theorem dX6_farthest_35 : decode cX6_farthest 35 = .ok (.iaload, 1) := by decide +kernel
theorem dX6_farthest_36 : decode cX6_farthest 36 = .ok (.bipush 100, 2) := by decide +kernel
theorem dX6_farthest_38 : decode cX6_farthest 38 = .ok (.idiv, 1) := by decide +kernel
theorem dX6_farthest_39 : decode cX6_farthest 39 = .ok (.iload_n 2, 1) := by decide +kernel
theorem dX6_farthest_40 : decode cX6_farthest 40 = .ok (.if_icmp .ne 7, 3) := by decide +kernel
theorem dX6_farthest_43 : decode cX6_farthest 43 = .ok (.iconst 1, 1) := by decide +kernel
theorem dX6_farthest_44 : decode cX6_farthest 44 = .ok (.goto 4, 3) := by decide +kernel
theorem dX6_farthest_47 : decode cX6_farthest 47 = .ok (.iconst 0, 1) := by decide +kernel
theorem dX6_farthest_48 : decode cX6_farthest 48 = .ok (.istore 6, 2) := by decide +kernel
theorem dX6_farthest_50 : decode cX6_farthest 50 = .ok (.iload 6, 2) := by decide +kernel
theorem dX6_farthest_52 : decode cX6_farthest 52 = .ok (.ifCond .eq 31, 3) := by decide +kernel
theorem dX6_farthest_55 : decode cX6_farthest 55 = .ok (.aload_n 0, 1) := by decide +kernel
theorem dX6_farthest_56 : decode cX6_farthest 56 = .ok (.getfield 13, 3) := by decide +kernel
theorem dX6_farthest_59 : decode cX6_farthest 59 = .ok (.iload 5, 2) := by decide +kernel
theorem dX6_farthest_61 : decode cX6_farthest 61 = .ok (.iaload, 1) := by decide +kernel
theorem dX6_farthest_62 : decode cX6_farthest 62 = .ok (.bipush 100, 2) := by decide +kernel
theorem dX6_farthest_64 : decode cX6_farthest 64 = .ok (.irem, 1) := by decide +kernel
theorem dX6_farthest_65 : decode cX6_farthest 65 = .ok (.iload 4, 2) := by decide +kernel
theorem dX6_farthest_67 : decode cX6_farthest 67 = .ok (.if_icmp .le 16, 3) := by decide +kernel
theorem dX6_farthest_70 : decode cX6_farthest 70 = .ok (.aload_n 0, 1) := by decide +kernel
theorem dX6_farthest_71 : decode cX6_farthest 71 = .ok (.getfield 13, 3) := by decide +kernel
theorem dX6_farthest_74 : decode cX6_farthest 74 = .ok (.iload 5, 2) := by decide +kernel
theorem dX6_farthest_76 : decode cX6_farthest 76 = .ok (.iaload, 1) := by decide +kernel
theorem dX6_farthest_77 : decode cX6_farthest 77 = .ok (.bipush 100, 2) := by decide +kernel
theorem dX6_farthest_79 : decode cX6_farthest 79 = .ok (.irem, 1) := by decide +kernel
theorem dX6_farthest_80 : decode cX6_farthest 80 = .ok (.goto 5, 3) := by decide +kernel
theorem dX6_farthest_83 : decode cX6_farthest 83 = .ok (.iload 4, 2) := by decide +kernel
theorem dX6_farthest_85 : decode cX6_farthest 85 = .ok (.istore 4, 2) := by decide +kernel
theorem dX6_farthest_87 : decode cX6_farthest 87 = .ok (.iinc 5 1, 3) := by decide +kernel
theorem dX6_farthest_90 : decode cX6_farthest 90 = .ok (.goto (-78), 3) := by decide +kernel
theorem dX6_farthest_93 : decode cX6_farthest 93 = .ok (.iload 4, 2) := by decide +kernel
theorem dX6_farthest_95 : decode cX6_farthest 95 = .ok (.ireturn, 1) := by decide +kernel
theorem dX6_lengthThrough_0 : decode cX6_lengthThrough 0 = .ok (.aload_n 0, 1) := by decide +kernel
theorem dX6_lengthThrough_1 : decode cX6_lengthThrough 1 = .ok (.iconst 0, 1) := by decide +kernel
theorem dX6_lengthThrough_2 : decode cX6_lengthThrough 2 = .ok (.putfield 59, 3) := by decide +kernel
theorem dX6_lengthThrough_5 : decode cX6_lengthThrough 5 = .ok (.aload_n 0, 1) := by decide +kernel
theorem dX6_lengthThrough_6 : decode cX6_lengthThrough 6 = .ok (.iload_n 1, 1) := by decide +kernel
theorem dX6_lengthThrough_7 : decode cX6_lengthThrough 7 = .ok (.invokevirtual 130, 3) := by decide +kernel
theorem dX6_lengthThrough_10 : decode cX6_lengthThrough 10 = .ok (.ifCond .ne 9, 3) := by decide +kernel
theorem dX6_lengthThrough_13 : decode cX6_lengthThrough 13 = .ok (.aload_n 0, 1) := by decide +kernel
theorem dX6_lengthThrough_14 : decode cX6_lengthThrough 14 = .ok (.iconst 1, 1) := by decide +kernel
theorem dX6_lengthThrough_15 : decode cX6_lengthThrough 15 = .ok (.invokevirtual 94, 3) := by decide +kernel
theorem dX6_lengthThrough_18 : decode cX6_lengthThrough 18 = .ok (.ireturn, 1) := by decide +kernel
theorem dX6_lengthThrough_19 : decode cX6_lengthThrough 19 = .ok (.iconst 0, 1) := by decide +kernel
theorem dX6_lengthThrough_20 : decode cX6_lengthThrough 20 = .ok (.istore_n 2, 1) := by decide +kernel
theorem dX6_lengthThrough_21 : decode cX6_lengthThrough 21 = .ok (.iconst 0, 1) := by decide +kernel
theorem dX6_lengthThrough_22 : decode cX6_lengthThrough 22 = .ok (.istore_n 3, 1) := by decide +kernel
theorem dX6_lengthThrough_23 : decode cX6_lengthThrough 23 = .ok (.iconst 0, 1) := by decide +kernel
theorem dX6_lengthThrough_24 : decode cX6_lengthThrough 24 = .ok (.istore 4, 2) := by decide +kernel
theorem dX6_lengthThrough_26 : decode cX6_lengthThrough 26 = .ok (.iload 4, 2) := by decide +kernel
theorem dX6_lengthThrough_28 : decode cX6_lengthThrough 28 = .ok (.aload_n 0, 1) := by decide +kernel
theorem dX6_lengthThrough_29 : decode cX6_lengthThrough 29 = .ok (.getfield 50, 3) := by decide +kernel
theorem dX6_lengthThrough_32 : decode cX6_lengthThrough 32 = .ok (.if_icmp .ge 44, 3) := by decide +kernel
theorem dX6_lengthThrough_35 : decode cX6_lengthThrough 35 = .ok (.aload_n 0, 1) := by decide +kernel
theorem dX6_lengthThrough_36 : decode cX6_lengthThrough 36 = .ok (.iload_n 1, 1) := by decide +kernel
theorem dX6_lengthThrough_37 : decode cX6_lengthThrough 37 = .ok (.iload 4, 2) := by decide +kernel
theorem dX6_lengthThrough_39 : decode cX6_lengthThrough 39 = .ok (.invokevirtual 140, 3) := by decide +kernel
theorem dX6_lengthThrough_42 : decode cX6_lengthThrough 42 = .ok (.ifCond .le 8, 3) := by decide +kernel
theorem dX6_lengthThrough_45 : decode cX6_lengthThrough 45 = .ok (.iload 4, 2) := by decide +kernel
theorem dX6_lengthThrough_47 : decode cX6_lengthThrough 47 = .ok (.goto 4, 3) := by decide +kernel
theorem dX6_lengthThrough_50 : decode cX6_lengthThrough 50 = .ok (.iload_n 2, 1) := by decide +kernel
theorem dX6_lengthThrough_51 : decode cX6_lengthThrough 51 = .ok (.istore_n 2, 1) := by decide +kernel
theorem dX6_lengthThrough_52 : decode cX6_lengthThrough 52 = .ok (.iload_n 3, 1) := by decide +kernel
theorem dX6_lengthThrough_53 : decode cX6_lengthThrough 53 = .ok (.aload_n 0, 1) := by decide +kernel
theorem dX6_lengthThrough_54 : decode cX6_lengthThrough 54 = .ok (.iload_n 1, 1) := by decide +kernel
theorem dX6_lengthThrough_55 : decode cX6_lengthThrough 55 = .ok (.iload 4, 2) := by decide +kernel
theorem dX6_lengthThrough_57 : decode cX6_lengthThrough 57 = .ok (.invokevirtual 140, 3) := by decide +kernel
theorem dX6_lengthThrough_60 : decode cX6_lengthThrough 60 = .ok (.ifCond .le 7, 3) := by decide +kernel
theorem dX6_lengthThrough_63 : decode cX6_lengthThrough 63 = .ok (.iconst 1, 1) := by decide +kernel
theorem dX6_lengthThrough_64 : decode cX6_lengthThrough 64 = .ok (.goto 4, 3) := by decide +kernel
theorem dX6_lengthThrough_67 : decode cX6_lengthThrough 67 = .ok (.iconst 0, 1) := by decide +kernel
theorem dX6_lengthThrough_68 : decode cX6_lengthThrough 68 = .ok (.iadd, 1) := by decide +kernel
theorem dX6_lengthThrough_69 : decode cX6_lengthThrough 69 = .ok (.istore_n 3, 1) := by decide +kernel
theorem dX6_lengthThrough_70 : decode cX6_lengthThrough 70 = .ok (.iinc 4 1, 3) := by decide +kernel
theorem dX6_lengthThrough_73 : decode cX6_lengthThrough 73 = .ok (.goto (-47), 3) := by decide +kernel
theorem dX6_lengthThrough_76 : decode cX6_lengthThrough 76 = .ok (.iload_n 3, 1) := by decide +kernel
theorem dX6_lengthThrough_77 : decode cX6_lengthThrough 77 = .ok (.iconst 2, 1) := by decide +kernel
theorem dX6_lengthThrough_78 : decode cX6_lengthThrough 78 = .ok (.irem, 1) := by decide +kernel
theorem dX6_lengthThrough_79 : decode cX6_lengthThrough 79 = .ok (.iconst 1, 1) := by decide +kernel
theorem dX6_lengthThrough_80 : decode cX6_lengthThrough 80 = .ok (.if_icmp .ne 14, 3) := by decide +kernel
theorem dX6_lengthThrough_83 : decode cX6_lengthThrough 83 = .ok (.iconst 2, 1) := by decide +kernel
theorem dX6_lengthThrough_84 : decode cX6_lengthThrough 84 = .ok (.aload_n 0, 1) := by decide +kernel
theorem dX6_lengthThrough_85 : decode cX6_lengthThrough 85 = .ok (.iload_n 1, 1) := by decide +kernel
theorem dX6_lengthThrough_86 : decode cX6_lengthThrough 86 = .ok (.iload_n 2, 1) := by decide +kernel
theorem dX6_lengthThrough_87 : decode cX6_lengthThrough 87 = .ok (.invokevirtual 140, 3) := by decide +kernel
theorem dX6_lengthThrough_90 : decode cX6_lengthThrough 90 = .ok (.imul, 1) := by decide +kernel
theorem dX6_lengthThrough_91 : decode cX6_lengthThrough 91 = .ok (.goto 9, 3) := by decide +kernel
theorem dX6_lengthThrough_94 : decode cX6_lengthThrough 94 = .ok (.aload_n 0, 1) := by decide +kernel
theorem dX6_lengthThrough_95 : decode cX6_lengthThrough 95 = .ok (.getfield 53, 3) := by decide +kernel
theorem dX6_lengthThrough_98 : decode cX6_lengthThrough 98 = .ok (.iconst 1, 1) := by decide +kernel
theorem dX6_lengthThrough_99 : decode cX6_lengthThrough 99 = .ok (.iadd, 1) := by decide +kernel
theorem dX6_lengthThrough_100 : decode cX6_lengthThrough 100 = .ok (.istore 4, 2) := by decide +kernel
theorem dX6_lengthThrough_102 : decode cX6_lengthThrough 102 = .ok (.iconst 2, 1) := by decide +kernel
theorem dX6_lengthThrough_103 : decode cX6_lengthThrough 103 = .ok (.iload_n 2, 1) := by decide +kernel
theorem dX6_lengthThrough_104 : decode cX6_lengthThrough 104 = .ok (.imul, 1) := by decide +kernel
theorem dX6_lengthThrough_105 : decode cX6_lengthThrough 105 = .ok (.aload_n 0, 1) := by decide +kernel
theorem dX6_lengthThrough_106 : decode cX6_lengthThrough 106 = .ok (.getfield 56, 3) := by decide +kernel
theorem dX6_lengthThrough_109 : decode cX6_lengthThrough 109 = .ok (.imul, 1) := by decide +kernel
theorem dX6_lengthThrough_110 : decode cX6_lengthThrough 110 = .ok (.iload_n 3, 1) := by decide +kernel
theorem dX6_lengthThrough_111 : decode cX6_lengthThrough 111 = .ok (.iconst 1, 1) := by decide +kernel
theorem dX6_lengthThrough_112 : decode cX6_lengthThrough 112 = .ok (.isub, 1) := by decide +kernel
theorem dX6_lengthThrough_113 : decode cX6_lengthThrough 113 = .ok (.aload_n 0, 1) := by decide +kernel
theorem dX6_lengthThrough_114 : decode cX6_lengthThrough 114 = .ok (.getfield 53, 3) := by decide +kernel
theorem dX6_lengthThrough_117 : decode cX6_lengthThrough 117 = .ok (.iconst 1, 1) := by decide +kernel
theorem dX6_lengthThrough_118 : decode cX6_lengthThrough 118 = .ok (.iadd, 1) := by decide +kernel
theorem dX6_lengthThrough_119 : decode cX6_lengthThrough 119 = .ok (.imul, 1) := by decide +kernel
theorem dX6_lengthThrough_120 : decode cX6_lengthThrough 120 = .ok (.iadd, 1) := by decide +kernel
theorem dX6_lengthThrough_121 : decode cX6_lengthThrough 121 = .ok (.iload 4, 2) := by decide +kernel
theorem dX6_lengthThrough_123 : decode cX6_lengthThrough 123 = .ok (.iadd, 1) := by decide +kernel
theorem dX6_lengthThrough_124 : decode cX6_lengthThrough 124 = .ok (.ireturn, 1) := by decide +kernel
theorem dX6_stops_0 : decode cX6_stops 0 = .ok (.aload_n 0, 1) := by decide +kernel
theorem dX6_stops_1 : decode cX6_stops 1 = .ok (.iconst 0, 1) := by decide +kernel
theorem dX6_stops_2 : decode cX6_stops 2 = .ok (.putfield 59, 3) := by decide +kernel
theorem dX6_stops_5 : decode cX6_stops 5 = .ok (.aload_n 0, 1) := by decide +kernel
theorem dX6_stops_6 : decode cX6_stops 6 = .ok (.iload_n 1, 1) := by decide +kernel
theorem dX6_stops_7 : decode cX6_stops 7 = .ok (.invokevirtual 130, 3) := by decide +kernel
theorem dX6_stops_10 : decode cX6_stops 10 = .ok (.ifCond .ne 9, 3) := by decide +kernel
theorem dX6_stops_13 : decode cX6_stops 13 = .ok (.aload_n 0, 1) := by decide +kernel
theorem dX6_stops_14 : decode cX6_stops 14 = .ok (.iconst 1, 1) := by decide +kernel
theorem dX6_stops_15 : decode cX6_stops 15 = .ok (.invokevirtual 94, 3) := by decide +kernel
theorem dX6_stops_18 : decode cX6_stops 18 = .ok (.ireturn, 1) := by decide +kernel
theorem dX6_stops_19 : decode cX6_stops 19 = .ok (.aload_n 0, 1) := by decide +kernel
theorem dX6_stops_20 : decode cX6_stops 20 = .ok (.aload_n 0, 1) := by decide +kernel
theorem dX6_stops_21 : decode cX6_stops 21 = .ok (.iload_n 1, 1) := by decide +kernel
theorem dX6_stops_22 : decode cX6_stops 22 = .ok (.invokevirtual 120, 3) := by decide +kernel
theorem dX6_stops_25 : decode cX6_stops 25 = .ok (.invokevirtual 86, 3) := by decide +kernel
theorem dX6_stops_28 : decode cX6_stops 28 = .ok (.aload_n 0, 1) := by decide +kernel
theorem dX6_stops_29 : decode cX6_stops 29 = .ok (.getfield 76, 3) := by decide +kernel
theorem dX6_stops_32 : decode cX6_stops 32 = .ok (.ireturn, 1) := by decide +kernel
theorem dX6_stopAt_0 : decode cX6_stopAt 0 = .ok (.aload_n 0, 1) := by decide +kernel
theorem dX6_stopAt_1 : decode cX6_stopAt 1 = .ok (.iconst 0, 1) := by decide +kernel
theorem dX6_stopAt_2 : decode cX6_stopAt 2 = .ok (.putfield 59, 3) := by decide +kernel
theorem dX6_stopAt_5 : decode cX6_stopAt 5 = .ok (.aload_n 0, 1) := by decide +kernel
theorem dX6_stopAt_6 : decode cX6_stopAt 6 = .ok (.iload_n 1, 1) := by decide +kernel
theorem dX6_stopAt_7 : decode cX6_stopAt 7 = .ok (.invokevirtual 130, 3) := by decide +kernel
theorem dX6_stopAt_10 : decode cX6_stopAt 10 = .ok (.ifCond .ne 9, 3) := by decide +kernel
theorem dX6_stopAt_13 : decode cX6_stopAt 13 = .ok (.aload_n 0, 1) := by decide +kernel
theorem dX6_stopAt_14 : decode cX6_stopAt 14 = .ok (.iconst 1, 1) := by decide +kernel
theorem dX6_stopAt_15 : decode cX6_stopAt 15 = .ok (.invokevirtual 94, 3) := by decide +kernel
theorem dX6_stopAt_18 : decode cX6_stopAt 18 = .ok (.ireturn, 1) := by decide +kernel
theorem dX6_stopAt_19 : decode cX6_stopAt 19 = .ok (.aload_n 0, 1) := by decide +kernel
theorem dX6_stopAt_20 : decode cX6_stopAt 20 = .ok (.aload_n 0, 1) := by decide +kernel
theorem dX6_stopAt_21 : decode cX6_stopAt 21 = .ok (.iload_n 1, 1) := by decide +kernel
theorem dX6_stopAt_22 : decode cX6_stopAt 22 = .ok (.invokevirtual 120, 3) := by decide +kernel
theorem dX6_stopAt_25 : decode cX6_stopAt 25 = .ok (.invokevirtual 143, 3) := by decide +kernel
theorem dX6_stopAt_28 : decode cX6_stopAt 28 = .ok (.iload_n 2, 1) := by decide +kernel
theorem dX6_stopAt_29 : decode cX6_stopAt 29 = .ok (.iconst 0, 1) := by decide +kernel
theorem dX6_stopAt_30 : decode cX6_stopAt 30 = .ok (.aload_n 0, 1) := by decide +kernel
theorem dX6_stopAt_31 : decode cX6_stopAt 31 = .ok (.getfield 76, 3) := by decide +kernel
theorem dX6_stopAt_34 : decode cX6_stopAt 34 = .ok (.iconst 1, 1) := by decide +kernel
theorem dX6_stopAt_35 : decode cX6_stopAt 35 = .ok (.isub, 1) := by decide +kernel
theorem dX6_stopAt_36 : decode cX6_stopAt 36 = .ok (.invokestatic 62, 3) := by decide +kernel
theorem dX6_stopAt_39 : decode cX6_stopAt 39 = .ok (.ifCond .eq 22, 3) := by decide +kernel
theorem dX6_stopAt_42 : decode cX6_stopAt 42 = .ok (.aload_n 0, 1) := by decide +kernel
theorem dX6_stopAt_43 : decode cX6_stopAt 43 = .ok (.getfield 13, 3) := by decide +kernel
theorem dX6_stopAt_46 : decode cX6_stopAt 46 = .ok (.aload_n 0, 1) := by decide +kernel
theorem dX6_stopAt_47 : decode cX6_stopAt 47 = .ok (.getfield 35, 3) := by decide +kernel
theorem dX6_stopAt_50 : decode cX6_stopAt 50 = .ok (.aload_n 0, 1) := by decide +kernel
theorem dX6_stopAt_51 : decode cX6_stopAt 51 = .ok (.getfield 41, 3) := by decide +kernel
theorem dX6_stopAt_54 : decode cX6_stopAt 54 = .ok (.iload_n 2, 1) := by decide +kernel
theorem dX6_stopAt_55 : decode cX6_stopAt 55 = .ok (.iaload, 1) := by decide +kernel
theorem dX6_stopAt_56 : decode cX6_stopAt 56 = .ok (.iaload, 1) := by decide +kernel
theorem dX6_stopAt_57 : decode cX6_stopAt 57 = .ok (.iaload, 1) := by decide +kernel
theorem dX6_stopAt_58 : decode cX6_stopAt 58 = .ok (.goto 8, 3) := by decide +kernel
theorem dX6_stopAt_61 : decode cX6_stopAt 61 = .ok (.aload_n 0, 1) := by decide +kernel
theorem dX6_stopAt_62 : decode cX6_stopAt 62 = .ok (.iconst 1, 1) := by decide +kernel
theorem dX6_stopAt_63 : decode cX6_stopAt 63 = .ok (.invokevirtual 94, 3) := by decide +kernel
theorem dX6_stopAt_66 : decode cX6_stopAt 66 = .ok (.ireturn, 1) := by decide +kernel
theorem dX6_inAisle_0 : decode cX6_inAisle 0 = .ok (.aload_n 0, 1) := by decide +kernel
theorem dX6_inAisle_1 : decode cX6_inAisle 1 = .ok (.iconst 0, 1) := by decide +kernel
theorem dX6_inAisle_2 : decode cX6_inAisle 2 = .ok (.putfield 59, 3) := by decide +kernel
theorem dX6_inAisle_5 : decode cX6_inAisle 5 = .ok (.iload_n 1, 1) := by decide +kernel
theorem dX6_inAisle_6 : decode cX6_inAisle 6 = .ok (.iconst 0, 1) := by decide +kernel
theorem dX6_inAisle_7 : decode cX6_inAisle 7 = .ok (.aload_n 0, 1) := by decide +kernel
theorem dX6_inAisle_8 : decode cX6_inAisle 8 = .ok (.getfield 50, 3) := by decide +kernel
theorem dX6_inAisle_11 : decode cX6_inAisle 11 = .ok (.iconst 1, 1) := by decide +kernel
theorem dX6_inAisle_12 : decode cX6_inAisle 12 = .ok (.isub, 1) := by decide +kernel
theorem dX6_inAisle_13 : decode cX6_inAisle 13 = .ok (.invokestatic 62, 3) := by decide +kernel
theorem dX6_inAisle_16 : decode cX6_inAisle 16 = .ok (.ifCond .ne 9, 3) := by decide +kernel
theorem dX6_inAisle_19 : decode cX6_inAisle 19 = .ok (.aload_n 0, 1) := by decide +kernel
theorem dX6_inAisle_20 : decode cX6_inAisle 20 = .ok (.iconst 1, 1) := by decide +kernel
theorem dX6_inAisle_21 : decode cX6_inAisle 21 = .ok (.invokevirtual 94, 3) := by decide +kernel
theorem dX6_inAisle_24 : decode cX6_inAisle 24 = .ok (.ireturn, 1) := by decide +kernel
theorem dX6_inAisle_25 : decode cX6_inAisle 25 = .ok (.iconst 0, 1) := by decide +kernel
theorem dX6_inAisle_26 : decode cX6_inAisle 26 = .ok (.istore_n 2, 1) := by decide +kernel
theorem dX6_inAisle_27 : decode cX6_inAisle 27 = .ok (.iconst 0, 1) := by decide +kernel
theorem dX6_inAisle_28 : decode cX6_inAisle 28 = .ok (.istore_n 3, 1) := by decide +kernel
theorem dX6_inAisle_29 : decode cX6_inAisle 29 = .ok (.iload_n 3, 1) := by decide +kernel
theorem dX6_inAisle_30 : decode cX6_inAisle 30 = .ok (.aload_n 0, 1) := by decide +kernel
theorem dX6_inAisle_31 : decode cX6_inAisle 31 = .ok (.getfield 69, 3) := by decide +kernel
theorem dX6_inAisle_34 : decode cX6_inAisle 34 = .ok (.if_icmp .ge 26, 3) := by decide +kernel
theorem dX6_inAisle_37 : decode cX6_inAisle 37 = .ok (.iload_n 2, 1) := by decide +kernel
theorem dX6_inAisle_38 : decode cX6_inAisle 38 = .ok (.aload_n 0, 1) := by decide +kernel
theorem dX6_inAisle_39 : decode cX6_inAisle 39 = .ok (.iload_n 3, 1) := by decide +kernel
theorem dX6_inAisle_40 : decode cX6_inAisle 40 = .ok (.iload_n 1, 1) := by decide +kernel
theorem dX6_inAisle_41 : decode cX6_inAisle 41 = .ok (.invokevirtual 140, 3) := by decide +kernel
theorem dX6_inAisle_44 : decode cX6_inAisle 44 = .ok (.ifCond .le 7, 3) := by decide +kernel
theorem dX6_inAisle_47 : decode cX6_inAisle 47 = .ok (.iconst 1, 1) := by decide +kernel
theorem dX6_inAisle_48 : decode cX6_inAisle 48 = .ok (.goto 4, 3) := by decide +kernel
theorem dX6_inAisle_51 : decode cX6_inAisle 51 = .ok (.iconst 0, 1) := by decide +kernel
theorem dX6_inAisle_52 : decode cX6_inAisle 52 = .ok (.iadd, 1) := by decide +kernel
theorem dX6_inAisle_53 : decode cX6_inAisle 53 = .ok (.istore_n 2, 1) := by decide +kernel
theorem dX6_inAisle_54 : decode cX6_inAisle 54 = .ok (.iinc 3 1, 3) := by decide +kernel
theorem dX6_inAisle_57 : decode cX6_inAisle 57 = .ok (.goto (-28), 3) := by decide +kernel
theorem dX6_inAisle_60 : decode cX6_inAisle 60 = .ok (.iload_n 2, 1) := by decide +kernel
theorem dX6_inAisle_61 : decode cX6_inAisle 61 = .ok (.ireturn, 1) := by decide +kernel
theorem dX6_walked_0 : decode cX6_walked 0 = .ok (.aload_n 0, 1) := by decide +kernel
theorem dX6_walked_1 : decode cX6_walked 1 = .ok (.iconst 0, 1) := by decide +kernel
theorem dX6_walked_2 : decode cX6_walked 2 = .ok (.putfield 59, 3) := by decide +kernel
theorem dX6_walked_5 : decode cX6_walked 5 = .ok (.aload_n 0, 1) := by decide +kernel
theorem dX6_walked_6 : decode cX6_walked 6 = .ok (.getfield 137, 3) := by decide +kernel
theorem dX6_walked_9 : decode cX6_walked 9 = .ok (.ireturn, 1) := by decide +kernel
theorem dX6_share_0 : decode cX6_share 0 = .ok (.aload_n 0, 1) := by decide +kernel
theorem dX6_share_1 : decode cX6_share 1 = .ok (.iconst 0, 1) := by decide +kernel
theorem dX6_share_2 : decode cX6_share 2 = .ok (.putfield 59, 3) := by decide +kernel
theorem dX6_share_5 : decode cX6_share 5 = .ok (.aload_n 0, 1) := by decide +kernel
theorem dX6_share_6 : decode cX6_share 6 = .ok (.getfield 133, 3) := by decide +kernel
theorem dX6_share_9 : decode cX6_share 9 = .ok (.lconst 0, 1) := by decide +kernel
theorem dX6_share_10 : decode cX6_share 10 = .ok (.lcmp, 1) := by decide +kernel
theorem dX6_share_11 : decode cX6_share 11 = .ok (.ifCond .ne 7, 3) := by decide +kernel
theorem dX6_share_14 : decode cX6_share 14 = .ok (.dconst 1, 1) := by decide +kernel
theorem dX6_share_15 : decode cX6_share 15 = .ok (.goto 14, 3) := by decide +kernel
theorem dX6_share_18 : decode cX6_share 18 = .ok (.aload_n 0, 1) := by decide +kernel
theorem dX6_share_19 : decode cX6_share 19 = .ok (.getfield 137, 3) := by decide +kernel
theorem dX6_share_22 : decode cX6_share 22 = .ok (.i2d, 1) := by decide +kernel
theorem dX6_share_23 : decode cX6_share 23 = .ok (.aload_n 0, 1) := by decide +kernel
theorem dX6_share_24 : decode cX6_share 24 = .ok (.getfield 133, 3) := by decide +kernel
theorem dX6_share_27 : decode cX6_share 27 = .ok (.l2d, 1) := by decide +kernel
theorem dX6_share_28 : decode cX6_share 28 = .ok (.ddiv, 1) := by decide +kernel
theorem dX6_share_29 : decode cX6_share 29 = .ok (.dreturn, 1) := by decide +kernel
