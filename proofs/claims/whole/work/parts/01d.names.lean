theorem dX6_init_0 : decode cX6_init 0 = .ok (.aload_n 0, 1) := by decide +kernel
theorem dX6_init_1 : decode cX6_init 1 = .ok (.invokespecial 1, 3) := by decide +kernel
theorem dX6_init_4 : decode cX6_init 4 = .ok (.aload_n 0, 1) := by decide +kernel
theorem dX6_init_5 : decode cX6_init 5 = .ok (.bipush 6, 2) := by decide +kernel
theorem dX6_init_7 : decode cX6_init 7 = .ok (.putfield 7, 3) := by decide +kernel
theorem dX6_init_10 : decode cX6_init 10 = .ok (.aload_n 0, 1) := by decide +kernel
theorem dX6_init_11 : decode cX6_init 11 = .ok (.bipush 20, 2) := by decide +kernel
theorem dX6_init_13 : decode cX6_init 13 = .ok (.newarray .int, 2) := by decide +kernel
theorem dX6_init_15 : decode cX6_init 15 = .ok (.putfield 13, 3) := by decide +kernel
theorem dX6_init_18 : decode cX6_init 18 = .ok (.aload_n 0, 1) := by decide +kernel
theorem dX6_init_19 : decode cX6_init 19 = .ok (.bipush 40, 2) := by decide +kernel
theorem dX6_init_21 : decode cX6_init 21 = .ok (.newarray .int, 2) := by decide +kernel
theorem dX6_init_23 : decode cX6_init 23 = .ok (.putfield 17, 3) := by decide +kernel
theorem dX6_init_26 : decode cX6_init 26 = .ok (.aload_n 0, 1) := by decide +kernel
theorem dX6_init_27 : decode cX6_init 27 = .ok (.bipush 40, 2) := by decide +kernel
theorem dX6_init_29 : decode cX6_init 29 = .ok (.newarray .int, 2) := by decide +kernel
theorem dX6_init_31 : decode cX6_init 31 = .ok (.putfield 20, 3) := by decide +kernel
theorem dX6_init_34 : decode cX6_init 34 = .ok (.aload_n 0, 1) := by decide +kernel
theorem dX6_init_35 : decode cX6_init 35 = .ok (.bipush 40, 2) := by decide +kernel
theorem dX6_init_37 : decode cX6_init 37 = .ok (.newarray .int, 2) := by decide +kernel
theorem dX6_init_39 : decode cX6_init 39 = .ok (.putfield 23, 3) := by decide +kernel
theorem dX6_init_42 : decode cX6_init 42 = .ok (.aload_n 0, 1) := by decide +kernel
theorem dX6_init_43 : decode cX6_init 43 = .ok (.bipush 40, 2) := by decide +kernel
theorem dX6_init_45 : decode cX6_init 45 = .ok (.newarray .int, 2) := by decide +kernel
theorem dX6_init_47 : decode cX6_init 47 = .ok (.putfield 26, 3) := by decide +kernel
theorem dX6_init_50 : decode cX6_init 50 = .ok (.aload_n 0, 1) := by decide +kernel
theorem dX6_init_51 : decode cX6_init 51 = .ok (.sipush 200, 3) := by decide +kernel
theorem dX6_init_54 : decode cX6_init 54 = .ok (.newarray .int, 2) := by decide +kernel
theorem dX6_init_56 : decode cX6_init 56 = .ok (.putfield 29, 3) := by decide +kernel
theorem dX6_init_59 : decode cX6_init 59 = .ok (.aload_n 0, 1) := by decide +kernel
theorem dX6_init_60 : decode cX6_init 60 = .ok (.sipush 200, 3) := by decide +kernel
theorem dX6_init_63 : decode cX6_init 63 = .ok (.newarray .int, 2) := by decide +kernel
theorem dX6_init_65 : decode cX6_init 65 = .ok (.putfield 32, 3) := by decide +kernel
theorem dX6_init_68 : decode cX6_init 68 = .ok (.aload_n 0, 1) := by decide +kernel
theorem dX6_init_69 : decode cX6_init 69 = .ok (.bipush 9, 2) := by decide +kernel
theorem dX6_init_71 : decode cX6_init 71 = .ok (.newarray .int, 2) := by decide +kernel
theorem dX6_init_73 : decode cX6_init 73 = .ok (.putfield 35, 3) := by decide +kernel
theorem dX6_init_76 : decode cX6_init 76 = .ok (.aload_n 0, 1) := by decide +kernel
theorem dX6_init_77 : decode cX6_init 77 = .ok (.sipush 5120, 3) := by decide +kernel
theorem dX6_init_80 : decode cX6_init 80 = .ok (.newarray .int, 2) := by decide +kernel
theorem dX6_init_82 : decode cX6_init 82 = .ok (.putfield 38, 3) := by decide +kernel
theorem dX6_init_85 : decode cX6_init 85 = .ok (.aload_n 0, 1) := by decide +kernel
theorem dX6_init_86 : decode cX6_init 86 = .ok (.bipush 9, 2) := by decide +kernel
theorem dX6_init_88 : decode cX6_init 88 = .ok (.newarray .int, 2) := by decide +kernel
theorem dX6_init_90 : decode cX6_init 90 = .ok (.putfield 41, 3) := by decide +kernel
theorem dX6_init_93 : decode cX6_init 93 = .ok (.aload_n 0, 1) := by decide +kernel
theorem dX6_init_94 : decode cX6_init 94 = .ok (.bipush 20, 2) := by decide +kernel
theorem dX6_init_96 : decode cX6_init 96 = .ok (.newarray .int, 2) := by decide +kernel
theorem dX6_init_98 : decode cX6_init 98 = .ok (.putfield 44, 3) := by decide +kernel
theorem dX6_init_101 : decode cX6_init 101 = .ok (.aload_n 0, 1) := by decide +kernel
theorem dX6_init_102 : decode cX6_init 102 = .ok (.bipush 20, 2) := by decide +kernel
theorem dX6_init_104 : decode cX6_init 104 = .ok (.newarray .int, 2) := by decide +kernel
theorem dX6_init_106 : decode cX6_init 106 = .ok (.putfield 47, 3) := by decide +kernel
theorem dX6_init_109 : decode cX6_init 109 = .ok (.aload_n 0, 1) := by decide +kernel
theorem dX6_init_110 : decode cX6_init 110 = .ok (.iload_n 1, 1) := by decide +kernel
theorem dX6_init_111 : decode cX6_init 111 = .ok (.iconst 1, 1) := by decide +kernel
theorem dX6_init_112 : decode cX6_init 112 = .ok (.if_icmp .ge 7, 3) := by decide +kernel
theorem dX6_init_115 : decode cX6_init 115 = .ok (.iconst 1, 1) := by decide +kernel
theorem dX6_init_116 : decode cX6_init 116 = .ok (.goto 15, 3) := by decide +kernel
theorem dX6_init_119 : decode cX6_init 119 = .ok (.iload_n 1, 1) := by decide +kernel
theorem dX6_init_120 : decode cX6_init 120 = .ok (.bipush 6, 2) := by decide +kernel
theorem dX6_init_122 : decode cX6_init 122 = .ok (.if_icmp .le 8, 3) := by decide +kernel
theorem dX6_init_125 : decode cX6_init 125 = .ok (.bipush 6, 2) := by decide +kernel
theorem dX6_init_127 : decode cX6_init 127 = .ok (.goto 4, 3) := by decide +kernel
theorem dX6_init_130 : decode cX6_init 130 = .ok (.iload_n 1, 1) := by decide +kernel
theorem dX6_init_131 : decode cX6_init 131 = .ok (.putfield 50, 3) := by decide +kernel
theorem dX6_init_134 : decode cX6_init 134 = .ok (.aload_n 0, 1) := by decide +kernel
theorem dX6_init_135 : decode cX6_init 135 = .ok (.iload_n 2, 1) := by decide +kernel
theorem dX6_init_136 : decode cX6_init 136 = .ok (.iconst 1, 1) := by decide +kernel
theorem dX6_init_137 : decode cX6_init 137 = .ok (.if_icmp .ge 7, 3) := by decide +kernel
theorem dX6_init_140 : decode cX6_init 140 = .ok (.iconst 1, 1) := by decide +kernel
theorem dX6_init_141 : decode cX6_init 141 = .ok (.goto 15, 3) := by decide +kernel
theorem dX6_init_144 : decode cX6_init 144 = .ok (.iload_n 2, 1) := by decide +kernel
theorem dX6_init_145 : decode cX6_init 145 = .ok (.bipush 20, 2) := by decide +kernel
theorem dX6_init_147 : decode cX6_init 147 = .ok (.if_icmp .le 8, 3) := by decide +kernel
theorem dX6_init_150 : decode cX6_init 150 = .ok (.bipush 20, 2) := by decide +kernel
theorem dX6_init_152 : decode cX6_init 152 = .ok (.goto 4, 3) := by decide +kernel
theorem dX6_init_155 : decode cX6_init 155 = .ok (.iload_n 2, 1) := by decide +kernel
theorem dX6_init_156 : decode cX6_init 156 = .ok (.putfield 53, 3) := by decide +kernel
theorem dX6_init_159 : decode cX6_init 159 = .ok (.aload_n 0, 1) := by decide +kernel
theorem dX6_init_160 : decode cX6_init 160 = .ok (.iload_n 3, 1) := by decide +kernel
theorem dX6_init_161 : decode cX6_init 161 = .ok (.iconst 1, 1) := by decide +kernel
theorem dX6_init_162 : decode cX6_init 162 = .ok (.if_icmp .ge 7, 3) := by decide +kernel
theorem dX6_init_165 : decode cX6_init 165 = .ok (.iconst 1, 1) := by decide +kernel
theorem dX6_init_166 : decode cX6_init 166 = .ok (.goto 15, 3) := by decide +kernel
theorem dX6_init_169 : decode cX6_init 169 = .ok (.iload_n 3, 1) := by decide +kernel
theorem dX6_init_170 : decode cX6_init 170 = .ok (.bipush 9, 2) := by decide +kernel
theorem dX6_init_172 : decode cX6_init 172 = .ok (.if_icmp .le 8, 3) := by decide +kernel
theorem dX6_init_175 : decode cX6_init 175 = .ok (.bipush 9, 2) := by decide +kernel
theorem dX6_init_177 : decode cX6_init 177 = .ok (.goto 4, 3) := by decide +kernel
theorem dX6_init_180 : decode cX6_init 180 = .ok (.iload_n 3, 1) := by decide +kernel
theorem dX6_init_181 : decode cX6_init 181 = .ok (.putfield 56, 3) := by decide +kernel
theorem dX6_init_184 : decode cX6_init 184 = .ok (.iconst 0, 1) := by decide +kernel
theorem dX6_init_185 : decode cX6_init 185 = .ok (.istore 4, 2) := by decide +kernel
theorem dX6_init_187 : decode cX6_init 187 = .ok (.iload 4, 2) := by decide +kernel
theorem dX6_init_189 : decode cX6_init 189 = .ok (.bipush 20, 2) := by decide +kernel
theorem dX6_init_191 : decode cX6_init 191 = .ok (.if_icmp .ge 17, 3) := by decide +kernel
theorem dX6_init_194 : decode cX6_init 194 = .ok (.aload_n 0, 1) := by decide +kernel
theorem dX6_init_195 : decode cX6_init 195 = .ok (.getfield 13, 3) := by decide +kernel
theorem dX6_init_198 : decode cX6_init 198 = .ok (.iload 4, 2) := by decide +kernel
theorem dX6_init_200 : decode cX6_init 200 = .ok (.iconst (-1), 1) := by decide +kernel
theorem dX6_init_201 : decode cX6_init 201 = .ok (.iastore, 1) := by decide +kernel
theorem dX6_init_202 : decode cX6_init 202 = .ok (.iinc 4 1, 3) := by decide +kernel
theorem dX6_init_205 : decode cX6_init 205 = .ok (.goto (-18), 3) := by decide +kernel
theorem dX6_init_208 : decode cX6_init 208 = .ok (.return_, 1) := by decide +kernel
theorem dX6_thrown_0 : decode cX6_thrown 0 = .ok (.aload_n 0, 1) := by decide +kernel
theorem dX6_thrown_1 : decode cX6_thrown 1 = .ok (.getfield 59, 3) := by decide +kernel
theorem dX6_thrown_4 : decode cX6_thrown 4 = .ok (.ireturn, 1) := by decide +kernel
theorem dX6_fails_0 : decode cX6_fails 0 = .ok (.aload_n 0, 1) := by decide +kernel
theorem dX6_fails_1 : decode cX6_fails 1 = .ok (.iload_n 1, 1) := by decide +kernel
theorem dX6_fails_2 : decode cX6_fails 2 = .ok (.putfield 59, 3) := by decide +kernel
theorem dX6_fails_5 : decode cX6_fails 5 = .ok (.iconst 0, 1) := by decide +kernel
theorem dX6_fails_6 : decode cX6_fails 6 = .ok (.ireturn, 1) := by decide +kernel
theorem dX6_in_0 : decode cX6_in 0 = .ok (.iload_n 0, 1) := by decide +kernel
theorem dX6_in_1 : decode cX6_in 1 = .ok (.iload_n 1, 1) := by decide +kernel
theorem dX6_in_2 : decode cX6_in 2 = .ok (.if_icmp .lt 12, 3) := by decide +kernel
theorem dX6_in_5 : decode cX6_in 5 = .ok (.iload_n 0, 1) := by decide +kernel
theorem dX6_in_6 : decode cX6_in 6 = .ok (.iload_n 2, 1) := by decide +kernel
theorem dX6_in_7 : decode cX6_in 7 = .ok (.if_icmp .gt 7, 3) := by decide +kernel
theorem dX6_in_10 : decode cX6_in 10 = .ok (.iconst 1, 1) := by decide +kernel
theorem dX6_in_11 : decode cX6_in 11 = .ok (.goto 4, 3) := by decide +kernel
theorem dX6_in_14 : decode cX6_in 14 = .ok (.iconst 0, 1) := by decide +kernel
theorem dX6_in_15 : decode cX6_in 15 = .ok (.ireturn, 1) := by decide +kernel
set_option maxRecDepth 20000 in
theorem ggX6_isProduct_X6_in : GoodIn wsX6_isProduct wsX6_in := goodIn_r _ [4] (by decide +kernel) (by decide +kernel)
set_option maxRecDepth 20000 in
theorem gX6_isProduct_X6_in : GoodIn wsX6_isProduct (va_wsS RX6 62 yX6_in wsX6_in) := goodIn_app (goodIn_of _ (by decide +kernel)) ggX6_isProduct_X6_in
theorem dX6_isProduct_0 : decode cX6_isProduct 0 = .ok (.iload_n 0, 1) := by decide +kernel
theorem dX6_isProduct_1 : decode cX6_isProduct 1 = .ok (.iconst 0, 1) := by decide +kernel
theorem dX6_isProduct_2 : decode cX6_isProduct 2 = .ok (.bipush 19, 2) := by decide +kernel
theorem dX6_isProduct_4 : decode cX6_isProduct 4 = .ok (.invokestatic 62, 3) := by decide +kernel
theorem dX6_isProduct_7 : decode cX6_isProduct 7 = .ok (.ireturn, 1) := by decide +kernel
set_option maxRecDepth 20000 in
theorem ggX6_isOrder_X6_in : GoodIn wsX6_isOrder wsX6_in := goodIn_r _ [5] (by decide +kernel) (by decide +kernel)
set_option maxRecDepth 20000 in
theorem gX6_isOrder_X6_in : GoodIn wsX6_isOrder (va_wsS RX6 62 yX6_in wsX6_in) := goodIn_app (goodIn_of _ (by decide +kernel)) ggX6_isOrder_X6_in
theorem dX6_isOrder_0 : decode cX6_isOrder 0 = .ok (.iload_n 1, 1) := by decide +kernel
theorem dX6_isOrder_1 : decode cX6_isOrder 1 = .ok (.iconst 0, 1) := by decide +kernel
theorem dX6_isOrder_2 : decode cX6_isOrder 2 = .ok (.aload_n 0, 1) := by decide +kernel
theorem dX6_isOrder_3 : decode cX6_isOrder 3 = .ok (.getfield 66, 3) := by decide +kernel
theorem dX6_isOrder_6 : decode cX6_isOrder 6 = .ok (.iconst 1, 1) := by decide +kernel
theorem dX6_isOrder_7 : decode cX6_isOrder 7 = .ok (.isub, 1) := by decide +kernel
theorem dX6_isOrder_8 : decode cX6_isOrder 8 = .ok (.invokestatic 62, 3) := by decide +kernel
theorem dX6_isOrder_11 : decode cX6_isOrder 11 = .ok (.ireturn, 1) := by decide +kernel
set_option maxRecDepth 20000 in
theorem ggX6_isBatch_X6_in : GoodIn wsX6_isBatch wsX6_in := goodIn_r _ [5] (by decide +kernel) (by decide +kernel)
set_option maxRecDepth 20000 in
theorem gX6_isBatch_X6_in : GoodIn wsX6_isBatch (va_wsS RX6 62 yX6_in wsX6_in) := goodIn_app (goodIn_of _ (by decide +kernel)) ggX6_isBatch_X6_in
theorem dX6_isBatch_0 : decode cX6_isBatch 0 = .ok (.iload_n 1, 1) := by decide +kernel
theorem dX6_isBatch_1 : decode cX6_isBatch 1 = .ok (.iconst 0, 1) := by decide +kernel
theorem dX6_isBatch_2 : decode cX6_isBatch 2 = .ok (.aload_n 0, 1) := by decide +kernel
theorem dX6_isBatch_3 : decode cX6_isBatch 3 = .ok (.getfield 69, 3) := by decide +kernel
theorem dX6_isBatch_6 : decode cX6_isBatch 6 = .ok (.iconst 1, 1) := by decide +kernel
theorem dX6_isBatch_7 : decode cX6_isBatch 7 = .ok (.isub, 1) := by decide +kernel
theorem dX6_isBatch_8 : decode cX6_isBatch 8 = .ok (.invokestatic 62, 3) := by decide +kernel
theorem dX6_isBatch_11 : decode cX6_isBatch 11 = .ok (.ireturn, 1) := by decide +kernel
theorem dX6_way_0 : decode cX6_way 0 = .ok (.iload_n 1, 1) := by decide +kernel
theorem dX6_way_1 : decode cX6_way 1 = .ok (.bipush 100, 2) := by decide +kernel
theorem dX6_way_3 : decode cX6_way 3 = .ok (.idiv, 1) := by decide +kernel
theorem dX6_way_4 : decode cX6_way 4 = .ok (.iload_n 2, 1) := by decide +kernel
theorem dX6_way_5 : decode cX6_way 5 = .ok (.bipush 100, 2) := by decide +kernel
theorem dX6_way_7 : decode cX6_way 7 = .ok (.idiv, 1) := by decide +kernel
theorem dX6_way_8 : decode cX6_way 8 = .ok (.isub, 1) := by decide +kernel
theorem dX6_way_9 : decode cX6_way 9 = .ok (.istore_n 3, 1) := by decide +kernel
theorem dX6_way_10 : decode cX6_way 10 = .ok (.iload_n 1, 1) := by decide +kernel
theorem dX6_way_11 : decode cX6_way 11 = .ok (.bipush 100, 2) := by decide +kernel
theorem dX6_way_13 : decode cX6_way 13 = .ok (.irem, 1) := by decide +kernel
theorem dX6_way_14 : decode cX6_way 14 = .ok (.istore 4, 2) := by decide +kernel
theorem dX6_way_16 : decode cX6_way 16 = .ok (.iload_n 2, 1) := by decide +kernel
theorem dX6_way_17 : decode cX6_way 17 = .ok (.bipush 100, 2) := by decide +kernel
theorem dX6_way_19 : decode cX6_way 19 = .ok (.irem, 1) := by decide +kernel
theorem dX6_way_20 : decode cX6_way 20 = .ok (.istore 5, 2) := by decide +kernel
theorem dX6_way_22 : decode cX6_way 22 = .ok (.iload_n 3, 1) := by decide +kernel
theorem dX6_way_23 : decode cX6_way 23 = .ok (.ifCond .ne 24, 3) := by decide +kernel
theorem dX6_way_26 : decode cX6_way 26 = .ok (.iload 4, 2) := by decide +kernel
theorem dX6_way_28 : decode cX6_way 28 = .ok (.iload 5, 2) := by decide +kernel
theorem dX6_way_30 : decode cX6_way 30 = .ok (.if_icmp .ge 11, 3) := by decide +kernel
theorem dX6_way_33 : decode cX6_way 33 = .ok (.iload 5, 2) := by decide +kernel
theorem dX6_way_35 : decode cX6_way 35 = .ok (.iload 4, 2) := by decide +kernel
theorem dX6_way_37 : decode cX6_way 37 = .ok (.isub, 1) := by decide +kernel
theorem dX6_way_38 : decode cX6_way 38 = .ok (.goto 8, 3) := by decide +kernel
theorem dX6_way_41 : decode cX6_way 41 = .ok (.iload 4, 2) := by decide +kernel
theorem dX6_way_43 : decode cX6_way 43 = .ok (.iload 5, 2) := by decide +kernel
theorem dX6_way_45 : decode cX6_way 45 = .ok (.isub, 1) := by decide +kernel
theorem dX6_way_46 : decode cX6_way 46 = .ok (.ireturn, 1) := by decide +kernel
theorem dX6_way_47 : decode cX6_way 47 = .ok (.iload 4, 2) := by decide +kernel
theorem dX6_way_49 : decode cX6_way 49 = .ok (.iload 5, 2) := by decide +kernel
theorem dX6_way_51 : decode cX6_way 51 = .ok (.iadd, 1) := by decide +kernel
theorem dX6_way_52 : decode cX6_way 52 = .ok (.istore 6, 2) := by decide +kernel
theorem dX6_way_54 : decode cX6_way 54 = .ok (.iconst 2, 1) := by decide +kernel
theorem dX6_way_55 : decode cX6_way 55 = .ok (.aload_n 0, 1) := by decide +kernel
theorem dX6_way_56 : decode cX6_way 56 = .ok (.getfield 53, 3) := by decide +kernel
theorem dX6_way_59 : decode cX6_way 59 = .ok (.iconst 1, 1) := by decide +kernel
theorem dX6_way_60 : decode cX6_way 60 = .ok (.iadd, 1) := by decide +kernel
theorem dX6_way_61 : decode cX6_way 61 = .ok (.imul, 1) := by decide +kernel
theorem dX6_way_62 : decode cX6_way 62 = .ok (.iload 6, 2) := by decide +kernel
theorem dX6_way_64 : decode cX6_way 64 = .ok (.isub, 1) := by decide +kernel
theorem dX6_way_65 : decode cX6_way 65 = .ok (.istore 7, 2) := by decide +kernel
theorem dX6_way_67 : decode cX6_way 67 = .ok (.iload_n 3, 1) := by decide +kernel
theorem dX6_way_68 : decode cX6_way 68 = .ok (.ifCond .ge 8, 3) := by decide +kernel
theorem dX6_way_71 : decode cX6_way 71 = .ok (.iload_n 3, 1) := by decide +kernel
theorem dX6_way_72 : decode cX6_way 72 = .ok (.ineg, 1) := by decide +kernel
theorem dX6_way_73 : decode cX6_way 73 = .ok (.goto 4, 3) := by decide +kernel
theorem dX6_way_76 : decode cX6_way 76 = .ok (.iload_n 3, 1) := by decide +kernel
theorem dX6_way_77 : decode cX6_way 77 = .ok (.aload_n 0, 1) := by decide +kernel
theorem dX6_way_78 : decode cX6_way 78 = .ok (.getfield 56, 3) := by decide +kernel
theorem dX6_way_81 : decode cX6_way 81 = .ok (.imul, 1) := by decide +kernel
theorem dX6_way_82 : decode cX6_way 82 = .ok (.iload 6, 2) := by decide +kernel
theorem dX6_way_84 : decode cX6_way 84 = .ok (.iload 7, 2) := by decide +kernel
theorem dX6_way_86 : decode cX6_way 86 = .ok (.if_icmp .ge 8, 3) := by decide +kernel
theorem dX6_way_89 : decode cX6_way 89 = .ok (.iload 6, 2) := by decide +kernel
theorem dX6_way_91 : decode cX6_way 91 = .ok (.goto 5, 3) := by decide +kernel
theorem dX6_way_94 : decode cX6_way 94 = .ok (.iload 7, 2) := by decide +kernel
theorem dX6_way_96 : decode cX6_way 96 = .ok (.iadd, 1) := by decide +kernel
theorem dX6_way_97 : decode cX6_way 97 = .ok (.ireturn, 1) := by decide +kernel
set_option maxRecDepth 20000 in
theorem ggX6_step_X6_way : GoodIn wsX6_step wsX6_way := goodIn_r _ [7, 8, 9, 10, 11, 12, 13, 14, 15, 16, 17, 18, 19, 20, 21, 22, 23, 24, 25, 26, 27, 28, 29, 30, 31] (by decide +kernel) (by decide +kernel)
set_option maxRecDepth 20000 in
theorem gX6_step_X6_way : GoodIn wsX6_step (wsV RX6 72 RX6 yX6_way wsX6_way) := goodIn_app (goodIn_of _ (by decide +kernel)) ggX6_step_X6_way
theorem dX6_step_0 : decode cX6_step 0 = .ok (.aload_n 0, 1) := by decide +kernel
theorem dX6_step_1 : decode cX6_step 1 = .ok (.iload_n 1, 1) := by decide +kernel
theorem dX6_step_2 : decode cX6_step 2 = .ok (.bipush 9, 2) := by decide +kernel
theorem dX6_step_4 : decode cX6_step 4 = .ok (.if_icmp .ne 7, 3) := by decide +kernel
theorem dX6_step_7 : decode cX6_step 7 = .ok (.iconst 0, 1) := by decide +kernel
theorem dX6_step_8 : decode cX6_step 8 = .ok (.goto 14, 3) := by decide +kernel
theorem dX6_step_11 : decode cX6_step 11 = .ok (.aload_n 0, 1) := by decide +kernel
theorem dX6_step_12 : decode cX6_step 12 = .ok (.getfield 13, 3) := by decide +kernel
theorem dX6_step_15 : decode cX6_step 15 = .ok (.aload_n 0, 1) := by decide +kernel
theorem dX6_step_16 : decode cX6_step 16 = .ok (.getfield 35, 3) := by decide +kernel
theorem dX6_step_19 : decode cX6_step 19 = .ok (.iload_n 1, 1) := by decide +kernel
theorem dX6_step_20 : decode cX6_step 20 = .ok (.iaload, 1) := by decide +kernel
theorem dX6_step_21 : decode cX6_step 21 = .ok (.iaload, 1) := by decide +kernel
theorem dX6_step_22 : decode cX6_step 22 = .ok (.iload_n 2, 1) := by decide +kernel
theorem dX6_step_23 : decode cX6_step 23 = .ok (.bipush 9, 2) := by decide +kernel
theorem dX6_step_25 : decode cX6_step 25 = .ok (.if_icmp .ne 7, 3) := by decide +kernel
theorem dX6_step_28 : decode cX6_step 28 = .ok (.iconst 0, 1) := by decide +kernel
theorem dX6_step_29 : decode cX6_step 29 = .ok (.goto 14, 3) := by decide +kernel
theorem dX6_step_32 : decode cX6_step 32 = .ok (.aload_n 0, 1) := by decide +kernel
theorem dX6_step_33 : decode cX6_step 33 = .ok (.getfield 13, 3) := by decide +kernel
theorem dX6_step_36 : decode cX6_step 36 = .ok (.aload_n 0, 1) := by decide +kernel
theorem dX6_step_37 : decode cX6_step 37 = .ok (.getfield 35, 3) := by decide +kernel
theorem dX6_step_40 : decode cX6_step 40 = .ok (.iload_n 2, 1) := by decide +kernel
theorem dX6_step_41 : decode cX6_step 41 = .ok (.iaload, 1) := by decide +kernel
theorem dX6_step_42 : decode cX6_step 42 = .ok (.iaload, 1) := by decide +kernel
theorem dX6_step_43 : decode cX6_step 43 = .ok (.invokevirtual 72, 3) := by decide +kernel
theorem dX6_step_46 : decode cX6_step 46 = .ok (.ireturn, 1) := by decide +kernel
set_option maxRecDepth 20000 in
theorem ggX6_layRoute_X6_wayOn : GoodIn wsX6_layRoute wsX6_wayOn := goodIn_r _ [10, 5, 1, 4, 11, 12, 13, 9, 14, 2, 3, 15, 16, 17, 18, 19, 20, 21, 22, 23, 24, 25, 26, 27, 28, 29, 30, 31, 32, 33, 34, 35, 36, 37, 38, 39, 40, 41, 42] (by decide +kernel) (by decide +kernel)
set_option maxRecDepth 20000 in
theorem gX6_layRoute_X6_wayOn : GoodIn wsX6_layRoute (wsV RX6 79 RX6 yX6_wayOn wsX6_wayOn) := goodIn_app (goodIn_of _ (by decide +kernel)) ggX6_layRoute_X6_wayOn
theorem dX6_layRoute_0 : decode cX6_layRoute 0 = .ok (.aload_n 0, 1) := by decide +kernel
theorem dX6_layRoute_1 : decode cX6_layRoute 1 = .ok (.iconst 0, 1) := by decide +kernel
theorem dX6_layRoute_2 : decode cX6_layRoute 2 = .ok (.putfield 76, 3) := by decide +kernel
theorem dX6_layRoute_5 : decode cX6_layRoute 5 = .ok (.iconst 0, 1) := by decide +kernel
theorem dX6_layRoute_6 : decode cX6_layRoute 6 = .ok (.istore_n 2, 1) := by decide +kernel
theorem dX6_layRoute_7 : decode cX6_layRoute 7 = .ok (.iload_n 2, 1) := by decide +kernel
theorem dX6_layRoute_8 : decode cX6_layRoute 8 = .ok (.bipush 20, 2) := by decide +kernel
theorem dX6_layRoute_10 : decode cX6_layRoute 10 = .ok (.if_icmp .ge 86, 3) := by decide +kernel
theorem dX6_layRoute_13 : decode cX6_layRoute 13 = .ok (.iload_n 1, 1) := by decide +kernel
theorem dX6_layRoute_14 : decode cX6_layRoute 14 = .ok (.iload_n 2, 1) := by decide +kernel
theorem dX6_layRoute_15 : decode cX6_layRoute 15 = .ok (.ishr, 1) := by decide +kernel
theorem dX6_layRoute_16 : decode cX6_layRoute 16 = .ok (.iconst 1, 1) := by decide +kernel
theorem dX6_layRoute_17 : decode cX6_layRoute 17 = .ok (.iand, 1) := by decide +kernel
theorem dX6_layRoute_18 : decode cX6_layRoute 18 = .ok (.iconst 1, 1) := by decide +kernel
theorem dX6_layRoute_19 : decode cX6_layRoute 19 = .ok (.if_icmp .ne 71, 3) := by decide +kernel
theorem dX6_layRoute_22 : decode cX6_layRoute 22 = .ok (.aload_n 0, 1) := by decide +kernel
theorem dX6_layRoute_23 : decode cX6_layRoute 23 = .ok (.getfield 76, 3) := by decide +kernel
theorem dX6_layRoute_26 : decode cX6_layRoute 26 = .ok (.istore_n 3, 1) := by decide +kernel
theorem dX6_layRoute_27 : decode cX6_layRoute 27 = .ok (.iload_n 3, 1) := by decide +kernel
theorem dX6_layRoute_28 : decode cX6_layRoute 28 = .ok (.ifCond .le 45, 3) := by decide +kernel
theorem dX6_layRoute_31 : decode cX6_layRoute 31 = .ok (.aload_n 0, 1) := by decide +kernel
theorem dX6_layRoute_32 : decode cX6_layRoute 32 = .ok (.getfield 13, 3) := by decide +kernel
theorem dX6_layRoute_35 : decode cX6_layRoute 35 = .ok (.aload_n 0, 1) := by decide +kernel
theorem dX6_layRoute_36 : decode cX6_layRoute 36 = .ok (.getfield 35, 3) := by decide +kernel
theorem dX6_layRoute_39 : decode cX6_layRoute 39 = .ok (.iload_n 3, 1) := by decide +kernel
theorem dX6_layRoute_40 : decode cX6_layRoute 40 = .ok (.iconst 1, 1) := by decide +kernel
theorem dX6_layRoute_41 : decode cX6_layRoute 41 = .ok (.isub, 1) := by decide +kernel
theorem dX6_layRoute_42 : decode cX6_layRoute 42 = .ok (.iaload, 1) := by decide +kernel
theorem dX6_layRoute_43 : decode cX6_layRoute 43 = .ok (.iaload, 1) := by decide +kernel
theorem dX6_layRoute_44 : decode cX6_layRoute 44 = .ok (.aload_n 0, 1) := by decide +kernel
theorem dX6_layRoute_45 : decode cX6_layRoute 45 = .ok (.getfield 13, 3) := by decide +kernel
theorem dX6_layRoute_48 : decode cX6_layRoute 48 = .ok (.iload_n 2, 1) := by decide +kernel
theorem dX6_layRoute_49 : decode cX6_layRoute 49 = .ok (.iaload, 1) := by decide +kernel
theorem dX6_layRoute_50 : decode cX6_layRoute 50 = .ok (.if_icmp .le 23, 3) := by decide +kernel
theorem dX6_layRoute_53 : decode cX6_layRoute 53 = .ok (.aload_n 0, 1) := by decide +kernel
theorem dX6_layRoute_54 : decode cX6_layRoute 54 = .ok (.getfield 35, 3) := by decide +kernel
theorem dX6_layRoute_57 : decode cX6_layRoute 57 = .ok (.iload_n 3, 1) := by decide +kernel
theorem dX6_layRoute_58 : decode cX6_layRoute 58 = .ok (.aload_n 0, 1) := by decide +kernel
theorem dX6_layRoute_59 : decode cX6_layRoute 59 = .ok (.getfield 35, 3) := by decide +kernel
theorem dX6_layRoute_62 : decode cX6_layRoute 62 = .ok (.iload_n 3, 1) := by decide +kernel
theorem dX6_layRoute_63 : decode cX6_layRoute 63 = .ok (.iconst 1, 1) := by decide +kernel
theorem dX6_layRoute_64 : decode cX6_layRoute 64 = .ok (.isub, 1) := by decide +kernel
theorem dX6_layRoute_65 : decode cX6_layRoute 65 = .ok (.iaload, 1) := by decide +kernel
theorem dX6_layRoute_66 : decode cX6_layRoute 66 = .ok (.iastore, 1) := by decide +kernel
theorem dX6_layRoute_67 : decode cX6_layRoute 67 = .ok (.iinc 3 (-1), 3) := by decide +kernel
theorem dX6_layRoute_70 : decode cX6_layRoute 70 = .ok (.goto (-43), 3) := by decide +kernel
theorem dX6_layRoute_73 : decode cX6_layRoute 73 = .ok (.aload_n 0, 1) := by decide +kernel
theorem dX6_layRoute_74 : decode cX6_layRoute 74 = .ok (.getfield 35, 3) := by decide +kernel
theorem dX6_layRoute_77 : decode cX6_layRoute 77 = .ok (.iload_n 3, 1) := by decide +kernel
theorem dX6_layRoute_78 : decode cX6_layRoute 78 = .ok (.iload_n 2, 1) := by decide +kernel
theorem dX6_layRoute_79 : decode cX6_layRoute 79 = .ok (.iastore, 1) := by decide +kernel
theorem dX6_layRoute_80 : decode cX6_layRoute 80 = .ok (.aload_n 0, 1) := by decide +kernel
theorem dX6_layRoute_81 : decode cX6_layRoute 81 = .ok (.dup, 1) := by decide +kernel
theorem dX6_layRoute_82 : decode cX6_layRoute 82 = .ok (.getfield 76, 3) := by decide +kernel
theorem dX6_layRoute_85 : decode cX6_layRoute 85 = .ok (.iconst 1, 1) := by decide +kernel
theorem dX6_layRoute_86 : decode cX6_layRoute 86 = .ok (.iadd, 1) := by decide +kernel
theorem dX6_layRoute_87 : decode cX6_layRoute 87 = .ok (.putfield 76, 3) := by decide +kernel
theorem dX6_layRoute_90 : decode cX6_layRoute 90 = .ok (.iinc 2 1, 3) := by decide +kernel
theorem dX6_layRoute_93 : decode cX6_layRoute 93 = .ok (.goto (-86), 3) := by decide +kernel
theorem dX6_layRoute_96 : decode cX6_layRoute 96 = .ok (.iconst 0, 1) := by decide +kernel
theorem dX6_layRoute_97 : decode cX6_layRoute 97 = .ok (.istore_n 2, 1) := by decide +kernel
theorem dX6_layRoute_98 : decode cX6_layRoute 98 = .ok (.iload_n 2, 1) := by decide +kernel
theorem dX6_layRoute_99 : decode cX6_layRoute 99 = .ok (.iconst 1, 1) := by decide +kernel
theorem dX6_layRoute_100 : decode cX6_layRoute 100 = .ok (.aload_n 0, 1) := by decide +kernel
theorem dX6_layRoute_101 : decode cX6_layRoute 101 = .ok (.getfield 76, 3) := by decide +kernel
theorem dX6_layRoute_104 : decode cX6_layRoute 104 = .ok (.ishl, 1) := by decide +kernel
theorem dX6_layRoute_105 : decode cX6_layRoute 105 = .ok (.if_icmp .ge 79, 3) := by decide +kernel
theorem dX6_layRoute_108 : decode cX6_layRoute 108 = .ok (.iconst 0, 1) := by decide +kernel
theorem dX6_layRoute_109 : decode cX6_layRoute 109 = .ok (.istore_n 3, 1) := by decide +kernel
theorem dX6_layRoute_110 : decode cX6_layRoute 110 = .ok (.iload_n 3, 1) := by decide +kernel
theorem dX6_layRoute_111 : decode cX6_layRoute 111 = .ok (.bipush 10, 2) := by decide +kernel
theorem dX6_layRoute_113 : decode cX6_layRoute 113 = .ok (.if_icmp .ge 65, 3) := by decide +kernel
theorem dX6_layRoute_116 : decode cX6_layRoute 116 = .ok (.iload_n 3, 1) := by decide +kernel
theorem dX6_layRoute_117 : decode cX6_layRoute 117 = .ok (.bipush 9, 2) := by decide +kernel
theorem dX6_layRoute_119 : decode cX6_layRoute 119 = .ok (.if_icmp .eq 19, 3) := by decide +kernel
theorem dX6_layRoute_122 : decode cX6_layRoute 122 = .ok (.iload_n 3, 1) := by decide +kernel
theorem dX6_layRoute_123 : decode cX6_layRoute 123 = .ok (.aload_n 0, 1) := by decide +kernel
theorem dX6_layRoute_124 : decode cX6_layRoute 124 = .ok (.getfield 76, 3) := by decide +kernel
theorem dX6_layRoute_127 : decode cX6_layRoute 127 = .ok (.if_icmp .ge 15, 3) := by decide +kernel
theorem dX6_layRoute_130 : decode cX6_layRoute 130 = .ok (.iload_n 2, 1) := by decide +kernel
theorem dX6_layRoute_131 : decode cX6_layRoute 131 = .ok (.iload_n 3, 1) := by decide +kernel
theorem dX6_layRoute_132 : decode cX6_layRoute 132 = .ok (.ishr, 1) := by decide +kernel
theorem dX6_layRoute_133 : decode cX6_layRoute 133 = .ok (.iconst 1, 1) := by decide +kernel
theorem dX6_layRoute_134 : decode cX6_layRoute 134 = .ok (.iand, 1) := by decide +kernel
theorem dX6_layRoute_135 : decode cX6_layRoute 135 = .ok (.ifCond .ne 7, 3) := by decide +kernel
theorem dX6_layRoute_138 : decode cX6_layRoute 138 = .ok (.iconst 1, 1) := by decide +kernel
theorem dX6_layRoute_139 : decode cX6_layRoute 139 = .ok (.goto 4, 3) := by decide +kernel
theorem dX6_layRoute_142 : decode cX6_layRoute 142 = .ok (.iconst 0, 1) := by decide +kernel
theorem dX6_layRoute_143 : decode cX6_layRoute 143 = .ok (.istore 4, 2) := by decide +kernel
theorem dX6_layRoute_145 : decode cX6_layRoute 145 = .ok (.aload_n 0, 1) := by decide +kernel
theorem dX6_layRoute_146 : decode cX6_layRoute 146 = .ok (.getfield 38, 3) := by decide +kernel
theorem dX6_layRoute_149 : decode cX6_layRoute 149 = .ok (.bipush 10, 2) := by decide +kernel
theorem dX6_layRoute_151 : decode cX6_layRoute 151 = .ok (.iload_n 2, 1) := by decide +kernel
theorem dX6_layRoute_152 : decode cX6_layRoute 152 = .ok (.imul, 1) := by decide +kernel
theorem dX6_layRoute_153 : decode cX6_layRoute 153 = .ok (.iload_n 3, 1) := by decide +kernel
theorem dX6_layRoute_154 : decode cX6_layRoute 154 = .ok (.iadd, 1) := by decide +kernel
theorem dX6_layRoute_155 : decode cX6_layRoute 155 = .ok (.iload 4, 2) := by decide +kernel
theorem dX6_layRoute_157 : decode cX6_layRoute 157 = .ok (.ifCond .eq 12, 3) := by decide +kernel
theorem dX6_layRoute_160 : decode cX6_layRoute 160 = .ok (.aload_n 0, 1) := by decide +kernel
theorem dX6_layRoute_161 : decode cX6_layRoute 161 = .ok (.iload_n 2, 1) := by decide +kernel
theorem dX6_layRoute_162 : decode cX6_layRoute 162 = .ok (.iload_n 3, 1) := by decide +kernel
theorem dX6_layRoute_163 : decode cX6_layRoute 163 = .ok (.invokevirtual 79, 3) := by decide +kernel
theorem dX6_layRoute_166 : decode cX6_layRoute 166 = .ok (.goto 5, 3) := by decide +kernel
theorem dX6_layRoute_169 : decode cX6_layRoute 169 = .ok (.ldc 82, 2) := by decide +kernel
theorem dX6_layRoute_171 : decode cX6_layRoute 171 = .ok (.iastore, 1) := by decide +kernel
theorem dX6_layRoute_172 : decode cX6_layRoute 172 = .ok (.iinc 3 1, 3) := by decide +kernel
theorem dX6_layRoute_175 : decode cX6_layRoute 175 = .ok (.goto (-65), 3) := by decide +kernel
theorem dX6_layRoute_178 : decode cX6_layRoute 178 = .ok (.iinc 2 1, 3) := by decide +kernel
theorem dX6_layRoute_181 : decode cX6_layRoute 181 = .ok (.goto (-83), 3) := by decide +kernel
theorem dX6_layRoute_184 : decode cX6_layRoute 184 = .ok (.return_, 1) := by decide +kernel
set_option maxRecDepth 20000 in
theorem ggX6_wayOn_X6_step : GoodIn wsX6_wayOn wsX6_step := goodIn_r _ [8, 9, 10, 11, 12, 13, 7, 14, 15, 16, 17, 18, 19, 20, 21, 22, 23, 24, 25, 26, 27, 28, 29, 30, 31, 32, 33, 34, 35, 36, 37, 38] (by decide +kernel) (by decide +kernel)
set_option maxRecDepth 20000 in
theorem gX6_wayOn_X6_step : GoodIn wsX6_wayOn (wsV RX6 83 RX6 yX6_step wsX6_step) := goodIn_app (goodIn_of _ (by decide +kernel)) ggX6_wayOn_X6_step
theorem dX6_wayOn_0 : decode cX6_wayOn 0 = .ok (.iload_n 1, 1) := by decide +kernel
theorem dX6_wayOn_1 : decode cX6_wayOn 1 = .ok (.ifCond .ne 13, 3) := by decide +kernel
theorem dX6_wayOn_4 : decode cX6_wayOn 4 = .ok (.aload_n 0, 1) := by decide +kernel
theorem dX6_wayOn_5 : decode cX6_wayOn 5 = .ok (.iload_n 2, 1) := by decide +kernel
theorem dX6_wayOn_6 : decode cX6_wayOn 6 = .ok (.bipush 9, 2) := by decide +kernel
theorem dX6_wayOn_8 : decode cX6_wayOn 8 = .ok (.invokevirtual 83, 3) := by decide +kernel
theorem dX6_wayOn_11 : decode cX6_wayOn 11 = .ok (.goto 5, 3) := by decide +kernel
theorem dX6_wayOn_14 : decode cX6_wayOn 14 = .ok (.ldc 82, 2) := by decide +kernel
theorem dX6_wayOn_16 : decode cX6_wayOn 16 = .ok (.istore_n 3, 1) := by decide +kernel
theorem dX6_wayOn_17 : decode cX6_wayOn 17 = .ok (.iconst 0, 1) := by decide +kernel
theorem dX6_wayOn_18 : decode cX6_wayOn 18 = .ok (.istore 4, 2) := by decide +kernel
theorem dX6_wayOn_20 : decode cX6_wayOn 20 = .ok (.iload 4, 2) := by decide +kernel
theorem dX6_wayOn_22 : decode cX6_wayOn 22 = .ok (.aload_n 0, 1) := by decide +kernel
theorem dX6_wayOn_23 : decode cX6_wayOn 23 = .ok (.getfield 76, 3) := by decide +kernel
theorem dX6_wayOn_26 : decode cX6_wayOn 26 = .ok (.if_icmp .ge 59, 3) := by decide +kernel
theorem dX6_wayOn_29 : decode cX6_wayOn 29 = .ok (.iload_n 1, 1) := by decide +kernel
theorem dX6_wayOn_30 : decode cX6_wayOn 30 = .ok (.iload 4, 2) := by decide +kernel
theorem dX6_wayOn_32 : decode cX6_wayOn 32 = .ok (.ishr, 1) := by decide +kernel
theorem dX6_wayOn_33 : decode cX6_wayOn 33 = .ok (.iconst 1, 1) := by decide +kernel
theorem dX6_wayOn_34 : decode cX6_wayOn 34 = .ok (.iand, 1) := by decide +kernel
theorem dX6_wayOn_35 : decode cX6_wayOn 35 = .ok (.iconst 1, 1) := by decide +kernel
theorem dX6_wayOn_36 : decode cX6_wayOn 36 = .ok (.if_icmp .ne 43, 3) := by decide +kernel
theorem dX6_wayOn_39 : decode cX6_wayOn 39 = .ok (.aload_n 0, 1) := by decide +kernel
theorem dX6_wayOn_40 : decode cX6_wayOn 40 = .ok (.iload_n 2, 1) := by decide +kernel
theorem dX6_wayOn_41 : decode cX6_wayOn 41 = .ok (.iload 4, 2) := by decide +kernel
theorem dX6_wayOn_43 : decode cX6_wayOn 43 = .ok (.invokevirtual 83, 3) := by decide +kernel
theorem dX6_wayOn_46 : decode cX6_wayOn 46 = .ok (.aload_n 0, 1) := by decide +kernel
theorem dX6_wayOn_47 : decode cX6_wayOn 47 = .ok (.getfield 38, 3) := by decide +kernel
theorem dX6_wayOn_50 : decode cX6_wayOn 50 = .ok (.bipush 10, 2) := by decide +kernel
theorem dX6_wayOn_52 : decode cX6_wayOn 52 = .ok (.iload_n 1, 1) := by decide +kernel
theorem dX6_wayOn_53 : decode cX6_wayOn 53 = .ok (.iconst 1, 1) := by decide +kernel
theorem dX6_wayOn_54 : decode cX6_wayOn 54 = .ok (.iload 4, 2) := by decide +kernel
theorem dX6_wayOn_56 : decode cX6_wayOn 56 = .ok (.ishl, 1) := by decide +kernel
theorem dX6_wayOn_57 : decode cX6_wayOn 57 = .ok (.isub, 1) := by decide +kernel
theorem dX6_wayOn_58 : decode cX6_wayOn 58 = .ok (.imul, 1) := by decide +kernel
theorem dX6_wayOn_59 : decode cX6_wayOn 59 = .ok (.iload 4, 2) := by decide +kernel
theorem dX6_wayOn_61 : decode cX6_wayOn 61 = .ok (.iadd, 1) := by decide +kernel
theorem dX6_wayOn_62 : decode cX6_wayOn 62 = .ok (.iaload, 1) := by decide +kernel
theorem dX6_wayOn_63 : decode cX6_wayOn 63 = .ok (.iadd, 1) := by decide +kernel
theorem dX6_wayOn_64 : decode cX6_wayOn 64 = .ok (.istore 5, 2) := by decide +kernel
theorem dX6_wayOn_66 : decode cX6_wayOn 66 = .ok (.iload 5, 2) := by decide +kernel
theorem dX6_wayOn_68 : decode cX6_wayOn 68 = .ok (.iload_n 3, 1) := by decide +kernel
theorem dX6_wayOn_69 : decode cX6_wayOn 69 = .ok (.if_icmp .ge 8, 3) := by decide +kernel
theorem dX6_wayOn_72 : decode cX6_wayOn 72 = .ok (.iload 5, 2) := by decide +kernel
theorem dX6_wayOn_74 : decode cX6_wayOn 74 = .ok (.goto 4, 3) := by decide +kernel
theorem dX6_wayOn_77 : decode cX6_wayOn 77 = .ok (.iload_n 3, 1) := by decide +kernel
theorem dX6_wayOn_78 : decode cX6_wayOn 78 = .ok (.istore_n 3, 1) := by decide +kernel
theorem dX6_wayOn_79 : decode cX6_wayOn 79 = .ok (.iinc 4 1, 3) := by decide +kernel
theorem dX6_wayOn_82 : decode cX6_wayOn 82 = .ok (.goto (-62), 3) := by decide +kernel
theorem dX6_wayOn_85 : decode cX6_wayOn 85 = .ok (.iload_n 3, 1) := by decide +kernel
theorem dX6_wayOn_86 : decode cX6_wayOn 86 = .ok (.ireturn, 1) := by decide +kernel
set_option maxRecDepth 20000 in
theorem ggX6_length_X6_layRoute : GoodIn wsX6_length wsX6_layRoute := goodIn_r _ [7, 2, 8, 9, 1, 10, 11, 12, 13, 6, 14, 15, 16, 17, 18, 19, 20, 21, 22, 23, 24, 25, 26, 27, 28, 29, 30, 31, 32, 33, 34, 35, 36, 37, 38, 39, 40, 41, 42, 43, 44, 45, 46] (by decide +kernel) (by decide +kernel)
set_option maxRecDepth 20000 in
theorem gX6_length_X6_layRoute : GoodIn wsX6_length (wsV RX6 86 RX6 yX6_layRoute wsX6_layRoute) := goodIn_app (goodIn_of _ (by decide +kernel)) ggX6_length_X6_layRoute
theorem dX6_length_0 : decode cX6_length 0 = .ok (.aload_n 0, 1) := by decide +kernel
theorem dX6_length_1 : decode cX6_length 1 = .ok (.iload_n 1, 1) := by decide +kernel
theorem dX6_length_2 : decode cX6_length 2 = .ok (.invokevirtual 86, 3) := by decide +kernel
theorem dX6_length_5 : decode cX6_length 5 = .ok (.aload_n 0, 1) := by decide +kernel
theorem dX6_length_6 : decode cX6_length 6 = .ok (.getfield 38, 3) := by decide +kernel
theorem dX6_length_9 : decode cX6_length 9 = .ok (.bipush 10, 2) := by decide +kernel
theorem dX6_length_11 : decode cX6_length 11 = .ok (.iconst 1, 1) := by decide +kernel
theorem dX6_length_12 : decode cX6_length 12 = .ok (.aload_n 0, 1) := by decide +kernel
theorem dX6_length_13 : decode cX6_length 13 = .ok (.getfield 76, 3) := by decide +kernel
theorem dX6_length_16 : decode cX6_length 16 = .ok (.ishl, 1) := by decide +kernel
theorem dX6_length_17 : decode cX6_length 17 = .ok (.iconst 1, 1) := by decide +kernel
theorem dX6_length_18 : decode cX6_length 18 = .ok (.isub, 1) := by decide +kernel
theorem dX6_length_19 : decode cX6_length 19 = .ok (.imul, 1) := by decide +kernel
theorem dX6_length_20 : decode cX6_length 20 = .ok (.bipush 9, 2) := by decide +kernel
theorem dX6_length_22 : decode cX6_length 22 = .ok (.iadd, 1) := by decide +kernel
theorem dX6_length_23 : decode cX6_length 23 = .ok (.iaload, 1) := by decide +kernel
theorem dX6_length_24 : decode cX6_length 24 = .ok (.ireturn, 1) := by decide +kernel
set_option maxRecDepth 20000 in
theorem ggX6_layPath_X6_layRoute : GoodIn wsX6_layPath wsX6_layRoute := goodIn_r _ [8, 1, 9, 10, 2, 11, 12, 13, 14, 7, 15, 16, 17, 18, 19, 20, 21, 22, 23, 24, 25, 26, 27, 28, 29, 30, 31, 32, 33, 34, 35, 36, 37, 38, 39, 40, 41, 42, 43, 44, 45, 46, 47] (by decide +kernel) (by decide +kernel)
set_option maxRecDepth 20000 in
theorem gX6_layPath_X6_layRoute : GoodIn wsX6_layPath (wsV RX6 86 RX6 yX6_layRoute wsX6_layRoute) := goodIn_app (goodIn_of _ (by decide +kernel)) ggX6_layPath_X6_layRoute
set_option maxRecDepth 20000 in
theorem ggX6_layPath_X6_step : GoodIn wsX6_layPath wsX6_step := goodIn_r _ [19, 9, 10, 20, 21, 22, 7, 23, 24, 25, 26, 27, 28, 29, 30, 31, 32, 33, 34, 35, 36, 37, 38, 39, 40, 41, 42, 43, 44, 45, 46, 47] (by decide +kernel) (by decide +kernel)
set_option maxRecDepth 20000 in
theorem gX6_layPath_X6_step : GoodIn wsX6_layPath (wsV RX6 83 RX6 yX6_step wsX6_step) := goodIn_app (goodIn_of _ (by decide +kernel)) ggX6_layPath_X6_step
theorem dX6_layPath_0 : decode cX6_layPath 0 = .ok (.aload_n 0, 1) := by decide +kernel
theorem dX6_layPath_1 : decode cX6_layPath 1 = .ok (.iload_n 1, 1) := by decide +kernel
theorem dX6_layPath_2 : decode cX6_layPath 2 = .ok (.invokevirtual 86, 3) := by decide +kernel
theorem dX6_layPath_5 : decode cX6_layPath 5 = .ok (.iconst 1, 1) := by decide +kernel
theorem dX6_layPath_6 : decode cX6_layPath 6 = .ok (.aload_n 0, 1) := by decide +kernel
theorem dX6_layPath_7 : decode cX6_layPath 7 = .ok (.getfield 76, 3) := by decide +kernel
theorem dX6_layPath_10 : decode cX6_layPath 10 = .ok (.ishl, 1) := by decide +kernel
theorem dX6_layPath_11 : decode cX6_layPath 11 = .ok (.iconst 1, 1) := by decide +kernel
theorem dX6_layPath_12 : decode cX6_layPath 12 = .ok (.isub, 1) := by decide +kernel
theorem dX6_layPath_13 : decode cX6_layPath 13 = .ok (.istore_n 2, 1) := by decide +kernel
theorem dX6_layPath_14 : decode cX6_layPath 14 = .ok (.bipush 9, 2) := by decide +kernel
theorem dX6_layPath_16 : decode cX6_layPath 16 = .ok (.istore_n 3, 1) := by decide +kernel
theorem dX6_layPath_17 : decode cX6_layPath 17 = .ok (.iconst 0, 1) := by decide +kernel
theorem dX6_layPath_18 : decode cX6_layPath 18 = .ok (.istore 4, 2) := by decide +kernel
theorem dX6_layPath_20 : decode cX6_layPath 20 = .ok (.iload 4, 2) := by decide +kernel
theorem dX6_layPath_22 : decode cX6_layPath 22 = .ok (.aload_n 0, 1) := by decide +kernel
theorem dX6_layPath_23 : decode cX6_layPath 23 = .ok (.getfield 76, 3) := by decide +kernel
theorem dX6_layPath_26 : decode cX6_layPath 26 = .ok (.if_icmp .ge 120, 3) := by decide +kernel
theorem dX6_layPath_29 : decode cX6_layPath 29 = .ok (.iconst (-1), 1) := by decide +kernel
theorem dX6_layPath_30 : decode cX6_layPath 30 = .ok (.istore 5, 2) := by decide +kernel
theorem dX6_layPath_32 : decode cX6_layPath 32 = .ok (.aload_n 0, 1) := by decide +kernel
theorem dX6_layPath_33 : decode cX6_layPath 33 = .ok (.getfield 76, 3) := by decide +kernel
theorem dX6_layPath_36 : decode cX6_layPath 36 = .ok (.iconst 1, 1) := by decide +kernel
theorem dX6_layPath_37 : decode cX6_layPath 37 = .ok (.isub, 1) := by decide +kernel
theorem dX6_layPath_38 : decode cX6_layPath 38 = .ok (.istore 6, 2) := by decide +kernel
theorem dX6_layPath_40 : decode cX6_layPath 40 = .ok (.iload 6, 2) := by decide +kernel
theorem dX6_layPath_42 : decode cX6_layPath 42 = .ok (.ifCond .lt 79, 3) := by decide +kernel
theorem dX6_layPath_45 : decode cX6_layPath 45 = .ok (.iload_n 2, 1) := by decide +kernel
theorem dX6_layPath_46 : decode cX6_layPath 46 = .ok (.iload 6, 2) := by decide +kernel
theorem dX6_layPath_48 : decode cX6_layPath 48 = .ok (.ishr, 1) := by decide +kernel
theorem dX6_layPath_49 : decode cX6_layPath 49 = .ok (.iconst 1, 1) := by decide +kernel
theorem dX6_layPath_50 : decode cX6_layPath 50 = .ok (.iand, 1) := by decide +kernel
theorem dX6_layPath_51 : decode cX6_layPath 51 = .ok (.iconst 1, 1) := by decide +kernel
theorem dX6_layPath_52 : decode cX6_layPath 52 = .ok (.if_icmp .ne 46, 3) := by decide +kernel
theorem dX6_layPath_55 : decode cX6_layPath 55 = .ok (.aload_n 0, 1) := by decide +kernel
theorem dX6_layPath_56 : decode cX6_layPath 56 = .ok (.iload_n 3, 1) := by decide +kernel
theorem dX6_layPath_57 : decode cX6_layPath 57 = .ok (.iload 6, 2) := by decide +kernel
theorem dX6_layPath_59 : decode cX6_layPath 59 = .ok (.invokevirtual 83, 3) := by decide +kernel
theorem dX6_layPath_62 : decode cX6_layPath 62 = .ok (.aload_n 0, 1) := by decide +kernel
theorem dX6_layPath_63 : decode cX6_layPath 63 = .ok (.getfield 38, 3) := by decide +kernel
theorem dX6_layPath_66 : decode cX6_layPath 66 = .ok (.bipush 10, 2) := by decide +kernel
theorem dX6_layPath_68 : decode cX6_layPath 68 = .ok (.iload_n 2, 1) := by decide +kernel
theorem dX6_layPath_69 : decode cX6_layPath 69 = .ok (.iconst 1, 1) := by decide +kernel
theorem dX6_layPath_70 : decode cX6_layPath 70 = .ok (.iload 6, 2) := by decide +kernel
theorem dX6_layPath_72 : decode cX6_layPath 72 = .ok (.ishl, 1) := by decide +kernel
theorem dX6_layPath_73 : decode cX6_layPath 73 = .ok (.isub, 1) := by decide +kernel
theorem dX6_layPath_74 : decode cX6_layPath 74 = .ok (.imul, 1) := by decide +kernel
theorem dX6_layPath_75 : decode cX6_layPath 75 = .ok (.iload 6, 2) := by decide +kernel
theorem dX6_layPath_77 : decode cX6_layPath 77 = .ok (.iadd, 1) := by decide +kernel
theorem dX6_layPath_78 : decode cX6_layPath 78 = .ok (.iaload, 1) := by decide +kernel
theorem dX6_layPath_79 : decode cX6_layPath 79 = .ok (.iadd, 1) := by decide +kernel
theorem dX6_layPath_80 : decode cX6_layPath 80 = .ok (.aload_n 0, 1) := by decide +kernel
theorem dX6_layPath_81 : decode cX6_layPath 81 = .ok (.getfield 38, 3) := by decide +kernel
theorem dX6_layPath_84 : decode cX6_layPath 84 = .ok (.bipush 10, 2) := by decide +kernel
theorem dX6_layPath_86 : decode cX6_layPath 86 = .ok (.iload_n 2, 1) := by decide +kernel
theorem dX6_layPath_87 : decode cX6_layPath 87 = .ok (.imul, 1) := by decide +kernel
theorem dX6_layPath_88 : decode cX6_layPath 88 = .ok (.iload_n 3, 1) := by decide +kernel
theorem dX6_layPath_89 : decode cX6_layPath 89 = .ok (.iadd, 1) := by decide +kernel
theorem dX6_layPath_90 : decode cX6_layPath 90 = .ok (.iaload, 1) := by decide +kernel
theorem dX6_layPath_91 : decode cX6_layPath 91 = .ok (.if_icmp .ne 7, 3) := by decide +kernel
theorem dX6_layPath_94 : decode cX6_layPath 94 = .ok (.iconst 1, 1) := by decide +kernel
theorem dX6_layPath_95 : decode cX6_layPath 95 = .ok (.goto 4, 3) := by decide +kernel
theorem dX6_layPath_98 : decode cX6_layPath 98 = .ok (.iconst 0, 1) := by decide +kernel
theorem dX6_layPath_99 : decode cX6_layPath 99 = .ok (.istore 7, 2) := by decide +kernel
theorem dX6_layPath_101 : decode cX6_layPath 101 = .ok (.iload 7, 2) := by decide +kernel
theorem dX6_layPath_103 : decode cX6_layPath 103 = .ok (.ifCond .eq 8, 3) := by decide +kernel
theorem dX6_layPath_106 : decode cX6_layPath 106 = .ok (.iload 6, 2) := by decide +kernel
theorem dX6_layPath_108 : decode cX6_layPath 108 = .ok (.goto 5, 3) := by decide +kernel
theorem dX6_layPath_111 : decode cX6_layPath 111 = .ok (.iload 5, 2) := by decide +kernel
theorem dX6_layPath_113 : decode cX6_layPath 113 = .ok (.istore 5, 2) := by decide +kernel
theorem dX6_layPath_115 : decode cX6_layPath 115 = .ok (.iinc 6 (-1), 3) := by decide +kernel
theorem dX6_layPath_118 : decode cX6_layPath 118 = .ok (.goto (-78), 3) := by decide +kernel
theorem dX6_layPath_121 : decode cX6_layPath 121 = .ok (.aload_n 0, 1) := by decide +kernel
theorem dX6_layPath_122 : decode cX6_layPath 122 = .ok (.getfield 41, 3) := by decide +kernel
theorem dX6_layPath_125 : decode cX6_layPath 125 = .ok (.iload 4, 2) := by decide +kernel
theorem dX6_layPath_127 : decode cX6_layPath 127 = .ok (.iload 5, 2) := by decide +kernel
theorem dX6_layPath_129 : decode cX6_layPath 129 = .ok (.iastore, 1) := by decide +kernel
theorem dX6_layPath_130 : decode cX6_layPath 130 = .ok (.iload_n 2, 1) := by decide +kernel
theorem dX6_layPath_131 : decode cX6_layPath 131 = .ok (.iconst 1, 1) := by decide +kernel
theorem dX6_layPath_132 : decode cX6_layPath 132 = .ok (.iload 5, 2) := by decide +kernel
theorem dX6_layPath_134 : decode cX6_layPath 134 = .ok (.ishl, 1) := by decide +kernel
theorem dX6_layPath_135 : decode cX6_layPath 135 = .ok (.isub, 1) := by decide +kernel
theorem dX6_layPath_136 : decode cX6_layPath 136 = .ok (.istore_n 2, 1) := by decide +kernel
theorem dX6_layPath_137 : decode cX6_layPath 137 = .ok (.iload 5, 2) := by decide +kernel
theorem dX6_layPath_139 : decode cX6_layPath 139 = .ok (.istore_n 3, 1) := by decide +kernel
theorem dX6_layPath_140 : decode cX6_layPath 140 = .ok (.iinc 4 1, 3) := by decide +kernel
theorem dX6_layPath_143 : decode cX6_layPath 143 = .ok (.goto (-123), 3) := by decide +kernel
theorem dX6_layPath_146 : decode cX6_layPath 146 = .ok (.return_, 1) := by decide +kernel
set_option maxRecDepth 20000 in
theorem ggX6_put_X6_isProduct : GoodIn wsX6_put wsX6_isProduct := goodIn_r _ [9, 10, 11, 8, 12] (by decide +kernel) (by decide +kernel)
set_option maxRecDepth 20000 in
theorem gX6_put_X6_isProduct : GoodIn wsX6_put (va_wsS RX6 90 yX6_isProduct wsX6_isProduct) := goodIn_app (goodIn_of _ (by decide +kernel)) ggX6_put_X6_isProduct
set_option maxRecDepth 20000 in
theorem ggX6_put_X6_in : GoodIn wsX6_put wsX6_in := goodIn_r _ [12] (by decide +kernel) (by decide +kernel)
set_option maxRecDepth 20000 in
theorem gX6_put_X6_in : GoodIn wsX6_put (va_wsS RX6 62 yX6_in wsX6_in) := goodIn_app (goodIn_of _ (by decide +kernel)) ggX6_put_X6_in
set_option maxRecDepth 20000 in
theorem ggX6_put_X6_fails : GoodIn wsX6_put wsX6_fails := goodIn_r _ [16, 1, 17, 18, 19, 20, 21, 22, 23, 24, 25, 26, 27, 28, 29, 30, 31, 32, 33, 34, 35, 36, 37, 38] (by decide +kernel) (by decide +kernel)
set_option maxRecDepth 20000 in
theorem gX6_put_X6_fails : GoodIn wsX6_put (wsV RX6 94 RX6 yX6_fails wsX6_fails) := goodIn_app (goodIn_of _ (by decide +kernel)) ggX6_put_X6_fails
theorem dX6_put_0 : decode cX6_put 0 = .ok (.aload_n 0, 1) := by decide +kernel
theorem dX6_put_1 : decode cX6_put 1 = .ok (.iconst 0, 1) := by decide +kernel
theorem dX6_put_2 : decode cX6_put 2 = .ok (.putfield 59, 3) := by decide +kernel
theorem dX6_put_5 : decode cX6_put 5 = .ok (.iload_n 1, 1) := by decide +kernel
theorem dX6_put_6 : decode cX6_put 6 = .ok (.invokestatic 90, 3) := by decide +kernel
theorem dX6_put_9 : decode cX6_put 9 = .ok (.ifCond .eq 29, 3) := by decide +kernel
theorem dX6_put_12 : decode cX6_put 12 = .ok (.iload_n 2, 1) := by decide +kernel
theorem dX6_put_13 : decode cX6_put 13 = .ok (.iconst 0, 1) := by decide +kernel
theorem dX6_put_14 : decode cX6_put 14 = .ok (.aload_n 0, 1) := by decide +kernel
theorem dX6_put_15 : decode cX6_put 15 = .ok (.getfield 50, 3) := by decide +kernel
theorem dX6_put_18 : decode cX6_put 18 = .ok (.iconst 1, 1) := by decide +kernel
theorem dX6_put_19 : decode cX6_put 19 = .ok (.isub, 1) := by decide +kernel
theorem dX6_put_20 : decode cX6_put 20 = .ok (.invokestatic 62, 3) := by decide +kernel
theorem dX6_put_23 : decode cX6_put 23 = .ok (.ifCond .eq 15, 3) := by decide +kernel
theorem dX6_put_26 : decode cX6_put 26 = .ok (.iload_n 3, 1) := by decide +kernel
theorem dX6_put_27 : decode cX6_put 27 = .ok (.iconst 1, 1) := by decide +kernel
theorem dX6_put_28 : decode cX6_put 28 = .ok (.aload_n 0, 1) := by decide +kernel
theorem dX6_put_29 : decode cX6_put 29 = .ok (.getfield 53, 3) := by decide +kernel
theorem dX6_put_32 : decode cX6_put 32 = .ok (.invokestatic 62, 3) := by decide +kernel
theorem dX6_put_35 : decode cX6_put 35 = .ok (.ifCond .ne 9, 3) := by decide +kernel
theorem dX6_put_38 : decode cX6_put 38 = .ok (.aload_n 0, 1) := by decide +kernel
theorem dX6_put_39 : decode cX6_put 39 = .ok (.iconst 1, 1) := by decide +kernel
theorem dX6_put_40 : decode cX6_put 40 = .ok (.invokevirtual 94, 3) := by decide +kernel
theorem dX6_put_43 : decode cX6_put 43 = .ok (.ireturn, 1) := by decide +kernel
theorem dX6_put_44 : decode cX6_put 44 = .ok (.bipush 100, 2) := by decide +kernel
theorem dX6_put_46 : decode cX6_put 46 = .ok (.iload_n 2, 1) := by decide +kernel
theorem dX6_put_47 : decode cX6_put 47 = .ok (.imul, 1) := by decide +kernel
theorem dX6_put_48 : decode cX6_put 48 = .ok (.iload_n 3, 1) := by decide +kernel
theorem dX6_put_49 : decode cX6_put 49 = .ok (.iadd, 1) := by decide +kernel
theorem dX6_put_50 : decode cX6_put 50 = .ok (.istore 4, 2) := by decide +kernel
theorem dX6_put_52 : decode cX6_put 52 = .ok (.iconst 0, 1) := by decide +kernel
theorem dX6_put_53 : decode cX6_put 53 = .ok (.istore 5, 2) := by decide +kernel
theorem dX6_put_55 : decode cX6_put 55 = .ok (.iconst 0, 1) := by decide +kernel
theorem dX6_put_56 : decode cX6_put 56 = .ok (.istore 6, 2) := by decide +kernel
theorem dX6_put_58 : decode cX6_put 58 = .ok (.iload 6, 2) := by decide +kernel
theorem dX6_put_60 : decode cX6_put 60 = .ok (.bipush 20, 2) := by decide +kernel
theorem dX6_put_62 : decode cX6_put 62 = .ok (.if_icmp .ge 39, 3) := by decide +kernel
theorem dX6_put_65 : decode cX6_put 65 = .ok (.iload 5, 2) := by decide +kernel
theorem dX6_put_67 : decode cX6_put 67 = .ok (.ifCond .ne 21, 3) := by decide +kernel
theorem dX6_put_70 : decode cX6_put 70 = .ok (.iload 6, 2) := by decide +kernel
theorem dX6_put_72 : decode cX6_put 72 = .ok (.iload_n 1, 1) := by decide +kernel
theorem dX6_put_73 : decode cX6_put 73 = .ok (.if_icmp .eq 19, 3) := by decide +kernel
theorem dX6_put_76 : decode cX6_put 76 = .ok (.aload_n 0, 1) := by decide +kernel
theorem dX6_put_77 : decode cX6_put 77 = .ok (.getfield 13, 3) := by decide +kernel
theorem dX6_put_80 : decode cX6_put 80 = .ok (.iload 6, 2) := by decide +kernel
theorem dX6_put_82 : decode cX6_put 82 = .ok (.iaload, 1) := by decide +kernel
theorem dX6_put_83 : decode cX6_put 83 = .ok (.iload 4, 2) := by decide +kernel
theorem dX6_put_85 : decode cX6_put 85 = .ok (.if_icmp .ne 7, 3) := by decide +kernel
theorem dX6_put_88 : decode cX6_put 88 = .ok (.iconst 1, 1) := by decide +kernel
theorem dX6_put_89 : decode cX6_put 89 = .ok (.goto 4, 3) := by decide +kernel
theorem dX6_put_92 : decode cX6_put 92 = .ok (.iconst 0, 1) := by decide +kernel
theorem dX6_put_93 : decode cX6_put 93 = .ok (.istore 5, 2) := by decide +kernel
theorem dX6_put_95 : decode cX6_put 95 = .ok (.iinc 6 1, 3) := by decide +kernel
theorem dX6_put_98 : decode cX6_put 98 = .ok (.goto (-40), 3) := by decide +kernel
theorem dX6_put_101 : decode cX6_put 101 = .ok (.iload 5, 2) := by decide +kernel
theorem dX6_put_103 : decode cX6_put 103 = .ok (.ifCond .ne 10, 3) := by decide +kernel
theorem dX6_put_106 : decode cX6_put 106 = .ok (.aload_n 0, 1) := by decide +kernel
theorem dX6_put_107 : decode cX6_put 107 = .ok (.getfield 69, 3) := by decide +kernel
theorem dX6_put_110 : decode cX6_put 110 = .ok (.ifCond .le 9, 3) := by decide +kernel
theorem dX6_put_113 : decode cX6_put 113 = .ok (.aload_n 0, 1) := by decide +kernel
theorem dX6_put_114 : decode cX6_put 114 = .ok (.iconst 2, 1) := by decide +kernel
theorem dX6_put_115 : decode cX6_put 115 = .ok (.invokevirtual 94, 3) := by decide +kernel
theorem dX6_put_118 : decode cX6_put 118 = .ok (.ireturn, 1) := by decide +kernel
theorem dX6_put_119 : decode cX6_put 119 = .ok (.aload_n 0, 1) := by decide +kernel
theorem dX6_put_120 : decode cX6_put 120 = .ok (.getfield 13, 3) := by decide +kernel
theorem dX6_put_123 : decode cX6_put 123 = .ok (.iload_n 1, 1) := by decide +kernel
theorem dX6_put_124 : decode cX6_put 124 = .ok (.iaload, 1) := by decide +kernel
theorem dX6_put_125 : decode cX6_put 125 = .ok (.istore 6, 2) := by decide +kernel
theorem dX6_put_127 : decode cX6_put 127 = .ok (.aload_n 0, 1) := by decide +kernel
theorem dX6_put_128 : decode cX6_put 128 = .ok (.getfield 13, 3) := by decide +kernel
theorem dX6_put_131 : decode cX6_put 131 = .ok (.iload_n 1, 1) := by decide +kernel
theorem dX6_put_132 : decode cX6_put 132 = .ok (.iload 4, 2) := by decide +kernel
theorem dX6_put_134 : decode cX6_put 134 = .ok (.iastore, 1) := by decide +kernel
theorem dX6_put_135 : decode cX6_put 135 = .ok (.iload 6, 2) := by decide +kernel
theorem dX6_put_137 : decode cX6_put 137 = .ok (.ireturn, 1) := by decide +kernel
theorem dX6_turnoverOf_0 : decode cX6_turnoverOf 0 = .ok (.iconst 0, 1) := by decide +kernel
theorem dX6_turnoverOf_1 : decode cX6_turnoverOf 1 = .ok (.istore_n 2, 1) := by decide +kernel
theorem dX6_turnoverOf_2 : decode cX6_turnoverOf 2 = .ok (.iconst 0, 1) := by decide +kernel
theorem dX6_turnoverOf_3 : decode cX6_turnoverOf 3 = .ok (.istore_n 3, 1) := by decide +kernel
theorem dX6_turnoverOf_4 : decode cX6_turnoverOf 4 = .ok (.iload_n 3, 1) := by decide +kernel
theorem dX6_turnoverOf_5 : decode cX6_turnoverOf 5 = .ok (.aload_n 0, 1) := by decide +kernel
theorem dX6_turnoverOf_6 : decode cX6_turnoverOf 6 = .ok (.getfield 66, 3) := by decide +kernel
theorem dX6_turnoverOf_9 : decode cX6_turnoverOf 9 = .ok (.if_icmp .ge 72, 3) := by decide +kernel
theorem dX6_turnoverOf_12 : decode cX6_turnoverOf 12 = .ok (.iconst 0, 1) := by decide +kernel
theorem dX6_turnoverOf_13 : decode cX6_turnoverOf 13 = .ok (.istore 4, 2) := by decide +kernel
theorem dX6_turnoverOf_15 : decode cX6_turnoverOf 15 = .ok (.iload 4, 2) := by decide +kernel
theorem dX6_turnoverOf_17 : decode cX6_turnoverOf 17 = .ok (.aload_n 0, 1) := by decide +kernel
theorem dX6_turnoverOf_18 : decode cX6_turnoverOf 18 = .ok (.getfield 26, 3) := by decide +kernel
theorem dX6_turnoverOf_21 : decode cX6_turnoverOf 21 = .ok (.iload_n 3, 1) := by decide +kernel
theorem dX6_turnoverOf_22 : decode cX6_turnoverOf 22 = .ok (.iaload, 1) := by decide +kernel
theorem dX6_turnoverOf_23 : decode cX6_turnoverOf 23 = .ok (.if_icmp .ge 52, 3) := by decide +kernel
theorem dX6_turnoverOf_26 : decode cX6_turnoverOf 26 = .ok (.iload_n 2, 1) := by decide +kernel
theorem dX6_turnoverOf_27 : decode cX6_turnoverOf 27 = .ok (.aload_n 0, 1) := by decide +kernel
theorem dX6_turnoverOf_28 : decode cX6_turnoverOf 28 = .ok (.getfield 20, 3) := by decide +kernel
theorem dX6_turnoverOf_31 : decode cX6_turnoverOf 31 = .ok (.iload_n 3, 1) := by decide +kernel
theorem dX6_turnoverOf_32 : decode cX6_turnoverOf 32 = .ok (.iaload, 1) := by decide +kernel
theorem dX6_turnoverOf_33 : decode cX6_turnoverOf 33 = .ok (.iconst 2, 1) := by decide +kernel
theorem dX6_turnoverOf_34 : decode cX6_turnoverOf 34 = .ok (.if_icmp .ne 32, 3) := by decide +kernel
theorem dX6_turnoverOf_37 : decode cX6_turnoverOf 37 = .ok (.aload_n 0, 1) := by decide +kernel
theorem dX6_turnoverOf_38 : decode cX6_turnoverOf 38 = .ok (.getfield 29, 3) := by decide +kernel
theorem dX6_turnoverOf_41 : decode cX6_turnoverOf 41 = .ok (.iconst 5, 1) := by decide +kernel
theorem dX6_turnoverOf_42 : decode cX6_turnoverOf 42 = .ok (.iload_n 3, 1) := by decide +kernel
theorem dX6_turnoverOf_43 : decode cX6_turnoverOf 43 = .ok (.imul, 1) := by decide +kernel
theorem dX6_turnoverOf_44 : decode cX6_turnoverOf 44 = .ok (.iload 4, 2) := by decide +kernel
theorem dX6_turnoverOf_46 : decode cX6_turnoverOf 46 = .ok (.iadd, 1) := by decide +kernel
theorem dX6_turnoverOf_47 : decode cX6_turnoverOf 47 = .ok (.iaload, 1) := by decide +kernel
theorem dX6_turnoverOf_48 : decode cX6_turnoverOf 48 = .ok (.iload_n 1, 1) := by decide +kernel
theorem dX6_turnoverOf_49 : decode cX6_turnoverOf 49 = .ok (.if_icmp .ne 17, 3) := by decide +kernel
theorem dX6_turnoverOf_52 : decode cX6_turnoverOf 52 = .ok (.aload_n 0, 1) := by decide +kernel
theorem dX6_turnoverOf_53 : decode cX6_turnoverOf 53 = .ok (.getfield 32, 3) := by decide +kernel
theorem dX6_turnoverOf_56 : decode cX6_turnoverOf 56 = .ok (.iconst 5, 1) := by decide +kernel
theorem dX6_turnoverOf_57 : decode cX6_turnoverOf 57 = .ok (.iload_n 3, 1) := by decide +kernel
theorem dX6_turnoverOf_58 : decode cX6_turnoverOf 58 = .ok (.imul, 1) := by decide +kernel
theorem dX6_turnoverOf_59 : decode cX6_turnoverOf 59 = .ok (.iload 4, 2) := by decide +kernel
theorem dX6_turnoverOf_61 : decode cX6_turnoverOf 61 = .ok (.iadd, 1) := by decide +kernel
theorem dX6_turnoverOf_62 : decode cX6_turnoverOf 62 = .ok (.iaload, 1) := by decide +kernel
theorem dX6_turnoverOf_63 : decode cX6_turnoverOf 63 = .ok (.goto 4, 3) := by decide +kernel
theorem dX6_turnoverOf_66 : decode cX6_turnoverOf 66 = .ok (.iconst 0, 1) := by decide +kernel
theorem dX6_turnoverOf_67 : decode cX6_turnoverOf 67 = .ok (.iadd, 1) := by decide +kernel
theorem dX6_turnoverOf_68 : decode cX6_turnoverOf 68 = .ok (.istore_n 2, 1) := by decide +kernel
theorem dX6_turnoverOf_69 : decode cX6_turnoverOf 69 = .ok (.iinc 4 1, 3) := by decide +kernel
theorem dX6_turnoverOf_72 : decode cX6_turnoverOf 72 = .ok (.goto (-57), 3) := by decide +kernel
theorem dX6_turnoverOf_75 : decode cX6_turnoverOf 75 = .ok (.iinc 3 1, 3) := by decide +kernel
theorem dX6_turnoverOf_78 : decode cX6_turnoverOf 78 = .ok (.goto (-74), 3) := by decide +kernel
theorem dX6_turnoverOf_81 : decode cX6_turnoverOf 81 = .ok (.iload_n 2, 1) := by decide +kernel
theorem dX6_turnoverOf_82 : decode cX6_turnoverOf 82 = .ok (.ireturn, 1) := by decide +kernel
set_option maxRecDepth 20000 in
theorem ggX6_ranks_X6_turnoverOf : GoodIn wsX6_ranks wsX6_turnoverOf := goodIn_r _ [6, 7, 8, 9, 10, 11, 12, 13, 14, 15, 16, 17, 18, 19, 20, 21, 22, 23, 24, 25, 26, 27, 28, 29, 30, 31, 32, 33] (by decide +kernel) (by decide +kernel)
set_option maxRecDepth 20000 in
theorem gX6_ranks_X6_turnoverOf : GoodIn wsX6_ranks (wsV RX6 98 RX6 yX6_turnoverOf wsX6_turnoverOf) := goodIn_app (goodIn_of _ (by decide +kernel)) ggX6_ranks_X6_turnoverOf
theorem dX6_ranks_0 : decode cX6_ranks 0 = .ok (.iload_n 2, 1) := by decide +kernel
theorem dX6_ranks_1 : decode cX6_ranks 1 = .ok (.istore_n 3, 1) := by decide +kernel
theorem dX6_ranks_2 : decode cX6_ranks 2 = .ok (.iload_n 3, 1) := by decide +kernel
theorem dX6_ranks_3 : decode cX6_ranks 3 = .ok (.ifCond .le 43, 3) := by decide +kernel
theorem dX6_ranks_6 : decode cX6_ranks 6 = .ok (.aload_n 0, 1) := by decide +kernel
theorem dX6_ranks_7 : decode cX6_ranks 7 = .ok (.aload_n 0, 1) := by decide +kernel
theorem dX6_ranks_8 : decode cX6_ranks 8 = .ok (.getfield 44, 3) := by decide +kernel
theorem dX6_ranks_11 : decode cX6_ranks 11 = .ok (.iload_n 3, 1) := by decide +kernel
theorem dX6_ranks_12 : decode cX6_ranks 12 = .ok (.iconst 1, 1) := by decide +kernel
theorem dX6_ranks_13 : decode cX6_ranks 13 = .ok (.isub, 1) := by decide +kernel
theorem dX6_ranks_14 : decode cX6_ranks 14 = .ok (.iaload, 1) := by decide +kernel
theorem dX6_ranks_15 : decode cX6_ranks 15 = .ok (.invokevirtual 98, 3) := by decide +kernel
theorem dX6_ranks_18 : decode cX6_ranks 18 = .ok (.aload_n 0, 1) := by decide +kernel
theorem dX6_ranks_19 : decode cX6_ranks 19 = .ok (.iload_n 1, 1) := by decide +kernel
theorem dX6_ranks_20 : decode cX6_ranks 20 = .ok (.invokevirtual 98, 3) := by decide +kernel
theorem dX6_ranks_23 : decode cX6_ranks 23 = .ok (.if_icmp .ge 23, 3) := by decide +kernel
theorem dX6_ranks_26 : decode cX6_ranks 26 = .ok (.aload_n 0, 1) := by decide +kernel
theorem dX6_ranks_27 : decode cX6_ranks 27 = .ok (.getfield 44, 3) := by decide +kernel
theorem dX6_ranks_30 : decode cX6_ranks 30 = .ok (.iload_n 3, 1) := by decide +kernel
theorem dX6_ranks_31 : decode cX6_ranks 31 = .ok (.aload_n 0, 1) := by decide +kernel
theorem dX6_ranks_32 : decode cX6_ranks 32 = .ok (.getfield 44, 3) := by decide +kernel
theorem dX6_ranks_35 : decode cX6_ranks 35 = .ok (.iload_n 3, 1) := by decide +kernel
theorem dX6_ranks_36 : decode cX6_ranks 36 = .ok (.iconst 1, 1) := by decide +kernel
theorem dX6_ranks_37 : decode cX6_ranks 37 = .ok (.isub, 1) := by decide +kernel
theorem dX6_ranks_38 : decode cX6_ranks 38 = .ok (.iaload, 1) := by decide +kernel
theorem dX6_ranks_39 : decode cX6_ranks 39 = .ok (.iastore, 1) := by decide +kernel
theorem dX6_ranks_40 : decode cX6_ranks 40 = .ok (.iinc 3 (-1), 3) := by decide +kernel
theorem dX6_ranks_43 : decode cX6_ranks 43 = .ok (.goto (-41), 3) := by decide +kernel
theorem dX6_ranks_46 : decode cX6_ranks 46 = .ok (.aload_n 0, 1) := by decide +kernel
theorem dX6_ranks_47 : decode cX6_ranks 47 = .ok (.getfield 44, 3) := by decide +kernel
theorem dX6_ranks_50 : decode cX6_ranks 50 = .ok (.iload_n 3, 1) := by decide +kernel
theorem dX6_ranks_51 : decode cX6_ranks 51 = .ok (.iload_n 1, 1) := by decide +kernel
theorem dX6_ranks_52 : decode cX6_ranks 52 = .ok (.iastore, 1) := by decide +kernel
theorem dX6_ranks_53 : decode cX6_ranks 53 = .ok (.return_, 1) := by decide +kernel
set_option maxRecDepth 20000 in
theorem ggX6_spreads_X6_way : GoodIn wsX6_spreads wsX6_way := goodIn_r _ [6, 7, 8, 9, 10, 11, 12, 13, 14, 15, 16, 17, 18, 19, 20, 21, 22, 23, 24, 25, 26, 27, 28, 29, 30] (by decide +kernel) (by decide +kernel)
set_option maxRecDepth 20000 in
theorem gX6_spreads_X6_way : GoodIn wsX6_spreads (wsV RX6 72 RX6 yX6_way wsX6_way) := goodIn_app (goodIn_of _ (by decide +kernel)) ggX6_spreads_X6_way
theorem dX6_spreads_0 : decode cX6_spreads 0 = .ok (.iload_n 2, 1) := by decide +kernel
theorem dX6_spreads_1 : decode cX6_spreads 1 = .ok (.istore_n 3, 1) := by decide +kernel
theorem dX6_spreads_2 : decode cX6_spreads 2 = .ok (.iload_n 3, 1) := by decide +kernel
theorem dX6_spreads_3 : decode cX6_spreads 3 = .ok (.ifCond .le 79, 3) := by decide +kernel
theorem dX6_spreads_6 : decode cX6_spreads 6 = .ok (.aload_n 0, 1) := by decide +kernel
theorem dX6_spreads_7 : decode cX6_spreads 7 = .ok (.iconst 0, 1) := by decide +kernel
theorem dX6_spreads_8 : decode cX6_spreads 8 = .ok (.aload_n 0, 1) := by decide +kernel
theorem dX6_spreads_9 : decode cX6_spreads 9 = .ok (.getfield 47, 3) := by decide +kernel
theorem dX6_spreads_12 : decode cX6_spreads 12 = .ok (.iload_n 3, 1) := by decide +kernel
theorem dX6_spreads_13 : decode cX6_spreads 13 = .ok (.iconst 1, 1) := by decide +kernel
theorem dX6_spreads_14 : decode cX6_spreads 14 = .ok (.isub, 1) := by decide +kernel
theorem dX6_spreads_15 : decode cX6_spreads 15 = .ok (.iaload, 1) := by decide +kernel
theorem dX6_spreads_16 : decode cX6_spreads 16 = .ok (.invokevirtual 72, 3) := by decide +kernel
theorem dX6_spreads_19 : decode cX6_spreads 19 = .ok (.aload_n 0, 1) := by decide +kernel
theorem dX6_spreads_20 : decode cX6_spreads 20 = .ok (.iconst 0, 1) := by decide +kernel
theorem dX6_spreads_21 : decode cX6_spreads 21 = .ok (.iload_n 1, 1) := by decide +kernel
theorem dX6_spreads_22 : decode cX6_spreads 22 = .ok (.invokevirtual 72, 3) := by decide +kernel
theorem dX6_spreads_25 : decode cX6_spreads 25 = .ok (.if_icmp .gt 37, 3) := by decide +kernel
theorem dX6_spreads_28 : decode cX6_spreads 28 = .ok (.aload_n 0, 1) := by decide +kernel
theorem dX6_spreads_29 : decode cX6_spreads 29 = .ok (.iconst 0, 1) := by decide +kernel
theorem dX6_spreads_30 : decode cX6_spreads 30 = .ok (.aload_n 0, 1) := by decide +kernel
theorem dX6_spreads_31 : decode cX6_spreads 31 = .ok (.getfield 47, 3) := by decide +kernel
theorem dX6_spreads_34 : decode cX6_spreads 34 = .ok (.iload_n 3, 1) := by decide +kernel
theorem dX6_spreads_35 : decode cX6_spreads 35 = .ok (.iconst 1, 1) := by decide +kernel
theorem dX6_spreads_36 : decode cX6_spreads 36 = .ok (.isub, 1) := by decide +kernel
theorem dX6_spreads_37 : decode cX6_spreads 37 = .ok (.iaload, 1) := by decide +kernel
theorem dX6_spreads_38 : decode cX6_spreads 38 = .ok (.invokevirtual 72, 3) := by decide +kernel
theorem dX6_spreads_41 : decode cX6_spreads 41 = .ok (.aload_n 0, 1) := by decide +kernel
theorem dX6_spreads_42 : decode cX6_spreads 42 = .ok (.iconst 0, 1) := by decide +kernel
theorem dX6_spreads_43 : decode cX6_spreads 43 = .ok (.iload_n 1, 1) := by decide +kernel
theorem dX6_spreads_44 : decode cX6_spreads 44 = .ok (.invokevirtual 72, 3) := by decide +kernel
theorem dX6_spreads_47 : decode cX6_spreads 47 = .ok (.if_icmp .ne 35, 3) := by decide +kernel
theorem dX6_spreads_50 : decode cX6_spreads 50 = .ok (.aload_n 0, 1) := by decide +kernel
theorem dX6_spreads_51 : decode cX6_spreads 51 = .ok (.getfield 47, 3) := by decide +kernel
theorem dX6_spreads_54 : decode cX6_spreads 54 = .ok (.iload_n 3, 1) := by decide +kernel
theorem dX6_spreads_55 : decode cX6_spreads 55 = .ok (.iconst 1, 1) := by decide +kernel
theorem dX6_spreads_56 : decode cX6_spreads 56 = .ok (.isub, 1) := by decide +kernel
theorem dX6_spreads_57 : decode cX6_spreads 57 = .ok (.iaload, 1) := by decide +kernel
theorem dX6_spreads_58 : decode cX6_spreads 58 = .ok (.iload_n 1, 1) := by decide +kernel
theorem dX6_spreads_59 : decode cX6_spreads 59 = .ok (.if_icmp .le 23, 3) := by decide +kernel
theorem dX6_spreads_62 : decode cX6_spreads 62 = .ok (.aload_n 0, 1) := by decide +kernel
theorem dX6_spreads_63 : decode cX6_spreads 63 = .ok (.getfield 47, 3) := by decide +kernel
theorem dX6_spreads_66 : decode cX6_spreads 66 = .ok (.iload_n 3, 1) := by decide +kernel
theorem dX6_spreads_67 : decode cX6_spreads 67 = .ok (.aload_n 0, 1) := by decide +kernel
theorem dX6_spreads_68 : decode cX6_spreads 68 = .ok (.getfield 47, 3) := by decide +kernel
theorem dX6_spreads_71 : decode cX6_spreads 71 = .ok (.iload_n 3, 1) := by decide +kernel
theorem dX6_spreads_72 : decode cX6_spreads 72 = .ok (.iconst 1, 1) := by decide +kernel
theorem dX6_spreads_73 : decode cX6_spreads 73 = .ok (.isub, 1) := by decide +kernel
theorem dX6_spreads_74 : decode cX6_spreads 74 = .ok (.iaload, 1) := by decide +kernel
theorem dX6_spreads_75 : decode cX6_spreads 75 = .ok (.iastore, 1) := by decide +kernel
theorem dX6_spreads_76 : decode cX6_spreads 76 = .ok (.iinc 3 (-1), 3) := by decide +kernel
theorem dX6_spreads_79 : decode cX6_spreads 79 = .ok (.goto (-77), 3) := by decide +kernel
theorem dX6_spreads_82 : decode cX6_spreads 82 = .ok (.aload_n 0, 1) := by decide +kernel
theorem dX6_spreads_83 : decode cX6_spreads 83 = .ok (.getfield 47, 3) := by decide +kernel
theorem dX6_spreads_86 : decode cX6_spreads 86 = .ok (.iload_n 3, 1) := by decide +kernel
theorem dX6_spreads_87 : decode cX6_spreads 87 = .ok (.iload_n 1, 1) := by decide +kernel
theorem dX6_spreads_88 : decode cX6_spreads 88 = .ok (.iastore, 1) := by decide +kernel
theorem dX6_spreads_89 : decode cX6_spreads 89 = .ok (.return_, 1) := by decide +kernel
set_option maxRecDepth 20000 in
theorem ggX6_layOut_X6_fails : GoodIn wsX6_layOut wsX6_fails := goodIn_r _ [10, 1, 34, 35, 36, 37, 38, 39, 40, 41, 42, 43, 44, 45, 46, 47, 48, 49, 50, 51, 52, 53, 54, 55] (by decide +kernel) (by decide +kernel)
set_option maxRecDepth 20000 in
theorem gX6_layOut_X6_fails : GoodIn wsX6_layOut (wsV RX6 94 RX6 yX6_fails wsX6_fails) := goodIn_app (goodIn_of _ (by decide +kernel)) ggX6_layOut_X6_fails
set_option maxRecDepth 20000 in
theorem ggX6_layOut_X6_ranks : GoodIn wsX6_layOut wsX6_ranks := goodIn_r _ [14, 4, 15, 16, 17, 9, 18, 19, 20, 21, 22, 23, 34, 35, 36, 37, 38, 39, 40, 41, 42, 43, 44, 45, 46, 47, 48, 49, 50, 51, 52, 53, 54, 55] (by decide +kernel) (by decide +kernel)
set_option maxRecDepth 20000 in
theorem gX6_layOut_X6_ranks : GoodIn wsX6_layOut (wsV RX6 101 RX6 yX6_ranks wsX6_ranks) := goodIn_app (goodIn_of _ (by decide +kernel)) ggX6_layOut_X6_ranks
set_option maxRecDepth 20000 in
theorem ggX6_layOut_X6_spreads : GoodIn wsX6_layOut wsX6_spreads := goodIn_r _ [27, 5, 28, 29, 30, 9, 31, 32, 33, 34, 35, 36, 37, 38, 39, 40, 41, 42, 43, 44, 45, 46, 47, 48, 49, 50, 51, 52, 53, 54, 55] (by decide +kernel) (by decide +kernel)
set_option maxRecDepth 20000 in
theorem gX6_layOut_X6_spreads : GoodIn wsX6_layOut (wsV RX6 105 RX6 yX6_spreads wsX6_spreads) := goodIn_app (goodIn_of _ (by decide +kernel)) ggX6_layOut_X6_spreads
theorem dX6_layOut_0 : decode cX6_layOut 0 = .ok (.aload_n 0, 1) := by decide +kernel
theorem dX6_layOut_1 : decode cX6_layOut 1 = .ok (.iconst 0, 1) := by decide +kernel
theorem dX6_layOut_2 : decode cX6_layOut 2 = .ok (.putfield 59, 3) := by decide +kernel
theorem dX6_layOut_5 : decode cX6_layOut 5 = .ok (.aload_n 0, 1) := by decide +kernel
theorem dX6_layOut_6 : decode cX6_layOut 6 = .ok (.getfield 69, 3) := by decide +kernel
theorem dX6_layOut_9 : decode cX6_layOut 9 = .ok (.ifCond .le 9, 3) := by decide +kernel
theorem dX6_layOut_12 : decode cX6_layOut 12 = .ok (.aload_n 0, 1) := by decide +kernel
theorem dX6_layOut_13 : decode cX6_layOut 13 = .ok (.iconst 1, 1) := by decide +kernel
theorem dX6_layOut_14 : decode cX6_layOut 14 = .ok (.invokevirtual 94, 3) := by decide +kernel
theorem dX6_layOut_17 : decode cX6_layOut 17 = .ok (.ireturn, 1) := by decide +kernel
theorem dX6_layOut_18 : decode cX6_layOut 18 = .ok (.iconst 0, 1) := by decide +kernel
theorem dX6_layOut_19 : decode cX6_layOut 19 = .ok (.istore_n 1, 1) := by decide +kernel
theorem dX6_layOut_20 : decode cX6_layOut 20 = .ok (.iconst 0, 1) := by decide +kernel
theorem dX6_layOut_21 : decode cX6_layOut 21 = .ok (.istore_n 2, 1) := by decide +kernel
theorem dX6_layOut_22 : decode cX6_layOut 22 = .ok (.iload_n 2, 1) := by decide +kernel
theorem dX6_layOut_23 : decode cX6_layOut 23 = .ok (.bipush 20, 2) := by decide +kernel
theorem dX6_layOut_25 : decode cX6_layOut 25 = .ok (.if_icmp .ge 39, 3) := by decide +kernel
theorem dX6_layOut_28 : decode cX6_layOut 28 = .ok (.aload_n 0, 1) := by decide +kernel
theorem dX6_layOut_29 : decode cX6_layOut 29 = .ok (.getfield 13, 3) := by decide +kernel
theorem dX6_layOut_32 : decode cX6_layOut 32 = .ok (.iload_n 2, 1) := by decide +kernel
theorem dX6_layOut_33 : decode cX6_layOut 33 = .ok (.iaload, 1) := by decide +kernel
theorem dX6_layOut_34 : decode cX6_layOut 34 = .ok (.iconst (-1), 1) := by decide +kernel
theorem dX6_layOut_35 : decode cX6_layOut 35 = .ok (.if_icmp .eq 23, 3) := by decide +kernel
theorem dX6_layOut_38 : decode cX6_layOut 38 = .ok (.aload_n 0, 1) := by decide +kernel
theorem dX6_layOut_39 : decode cX6_layOut 39 = .ok (.iload_n 2, 1) := by decide +kernel
theorem dX6_layOut_40 : decode cX6_layOut 40 = .ok (.iload_n 1, 1) := by decide +kernel
theorem dX6_layOut_41 : decode cX6_layOut 41 = .ok (.invokevirtual 101, 3) := by decide +kernel
theorem dX6_layOut_44 : decode cX6_layOut 44 = .ok (.aload_n 0, 1) := by decide +kernel
theorem dX6_layOut_45 : decode cX6_layOut 45 = .ok (.aload_n 0, 1) := by decide +kernel
theorem dX6_layOut_46 : decode cX6_layOut 46 = .ok (.getfield 13, 3) := by decide +kernel
theorem dX6_layOut_49 : decode cX6_layOut 49 = .ok (.iload_n 2, 1) := by decide +kernel
theorem dX6_layOut_50 : decode cX6_layOut 50 = .ok (.iaload, 1) := by decide +kernel
theorem dX6_layOut_51 : decode cX6_layOut 51 = .ok (.iload_n 1, 1) := by decide +kernel
theorem dX6_layOut_52 : decode cX6_layOut 52 = .ok (.invokevirtual 105, 3) := by decide +kernel
theorem dX6_layOut_55 : decode cX6_layOut 55 = .ok (.iinc 1 1, 3) := by decide +kernel
theorem dX6_layOut_58 : decode cX6_layOut 58 = .ok (.iinc 2 1, 3) := by decide +kernel
theorem dX6_layOut_61 : decode cX6_layOut 61 = .ok (.goto (-39), 3) := by decide +kernel
theorem dX6_layOut_64 : decode cX6_layOut 64 = .ok (.iconst 0, 1) := by decide +kernel
theorem dX6_layOut_65 : decode cX6_layOut 65 = .ok (.istore_n 2, 1) := by decide +kernel
theorem dX6_layOut_66 : decode cX6_layOut 66 = .ok (.iconst 0, 1) := by decide +kernel
theorem dX6_layOut_67 : decode cX6_layOut 67 = .ok (.istore_n 3, 1) := by decide +kernel
theorem dX6_layOut_68 : decode cX6_layOut 68 = .ok (.iload_n 3, 1) := by decide +kernel
theorem dX6_layOut_69 : decode cX6_layOut 69 = .ok (.iload_n 1, 1) := by decide +kernel
theorem dX6_layOut_70 : decode cX6_layOut 70 = .ok (.if_icmp .ge 54, 3) := by decide +kernel
theorem dX6_layOut_73 : decode cX6_layOut 73 = .ok (.iload_n 2, 1) := by decide +kernel
theorem dX6_layOut_74 : decode cX6_layOut 74 = .ok (.aload_n 0, 1) := by decide +kernel
theorem dX6_layOut_75 : decode cX6_layOut 75 = .ok (.getfield 13, 3) := by decide +kernel
theorem dX6_layOut_78 : decode cX6_layOut 78 = .ok (.aload_n 0, 1) := by decide +kernel
theorem dX6_layOut_79 : decode cX6_layOut 79 = .ok (.getfield 44, 3) := by decide +kernel
theorem dX6_layOut_82 : decode cX6_layOut 82 = .ok (.iload_n 3, 1) := by decide +kernel
theorem dX6_layOut_83 : decode cX6_layOut 83 = .ok (.iaload, 1) := by decide +kernel
theorem dX6_layOut_84 : decode cX6_layOut 84 = .ok (.iaload, 1) := by decide +kernel
theorem dX6_layOut_85 : decode cX6_layOut 85 = .ok (.aload_n 0, 1) := by decide +kernel
theorem dX6_layOut_86 : decode cX6_layOut 86 = .ok (.getfield 47, 3) := by decide +kernel
theorem dX6_layOut_89 : decode cX6_layOut 89 = .ok (.iload_n 3, 1) := by decide +kernel
theorem dX6_layOut_90 : decode cX6_layOut 90 = .ok (.iaload, 1) := by decide +kernel
theorem dX6_layOut_91 : decode cX6_layOut 91 = .ok (.if_icmp .ne 7, 3) := by decide +kernel
theorem dX6_layOut_94 : decode cX6_layOut 94 = .ok (.iconst 0, 1) := by decide +kernel
theorem dX6_layOut_95 : decode cX6_layOut 95 = .ok (.goto 4, 3) := by decide +kernel
theorem dX6_layOut_98 : decode cX6_layOut 98 = .ok (.iconst 1, 1) := by decide +kernel
theorem dX6_layOut_99 : decode cX6_layOut 99 = .ok (.iadd, 1) := by decide +kernel
theorem dX6_layOut_100 : decode cX6_layOut 100 = .ok (.istore_n 2, 1) := by decide +kernel
theorem dX6_layOut_101 : decode cX6_layOut 101 = .ok (.aload_n 0, 1) := by decide +kernel
theorem dX6_layOut_102 : decode cX6_layOut 102 = .ok (.getfield 13, 3) := by decide +kernel
theorem dX6_layOut_105 : decode cX6_layOut 105 = .ok (.aload_n 0, 1) := by decide +kernel
theorem dX6_layOut_106 : decode cX6_layOut 106 = .ok (.getfield 44, 3) := by decide +kernel
theorem dX6_layOut_109 : decode cX6_layOut 109 = .ok (.iload_n 3, 1) := by decide +kernel
theorem dX6_layOut_110 : decode cX6_layOut 110 = .ok (.iaload, 1) := by decide +kernel
theorem dX6_layOut_111 : decode cX6_layOut 111 = .ok (.aload_n 0, 1) := by decide +kernel
theorem dX6_layOut_112 : decode cX6_layOut 112 = .ok (.getfield 47, 3) := by decide +kernel
theorem dX6_layOut_115 : decode cX6_layOut 115 = .ok (.iload_n 3, 1) := by decide +kernel
theorem dX6_layOut_116 : decode cX6_layOut 116 = .ok (.iaload, 1) := by decide +kernel
theorem dX6_layOut_117 : decode cX6_layOut 117 = .ok (.iastore, 1) := by decide +kernel
theorem dX6_layOut_118 : decode cX6_layOut 118 = .ok (.iinc 3 1, 3) := by decide +kernel
theorem dX6_layOut_121 : decode cX6_layOut 121 = .ok (.goto (-53), 3) := by decide +kernel
theorem dX6_layOut_124 : decode cX6_layOut 124 = .ok (.iload_n 2, 1) := by decide +kernel
theorem dX6_layOut_125 : decode cX6_layOut 125 = .ok (.ireturn, 1) := by decide +kernel
set_option maxRecDepth 20000 in
theorem ggX6_placeOf_X6_isProduct : GoodIn wsX6_placeOf wsX6_isProduct := goodIn_r _ [6, 7, 8, 5, 9] (by decide +kernel) (by decide +kernel)
set_option maxRecDepth 20000 in
theorem gX6_placeOf_X6_isProduct : GoodIn wsX6_placeOf (va_wsS RX6 90 yX6_isProduct wsX6_isProduct) := goodIn_app (goodIn_of _ (by decide +kernel)) ggX6_placeOf_X6_isProduct
set_option maxRecDepth 20000 in
theorem ggX6_placeOf_X6_fails : GoodIn wsX6_placeOf wsX6_fails := goodIn_r _ [13, 1, 14, 15, 16, 17, 18, 19, 20, 21, 22, 23, 24, 25, 26, 27, 28, 29, 30, 31, 32, 33, 34, 35] (by decide +kernel) (by decide +kernel)
set_option maxRecDepth 20000 in
theorem gX6_placeOf_X6_fails : GoodIn wsX6_placeOf (wsV RX6 94 RX6 yX6_fails wsX6_fails) := goodIn_app (goodIn_of _ (by decide +kernel)) ggX6_placeOf_X6_fails
theorem dX6_placeOf_0 : decode cX6_placeOf 0 = .ok (.aload_n 0, 1) := by decide +kernel
theorem dX6_placeOf_1 : decode cX6_placeOf 1 = .ok (.iconst 0, 1) := by decide +kernel
theorem dX6_placeOf_2 : decode cX6_placeOf 2 = .ok (.putfield 59, 3) := by decide +kernel
theorem dX6_placeOf_5 : decode cX6_placeOf 5 = .ok (.iload_n 1, 1) := by decide +kernel
theorem dX6_placeOf_6 : decode cX6_placeOf 6 = .ok (.invokestatic 90, 3) := by decide +kernel
theorem dX6_placeOf_9 : decode cX6_placeOf 9 = .ok (.ifCond .eq 12, 3) := by decide +kernel
theorem dX6_placeOf_12 : decode cX6_placeOf 12 = .ok (.aload_n 0, 1) := by decide +kernel
theorem dX6_placeOf_13 : decode cX6_placeOf 13 = .ok (.getfield 13, 3) := by decide +kernel
theorem dX6_placeOf_16 : decode cX6_placeOf 16 = .ok (.iload_n 1, 1) := by decide +kernel
theorem dX6_placeOf_17 : decode cX6_placeOf 17 = .ok (.iaload, 1) := by decide +kernel
theorem dX6_placeOf_18 : decode cX6_placeOf 18 = .ok (.goto 8, 3) := by decide +kernel
theorem dX6_placeOf_21 : decode cX6_placeOf 21 = .ok (.aload_n 0, 1) := by decide +kernel
theorem dX6_placeOf_22 : decode cX6_placeOf 22 = .ok (.iconst 1, 1) := by decide +kernel
theorem dX6_placeOf_23 : decode cX6_placeOf 23 = .ok (.invokevirtual 94, 3) := by decide +kernel
theorem dX6_placeOf_26 : decode cX6_placeOf 26 = .ok (.ireturn, 1) := by decide +kernel
set_option maxRecDepth 20000 in
theorem ggX6_turnover_X6_isProduct : GoodIn wsX6_turnover wsX6_isProduct := goodIn_r _ [5, 6, 7, 4, 8] (by decide +kernel) (by decide +kernel)
set_option maxRecDepth 20000 in
theorem gX6_turnover_X6_isProduct : GoodIn wsX6_turnover (va_wsS RX6 90 yX6_isProduct wsX6_isProduct) := goodIn_app (goodIn_of _ (by decide +kernel)) ggX6_turnover_X6_isProduct
set_option maxRecDepth 20000 in
theorem ggX6_turnover_X6_turnoverOf : GoodIn wsX6_turnover wsX6_turnoverOf := goodIn_r _ [12, 13, 14, 15, 16, 17, 22, 23, 24, 25, 26, 27, 28, 29, 30, 31, 32, 33, 34, 35, 36, 37, 38, 39, 40, 41, 42, 43] (by decide +kernel) (by decide +kernel)
set_option maxRecDepth 20000 in
theorem gX6_turnover_X6_turnoverOf : GoodIn wsX6_turnover (wsV RX6 98 RX6 yX6_turnoverOf wsX6_turnoverOf) := goodIn_app (goodIn_of _ (by decide +kernel)) ggX6_turnover_X6_turnoverOf
set_option maxRecDepth 20000 in
theorem ggX6_turnover_X6_fails : GoodIn wsX6_turnover wsX6_fails := goodIn_r _ [21, 1, 22, 23, 24, 25, 26, 27, 28, 29, 30, 31, 32, 33, 34, 35, 36, 37, 38, 39, 40, 41, 42, 43] (by decide +kernel) (by decide +kernel)
set_option maxRecDepth 20000 in
theorem gX6_turnover_X6_fails : GoodIn wsX6_turnover (wsV RX6 94 RX6 yX6_fails wsX6_fails) := goodIn_app (goodIn_of _ (by decide +kernel)) ggX6_turnover_X6_fails
theorem dX6_turnover_0 : decode cX6_turnover 0 = .ok (.aload_n 0, 1) := by decide +kernel
theorem dX6_turnover_1 : decode cX6_turnover 1 = .ok (.iconst 0, 1) := by decide +kernel
theorem dX6_turnover_2 : decode cX6_turnover 2 = .ok (.putfield 59, 3) := by decide +kernel
theorem dX6_turnover_5 : decode cX6_turnover 5 = .ok (.iload_n 1, 1) := by decide +kernel
theorem dX6_turnover_6 : decode cX6_turnover 6 = .ok (.invokestatic 90, 3) := by decide +kernel
theorem dX6_turnover_9 : decode cX6_turnover 9 = .ok (.ifCond .eq 11, 3) := by decide +kernel
theorem dX6_turnover_12 : decode cX6_turnover 12 = .ok (.aload_n 0, 1) := by decide +kernel
theorem dX6_turnover_13 : decode cX6_turnover 13 = .ok (.iload_n 1, 1) := by decide +kernel
theorem dX6_turnover_14 : decode cX6_turnover 14 = .ok (.invokevirtual 98, 3) := by decide +kernel
theorem dX6_turnover_17 : decode cX6_turnover 17 = .ok (.goto 8, 3) := by decide +kernel
theorem dX6_turnover_20 : decode cX6_turnover 20 = .ok (.aload_n 0, 1) := by decide +kernel
theorem dX6_turnover_21 : decode cX6_turnover 21 = .ok (.iconst 1, 1) := by decide +kernel
theorem dX6_turnover_22 : decode cX6_turnover 22 = .ok (.invokevirtual 94, 3) := by decide +kernel
theorem dX6_turnover_25 : decode cX6_turnover 25 = .ok (.ireturn, 1) := by decide +kernel
set_option maxRecDepth 20000 in
theorem ggX6_distance_X6_isProduct : GoodIn wsX6_distance wsX6_isProduct := goodIn_r _ [6, 7, 8, 5, 9] (by decide +kernel) (by decide +kernel)
set_option maxRecDepth 20000 in
theorem gX6_distance_X6_isProduct : GoodIn wsX6_distance (va_wsS RX6 90 yX6_isProduct wsX6_isProduct) := goodIn_app (goodIn_of _ (by decide +kernel)) ggX6_distance_X6_isProduct
set_option maxRecDepth 20000 in
theorem ggX6_distance_X6_fails : GoodIn wsX6_distance wsX6_fails := goodIn_r _ [13, 1, 20, 21, 22, 23, 24, 25, 26, 27, 28, 29, 30, 31, 32, 33, 34, 35, 36, 37, 38, 39, 40, 41] (by decide +kernel) (by decide +kernel)
set_option maxRecDepth 20000 in
theorem gX6_distance_X6_fails : GoodIn wsX6_distance (wsV RX6 94 RX6 yX6_fails wsX6_fails) := goodIn_app (goodIn_of _ (by decide +kernel)) ggX6_distance_X6_fails
set_option maxRecDepth 20000 in
theorem ggX6_distance_X6_way : GoodIn wsX6_distance wsX6_way := goodIn_r _ [17, 18, 19, 20, 21, 22, 23, 24, 25, 26, 27, 28, 29, 30, 31, 32, 33, 34, 35, 36, 37, 38, 39, 40, 41] (by decide +kernel) (by decide +kernel)
set_option maxRecDepth 20000 in
theorem gX6_distance_X6_way : GoodIn wsX6_distance (wsV RX6 72 RX6 yX6_way wsX6_way) := goodIn_app (goodIn_of _ (by decide +kernel)) ggX6_distance_X6_way
theorem dX6_distance_0 : decode cX6_distance 0 = .ok (.aload_n 0, 1) := by decide +kernel
theorem dX6_distance_1 : decode cX6_distance 1 = .ok (.iconst 0, 1) := by decide +kernel
theorem dX6_distance_2 : decode cX6_distance 2 = .ok (.putfield 59, 3) := by decide +kernel
theorem dX6_distance_5 : decode cX6_distance 5 = .ok (.iload_n 1, 1) := by decide +kernel
theorem dX6_distance_6 : decode cX6_distance 6 = .ok (.invokestatic 90, 3) := by decide +kernel
theorem dX6_distance_9 : decode cX6_distance 9 = .ok (.ifCond .eq 10, 3) := by decide +kernel
theorem dX6_distance_12 : decode cX6_distance 12 = .ok (.iload_n 2, 1) := by decide +kernel
theorem dX6_distance_13 : decode cX6_distance 13 = .ok (.invokestatic 90, 3) := by decide +kernel
theorem dX6_distance_16 : decode cX6_distance 16 = .ok (.ifCond .ne 9, 3) := by decide +kernel
theorem dX6_distance_19 : decode cX6_distance 19 = .ok (.aload_n 0, 1) := by decide +kernel
theorem dX6_distance_20 : decode cX6_distance 20 = .ok (.iconst 1, 1) := by decide +kernel
theorem dX6_distance_21 : decode cX6_distance 21 = .ok (.invokevirtual 94, 3) := by decide +kernel
theorem dX6_distance_24 : decode cX6_distance 24 = .ok (.ireturn, 1) := by decide +kernel
theorem dX6_distance_25 : decode cX6_distance 25 = .ok (.aload_n 0, 1) := by decide +kernel
theorem dX6_distance_26 : decode cX6_distance 26 = .ok (.getfield 13, 3) := by decide +kernel
theorem dX6_distance_29 : decode cX6_distance 29 = .ok (.iload_n 1, 1) := by decide +kernel
theorem dX6_distance_30 : decode cX6_distance 30 = .ok (.iaload, 1) := by decide +kernel
theorem dX6_distance_31 : decode cX6_distance 31 = .ok (.iconst (-1), 1) := by decide +kernel
theorem dX6_distance_32 : decode cX6_distance 32 = .ok (.if_icmp .eq 13, 3) := by decide +kernel
theorem dX6_distance_35 : decode cX6_distance 35 = .ok (.aload_n 0, 1) := by decide +kernel
theorem dX6_distance_36 : decode cX6_distance 36 = .ok (.getfield 13, 3) := by decide +kernel
theorem dX6_distance_39 : decode cX6_distance 39 = .ok (.iload_n 2, 1) := by decide +kernel
theorem dX6_distance_40 : decode cX6_distance 40 = .ok (.iaload, 1) := by decide +kernel
theorem dX6_distance_41 : decode cX6_distance 41 = .ok (.iconst (-1), 1) := by decide +kernel
theorem dX6_distance_42 : decode cX6_distance 42 = .ok (.if_icmp .ne 11, 3) := by decide +kernel
theorem dX6_distance_45 : decode cX6_distance 45 = .ok (.aload_n 0, 1) := by decide +kernel
theorem dX6_distance_46 : decode cX6_distance 46 = .ok (.iconst 2, 1) := by decide +kernel
theorem dX6_distance_47 : decode cX6_distance 47 = .ok (.invokevirtual 94, 3) := by decide +kernel
theorem dX6_distance_50 : decode cX6_distance 50 = .ok (.goto 19, 3) := by decide +kernel
theorem dX6_distance_53 : decode cX6_distance 53 = .ok (.aload_n 0, 1) := by decide +kernel
theorem dX6_distance_54 : decode cX6_distance 54 = .ok (.aload_n 0, 1) := by decide +kernel
theorem dX6_distance_55 : decode cX6_distance 55 = .ok (.getfield 13, 3) := by decide +kernel
theorem dX6_distance_58 : decode cX6_distance 58 = .ok (.iload_n 1, 1) := by decide +kernel
theorem dX6_distance_59 : decode cX6_distance 59 = .ok (.iaload, 1) := by decide +kernel
theorem dX6_distance_60 : decode cX6_distance 60 = .ok (.aload_n 0, 1) := by decide +kernel
theorem dX6_distance_61 : decode cX6_distance 61 = .ok (.getfield 13, 3) := by decide +kernel
theorem dX6_distance_64 : decode cX6_distance 64 = .ok (.iload_n 2, 1) := by decide +kernel
theorem dX6_distance_65 : decode cX6_distance 65 = .ok (.iaload, 1) := by decide +kernel
theorem dX6_distance_66 : decode cX6_distance 66 = .ok (.invokevirtual 72, 3) := by decide +kernel
theorem dX6_distance_69 : decode cX6_distance 69 = .ok (.ireturn, 1) := by decide +kernel
set_option maxRecDepth 20000 in
theorem ggX6_order_X6_in : GoodIn wsX6_order wsX6_in := goodIn_r _ [10] (by decide +kernel) (by decide +kernel)
set_option maxRecDepth 20000 in
theorem gX6_order_X6_in : GoodIn wsX6_order (va_wsS RX6 62 yX6_in wsX6_in) := goodIn_app (goodIn_of _ (by decide +kernel)) ggX6_order_X6_in
set_option maxRecDepth 20000 in
theorem ggX6_order_X6_fails : GoodIn wsX6_order wsX6_fails := goodIn_r _ [14, 1, 15, 16, 17, 18, 19, 20, 21, 22, 23, 24, 25, 26, 27, 28, 29, 30, 31, 32, 33, 34, 35, 36] (by decide +kernel) (by decide +kernel)
set_option maxRecDepth 20000 in
theorem gX6_order_X6_fails : GoodIn wsX6_order (wsV RX6 94 RX6 yX6_fails wsX6_fails) := goodIn_app (goodIn_of _ (by decide +kernel)) ggX6_order_X6_fails
theorem dX6_order_0 : decode cX6_order 0 = .ok (.aload_n 0, 1) := by decide +kernel
theorem dX6_order_1 : decode cX6_order 1 = .ok (.iconst 0, 1) := by decide +kernel
theorem dX6_order_2 : decode cX6_order 2 = .ok (.putfield 59, 3) := by decide +kernel
theorem dX6_order_5 : decode cX6_order 5 = .ok (.iload_n 1, 1) := by decide +kernel
theorem dX6_order_6 : decode cX6_order 6 = .ok (.iconst 0, 1) := by decide +kernel
theorem dX6_order_7 : decode cX6_order 7 = .ok (.sipush 999, 3) := by decide +kernel
theorem dX6_order_10 : decode cX6_order 10 = .ok (.invokestatic 62, 3) := by decide +kernel
theorem dX6_order_13 : decode cX6_order 13 = .ok (.ifCond .ne 9, 3) := by decide +kernel
theorem dX6_order_16 : decode cX6_order 16 = .ok (.aload_n 0, 1) := by decide +kernel
theorem dX6_order_17 : decode cX6_order 17 = .ok (.iconst 1, 1) := by decide +kernel
theorem dX6_order_18 : decode cX6_order 18 = .ok (.invokevirtual 94, 3) := by decide +kernel
theorem dX6_order_21 : decode cX6_order 21 = .ok (.ireturn, 1) := by decide +kernel
theorem dX6_order_22 : decode cX6_order 22 = .ok (.aload_n 0, 1) := by decide +kernel
theorem dX6_order_23 : decode cX6_order 23 = .ok (.getfield 66, 3) := by decide +kernel
theorem dX6_order_26 : decode cX6_order 26 = .ok (.bipush 40, 2) := by decide +kernel
theorem dX6_order_28 : decode cX6_order 28 = .ok (.if_icmp .ne 9, 3) := by decide +kernel
theorem dX6_order_31 : decode cX6_order 31 = .ok (.aload_n 0, 1) := by decide +kernel
theorem dX6_order_32 : decode cX6_order 32 = .ok (.iconst 2, 1) := by decide +kernel
theorem dX6_order_33 : decode cX6_order 33 = .ok (.invokevirtual 94, 3) := by decide +kernel
theorem dX6_order_36 : decode cX6_order 36 = .ok (.ireturn, 1) := by decide +kernel
theorem dX6_order_37 : decode cX6_order 37 = .ok (.aload_n 0, 1) := by decide +kernel
theorem dX6_order_38 : decode cX6_order 38 = .ok (.getfield 17, 3) := by decide +kernel
theorem dX6_order_41 : decode cX6_order 41 = .ok (.aload_n 0, 1) := by decide +kernel
theorem dX6_order_42 : decode cX6_order 42 = .ok (.getfield 66, 3) := by decide +kernel
theorem dX6_order_45 : decode cX6_order 45 = .ok (.iload_n 1, 1) := by decide +kernel
theorem dX6_order_46 : decode cX6_order 46 = .ok (.iastore, 1) := by decide +kernel
theorem dX6_order_47 : decode cX6_order 47 = .ok (.aload_n 0, 1) := by decide +kernel
theorem dX6_order_48 : decode cX6_order 48 = .ok (.getfield 20, 3) := by decide +kernel
theorem dX6_order_51 : decode cX6_order 51 = .ok (.aload_n 0, 1) := by decide +kernel
theorem dX6_order_52 : decode cX6_order 52 = .ok (.getfield 66, 3) := by decide +kernel
theorem dX6_order_55 : decode cX6_order 55 = .ok (.iconst 0, 1) := by decide +kernel
theorem dX6_order_56 : decode cX6_order 56 = .ok (.iastore, 1) := by decide +kernel
theorem dX6_order_57 : decode cX6_order 57 = .ok (.aload_n 0, 1) := by decide +kernel
theorem dX6_order_58 : decode cX6_order 58 = .ok (.getfield 23, 3) := by decide +kernel
theorem dX6_order_61 : decode cX6_order 61 = .ok (.aload_n 0, 1) := by decide +kernel
theorem dX6_order_62 : decode cX6_order 62 = .ok (.getfield 66, 3) := by decide +kernel
theorem dX6_order_65 : decode cX6_order 65 = .ok (.iconst (-1), 1) := by decide +kernel
theorem dX6_order_66 : decode cX6_order 66 = .ok (.iastore, 1) := by decide +kernel
theorem dX6_order_67 : decode cX6_order 67 = .ok (.aload_n 0, 1) := by decide +kernel
theorem dX6_order_68 : decode cX6_order 68 = .ok (.getfield 26, 3) := by decide +kernel
theorem dX6_order_71 : decode cX6_order 71 = .ok (.aload_n 0, 1) := by decide +kernel
theorem dX6_order_72 : decode cX6_order 72 = .ok (.getfield 66, 3) := by decide +kernel
theorem dX6_order_75 : decode cX6_order 75 = .ok (.iconst 0, 1) := by decide +kernel
theorem dX6_order_76 : decode cX6_order 76 = .ok (.iastore, 1) := by decide +kernel
theorem dX6_order_77 : decode cX6_order 77 = .ok (.aload_n 0, 1) := by decide +kernel
theorem dX6_order_78 : decode cX6_order 78 = .ok (.dup, 1) := by decide +kernel
theorem dX6_order_79 : decode cX6_order 79 = .ok (.getfield 66, 3) := by decide +kernel
theorem dX6_order_82 : decode cX6_order 82 = .ok (.iconst 1, 1) := by decide +kernel
theorem dX6_order_83 : decode cX6_order 83 = .ok (.iadd, 1) := by decide +kernel
theorem dX6_order_84 : decode cX6_order 84 = .ok (.putfield 66, 3) := by decide +kernel
theorem dX6_order_87 : decode cX6_order 87 = .ok (.aload_n 0, 1) := by decide +kernel
theorem dX6_order_88 : decode cX6_order 88 = .ok (.getfield 66, 3) := by decide +kernel
theorem dX6_order_91 : decode cX6_order 91 = .ok (.iconst 1, 1) := by decide +kernel
theorem dX6_order_92 : decode cX6_order 92 = .ok (.isub, 1) := by decide +kernel
theorem dX6_order_93 : decode cX6_order 93 = .ok (.ireturn, 1) := by decide +kernel
theorem dX6_wanted_0 : decode cX6_wanted 0 = .ok (.iconst 0, 1) := by decide +kernel
theorem dX6_wanted_1 : decode cX6_wanted 1 = .ok (.istore_n 2, 1) := by decide +kernel
theorem dX6_wanted_2 : decode cX6_wanted 2 = .ok (.iconst 0, 1) := by decide +kernel
theorem dX6_wanted_3 : decode cX6_wanted 3 = .ok (.istore_n 3, 1) := by decide +kernel
theorem dX6_wanted_4 : decode cX6_wanted 4 = .ok (.iload_n 3, 1) := by decide +kernel
theorem dX6_wanted_5 : decode cX6_wanted 5 = .ok (.aload_n 0, 1) := by decide +kernel
theorem dX6_wanted_6 : decode cX6_wanted 6 = .ok (.getfield 26, 3) := by decide +kernel
theorem dX6_wanted_9 : decode cX6_wanted 9 = .ok (.iload_n 1, 1) := by decide +kernel
theorem dX6_wanted_10 : decode cX6_wanted 10 = .ok (.iaload, 1) := by decide +kernel
theorem dX6_wanted_11 : decode cX6_wanted 11 = .ok (.if_icmp .ge 24, 3) := by decide +kernel
theorem dX6_wanted_14 : decode cX6_wanted 14 = .ok (.iload_n 2, 1) := by decide +kernel
theorem dX6_wanted_15 : decode cX6_wanted 15 = .ok (.iconst 1, 1) := by decide +kernel
theorem dX6_wanted_16 : decode cX6_wanted 16 = .ok (.aload_n 0, 1) := by decide +kernel
theorem dX6_wanted_17 : decode cX6_wanted 17 = .ok (.getfield 29, 3) := by decide +kernel
theorem dX6_wanted_20 : decode cX6_wanted 20 = .ok (.iconst 5, 1) := by decide +kernel
theorem dX6_wanted_21 : decode cX6_wanted 21 = .ok (.iload_n 1, 1) := by decide +kernel
theorem dX6_wanted_22 : decode cX6_wanted 22 = .ok (.imul, 1) := by decide +kernel
theorem dX6_wanted_23 : decode cX6_wanted 23 = .ok (.iload_n 3, 1) := by decide +kernel
theorem dX6_wanted_24 : decode cX6_wanted 24 = .ok (.iadd, 1) := by decide +kernel
theorem dX6_wanted_25 : decode cX6_wanted 25 = .ok (.iaload, 1) := by decide +kernel
theorem dX6_wanted_26 : decode cX6_wanted 26 = .ok (.ishl, 1) := by decide +kernel
theorem dX6_wanted_27 : decode cX6_wanted 27 = .ok (.ior, 1) := by decide +kernel
theorem dX6_wanted_28 : decode cX6_wanted 28 = .ok (.istore_n 2, 1) := by decide +kernel
theorem dX6_wanted_29 : decode cX6_wanted 29 = .ok (.iinc 3 1, 3) := by decide +kernel
theorem dX6_wanted_32 : decode cX6_wanted 32 = .ok (.goto (-28), 3) := by decide +kernel
theorem dX6_wanted_35 : decode cX6_wanted 35 = .ok (.iload_n 2, 1) := by decide +kernel
theorem dX6_wanted_36 : decode cX6_wanted 36 = .ok (.ireturn, 1) := by decide +kernel
set_option maxRecDepth 20000 in
theorem ggX6_line_X6_isOrder : GoodIn wsX6_line wsX6_isOrder := goodIn_r _ [12, 13, 14, 15, 11, 16, 28, 29, 30, 31, 32, 33, 34, 35, 36, 37, 38, 39, 40, 41, 42, 43, 44, 45, 46, 47, 48, 49] (by decide +kernel) (by decide +kernel)
set_option maxRecDepth 20000 in
theorem gX6_line_X6_isOrder : GoodIn wsX6_line (wsV RX6 108 RX6 yX6_isOrder wsX6_isOrder) := goodIn_app (goodIn_of _ (by decide +kernel)) ggX6_line_X6_isOrder
set_option maxRecDepth 20000 in
theorem ggX6_line_X6_isProduct : GoodIn wsX6_line wsX6_isProduct := goodIn_r _ [19, 14, 15, 11, 16] (by decide +kernel) (by decide +kernel)
set_option maxRecDepth 20000 in
theorem gX6_line_X6_isProduct : GoodIn wsX6_line (va_wsS RX6 90 yX6_isProduct wsX6_isProduct) := goodIn_app (goodIn_of _ (by decide +kernel)) ggX6_line_X6_isProduct
set_option maxRecDepth 20000 in
theorem ggX6_line_X6_fails : GoodIn wsX6_line wsX6_fails := goodIn_r _ [23, 1, 28, 29, 30, 31, 32, 33, 34, 35, 36, 37, 38, 39, 40, 41, 42, 43, 44, 45, 46, 47, 48, 49] (by decide +kernel) (by decide +kernel)
set_option maxRecDepth 20000 in
theorem gX6_line_X6_fails : GoodIn wsX6_line (wsV RX6 94 RX6 yX6_fails wsX6_fails) := goodIn_app (goodIn_of _ (by decide +kernel)) ggX6_line_X6_fails
set_option maxRecDepth 20000 in
theorem ggX6_line_X6_in : GoodIn wsX6_line wsX6_in := goodIn_r _ [16] (by decide +kernel) (by decide +kernel)
set_option maxRecDepth 20000 in
theorem gX6_line_X6_in : GoodIn wsX6_line (va_wsS RX6 62 yX6_in wsX6_in) := goodIn_app (goodIn_of _ (by decide +kernel)) ggX6_line_X6_in
set_option maxRecDepth 20000 in
theorem ggX6_line_X6_wanted : GoodIn wsX6_line wsX6_wanted := goodIn_r _ [27, 3, 6, 28, 29, 30, 31, 32, 33, 34, 35, 36, 37, 38, 39, 40, 41, 42, 43, 44, 45, 46, 47, 48, 49] (by decide +kernel) (by decide +kernel)
set_option maxRecDepth 20000 in
theorem gX6_line_X6_wanted : GoodIn wsX6_line (wsV RX6 111 RX6 yX6_wanted wsX6_wanted) := goodIn_app (goodIn_of _ (by decide +kernel)) ggX6_line_X6_wanted
theorem dX6_line_0 : decode cX6_line 0 = .ok (.aload_n 0, 1) := by decide +kernel
theorem dX6_line_1 : decode cX6_line 1 = .ok (.iconst 0, 1) := by decide +kernel
theorem dX6_line_2 : decode cX6_line 2 = .ok (.putfield 59, 3) := by decide +kernel
theorem dX6_line_5 : decode cX6_line 5 = .ok (.aload_n 0, 1) := by decide +kernel
theorem dX6_line_6 : decode cX6_line 6 = .ok (.iload_n 1, 1) := by decide +kernel
theorem dX6_line_7 : decode cX6_line 7 = .ok (.invokevirtual 108, 3) := by decide +kernel
theorem dX6_line_10 : decode cX6_line 10 = .ok (.ifCond .eq 10, 3) := by decide +kernel
theorem dX6_line_13 : decode cX6_line 13 = .ok (.iload_n 2, 1) := by decide +kernel
theorem dX6_line_14 : decode cX6_line 14 = .ok (.invokestatic 90, 3) := by decide +kernel
theorem dX6_line_17 : decode cX6_line 17 = .ok (.ifCond .ne 9, 3) := by decide +kernel
theorem dX6_line_20 : decode cX6_line 20 = .ok (.aload_n 0, 1) := by decide +kernel
theorem dX6_line_21 : decode cX6_line 21 = .ok (.iconst 1, 1) := by decide +kernel
theorem dX6_line_22 : decode cX6_line 22 = .ok (.invokevirtual 94, 3) := by decide +kernel
theorem dX6_line_25 : decode cX6_line 25 = .ok (.ireturn, 1) := by decide +kernel
theorem dX6_line_26 : decode cX6_line 26 = .ok (.iload_n 3, 1) := by decide +kernel
theorem dX6_line_27 : decode cX6_line 27 = .ok (.iconst 1, 1) := by decide +kernel
theorem dX6_line_28 : decode cX6_line 28 = .ok (.bipush 99, 2) := by decide +kernel
theorem dX6_line_30 : decode cX6_line 30 = .ok (.invokestatic 62, 3) := by decide +kernel
theorem dX6_line_33 : decode cX6_line 33 = .ok (.ifCond .ne 9, 3) := by decide +kernel
theorem dX6_line_36 : decode cX6_line 36 = .ok (.aload_n 0, 1) := by decide +kernel
theorem dX6_line_37 : decode cX6_line 37 = .ok (.iconst 2, 1) := by decide +kernel
theorem dX6_line_38 : decode cX6_line 38 = .ok (.invokevirtual 94, 3) := by decide +kernel
theorem dX6_line_41 : decode cX6_line 41 = .ok (.ireturn, 1) := by decide +kernel
theorem dX6_line_42 : decode cX6_line 42 = .ok (.aload_n 0, 1) := by decide +kernel
theorem dX6_line_43 : decode cX6_line 43 = .ok (.getfield 20, 3) := by decide +kernel
theorem dX6_line_46 : decode cX6_line 46 = .ok (.iload_n 1, 1) := by decide +kernel
theorem dX6_line_47 : decode cX6_line 47 = .ok (.iaload, 1) := by decide +kernel
theorem dX6_line_48 : decode cX6_line 48 = .ok (.ifCond .ne 49, 3) := by decide +kernel
theorem dX6_line_51 : decode cX6_line 51 = .ok (.aload_n 0, 1) := by decide +kernel
theorem dX6_line_52 : decode cX6_line 52 = .ok (.getfield 26, 3) := by decide +kernel
theorem dX6_line_55 : decode cX6_line 55 = .ok (.iload_n 1, 1) := by decide +kernel
theorem dX6_line_56 : decode cX6_line 56 = .ok (.iaload, 1) := by decide +kernel
theorem dX6_line_57 : decode cX6_line 57 = .ok (.iconst 5, 1) := by decide +kernel
theorem dX6_line_58 : decode cX6_line 58 = .ok (.if_icmp .eq 39, 3) := by decide +kernel
theorem dX6_line_61 : decode cX6_line 61 = .ok (.aload_n 0, 1) := by decide +kernel
theorem dX6_line_62 : decode cX6_line 62 = .ok (.getfield 26, 3) := by decide +kernel
theorem dX6_line_65 : decode cX6_line 65 = .ok (.iload_n 1, 1) := by decide +kernel
theorem dX6_line_66 : decode cX6_line 66 = .ok (.iaload, 1) := by decide +kernel
theorem dX6_line_67 : decode cX6_line 67 = .ok (.aload_n 0, 1) := by decide +kernel
theorem dX6_line_68 : decode cX6_line 68 = .ok (.getfield 7, 3) := by decide +kernel
theorem dX6_line_71 : decode cX6_line 71 = .ok (.if_icmp .ge 26, 3) := by decide +kernel
theorem dX6_line_74 : decode cX6_line 74 = .ok (.aload_n 0, 1) := by decide +kernel
theorem dX6_line_75 : decode cX6_line 75 = .ok (.iload_n 1, 1) := by decide +kernel
theorem dX6_line_76 : decode cX6_line 76 = .ok (.invokevirtual 111, 3) := by decide +kernel
theorem dX6_line_79 : decode cX6_line 79 = .ok (.iload_n 2, 1) := by decide +kernel
theorem dX6_line_80 : decode cX6_line 80 = .ok (.ishr, 1) := by decide +kernel
theorem dX6_line_81 : decode cX6_line 81 = .ok (.iconst 1, 1) := by decide +kernel
theorem dX6_line_82 : decode cX6_line 82 = .ok (.iand, 1) := by decide +kernel
theorem dX6_line_83 : decode cX6_line 83 = .ok (.iconst 1, 1) := by decide +kernel
theorem dX6_line_84 : decode cX6_line 84 = .ok (.if_icmp .eq 13, 3) := by decide +kernel
theorem dX6_line_87 : decode cX6_line 87 = .ok (.aload_n 0, 1) := by decide +kernel
theorem dX6_line_88 : decode cX6_line 88 = .ok (.getfield 13, 3) := by decide +kernel
theorem dX6_line_91 : decode cX6_line 91 = .ok (.iload_n 2, 1) := by decide +kernel
theorem dX6_line_92 : decode cX6_line 92 = .ok (.iaload, 1) := by decide +kernel
theorem dX6_line_93 : decode cX6_line 93 = .ok (.iconst (-1), 1) := by decide +kernel
theorem dX6_line_94 : decode cX6_line 94 = .ok (.if_icmp .ne 9, 3) := by decide +kernel
theorem dX6_line_97 : decode cX6_line 97 = .ok (.aload_n 0, 1) := by decide +kernel
theorem dX6_line_98 : decode cX6_line 98 = .ok (.iconst 3, 1) := by decide +kernel
theorem dX6_line_99 : decode cX6_line 99 = .ok (.invokevirtual 94, 3) := by decide +kernel
theorem dX6_line_102 : decode cX6_line 102 = .ok (.ireturn, 1) := by decide +kernel
theorem dX6_line_103 : decode cX6_line 103 = .ok (.aload_n 0, 1) := by decide +kernel
theorem dX6_line_104 : decode cX6_line 104 = .ok (.getfield 29, 3) := by decide +kernel
theorem dX6_line_107 : decode cX6_line 107 = .ok (.iconst 5, 1) := by decide +kernel
theorem dX6_line_108 : decode cX6_line 108 = .ok (.iload_n 1, 1) := by decide +kernel
theorem dX6_line_109 : decode cX6_line 109 = .ok (.imul, 1) := by decide +kernel
theorem dX6_line_110 : decode cX6_line 110 = .ok (.aload_n 0, 1) := by decide +kernel
theorem dX6_line_111 : decode cX6_line 111 = .ok (.getfield 26, 3) := by decide +kernel
theorem dX6_line_114 : decode cX6_line 114 = .ok (.iload_n 1, 1) := by decide +kernel
theorem dX6_line_115 : decode cX6_line 115 = .ok (.iaload, 1) := by decide +kernel
theorem dX6_line_116 : decode cX6_line 116 = .ok (.iadd, 1) := by decide +kernel
theorem dX6_line_117 : decode cX6_line 117 = .ok (.iload_n 2, 1) := by decide +kernel
theorem dX6_line_118 : decode cX6_line 118 = .ok (.iastore, 1) := by decide +kernel
theorem dX6_line_119 : decode cX6_line 119 = .ok (.aload_n 0, 1) := by decide +kernel
