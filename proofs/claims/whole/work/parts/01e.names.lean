theorem dX6_line_120 : decode cX6_line 120 = .ok (.getfield 32, 3) := by decide +kernel
theorem dX6_line_123 : decode cX6_line 123 = .ok (.iconst 5, 1) := by decide +kernel
theorem dX6_line_124 : decode cX6_line 124 = .ok (.iload_n 1, 1) := by decide +kernel
theorem dX6_line_125 : decode cX6_line 125 = .ok (.imul, 1) := by decide +kernel
theorem dX6_line_126 : decode cX6_line 126 = .ok (.aload_n 0, 1) := by decide +kernel
theorem dX6_line_127 : decode cX6_line 127 = .ok (.getfield 26, 3) := by decide +kernel
theorem dX6_line_130 : decode cX6_line 130 = .ok (.iload_n 1, 1) := by decide +kernel
theorem dX6_line_131 : decode cX6_line 131 = .ok (.iaload, 1) := by decide +kernel
theorem dX6_line_132 : decode cX6_line 132 = .ok (.iadd, 1) := by decide +kernel
theorem dX6_line_133 : decode cX6_line 133 = .ok (.iload_n 3, 1) := by decide +kernel
theorem dX6_line_134 : decode cX6_line 134 = .ok (.iastore, 1) := by decide +kernel
theorem dX6_line_135 : decode cX6_line 135 = .ok (.aload_n 0, 1) := by decide +kernel
theorem dX6_line_136 : decode cX6_line 136 = .ok (.getfield 26, 3) := by decide +kernel
theorem dX6_line_139 : decode cX6_line 139 = .ok (.iload_n 1, 1) := by decide +kernel
theorem dX6_line_140 : decode cX6_line 140 = .ok (.dup2, 1) := by decide +kernel
theorem dX6_line_141 : decode cX6_line 141 = .ok (.iaload, 1) := by decide +kernel
theorem dX6_line_142 : decode cX6_line 142 = .ok (.iconst 1, 1) := by decide +kernel
theorem dX6_line_143 : decode cX6_line 143 = .ok (.iadd, 1) := by decide +kernel
theorem dX6_line_144 : decode cX6_line 144 = .ok (.iastore, 1) := by decide +kernel
theorem dX6_line_145 : decode cX6_line 145 = .ok (.aload_n 0, 1) := by decide +kernel
theorem dX6_line_146 : decode cX6_line 146 = .ok (.getfield 26, 3) := by decide +kernel
theorem dX6_line_149 : decode cX6_line 149 = .ok (.iload_n 1, 1) := by decide +kernel
theorem dX6_line_150 : decode cX6_line 150 = .ok (.iaload, 1) := by decide +kernel
theorem dX6_line_151 : decode cX6_line 151 = .ok (.ireturn, 1) := by decide +kernel
theorem dX6_orders_0 : decode cX6_orders 0 = .ok (.aload_n 0, 1) := by decide +kernel
theorem dX6_orders_1 : decode cX6_orders 1 = .ok (.iconst 0, 1) := by decide +kernel
theorem dX6_orders_2 : decode cX6_orders 2 = .ok (.putfield 59, 3) := by decide +kernel
theorem dX6_orders_5 : decode cX6_orders 5 = .ok (.aload_n 0, 1) := by decide +kernel
theorem dX6_orders_6 : decode cX6_orders 6 = .ok (.getfield 66, 3) := by decide +kernel
theorem dX6_orders_9 : decode cX6_orders 9 = .ok (.ireturn, 1) := by decide +kernel
set_option maxRecDepth 20000 in
theorem ggX6_stateOf_X6_isOrder : GoodIn wsX6_stateOf wsX6_isOrder := goodIn_r _ [7, 8, 9, 10, 6, 11, 16, 17, 18, 19, 20, 21, 22, 23, 24, 25, 26, 27, 28, 29, 30, 31, 32, 33, 34, 35, 36, 37] (by decide +kernel) (by decide +kernel)
set_option maxRecDepth 20000 in
theorem gX6_stateOf_X6_isOrder : GoodIn wsX6_stateOf (wsV RX6 108 RX6 yX6_isOrder wsX6_isOrder) := goodIn_app (goodIn_of _ (by decide +kernel)) ggX6_stateOf_X6_isOrder
set_option maxRecDepth 20000 in
theorem ggX6_stateOf_X6_fails : GoodIn wsX6_stateOf wsX6_fails := goodIn_r _ [15, 1, 16, 17, 18, 19, 20, 21, 22, 23, 24, 25, 26, 27, 28, 29, 30, 31, 32, 33, 34, 35, 36, 37] (by decide +kernel) (by decide +kernel)
set_option maxRecDepth 20000 in
theorem gX6_stateOf_X6_fails : GoodIn wsX6_stateOf (wsV RX6 94 RX6 yX6_fails wsX6_fails) := goodIn_app (goodIn_of _ (by decide +kernel)) ggX6_stateOf_X6_fails
theorem dX6_stateOf_0 : decode cX6_stateOf 0 = .ok (.aload_n 0, 1) := by decide +kernel
theorem dX6_stateOf_1 : decode cX6_stateOf 1 = .ok (.iconst 0, 1) := by decide +kernel
theorem dX6_stateOf_2 : decode cX6_stateOf 2 = .ok (.putfield 59, 3) := by decide +kernel
theorem dX6_stateOf_5 : decode cX6_stateOf 5 = .ok (.aload_n 0, 1) := by decide +kernel
theorem dX6_stateOf_6 : decode cX6_stateOf 6 = .ok (.iload_n 1, 1) := by decide +kernel
theorem dX6_stateOf_7 : decode cX6_stateOf 7 = .ok (.invokevirtual 108, 3) := by decide +kernel
theorem dX6_stateOf_10 : decode cX6_stateOf 10 = .ok (.ifCond .eq 12, 3) := by decide +kernel
theorem dX6_stateOf_13 : decode cX6_stateOf 13 = .ok (.aload_n 0, 1) := by decide +kernel
theorem dX6_stateOf_14 : decode cX6_stateOf 14 = .ok (.getfield 20, 3) := by decide +kernel
theorem dX6_stateOf_17 : decode cX6_stateOf 17 = .ok (.iload_n 1, 1) := by decide +kernel
theorem dX6_stateOf_18 : decode cX6_stateOf 18 = .ok (.iaload, 1) := by decide +kernel
theorem dX6_stateOf_19 : decode cX6_stateOf 19 = .ok (.goto 8, 3) := by decide +kernel
theorem dX6_stateOf_22 : decode cX6_stateOf 22 = .ok (.aload_n 0, 1) := by decide +kernel
theorem dX6_stateOf_23 : decode cX6_stateOf 23 = .ok (.iconst 1, 1) := by decide +kernel
theorem dX6_stateOf_24 : decode cX6_stateOf 24 = .ok (.invokevirtual 94, 3) := by decide +kernel
theorem dX6_stateOf_27 : decode cX6_stateOf 27 = .ok (.ireturn, 1) := by decide +kernel
set_option maxRecDepth 20000 in
theorem ggX6_lengthAlone_X6_isOrder : GoodIn wsX6_lengthAlone wsX6_isOrder := goodIn_r _ [6, 7, 8, 9, 5, 10, 48, 49, 50, 51, 52, 53, 54, 55, 56, 57, 58, 59, 60, 61, 62, 63, 64, 65, 66, 67, 68, 69] (by decide +kernel) (by decide +kernel)
set_option maxRecDepth 20000 in
theorem gX6_lengthAlone_X6_isOrder : GoodIn wsX6_lengthAlone (wsV RX6 108 RX6 yX6_isOrder wsX6_isOrder) := goodIn_app (goodIn_of _ (by decide +kernel)) ggX6_lengthAlone_X6_isOrder
set_option maxRecDepth 20000 in
theorem ggX6_lengthAlone_X6_wanted : GoodIn wsX6_lengthAlone wsX6_wanted := goodIn_r _ [14, 15, 16, 48, 49, 50, 51, 52, 53, 54, 55, 56, 57, 58, 59, 60, 61, 62, 63, 64, 65, 66, 67, 68, 69] (by decide +kernel) (by decide +kernel)
set_option maxRecDepth 20000 in
theorem gX6_lengthAlone_X6_wanted : GoodIn wsX6_lengthAlone (wsV RX6 111 RX6 yX6_wanted wsX6_wanted) := goodIn_app (goodIn_of _ (by decide +kernel)) ggX6_lengthAlone_X6_wanted
set_option maxRecDepth 20000 in
theorem ggX6_lengthAlone_X6_length : GoodIn wsX6_lengthAlone wsX6_length := goodIn_r _ [20, 21, 22, 23, 24, 25, 5, 26, 27, 28, 29, 30, 31, 32, 33, 34, 35, 36, 37, 38, 39, 40, 41, 42, 43, 48, 49, 50, 51, 52, 53, 54, 55, 56, 57, 58, 59, 60, 61, 62, 63, 64, 65, 66, 67, 68, 69] (by decide +kernel) (by decide +kernel)
set_option maxRecDepth 20000 in
theorem gX6_lengthAlone_X6_length : GoodIn wsX6_lengthAlone (wsV RX6 114 RX6 yX6_length wsX6_length) := goodIn_app (goodIn_of _ (by decide +kernel)) ggX6_lengthAlone_X6_length
set_option maxRecDepth 20000 in
theorem ggX6_lengthAlone_X6_fails : GoodIn wsX6_lengthAlone wsX6_fails := goodIn_r _ [47, 1, 48, 49, 50, 51, 52, 53, 54, 55, 56, 57, 58, 59, 60, 61, 62, 63, 64, 65, 66, 67, 68, 69] (by decide +kernel) (by decide +kernel)
set_option maxRecDepth 20000 in
theorem gX6_lengthAlone_X6_fails : GoodIn wsX6_lengthAlone (wsV RX6 94 RX6 yX6_fails wsX6_fails) := goodIn_app (goodIn_of _ (by decide +kernel)) ggX6_lengthAlone_X6_fails
theorem dX6_lengthAlone_0 : decode cX6_lengthAlone 0 = .ok (.aload_n 0, 1) := by decide +kernel
theorem dX6_lengthAlone_1 : decode cX6_lengthAlone 1 = .ok (.iconst 0, 1) := by decide +kernel
theorem dX6_lengthAlone_2 : decode cX6_lengthAlone 2 = .ok (.putfield 59, 3) := by decide +kernel
theorem dX6_lengthAlone_5 : decode cX6_lengthAlone 5 = .ok (.aload_n 0, 1) := by decide +kernel
theorem dX6_lengthAlone_6 : decode cX6_lengthAlone 6 = .ok (.iload_n 1, 1) := by decide +kernel
theorem dX6_lengthAlone_7 : decode cX6_lengthAlone 7 = .ok (.invokevirtual 108, 3) := by decide +kernel
theorem dX6_lengthAlone_10 : decode cX6_lengthAlone 10 = .ok (.ifCond .eq 15, 3) := by decide +kernel
theorem dX6_lengthAlone_13 : decode cX6_lengthAlone 13 = .ok (.aload_n 0, 1) := by decide +kernel
theorem dX6_lengthAlone_14 : decode cX6_lengthAlone 14 = .ok (.aload_n 0, 1) := by decide +kernel
theorem dX6_lengthAlone_15 : decode cX6_lengthAlone 15 = .ok (.iload_n 1, 1) := by decide +kernel
theorem dX6_lengthAlone_16 : decode cX6_lengthAlone 16 = .ok (.invokevirtual 111, 3) := by decide +kernel
theorem dX6_lengthAlone_19 : decode cX6_lengthAlone 19 = .ok (.invokevirtual 114, 3) := by decide +kernel
theorem dX6_lengthAlone_22 : decode cX6_lengthAlone 22 = .ok (.goto 8, 3) := by decide +kernel
theorem dX6_lengthAlone_25 : decode cX6_lengthAlone 25 = .ok (.aload_n 0, 1) := by decide +kernel
theorem dX6_lengthAlone_26 : decode cX6_lengthAlone 26 = .ok (.iconst 1, 1) := by decide +kernel
theorem dX6_lengthAlone_27 : decode cX6_lengthAlone 27 = .ok (.invokevirtual 94, 3) := by decide +kernel
theorem dX6_lengthAlone_30 : decode cX6_lengthAlone 30 = .ok (.ireturn, 1) := by decide +kernel
set_option maxRecDepth 20000 in
theorem ggX6_setCapacity_X6_in : GoodIn wsX6_setCapacity wsX6_in := goodIn_r _ [10] (by decide +kernel) (by decide +kernel)
set_option maxRecDepth 20000 in
theorem gX6_setCapacity_X6_in : GoodIn wsX6_setCapacity (va_wsS RX6 62 yX6_in wsX6_in) := goodIn_app (goodIn_of _ (by decide +kernel)) ggX6_setCapacity_X6_in
set_option maxRecDepth 20000 in
theorem ggX6_setCapacity_X6_fails : GoodIn wsX6_setCapacity wsX6_fails := goodIn_r _ [14, 1, 15, 16, 17, 18, 19, 20, 21, 22, 23, 24, 25, 26, 27, 28, 29, 30, 31, 32, 33, 34, 35, 36] (by decide +kernel) (by decide +kernel)
set_option maxRecDepth 20000 in
theorem gX6_setCapacity_X6_fails : GoodIn wsX6_setCapacity (wsV RX6 94 RX6 yX6_fails wsX6_fails) := goodIn_app (goodIn_of _ (by decide +kernel)) ggX6_setCapacity_X6_fails
theorem dX6_setCapacity_0 : decode cX6_setCapacity 0 = .ok (.aload_n 0, 1) := by decide +kernel
theorem dX6_setCapacity_1 : decode cX6_setCapacity 1 = .ok (.iconst 0, 1) := by decide +kernel
theorem dX6_setCapacity_2 : decode cX6_setCapacity 2 = .ok (.putfield 59, 3) := by decide +kernel
theorem dX6_setCapacity_5 : decode cX6_setCapacity 5 = .ok (.iload_n 1, 1) := by decide +kernel
theorem dX6_setCapacity_6 : decode cX6_setCapacity 6 = .ok (.iconst 1, 1) := by decide +kernel
theorem dX6_setCapacity_7 : decode cX6_setCapacity 7 = .ok (.bipush 9, 2) := by decide +kernel
theorem dX6_setCapacity_9 : decode cX6_setCapacity 9 = .ok (.invokestatic 62, 3) := by decide +kernel
theorem dX6_setCapacity_12 : decode cX6_setCapacity 12 = .ok (.ifCond .ne 9, 3) := by decide +kernel
theorem dX6_setCapacity_15 : decode cX6_setCapacity 15 = .ok (.aload_n 0, 1) := by decide +kernel
theorem dX6_setCapacity_16 : decode cX6_setCapacity 16 = .ok (.iconst 1, 1) := by decide +kernel
theorem dX6_setCapacity_17 : decode cX6_setCapacity 17 = .ok (.invokevirtual 94, 3) := by decide +kernel
theorem dX6_setCapacity_20 : decode cX6_setCapacity 20 = .ok (.ireturn, 1) := by decide +kernel
theorem dX6_setCapacity_21 : decode cX6_setCapacity 21 = .ok (.aload_n 0, 1) := by decide +kernel
theorem dX6_setCapacity_22 : decode cX6_setCapacity 22 = .ok (.getfield 69, 3) := by decide +kernel
theorem dX6_setCapacity_25 : decode cX6_setCapacity 25 = .ok (.ifCond .ne 7, 3) := by decide +kernel
theorem dX6_setCapacity_28 : decode cX6_setCapacity 28 = .ok (.iconst 1, 1) := by decide +kernel
theorem dX6_setCapacity_29 : decode cX6_setCapacity 29 = .ok (.goto 4, 3) := by decide +kernel
theorem dX6_setCapacity_32 : decode cX6_setCapacity 32 = .ok (.iconst 0, 1) := by decide +kernel
theorem dX6_setCapacity_33 : decode cX6_setCapacity 33 = .ok (.istore_n 2, 1) := by decide +kernel
theorem dX6_setCapacity_34 : decode cX6_setCapacity 34 = .ok (.iconst 0, 1) := by decide +kernel
theorem dX6_setCapacity_35 : decode cX6_setCapacity 35 = .ok (.istore_n 3, 1) := by decide +kernel
theorem dX6_setCapacity_36 : decode cX6_setCapacity 36 = .ok (.iload_n 3, 1) := by decide +kernel
theorem dX6_setCapacity_37 : decode cX6_setCapacity 37 = .ok (.aload_n 0, 1) := by decide +kernel
theorem dX6_setCapacity_38 : decode cX6_setCapacity 38 = .ok (.getfield 66, 3) := by decide +kernel
theorem dX6_setCapacity_41 : decode cX6_setCapacity 41 = .ok (.if_icmp .ge 39, 3) := by decide +kernel
theorem dX6_setCapacity_44 : decode cX6_setCapacity 44 = .ok (.iload_n 2, 1) := by decide +kernel
theorem dX6_setCapacity_45 : decode cX6_setCapacity 45 = .ok (.ifCond .eq 27, 3) := by decide +kernel
theorem dX6_setCapacity_48 : decode cX6_setCapacity 48 = .ok (.aload_n 0, 1) := by decide +kernel
theorem dX6_setCapacity_49 : decode cX6_setCapacity 49 = .ok (.getfield 20, 3) := by decide +kernel
theorem dX6_setCapacity_52 : decode cX6_setCapacity 52 = .ok (.iload_n 3, 1) := by decide +kernel
theorem dX6_setCapacity_53 : decode cX6_setCapacity 53 = .ok (.iaload, 1) := by decide +kernel
theorem dX6_setCapacity_54 : decode cX6_setCapacity 54 = .ok (.iconst 2, 1) := by decide +kernel
theorem dX6_setCapacity_55 : decode cX6_setCapacity 55 = .ok (.if_icmp .eq 13, 3) := by decide +kernel
theorem dX6_setCapacity_58 : decode cX6_setCapacity 58 = .ok (.aload_n 0, 1) := by decide +kernel
theorem dX6_setCapacity_59 : decode cX6_setCapacity 59 = .ok (.getfield 26, 3) := by decide +kernel
theorem dX6_setCapacity_62 : decode cX6_setCapacity 62 = .ok (.iload_n 3, 1) := by decide +kernel
theorem dX6_setCapacity_63 : decode cX6_setCapacity 63 = .ok (.iaload, 1) := by decide +kernel
theorem dX6_setCapacity_64 : decode cX6_setCapacity 64 = .ok (.iload_n 1, 1) := by decide +kernel
theorem dX6_setCapacity_65 : decode cX6_setCapacity 65 = .ok (.if_icmp .gt 7, 3) := by decide +kernel
theorem dX6_setCapacity_68 : decode cX6_setCapacity 68 = .ok (.iconst 1, 1) := by decide +kernel
theorem dX6_setCapacity_69 : decode cX6_setCapacity 69 = .ok (.goto 4, 3) := by decide +kernel
theorem dX6_setCapacity_72 : decode cX6_setCapacity 72 = .ok (.iconst 0, 1) := by decide +kernel
theorem dX6_setCapacity_73 : decode cX6_setCapacity 73 = .ok (.istore_n 2, 1) := by decide +kernel
theorem dX6_setCapacity_74 : decode cX6_setCapacity 74 = .ok (.iinc 3 1, 3) := by decide +kernel
theorem dX6_setCapacity_77 : decode cX6_setCapacity 77 = .ok (.goto (-41), 3) := by decide +kernel
theorem dX6_setCapacity_80 : decode cX6_setCapacity 80 = .ok (.iload_n 2, 1) := by decide +kernel
theorem dX6_setCapacity_81 : decode cX6_setCapacity 81 = .ok (.ifCond .ne 9, 3) := by decide +kernel
theorem dX6_setCapacity_84 : decode cX6_setCapacity 84 = .ok (.aload_n 0, 1) := by decide +kernel
theorem dX6_setCapacity_85 : decode cX6_setCapacity 85 = .ok (.iconst 2, 1) := by decide +kernel
theorem dX6_setCapacity_86 : decode cX6_setCapacity 86 = .ok (.invokevirtual 94, 3) := by decide +kernel
theorem dX6_setCapacity_89 : decode cX6_setCapacity 89 = .ok (.ireturn, 1) := by decide +kernel
theorem dX6_setCapacity_90 : decode cX6_setCapacity 90 = .ok (.aload_n 0, 1) := by decide +kernel
theorem dX6_setCapacity_91 : decode cX6_setCapacity 91 = .ok (.getfield 7, 3) := by decide +kernel
theorem dX6_setCapacity_94 : decode cX6_setCapacity 94 = .ok (.istore_n 3, 1) := by decide +kernel
theorem dX6_setCapacity_95 : decode cX6_setCapacity 95 = .ok (.aload_n 0, 1) := by decide +kernel
theorem dX6_setCapacity_96 : decode cX6_setCapacity 96 = .ok (.iload_n 1, 1) := by decide +kernel
theorem dX6_setCapacity_97 : decode cX6_setCapacity 97 = .ok (.putfield 7, 3) := by decide +kernel
theorem dX6_setCapacity_100 : decode cX6_setCapacity 100 = .ok (.iload_n 3, 1) := by decide +kernel
theorem dX6_setCapacity_101 : decode cX6_setCapacity 101 = .ok (.ireturn, 1) := by decide +kernel
set_option maxRecDepth 20000 in
theorem ggX6_productsOf_X6_wanted : GoodIn wsX6_productsOf wsX6_wanted := goodIn_r _ [7, 8, 9, 10, 11, 12, 13, 14, 15, 16, 17, 18, 19, 20, 21, 22, 23, 24, 25, 26, 27, 28, 29, 30, 31] (by decide +kernel) (by decide +kernel)
set_option maxRecDepth 20000 in
theorem gX6_productsOf_X6_wanted : GoodIn wsX6_productsOf (wsV RX6 111 RX6 yX6_wanted wsX6_wanted) := goodIn_app (goodIn_of _ (by decide +kernel)) ggX6_productsOf_X6_wanted
theorem dX6_productsOf_0 : decode cX6_productsOf 0 = .ok (.iconst 0, 1) := by decide +kernel
theorem dX6_productsOf_1 : decode cX6_productsOf 1 = .ok (.istore_n 2, 1) := by decide +kernel
theorem dX6_productsOf_2 : decode cX6_productsOf 2 = .ok (.iconst 0, 1) := by decide +kernel
theorem dX6_productsOf_3 : decode cX6_productsOf 3 = .ok (.istore_n 3, 1) := by decide +kernel
theorem dX6_productsOf_4 : decode cX6_productsOf 4 = .ok (.iload_n 3, 1) := by decide +kernel
theorem dX6_productsOf_5 : decode cX6_productsOf 5 = .ok (.aload_n 0, 1) := by decide +kernel
theorem dX6_productsOf_6 : decode cX6_productsOf 6 = .ok (.getfield 66, 3) := by decide +kernel
theorem dX6_productsOf_9 : decode cX6_productsOf 9 = .ok (.if_icmp .ge 31, 3) := by decide +kernel
theorem dX6_productsOf_12 : decode cX6_productsOf 12 = .ok (.iload_n 2, 1) := by decide +kernel
theorem dX6_productsOf_13 : decode cX6_productsOf 13 = .ok (.aload_n 0, 1) := by decide +kernel
theorem dX6_productsOf_14 : decode cX6_productsOf 14 = .ok (.getfield 23, 3) := by decide +kernel
theorem dX6_productsOf_17 : decode cX6_productsOf 17 = .ok (.iload_n 3, 1) := by decide +kernel
theorem dX6_productsOf_18 : decode cX6_productsOf 18 = .ok (.iaload, 1) := by decide +kernel
theorem dX6_productsOf_19 : decode cX6_productsOf 19 = .ok (.iload_n 1, 1) := by decide +kernel
theorem dX6_productsOf_20 : decode cX6_productsOf 20 = .ok (.if_icmp .ne 11, 3) := by decide +kernel
theorem dX6_productsOf_23 : decode cX6_productsOf 23 = .ok (.aload_n 0, 1) := by decide +kernel
theorem dX6_productsOf_24 : decode cX6_productsOf 24 = .ok (.iload_n 3, 1) := by decide +kernel
theorem dX6_productsOf_25 : decode cX6_productsOf 25 = .ok (.invokevirtual 111, 3) := by decide +kernel
theorem dX6_productsOf_28 : decode cX6_productsOf 28 = .ok (.goto 4, 3) := by decide +kernel
theorem dX6_productsOf_31 : decode cX6_productsOf 31 = .ok (.iconst 0, 1) := by decide +kernel
theorem dX6_productsOf_32 : decode cX6_productsOf 32 = .ok (.ior, 1) := by decide +kernel
theorem dX6_productsOf_33 : decode cX6_productsOf 33 = .ok (.istore_n 2, 1) := by decide +kernel
theorem dX6_productsOf_34 : decode cX6_productsOf 34 = .ok (.iinc 3 1, 3) := by decide +kernel
theorem dX6_productsOf_37 : decode cX6_productsOf 37 = .ok (.goto (-33), 3) := by decide +kernel
theorem dX6_productsOf_40 : decode cX6_productsOf 40 = .ok (.iload_n 2, 1) := by decide +kernel
theorem dX6_productsOf_41 : decode cX6_productsOf 41 = .ok (.ireturn, 1) := by decide +kernel
theorem dX6_countLines_0 : decode cX6_countLines 0 = .ok (.iconst 0, 1) := by decide +kernel
theorem dX6_countLines_1 : decode cX6_countLines 1 = .ok (.istore_n 2, 1) := by decide +kernel
theorem dX6_countLines_2 : decode cX6_countLines 2 = .ok (.iconst 0, 1) := by decide +kernel
theorem dX6_countLines_3 : decode cX6_countLines 3 = .ok (.istore_n 3, 1) := by decide +kernel
theorem dX6_countLines_4 : decode cX6_countLines 4 = .ok (.iload_n 3, 1) := by decide +kernel
theorem dX6_countLines_5 : decode cX6_countLines 5 = .ok (.aload_n 0, 1) := by decide +kernel
theorem dX6_countLines_6 : decode cX6_countLines 6 = .ok (.getfield 66, 3) := by decide +kernel
theorem dX6_countLines_9 : decode cX6_countLines 9 = .ok (.if_icmp .ge 32, 3) := by decide +kernel
theorem dX6_countLines_12 : decode cX6_countLines 12 = .ok (.iload_n 2, 1) := by decide +kernel
theorem dX6_countLines_13 : decode cX6_countLines 13 = .ok (.aload_n 0, 1) := by decide +kernel
theorem dX6_countLines_14 : decode cX6_countLines 14 = .ok (.getfield 23, 3) := by decide +kernel
theorem dX6_countLines_17 : decode cX6_countLines 17 = .ok (.iload_n 3, 1) := by decide +kernel
theorem dX6_countLines_18 : decode cX6_countLines 18 = .ok (.iaload, 1) := by decide +kernel
theorem dX6_countLines_19 : decode cX6_countLines 19 = .ok (.iload_n 1, 1) := by decide +kernel
theorem dX6_countLines_20 : decode cX6_countLines 20 = .ok (.if_icmp .ne 12, 3) := by decide +kernel
theorem dX6_countLines_23 : decode cX6_countLines 23 = .ok (.aload_n 0, 1) := by decide +kernel
theorem dX6_countLines_24 : decode cX6_countLines 24 = .ok (.getfield 26, 3) := by decide +kernel
theorem dX6_countLines_27 : decode cX6_countLines 27 = .ok (.iload_n 3, 1) := by decide +kernel
theorem dX6_countLines_28 : decode cX6_countLines 28 = .ok (.iaload, 1) := by decide +kernel
theorem dX6_countLines_29 : decode cX6_countLines 29 = .ok (.goto 4, 3) := by decide +kernel
theorem dX6_countLines_32 : decode cX6_countLines 32 = .ok (.iconst 0, 1) := by decide +kernel
theorem dX6_countLines_33 : decode cX6_countLines 33 = .ok (.iadd, 1) := by decide +kernel
theorem dX6_countLines_34 : decode cX6_countLines 34 = .ok (.istore_n 2, 1) := by decide +kernel
theorem dX6_countLines_35 : decode cX6_countLines 35 = .ok (.iinc 3 1, 3) := by decide +kernel
theorem dX6_countLines_38 : decode cX6_countLines 38 = .ok (.goto (-34), 3) := by decide +kernel
theorem dX6_countLines_41 : decode cX6_countLines 41 = .ok (.iload_n 2, 1) := by decide +kernel
theorem dX6_countLines_42 : decode cX6_countLines 42 = .ok (.ireturn, 1) := by decide +kernel
theorem dX6_closeUp_0 : decode cX6_closeUp 0 = .ok (.iconst 0, 1) := by decide +kernel
theorem dX6_closeUp_1 : decode cX6_closeUp 1 = .ok (.istore_n 2, 1) := by decide +kernel
theorem dX6_closeUp_2 : decode cX6_closeUp 2 = .ok (.iload_n 2, 1) := by decide +kernel
theorem dX6_closeUp_3 : decode cX6_closeUp 3 = .ok (.aload_n 0, 1) := by decide +kernel
theorem dX6_closeUp_4 : decode cX6_closeUp 4 = .ok (.getfield 66, 3) := by decide +kernel
theorem dX6_closeUp_7 : decode cX6_closeUp 7 = .ok (.if_icmp .ge 33, 3) := by decide +kernel
theorem dX6_closeUp_10 : decode cX6_closeUp 10 = .ok (.aload_n 0, 1) := by decide +kernel
theorem dX6_closeUp_11 : decode cX6_closeUp 11 = .ok (.getfield 23, 3) := by decide +kernel
theorem dX6_closeUp_14 : decode cX6_closeUp 14 = .ok (.iload_n 2, 1) := by decide +kernel
theorem dX6_closeUp_15 : decode cX6_closeUp 15 = .ok (.dup2, 1) := by decide +kernel
theorem dX6_closeUp_16 : decode cX6_closeUp 16 = .ok (.iaload, 1) := by decide +kernel
theorem dX6_closeUp_17 : decode cX6_closeUp 17 = .ok (.aload_n 0, 1) := by decide +kernel
theorem dX6_closeUp_18 : decode cX6_closeUp 18 = .ok (.getfield 23, 3) := by decide +kernel
theorem dX6_closeUp_21 : decode cX6_closeUp 21 = .ok (.iload_n 2, 1) := by decide +kernel
theorem dX6_closeUp_22 : decode cX6_closeUp 22 = .ok (.iaload, 1) := by decide +kernel
theorem dX6_closeUp_23 : decode cX6_closeUp 23 = .ok (.iload_n 1, 1) := by decide +kernel
theorem dX6_closeUp_24 : decode cX6_closeUp 24 = .ok (.if_icmp .le 7, 3) := by decide +kernel
theorem dX6_closeUp_27 : decode cX6_closeUp 27 = .ok (.iconst 1, 1) := by decide +kernel
theorem dX6_closeUp_28 : decode cX6_closeUp 28 = .ok (.goto 4, 3) := by decide +kernel
theorem dX6_closeUp_31 : decode cX6_closeUp 31 = .ok (.iconst 0, 1) := by decide +kernel
theorem dX6_closeUp_32 : decode cX6_closeUp 32 = .ok (.isub, 1) := by decide +kernel
theorem dX6_closeUp_33 : decode cX6_closeUp 33 = .ok (.iastore, 1) := by decide +kernel
theorem dX6_closeUp_34 : decode cX6_closeUp 34 = .ok (.iinc 2 1, 3) := by decide +kernel
theorem dX6_closeUp_37 : decode cX6_closeUp 37 = .ok (.goto (-35), 3) := by decide +kernel
theorem dX6_closeUp_40 : decode cX6_closeUp 40 = .ok (.aload_n 0, 1) := by decide +kernel
theorem dX6_closeUp_41 : decode cX6_closeUp 41 = .ok (.dup, 1) := by decide +kernel
theorem dX6_closeUp_42 : decode cX6_closeUp 42 = .ok (.getfield 69, 3) := by decide +kernel
theorem dX6_closeUp_45 : decode cX6_closeUp 45 = .ok (.iconst 1, 1) := by decide +kernel
theorem dX6_closeUp_46 : decode cX6_closeUp 46 = .ok (.isub, 1) := by decide +kernel
theorem dX6_closeUp_47 : decode cX6_closeUp 47 = .ok (.putfield 69, 3) := by decide +kernel
theorem dX6_closeUp_50 : decode cX6_closeUp 50 = .ok (.return_, 1) := by decide +kernel
set_option maxRecDepth 20000 in
theorem ggX6_joins_X6_countLines : GoodIn wsX6_joins wsX6_countLines := goodIn_r _ [9, 3, 4, 10, 51, 52, 53, 54, 55, 56, 57, 58, 59, 60, 61, 62, 63, 64, 65, 66, 67, 68, 69, 70, 71, 72] (by decide +kernel) (by decide +kernel)
set_option maxRecDepth 20000 in
theorem gX6_joins_X6_countLines : GoodIn wsX6_joins (wsV RX6 117 RX6 yX6_countLines wsX6_countLines) := goodIn_app (goodIn_of _ (by decide +kernel)) ggX6_joins_X6_countLines
set_option maxRecDepth 20000 in
theorem ggX6_joins_X6_productsOf : GoodIn wsX6_joins wsX6_productsOf := goodIn_r _ [14, 3, 4, 15, 16, 17, 8, 18, 10, 19, 51, 52, 53, 54, 55, 56, 57, 58, 59, 60, 61, 62, 63, 64, 65, 66, 67, 68, 69, 70, 71, 72] (by decide +kernel) (by decide +kernel)
set_option maxRecDepth 20000 in
theorem gX6_joins_X6_productsOf : GoodIn wsX6_joins (wsV RX6 120 RX6 yX6_productsOf wsX6_productsOf) := goodIn_app (goodIn_of _ (by decide +kernel)) ggX6_joins_X6_productsOf
set_option maxRecDepth 20000 in
theorem ggX6_joins_X6_length : GoodIn wsX6_joins wsX6_length := goodIn_r _ [23, 24, 25, 26, 27, 28, 8, 29, 30, 31, 32, 33, 34, 35, 36, 37, 38, 39, 40, 41, 42, 43, 44, 45, 46, 51, 52, 53, 54, 55, 56, 57, 58, 59, 60, 61, 62, 63, 64, 65, 66, 67, 68, 69, 70, 71, 72] (by decide +kernel) (by decide +kernel)
set_option maxRecDepth 20000 in
theorem gX6_joins_X6_length : GoodIn wsX6_joins (wsV RX6 114 RX6 yX6_length wsX6_length) := goodIn_app (goodIn_of _ (by decide +kernel)) ggX6_joins_X6_length
set_option maxRecDepth 20000 in
theorem ggX6_joins_X6_closeUp : GoodIn wsX6_joins wsX6_closeUp := goodIn_r _ [50, 3, 4, 1, 51, 52, 53, 54, 55, 56, 57, 58, 59, 60, 61, 62, 63, 64, 65, 66, 67, 68, 69, 70, 71, 72] (by decide +kernel) (by decide +kernel)
set_option maxRecDepth 20000 in
theorem gX6_joins_X6_closeUp : GoodIn wsX6_joins (wsV RX6 123 RX6 yX6_closeUp wsX6_closeUp) := goodIn_app (goodIn_of _ (by decide +kernel)) ggX6_joins_X6_closeUp
theorem dX6_joins_0 : decode cX6_joins 0 = .ok (.iconst 0, 1) := by decide +kernel
theorem dX6_joins_1 : decode cX6_joins 1 = .ok (.istore_n 1, 1) := by decide +kernel
theorem dX6_joins_2 : decode cX6_joins 2 = .ok (.iconst (-1), 1) := by decide +kernel
theorem dX6_joins_3 : decode cX6_joins 3 = .ok (.istore_n 2, 1) := by decide +kernel
theorem dX6_joins_4 : decode cX6_joins 4 = .ok (.iconst (-1), 1) := by decide +kernel
theorem dX6_joins_5 : decode cX6_joins 5 = .ok (.istore_n 3, 1) := by decide +kernel
theorem dX6_joins_6 : decode cX6_joins 6 = .ok (.iconst 0, 1) := by decide +kernel
theorem dX6_joins_7 : decode cX6_joins 7 = .ok (.istore 4, 2) := by decide +kernel
theorem dX6_joins_9 : decode cX6_joins 9 = .ok (.iload 4, 2) := by decide +kernel
theorem dX6_joins_11 : decode cX6_joins 11 = .ok (.aload_n 0, 1) := by decide +kernel
theorem dX6_joins_12 : decode cX6_joins 12 = .ok (.getfield 69, 3) := by decide +kernel
theorem dX6_joins_15 : decode cX6_joins 15 = .ok (.if_icmp .ge 130, 3) := by decide +kernel
theorem dX6_joins_18 : decode cX6_joins 18 = .ok (.iload 4, 2) := by decide +kernel
theorem dX6_joins_20 : decode cX6_joins 20 = .ok (.iconst 1, 1) := by decide +kernel
theorem dX6_joins_21 : decode cX6_joins 21 = .ok (.iadd, 1) := by decide +kernel
theorem dX6_joins_22 : decode cX6_joins 22 = .ok (.istore 5, 2) := by decide +kernel
theorem dX6_joins_24 : decode cX6_joins 24 = .ok (.iload 5, 2) := by decide +kernel
theorem dX6_joins_26 : decode cX6_joins 26 = .ok (.aload_n 0, 1) := by decide +kernel
theorem dX6_joins_27 : decode cX6_joins 27 = .ok (.getfield 69, 3) := by decide +kernel
theorem dX6_joins_30 : decode cX6_joins 30 = .ok (.if_icmp .ge 109, 3) := by decide +kernel
theorem dX6_joins_33 : decode cX6_joins 33 = .ok (.aload_n 0, 1) := by decide +kernel
theorem dX6_joins_34 : decode cX6_joins 34 = .ok (.iload 4, 2) := by decide +kernel
theorem dX6_joins_36 : decode cX6_joins 36 = .ok (.invokevirtual 117, 3) := by decide +kernel
theorem dX6_joins_39 : decode cX6_joins 39 = .ok (.aload_n 0, 1) := by decide +kernel
theorem dX6_joins_40 : decode cX6_joins 40 = .ok (.iload 5, 2) := by decide +kernel
theorem dX6_joins_42 : decode cX6_joins 42 = .ok (.invokevirtual 117, 3) := by decide +kernel
theorem dX6_joins_45 : decode cX6_joins 45 = .ok (.iadd, 1) := by decide +kernel
theorem dX6_joins_46 : decode cX6_joins 46 = .ok (.aload_n 0, 1) := by decide +kernel
theorem dX6_joins_47 : decode cX6_joins 47 = .ok (.getfield 7, 3) := by decide +kernel
theorem dX6_joins_50 : decode cX6_joins 50 = .ok (.if_icmp .gt 83, 3) := by decide +kernel
theorem dX6_joins_53 : decode cX6_joins 53 = .ok (.aload_n 0, 1) := by decide +kernel
theorem dX6_joins_54 : decode cX6_joins 54 = .ok (.aload_n 0, 1) := by decide +kernel
theorem dX6_joins_55 : decode cX6_joins 55 = .ok (.iload 4, 2) := by decide +kernel
theorem dX6_joins_57 : decode cX6_joins 57 = .ok (.invokevirtual 120, 3) := by decide +kernel
theorem dX6_joins_60 : decode cX6_joins 60 = .ok (.invokevirtual 114, 3) := by decide +kernel
theorem dX6_joins_63 : decode cX6_joins 63 = .ok (.aload_n 0, 1) := by decide +kernel
theorem dX6_joins_64 : decode cX6_joins 64 = .ok (.aload_n 0, 1) := by decide +kernel
theorem dX6_joins_65 : decode cX6_joins 65 = .ok (.iload 5, 2) := by decide +kernel
theorem dX6_joins_67 : decode cX6_joins 67 = .ok (.invokevirtual 120, 3) := by decide +kernel
theorem dX6_joins_70 : decode cX6_joins 70 = .ok (.invokevirtual 114, 3) := by decide +kernel
theorem dX6_joins_73 : decode cX6_joins 73 = .ok (.iadd, 1) := by decide +kernel
theorem dX6_joins_74 : decode cX6_joins 74 = .ok (.aload_n 0, 1) := by decide +kernel
theorem dX6_joins_75 : decode cX6_joins 75 = .ok (.aload_n 0, 1) := by decide +kernel
theorem dX6_joins_76 : decode cX6_joins 76 = .ok (.iload 4, 2) := by decide +kernel
theorem dX6_joins_78 : decode cX6_joins 78 = .ok (.invokevirtual 120, 3) := by decide +kernel
theorem dX6_joins_81 : decode cX6_joins 81 = .ok (.aload_n 0, 1) := by decide +kernel
theorem dX6_joins_82 : decode cX6_joins 82 = .ok (.iload 5, 2) := by decide +kernel
theorem dX6_joins_84 : decode cX6_joins 84 = .ok (.invokevirtual 120, 3) := by decide +kernel
theorem dX6_joins_87 : decode cX6_joins 87 = .ok (.ior, 1) := by decide +kernel
theorem dX6_joins_88 : decode cX6_joins 88 = .ok (.invokevirtual 114, 3) := by decide +kernel
theorem dX6_joins_91 : decode cX6_joins 91 = .ok (.isub, 1) := by decide +kernel
theorem dX6_joins_92 : decode cX6_joins 92 = .ok (.istore 6, 2) := by decide +kernel
theorem dX6_joins_94 : decode cX6_joins 94 = .ok (.iload 6, 2) := by decide +kernel
theorem dX6_joins_96 : decode cX6_joins 96 = .ok (.iload_n 1, 1) := by decide +kernel
theorem dX6_joins_97 : decode cX6_joins 97 = .ok (.if_icmp .le 8, 3) := by decide +kernel
theorem dX6_joins_100 : decode cX6_joins 100 = .ok (.iload 4, 2) := by decide +kernel
theorem dX6_joins_102 : decode cX6_joins 102 = .ok (.goto 4, 3) := by decide +kernel
theorem dX6_joins_105 : decode cX6_joins 105 = .ok (.iload_n 2, 1) := by decide +kernel
theorem dX6_joins_106 : decode cX6_joins 106 = .ok (.istore_n 2, 1) := by decide +kernel
theorem dX6_joins_107 : decode cX6_joins 107 = .ok (.iload 6, 2) := by decide +kernel
theorem dX6_joins_109 : decode cX6_joins 109 = .ok (.iload_n 1, 1) := by decide +kernel
theorem dX6_joins_110 : decode cX6_joins 110 = .ok (.if_icmp .le 8, 3) := by decide +kernel
theorem dX6_joins_113 : decode cX6_joins 113 = .ok (.iload 5, 2) := by decide +kernel
theorem dX6_joins_115 : decode cX6_joins 115 = .ok (.goto 4, 3) := by decide +kernel
theorem dX6_joins_118 : decode cX6_joins 118 = .ok (.iload_n 3, 1) := by decide +kernel
theorem dX6_joins_119 : decode cX6_joins 119 = .ok (.istore_n 3, 1) := by decide +kernel
theorem dX6_joins_120 : decode cX6_joins 120 = .ok (.iload 6, 2) := by decide +kernel
theorem dX6_joins_122 : decode cX6_joins 122 = .ok (.iload_n 1, 1) := by decide +kernel
theorem dX6_joins_123 : decode cX6_joins 123 = .ok (.if_icmp .le 8, 3) := by decide +kernel
theorem dX6_joins_126 : decode cX6_joins 126 = .ok (.iload 6, 2) := by decide +kernel
theorem dX6_joins_128 : decode cX6_joins 128 = .ok (.goto 4, 3) := by decide +kernel
theorem dX6_joins_131 : decode cX6_joins 131 = .ok (.iload_n 1, 1) := by decide +kernel
theorem dX6_joins_132 : decode cX6_joins 132 = .ok (.istore_n 1, 1) := by decide +kernel
theorem dX6_joins_133 : decode cX6_joins 133 = .ok (.iinc 5 1, 3) := by decide +kernel
theorem dX6_joins_136 : decode cX6_joins 136 = .ok (.goto (-112), 3) := by decide +kernel
theorem dX6_joins_139 : decode cX6_joins 139 = .ok (.iinc 4 1, 3) := by decide +kernel
theorem dX6_joins_142 : decode cX6_joins 142 = .ok (.goto (-133), 3) := by decide +kernel
theorem dX6_joins_145 : decode cX6_joins 145 = .ok (.iconst 0, 1) := by decide +kernel
theorem dX6_joins_146 : decode cX6_joins 146 = .ok (.istore 4, 2) := by decide +kernel
theorem dX6_joins_148 : decode cX6_joins 148 = .ok (.iload 4, 2) := by decide +kernel
theorem dX6_joins_150 : decode cX6_joins 150 = .ok (.aload_n 0, 1) := by decide +kernel
theorem dX6_joins_151 : decode cX6_joins 151 = .ok (.getfield 66, 3) := by decide +kernel
theorem dX6_joins_154 : decode cX6_joins 154 = .ok (.if_icmp .ge 42, 3) := by decide +kernel
theorem dX6_joins_157 : decode cX6_joins 157 = .ok (.iload_n 1, 1) := by decide +kernel
theorem dX6_joins_158 : decode cX6_joins 158 = .ok (.ifCond .le 38, 3) := by decide +kernel
theorem dX6_joins_161 : decode cX6_joins 161 = .ok (.aload_n 0, 1) := by decide +kernel
theorem dX6_joins_162 : decode cX6_joins 162 = .ok (.getfield 23, 3) := by decide +kernel
theorem dX6_joins_165 : decode cX6_joins 165 = .ok (.iload 4, 2) := by decide +kernel
theorem dX6_joins_167 : decode cX6_joins 167 = .ok (.aload_n 0, 1) := by decide +kernel
theorem dX6_joins_168 : decode cX6_joins 168 = .ok (.getfield 23, 3) := by decide +kernel
theorem dX6_joins_171 : decode cX6_joins 171 = .ok (.iload 4, 2) := by decide +kernel
theorem dX6_joins_173 : decode cX6_joins 173 = .ok (.iaload, 1) := by decide +kernel
theorem dX6_joins_174 : decode cX6_joins 174 = .ok (.iload_n 3, 1) := by decide +kernel
theorem dX6_joins_175 : decode cX6_joins 175 = .ok (.if_icmp .ne 7, 3) := by decide +kernel
theorem dX6_joins_178 : decode cX6_joins 178 = .ok (.iload_n 2, 1) := by decide +kernel
theorem dX6_joins_179 : decode cX6_joins 179 = .ok (.goto 10, 3) := by decide +kernel
theorem dX6_joins_182 : decode cX6_joins 182 = .ok (.aload_n 0, 1) := by decide +kernel
theorem dX6_joins_183 : decode cX6_joins 183 = .ok (.getfield 23, 3) := by decide +kernel
theorem dX6_joins_186 : decode cX6_joins 186 = .ok (.iload 4, 2) := by decide +kernel
theorem dX6_joins_188 : decode cX6_joins 188 = .ok (.iaload, 1) := by decide +kernel
theorem dX6_joins_189 : decode cX6_joins 189 = .ok (.iastore, 1) := by decide +kernel
theorem dX6_joins_190 : decode cX6_joins 190 = .ok (.iinc 4 1, 3) := by decide +kernel
theorem dX6_joins_193 : decode cX6_joins 193 = .ok (.goto (-45), 3) := by decide +kernel
theorem dX6_joins_196 : decode cX6_joins 196 = .ok (.iload_n 1, 1) := by decide +kernel
theorem dX6_joins_197 : decode cX6_joins 197 = .ok (.ifCond .le 8, 3) := by decide +kernel
theorem dX6_joins_200 : decode cX6_joins 200 = .ok (.aload_n 0, 1) := by decide +kernel
theorem dX6_joins_201 : decode cX6_joins 201 = .ok (.iload_n 3, 1) := by decide +kernel
theorem dX6_joins_202 : decode cX6_joins 202 = .ok (.invokevirtual 123, 3) := by decide +kernel
theorem dX6_joins_205 : decode cX6_joins 205 = .ok (.iload_n 1, 1) := by decide +kernel
theorem dX6_joins_206 : decode cX6_joins 206 = .ok (.ifCond .le 7, 3) := by decide +kernel
theorem dX6_joins_209 : decode cX6_joins 209 = .ok (.iconst 1, 1) := by decide +kernel
theorem dX6_joins_210 : decode cX6_joins 210 = .ok (.goto 4, 3) := by decide +kernel
theorem dX6_joins_213 : decode cX6_joins 213 = .ok (.iconst 0, 1) := by decide +kernel
theorem dX6_joins_214 : decode cX6_joins 214 = .ok (.ireturn, 1) := by decide +kernel
set_option maxRecDepth 20000 in
theorem ggX6_planWave_X6_in : GoodIn wsX6_planWave wsX6_in := goodIn_r _ [11] (by decide +kernel) (by decide +kernel)
set_option maxRecDepth 20000 in
theorem gX6_planWave_X6_in : GoodIn wsX6_planWave (va_wsS RX6 62 yX6_in wsX6_in) := goodIn_app (goodIn_of _ (by decide +kernel)) ggX6_planWave_X6_in
set_option maxRecDepth 20000 in
theorem ggX6_planWave_X6_fails : GoodIn wsX6_planWave wsX6_fails := goodIn_r _ [15, 1, 65, 66, 67, 68, 69, 70, 71, 72, 73, 74, 75, 76, 77, 78, 79, 80, 81, 82, 83, 84, 85, 86] (by decide +kernel) (by decide +kernel)
set_option maxRecDepth 20000 in
theorem gX6_planWave_X6_fails : GoodIn wsX6_planWave (wsV RX6 94 RX6 yX6_fails wsX6_fails) := goodIn_app (goodIn_of _ (by decide +kernel)) ggX6_planWave_X6_fails
set_option maxRecDepth 20000 in
theorem ggX6_planWave_X6_joins : GoodIn wsX6_planWave wsX6_joins := goodIn_r _ [19, 6, 20, 2, 7, 21, 22, 23, 10, 24, 4, 25, 26, 27, 28, 29, 30, 31, 32, 33, 34, 35, 36, 37, 38, 39, 40, 41, 42, 43, 44, 45, 46, 47, 48, 49, 50, 51, 52, 53, 54, 55, 56, 57, 58, 59, 60, 61, 62, 63, 64, 65, 66, 67, 68, 69, 70, 71, 72, 73, 74, 75, 76, 77, 78, 79, 80, 81, 82, 83, 84, 85, 86] (by decide +kernel) (by decide +kernel)
set_option maxRecDepth 20000 in
theorem gX6_planWave_X6_joins : GoodIn wsX6_planWave (wsV RX6 126 RX6 yX6_joins wsX6_joins) := goodIn_app (goodIn_of _ (by decide +kernel)) ggX6_planWave_X6_joins
theorem dX6_planWave_0 : decode cX6_planWave 0 = .ok (.aload_n 0, 1) := by decide +kernel
theorem dX6_planWave_1 : decode cX6_planWave 1 = .ok (.iconst 0, 1) := by decide +kernel
theorem dX6_planWave_2 : decode cX6_planWave 2 = .ok (.putfield 59, 3) := by decide +kernel
theorem dX6_planWave_5 : decode cX6_planWave 5 = .ok (.iload_n 1, 1) := by decide +kernel
theorem dX6_planWave_6 : decode cX6_planWave 6 = .ok (.iconst 0, 1) := by decide +kernel
theorem dX6_planWave_7 : decode cX6_planWave 7 = .ok (.sipush 999, 3) := by decide +kernel
theorem dX6_planWave_10 : decode cX6_planWave 10 = .ok (.invokestatic 62, 3) := by decide +kernel
theorem dX6_planWave_13 : decode cX6_planWave 13 = .ok (.ifCond .ne 9, 3) := by decide +kernel
theorem dX6_planWave_16 : decode cX6_planWave 16 = .ok (.aload_n 0, 1) := by decide +kernel
theorem dX6_planWave_17 : decode cX6_planWave 17 = .ok (.iconst 1, 1) := by decide +kernel
theorem dX6_planWave_18 : decode cX6_planWave 18 = .ok (.invokevirtual 94, 3) := by decide +kernel
theorem dX6_planWave_21 : decode cX6_planWave 21 = .ok (.ireturn, 1) := by decide +kernel
theorem dX6_planWave_22 : decode cX6_planWave 22 = .ok (.iconst 0, 1) := by decide +kernel
theorem dX6_planWave_23 : decode cX6_planWave 23 = .ok (.istore_n 2, 1) := by decide +kernel
theorem dX6_planWave_24 : decode cX6_planWave 24 = .ok (.iconst 0, 1) := by decide +kernel
theorem dX6_planWave_25 : decode cX6_planWave 25 = .ok (.istore_n 3, 1) := by decide +kernel
theorem dX6_planWave_26 : decode cX6_planWave 26 = .ok (.iload_n 3, 1) := by decide +kernel
theorem dX6_planWave_27 : decode cX6_planWave 27 = .ok (.aload_n 0, 1) := by decide +kernel
theorem dX6_planWave_28 : decode cX6_planWave 28 = .ok (.getfield 66, 3) := by decide +kernel
theorem dX6_planWave_31 : decode cX6_planWave 31 = .ok (.if_icmp .ge 45, 3) := by decide +kernel
theorem dX6_planWave_34 : decode cX6_planWave 34 = .ok (.iload_n 2, 1) := by decide +kernel
theorem dX6_planWave_35 : decode cX6_planWave 35 = .ok (.aload_n 0, 1) := by decide +kernel
theorem dX6_planWave_36 : decode cX6_planWave 36 = .ok (.getfield 20, 3) := by decide +kernel
theorem dX6_planWave_39 : decode cX6_planWave 39 = .ok (.iload_n 3, 1) := by decide +kernel
theorem dX6_planWave_40 : decode cX6_planWave 40 = .ok (.iaload, 1) := by decide +kernel
theorem dX6_planWave_41 : decode cX6_planWave 41 = .ok (.ifCond .ne 26, 3) := by decide +kernel
theorem dX6_planWave_44 : decode cX6_planWave 44 = .ok (.aload_n 0, 1) := by decide +kernel
theorem dX6_planWave_45 : decode cX6_planWave 45 = .ok (.getfield 26, 3) := by decide +kernel
theorem dX6_planWave_48 : decode cX6_planWave 48 = .ok (.iload_n 3, 1) := by decide +kernel
theorem dX6_planWave_49 : decode cX6_planWave 49 = .ok (.iaload, 1) := by decide +kernel
theorem dX6_planWave_50 : decode cX6_planWave 50 = .ok (.ifCond .le 17, 3) := by decide +kernel
theorem dX6_planWave_53 : decode cX6_planWave 53 = .ok (.aload_n 0, 1) := by decide +kernel
theorem dX6_planWave_54 : decode cX6_planWave 54 = .ok (.getfield 17, 3) := by decide +kernel
theorem dX6_planWave_57 : decode cX6_planWave 57 = .ok (.iload_n 3, 1) := by decide +kernel
theorem dX6_planWave_58 : decode cX6_planWave 58 = .ok (.iaload, 1) := by decide +kernel
theorem dX6_planWave_59 : decode cX6_planWave 59 = .ok (.iload_n 1, 1) := by decide +kernel
theorem dX6_planWave_60 : decode cX6_planWave 60 = .ok (.if_icmp .gt 7, 3) := by decide +kernel
theorem dX6_planWave_63 : decode cX6_planWave 63 = .ok (.iconst 1, 1) := by decide +kernel
theorem dX6_planWave_64 : decode cX6_planWave 64 = .ok (.goto 4, 3) := by decide +kernel
theorem dX6_planWave_67 : decode cX6_planWave 67 = .ok (.iconst 0, 1) := by decide +kernel
theorem dX6_planWave_68 : decode cX6_planWave 68 = .ok (.iadd, 1) := by decide +kernel
theorem dX6_planWave_69 : decode cX6_planWave 69 = .ok (.istore_n 2, 1) := by decide +kernel
theorem dX6_planWave_70 : decode cX6_planWave 70 = .ok (.iinc 3 1, 3) := by decide +kernel
theorem dX6_planWave_73 : decode cX6_planWave 73 = .ok (.goto (-47), 3) := by decide +kernel
theorem dX6_planWave_76 : decode cX6_planWave 76 = .ok (.aload_n 0, 1) := by decide +kernel
theorem dX6_planWave_77 : decode cX6_planWave 77 = .ok (.getfield 69, 3) := by decide +kernel
theorem dX6_planWave_80 : decode cX6_planWave 80 = .ok (.ifCond .gt 7, 3) := by decide +kernel
theorem dX6_planWave_83 : decode cX6_planWave 83 = .ok (.iload_n 2, 1) := by decide +kernel
theorem dX6_planWave_84 : decode cX6_planWave 84 = .ok (.ifCond .ne 9, 3) := by decide +kernel
theorem dX6_planWave_87 : decode cX6_planWave 87 = .ok (.aload_n 0, 1) := by decide +kernel
theorem dX6_planWave_88 : decode cX6_planWave 88 = .ok (.iconst 2, 1) := by decide +kernel
theorem dX6_planWave_89 : decode cX6_planWave 89 = .ok (.invokevirtual 94, 3) := by decide +kernel
theorem dX6_planWave_92 : decode cX6_planWave 92 = .ok (.ireturn, 1) := by decide +kernel
theorem dX6_planWave_93 : decode cX6_planWave 93 = .ok (.iconst 0, 1) := by decide +kernel
theorem dX6_planWave_94 : decode cX6_planWave 94 = .ok (.istore_n 3, 1) := by decide +kernel
theorem dX6_planWave_95 : decode cX6_planWave 95 = .ok (.iload_n 3, 1) := by decide +kernel
theorem dX6_planWave_96 : decode cX6_planWave 96 = .ok (.aload_n 0, 1) := by decide +kernel
theorem dX6_planWave_97 : decode cX6_planWave 97 = .ok (.getfield 66, 3) := by decide +kernel
theorem dX6_planWave_100 : decode cX6_planWave 100 = .ok (.if_icmp .ge 64, 3) := by decide +kernel
theorem dX6_planWave_103 : decode cX6_planWave 103 = .ok (.aload_n 0, 1) := by decide +kernel
theorem dX6_planWave_104 : decode cX6_planWave 104 = .ok (.getfield 20, 3) := by decide +kernel
theorem dX6_planWave_107 : decode cX6_planWave 107 = .ok (.iload_n 3, 1) := by decide +kernel
theorem dX6_planWave_108 : decode cX6_planWave 108 = .ok (.iaload, 1) := by decide +kernel
theorem dX6_planWave_109 : decode cX6_planWave 109 = .ok (.ifCond .ne 49, 3) := by decide +kernel
theorem dX6_planWave_112 : decode cX6_planWave 112 = .ok (.aload_n 0, 1) := by decide +kernel
theorem dX6_planWave_113 : decode cX6_planWave 113 = .ok (.getfield 26, 3) := by decide +kernel
theorem dX6_planWave_116 : decode cX6_planWave 116 = .ok (.iload_n 3, 1) := by decide +kernel
theorem dX6_planWave_117 : decode cX6_planWave 117 = .ok (.iaload, 1) := by decide +kernel
theorem dX6_planWave_118 : decode cX6_planWave 118 = .ok (.ifCond .le 40, 3) := by decide +kernel
theorem dX6_planWave_121 : decode cX6_planWave 121 = .ok (.aload_n 0, 1) := by decide +kernel
theorem dX6_planWave_122 : decode cX6_planWave 122 = .ok (.getfield 17, 3) := by decide +kernel
theorem dX6_planWave_125 : decode cX6_planWave 125 = .ok (.iload_n 3, 1) := by decide +kernel
theorem dX6_planWave_126 : decode cX6_planWave 126 = .ok (.iaload, 1) := by decide +kernel
theorem dX6_planWave_127 : decode cX6_planWave 127 = .ok (.iload_n 1, 1) := by decide +kernel
theorem dX6_planWave_128 : decode cX6_planWave 128 = .ok (.if_icmp .gt 30, 3) := by decide +kernel
theorem dX6_planWave_131 : decode cX6_planWave 131 = .ok (.aload_n 0, 1) := by decide +kernel
theorem dX6_planWave_132 : decode cX6_planWave 132 = .ok (.getfield 20, 3) := by decide +kernel
theorem dX6_planWave_135 : decode cX6_planWave 135 = .ok (.iload_n 3, 1) := by decide +kernel
theorem dX6_planWave_136 : decode cX6_planWave 136 = .ok (.iconst 1, 1) := by decide +kernel
theorem dX6_planWave_137 : decode cX6_planWave 137 = .ok (.iastore, 1) := by decide +kernel
theorem dX6_planWave_138 : decode cX6_planWave 138 = .ok (.aload_n 0, 1) := by decide +kernel
theorem dX6_planWave_139 : decode cX6_planWave 139 = .ok (.getfield 23, 3) := by decide +kernel
theorem dX6_planWave_142 : decode cX6_planWave 142 = .ok (.iload_n 3, 1) := by decide +kernel
theorem dX6_planWave_143 : decode cX6_planWave 143 = .ok (.aload_n 0, 1) := by decide +kernel
theorem dX6_planWave_144 : decode cX6_planWave 144 = .ok (.getfield 69, 3) := by decide +kernel
theorem dX6_planWave_147 : decode cX6_planWave 147 = .ok (.iastore, 1) := by decide +kernel
theorem dX6_planWave_148 : decode cX6_planWave 148 = .ok (.aload_n 0, 1) := by decide +kernel
theorem dX6_planWave_149 : decode cX6_planWave 149 = .ok (.dup, 1) := by decide +kernel
theorem dX6_planWave_150 : decode cX6_planWave 150 = .ok (.getfield 69, 3) := by decide +kernel
theorem dX6_planWave_153 : decode cX6_planWave 153 = .ok (.iconst 1, 1) := by decide +kernel
theorem dX6_planWave_154 : decode cX6_planWave 154 = .ok (.iadd, 1) := by decide +kernel
theorem dX6_planWave_155 : decode cX6_planWave 155 = .ok (.putfield 69, 3) := by decide +kernel
theorem dX6_planWave_158 : decode cX6_planWave 158 = .ok (.iinc 3 1, 3) := by decide +kernel
theorem dX6_planWave_161 : decode cX6_planWave 161 = .ok (.goto (-66), 3) := by decide +kernel
theorem dX6_planWave_164 : decode cX6_planWave 164 = .ok (.iconst 1, 1) := by decide +kernel
theorem dX6_planWave_165 : decode cX6_planWave 165 = .ok (.istore_n 3, 1) := by decide +kernel
theorem dX6_planWave_166 : decode cX6_planWave 166 = .ok (.iload_n 3, 1) := by decide +kernel
theorem dX6_planWave_167 : decode cX6_planWave 167 = .ok (.ifCond .eq 11, 3) := by decide +kernel
theorem dX6_planWave_170 : decode cX6_planWave 170 = .ok (.aload_n 0, 1) := by decide +kernel
theorem dX6_planWave_171 : decode cX6_planWave 171 = .ok (.invokevirtual 126, 3) := by decide +kernel
theorem dX6_planWave_174 : decode cX6_planWave 174 = .ok (.istore_n 3, 1) := by decide +kernel
theorem dX6_planWave_175 : decode cX6_planWave 175 = .ok (.goto (-9), 3) := by decide +kernel
theorem dX6_planWave_178 : decode cX6_planWave 178 = .ok (.aload_n 0, 1) := by decide +kernel
theorem dX6_planWave_179 : decode cX6_planWave 179 = .ok (.getfield 69, 3) := by decide +kernel
theorem dX6_planWave_182 : decode cX6_planWave 182 = .ok (.ireturn, 1) := by decide +kernel
set_option maxRecDepth 20000 in
theorem ggX6_pick_X6_isBatch : GoodIn wsX6_pick wsX6_isBatch := goodIn_r _ [11, 12, 13, 14, 10, 15, 61, 62, 63, 64, 65, 66, 67, 68, 69, 70, 71, 72, 73, 74, 75, 76, 77, 78, 79, 80, 81, 82] (by decide +kernel) (by decide +kernel)
set_option maxRecDepth 20000 in
theorem gX6_pick_X6_isBatch : GoodIn wsX6_pick (wsV RX6 130 RX6 yX6_isBatch wsX6_isBatch) := goodIn_app (goodIn_of _ (by decide +kernel)) ggX6_pick_X6_isBatch
set_option maxRecDepth 20000 in
theorem ggX6_pick_X6_fails : GoodIn wsX6_pick wsX6_fails := goodIn_r _ [19, 1, 61, 62, 63, 64, 65, 66, 67, 68, 69, 70, 71, 72, 73, 74, 75, 76, 77, 78, 79, 80, 81, 82] (by decide +kernel) (by decide +kernel)
set_option maxRecDepth 20000 in
theorem gX6_pick_X6_fails : GoodIn wsX6_pick (wsV RX6 94 RX6 yX6_fails wsX6_fails) := goodIn_app (goodIn_of _ (by decide +kernel)) ggX6_pick_X6_fails
set_option maxRecDepth 20000 in
theorem ggX6_pick_X6_productsOf : GoodIn wsX6_pick wsX6_productsOf := goodIn_r _ [23, 2, 3, 24, 25, 26, 10, 27, 28, 29, 61, 62, 63, 64, 65, 66, 67, 68, 69, 70, 71, 72, 73, 74, 75, 76, 77, 78, 79, 80, 81, 82] (by decide +kernel) (by decide +kernel)
set_option maxRecDepth 20000 in
theorem gX6_pick_X6_productsOf : GoodIn wsX6_pick (wsV RX6 120 RX6 yX6_productsOf wsX6_productsOf) := goodIn_app (goodIn_of _ (by decide +kernel)) ggX6_pick_X6_productsOf
set_option maxRecDepth 20000 in
theorem ggX6_pick_X6_length : GoodIn wsX6_pick wsX6_length := goodIn_r _ [33, 34, 35, 36, 37, 38, 10, 39, 40, 41, 42, 43, 44, 45, 46, 47, 48, 49, 50, 51, 52, 53, 54, 55, 56, 61, 62, 63, 64, 65, 66, 67, 68, 69, 70, 71, 72, 73, 74, 75, 76, 77, 78, 79, 80, 81, 82] (by decide +kernel) (by decide +kernel)
set_option maxRecDepth 20000 in
theorem gX6_pick_X6_length : GoodIn wsX6_pick (wsV RX6 114 RX6 yX6_length wsX6_length) := goodIn_app (goodIn_of _ (by decide +kernel)) ggX6_pick_X6_length
set_option maxRecDepth 20000 in
theorem ggX6_pick_X6_wanted : GoodIn wsX6_pick wsX6_wanted := goodIn_r _ [27, 28, 29, 61, 62, 63, 64, 65, 66, 67, 68, 69, 70, 71, 72, 73, 74, 75, 76, 77, 78, 79, 80, 81, 82] (by decide +kernel) (by decide +kernel)
set_option maxRecDepth 20000 in
theorem gX6_pick_X6_wanted : GoodIn wsX6_pick (wsV RX6 111 RX6 yX6_wanted wsX6_wanted) := goodIn_app (goodIn_of _ (by decide +kernel)) ggX6_pick_X6_wanted
set_option maxRecDepth 20000 in
theorem ggX6_pick_X6_closeUp : GoodIn wsX6_pick wsX6_closeUp := goodIn_r _ [60, 2, 3, 12, 61, 62, 63, 64, 65, 66, 67, 68, 69, 70, 71, 72, 73, 74, 75, 76, 77, 78, 79, 80, 81, 82] (by decide +kernel) (by decide +kernel)
set_option maxRecDepth 20000 in
theorem gX6_pick_X6_closeUp : GoodIn wsX6_pick (wsV RX6 123 RX6 yX6_closeUp wsX6_closeUp) := goodIn_app (goodIn_of _ (by decide +kernel)) ggX6_pick_X6_closeUp
theorem dX6_pick_0 : decode cX6_pick 0 = .ok (.aload_n 0, 1) := by decide +kernel
theorem dX6_pick_1 : decode cX6_pick 1 = .ok (.iconst 0, 1) := by decide +kernel
theorem dX6_pick_2 : decode cX6_pick 2 = .ok (.putfield 59, 3) := by decide +kernel
theorem dX6_pick_5 : decode cX6_pick 5 = .ok (.aload_n 0, 1) := by decide +kernel
theorem dX6_pick_6 : decode cX6_pick 6 = .ok (.iload_n 1, 1) := by decide +kernel
theorem dX6_pick_7 : decode cX6_pick 7 = .ok (.invokevirtual 130, 3) := by decide +kernel
theorem dX6_pick_10 : decode cX6_pick 10 = .ok (.ifCond .ne 9, 3) := by decide +kernel
theorem dX6_pick_13 : decode cX6_pick 13 = .ok (.aload_n 0, 1) := by decide +kernel
theorem dX6_pick_14 : decode cX6_pick 14 = .ok (.iconst 1, 1) := by decide +kernel
theorem dX6_pick_15 : decode cX6_pick 15 = .ok (.invokevirtual 94, 3) := by decide +kernel
theorem dX6_pick_18 : decode cX6_pick 18 = .ok (.ireturn, 1) := by decide +kernel
theorem dX6_pick_19 : decode cX6_pick 19 = .ok (.aload_n 0, 1) := by decide +kernel
theorem dX6_pick_20 : decode cX6_pick 20 = .ok (.aload_n 0, 1) := by decide +kernel
theorem dX6_pick_21 : decode cX6_pick 21 = .ok (.iload_n 1, 1) := by decide +kernel
theorem dX6_pick_22 : decode cX6_pick 22 = .ok (.invokevirtual 120, 3) := by decide +kernel
theorem dX6_pick_25 : decode cX6_pick 25 = .ok (.invokevirtual 114, 3) := by decide +kernel
theorem dX6_pick_28 : decode cX6_pick 28 = .ok (.istore_n 2, 1) := by decide +kernel
theorem dX6_pick_29 : decode cX6_pick 29 = .ok (.iconst 0, 1) := by decide +kernel
theorem dX6_pick_30 : decode cX6_pick 30 = .ok (.istore_n 3, 1) := by decide +kernel
theorem dX6_pick_31 : decode cX6_pick 31 = .ok (.iload_n 3, 1) := by decide +kernel
theorem dX6_pick_32 : decode cX6_pick 32 = .ok (.aload_n 0, 1) := by decide +kernel
theorem dX6_pick_33 : decode cX6_pick 33 = .ok (.getfield 66, 3) := by decide +kernel
theorem dX6_pick_36 : decode cX6_pick 36 = .ok (.if_icmp .ge 52, 3) := by decide +kernel
theorem dX6_pick_39 : decode cX6_pick 39 = .ok (.aload_n 0, 1) := by decide +kernel
theorem dX6_pick_40 : decode cX6_pick 40 = .ok (.getfield 23, 3) := by decide +kernel
theorem dX6_pick_43 : decode cX6_pick 43 = .ok (.iload_n 3, 1) := by decide +kernel
theorem dX6_pick_44 : decode cX6_pick 44 = .ok (.iaload, 1) := by decide +kernel
theorem dX6_pick_45 : decode cX6_pick 45 = .ok (.iload_n 1, 1) := by decide +kernel
theorem dX6_pick_46 : decode cX6_pick 46 = .ok (.if_icmp .ne 36, 3) := by decide +kernel
theorem dX6_pick_49 : decode cX6_pick 49 = .ok (.aload_n 0, 1) := by decide +kernel
theorem dX6_pick_50 : decode cX6_pick 50 = .ok (.dup, 1) := by decide +kernel
theorem dX6_pick_51 : decode cX6_pick 51 = .ok (.getfield 133, 3) := by decide +kernel
theorem dX6_pick_54 : decode cX6_pick 54 = .ok (.aload_n 0, 1) := by decide +kernel
theorem dX6_pick_55 : decode cX6_pick 55 = .ok (.aload_n 0, 1) := by decide +kernel
theorem dX6_pick_56 : decode cX6_pick 56 = .ok (.iload_n 3, 1) := by decide +kernel
theorem dX6_pick_57 : decode cX6_pick 57 = .ok (.invokevirtual 111, 3) := by decide +kernel
theorem dX6_pick_60 : decode cX6_pick 60 = .ok (.invokevirtual 114, 3) := by decide +kernel
theorem dX6_pick_63 : decode cX6_pick 63 = .ok (.i2l, 1) := by decide +kernel
theorem dX6_pick_64 : decode cX6_pick 64 = .ok (.ladd, 1) := by decide +kernel
theorem dX6_pick_65 : decode cX6_pick 65 = .ok (.putfield 133, 3) := by decide +kernel
theorem dX6_pick_68 : decode cX6_pick 68 = .ok (.aload_n 0, 1) := by decide +kernel
theorem dX6_pick_69 : decode cX6_pick 69 = .ok (.getfield 20, 3) := by decide +kernel
theorem dX6_pick_72 : decode cX6_pick 72 = .ok (.iload_n 3, 1) := by decide +kernel
theorem dX6_pick_73 : decode cX6_pick 73 = .ok (.iconst 2, 1) := by decide +kernel
theorem dX6_pick_74 : decode cX6_pick 74 = .ok (.iastore, 1) := by decide +kernel
theorem dX6_pick_75 : decode cX6_pick 75 = .ok (.aload_n 0, 1) := by decide +kernel
theorem dX6_pick_76 : decode cX6_pick 76 = .ok (.getfield 23, 3) := by decide +kernel
theorem dX6_pick_79 : decode cX6_pick 79 = .ok (.iload_n 3, 1) := by decide +kernel
theorem dX6_pick_80 : decode cX6_pick 80 = .ok (.iconst (-1), 1) := by decide +kernel
theorem dX6_pick_81 : decode cX6_pick 81 = .ok (.iastore, 1) := by decide +kernel
theorem dX6_pick_82 : decode cX6_pick 82 = .ok (.iinc 3 1, 3) := by decide +kernel
theorem dX6_pick_85 : decode cX6_pick 85 = .ok (.goto (-54), 3) := by decide +kernel
theorem dX6_pick_88 : decode cX6_pick 88 = .ok (.aload_n 0, 1) := by decide +kernel
theorem dX6_pick_89 : decode cX6_pick 89 = .ok (.dup, 1) := by decide +kernel
theorem dX6_pick_90 : decode cX6_pick 90 = .ok (.getfield 137, 3) := by decide +kernel
theorem dX6_pick_93 : decode cX6_pick 93 = .ok (.iload_n 2, 1) := by decide +kernel
theorem dX6_pick_94 : decode cX6_pick 94 = .ok (.iadd, 1) := by decide +kernel
theorem dX6_pick_95 : decode cX6_pick 95 = .ok (.putfield 137, 3) := by decide +kernel
theorem dX6_pick_98 : decode cX6_pick 98 = .ok (.aload_n 0, 1) := by decide +kernel
theorem dX6_pick_99 : decode cX6_pick 99 = .ok (.iload_n 1, 1) := by decide +kernel
theorem dX6_pick_100 : decode cX6_pick 100 = .ok (.invokevirtual 123, 3) := by decide +kernel
theorem dX6_pick_103 : decode cX6_pick 103 = .ok (.iload_n 2, 1) := by decide +kernel
theorem dX6_pick_104 : decode cX6_pick 104 = .ok (.ireturn, 1) := by decide +kernel
theorem dX6_batches_0 : decode cX6_batches 0 = .ok (.aload_n 0, 1) := by decide +kernel
theorem dX6_batches_1 : decode cX6_batches 1 = .ok (.iconst 0, 1) := by decide +kernel
theorem dX6_batches_2 : decode cX6_batches 2 = .ok (.putfield 59, 3) := by decide +kernel
theorem dX6_batches_5 : decode cX6_batches 5 = .ok (.aload_n 0, 1) := by decide +kernel
theorem dX6_batches_6 : decode cX6_batches 6 = .ok (.getfield 69, 3) := by decide +kernel
theorem dX6_batches_9 : decode cX6_batches 9 = .ok (.ireturn, 1) := by decide +kernel
set_option maxRecDepth 20000 in
theorem ggX6_batchOf_X6_isOrder : GoodIn wsX6_batchOf wsX6_isOrder := goodIn_r _ [7, 8, 9, 10, 6, 11, 16, 17, 18, 19, 20, 21, 22, 23, 24, 25, 26, 27, 28, 29, 30, 31, 32, 33, 34, 35, 36, 37] (by decide +kernel) (by decide +kernel)
set_option maxRecDepth 20000 in
theorem gX6_batchOf_X6_isOrder : GoodIn wsX6_batchOf (wsV RX6 108 RX6 yX6_isOrder wsX6_isOrder) := goodIn_app (goodIn_of _ (by decide +kernel)) ggX6_batchOf_X6_isOrder
set_option maxRecDepth 20000 in
theorem ggX6_batchOf_X6_fails : GoodIn wsX6_batchOf wsX6_fails := goodIn_r _ [15, 1, 16, 17, 18, 19, 20, 21, 22, 23, 24, 25, 26, 27, 28, 29, 30, 31, 32, 33, 34, 35, 36, 37] (by decide +kernel) (by decide +kernel)
set_option maxRecDepth 20000 in
theorem gX6_batchOf_X6_fails : GoodIn wsX6_batchOf (wsV RX6 94 RX6 yX6_fails wsX6_fails) := goodIn_app (goodIn_of _ (by decide +kernel)) ggX6_batchOf_X6_fails
theorem dX6_batchOf_0 : decode cX6_batchOf 0 = .ok (.aload_n 0, 1) := by decide +kernel
theorem dX6_batchOf_1 : decode cX6_batchOf 1 = .ok (.iconst 0, 1) := by decide +kernel
theorem dX6_batchOf_2 : decode cX6_batchOf 2 = .ok (.putfield 59, 3) := by decide +kernel
theorem dX6_batchOf_5 : decode cX6_batchOf 5 = .ok (.aload_n 0, 1) := by decide +kernel
theorem dX6_batchOf_6 : decode cX6_batchOf 6 = .ok (.iload_n 1, 1) := by decide +kernel
theorem dX6_batchOf_7 : decode cX6_batchOf 7 = .ok (.invokevirtual 108, 3) := by decide +kernel
theorem dX6_batchOf_10 : decode cX6_batchOf 10 = .ok (.ifCond .eq 12, 3) := by decide +kernel
theorem dX6_batchOf_13 : decode cX6_batchOf 13 = .ok (.aload_n 0, 1) := by decide +kernel
theorem dX6_batchOf_14 : decode cX6_batchOf 14 = .ok (.getfield 23, 3) := by decide +kernel
theorem dX6_batchOf_17 : decode cX6_batchOf 17 = .ok (.iload_n 1, 1) := by decide +kernel
theorem dX6_batchOf_18 : decode cX6_batchOf 18 = .ok (.iaload, 1) := by decide +kernel
theorem dX6_batchOf_19 : decode cX6_batchOf 19 = .ok (.goto 8, 3) := by decide +kernel
theorem dX6_batchOf_22 : decode cX6_batchOf 22 = .ok (.aload_n 0, 1) := by decide +kernel
theorem dX6_batchOf_23 : decode cX6_batchOf 23 = .ok (.iconst 1, 1) := by decide +kernel
theorem dX6_batchOf_24 : decode cX6_batchOf 24 = .ok (.invokevirtual 94, 3) := by decide +kernel
theorem dX6_batchOf_27 : decode cX6_batchOf 27 = .ok (.ireturn, 1) := by decide +kernel
set_option maxRecDepth 20000 in
theorem ggX6_linesOf_X6_isBatch : GoodIn wsX6_linesOf wsX6_isBatch := goodIn_r _ [6, 7, 8, 9, 5, 10, 22, 23, 24, 25, 26, 27, 28, 29, 30, 31, 32, 33, 34, 35, 36, 37, 38, 39, 40, 41, 42, 43] (by decide +kernel) (by decide +kernel)
set_option maxRecDepth 20000 in
theorem gX6_linesOf_X6_isBatch : GoodIn wsX6_linesOf (wsV RX6 130 RX6 yX6_isBatch wsX6_isBatch) := goodIn_app (goodIn_of _ (by decide +kernel)) ggX6_linesOf_X6_isBatch
set_option maxRecDepth 20000 in
theorem ggX6_linesOf_X6_countLines : GoodIn wsX6_linesOf wsX6_countLines := goodIn_r _ [14, 15, 16, 17, 22, 23, 24, 25, 26, 27, 28, 29, 30, 31, 32, 33, 34, 35, 36, 37, 38, 39, 40, 41, 42, 43] (by decide +kernel) (by decide +kernel)
set_option maxRecDepth 20000 in
theorem gX6_linesOf_X6_countLines : GoodIn wsX6_linesOf (wsV RX6 117 RX6 yX6_countLines wsX6_countLines) := goodIn_app (goodIn_of _ (by decide +kernel)) ggX6_linesOf_X6_countLines
set_option maxRecDepth 20000 in
theorem ggX6_linesOf_X6_fails : GoodIn wsX6_linesOf wsX6_fails := goodIn_r _ [21, 1, 22, 23, 24, 25, 26, 27, 28, 29, 30, 31, 32, 33, 34, 35, 36, 37, 38, 39, 40, 41, 42, 43] (by decide +kernel) (by decide +kernel)
set_option maxRecDepth 20000 in
theorem gX6_linesOf_X6_fails : GoodIn wsX6_linesOf (wsV RX6 94 RX6 yX6_fails wsX6_fails) := goodIn_app (goodIn_of _ (by decide +kernel)) ggX6_linesOf_X6_fails
theorem dX6_linesOf_0 : decode cX6_linesOf 0 = .ok (.aload_n 0, 1) := by decide +kernel
theorem dX6_linesOf_1 : decode cX6_linesOf 1 = .ok (.iconst 0, 1) := by decide +kernel
theorem dX6_linesOf_2 : decode cX6_linesOf 2 = .ok (.putfield 59, 3) := by decide +kernel
theorem dX6_linesOf_5 : decode cX6_linesOf 5 = .ok (.aload_n 0, 1) := by decide +kernel
theorem dX6_linesOf_6 : decode cX6_linesOf 6 = .ok (.iload_n 1, 1) := by decide +kernel
theorem dX6_linesOf_7 : decode cX6_linesOf 7 = .ok (.invokevirtual 130, 3) := by decide +kernel
theorem dX6_linesOf_10 : decode cX6_linesOf 10 = .ok (.ifCond .eq 11, 3) := by decide +kernel
theorem dX6_linesOf_13 : decode cX6_linesOf 13 = .ok (.aload_n 0, 1) := by decide +kernel
theorem dX6_linesOf_14 : decode cX6_linesOf 14 = .ok (.iload_n 1, 1) := by decide +kernel
theorem dX6_linesOf_15 : decode cX6_linesOf 15 = .ok (.invokevirtual 117, 3) := by decide +kernel
theorem dX6_linesOf_18 : decode cX6_linesOf 18 = .ok (.goto 8, 3) := by decide +kernel
theorem dX6_linesOf_21 : decode cX6_linesOf 21 = .ok (.aload_n 0, 1) := by decide +kernel
theorem dX6_linesOf_22 : decode cX6_linesOf 22 = .ok (.iconst 1, 1) := by decide +kernel
theorem dX6_linesOf_23 : decode cX6_linesOf 23 = .ok (.invokevirtual 94, 3) := by decide +kernel
theorem dX6_linesOf_26 : decode cX6_linesOf 26 = .ok (.ireturn, 1) := by decide +kernel
set_option maxRecDepth 20000 in
theorem ggX6_lengthOf_X6_isBatch : GoodIn wsX6_lengthOf wsX6_isBatch := goodIn_r _ [6, 7, 8, 9, 5, 10, 54, 55, 56, 57, 58, 59, 60, 61, 62, 63, 64, 65, 66, 67, 68, 69, 70, 71, 72, 73, 74, 75] (by decide +kernel) (by decide +kernel)
set_option maxRecDepth 20000 in
theorem gX6_lengthOf_X6_isBatch : GoodIn wsX6_lengthOf (wsV RX6 130 RX6 yX6_isBatch wsX6_isBatch) := goodIn_app (goodIn_of _ (by decide +kernel)) ggX6_lengthOf_X6_isBatch
set_option maxRecDepth 20000 in
theorem ggX6_lengthOf_X6_productsOf : GoodIn wsX6_lengthOf wsX6_productsOf := goodIn_r _ [14, 15, 16, 17, 18, 19, 5, 20, 21, 22, 54, 55, 56, 57, 58, 59, 60, 61, 62, 63, 64, 65, 66, 67, 68, 69, 70, 71, 72, 73, 74, 75] (by decide +kernel) (by decide +kernel)
set_option maxRecDepth 20000 in
theorem gX6_lengthOf_X6_productsOf : GoodIn wsX6_lengthOf (wsV RX6 120 RX6 yX6_productsOf wsX6_productsOf) := goodIn_app (goodIn_of _ (by decide +kernel)) ggX6_lengthOf_X6_productsOf
set_option maxRecDepth 20000 in
theorem ggX6_lengthOf_X6_length : GoodIn wsX6_lengthOf wsX6_length := goodIn_r _ [26, 27, 28, 29, 30, 31, 5, 32, 33, 34, 35, 36, 37, 38, 39, 40, 41, 42, 43, 44, 45, 46, 47, 48, 49, 54, 55, 56, 57, 58, 59, 60, 61, 62, 63, 64, 65, 66, 67, 68, 69, 70, 71, 72, 73, 74, 75] (by decide +kernel) (by decide +kernel)
set_option maxRecDepth 20000 in
theorem gX6_lengthOf_X6_length : GoodIn wsX6_lengthOf (wsV RX6 114 RX6 yX6_length wsX6_length) := goodIn_app (goodIn_of _ (by decide +kernel)) ggX6_lengthOf_X6_length
set_option maxRecDepth 20000 in
theorem ggX6_lengthOf_X6_fails : GoodIn wsX6_lengthOf wsX6_fails := goodIn_r _ [53, 1, 54, 55, 56, 57, 58, 59, 60, 61, 62, 63, 64, 65, 66, 67, 68, 69, 70, 71, 72, 73, 74, 75] (by decide +kernel) (by decide +kernel)
set_option maxRecDepth 20000 in
theorem gX6_lengthOf_X6_fails : GoodIn wsX6_lengthOf (wsV RX6 94 RX6 yX6_fails wsX6_fails) := goodIn_app (goodIn_of _ (by decide +kernel)) ggX6_lengthOf_X6_fails
theorem dX6_lengthOf_0 : decode cX6_lengthOf 0 = .ok (.aload_n 0, 1) := by decide +kernel
theorem dX6_lengthOf_1 : decode cX6_lengthOf 1 = .ok (.iconst 0, 1) := by decide +kernel
theorem dX6_lengthOf_2 : decode cX6_lengthOf 2 = .ok (.putfield 59, 3) := by decide +kernel
theorem dX6_lengthOf_5 : decode cX6_lengthOf 5 = .ok (.aload_n 0, 1) := by decide +kernel
theorem dX6_lengthOf_6 : decode cX6_lengthOf 6 = .ok (.iload_n 1, 1) := by decide +kernel
theorem dX6_lengthOf_7 : decode cX6_lengthOf 7 = .ok (.invokevirtual 130, 3) := by decide +kernel
theorem dX6_lengthOf_10 : decode cX6_lengthOf 10 = .ok (.ifCond .eq 15, 3) := by decide +kernel
theorem dX6_lengthOf_13 : decode cX6_lengthOf 13 = .ok (.aload_n 0, 1) := by decide +kernel
theorem dX6_lengthOf_14 : decode cX6_lengthOf 14 = .ok (.aload_n 0, 1) := by decide +kernel
theorem dX6_lengthOf_15 : decode cX6_lengthOf 15 = .ok (.iload_n 1, 1) := by decide +kernel
theorem dX6_lengthOf_16 : decode cX6_lengthOf 16 = .ok (.invokevirtual 120, 3) := by decide +kernel
theorem dX6_lengthOf_19 : decode cX6_lengthOf 19 = .ok (.invokevirtual 114, 3) := by decide +kernel
theorem dX6_lengthOf_22 : decode cX6_lengthOf 22 = .ok (.goto 8, 3) := by decide +kernel
theorem dX6_lengthOf_25 : decode cX6_lengthOf 25 = .ok (.aload_n 0, 1) := by decide +kernel
theorem dX6_lengthOf_26 : decode cX6_lengthOf 26 = .ok (.iconst 1, 1) := by decide +kernel
theorem dX6_lengthOf_27 : decode cX6_lengthOf 27 = .ok (.invokevirtual 94, 3) := by decide +kernel
theorem dX6_lengthOf_30 : decode cX6_lengthOf 30 = .ok (.ireturn, 1) := by decide +kernel
set_option maxRecDepth 20000 in
theorem ggX6_lengthByTrying_X6_isBatch : GoodIn wsX6_lengthByTrying wsX6_isBatch := goodIn_r _ [7, 8, 9, 10, 6, 11, 54, 55, 56, 57, 58, 59, 60, 61, 62, 63, 64, 65, 66, 67, 68, 69, 70, 71, 72, 73, 74, 75] (by decide +kernel) (by decide +kernel)
set_option maxRecDepth 20000 in
theorem gX6_lengthByTrying_X6_isBatch : GoodIn wsX6_lengthByTrying (wsV RX6 130 RX6 yX6_isBatch wsX6_isBatch) := goodIn_app (goodIn_of _ (by decide +kernel)) ggX6_lengthByTrying_X6_isBatch
set_option maxRecDepth 20000 in
theorem ggX6_lengthByTrying_X6_fails : GoodIn wsX6_lengthByTrying wsX6_fails := goodIn_r _ [15, 1, 54, 55, 56, 57, 58, 59, 60, 61, 62, 63, 64, 65, 66, 67, 68, 69, 70, 71, 72, 73, 74, 75] (by decide +kernel) (by decide +kernel)
set_option maxRecDepth 20000 in
theorem gX6_lengthByTrying_X6_fails : GoodIn wsX6_lengthByTrying (wsV RX6 94 RX6 yX6_fails wsX6_fails) := goodIn_app (goodIn_of _ (by decide +kernel)) ggX6_lengthByTrying_X6_fails
set_option maxRecDepth 20000 in
theorem ggX6_lengthByTrying_X6_productsOf : GoodIn wsX6_lengthByTrying wsX6_productsOf := goodIn_r _ [19, 20, 21, 22, 23, 24, 6, 25, 26, 27, 54, 55, 56, 57, 58, 59, 60, 61, 62, 63, 64, 65, 66, 67, 68, 69, 70, 71, 72, 73, 74, 75] (by decide +kernel) (by decide +kernel)
set_option maxRecDepth 20000 in
theorem gX6_lengthByTrying_X6_productsOf : GoodIn wsX6_lengthByTrying (wsV RX6 120 RX6 yX6_productsOf wsX6_productsOf) := goodIn_app (goodIn_of _ (by decide +kernel)) ggX6_lengthByTrying_X6_productsOf
set_option maxRecDepth 20000 in
theorem ggX6_lengthByTrying_X6_length : GoodIn wsX6_lengthByTrying wsX6_length := goodIn_r _ [31, 32, 2, 33, 34, 35, 6, 36, 37, 38, 39, 40, 41, 42, 43, 44, 45, 46, 47, 48, 49, 50, 51, 52, 53, 54, 55, 56, 57, 58, 59, 60, 61, 62, 63, 64, 65, 66, 67, 68, 69, 70, 71, 72, 73, 74, 75] (by decide +kernel) (by decide +kernel)
set_option maxRecDepth 20000 in
theorem gX6_lengthByTrying_X6_length : GoodIn wsX6_lengthByTrying (wsV RX6 114 RX6 yX6_length wsX6_length) := goodIn_app (goodIn_of _ (by decide +kernel)) ggX6_lengthByTrying_X6_length
theorem dX6_lengthByTrying_0 : decode cX6_lengthByTrying 0 = .ok (.aload_n 0, 1) := by decide +kernel
theorem dX6_lengthByTrying_1 : decode cX6_lengthByTrying 1 = .ok (.iconst 0, 1) := by decide +kernel
theorem dX6_lengthByTrying_2 : decode cX6_lengthByTrying 2 = .ok (.putfield 59, 3) := by decide +kernel
theorem dX6_lengthByTrying_5 : decode cX6_lengthByTrying 5 = .ok (.aload_n 0, 1) := by decide +kernel
theorem dX6_lengthByTrying_6 : decode cX6_lengthByTrying 6 = .ok (.iload_n 1, 1) := by decide +kernel
theorem dX6_lengthByTrying_7 : decode cX6_lengthByTrying 7 = .ok (.invokevirtual 130, 3) := by decide +kernel
theorem dX6_lengthByTrying_10 : decode cX6_lengthByTrying 10 = .ok (.ifCond .ne 9, 3) := by decide +kernel
theorem dX6_lengthByTrying_13 : decode cX6_lengthByTrying 13 = .ok (.aload_n 0, 1) := by decide +kernel
theorem dX6_lengthByTrying_14 : decode cX6_lengthByTrying 14 = .ok (.iconst 1, 1) := by decide +kernel
theorem dX6_lengthByTrying_15 : decode cX6_lengthByTrying 15 = .ok (.invokevirtual 94, 3) := by decide +kernel
theorem dX6_lengthByTrying_18 : decode cX6_lengthByTrying 18 = .ok (.ireturn, 1) := by decide +kernel
theorem dX6_lengthByTrying_19 : decode cX6_lengthByTrying 19 = .ok (.aload_n 0, 1) := by decide +kernel
theorem dX6_lengthByTrying_20 : decode cX6_lengthByTrying 20 = .ok (.aload_n 0, 1) := by decide +kernel
theorem dX6_lengthByTrying_21 : decode cX6_lengthByTrying 21 = .ok (.iload_n 1, 1) := by decide +kernel
theorem dX6_lengthByTrying_22 : decode cX6_lengthByTrying 22 = .ok (.invokevirtual 120, 3) := by decide +kernel
theorem dX6_lengthByTrying_25 : decode cX6_lengthByTrying 25 = .ok (.invokevirtual 114, 3) := by decide +kernel
theorem dX6_lengthByTrying_28 : decode cX6_lengthByTrying 28 = .ok (.istore_n 2, 1) := by decide +kernel
theorem dX6_lengthByTrying_29 : decode cX6_lengthByTrying 29 = .ok (.aload_n 0, 1) := by decide +kernel
theorem dX6_lengthByTrying_30 : decode cX6_lengthByTrying 30 = .ok (.getfield 76, 3) := by decide +kernel
theorem dX6_lengthByTrying_33 : decode cX6_lengthByTrying 33 = .ok (.bipush 7, 2) := by decide +kernel
theorem dX6_lengthByTrying_35 : decode cX6_lengthByTrying 35 = .ok (.if_icmp .le 11, 3) := by decide +kernel
theorem dX6_lengthByTrying_38 : decode cX6_lengthByTrying 38 = .ok (.aload_n 0, 1) := by decide +kernel
theorem dX6_lengthByTrying_39 : decode cX6_lengthByTrying 39 = .ok (.iconst 2, 1) := by decide +kernel
theorem dX6_lengthByTrying_40 : decode cX6_lengthByTrying 40 = .ok (.invokevirtual 94, 3) := by decide +kernel
theorem dX6_lengthByTrying_43 : decode cX6_lengthByTrying 43 = .ok (.goto 4, 3) := by decide +kernel
theorem dX6_lengthByTrying_46 : decode cX6_lengthByTrying 46 = .ok (.iload_n 2, 1) := by decide +kernel
theorem dX6_lengthByTrying_47 : decode cX6_lengthByTrying 47 = .ok (.ireturn, 1) := by decide +kernel
set_option maxRecDepth 20000 in
theorem ggX6_farthest_X6_productsOf : GoodIn wsX6_farthest wsX6_productsOf := goodIn_r _ [6, 7, 8, 9, 10, 11, 5, 12, 13, 14, 15, 16, 17, 18, 19, 20, 21, 22, 23, 24, 25, 26, 27, 28, 29, 30, 31, 32, 33, 34, 35, 36] (by decide +kernel) (by decide +kernel)
set_option maxRecDepth 20000 in
theorem gX6_farthest_X6_productsOf : GoodIn wsX6_farthest (wsV RX6 120 RX6 yX6_productsOf wsX6_productsOf) := goodIn_app (goodIn_of _ (by decide +kernel)) ggX6_farthest_X6_productsOf
theorem dX6_farthest_0 : decode cX6_farthest 0 = .ok (.aload_n 0, 1) := by decide +kernel
theorem dX6_farthest_1 : decode cX6_farthest 1 = .ok (.iload_n 1, 1) := by decide +kernel
theorem dX6_farthest_2 : decode cX6_farthest 2 = .ok (.invokevirtual 120, 3) := by decide +kernel
theorem dX6_farthest_5 : decode cX6_farthest 5 = .ok (.istore_n 3, 1) := by decide +kernel
theorem dX6_farthest_6 : decode cX6_farthest 6 = .ok (.iconst 0, 1) := by decide +kernel
theorem dX6_farthest_7 : decode cX6_farthest 7 = .ok (.istore 4, 2) := by decide +kernel
theorem dX6_farthest_9 : decode cX6_farthest 9 = .ok (.iconst 0, 1) := by decide +kernel
theorem dX6_farthest_10 : decode cX6_farthest 10 = .ok (.istore 5, 2) := by decide +kernel
theorem dX6_farthest_12 : decode cX6_farthest 12 = .ok (.iload 5, 2) := by decide +kernel
theorem dX6_farthest_14 : decode cX6_farthest 14 = .ok (.bipush 20, 2) := by decide +kernel
theorem dX6_farthest_16 : decode cX6_farthest 16 = .ok (.if_icmp .ge 77, 3) := by decide +kernel
theorem dX6_farthest_19 : decode cX6_farthest 19 = .ok (.iload_n 3, 1) := by decide +kernel
theorem dX6_farthest_20 : decode cX6_farthest 20 = .ok (.iload 5, 2) := by decide +kernel
theorem dX6_farthest_22 : decode cX6_farthest 22 = .ok (.ishr, 1) := by decide +kernel
theorem dX6_farthest_23 : decode cX6_farthest 23 = .ok (.iconst 1, 1) := by decide +kernel
theorem dX6_farthest_24 : decode cX6_farthest 24 = .ok (.iand, 1) := by decide +kernel
theorem dX6_farthest_25 : decode cX6_farthest 25 = .ok (.iconst 1, 1) := by decide +kernel
theorem dX6_farthest_26 : decode cX6_farthest 26 = .ok (.if_icmp .ne 21, 3) := by decide +kernel
theorem dX6_farthest_29 : decode cX6_farthest 29 = .ok (.aload_n 0, 1) := by decide +kernel
theorem dX6_farthest_30 : decode cX6_farthest 30 = .ok (.getfield 13, 3) := by decide +kernel
theorem dX6_farthest_33 : decode cX6_farthest 33 = .ok (.iload 5, 2) := by decide +kernel
theorem dX6_farthest_35 : decode cX6_farthest 35 = .ok (.iaload, 1) := by decide +kernel
theorem dX6_farthest_36 : decode cX6_farthest 36 = .ok (.bipush 100, 2) := by decide +kernel
theorem dX6_farthest_38 : decode cX6_farthest 38 = .ok (.idiv, 1) := by decide +kernel
theorem dX6_farthest_39 : decode cX6_farthest 39 = .ok (.iload_n 2, 1) := by decide +kernel
theorem dX6_farthest_40 : decode cX6_farthest 40 = .ok (.if_icmp .ne 7, 3) := by decide +kernel
theorem dX6_farthest_43 : decode cX6_farthest 43 = .ok (.iconst 1, 1) := by decide +kernel
theorem dX6_farthest_44 : decode cX6_farthest 44 = .ok (.goto 4, 3) := by decide +kernel
theorem dX6_farthest_47 : decode cX6_farthest 47 = .ok (.iconst 0, 1) := by decide +kernel
theorem dX6_farthest_48 : decode cX6_farthest 48 = .ok (.istore 6, 2) := by decide +kernel
theorem dX6_farthest_50 : decode cX6_farthest 50 = .ok (.iload 6, 2) := by decide +kernel
theorem dX6_farthest_52 : decode cX6_farthest 52 = .ok (.ifCond .eq 31, 3) := by decide +kernel
theorem dX6_farthest_55 : decode cX6_farthest 55 = .ok (.aload_n 0, 1) := by decide +kernel
theorem dX6_farthest_56 : decode cX6_farthest 56 = .ok (.getfield 13, 3) := by decide +kernel
theorem dX6_farthest_59 : decode cX6_farthest 59 = .ok (.iload 5, 2) := by decide +kernel
theorem dX6_farthest_61 : decode cX6_farthest 61 = .ok (.iaload, 1) := by decide +kernel
theorem dX6_farthest_62 : decode cX6_farthest 62 = .ok (.bipush 100, 2) := by decide +kernel
theorem dX6_farthest_64 : decode cX6_farthest 64 = .ok (.irem, 1) := by decide +kernel
theorem dX6_farthest_65 : decode cX6_farthest 65 = .ok (.iload 4, 2) := by decide +kernel
theorem dX6_farthest_67 : decode cX6_farthest 67 = .ok (.if_icmp .le 16, 3) := by decide +kernel
theorem dX6_farthest_70 : decode cX6_farthest 70 = .ok (.aload_n 0, 1) := by decide +kernel
theorem dX6_farthest_71 : decode cX6_farthest 71 = .ok (.getfield 13, 3) := by decide +kernel
theorem dX6_farthest_74 : decode cX6_farthest 74 = .ok (.iload 5, 2) := by decide +kernel
theorem dX6_farthest_76 : decode cX6_farthest 76 = .ok (.iaload, 1) := by decide +kernel
theorem dX6_farthest_77 : decode cX6_farthest 77 = .ok (.bipush 100, 2) := by decide +kernel
theorem dX6_farthest_79 : decode cX6_farthest 79 = .ok (.irem, 1) := by decide +kernel
theorem dX6_farthest_80 : decode cX6_farthest 80 = .ok (.goto 5, 3) := by decide +kernel
theorem dX6_farthest_83 : decode cX6_farthest 83 = .ok (.iload 4, 2) := by decide +kernel
theorem dX6_farthest_85 : decode cX6_farthest 85 = .ok (.istore 4, 2) := by decide +kernel
theorem dX6_farthest_87 : decode cX6_farthest 87 = .ok (.iinc 5 1, 3) := by decide +kernel
theorem dX6_farthest_90 : decode cX6_farthest 90 = .ok (.goto (-78), 3) := by decide +kernel
theorem dX6_farthest_93 : decode cX6_farthest 93 = .ok (.iload 4, 2) := by decide +kernel
theorem dX6_farthest_95 : decode cX6_farthest 95 = .ok (.ireturn, 1) := by decide +kernel
set_option maxRecDepth 20000 in
theorem ggX6_lengthThrough_X6_isBatch : GoodIn wsX6_lengthThrough wsX6_isBatch := goodIn_r _ [9, 10, 11, 12, 8, 13, 35, 36, 37, 38, 39, 40, 41, 42, 43, 44, 45, 46, 47, 48, 49, 50, 51, 52, 53, 54, 55, 56] (by decide +kernel) (by decide +kernel)
set_option maxRecDepth 20000 in
theorem gX6_lengthThrough_X6_isBatch : GoodIn wsX6_lengthThrough (wsV RX6 130 RX6 yX6_isBatch wsX6_isBatch) := goodIn_app (goodIn_of _ (by decide +kernel)) ggX6_lengthThrough_X6_isBatch
set_option maxRecDepth 20000 in
theorem ggX6_lengthThrough_X6_fails : GoodIn wsX6_lengthThrough wsX6_fails := goodIn_r _ [17, 1, 35, 36, 37, 38, 39, 40, 41, 42, 43, 44, 45, 46, 47, 48, 49, 50, 51, 52, 53, 54, 55, 56] (by decide +kernel) (by decide +kernel)
set_option maxRecDepth 20000 in
theorem gX6_lengthThrough_X6_fails : GoodIn wsX6_lengthThrough (wsV RX6 94 RX6 yX6_fails wsX6_fails) := goodIn_app (goodIn_of _ (by decide +kernel)) ggX6_lengthThrough_X6_fails
set_option maxRecDepth 20000 in
theorem ggX6_lengthThrough_X6_farthest : GoodIn wsX6_lengthThrough wsX6_farthest := goodIn_r _ [21, 22, 23, 24, 25, 8, 26, 27, 28, 29, 30, 31, 32, 33, 34, 35, 36, 37, 38, 39, 40, 41, 42, 43, 44, 45, 46, 47, 48, 49, 50, 51, 52, 53, 54, 55, 56] (by decide +kernel) (by decide +kernel)
set_option maxRecDepth 20000 in
theorem gX6_lengthThrough_X6_farthest : GoodIn wsX6_lengthThrough (wsV RX6 140 RX6 yX6_farthest wsX6_farthest) := goodIn_app (goodIn_of _ (by decide +kernel)) ggX6_lengthThrough_X6_farthest
theorem dX6_lengthThrough_0 : decode cX6_lengthThrough 0 = .ok (.aload_n 0, 1) := by decide +kernel
theorem dX6_lengthThrough_1 : decode cX6_lengthThrough 1 = .ok (.iconst 0, 1) := by decide +kernel
theorem dX6_lengthThrough_2 : decode cX6_lengthThrough 2 = .ok (.putfield 59, 3) := by decide +kernel
theorem dX6_lengthThrough_5 : decode cX6_lengthThrough 5 = .ok (.aload_n 0, 1) := by decide +kernel
theorem dX6_lengthThrough_6 : decode cX6_lengthThrough 6 = .ok (.iload_n 1, 1) := by decide +kernel
theorem dX6_lengthThrough_7 : decode cX6_lengthThrough 7 = .ok (.invokevirtual 130, 3) := by decide +kernel
theorem dX6_lengthThrough_10 : decode cX6_lengthThrough 10 = .ok (.ifCond .ne 9, 3) := by decide +kernel
theorem dX6_lengthThrough_13 : decode cX6_lengthThrough 13 = .ok (.aload_n 0, 1) := by decide +kernel
theorem dX6_lengthThrough_14 : decode cX6_lengthThrough 14 = .ok (.iconst 1, 1) := by decide +kernel
theorem dX6_lengthThrough_15 : decode cX6_lengthThrough 15 = .ok (.invokevirtual 94, 3) := by decide +kernel
theorem dX6_lengthThrough_18 : decode cX6_lengthThrough 18 = .ok (.ireturn, 1) := by decide +kernel
theorem dX6_lengthThrough_19 : decode cX6_lengthThrough 19 = .ok (.iconst 0, 1) := by decide +kernel
theorem dX6_lengthThrough_20 : decode cX6_lengthThrough 20 = .ok (.istore_n 2, 1) := by decide +kernel
theorem dX6_lengthThrough_21 : decode cX6_lengthThrough 21 = .ok (.iconst 0, 1) := by decide +kernel
theorem dX6_lengthThrough_22 : decode cX6_lengthThrough 22 = .ok (.istore_n 3, 1) := by decide +kernel
theorem dX6_lengthThrough_23 : decode cX6_lengthThrough 23 = .ok (.iconst 0, 1) := by decide +kernel
theorem dX6_lengthThrough_24 : decode cX6_lengthThrough 24 = .ok (.istore 4, 2) := by decide +kernel
theorem dX6_lengthThrough_26 : decode cX6_lengthThrough 26 = .ok (.iload 4, 2) := by decide +kernel
theorem dX6_lengthThrough_28 : decode cX6_lengthThrough 28 = .ok (.aload_n 0, 1) := by decide +kernel
theorem dX6_lengthThrough_29 : decode cX6_lengthThrough 29 = .ok (.getfield 50, 3) := by decide +kernel
theorem dX6_lengthThrough_32 : decode cX6_lengthThrough 32 = .ok (.if_icmp .ge 44, 3) := by decide +kernel
theorem dX6_lengthThrough_35 : decode cX6_lengthThrough 35 = .ok (.aload_n 0, 1) := by decide +kernel
theorem dX6_lengthThrough_36 : decode cX6_lengthThrough 36 = .ok (.iload_n 1, 1) := by decide +kernel
theorem dX6_lengthThrough_37 : decode cX6_lengthThrough 37 = .ok (.iload 4, 2) := by decide +kernel
theorem dX6_lengthThrough_39 : decode cX6_lengthThrough 39 = .ok (.invokevirtual 140, 3) := by decide +kernel
theorem dX6_lengthThrough_42 : decode cX6_lengthThrough 42 = .ok (.ifCond .le 8, 3) := by decide +kernel
theorem dX6_lengthThrough_45 : decode cX6_lengthThrough 45 = .ok (.iload 4, 2) := by decide +kernel
theorem dX6_lengthThrough_47 : decode cX6_lengthThrough 47 = .ok (.goto 4, 3) := by decide +kernel
theorem dX6_lengthThrough_50 : decode cX6_lengthThrough 50 = .ok (.iload_n 2, 1) := by decide +kernel
theorem dX6_lengthThrough_51 : decode cX6_lengthThrough 51 = .ok (.istore_n 2, 1) := by decide +kernel
theorem dX6_lengthThrough_52 : decode cX6_lengthThrough 52 = .ok (.iload_n 3, 1) := by decide +kernel
theorem dX6_lengthThrough_53 : decode cX6_lengthThrough 53 = .ok (.aload_n 0, 1) := by decide +kernel
theorem dX6_lengthThrough_54 : decode cX6_lengthThrough 54 = .ok (.iload_n 1, 1) := by decide +kernel
theorem dX6_lengthThrough_55 : decode cX6_lengthThrough 55 = .ok (.iload 4, 2) := by decide +kernel
theorem dX6_lengthThrough_57 : decode cX6_lengthThrough 57 = .ok (.invokevirtual 140, 3) := by decide +kernel
theorem dX6_lengthThrough_60 : decode cX6_lengthThrough 60 = .ok (.ifCond .le 7, 3) := by decide +kernel
theorem dX6_lengthThrough_63 : decode cX6_lengthThrough 63 = .ok (.iconst 1, 1) := by decide +kernel
theorem dX6_lengthThrough_64 : decode cX6_lengthThrough 64 = .ok (.goto 4, 3) := by decide +kernel
theorem dX6_lengthThrough_67 : decode cX6_lengthThrough 67 = .ok (.iconst 0, 1) := by decide +kernel
theorem dX6_lengthThrough_68 : decode cX6_lengthThrough 68 = .ok (.iadd, 1) := by decide +kernel
theorem dX6_lengthThrough_69 : decode cX6_lengthThrough 69 = .ok (.istore_n 3, 1) := by decide +kernel
theorem dX6_lengthThrough_70 : decode cX6_lengthThrough 70 = .ok (.iinc 4 1, 3) := by decide +kernel
theorem dX6_lengthThrough_73 : decode cX6_lengthThrough 73 = .ok (.goto (-47), 3) := by decide +kernel
theorem dX6_lengthThrough_76 : decode cX6_lengthThrough 76 = .ok (.iload_n 3, 1) := by decide +kernel
theorem dX6_lengthThrough_77 : decode cX6_lengthThrough 77 = .ok (.iconst 2, 1) := by decide +kernel
theorem dX6_lengthThrough_78 : decode cX6_lengthThrough 78 = .ok (.irem, 1) := by decide +kernel
theorem dX6_lengthThrough_79 : decode cX6_lengthThrough 79 = .ok (.iconst 1, 1) := by decide +kernel
theorem dX6_lengthThrough_80 : decode cX6_lengthThrough 80 = .ok (.if_icmp .ne 14, 3) := by decide +kernel
theorem dX6_lengthThrough_83 : decode cX6_lengthThrough 83 = .ok (.iconst 2, 1) := by decide +kernel
theorem dX6_lengthThrough_84 : decode cX6_lengthThrough 84 = .ok (.aload_n 0, 1) := by decide +kernel
theorem dX6_lengthThrough_85 : decode cX6_lengthThrough 85 = .ok (.iload_n 1, 1) := by decide +kernel
theorem dX6_lengthThrough_86 : decode cX6_lengthThrough 86 = .ok (.iload_n 2, 1) := by decide +kernel
theorem dX6_lengthThrough_87 : decode cX6_lengthThrough 87 = .ok (.invokevirtual 140, 3) := by decide +kernel
theorem dX6_lengthThrough_90 : decode cX6_lengthThrough 90 = .ok (.imul, 1) := by decide +kernel
theorem dX6_lengthThrough_91 : decode cX6_lengthThrough 91 = .ok (.goto 9, 3) := by decide +kernel
theorem dX6_lengthThrough_94 : decode cX6_lengthThrough 94 = .ok (.aload_n 0, 1) := by decide +kernel
theorem dX6_lengthThrough_95 : decode cX6_lengthThrough 95 = .ok (.getfield 53, 3) := by decide +kernel
theorem dX6_lengthThrough_98 : decode cX6_lengthThrough 98 = .ok (.iconst 1, 1) := by decide +kernel
theorem dX6_lengthThrough_99 : decode cX6_lengthThrough 99 = .ok (.iadd, 1) := by decide +kernel
theorem dX6_lengthThrough_100 : decode cX6_lengthThrough 100 = .ok (.istore 4, 2) := by decide +kernel
theorem dX6_lengthThrough_102 : decode cX6_lengthThrough 102 = .ok (.iconst 2, 1) := by decide +kernel
theorem dX6_lengthThrough_103 : decode cX6_lengthThrough 103 = .ok (.iload_n 2, 1) := by decide +kernel
theorem dX6_lengthThrough_104 : decode cX6_lengthThrough 104 = .ok (.imul, 1) := by decide +kernel
theorem dX6_lengthThrough_105 : decode cX6_lengthThrough 105 = .ok (.aload_n 0, 1) := by decide +kernel
theorem dX6_lengthThrough_106 : decode cX6_lengthThrough 106 = .ok (.getfield 56, 3) := by decide +kernel
theorem dX6_lengthThrough_109 : decode cX6_lengthThrough 109 = .ok (.imul, 1) := by decide +kernel
theorem dX6_lengthThrough_110 : decode cX6_lengthThrough 110 = .ok (.iload_n 3, 1) := by decide +kernel
theorem dX6_lengthThrough_111 : decode cX6_lengthThrough 111 = .ok (.iconst 1, 1) := by decide +kernel
theorem dX6_lengthThrough_112 : decode cX6_lengthThrough 112 = .ok (.isub, 1) := by decide +kernel
theorem dX6_lengthThrough_113 : decode cX6_lengthThrough 113 = .ok (.aload_n 0, 1) := by decide +kernel
theorem dX6_lengthThrough_114 : decode cX6_lengthThrough 114 = .ok (.getfield 53, 3) := by decide +kernel
theorem dX6_lengthThrough_117 : decode cX6_lengthThrough 117 = .ok (.iconst 1, 1) := by decide +kernel
theorem dX6_lengthThrough_118 : decode cX6_lengthThrough 118 = .ok (.iadd, 1) := by decide +kernel
theorem dX6_lengthThrough_119 : decode cX6_lengthThrough 119 = .ok (.imul, 1) := by decide +kernel
theorem dX6_lengthThrough_120 : decode cX6_lengthThrough 120 = .ok (.iadd, 1) := by decide +kernel
theorem dX6_lengthThrough_121 : decode cX6_lengthThrough 121 = .ok (.iload 4, 2) := by decide +kernel
theorem dX6_lengthThrough_123 : decode cX6_lengthThrough 123 = .ok (.iadd, 1) := by decide +kernel
theorem dX6_lengthThrough_124 : decode cX6_lengthThrough 124 = .ok (.ireturn, 1) := by decide +kernel
set_option maxRecDepth 20000 in
theorem ggX6_stops_X6_isBatch : GoodIn wsX6_stops wsX6_isBatch := goodIn_r _ [7, 8, 9, 10, 6, 11, 50, 51, 52, 53, 54, 55, 56, 57, 58, 59, 60, 61, 62, 63, 64, 65, 66, 67, 68, 69, 70, 71] (by decide +kernel) (by decide +kernel)
set_option maxRecDepth 20000 in
theorem gX6_stops_X6_isBatch : GoodIn wsX6_stops (wsV RX6 130 RX6 yX6_isBatch wsX6_isBatch) := goodIn_app (goodIn_of _ (by decide +kernel)) ggX6_stops_X6_isBatch
set_option maxRecDepth 20000 in
theorem ggX6_stops_X6_fails : GoodIn wsX6_stops wsX6_fails := goodIn_r _ [15, 1, 50, 51, 52, 53, 54, 55, 56, 57, 58, 59, 60, 61, 62, 63, 64, 65, 66, 67, 68, 69, 70, 71] (by decide +kernel) (by decide +kernel)
set_option maxRecDepth 20000 in
theorem gX6_stops_X6_fails : GoodIn wsX6_stops (wsV RX6 94 RX6 yX6_fails wsX6_fails) := goodIn_app (goodIn_of _ (by decide +kernel)) ggX6_stops_X6_fails
set_option maxRecDepth 20000 in
theorem ggX6_stops_X6_productsOf : GoodIn wsX6_stops wsX6_productsOf := goodIn_r _ [19, 20, 21, 22, 23, 24, 6, 25, 26, 27, 50, 51, 52, 53, 54, 55, 56, 57, 58, 59, 60, 61, 62, 63, 64, 65, 66, 67, 68, 69, 70, 71] (by decide +kernel) (by decide +kernel)
set_option maxRecDepth 20000 in
theorem gX6_stops_X6_productsOf : GoodIn wsX6_stops (wsV RX6 120 RX6 yX6_productsOf wsX6_productsOf) := goodIn_app (goodIn_of _ (by decide +kernel)) ggX6_stops_X6_productsOf
set_option maxRecDepth 20000 in
theorem ggX6_stops_X6_layRoute : GoodIn wsX6_stops wsX6_layRoute := goodIn_r _ [31, 2, 32, 33, 34, 35, 36, 37, 38, 6, 39, 40, 41, 42, 43, 44, 45, 46, 47, 48, 49, 50, 51, 52, 53, 54, 55, 56, 57, 58, 59, 60, 61, 62, 63, 64, 65, 66, 67, 68, 69, 70, 71] (by decide +kernel) (by decide +kernel)
set_option maxRecDepth 20000 in
theorem gX6_stops_X6_layRoute : GoodIn wsX6_stops (wsV RX6 86 RX6 yX6_layRoute wsX6_layRoute) := goodIn_app (goodIn_of _ (by decide +kernel)) ggX6_stops_X6_layRoute
theorem dX6_stops_0 : decode cX6_stops 0 = .ok (.aload_n 0, 1) := by decide +kernel
theorem dX6_stops_1 : decode cX6_stops 1 = .ok (.iconst 0, 1) := by decide +kernel
theorem dX6_stops_2 : decode cX6_stops 2 = .ok (.putfield 59, 3) := by decide +kernel
theorem dX6_stops_5 : decode cX6_stops 5 = .ok (.aload_n 0, 1) := by decide +kernel
theorem dX6_stops_6 : decode cX6_stops 6 = .ok (.iload_n 1, 1) := by decide +kernel
theorem dX6_stops_7 : decode cX6_stops 7 = .ok (.invokevirtual 130, 3) := by decide +kernel
theorem dX6_stops_10 : decode cX6_stops 10 = .ok (.ifCond .ne 9, 3) := by decide +kernel
theorem dX6_stops_13 : decode cX6_stops 13 = .ok (.aload_n 0, 1) := by decide +kernel
theorem dX6_stops_14 : decode cX6_stops 14 = .ok (.iconst 1, 1) := by decide +kernel
theorem dX6_stops_15 : decode cX6_stops 15 = .ok (.invokevirtual 94, 3) := by decide +kernel
theorem dX6_stops_18 : decode cX6_stops 18 = .ok (.ireturn, 1) := by decide +kernel
theorem dX6_stops_19 : decode cX6_stops 19 = .ok (.aload_n 0, 1) := by decide +kernel
theorem dX6_stops_20 : decode cX6_stops 20 = .ok (.aload_n 0, 1) := by decide +kernel
theorem dX6_stops_21 : decode cX6_stops 21 = .ok (.iload_n 1, 1) := by decide +kernel
theorem dX6_stops_22 : decode cX6_stops 22 = .ok (.invokevirtual 120, 3) := by decide +kernel
theorem dX6_stops_25 : decode cX6_stops 25 = .ok (.invokevirtual 86, 3) := by decide +kernel
theorem dX6_stops_28 : decode cX6_stops 28 = .ok (.aload_n 0, 1) := by decide +kernel
theorem dX6_stops_29 : decode cX6_stops 29 = .ok (.getfield 76, 3) := by decide +kernel
theorem dX6_stops_32 : decode cX6_stops 32 = .ok (.ireturn, 1) := by decide +kernel
set_option maxRecDepth 20000 in
theorem ggX6_stopAt_X6_isBatch : GoodIn wsX6_stopAt wsX6_isBatch := goodIn_r _ [10, 11, 12, 13, 9, 14, 55, 56, 57, 58, 59, 60, 61, 62, 63, 64, 65, 66, 67, 68, 69, 70, 71, 72, 73, 74, 75, 76] (by decide +kernel) (by decide +kernel)
set_option maxRecDepth 20000 in
theorem gX6_stopAt_X6_isBatch : GoodIn wsX6_stopAt (wsV RX6 130 RX6 yX6_isBatch wsX6_isBatch) := goodIn_app (goodIn_of _ (by decide +kernel)) ggX6_stopAt_X6_isBatch
set_option maxRecDepth 20000 in
theorem ggX6_stopAt_X6_fails : GoodIn wsX6_stopAt wsX6_fails := goodIn_r _ [18, 1, 55, 56, 57, 58, 59, 60, 61, 62, 63, 64, 65, 66, 67, 68, 69, 70, 71, 72, 73, 74, 75, 76] (by decide +kernel) (by decide +kernel)
set_option maxRecDepth 20000 in
theorem gX6_stopAt_X6_fails : GoodIn wsX6_stopAt (wsV RX6 94 RX6 yX6_fails wsX6_fails) := goodIn_app (goodIn_of _ (by decide +kernel)) ggX6_stopAt_X6_fails
set_option maxRecDepth 20000 in
theorem ggX6_stopAt_X6_productsOf : GoodIn wsX6_stopAt wsX6_productsOf := goodIn_r _ [22, 23, 24, 25, 26, 27, 9, 28, 29, 30, 55, 56, 57, 58, 59, 60, 61, 62, 63, 64, 65, 66, 67, 68, 69, 70, 71, 72, 73, 74, 75, 76] (by decide +kernel) (by decide +kernel)
set_option maxRecDepth 20000 in
theorem gX6_stopAt_X6_productsOf : GoodIn wsX6_stopAt (wsV RX6 120 RX6 yX6_productsOf wsX6_productsOf) := goodIn_app (goodIn_of _ (by decide +kernel)) ggX6_stopAt_X6_productsOf
set_option maxRecDepth 20000 in
theorem ggX6_stopAt_X6_layPath : GoodIn wsX6_stopAt wsX6_layPath := goodIn_r _ [34, 2, 35, 5, 36, 37, 38, 9, 39, 3, 4, 40, 41, 42, 43, 44, 45, 46, 47, 48, 49, 50, 51, 52, 53, 54, 55, 56, 57, 58, 59, 60, 61, 62, 63, 64, 65, 66, 67, 68, 69, 70, 71, 72, 73, 74, 75, 76] (by decide +kernel) (by decide +kernel)
set_option maxRecDepth 20000 in
theorem gX6_stopAt_X6_layPath : GoodIn wsX6_stopAt (wsV RX6 143 RX6 yX6_layPath wsX6_layPath) := goodIn_app (goodIn_of _ (by decide +kernel)) ggX6_stopAt_X6_layPath
set_option maxRecDepth 20000 in
theorem ggX6_stopAt_X6_in : GoodIn wsX6_stopAt wsX6_in := goodIn_r _ [14] (by decide +kernel) (by decide +kernel)
set_option maxRecDepth 20000 in
theorem gX6_stopAt_X6_in : GoodIn wsX6_stopAt (va_wsS RX6 62 yX6_in wsX6_in) := goodIn_app (goodIn_of _ (by decide +kernel)) ggX6_stopAt_X6_in
theorem dX6_stopAt_0 : decode cX6_stopAt 0 = .ok (.aload_n 0, 1) := by decide +kernel
theorem dX6_stopAt_1 : decode cX6_stopAt 1 = .ok (.iconst 0, 1) := by decide +kernel
theorem dX6_stopAt_2 : decode cX6_stopAt 2 = .ok (.putfield 59, 3) := by decide +kernel
theorem dX6_stopAt_5 : decode cX6_stopAt 5 = .ok (.aload_n 0, 1) := by decide +kernel
theorem dX6_stopAt_6 : decode cX6_stopAt 6 = .ok (.iload_n 1, 1) := by decide +kernel
theorem dX6_stopAt_7 : decode cX6_stopAt 7 = .ok (.invokevirtual 130, 3) := by decide +kernel
theorem dX6_stopAt_10 : decode cX6_stopAt 10 = .ok (.ifCond .ne 9, 3) := by decide +kernel
theorem dX6_stopAt_13 : decode cX6_stopAt 13 = .ok (.aload_n 0, 1) := by decide +kernel
theorem dX6_stopAt_14 : decode cX6_stopAt 14 = .ok (.iconst 1, 1) := by decide +kernel
theorem dX6_stopAt_15 : decode cX6_stopAt 15 = .ok (.invokevirtual 94, 3) := by decide +kernel
theorem dX6_stopAt_18 : decode cX6_stopAt 18 = .ok (.ireturn, 1) := by decide +kernel
theorem dX6_stopAt_19 : decode cX6_stopAt 19 = .ok (.aload_n 0, 1) := by decide +kernel
theorem dX6_stopAt_20 : decode cX6_stopAt 20 = .ok (.aload_n 0, 1) := by decide +kernel
theorem dX6_stopAt_21 : decode cX6_stopAt 21 = .ok (.iload_n 1, 1) := by decide +kernel
theorem dX6_stopAt_22 : decode cX6_stopAt 22 = .ok (.invokevirtual 120, 3) := by decide +kernel
theorem dX6_stopAt_25 : decode cX6_stopAt 25 = .ok (.invokevirtual 143, 3) := by decide +kernel
theorem dX6_stopAt_28 : decode cX6_stopAt 28 = .ok (.iload_n 2, 1) := by decide +kernel
theorem dX6_stopAt_29 : decode cX6_stopAt 29 = .ok (.iconst 0, 1) := by decide +kernel
theorem dX6_stopAt_30 : decode cX6_stopAt 30 = .ok (.aload_n 0, 1) := by decide +kernel
theorem dX6_stopAt_31 : decode cX6_stopAt 31 = .ok (.getfield 76, 3) := by decide +kernel
theorem dX6_stopAt_34 : decode cX6_stopAt 34 = .ok (.iconst 1, 1) := by decide +kernel
theorem dX6_stopAt_35 : decode cX6_stopAt 35 = .ok (.isub, 1) := by decide +kernel
theorem dX6_stopAt_36 : decode cX6_stopAt 36 = .ok (.invokestatic 62, 3) := by decide +kernel
theorem dX6_stopAt_39 : decode cX6_stopAt 39 = .ok (.ifCond .eq 22, 3) := by decide +kernel
theorem dX6_stopAt_42 : decode cX6_stopAt 42 = .ok (.aload_n 0, 1) := by decide +kernel
theorem dX6_stopAt_43 : decode cX6_stopAt 43 = .ok (.getfield 13, 3) := by decide +kernel
theorem dX6_stopAt_46 : decode cX6_stopAt 46 = .ok (.aload_n 0, 1) := by decide +kernel
theorem dX6_stopAt_47 : decode cX6_stopAt 47 = .ok (.getfield 35, 3) := by decide +kernel
theorem dX6_stopAt_50 : decode cX6_stopAt 50 = .ok (.aload_n 0, 1) := by decide +kernel
theorem dX6_stopAt_51 : decode cX6_stopAt 51 = .ok (.getfield 41, 3) := by decide +kernel
theorem dX6_stopAt_54 : decode cX6_stopAt 54 = .ok (.iload_n 2, 1) := by decide +kernel
theorem dX6_stopAt_55 : decode cX6_stopAt 55 = .ok (.iaload, 1) := by decide +kernel
theorem dX6_stopAt_56 : decode cX6_stopAt 56 = .ok (.iaload, 1) := by decide +kernel
theorem dX6_stopAt_57 : decode cX6_stopAt 57 = .ok (.iaload, 1) := by decide +kernel
theorem dX6_stopAt_58 : decode cX6_stopAt 58 = .ok (.goto 8, 3) := by decide +kernel
theorem dX6_stopAt_61 : decode cX6_stopAt 61 = .ok (.aload_n 0, 1) := by decide +kernel
theorem dX6_stopAt_62 : decode cX6_stopAt 62 = .ok (.iconst 1, 1) := by decide +kernel
theorem dX6_stopAt_63 : decode cX6_stopAt 63 = .ok (.invokevirtual 94, 3) := by decide +kernel
theorem dX6_stopAt_66 : decode cX6_stopAt 66 = .ok (.ireturn, 1) := by decide +kernel
set_option maxRecDepth 20000 in
theorem ggX6_inAisle_X6_in : GoodIn wsX6_inAisle wsX6_in := goodIn_r _ [7] (by decide +kernel) (by decide +kernel)
set_option maxRecDepth 20000 in
theorem gX6_inAisle_X6_in : GoodIn wsX6_inAisle (va_wsS RX6 62 yX6_in wsX6_in) := goodIn_app (goodIn_of _ (by decide +kernel)) ggX6_inAisle_X6_in
set_option maxRecDepth 20000 in
theorem ggX6_inAisle_X6_fails : GoodIn wsX6_inAisle wsX6_fails := goodIn_r _ [11, 1, 29, 30, 31, 32, 33, 34, 35, 36, 37, 38, 39, 40, 41, 42, 43, 44, 45, 46, 47, 48, 49, 50] (by decide +kernel) (by decide +kernel)
set_option maxRecDepth 20000 in
theorem gX6_inAisle_X6_fails : GoodIn wsX6_inAisle (wsV RX6 94 RX6 yX6_fails wsX6_fails) := goodIn_app (goodIn_of _ (by decide +kernel)) ggX6_inAisle_X6_fails
set_option maxRecDepth 20000 in
theorem ggX6_inAisle_X6_farthest : GoodIn wsX6_inAisle wsX6_farthest := goodIn_r _ [15, 16, 17, 18, 19, 6, 20, 21, 22, 23, 24, 25, 26, 27, 28, 29, 30, 31, 32, 33, 34, 35, 36, 37, 38, 39, 40, 41, 42, 43, 44, 45, 46, 47, 48, 49, 50] (by decide +kernel) (by decide +kernel)
set_option maxRecDepth 20000 in
theorem gX6_inAisle_X6_farthest : GoodIn wsX6_inAisle (wsV RX6 140 RX6 yX6_farthest wsX6_farthest) := goodIn_app (goodIn_of _ (by decide +kernel)) ggX6_inAisle_X6_farthest
theorem dX6_inAisle_0 : decode cX6_inAisle 0 = .ok (.aload_n 0, 1) := by decide +kernel
theorem dX6_inAisle_1 : decode cX6_inAisle 1 = .ok (.iconst 0, 1) := by decide +kernel
theorem dX6_inAisle_2 : decode cX6_inAisle 2 = .ok (.putfield 59, 3) := by decide +kernel
theorem dX6_inAisle_5 : decode cX6_inAisle 5 = .ok (.iload_n 1, 1) := by decide +kernel
theorem dX6_inAisle_6 : decode cX6_inAisle 6 = .ok (.iconst 0, 1) := by decide +kernel
theorem dX6_inAisle_7 : decode cX6_inAisle 7 = .ok (.aload_n 0, 1) := by decide +kernel
theorem dX6_inAisle_8 : decode cX6_inAisle 8 = .ok (.getfield 50, 3) := by decide +kernel
theorem dX6_inAisle_11 : decode cX6_inAisle 11 = .ok (.iconst 1, 1) := by decide +kernel
theorem dX6_inAisle_12 : decode cX6_inAisle 12 = .ok (.isub, 1) := by decide +kernel
theorem dX6_inAisle_13 : decode cX6_inAisle 13 = .ok (.invokestatic 62, 3) := by decide +kernel
theorem dX6_inAisle_16 : decode cX6_inAisle 16 = .ok (.ifCond .ne 9, 3) := by decide +kernel
theorem dX6_inAisle_19 : decode cX6_inAisle 19 = .ok (.aload_n 0, 1) := by decide +kernel
theorem dX6_inAisle_20 : decode cX6_inAisle 20 = .ok (.iconst 1, 1) := by decide +kernel
theorem dX6_inAisle_21 : decode cX6_inAisle 21 = .ok (.invokevirtual 94, 3) := by decide +kernel
theorem dX6_inAisle_24 : decode cX6_inAisle 24 = .ok (.ireturn, 1) := by decide +kernel
theorem dX6_inAisle_25 : decode cX6_inAisle 25 = .ok (.iconst 0, 1) := by decide +kernel
theorem dX6_inAisle_26 : decode cX6_inAisle 26 = .ok (.istore_n 2, 1) := by decide +kernel
theorem dX6_inAisle_27 : decode cX6_inAisle 27 = .ok (.iconst 0, 1) := by decide +kernel
theorem dX6_inAisle_28 : decode cX6_inAisle 28 = .ok (.istore_n 3, 1) := by decide +kernel
theorem dX6_inAisle_29 : decode cX6_inAisle 29 = .ok (.iload_n 3, 1) := by decide +kernel
theorem dX6_inAisle_30 : decode cX6_inAisle 30 = .ok (.aload_n 0, 1) := by decide +kernel
theorem dX6_inAisle_31 : decode cX6_inAisle 31 = .ok (.getfield 69, 3) := by decide +kernel
theorem dX6_inAisle_34 : decode cX6_inAisle 34 = .ok (.if_icmp .ge 26, 3) := by decide +kernel
theorem dX6_inAisle_37 : decode cX6_inAisle 37 = .ok (.iload_n 2, 1) := by decide +kernel
theorem dX6_inAisle_38 : decode cX6_inAisle 38 = .ok (.aload_n 0, 1) := by decide +kernel
theorem dX6_inAisle_39 : decode cX6_inAisle 39 = .ok (.iload_n 3, 1) := by decide +kernel
theorem dX6_inAisle_40 : decode cX6_inAisle 40 = .ok (.iload_n 1, 1) := by decide +kernel
theorem dX6_inAisle_41 : decode cX6_inAisle 41 = .ok (.invokevirtual 140, 3) := by decide +kernel
theorem dX6_inAisle_44 : decode cX6_inAisle 44 = .ok (.ifCond .le 7, 3) := by decide +kernel
theorem dX6_inAisle_47 : decode cX6_inAisle 47 = .ok (.iconst 1, 1) := by decide +kernel
theorem dX6_inAisle_48 : decode cX6_inAisle 48 = .ok (.goto 4, 3) := by decide +kernel
theorem dX6_inAisle_51 : decode cX6_inAisle 51 = .ok (.iconst 0, 1) := by decide +kernel
theorem dX6_inAisle_52 : decode cX6_inAisle 52 = .ok (.iadd, 1) := by decide +kernel
theorem dX6_inAisle_53 : decode cX6_inAisle 53 = .ok (.istore_n 2, 1) := by decide +kernel
theorem dX6_inAisle_54 : decode cX6_inAisle 54 = .ok (.iinc 3 1, 3) := by decide +kernel
theorem dX6_inAisle_57 : decode cX6_inAisle 57 = .ok (.goto (-28), 3) := by decide +kernel
theorem dX6_inAisle_60 : decode cX6_inAisle 60 = .ok (.iload_n 2, 1) := by decide +kernel
theorem dX6_inAisle_61 : decode cX6_inAisle 61 = .ok (.ireturn, 1) := by decide +kernel
theorem dX6_walked_0 : decode cX6_walked 0 = .ok (.aload_n 0, 1) := by decide +kernel
theorem dX6_walked_1 : decode cX6_walked 1 = .ok (.iconst 0, 1) := by decide +kernel
theorem dX6_walked_2 : decode cX6_walked 2 = .ok (.putfield 59, 3) := by decide +kernel
theorem dX6_walked_5 : decode cX6_walked 5 = .ok (.aload_n 0, 1) := by decide +kernel
theorem dX6_walked_6 : decode cX6_walked 6 = .ok (.getfield 137, 3) := by decide +kernel
theorem dX6_walked_9 : decode cX6_walked 9 = .ok (.ireturn, 1) := by decide +kernel
theorem dX6_share_0 : decode cX6_share 0 = .ok (.aload_n 0, 1) := by decide +kernel
theorem dX6_share_1 : decode cX6_share 1 = .ok (.iconst 0, 1) := by decide +kernel
theorem dX6_share_2 : decode cX6_share 2 = .ok (.putfield 59, 3) := by decide +kernel
theorem dX6_share_5 : decode cX6_share 5 = .ok (.aload_n 0, 1) := by decide +kernel
theorem dX6_share_6 : decode cX6_share 6 = .ok (.getfield 133, 3) := by decide +kernel
theorem dX6_share_9 : decode cX6_share 9 = .ok (.lconst 0, 1) := by decide +kernel
theorem dX6_share_10 : decode cX6_share 10 = .ok (.lcmp, 1) := by decide +kernel
theorem dX6_share_11 : decode cX6_share 11 = .ok (.ifCond .ne 7, 3) := by decide +kernel
theorem dX6_share_14 : decode cX6_share 14 = .ok (.dconst 1, 1) := by decide +kernel
theorem dX6_share_15 : decode cX6_share 15 = .ok (.goto 14, 3) := by decide +kernel
theorem dX6_share_18 : decode cX6_share 18 = .ok (.aload_n 0, 1) := by decide +kernel
theorem dX6_share_19 : decode cX6_share 19 = .ok (.getfield 137, 3) := by decide +kernel
theorem dX6_share_22 : decode cX6_share 22 = .ok (.i2d, 1) := by decide +kernel
theorem dX6_share_23 : decode cX6_share 23 = .ok (.aload_n 0, 1) := by decide +kernel
theorem dX6_share_24 : decode cX6_share 24 = .ok (.getfield 133, 3) := by decide +kernel
theorem dX6_share_27 : decode cX6_share 27 = .ok (.l2d, 1) := by decide +kernel
theorem dX6_share_28 : decode cX6_share 28 = .ok (.ddiv, 1) := by decide +kernel
theorem dX6_share_29 : decode cX6_share 29 = .ok (.dreturn, 1) := by decide +kernel
