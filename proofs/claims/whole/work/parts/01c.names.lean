theorem ggX5_init_X5_within : GoodIn wsX5_init wsX5_within := goodIn_r _ [24, 25, 26, 27, 28, 29, 30, 31] (by decide +kernel) (by decide +kernel)
set_option maxRecDepth 20000 in
theorem gX5_init_X5_within : GoodIn wsX5_init (va_wsS RX5 11 yX5_within wsX5_within) := goodIn_app (goodIn_of _ (by decide +kernel)) ggX5_init_X5_within
set_option maxRecDepth 20000 in
theorem ggX5_init_X3_init : GoodIn wsX5_init wsX3_init := goodIn_r _ [34, 35, 2, 3, 36, 37, 38, 39, 40, 41, 42, 43, 78, 79, 80, 81, 82, 83, 84] (by decide +kernel) (by decide +kernel)
set_option maxRecDepth 20000 in
theorem gX5_init_X3_init : GoodIn wsX5_init (wsX3_init) := ggX5_init_X3_init
set_option maxRecDepth 20000 in
theorem ggX5_init_X2_init : GoodIn wsX5_init wsX2_init := goodIn_r _ [46, 47, 2, 3, 36, 48, 49, 50, 51, 52, 92, 93, 94, 95, 96] (by decide +kernel) (by decide +kernel)
set_option maxRecDepth 20000 in
theorem gX5_init_X2_init : GoodIn wsX5_init (wsX2_init) := ggX5_init_X2_init
set_option maxRecDepth 20000 in
theorem ggX5_init_X4_init : GoodIn wsX5_init wsX4_init := goodIn_r _ [55, 56, 2, 3, 57, 17, 18, 58, 59, 36, 60, 61, 62, 63, 64, 65, 66, 67, 68, 69, 70, 71, 72, 73, 74, 75, 76, 100, 101, 102, 97, 98, 99] (by decide +kernel) (by decide +kernel)
set_option maxRecDepth 20000 in
theorem gX5_init_X4_init : GoodIn wsX5_init (wsX4_init) := ggX5_init_X4_init
set_option maxRecDepth 20000 in
theorem ggX5_init_Jx4a65c_init_da8c8 : GoodIn wsX5_init wsJx4a65c_init_da8c8 := goodIn_r _ [64, 65, 66, 67, 68, 69, 70, 71, 72, 73, 74, 75, 76, 2, 3, 100, 101, 102] (by decide +kernel) (by decide +kernel)
set_option maxRecDepth 20000 in
theorem gX5_init_Jx4a65c_init_da8c8 : GoodIn wsX5_init (wsJx4a65c_init_da8c8) := ggX5_init_Jx4a65c_init_da8c8
theorem dX5_init_0 : decode cX5_init 0 = .ok (.aload_n 0, 1) := by decide +kernel
theorem dX5_init_1 : decode cX5_init 1 = .ok (.invokespecial 1, 3) := by decide +kernel
theorem dX5_init_4 : decode cX5_init 4 = .ok (.aload_n 0, 1) := by decide +kernel
theorem dX5_init_5 : decode cX5_init 5 = .ok (.new 7, 3) := by decide +kernel
theorem dX5_init_8 : decode cX5_init 8 = .ok (.dup, 1) := by decide +kernel
theorem dX5_init_9 : decode cX5_init 9 = .ok (.iload_n 1, 1) := by decide +kernel
theorem dX5_init_10 : decode cX5_init 10 = .ok (.bipush 6, 2) := by decide +kernel
theorem dX5_init_12 : decode cX5_init 12 = .ok (.invokestatic 11, 3) := by decide +kernel
theorem dX5_init_15 : decode cX5_init 15 = .ok (.iload_n 2, 1) := by decide +kernel
theorem dX5_init_16 : decode cX5_init 16 = .ok (.bipush 20, 2) := by decide +kernel
theorem dX5_init_18 : decode cX5_init 18 = .ok (.invokestatic 11, 3) := by decide +kernel
theorem dX5_init_21 : decode cX5_init 21 = .ok (.iload_n 3, 1) := by decide +kernel
theorem dX5_init_22 : decode cX5_init 22 = .ok (.bipush 9, 2) := by decide +kernel
theorem dX5_init_24 : decode cX5_init 24 = .ok (.invokestatic 11, 3) := by decide +kernel
theorem dX5_init_27 : decode cX5_init 27 = .ok (.invokespecial 15, 3) := by decide +kernel
theorem dX5_init_30 : decode cX5_init 30 = .ok (.putfield 18, 3) := by decide +kernel
theorem dX5_init_33 : decode cX5_init 33 = .ok (.aload_n 0, 1) := by decide +kernel
theorem dX5_init_34 : decode cX5_init 34 = .ok (.new 22, 3) := by decide +kernel
theorem dX5_init_37 : decode cX5_init 37 = .ok (.dup, 1) := by decide +kernel
theorem dX5_init_38 : decode cX5_init 38 = .ok (.aload_n 0, 1) := by decide +kernel
theorem dX5_init_39 : decode cX5_init 39 = .ok (.getfield 18, 3) := by decide +kernel
theorem dX5_init_42 : decode cX5_init 42 = .ok (.invokespecial 24, 3) := by decide +kernel
theorem dX5_init_45 : decode cX5_init 45 = .ok (.putfield 27, 3) := by decide +kernel
theorem dX5_init_48 : decode cX5_init 48 = .ok (.aload_n 0, 1) := by decide +kernel
theorem dX5_init_49 : decode cX5_init 49 = .ok (.new 31, 3) := by decide +kernel
theorem dX5_init_52 : decode cX5_init 52 = .ok (.dup, 1) := by decide +kernel
theorem dX5_init_53 : decode cX5_init 53 = .ok (.aload_n 0, 1) := by decide +kernel
theorem dX5_init_54 : decode cX5_init 54 = .ok (.getfield 27, 3) := by decide +kernel
theorem dX5_init_57 : decode cX5_init 57 = .ok (.invokespecial 33, 3) := by decide +kernel
theorem dX5_init_60 : decode cX5_init 60 = .ok (.putfield 36, 3) := by decide +kernel
theorem dX5_init_63 : decode cX5_init 63 = .ok (.aload_n 0, 1) := by decide +kernel
theorem dX5_init_64 : decode cX5_init 64 = .ok (.new 40, 3) := by decide +kernel
theorem dX5_init_67 : decode cX5_init 67 = .ok (.dup, 1) := by decide +kernel
theorem dX5_init_68 : decode cX5_init 68 = .ok (.invokespecial 42, 3) := by decide +kernel
theorem dX5_init_71 : decode cX5_init 71 = .ok (.putfield 43, 3) := by decide +kernel
theorem dX5_init_74 : decode cX5_init 74 = .ok (.aload_n 0, 1) := by decide +kernel
theorem dX5_init_75 : decode cX5_init 75 = .ok (.bipush 6, 2) := by decide +kernel
theorem dX5_init_77 : decode cX5_init 77 = .ok (.putfield 47, 3) := by decide +kernel
theorem dX5_init_80 : decode cX5_init 80 = .ok (.return_, 1) := by decide +kernel
set_option maxRecDepth 20000 in
theorem ggX5_put_X5_checkProduct : GoodIn wsX5_put wsX5_checkProduct := goodIn_ca (goodIn_r _ [10, 1, 2] (by decide +kernel) (by decide +kernel)) (goodIn_sub (fun _ h => List.mem_cons_of_mem _ (List.mem_append_left _ (List.mem_append_right _ h))) (by decide +kernel))
set_option maxRecDepth 20000 in
theorem gX5_put_X5_checkProduct : GoodIn wsX5_put (va_wsS RX5 51 yX5_checkProduct wsX5_checkProduct) := goodIn_app (goodIn_of _ (by decide +kernel)) ggX5_put_X5_checkProduct
set_option maxRecDepth 20000 in
theorem ggX5_put_X3_hasAisle : GoodIn wsX5_put wsX3_hasAisle := goodIn_r _ [15, 16, 50, 51, 52, 53, 54, 55, 56] (by decide +kernel) (by decide +kernel)
set_option maxRecDepth 20000 in
theorem gX5_put_X3_hasAisle : GoodIn wsX5_put (wsV RX5 55 RX3 yX3_hasAisle wsX3_hasAisle) := goodIn_app (goodIn_of _ (by decide +kernel)) ggX5_put_X3_hasAisle
set_option maxRecDepth 20000 in
theorem ggX5_put_X3_hasPosition : GoodIn wsX5_put wsX3_hasPosition := goodIn_r _ [20, 21, 50, 51, 52, 53, 54, 55, 56] (by decide +kernel) (by decide +kernel)
set_option maxRecDepth 20000 in
theorem gX5_put_X3_hasPosition : GoodIn wsX5_put (wsV RX5 59 RX3 yX3_hasPosition wsX3_hasPosition) := goodIn_app (goodIn_of _ (by decide +kernel)) ggX5_put_X3_hasPosition
set_option maxRecDepth 20000 in
theorem ggX5_put_X3_productAt : GoodIn wsX5_put wsX3_productAt := goodIn_r _ [25, 26, 50, 51, 52, 53, 54, 55, 56] (by decide +kernel) (by decide +kernel)
set_option maxRecDepth 20000 in
theorem gX5_put_X3_productAt : GoodIn wsX5_put (wsV RX5 69 RX3 yX3_productAt wsX3_productAt) := goodIn_app (goodIn_of _ (by decide +kernel)) ggX5_put_X3_productAt
set_option maxRecDepth 20000 in
theorem ggX5_put_X4_isOn : GoodIn wsX5_put wsX4_isOn := goodIn_r _ [31, 32, 33, 34, 35, 36, 37, 38, 57, 58, 59, 60, 61, 62] (by decide +kernel) (by decide +kernel)
set_option maxRecDepth 20000 in
theorem gX5_put_X4_isOn : GoodIn wsX5_put (wsV RX5 73 RX4 yX4_isOn wsX4_isOn) := goodIn_app (goodIn_of _ (by decide +kernel)) ggX5_put_X4_isOn
set_option maxRecDepth 20000 in
theorem ggX5_put_X3_move : GoodIn wsX5_put wsX3_move := goodIn_r _ [42, 26, 50, 51, 52, 53, 54, 55, 56] (by decide +kernel) (by decide +kernel)
set_option maxRecDepth 20000 in
theorem gX5_put_X3_move : GoodIn wsX5_put (wsV RX5 82 RX3 yX3_move wsX3_move) := goodIn_app (goodIn_of _ (by decide +kernel)) ggX5_put_X3_move
theorem dX5_put_0 : decode cX5_put 0 = .ok (.iload_n 1, 1) := by decide +kernel
theorem dX5_put_1 : decode cX5_put 1 = .ok (.invokestatic 51, 3) := by decide +kernel
theorem dX5_put_4 : decode cX5_put 4 = .ok (.aload_n 0, 1) := by decide +kernel
theorem dX5_put_5 : decode cX5_put 5 = .ok (.getfield 18, 3) := by decide +kernel
theorem dX5_put_8 : decode cX5_put 8 = .ok (.iload_n 2, 1) := by decide +kernel
theorem dX5_put_9 : decode cX5_put 9 = .ok (.invokevirtual 55, 3) := by decide +kernel
theorem dX5_put_12 : decode cX5_put 12 = .ok (.ifCond .eq 14, 3) := by decide +kernel
theorem dX5_put_15 : decode cX5_put 15 = .ok (.aload_n 0, 1) := by decide +kernel
theorem dX5_put_16 : decode cX5_put 16 = .ok (.getfield 18, 3) := by decide +kernel
theorem dX5_put_19 : decode cX5_put 19 = .ok (.iload_n 3, 1) := by decide +kernel
theorem dX5_put_20 : decode cX5_put 20 = .ok (.invokevirtual 59, 3) := by decide +kernel
theorem dX5_put_23 : decode cX5_put 23 = .ok (.ifCond .ne 13, 3) := by decide +kernel
theorem dX5_put_26 : decode cX5_put 26 = .ok (.new 62, 3) := by decide +kernel
theorem dX5_put_29 : decode cX5_put 29 = .ok (.dup, 1) := by decide +kernel
theorem dX5_put_30 : decode cX5_put 30 = .ok (.ldc 64, 2) := by decide +kernel
theorem dX5_put_32 : decode cX5_put 32 = .ok (.invokespecial 66, 3) := by decide +kernel
theorem dX5_put_35 : decode cX5_put 35 = .ok (.athrow, 1) := by decide +kernel
theorem dX5_put_36 : decode cX5_put 36 = .ok (.iload_n 2, 1) := by decide +kernel
theorem dX5_put_37 : decode cX5_put 37 = .ok (.bipush 100, 2) := by decide +kernel
theorem dX5_put_39 : decode cX5_put 39 = .ok (.imul, 1) := by decide +kernel
theorem dX5_put_40 : decode cX5_put 40 = .ok (.iload_n 3, 1) := by decide +kernel
theorem dX5_put_41 : decode cX5_put 41 = .ok (.iadd, 1) := by decide +kernel
theorem dX5_put_42 : decode cX5_put 42 = .ok (.istore 4, 2) := by decide +kernel
theorem dX5_put_44 : decode cX5_put 44 = .ok (.aload_n 0, 1) := by decide +kernel
theorem dX5_put_45 : decode cX5_put 45 = .ok (.getfield 18, 3) := by decide +kernel
theorem dX5_put_48 : decode cX5_put 48 = .ok (.iload 4, 2) := by decide +kernel
theorem dX5_put_50 : decode cX5_put 50 = .ok (.invokevirtual 69, 3) := by decide +kernel
theorem dX5_put_53 : decode cX5_put 53 = .ok (.istore 5, 2) := by decide +kernel
theorem dX5_put_55 : decode cX5_put 55 = .ok (.aload_n 0, 1) := by decide +kernel
theorem dX5_put_56 : decode cX5_put 56 = .ok (.getfield 36, 3) := by decide +kernel
theorem dX5_put_59 : decode cX5_put 59 = .ok (.invokevirtual 73, 3) := by decide +kernel
theorem dX5_put_62 : decode cX5_put 62 = .ok (.ifCond .ne 15, 3) := by decide +kernel
theorem dX5_put_65 : decode cX5_put 65 = .ok (.iload 5, 2) := by decide +kernel
theorem dX5_put_67 : decode cX5_put 67 = .ok (.iconst (-1), 1) := by decide +kernel
theorem dX5_put_68 : decode cX5_put 68 = .ok (.if_icmp .eq 19, 3) := by decide +kernel
theorem dX5_put_71 : decode cX5_put 71 = .ok (.iload 5, 2) := by decide +kernel
theorem dX5_put_73 : decode cX5_put 73 = .ok (.iload_n 1, 1) := by decide +kernel
theorem dX5_put_74 : decode cX5_put 74 = .ok (.if_icmp .eq 13, 3) := by decide +kernel
theorem dX5_put_77 : decode cX5_put 77 = .ok (.new 77, 3) := by decide +kernel
theorem dX5_put_80 : decode cX5_put 80 = .ok (.dup, 1) := by decide +kernel
theorem dX5_put_81 : decode cX5_put 81 = .ok (.ldc 79, 2) := by decide +kernel
theorem dX5_put_83 : decode cX5_put 83 = .ok (.invokespecial 81, 3) := by decide +kernel
theorem dX5_put_86 : decode cX5_put 86 = .ok (.athrow, 1) := by decide +kernel
theorem dX5_put_87 : decode cX5_put 87 = .ok (.aload_n 0, 1) := by decide +kernel
theorem dX5_put_88 : decode cX5_put 88 = .ok (.getfield 18, 3) := by decide +kernel
theorem dX5_put_91 : decode cX5_put 91 = .ok (.iload_n 1, 1) := by decide +kernel
theorem dX5_put_92 : decode cX5_put 92 = .ok (.iload 4, 2) := by decide +kernel
theorem dX5_put_94 : decode cX5_put 94 = .ok (.invokevirtual 82, 3) := by decide +kernel
theorem dX5_put_97 : decode cX5_put 97 = .ok (.ireturn, 1) := by decide +kernel
set_option maxRecDepth 20000 in
theorem ggX5_layOut_X4_isOn : GoodIn wsX5_layOut wsX4_isOn := goodIn_r _ [9, 10, 11, 12, 13, 14, 15, 16, 66, 67, 68, 69, 70, 71] (by decide +kernel) (by decide +kernel)
set_option maxRecDepth 20000 in
theorem gX5_layOut_X4_isOn : GoodIn wsX5_layOut (wsV RX5 73 RX4 yX4_isOn wsX4_isOn) := goodIn_app (goodIn_of _ (by decide +kernel)) ggX5_layOut_X4_isOn
set_option maxRecDepth 20000 in
theorem ggX5_layOut_X3_rearrange : GoodIn wsX5_layOut wsX3_rearrange := goodIn_r _ [21, 22, 23, 24, 25, 26, 27, 20, 28, 29, 30, 31, 32, 33, 34, 35, 36, 37, 38, 39, 40, 41, 42, 43, 44, 45, 46, 47, 48, 49, 50, 51, 52, 53, 54, 55, 56, 57, 58, 72, 73, 74, 75, 76, 77, 78] (by decide +kernel) (by decide +kernel)
set_option maxRecDepth 20000 in
theorem gX5_layOut_X3_rearrange : GoodIn wsX5_layOut (wsV RX5 87 RX3 yX3_rearrange wsX3_rearrange) := goodIn_app (goodIn_of _ (by decide +kernel)) ggX5_layOut_X3_rearrange
theorem dX5_layOut_0 : decode cX5_layOut 0 = .ok (.aload_n 0, 1) := by decide +kernel
theorem dX5_layOut_1 : decode cX5_layOut 1 = .ok (.getfield 36, 3) := by decide +kernel
theorem dX5_layOut_4 : decode cX5_layOut 4 = .ok (.invokevirtual 73, 3) := by decide +kernel
theorem dX5_layOut_7 : decode cX5_layOut 7 = .ok (.ifCond .eq 13, 3) := by decide +kernel
theorem dX5_layOut_10 : decode cX5_layOut 10 = .ok (.new 77, 3) := by decide +kernel
theorem dX5_layOut_13 : decode cX5_layOut 13 = .ok (.dup, 1) := by decide +kernel
theorem dX5_layOut_14 : decode cX5_layOut 14 = .ok (.ldc 85, 2) := by decide +kernel
theorem dX5_layOut_16 : decode cX5_layOut 16 = .ok (.invokespecial 81, 3) := by decide +kernel
theorem dX5_layOut_19 : decode cX5_layOut 19 = .ok (.athrow, 1) := by decide +kernel
theorem dX5_layOut_20 : decode cX5_layOut 20 = .ok (.aload_n 0, 1) := by decide +kernel
theorem dX5_layOut_21 : decode cX5_layOut 21 = .ok (.getfield 18, 3) := by decide +kernel
theorem dX5_layOut_24 : decode cX5_layOut 24 = .ok (.invokevirtual 87, 3) := by decide +kernel
theorem dX5_layOut_27 : decode cX5_layOut 27 = .ok (.ireturn, 1) := by decide +kernel
set_option maxRecDepth 20000 in
theorem ggX5_placeOf_X5_checkProduct : GoodIn wsX5_placeOf wsX5_checkProduct := goodIn_ca (goodIn_r _ [5, 6, 7] (by decide +kernel) (by decide +kernel)) (goodIn_sub (fun _ h => List.mem_cons_of_mem _ (List.mem_append_right _ h)) (by decide +kernel))
set_option maxRecDepth 20000 in
theorem gX5_placeOf_X5_checkProduct : GoodIn wsX5_placeOf (va_wsS RX5 51 yX5_checkProduct wsX5_checkProduct) := goodIn_app (goodIn_of _ (by decide +kernel)) ggX5_placeOf_X5_checkProduct
theorem dX5_placeOf_0 : decode cX5_placeOf 0 = .ok (.iload_n 1, 1) := by decide +kernel
theorem dX5_placeOf_1 : decode cX5_placeOf 1 = .ok (.invokestatic 51, 3) := by decide +kernel
theorem dX5_placeOf_4 : decode cX5_placeOf 4 = .ok (.aload_n 0, 1) := by decide +kernel
theorem dX5_placeOf_5 : decode cX5_placeOf 5 = .ok (.getfield 18, 3) := by decide +kernel
theorem dX5_placeOf_8 : decode cX5_placeOf 8 = .ok (.getfield 91, 3) := by decide +kernel
theorem dX5_placeOf_11 : decode cX5_placeOf 11 = .ok (.iload_n 1, 1) := by decide +kernel
theorem dX5_placeOf_12 : decode cX5_placeOf 12 = .ok (.iaload, 1) := by decide +kernel
theorem dX5_placeOf_13 : decode cX5_placeOf 13 = .ok (.ireturn, 1) := by decide +kernel
set_option maxRecDepth 20000 in
theorem ggX5_turnover_X5_checkProduct : GoodIn wsX5_turnover wsX5_checkProduct := goodIn_ca (goodIn_r _ [5, 6, 7] (by decide +kernel) (by decide +kernel)) (goodIn_sub (fun _ h => List.mem_cons_of_mem _ (List.mem_append_right _ h)) (by decide +kernel))
set_option maxRecDepth 20000 in
theorem gX5_turnover_X5_checkProduct : GoodIn wsX5_turnover (va_wsS RX5 51 yX5_checkProduct wsX5_checkProduct) := goodIn_app (goodIn_of _ (by decide +kernel)) ggX5_turnover_X5_checkProduct
theorem dX5_turnover_0 : decode cX5_turnover 0 = .ok (.iload_n 1, 1) := by decide +kernel
theorem dX5_turnover_1 : decode cX5_turnover 1 = .ok (.invokestatic 51, 3) := by decide +kernel
theorem dX5_turnover_4 : decode cX5_turnover 4 = .ok (.aload_n 0, 1) := by decide +kernel
theorem dX5_turnover_5 : decode cX5_turnover 5 = .ok (.getfield 18, 3) := by decide +kernel
theorem dX5_turnover_8 : decode cX5_turnover 8 = .ok (.getfield 95, 3) := by decide +kernel
theorem dX5_turnover_11 : decode cX5_turnover 11 = .ok (.iload_n 1, 1) := by decide +kernel
theorem dX5_turnover_12 : decode cX5_turnover 12 = .ok (.iaload, 1) := by decide +kernel
theorem dX5_turnover_13 : decode cX5_turnover 13 = .ok (.ireturn, 1) := by decide +kernel
set_option maxRecDepth 20000 in
theorem ggX5_distance_X5_checkProduct : GoodIn wsX5_distance wsX5_checkProduct := goodIn_ca (goodIn_r _ [7, 8, 9] (by decide +kernel) (by decide +kernel)) (goodIn_sub (fun _ h => List.mem_cons_of_mem _ (List.mem_append_right _ h)) (by decide +kernel))
set_option maxRecDepth 20000 in
theorem gX5_distance_X5_checkProduct : GoodIn wsX5_distance (va_wsS RX5 51 yX5_checkProduct wsX5_checkProduct) := goodIn_app (goodIn_of _ (by decide +kernel)) ggX5_distance_X5_checkProduct
set_option maxRecDepth 20000 in
theorem ggX5_distance_X3_between : GoodIn wsX5_distance wsX3_between := goodIn_r _ [14, 15, 16, 17, 18, 19, 20, 21, 22, 23, 24, 25, 13, 26, 27, 35, 36, 37, 38, 39, 40, 41] (by decide +kernel) (by decide +kernel)
set_option maxRecDepth 20000 in
theorem gX5_distance_X3_between : GoodIn wsX5_distance (wsV RX5 100 RX3 yX3_between wsX3_between) := goodIn_app (goodIn_of _ (by decide +kernel)) ggX5_distance_X3_between
theorem dX5_distance_0 : decode cX5_distance 0 = .ok (.iload_n 1, 1) := by decide +kernel
theorem dX5_distance_1 : decode cX5_distance 1 = .ok (.invokestatic 51, 3) := by decide +kernel
theorem dX5_distance_4 : decode cX5_distance 4 = .ok (.iload_n 2, 1) := by decide +kernel
theorem dX5_distance_5 : decode cX5_distance 5 = .ok (.invokestatic 51, 3) := by decide +kernel
theorem dX5_distance_8 : decode cX5_distance 8 = .ok (.aload_n 0, 1) := by decide +kernel
theorem dX5_distance_9 : decode cX5_distance 9 = .ok (.getfield 18, 3) := by decide +kernel
theorem dX5_distance_12 : decode cX5_distance 12 = .ok (.getfield 91, 3) := by decide +kernel
theorem dX5_distance_15 : decode cX5_distance 15 = .ok (.iload_n 1, 1) := by decide +kernel
theorem dX5_distance_16 : decode cX5_distance 16 = .ok (.iaload, 1) := by decide +kernel
theorem dX5_distance_17 : decode cX5_distance 17 = .ok (.istore_n 3, 1) := by decide +kernel
theorem dX5_distance_18 : decode cX5_distance 18 = .ok (.aload_n 0, 1) := by decide +kernel
theorem dX5_distance_19 : decode cX5_distance 19 = .ok (.getfield 18, 3) := by decide +kernel
theorem dX5_distance_22 : decode cX5_distance 22 = .ok (.getfield 91, 3) := by decide +kernel
theorem dX5_distance_25 : decode cX5_distance 25 = .ok (.iload_n 2, 1) := by decide +kernel
theorem dX5_distance_26 : decode cX5_distance 26 = .ok (.iaload, 1) := by decide +kernel
theorem dX5_distance_27 : decode cX5_distance 27 = .ok (.istore 4, 2) := by decide +kernel
theorem dX5_distance_29 : decode cX5_distance 29 = .ok (.iload_n 3, 1) := by decide +kernel
theorem dX5_distance_30 : decode cX5_distance 30 = .ok (.iconst (-1), 1) := by decide +kernel
theorem dX5_distance_31 : decode cX5_distance 31 = .ok (.if_icmp .eq 9, 3) := by decide +kernel
theorem dX5_distance_34 : decode cX5_distance 34 = .ok (.iload 4, 2) := by decide +kernel
theorem dX5_distance_36 : decode cX5_distance 36 = .ok (.iconst (-1), 1) := by decide +kernel
theorem dX5_distance_37 : decode cX5_distance 37 = .ok (.if_icmp .ne 13, 3) := by decide +kernel
theorem dX5_distance_40 : decode cX5_distance 40 = .ok (.new 77, 3) := by decide +kernel
theorem dX5_distance_43 : decode cX5_distance 43 = .ok (.dup, 1) := by decide +kernel
theorem dX5_distance_44 : decode cX5_distance 44 = .ok (.ldc 98, 2) := by decide +kernel
theorem dX5_distance_46 : decode cX5_distance 46 = .ok (.invokespecial 81, 3) := by decide +kernel
theorem dX5_distance_49 : decode cX5_distance 49 = .ok (.athrow, 1) := by decide +kernel
theorem dX5_distance_50 : decode cX5_distance 50 = .ok (.aload_n 0, 1) := by decide +kernel
theorem dX5_distance_51 : decode cX5_distance 51 = .ok (.getfield 18, 3) := by decide +kernel
theorem dX5_distance_54 : decode cX5_distance 54 = .ok (.iload_n 3, 1) := by decide +kernel
theorem dX5_distance_55 : decode cX5_distance 55 = .ok (.iload 4, 2) := by decide +kernel
theorem dX5_distance_57 : decode cX5_distance 57 = .ok (.invokevirtual 100, 3) := by decide +kernel
theorem dX5_distance_60 : decode cX5_distance 60 = .ok (.ireturn, 1) := by decide +kernel
set_option maxRecDepth 20000 in
theorem ggX5_order_X5_checkTime : GoodIn wsX5_order wsX5_checkTime := goodIn_ca (goodIn_r _ [10, 11, 12] (by decide +kernel) (by decide +kernel)) (goodIn_sub (fun _ h => List.mem_cons_of_mem _ (List.mem_append_right _ h)) (by decide +kernel))
set_option maxRecDepth 20000 in
theorem gX5_order_X5_checkTime : GoodIn wsX5_order (va_wsS RX5 103 yX5_checkTime wsX5_checkTime) := goodIn_app (goodIn_of _ (by decide +kernel)) ggX5_order_X5_checkTime
set_option maxRecDepth 20000 in
theorem ggX5_order_Jx4a65c_size_8abf5 : GoodIn wsX5_order wsJx4a65c_size_8abf5 := goodIn_r _ [17, 18, 94, 95, 96] (by decide +kernel) (by decide +kernel)
set_option maxRecDepth 20000 in
theorem gX5_order_Jx4a65c_size_8abf5 : GoodIn wsX5_order (wsV RX5 106 RJx4a65c yJx4a65c_size_8abf5 wsJx4a65c_size_8abf5) := goodIn_app (goodIn_of _ (by decide +kernel)) ggX5_order_Jx4a65c_size_8abf5
set_option maxRecDepth 20000 in
theorem ggX5_order_X1_init : GoodIn wsX5_order wsX1_init := goodIn_r _ [21, 22, 23, 24, 25, 26, 27, 28, 90, 91, 92, 93] (by decide +kernel) (by decide +kernel)
set_option maxRecDepth 20000 in
theorem gX5_order_X1_init : GoodIn wsX5_order (wsX1_init) := ggX5_order_X1_init
set_option maxRecDepth 20000 in
theorem ggX5_order_Jx4a65c_add_9ea2d : GoodIn wsX5_order wsJx4a65c_add_9ea2d := goodIn_r _ [32, 33, 34, 35, 18, 36, 37, 38, 16, 39, 40, 41, 42, 43, 44, 45, 46, 47, 48, 49, 50, 51, 52, 53, 54, 55, 56, 57, 58, 59, 60, 61, 62, 63, 64, 65, 66, 67, 68, 69, 70, 71, 72, 73, 74, 75, 76, 77, 78, 79, 80, 81, 82, 94, 95, 96] (by decide +kernel) (by decide +kernel)
set_option maxRecDepth 20000 in
theorem gX5_order_Jx4a65c_add_9ea2d : GoodIn wsX5_order (wsV RX5 115 RJx4a65c yJx4a65c_add_9ea2d wsJx4a65c_add_9ea2d) := goodIn_app (goodIn_of _ (by decide +kernel)) ggX5_order_Jx4a65c_add_9ea2d
theorem dX5_order_0 : decode cX5_order 0 = .ok (.iload_n 1, 1) := by decide +kernel
theorem dX5_order_1 : decode cX5_order 1 = .ok (.invokestatic 103, 3) := by decide +kernel
theorem dX5_order_4 : decode cX5_order 4 = .ok (.aload_n 0, 1) := by decide +kernel
theorem dX5_order_5 : decode cX5_order 5 = .ok (.getfield 43, 3) := by decide +kernel
theorem dX5_order_8 : decode cX5_order 8 = .ok (.invokevirtual 106, 3) := by decide +kernel
theorem dX5_order_11 : decode cX5_order 11 = .ok (.bipush 40, 2) := by decide +kernel
theorem dX5_order_13 : decode cX5_order 13 = .ok (.if_icmp .lt 13, 3) := by decide +kernel
theorem dX5_order_16 : decode cX5_order 16 = .ok (.new 77, 3) := by decide +kernel
theorem dX5_order_19 : decode cX5_order 19 = .ok (.dup, 1) := by decide +kernel
theorem dX5_order_20 : decode cX5_order 20 = .ok (.ldc 109, 2) := by decide +kernel
theorem dX5_order_22 : decode cX5_order 22 = .ok (.invokespecial 81, 3) := by decide +kernel
theorem dX5_order_25 : decode cX5_order 25 = .ok (.athrow, 1) := by decide +kernel
theorem dX5_order_26 : decode cX5_order 26 = .ok (.aload_n 0, 1) := by decide +kernel
theorem dX5_order_27 : decode cX5_order 27 = .ok (.getfield 43, 3) := by decide +kernel
theorem dX5_order_30 : decode cX5_order 30 = .ok (.new 111, 3) := by decide +kernel
theorem dX5_order_33 : decode cX5_order 33 = .ok (.dup, 1) := by decide +kernel
theorem dX5_order_34 : decode cX5_order 34 = .ok (.iload_n 1, 1) := by decide +kernel
theorem dX5_order_35 : decode cX5_order 35 = .ok (.invokespecial 113, 3) := by decide +kernel
theorem dX5_order_38 : decode cX5_order 38 = .ok (.invokevirtual 115, 3) := by decide +kernel
theorem dX5_order_41 : decode cX5_order 41 = .ok (.pop, 1) := by decide +kernel
theorem dX5_order_42 : decode cX5_order 42 = .ok (.aload_n 0, 1) := by decide +kernel
theorem dX5_order_43 : decode cX5_order 43 = .ok (.getfield 43, 3) := by decide +kernel
theorem dX5_order_46 : decode cX5_order 46 = .ok (.invokevirtual 106, 3) := by decide +kernel
theorem dX5_order_49 : decode cX5_order 49 = .ok (.iconst 1, 1) := by decide +kernel
theorem dX5_order_50 : decode cX5_order 50 = .ok (.isub, 1) := by decide +kernel
theorem dX5_order_51 : decode cX5_order 51 = .ok (.ireturn, 1) := by decide +kernel
set_option maxRecDepth 20000 in
theorem ggX5_line_X5_orderNumbered : GoodIn wsX5_line wsX5_orderNumbered := goodIn_ca (goodIn_r _ [10, 11, 12, 13, 14, 15, 16, 17, 18, 19, 20, 21, 22, 23, 24, 25, 26, 27, 28, 29, 30, 31, 32, 33, 34, 35, 36, 37, 70, 71, 72, 73, 74, 75, 76, 84, 85, 86] (by decide +kernel) (by decide +kernel)) (goodIn_sub (fun _ h => List.mem_cons_of_mem _ (List.mem_append_right _ h)) (by decide +kernel))
set_option maxRecDepth 20000 in
theorem gX5_line_X5_orderNumbered : GoodIn wsX5_line (wsV RX5 119 RX5 yX5_orderNumbered wsX5_orderNumbered) := goodIn_app (goodIn_of _ (by decide +kernel)) ggX5_line_X5_orderNumbered
set_option maxRecDepth 20000 in
theorem ggX5_line_X5_checkProduct : GoodIn wsX5_line wsX5_checkProduct := goodIn_ca (goodIn_r _ [40, 11, 12] (by decide +kernel) (by decide +kernel)) (goodIn_sub (fun _ h => List.mem_cons_of_mem _ (List.mem_append_right _ h)) (by decide +kernel))
set_option maxRecDepth 20000 in
theorem gX5_line_X5_checkProduct : GoodIn wsX5_line (va_wsS RX5 51 yX5_checkProduct wsX5_checkProduct) := goodIn_app (goodIn_of _ (by decide +kernel)) ggX5_line_X5_checkProduct
set_option maxRecDepth 20000 in
theorem ggX5_line_X5_takesLine : GoodIn wsX5_line wsX5_takesLine := goodIn_r _ [44, 45, 46, 47, 48, 49, 50, 51, 52, 53, 54, 55, 56, 57, 58, 87, 88, 89, 90, 70, 71, 72, 73, 74, 75, 76] (by decide +kernel) (by decide +kernel)
set_option maxRecDepth 20000 in
theorem gX5_line_X5_takesLine : GoodIn wsX5_line (wsV RX5 128 RX5 yX5_takesLine wsX5_takesLine) := goodIn_app (goodIn_of _ (by decide +kernel)) ggX5_line_X5_takesLine
set_option maxRecDepth 20000 in
theorem ggX5_line_X1_asksFor : GoodIn wsX5_line wsX1_asksFor := goodIn_r _ [62, 51, 63, 9, 64, 87, 88, 89, 90] (by decide +kernel) (by decide +kernel)
set_option maxRecDepth 20000 in
theorem gX5_line_X1_asksFor : GoodIn wsX5_line (wsV RX5 132 RX1 yX1_asksFor wsX1_asksFor) := goodIn_app (goodIn_of _ (by decide +kernel)) ggX5_line_X1_asksFor
set_option maxRecDepth 20000 in
theorem ggX5_line_X1_addLine : GoodIn wsX5_line wsX1_addLine := goodIn_r _ [68, 51, 69, 87, 88, 89, 90] (by decide +kernel) (by decide +kernel)
set_option maxRecDepth 20000 in
theorem gX5_line_X1_addLine : GoodIn wsX5_line (wsV RX5 137 RX1 yX1_addLine wsX1_addLine) := goodIn_app (goodIn_of _ (by decide +kernel)) ggX5_line_X1_addLine
set_option maxRecDepth 20000 in
theorem ggX5_line_X1_countLines : GoodIn wsX5_line wsX1_countLines := goodIn_r _ [50, 51, 52, 53, 54, 55, 56, 57, 58, 87, 88, 89, 90] (by decide +kernel) (by decide +kernel)
set_option maxRecDepth 20000 in
theorem gX5_line_X1_countLines : GoodIn wsX5_line (wsV RX5 141 RX1 yX1_countLines wsX1_countLines) := goodIn_app (goodIn_of _ (by decide +kernel)) ggX5_line_X1_countLines
theorem dX5_line_0 : decode cX5_line 0 = .ok (.aload_n 0, 1) := by decide +kernel
theorem dX5_line_1 : decode cX5_line 1 = .ok (.iload_n 1, 1) := by decide +kernel
theorem dX5_line_2 : decode cX5_line 2 = .ok (.invokevirtual 119, 3) := by decide +kernel
theorem dX5_line_5 : decode cX5_line 5 = .ok (.astore 4, 2) := by decide +kernel
theorem dX5_line_7 : decode cX5_line 7 = .ok (.iload_n 2, 1) := by decide +kernel
theorem dX5_line_8 : decode cX5_line 8 = .ok (.invokestatic 51, 3) := by decide +kernel
theorem dX5_line_11 : decode cX5_line 11 = .ok (.iload_n 3, 1) := by decide +kernel
theorem dX5_line_12 : decode cX5_line 12 = .ok (.iconst 1, 1) := by decide +kernel
theorem dX5_line_13 : decode cX5_line 13 = .ok (.if_icmp .lt 9, 3) := by decide +kernel
theorem dX5_line_16 : decode cX5_line 16 = .ok (.iload_n 3, 1) := by decide +kernel
theorem dX5_line_17 : decode cX5_line 17 = .ok (.bipush 99, 2) := by decide +kernel
theorem dX5_line_19 : decode cX5_line 19 = .ok (.if_icmp .le 13, 3) := by decide +kernel
theorem dX5_line_22 : decode cX5_line 22 = .ok (.new 123, 3) := by decide +kernel
theorem dX5_line_25 : decode cX5_line 25 = .ok (.dup, 1) := by decide +kernel
theorem dX5_line_26 : decode cX5_line 26 = .ok (.ldc 125, 2) := by decide +kernel
theorem dX5_line_28 : decode cX5_line 28 = .ok (.invokespecial 127, 3) := by decide +kernel
theorem dX5_line_31 : decode cX5_line 31 = .ok (.athrow, 1) := by decide +kernel
theorem dX5_line_32 : decode cX5_line 32 = .ok (.aload_n 0, 1) := by decide +kernel
theorem dX5_line_33 : decode cX5_line 33 = .ok (.aload 4, 2) := by decide +kernel
theorem dX5_line_35 : decode cX5_line 35 = .ok (.invokevirtual 128, 3) := by decide +kernel
theorem dX5_line_38 : decode cX5_line 38 = .ok (.ifCond .eq 25, 3) := by decide +kernel
theorem dX5_line_41 : decode cX5_line 41 = .ok (.aload 4, 2) := by decide +kernel
theorem dX5_line_43 : decode cX5_line 43 = .ok (.iload_n 2, 1) := by decide +kernel
theorem dX5_line_44 : decode cX5_line 44 = .ok (.invokevirtual 132, 3) := by decide +kernel
theorem dX5_line_47 : decode cX5_line 47 = .ok (.ifCond .ne 16, 3) := by decide +kernel
theorem dX5_line_50 : decode cX5_line 50 = .ok (.aload_n 0, 1) := by decide +kernel
theorem dX5_line_51 : decode cX5_line 51 = .ok (.getfield 18, 3) := by decide +kernel
theorem dX5_line_54 : decode cX5_line 54 = .ok (.getfield 91, 3) := by decide +kernel
theorem dX5_line_57 : decode cX5_line 57 = .ok (.iload_n 2, 1) := by decide +kernel
theorem dX5_line_58 : decode cX5_line 58 = .ok (.iaload, 1) := by decide +kernel
theorem dX5_line_59 : decode cX5_line 59 = .ok (.iconst (-1), 1) := by decide +kernel
theorem dX5_line_60 : decode cX5_line 60 = .ok (.if_icmp .ne 13, 3) := by decide +kernel
theorem dX5_line_63 : decode cX5_line 63 = .ok (.new 77, 3) := by decide +kernel
theorem dX5_line_66 : decode cX5_line 66 = .ok (.dup, 1) := by decide +kernel
theorem dX5_line_67 : decode cX5_line 67 = .ok (.ldc 135, 2) := by decide +kernel
theorem dX5_line_69 : decode cX5_line 69 = .ok (.invokespecial 81, 3) := by decide +kernel
theorem dX5_line_72 : decode cX5_line 72 = .ok (.athrow, 1) := by decide +kernel
theorem dX5_line_73 : decode cX5_line 73 = .ok (.aload 4, 2) := by decide +kernel
theorem dX5_line_75 : decode cX5_line 75 = .ok (.iload_n 2, 1) := by decide +kernel
theorem dX5_line_76 : decode cX5_line 76 = .ok (.iload_n 3, 1) := by decide +kernel
theorem dX5_line_77 : decode cX5_line 77 = .ok (.invokevirtual 137, 3) := by decide +kernel
theorem dX5_line_80 : decode cX5_line 80 = .ok (.aload 4, 2) := by decide +kernel
theorem dX5_line_82 : decode cX5_line 82 = .ok (.invokevirtual 141, 3) := by decide +kernel
theorem dX5_line_85 : decode cX5_line 85 = .ok (.ireturn, 1) := by decide +kernel
set_option maxRecDepth 20000 in
theorem ggX5_orders_Jx4a65c_size_8abf5 : GoodIn wsX5_orders wsJx4a65c_size_8abf5 := goodIn_r _ [6, 7, 15, 16, 17] (by decide +kernel) (by decide +kernel)
set_option maxRecDepth 20000 in
theorem gX5_orders_Jx4a65c_size_8abf5 : GoodIn wsX5_orders (wsV RX5 106 RJx4a65c yJx4a65c_size_8abf5 wsJx4a65c_size_8abf5) := goodIn_app (goodIn_of _ (by decide +kernel)) ggX5_orders_Jx4a65c_size_8abf5
theorem dX5_orders_0 : decode cX5_orders 0 = .ok (.aload_n 0, 1) := by decide +kernel
theorem dX5_orders_1 : decode cX5_orders 1 = .ok (.getfield 43, 3) := by decide +kernel
theorem dX5_orders_4 : decode cX5_orders 4 = .ok (.invokevirtual 106, 3) := by decide +kernel
theorem dX5_orders_7 : decode cX5_orders 7 = .ok (.ireturn, 1) := by decide +kernel
set_option maxRecDepth 20000 in
theorem ggX5_stateOf_X5_orderNumbered : GoodIn wsX5_stateOf wsX5_orderNumbered := goodIn_ca (goodIn_r _ [5, 6, 7, 8, 9, 10, 11, 12, 13, 14, 15, 16, 17, 18, 19, 20, 21, 22, 23, 24, 25, 26, 27, 28, 29, 30, 31, 32, 37, 38, 39, 40, 41, 42, 43, 44, 45, 46] (by decide +kernel) (by decide +kernel)) (goodIn_sub (fun _ h => List.mem_cons_of_mem _ (List.mem_append_right _ h)) (by decide +kernel))
set_option maxRecDepth 20000 in
theorem gX5_stateOf_X5_orderNumbered : GoodIn wsX5_stateOf (wsV RX5 119 RX5 yX5_orderNumbered wsX5_orderNumbered) := goodIn_app (goodIn_of _ (by decide +kernel)) ggX5_stateOf_X5_orderNumbered
theorem dX5_stateOf_0 : decode cX5_stateOf 0 = .ok (.aload_n 0, 1) := by decide +kernel
theorem dX5_stateOf_1 : decode cX5_stateOf 1 = .ok (.iload_n 1, 1) := by decide +kernel
theorem dX5_stateOf_2 : decode cX5_stateOf 2 = .ok (.invokevirtual 119, 3) := by decide +kernel
theorem dX5_stateOf_5 : decode cX5_stateOf 5 = .ok (.getfield 144, 3) := by decide +kernel
theorem dX5_stateOf_8 : decode cX5_stateOf 8 = .ok (.ireturn, 1) := by decide +kernel
set_option maxRecDepth 20000 in
theorem ggX5_lengthAlone_X5_orderNumbered : GoodIn wsX5_lengthAlone wsX5_orderNumbered := goodIn_ca (goodIn_r _ [6, 7, 8, 9, 10, 11, 12, 13, 14, 15, 16, 17, 18, 19, 20, 21, 22, 23, 24, 25, 26, 27, 28, 29, 30, 31, 32, 33, 90, 91, 92, 93, 94, 95, 96, 101, 102, 103] (by decide +kernel) (by decide +kernel)) (goodIn_sub (fun _ h => List.mem_cons_of_mem _ (List.mem_append_right _ h)) (by decide +kernel))
set_option maxRecDepth 20000 in
theorem gX5_lengthAlone_X5_orderNumbered : GoodIn wsX5_lengthAlone (wsV RX5 119 RX5 yX5_orderNumbered wsX5_orderNumbered) := goodIn_app (goodIn_of _ (by decide +kernel)) ggX5_lengthAlone_X5_orderNumbered
set_option maxRecDepth 20000 in
theorem ggX5_lengthAlone_X2_leastLength : GoodIn wsX5_lengthAlone wsX2_leastLength := goodIn_r _ [38, 39, 40, 41, 37, 42, 43, 44, 45, 46, 47, 5, 48, 49, 50, 51, 52, 53, 54, 55, 56, 57, 58, 59, 60, 61, 62, 63, 64, 65, 66, 67, 68, 69, 70, 71, 72, 73, 74, 75, 76, 77, 78, 79, 80, 81, 82, 83, 84, 85, 86, 87, 88, 89, 104, 105, 106, 107, 108, 109, 110, 111, 112, 113, 114, 115] (by decide +kernel) (by decide +kernel)
set_option maxRecDepth 20000 in
theorem gX5_lengthAlone_X2_leastLength : GoodIn wsX5_lengthAlone (wsV RX5 150 RX2 yX2_leastLength wsX2_leastLength) := goodIn_app (goodIn_of _ (by decide +kernel)) ggX5_lengthAlone_X2_leastLength
theorem dX5_lengthAlone_0 : decode cX5_lengthAlone 0 = .ok (.aload_n 0, 1) := by decide +kernel
theorem dX5_lengthAlone_1 : decode cX5_lengthAlone 1 = .ok (.getfield 27, 3) := by decide +kernel
theorem dX5_lengthAlone_4 : decode cX5_lengthAlone 4 = .ok (.aload_n 0, 1) := by decide +kernel
theorem dX5_lengthAlone_5 : decode cX5_lengthAlone 5 = .ok (.iload_n 1, 1) := by decide +kernel
theorem dX5_lengthAlone_6 : decode cX5_lengthAlone 6 = .ok (.invokevirtual 119, 3) := by decide +kernel
theorem dX5_lengthAlone_9 : decode cX5_lengthAlone 9 = .ok (.getfield 147, 3) := by decide +kernel
theorem dX5_lengthAlone_12 : decode cX5_lengthAlone 12 = .ok (.invokevirtual 150, 3) := by decide +kernel
theorem dX5_lengthAlone_15 : decode cX5_lengthAlone 15 = .ok (.ireturn, 1) := by decide +kernel
set_option maxRecDepth 20000 in
theorem ggX5_setCapacity_X4_isOn : GoodIn wsX5_setCapacity wsX4_isOn := goodIn_r _ [11, 12, 13, 14, 15, 16, 17, 18, 71, 72, 73, 74, 75, 76] (by decide +kernel) (by decide +kernel)
set_option maxRecDepth 20000 in
theorem gX5_setCapacity_X4_isOn : GoodIn wsX5_setCapacity (wsV RX5 73 RX4 yX4_isOn wsX4_isOn) := goodIn_app (goodIn_of _ (by decide +kernel)) ggX5_setCapacity_X4_isOn
set_option maxRecDepth 20000 in
theorem ggX5_setCapacity_X5_mostLinesToDo : GoodIn wsX5_setCapacity wsX5_mostLinesToDo := goodIn_r _ [23, 24, 25, 26, 27, 28, 29, 30, 31, 32, 16, 33, 18, 34, 35, 36, 37, 38, 39, 40, 41, 42, 43, 44, 45, 46, 47, 48, 49, 50, 51, 52, 53, 54, 55, 56, 57, 58, 59, 60, 61, 62, 63, 64, 65, 66, 67, 68, 69, 70, 77, 78, 79, 80, 74, 75, 76] (by decide +kernel) (by decide +kernel)
set_option maxRecDepth 20000 in
theorem gX5_setCapacity_X5_mostLinesToDo : GoodIn wsX5_setCapacity (wsV RX5 155 RX5 yX5_mostLinesToDo wsX5_mostLinesToDo) := goodIn_app (goodIn_of _ (by decide +kernel)) ggX5_setCapacity_X5_mostLinesToDo
theorem dX5_setCapacity_0 : decode cX5_setCapacity 0 = .ok (.iload_n 1, 1) := by decide +kernel
theorem dX5_setCapacity_1 : decode cX5_setCapacity 1 = .ok (.iconst 1, 1) := by decide +kernel
theorem dX5_setCapacity_2 : decode cX5_setCapacity 2 = .ok (.if_icmp .lt 9, 3) := by decide +kernel
theorem dX5_setCapacity_5 : decode cX5_setCapacity 5 = .ok (.iload_n 1, 1) := by decide +kernel
theorem dX5_setCapacity_6 : decode cX5_setCapacity 6 = .ok (.bipush 9, 2) := by decide +kernel
theorem dX5_setCapacity_8 : decode cX5_setCapacity 8 = .ok (.if_icmp .le 13, 3) := by decide +kernel
theorem dX5_setCapacity_11 : decode cX5_setCapacity 11 = .ok (.new 123, 3) := by decide +kernel
theorem dX5_setCapacity_14 : decode cX5_setCapacity 14 = .ok (.dup, 1) := by decide +kernel
theorem dX5_setCapacity_15 : decode cX5_setCapacity 15 = .ok (.ldc 153, 2) := by decide +kernel
theorem dX5_setCapacity_17 : decode cX5_setCapacity 17 = .ok (.invokespecial 127, 3) := by decide +kernel
theorem dX5_setCapacity_20 : decode cX5_setCapacity 20 = .ok (.athrow, 1) := by decide +kernel
theorem dX5_setCapacity_21 : decode cX5_setCapacity 21 = .ok (.aload_n 0, 1) := by decide +kernel
theorem dX5_setCapacity_22 : decode cX5_setCapacity 22 = .ok (.getfield 36, 3) := by decide +kernel
theorem dX5_setCapacity_25 : decode cX5_setCapacity 25 = .ok (.invokevirtual 73, 3) := by decide +kernel
theorem dX5_setCapacity_28 : decode cX5_setCapacity 28 = .ok (.ifCond .ne 11, 3) := by decide +kernel
theorem dX5_setCapacity_31 : decode cX5_setCapacity 31 = .ok (.aload_n 0, 1) := by decide +kernel
theorem dX5_setCapacity_32 : decode cX5_setCapacity 32 = .ok (.invokevirtual 155, 3) := by decide +kernel
theorem dX5_setCapacity_35 : decode cX5_setCapacity 35 = .ok (.iload_n 1, 1) := by decide +kernel
theorem dX5_setCapacity_36 : decode cX5_setCapacity 36 = .ok (.if_icmp .le 13, 3) := by decide +kernel
theorem dX5_setCapacity_39 : decode cX5_setCapacity 39 = .ok (.new 77, 3) := by decide +kernel
theorem dX5_setCapacity_42 : decode cX5_setCapacity 42 = .ok (.dup, 1) := by decide +kernel
theorem dX5_setCapacity_43 : decode cX5_setCapacity 43 = .ok (.ldc 158, 2) := by decide +kernel
theorem dX5_setCapacity_45 : decode cX5_setCapacity 45 = .ok (.invokespecial 81, 3) := by decide +kernel
theorem dX5_setCapacity_48 : decode cX5_setCapacity 48 = .ok (.athrow, 1) := by decide +kernel
theorem dX5_setCapacity_49 : decode cX5_setCapacity 49 = .ok (.aload_n 0, 1) := by decide +kernel
theorem dX5_setCapacity_50 : decode cX5_setCapacity 50 = .ok (.getfield 47, 3) := by decide +kernel
theorem dX5_setCapacity_53 : decode cX5_setCapacity 53 = .ok (.istore_n 2, 1) := by decide +kernel
theorem dX5_setCapacity_54 : decode cX5_setCapacity 54 = .ok (.aload_n 0, 1) := by decide +kernel
theorem dX5_setCapacity_55 : decode cX5_setCapacity 55 = .ok (.iload_n 1, 1) := by decide +kernel
theorem dX5_setCapacity_56 : decode cX5_setCapacity 56 = .ok (.putfield 47, 3) := by decide +kernel
theorem dX5_setCapacity_59 : decode cX5_setCapacity 59 = .ok (.iload_n 2, 1) := by decide +kernel
theorem dX5_setCapacity_60 : decode cX5_setCapacity 60 = .ok (.ireturn, 1) := by decide +kernel
set_option maxRecDepth 20000 in
theorem ggX5_planWave_X5_checkTime : GoodIn wsX5_planWave wsX5_checkTime := goodIn_ca (goodIn_r _ [10, 11, 12] (by decide +kernel) (by decide +kernel)) (goodIn_sub (fun _ h => List.mem_cons_of_mem _ (List.mem_append_right _ h)) (by decide +kernel))
set_option maxRecDepth 20000 in
theorem gX5_planWave_X5_checkTime : GoodIn wsX5_planWave (va_wsS RX5 103 yX5_checkTime wsX5_checkTime) := goodIn_app (goodIn_of _ (by decide +kernel)) ggX5_planWave_X5_checkTime
set_option maxRecDepth 20000 in
theorem ggX5_planWave_X4_isOn : GoodIn wsX5_planWave wsX4_isOn := goodIn_r _ [17, 18, 19, 20, 21, 22, 23, 24, 252, 253, 254, 255, 256, 257] (by decide +kernel) (by decide +kernel)
set_option maxRecDepth 20000 in
theorem gX5_planWave_X4_isOn : GoodIn wsX5_planWave (wsV RX5 73 RX4 yX4_isOn wsX4_isOn) := goodIn_app (goodIn_of _ (by decide +kernel)) ggX5_planWave_X4_isOn
set_option maxRecDepth 20000 in
theorem ggX5_planWave_X5_takesAnyOrder : GoodIn wsX5_planWave wsX5_takesAnyOrder := goodIn_r _ [28, 4, 5, 29, 30, 31, 22, 32, 24, 33, 34, 35, 36, 37, 38, 39, 40, 41, 42, 43, 44, 45, 46, 47, 48, 49, 50, 51, 52, 53, 54, 55, 56, 57, 241, 242, 243, 244, 245, 246, 247, 255, 256, 257, 248, 249, 250, 251] (by decide +kernel) (by decide +kernel)
set_option maxRecDepth 20000 in
theorem gX5_planWave_X5_takesAnyOrder : GoodIn wsX5_planWave (wsV RX5 160 RX5 yX5_takesAnyOrder wsX5_takesAnyOrder) := goodIn_app (goodIn_of _ (by decide +kernel)) ggX5_planWave_X5_takesAnyOrder
set_option maxRecDepth 20000 in
theorem ggX5_planWave_Jx4a65c_size_8abf5 : GoodIn wsX5_planWave wsJx4a65c_size_8abf5 := goodIn_r _ [32, 24, 255, 256, 257] (by decide +kernel) (by decide +kernel)
set_option maxRecDepth 20000 in
theorem gX5_planWave_Jx4a65c_size_8abf5 : GoodIn wsX5_planWave (wsV RX5 106 RJx4a65c yJx4a65c_size_8abf5 wsJx4a65c_size_8abf5) := goodIn_app (goodIn_of _ (by decide +kernel)) ggX5_planWave_Jx4a65c_size_8abf5
set_option maxRecDepth 20000 in
theorem ggX5_planWave_Jx4a65c_get_915e3 : GoodIn wsX5_planWave wsJx4a65c_get_915e3 := goodIn_r _ [36, 24, 37, 38, 39, 40, 41, 42, 43, 44, 45, 46, 47, 22, 48, 49, 255, 256, 257] (by decide +kernel) (by decide +kernel)
set_option maxRecDepth 20000 in
theorem gX5_planWave_Jx4a65c_get_915e3 : GoodIn wsX5_planWave (wsV RX5 165 RJx4a65c yJx4a65c_get_915e3 wsJx4a65c_get_915e3) := goodIn_app (goodIn_of _ (by decide +kernel)) ggX5_planWave_Jx4a65c_get_915e3
set_option maxRecDepth 20000 in
theorem ggX5_planWave_X1_isTakenAt : GoodIn wsX5_planWave wsX1_isTakenAt := goodIn_r _ [54, 55, 56, 57, 248, 249, 250, 251] (by decide +kernel) (by decide +kernel)
set_option maxRecDepth 20000 in
theorem gX5_planWave_X1_isTakenAt : GoodIn wsX5_planWave (wsV RX5 169 RX1 yX1_isTakenAt wsX1_isTakenAt) := goodIn_app (goodIn_of _ (by decide +kernel)) ggX5_planWave_X1_isTakenAt
set_option maxRecDepth 20000 in
theorem ggX5_planWave_X4_take : GoodIn wsX5_planWave wsX4_take := goodIn_r _ [61, 18, 62, 63, 64, 65, 66, 30, 31, 22, 32, 24, 67, 68, 69, 70, 71, 72, 73, 74, 75, 76, 77, 78, 79, 80, 9, 81, 82, 83, 84, 85, 86, 87, 88, 89, 90, 91, 92, 93, 94, 95, 96, 97, 98, 99, 100, 101, 102, 103, 104, 105, 106, 107, 108, 109, 110, 111, 112, 113, 114, 115, 116, 117, 118, 119, 120, 121, 122, 123, 124, 125, 126, 127, 128, 129, 130, 131, 132, 133, 134, 135, 136, 137, 138, 53, 139, 56, 140, 141, 142, 143, 144, 145, 146, 147, 148, 149, 150, 151, 152, 49, 153, 154, 155, 156, 157, 158, 159, 160, 161, 162, 163, 164, 165, 166, 167, 168, 169, 170, 171, 172, 173, 174, 175, 176, 177, 178, 179, 180, 181, 182, 183, 184, 185, 186, 187, 188, 189, 190, 191, 192, 193, 194, 195, 196, 252, 253, 254, 258, 259, 260, 261, 262, 263, 248, 249, 250, 251, 255, 256, 257, 264, 265, 266, 267, 268, 269, 270, 271, 272, 273, 274, 275] (by decide +kernel) (by decide +kernel)
set_option maxRecDepth 20000 in
theorem gX5_planWave_X4_take : GoodIn wsX5_planWave (wsV RX5 172 RX4 yX4_take wsX4_take) := goodIn_app (goodIn_of _ (by decide +kernel)) ggX5_planWave_X4_take
set_option maxRecDepth 20000 in
theorem ggX5_planWave_X4_join : GoodIn wsX5_planWave wsX4_join := goodIn_r _ [200, 18, 201, 65, 66, 30, 31, 22, 32, 24, 202, 203, 204, 16, 205, 206, 207, 34, 35, 36, 37, 38, 39, 40, 41, 42, 43, 44, 45, 46, 47, 48, 49, 67, 68, 69, 70, 71, 72, 73, 74, 75, 76, 77, 78, 79, 80, 9, 81, 82, 83, 84, 85, 86, 87, 88, 89, 90, 91, 92, 93, 94, 95, 96, 97, 98, 99, 100, 101, 102, 103, 104, 105, 106, 107, 108, 109, 110, 111, 112, 113, 114, 115, 116, 117, 118, 119, 120, 121, 122, 208, 209, 210, 211, 212, 213, 214, 215, 216, 217, 218, 64, 219, 132, 133, 134, 135, 220, 221, 222, 223, 224, 225, 226, 227, 151, 152, 228, 194, 195, 196, 229, 230, 231, 232, 129, 233, 234, 235, 236, 252, 253, 254, 258, 259, 260, 261, 262, 263, 255, 256, 257, 264, 265, 266, 267, 268, 269, 270, 271, 272, 273, 274, 275] (by decide +kernel) (by decide +kernel)
set_option maxRecDepth 20000 in
theorem gX5_planWave_X4_join : GoodIn wsX5_planWave (wsV RX5 176 RX4 yX4_join wsX4_join) := goodIn_app (goodIn_of _ (by decide +kernel)) ggX5_planWave_X4_join
set_option maxRecDepth 20000 in
theorem ggX5_planWave_X4_size : GoodIn wsX5_planWave wsX4_size := goodIn_r _ [240, 18, 66, 30, 31, 22, 32, 24, 252, 253, 254, 255, 256, 257] (by decide +kernel) (by decide +kernel)
set_option maxRecDepth 20000 in
theorem gX5_planWave_X4_size : GoodIn wsX5_planWave (wsV RX5 179 RX4 yX4_size wsX4_size) := goodIn_app (goodIn_of _ (by decide +kernel)) ggX5_planWave_X4_size
theorem dX5_planWave_0 : decode cX5_planWave 0 = .ok (.iload_n 1, 1) := by decide +kernel
theorem dX5_planWave_1 : decode cX5_planWave 1 = .ok (.invokestatic 103, 3) := by decide +kernel
theorem dX5_planWave_4 : decode cX5_planWave 4 = .ok (.aload_n 0, 1) := by decide +kernel
theorem dX5_planWave_5 : decode cX5_planWave 5 = .ok (.getfield 36, 3) := by decide +kernel
theorem dX5_planWave_8 : decode cX5_planWave 8 = .ok (.invokevirtual 73, 3) := by decide +kernel
theorem dX5_planWave_11 : decode cX5_planWave 11 = .ok (.ifCond .ne 11, 3) := by decide +kernel
theorem dX5_planWave_14 : decode cX5_planWave 14 = .ok (.aload_n 0, 1) := by decide +kernel
theorem dX5_planWave_15 : decode cX5_planWave 15 = .ok (.iload_n 1, 1) := by decide +kernel
theorem dX5_planWave_16 : decode cX5_planWave 16 = .ok (.invokevirtual 160, 3) := by decide +kernel
theorem dX5_planWave_19 : decode cX5_planWave 19 = .ok (.ifCond .ne 13, 3) := by decide +kernel
theorem dX5_planWave_22 : decode cX5_planWave 22 = .ok (.new 77, 3) := by decide +kernel
theorem dX5_planWave_25 : decode cX5_planWave 25 = .ok (.dup, 1) := by decide +kernel
theorem dX5_planWave_26 : decode cX5_planWave 26 = .ok (.ldc 163, 2) := by decide +kernel
theorem dX5_planWave_28 : decode cX5_planWave 28 = .ok (.invokespecial 81, 3) := by decide +kernel
theorem dX5_planWave_31 : decode cX5_planWave 31 = .ok (.athrow, 1) := by decide +kernel
theorem dX5_planWave_32 : decode cX5_planWave 32 = .ok (.iconst 0, 1) := by decide +kernel
theorem dX5_planWave_33 : decode cX5_planWave 33 = .ok (.istore_n 2, 1) := by decide +kernel
theorem dX5_planWave_34 : decode cX5_planWave 34 = .ok (.iload_n 2, 1) := by decide +kernel
theorem dX5_planWave_35 : decode cX5_planWave 35 = .ok (.aload_n 0, 1) := by decide +kernel
theorem dX5_planWave_36 : decode cX5_planWave 36 = .ok (.getfield 43, 3) := by decide +kernel
theorem dX5_planWave_39 : decode cX5_planWave 39 = .ok (.invokevirtual 106, 3) := by decide +kernel
theorem dX5_planWave_42 : decode cX5_planWave 42 = .ok (.if_icmp .ge 43, 3) := by decide +kernel
theorem dX5_planWave_45 : decode cX5_planWave 45 = .ok (.aload_n 0, 1) := by decide +kernel
theorem dX5_planWave_46 : decode cX5_planWave 46 = .ok (.getfield 43, 3) := by decide +kernel
theorem dX5_planWave_49 : decode cX5_planWave 49 = .ok (.iload_n 2, 1) := by decide +kernel
theorem dX5_planWave_50 : decode cX5_planWave 50 = .ok (.invokevirtual 165, 3) := by decide +kernel
theorem dX5_planWave_53 : decode cX5_planWave 53 = .ok (.checkcast 111, 3) := by decide +kernel
theorem dX5_planWave_56 : decode cX5_planWave 56 = .ok (.astore_n 3, 1) := by decide +kernel
theorem dX5_planWave_57 : decode cX5_planWave 57 = .ok (.aload_n 3, 1) := by decide +kernel
theorem dX5_planWave_58 : decode cX5_planWave 58 = .ok (.iload_n 1, 1) := by decide +kernel
theorem dX5_planWave_59 : decode cX5_planWave 59 = .ok (.invokevirtual 169, 3) := by decide +kernel
theorem dX5_planWave_62 : decode cX5_planWave 62 = .ok (.ifCond .eq 17, 3) := by decide +kernel
theorem dX5_planWave_65 : decode cX5_planWave 65 = .ok (.aload_n 3, 1) := by decide +kernel
theorem dX5_planWave_66 : decode cX5_planWave 66 = .ok (.iconst 1, 1) := by decide +kernel
theorem dX5_planWave_67 : decode cX5_planWave 67 = .ok (.putfield 144, 3) := by decide +kernel
theorem dX5_planWave_70 : decode cX5_planWave 70 = .ok (.aload_n 0, 1) := by decide +kernel
theorem dX5_planWave_71 : decode cX5_planWave 71 = .ok (.getfield 36, 3) := by decide +kernel
theorem dX5_planWave_74 : decode cX5_planWave 74 = .ok (.iload_n 2, 1) := by decide +kernel
theorem dX5_planWave_75 : decode cX5_planWave 75 = .ok (.aload_n 3, 1) := by decide +kernel
theorem dX5_planWave_76 : decode cX5_planWave 76 = .ok (.invokevirtual 172, 3) := by decide +kernel
theorem dX5_planWave_79 : decode cX5_planWave 79 = .ok (.iinc 2 1, 3) := by decide +kernel
theorem dX5_planWave_82 : decode cX5_planWave 82 = .ok (.goto (-48), 3) := by decide +kernel
theorem dX5_planWave_85 : decode cX5_planWave 85 = .ok (.aload_n 0, 1) := by decide +kernel
theorem dX5_planWave_86 : decode cX5_planWave 86 = .ok (.getfield 36, 3) := by decide +kernel
theorem dX5_planWave_89 : decode cX5_planWave 89 = .ok (.aload_n 0, 1) := by decide +kernel
theorem dX5_planWave_90 : decode cX5_planWave 90 = .ok (.getfield 47, 3) := by decide +kernel
theorem dX5_planWave_93 : decode cX5_planWave 93 = .ok (.invokevirtual 176, 3) := by decide +kernel
theorem dX5_planWave_96 : decode cX5_planWave 96 = .ok (.aload_n 0, 1) := by decide +kernel
theorem dX5_planWave_97 : decode cX5_planWave 97 = .ok (.getfield 36, 3) := by decide +kernel
theorem dX5_planWave_100 : decode cX5_planWave 100 = .ok (.invokevirtual 179, 3) := by decide +kernel
theorem dX5_planWave_103 : decode cX5_planWave 103 = .ok (.ireturn, 1) := by decide +kernel
set_option maxRecDepth 20000 in
theorem ggX5_pick_X5_batchNumbered : GoodIn wsX5_pick wsX5_batchNumbered := goodIn_ca (goodIn_r _ [9, 10, 11, 4, 12, 13, 14, 15, 16, 17, 18, 19, 20, 21, 22, 23, 24, 25, 26, 27, 28, 29, 30, 31, 32, 33, 34, 35, 36, 37, 38, 39, 40, 41, 135, 136, 137, 138, 139, 140, 141, 148, 149, 150, 151, 152, 153] (by decide +kernel) (by decide +kernel)) (goodIn_sub (fun _ h => List.mem_cons_of_mem _ (List.mem_append_right _ h)) (by decide +kernel))
set_option maxRecDepth 20000 in
theorem gX5_pick_X5_batchNumbered : GoodIn wsX5_pick (wsV RX5 180 RX5 yX5_batchNumbered wsX5_batchNumbered) := goodIn_app (goodIn_of _ (by decide +kernel)) ggX5_pick_X5_batchNumbered
set_option maxRecDepth 20000 in
theorem ggX5_pick_Jx4a65c_size_8abf5 : GoodIn wsX5_pick wsJx4a65c_size_8abf5 := goodIn_r _ [23, 24, 151, 152, 153] (by decide +kernel) (by decide +kernel)
set_option maxRecDepth 20000 in
theorem gX5_pick_Jx4a65c_size_8abf5 : GoodIn wsX5_pick (wsV RX5 106 RJx4a65c yJx4a65c_size_8abf5 wsJx4a65c_size_8abf5) := goodIn_app (goodIn_of _ (by decide +kernel)) ggX5_pick_Jx4a65c_size_8abf5
set_option maxRecDepth 20000 in
theorem ggX5_pick_X0_holds : GoodIn wsX5_pick wsX0_holds := goodIn_r _ [47, 48, 142, 143, 144, 145, 146, 147] (by decide +kernel) (by decide +kernel)
set_option maxRecDepth 20000 in
theorem gX5_pick_X0_holds : GoodIn wsX5_pick (wsV RX5 184 RX0 yX0_holds wsX0_holds) := goodIn_app (goodIn_of _ (by decide +kernel)) ggX5_pick_X0_holds
set_option maxRecDepth 20000 in
theorem ggX5_pick_Jx4a65c_get_915e3 : GoodIn wsX5_pick wsJx4a65c_get_915e3 := goodIn_r _ [28, 24, 29, 30, 31, 32, 33, 34, 35, 36, 37, 38, 39, 22, 40, 41, 151, 152, 153] (by decide +kernel) (by decide +kernel)
set_option maxRecDepth 20000 in
theorem gX5_pick_Jx4a65c_get_915e3 : GoodIn wsX5_pick (wsV RX5 165 RJx4a65c yJx4a65c_get_915e3 wsJx4a65c_get_915e3) := goodIn_app (goodIn_of _ (by decide +kernel)) ggX5_pick_Jx4a65c_get_915e3
set_option maxRecDepth 20000 in
theorem ggX5_pick_X5_finish : GoodIn wsX5_pick wsX5_finish := goodIn_r _ [52, 53, 54, 55, 56, 57, 58, 59, 60, 61, 62, 63, 64, 65, 66, 67, 68, 69, 8, 70, 71, 72, 73, 74, 75, 76, 77, 78, 79, 80, 81, 82, 83, 84, 85, 86, 87, 88, 89, 90, 91, 92, 93, 94, 95, 96, 97, 98, 99, 100, 101, 102, 103, 104, 105, 106, 107, 108, 109, 110, 111, 112, 113, 114, 115, 116, 135, 136, 137, 138, 139, 140, 141, 154, 155, 156, 157, 158, 159, 160, 161, 162, 163, 164, 165, 166, 167, 168, 169] (by decide +kernel) (by decide +kernel)
set_option maxRecDepth 20000 in
theorem gX5_pick_X5_finish : GoodIn wsX5_pick (wsV RX5 189 RX5 yX5_finish wsX5_finish) := goodIn_app (goodIn_of _ (by decide +kernel)) ggX5_pick_X5_finish
set_option maxRecDepth 20000 in
theorem ggX5_pick_X4_drop : GoodIn wsX5_pick wsX4_drop := goodIn_r _ [120, 18, 19, 20, 21, 22, 23, 24, 121, 122, 123, 124, 41, 29, 30, 31, 32, 33, 34, 35, 36, 125, 126, 127, 128, 129, 130, 131, 132, 133, 134, 148, 149, 150, 151, 152, 153] (by decide +kernel) (by decide +kernel)
set_option maxRecDepth 20000 in
theorem gX5_pick_X4_drop : GoodIn wsX5_pick (wsV RX5 199 RX4 yX4_drop wsX4_drop) := goodIn_app (goodIn_of _ (by decide +kernel)) ggX5_pick_X4_drop
theorem dX5_pick_0 : decode cX5_pick 0 = .ok (.aload_n 0, 1) := by decide +kernel
theorem dX5_pick_1 : decode cX5_pick 1 = .ok (.iload_n 1, 1) := by decide +kernel
theorem dX5_pick_2 : decode cX5_pick 2 = .ok (.invokevirtual 180, 3) := by decide +kernel
theorem dX5_pick_5 : decode cX5_pick 5 = .ok (.astore_n 2, 1) := by decide +kernel
theorem dX5_pick_6 : decode cX5_pick 6 = .ok (.iconst 0, 1) := by decide +kernel
theorem dX5_pick_7 : decode cX5_pick 7 = .ok (.istore_n 3, 1) := by decide +kernel
theorem dX5_pick_8 : decode cX5_pick 8 = .ok (.iload_n 3, 1) := by decide +kernel
theorem dX5_pick_9 : decode cX5_pick 9 = .ok (.aload_n 0, 1) := by decide +kernel
theorem dX5_pick_10 : decode cX5_pick 10 = .ok (.getfield 43, 3) := by decide +kernel
theorem dX5_pick_13 : decode cX5_pick 13 = .ok (.invokevirtual 106, 3) := by decide +kernel
theorem dX5_pick_16 : decode cX5_pick 16 = .ok (.if_icmp .ge 32, 3) := by decide +kernel
theorem dX5_pick_19 : decode cX5_pick 19 = .ok (.aload_n 2, 1) := by decide +kernel
theorem dX5_pick_20 : decode cX5_pick 20 = .ok (.iload_n 3, 1) := by decide +kernel
theorem dX5_pick_21 : decode cX5_pick 21 = .ok (.invokevirtual 184, 3) := by decide +kernel
theorem dX5_pick_24 : decode cX5_pick 24 = .ok (.ifCond .eq 18, 3) := by decide +kernel
theorem dX5_pick_27 : decode cX5_pick 27 = .ok (.aload_n 0, 1) := by decide +kernel
theorem dX5_pick_28 : decode cX5_pick 28 = .ok (.aload_n 0, 1) := by decide +kernel
theorem dX5_pick_29 : decode cX5_pick 29 = .ok (.getfield 43, 3) := by decide +kernel
theorem dX5_pick_32 : decode cX5_pick 32 = .ok (.iload_n 3, 1) := by decide +kernel
theorem dX5_pick_33 : decode cX5_pick 33 = .ok (.invokevirtual 165, 3) := by decide +kernel
theorem dX5_pick_36 : decode cX5_pick 36 = .ok (.checkcast 111, 3) := by decide +kernel
theorem dX5_pick_39 : decode cX5_pick 39 = .ok (.invokevirtual 189, 3) := by decide +kernel
theorem dX5_pick_42 : decode cX5_pick 42 = .ok (.iinc 3 1, 3) := by decide +kernel
theorem dX5_pick_45 : decode cX5_pick 45 = .ok (.goto (-37), 3) := by decide +kernel
theorem dX5_pick_48 : decode cX5_pick 48 = .ok (.aload_n 0, 1) := by decide +kernel
theorem dX5_pick_49 : decode cX5_pick 49 = .ok (.dup, 1) := by decide +kernel
theorem dX5_pick_50 : decode cX5_pick 50 = .ok (.getfield 193, 3) := by decide +kernel
theorem dX5_pick_53 : decode cX5_pick 53 = .ok (.aload_n 2, 1) := by decide +kernel
theorem dX5_pick_54 : decode cX5_pick 54 = .ok (.getfield 196, 3) := by decide +kernel
theorem dX5_pick_57 : decode cX5_pick 57 = .ok (.iadd, 1) := by decide +kernel
theorem dX5_pick_58 : decode cX5_pick 58 = .ok (.putfield 193, 3) := by decide +kernel
theorem dX5_pick_61 : decode cX5_pick 61 = .ok (.aload_n 0, 1) := by decide +kernel
theorem dX5_pick_62 : decode cX5_pick 62 = .ok (.getfield 36, 3) := by decide +kernel
theorem dX5_pick_65 : decode cX5_pick 65 = .ok (.iload_n 1, 1) := by decide +kernel
theorem dX5_pick_66 : decode cX5_pick 66 = .ok (.invokevirtual 199, 3) := by decide +kernel
theorem dX5_pick_69 : decode cX5_pick 69 = .ok (.aload_n 2, 1) := by decide +kernel
theorem dX5_pick_70 : decode cX5_pick 70 = .ok (.getfield 196, 3) := by decide +kernel
theorem dX5_pick_73 : decode cX5_pick 73 = .ok (.ireturn, 1) := by decide +kernel
set_option maxRecDepth 20000 in
theorem ggX5_batches_X4_size : GoodIn wsX5_batches wsX4_size := goodIn_r _ [6, 7, 8, 9, 10, 11, 12, 13, 21, 22, 23, 24, 25, 26] (by decide +kernel) (by decide +kernel)
set_option maxRecDepth 20000 in
theorem gX5_batches_X4_size : GoodIn wsX5_batches (wsV RX5 179 RX4 yX4_size wsX4_size) := goodIn_app (goodIn_of _ (by decide +kernel)) ggX5_batches_X4_size
theorem dX5_batches_0 : decode cX5_batches 0 = .ok (.aload_n 0, 1) := by decide +kernel
theorem dX5_batches_1 : decode cX5_batches 1 = .ok (.getfield 36, 3) := by decide +kernel
theorem dX5_batches_4 : decode cX5_batches 4 = .ok (.invokevirtual 179, 3) := by decide +kernel
theorem dX5_batches_7 : decode cX5_batches 7 = .ok (.ireturn, 1) := by decide +kernel
set_option maxRecDepth 20000 in
theorem ggX5_batchOf_X5_orderNumbered : GoodIn wsX5_batchOf wsX5_orderNumbered := goodIn_ca (goodIn_r _ [6, 7, 8, 9, 10, 11, 12, 13, 14, 15, 16, 17, 18, 19, 20, 21, 22, 23, 24, 25, 26, 27, 28, 29, 30, 31, 32, 33, 49, 50, 51, 52, 53, 54, 55, 56, 57, 58] (by decide +kernel) (by decide +kernel)) (goodIn_sub (fun _ h => List.mem_cons_of_mem _ (List.mem_append_right _ h)) (by decide +kernel))
set_option maxRecDepth 20000 in
theorem gX5_batchOf_X5_orderNumbered : GoodIn wsX5_batchOf (wsV RX5 119 RX5 yX5_orderNumbered wsX5_orderNumbered) := goodIn_app (goodIn_of _ (by decide +kernel)) ggX5_batchOf_X5_orderNumbered
set_option maxRecDepth 20000 in
theorem ggX5_batchOf_X4_batchWith : GoodIn wsX5_batchOf wsX4_batchWith := goodIn_r _ [38, 39, 40, 41, 12, 13, 14, 15, 16, 42, 18, 19, 20, 21, 22, 23, 24, 25, 26, 27, 28, 29, 30, 31, 32, 33, 43, 44, 45, 46, 47, 48, 59, 60, 61, 56, 57, 58, 62, 63, 64, 65, 66, 67] (by decide +kernel) (by decide +kernel)
set_option maxRecDepth 20000 in
theorem gX5_batchOf_X4_batchWith : GoodIn wsX5_batchOf (wsV RX5 202 RX4 yX4_batchWith wsX4_batchWith) := goodIn_app (goodIn_of _ (by decide +kernel)) ggX5_batchOf_X4_batchWith
theorem dX5_batchOf_0 : decode cX5_batchOf 0 = .ok (.aload_n 0, 1) := by decide +kernel
theorem dX5_batchOf_1 : decode cX5_batchOf 1 = .ok (.iload_n 1, 1) := by decide +kernel
theorem dX5_batchOf_2 : decode cX5_batchOf 2 = .ok (.invokevirtual 119, 3) := by decide +kernel
theorem dX5_batchOf_5 : decode cX5_batchOf 5 = .ok (.pop, 1) := by decide +kernel
theorem dX5_batchOf_6 : decode cX5_batchOf 6 = .ok (.aload_n 0, 1) := by decide +kernel
theorem dX5_batchOf_7 : decode cX5_batchOf 7 = .ok (.getfield 36, 3) := by decide +kernel
theorem dX5_batchOf_10 : decode cX5_batchOf 10 = .ok (.iload_n 1, 1) := by decide +kernel
theorem dX5_batchOf_11 : decode cX5_batchOf 11 = .ok (.invokevirtual 202, 3) := by decide +kernel
theorem dX5_batchOf_14 : decode cX5_batchOf 14 = .ok (.ireturn, 1) := by decide +kernel
set_option maxRecDepth 20000 in
theorem ggX5_linesOf_X5_batchNumbered : GoodIn wsX5_linesOf wsX5_batchNumbered := goodIn_ca (goodIn_r _ [5, 6, 7, 8, 9, 10, 11, 12, 13, 14, 15, 16, 17, 18, 19, 20, 21, 22, 23, 24, 25, 26, 27, 28, 29, 30, 31, 32, 33, 34, 35, 36, 37, 38, 45, 46, 47, 48, 49, 50, 51, 52, 53, 54, 55, 56, 57] (by decide +kernel) (by decide +kernel)) (goodIn_sub (fun _ h => List.mem_cons_of_mem _ (List.mem_append_right _ h)) (by decide +kernel))
set_option maxRecDepth 20000 in
theorem gX5_linesOf_X5_batchNumbered : GoodIn wsX5_linesOf (wsV RX5 180 RX5 yX5_batchNumbered wsX5_batchNumbered) := goodIn_app (goodIn_of _ (by decide +kernel)) ggX5_linesOf_X5_batchNumbered
theorem dX5_linesOf_0 : decode cX5_linesOf 0 = .ok (.aload_n 0, 1) := by decide +kernel
theorem dX5_linesOf_1 : decode cX5_linesOf 1 = .ok (.iload_n 1, 1) := by decide +kernel
theorem dX5_linesOf_2 : decode cX5_linesOf 2 = .ok (.invokevirtual 180, 3) := by decide +kernel
theorem dX5_linesOf_5 : decode cX5_linesOf 5 = .ok (.getfield 205, 3) := by decide +kernel
theorem dX5_linesOf_8 : decode cX5_linesOf 8 = .ok (.ireturn, 1) := by decide +kernel
set_option maxRecDepth 20000 in
theorem ggX5_lengthOf_X5_batchNumbered : GoodIn wsX5_lengthOf wsX5_batchNumbered := goodIn_ca (goodIn_r _ [5, 6, 7, 8, 9, 10, 11, 12, 13, 14, 15, 16, 17, 18, 19, 20, 21, 22, 23, 24, 25, 26, 27, 28, 29, 30, 31, 32, 33, 34, 35, 36, 37, 38, 45, 46, 47, 48, 49, 50, 51, 52, 53, 54, 55, 56, 57] (by decide +kernel) (by decide +kernel)) (goodIn_sub (fun _ h => List.mem_cons_of_mem _ (List.mem_append_right _ h)) (by decide +kernel))
set_option maxRecDepth 20000 in
theorem gX5_lengthOf_X5_batchNumbered : GoodIn wsX5_lengthOf (wsV RX5 180 RX5 yX5_batchNumbered wsX5_batchNumbered) := goodIn_app (goodIn_of _ (by decide +kernel)) ggX5_lengthOf_X5_batchNumbered
theorem dX5_lengthOf_0 : decode cX5_lengthOf 0 = .ok (.aload_n 0, 1) := by decide +kernel
theorem dX5_lengthOf_1 : decode cX5_lengthOf 1 = .ok (.iload_n 1, 1) := by decide +kernel
theorem dX5_lengthOf_2 : decode cX5_lengthOf 2 = .ok (.invokevirtual 180, 3) := by decide +kernel
theorem dX5_lengthOf_5 : decode cX5_lengthOf 5 = .ok (.getfield 196, 3) := by decide +kernel
theorem dX5_lengthOf_8 : decode cX5_lengthOf 8 = .ok (.ireturn, 1) := by decide +kernel
set_option maxRecDepth 20000 in
theorem ggX5_lengthByTrying_X5_batchNumbered : GoodIn wsX5_lengthByTrying wsX5_batchNumbered := goodIn_ca (goodIn_r _ [8, 9, 10, 11, 12, 13, 14, 15, 16, 17, 18, 19, 20, 21, 22, 23, 24, 25, 26, 27, 28, 29, 30, 31, 32, 33, 34, 35, 36, 37, 38, 39, 40, 41, 95, 96, 97, 98, 99, 100, 101, 102, 103, 104, 105, 106, 107] (by decide +kernel) (by decide +kernel)) (goodIn_sub (fun _ h => List.mem_cons_of_mem _ (List.mem_append_right _ h)) (by decide +kernel))
set_option maxRecDepth 20000 in
theorem gX5_lengthByTrying_X5_batchNumbered : GoodIn wsX5_lengthByTrying (wsV RX5 180 RX5 yX5_batchNumbered wsX5_batchNumbered) := goodIn_app (goodIn_of _ (by decide +kernel)) ggX5_lengthByTrying_X5_batchNumbered
set_option maxRecDepth 20000 in
theorem ggX5_lengthByTrying_X2_leastByTrying : GoodIn wsX5_lengthByTrying wsX2_leastByTrying := goodIn_r _ [46, 47, 48, 49, 50, 45, 51, 52, 53, 54, 55, 56, 7, 57, 58, 59, 60, 61, 62, 63, 64, 65, 66, 67, 68, 69, 70, 71, 72, 73, 74, 75, 76, 77, 78, 79, 80, 81, 82, 83, 84, 85, 86, 87, 88, 108, 109, 110, 111, 112, 113, 114, 115, 116, 117, 118, 119] (by decide +kernel) (by decide +kernel)
set_option maxRecDepth 20000 in
theorem gX5_lengthByTrying_X2_leastByTrying : GoodIn wsX5_lengthByTrying (wsV RX5 214 RX2 yX2_leastByTrying wsX2_leastByTrying) := goodIn_app (goodIn_of _ (by decide +kernel)) ggX5_lengthByTrying_X2_leastByTrying
theorem dX5_lengthByTrying_0 : decode cX5_lengthByTrying 0 = .ok (.aload_n 0, 1) := by decide +kernel
theorem dX5_lengthByTrying_1 : decode cX5_lengthByTrying 1 = .ok (.iload_n 1, 1) := by decide +kernel
theorem dX5_lengthByTrying_2 : decode cX5_lengthByTrying 2 = .ok (.invokevirtual 180, 3) := by decide +kernel
theorem dX5_lengthByTrying_5 : decode cX5_lengthByTrying 5 = .ok (.astore_n 2, 1) := by decide +kernel
theorem dX5_lengthByTrying_6 : decode cX5_lengthByTrying 6 = .ok (.aload_n 2, 1) := by decide +kernel
theorem dX5_lengthByTrying_7 : decode cX5_lengthByTrying 7 = .ok (.getfield 208, 3) := by decide +kernel
theorem dX5_lengthByTrying_10 : decode cX5_lengthByTrying 10 = .ok (.arraylength, 1) := by decide +kernel
theorem dX5_lengthByTrying_11 : decode cX5_lengthByTrying 11 = .ok (.bipush 7, 2) := by decide +kernel
theorem dX5_lengthByTrying_13 : decode cX5_lengthByTrying 13 = .ok (.if_icmp .le 13, 3) := by decide +kernel
theorem dX5_lengthByTrying_16 : decode cX5_lengthByTrying 16 = .ok (.new 77, 3) := by decide +kernel
theorem dX5_lengthByTrying_19 : decode cX5_lengthByTrying 19 = .ok (.dup, 1) := by decide +kernel
theorem dX5_lengthByTrying_20 : decode cX5_lengthByTrying 20 = .ok (.ldc 211, 2) := by decide +kernel
theorem dX5_lengthByTrying_22 : decode cX5_lengthByTrying 22 = .ok (.invokespecial 81, 3) := by decide +kernel
theorem dX5_lengthByTrying_25 : decode cX5_lengthByTrying 25 = .ok (.athrow, 1) := by decide +kernel
theorem dX5_lengthByTrying_26 : decode cX5_lengthByTrying 26 = .ok (.aload_n 0, 1) := by decide +kernel
theorem dX5_lengthByTrying_27 : decode cX5_lengthByTrying 27 = .ok (.getfield 27, 3) := by decide +kernel
theorem dX5_lengthByTrying_30 : decode cX5_lengthByTrying 30 = .ok (.aload_n 2, 1) := by decide +kernel
theorem dX5_lengthByTrying_31 : decode cX5_lengthByTrying 31 = .ok (.getfield 213, 3) := by decide +kernel
theorem dX5_lengthByTrying_34 : decode cX5_lengthByTrying 34 = .ok (.invokevirtual 214, 3) := by decide +kernel
theorem dX5_lengthByTrying_37 : decode cX5_lengthByTrying 37 = .ok (.ireturn, 1) := by decide +kernel
set_option maxRecDepth 20000 in
theorem ggX5_lengthThrough_X5_batchNumbered : GoodIn wsX5_lengthThrough wsX5_batchNumbered := goodIn_ca (goodIn_r _ [6, 7, 8, 9, 10, 11, 12, 13, 14, 15, 16, 17, 18, 19, 20, 21, 22, 23, 24, 25, 26, 27, 28, 29, 30, 31, 32, 33, 34, 35, 36, 37, 38, 39, 82, 83, 84, 85, 86, 87, 88, 95, 96, 97, 98, 99, 100] (by decide +kernel) (by decide +kernel)) (goodIn_sub (fun _ h => List.mem_cons_of_mem _ (List.mem_append_right _ h)) (by decide +kernel))
set_option maxRecDepth 20000 in
theorem gX5_lengthThrough_X5_batchNumbered : GoodIn wsX5_lengthThrough (wsV RX5 180 RX5 yX5_batchNumbered wsX5_batchNumbered) := goodIn_app (goodIn_of _ (by decide +kernel)) ggX5_lengthThrough_X5_batchNumbered
set_option maxRecDepth 20000 in
theorem ggX5_lengthThrough_X2_throughAisles : GoodIn wsX5_lengthThrough wsX2_throughAisles := goodIn_r _ [44, 45, 46, 47, 48, 49, 50, 43, 51, 52, 53, 5, 54, 55, 56, 57, 58, 59, 60, 61, 62, 63, 64, 65, 66, 67, 68, 69, 70, 71, 72, 73, 74, 75, 76, 77, 78, 79, 80, 81, 101, 102, 103, 104, 105, 106, 107, 108, 109, 110, 111, 112] (by decide +kernel) (by decide +kernel)
set_option maxRecDepth 20000 in
theorem gX5_lengthThrough_X2_throughAisles : GoodIn wsX5_lengthThrough (wsV RX5 217 RX2 yX2_throughAisles wsX2_throughAisles) := goodIn_app (goodIn_of _ (by decide +kernel)) ggX5_lengthThrough_X2_throughAisles
theorem dX5_lengthThrough_0 : decode cX5_lengthThrough 0 = .ok (.aload_n 0, 1) := by decide +kernel
theorem dX5_lengthThrough_1 : decode cX5_lengthThrough 1 = .ok (.getfield 27, 3) := by decide +kernel
theorem dX5_lengthThrough_4 : decode cX5_lengthThrough 4 = .ok (.aload_n 0, 1) := by decide +kernel
theorem dX5_lengthThrough_5 : decode cX5_lengthThrough 5 = .ok (.iload_n 1, 1) := by decide +kernel
theorem dX5_lengthThrough_6 : decode cX5_lengthThrough 6 = .ok (.invokevirtual 180, 3) := by decide +kernel
theorem dX5_lengthThrough_9 : decode cX5_lengthThrough 9 = .ok (.getfield 213, 3) := by decide +kernel
theorem dX5_lengthThrough_12 : decode cX5_lengthThrough 12 = .ok (.invokevirtual 217, 3) := by decide +kernel
theorem dX5_lengthThrough_15 : decode cX5_lengthThrough 15 = .ok (.ireturn, 1) := by decide +kernel
set_option maxRecDepth 20000 in
theorem ggX5_stops_X5_batchNumbered : GoodIn wsX5_stops wsX5_batchNumbered := goodIn_ca (goodIn_r _ [5, 6, 7, 8, 9, 10, 11, 12, 13, 14, 15, 16, 17, 18, 19, 20, 21, 22, 23, 24, 25, 26, 27, 28, 29, 30, 31, 32, 33, 34, 35, 36, 37, 38, 45, 46, 47, 48, 49, 50, 51, 52, 53, 54, 55, 56, 57] (by decide +kernel) (by decide +kernel)) (goodIn_sub (fun _ h => List.mem_cons_of_mem _ (List.mem_append_right _ h)) (by decide +kernel))
set_option maxRecDepth 20000 in
theorem gX5_stops_X5_batchNumbered : GoodIn wsX5_stops (wsV RX5 180 RX5 yX5_batchNumbered wsX5_batchNumbered) := goodIn_app (goodIn_of _ (by decide +kernel)) ggX5_stops_X5_batchNumbered
theorem dX5_stops_0 : decode cX5_stops 0 = .ok (.aload_n 0, 1) := by decide +kernel
theorem dX5_stops_1 : decode cX5_stops 1 = .ok (.iload_n 1, 1) := by decide +kernel
theorem dX5_stops_2 : decode cX5_stops 2 = .ok (.invokevirtual 180, 3) := by decide +kernel
theorem dX5_stops_5 : decode cX5_stops 5 = .ok (.getfield 208, 3) := by decide +kernel
theorem dX5_stops_8 : decode cX5_stops 8 = .ok (.arraylength, 1) := by decide +kernel
theorem dX5_stops_9 : decode cX5_stops 9 = .ok (.ireturn, 1) := by decide +kernel
set_option maxRecDepth 20000 in
theorem ggX5_stopAt_X5_batchNumbered : GoodIn wsX5_stopAt wsX5_batchNumbered := goodIn_ca (goodIn_r _ [7, 1, 2, 8, 9, 10, 11, 12, 13, 14, 15, 16, 17, 18, 19, 20, 21, 22, 23, 24, 25, 26, 27, 28, 29, 30, 31, 32, 33, 34, 35, 36, 37, 38, 45, 46, 47, 48, 49, 50, 51, 52, 53, 54, 55, 56, 57] (by decide +kernel) (by decide +kernel)) (goodIn_sub (fun _ h => List.mem_cons_of_mem _ (List.mem_append_right _ h)) (by decide +kernel))
set_option maxRecDepth 20000 in
theorem gX5_stopAt_X5_batchNumbered : GoodIn wsX5_stopAt (wsV RX5 180 RX5 yX5_batchNumbered wsX5_batchNumbered) := goodIn_app (goodIn_of _ (by decide +kernel)) ggX5_stopAt_X5_batchNumbered
theorem dX5_stopAt_0 : decode cX5_stopAt 0 = .ok (.aload_n 0, 1) := by decide +kernel
theorem dX5_stopAt_1 : decode cX5_stopAt 1 = .ok (.iload_n 1, 1) := by decide +kernel
theorem dX5_stopAt_2 : decode cX5_stopAt 2 = .ok (.invokevirtual 180, 3) := by decide +kernel
theorem dX5_stopAt_5 : decode cX5_stopAt 5 = .ok (.getfield 208, 3) := by decide +kernel
theorem dX5_stopAt_8 : decode cX5_stopAt 8 = .ok (.astore_n 3, 1) := by decide +kernel
theorem dX5_stopAt_9 : decode cX5_stopAt 9 = .ok (.iload_n 2, 1) := by decide +kernel
theorem dX5_stopAt_10 : decode cX5_stopAt 10 = .ok (.ifCond .lt 9, 3) := by decide +kernel
theorem dX5_stopAt_13 : decode cX5_stopAt 13 = .ok (.iload_n 2, 1) := by decide +kernel
theorem dX5_stopAt_14 : decode cX5_stopAt 14 = .ok (.aload_n 3, 1) := by decide +kernel
theorem dX5_stopAt_15 : decode cX5_stopAt 15 = .ok (.arraylength, 1) := by decide +kernel
theorem dX5_stopAt_16 : decode cX5_stopAt 16 = .ok (.if_icmp .lt 13, 3) := by decide +kernel
theorem dX5_stopAt_19 : decode cX5_stopAt 19 = .ok (.new 62, 3) := by decide +kernel
theorem dX5_stopAt_22 : decode cX5_stopAt 22 = .ok (.dup, 1) := by decide +kernel
theorem dX5_stopAt_23 : decode cX5_stopAt 23 = .ok (.ldc 220, 2) := by decide +kernel
theorem dX5_stopAt_25 : decode cX5_stopAt 25 = .ok (.invokespecial 66, 3) := by decide +kernel
theorem dX5_stopAt_28 : decode cX5_stopAt 28 = .ok (.athrow, 1) := by decide +kernel
theorem dX5_stopAt_29 : decode cX5_stopAt 29 = .ok (.aload_n 3, 1) := by decide +kernel
theorem dX5_stopAt_30 : decode cX5_stopAt 30 = .ok (.iload_n 2, 1) := by decide +kernel
theorem dX5_stopAt_31 : decode cX5_stopAt 31 = .ok (.iaload, 1) := by decide +kernel
theorem dX5_stopAt_32 : decode cX5_stopAt 32 = .ok (.ireturn, 1) := by decide +kernel
set_option maxRecDepth 20000 in
theorem ggX5_inAisle_X3_hasAisle : GoodIn wsX5_inAisle wsX3_hasAisle := goodIn_r _ [9, 10, 54, 55, 56, 57, 58, 59, 60] (by decide +kernel) (by decide +kernel)
set_option maxRecDepth 20000 in
theorem gX5_inAisle_X3_hasAisle : GoodIn wsX5_inAisle (wsV RX5 55 RX3 yX3_hasAisle wsX3_hasAisle) := goodIn_app (goodIn_of _ (by decide +kernel)) ggX5_inAisle_X3_hasAisle
set_option maxRecDepth 20000 in
theorem ggX5_inAisle_X4_countIn : GoodIn wsX5_inAisle wsX4_countIn := goodIn_r _ [15, 16, 17, 18, 19, 20, 21, 22, 23, 24, 25, 26, 27, 28, 29, 30, 31, 32, 33, 34, 35, 36, 37, 38, 39, 40, 41, 42, 43, 44, 45, 46, 61, 62, 63, 64, 65, 66, 67, 68, 69, 70, 71, 72] (by decide +kernel) (by decide +kernel)
set_option maxRecDepth 20000 in
theorem gX5_inAisle_X4_countIn : GoodIn wsX5_inAisle (wsV RX5 224 RX4 yX4_countIn wsX4_countIn) := goodIn_app (goodIn_of _ (by decide +kernel)) ggX5_inAisle_X4_countIn
theorem dX5_inAisle_0 : decode cX5_inAisle 0 = .ok (.aload_n 0, 1) := by decide +kernel
theorem dX5_inAisle_1 : decode cX5_inAisle 1 = .ok (.getfield 18, 3) := by decide +kernel
theorem dX5_inAisle_4 : decode cX5_inAisle 4 = .ok (.iload_n 1, 1) := by decide +kernel
theorem dX5_inAisle_5 : decode cX5_inAisle 5 = .ok (.invokevirtual 55, 3) := by decide +kernel
theorem dX5_inAisle_8 : decode cX5_inAisle 8 = .ok (.ifCond .ne 13, 3) := by decide +kernel
theorem dX5_inAisle_11 : decode cX5_inAisle 11 = .ok (.new 62, 3) := by decide +kernel
theorem dX5_inAisle_14 : decode cX5_inAisle 14 = .ok (.dup, 1) := by decide +kernel
theorem dX5_inAisle_15 : decode cX5_inAisle 15 = .ok (.ldc 222, 2) := by decide +kernel
theorem dX5_inAisle_17 : decode cX5_inAisle 17 = .ok (.invokespecial 66, 3) := by decide +kernel
theorem dX5_inAisle_20 : decode cX5_inAisle 20 = .ok (.athrow, 1) := by decide +kernel
theorem dX5_inAisle_21 : decode cX5_inAisle 21 = .ok (.aload_n 0, 1) := by decide +kernel
theorem dX5_inAisle_22 : decode cX5_inAisle 22 = .ok (.getfield 36, 3) := by decide +kernel
theorem dX5_inAisle_25 : decode cX5_inAisle 25 = .ok (.iload_n 1, 1) := by decide +kernel
theorem dX5_inAisle_26 : decode cX5_inAisle 26 = .ok (.invokevirtual 224, 3) := by decide +kernel
theorem dX5_inAisle_29 : decode cX5_inAisle 29 = .ok (.ireturn, 1) := by decide +kernel
theorem dX5_walked_0 : decode cX5_walked 0 = .ok (.aload_n 0, 1) := by decide +kernel
theorem dX5_walked_1 : decode cX5_walked 1 = .ok (.getfield 193, 3) := by decide +kernel
theorem dX5_walked_4 : decode cX5_walked 4 = .ok (.ireturn, 1) := by decide +kernel
theorem dX5_share_0 : decode cX5_share 0 = .ok (.aload_n 0, 1) := by decide +kernel
theorem dX5_share_1 : decode cX5_share 1 = .ok (.getfield 227, 3) := by decide +kernel
theorem dX5_share_4 : decode cX5_share 4 = .ok (.ifCond .ne 7, 3) := by decide +kernel
theorem dX5_share_7 : decode cX5_share 7 = .ok (.dconst 1, 1) := by decide +kernel
theorem dX5_share_8 : decode cX5_share 8 = .ok (.goto 14, 3) := by decide +kernel
theorem dX5_share_11 : decode cX5_share 11 = .ok (.aload_n 0, 1) := by decide +kernel
theorem dX5_share_12 : decode cX5_share 12 = .ok (.getfield 193, 3) := by decide +kernel
theorem dX5_share_15 : decode cX5_share 15 = .ok (.i2d, 1) := by decide +kernel
theorem dX5_share_16 : decode cX5_share 16 = .ok (.aload_n 0, 1) := by decide +kernel
theorem dX5_share_17 : decode cX5_share 17 = .ok (.getfield 227, 3) := by decide +kernel
theorem dX5_share_20 : decode cX5_share 20 = .ok (.i2d, 1) := by decide +kernel
theorem dX5_share_21 : decode cX5_share 21 = .ok (.ddiv, 1) := by decide +kernel
theorem dX5_share_22 : decode cX5_share 22 = .ok (.dreturn, 1) := by decide +kernel
theorem dX5_within_0 : decode cX5_within 0 = .ok (.iconst 1, 1) := by decide +kernel
theorem dX5_within_1 : decode cX5_within 1 = .ok (.iload_n 0, 1) := by decide +kernel
theorem dX5_within_2 : decode cX5_within 2 = .ok (.iload_n 1, 1) := by decide +kernel
theorem dX5_within_3 : decode cX5_within 3 = .ok (.invokestatic 230, 3) := by decide +kernel
theorem dX5_within_6 : decode cX5_within 6 = .ok (.invokestatic 235, 3) := by decide +kernel
theorem dX5_within_9 : decode cX5_within 9 = .ok (.ireturn, 1) := by decide +kernel
theorem dX5_isIn_0 : decode cX5_isIn 0 = .ok (.iload_n 0, 1) := by decide +kernel
theorem dX5_isIn_1 : decode cX5_isIn 1 = .ok (.iload_n 1, 1) := by decide +kernel
theorem dX5_isIn_2 : decode cX5_isIn 2 = .ok (.ishr, 1) := by decide +kernel
theorem dX5_isIn_3 : decode cX5_isIn 3 = .ok (.iconst 1, 1) := by decide +kernel
theorem dX5_isIn_4 : decode cX5_isIn 4 = .ok (.iand, 1) := by decide +kernel
theorem dX5_isIn_5 : decode cX5_isIn 5 = .ok (.ifCond .eq 7, 3) := by decide +kernel
theorem dX5_isIn_8 : decode cX5_isIn 8 = .ok (.iconst 1, 1) := by decide +kernel
theorem dX5_isIn_9 : decode cX5_isIn 9 = .ok (.goto 4, 3) := by decide +kernel
theorem dX5_isIn_12 : decode cX5_isIn 12 = .ok (.iconst 0, 1) := by decide +kernel
theorem dX5_isIn_13 : decode cX5_isIn 13 = .ok (.ireturn, 1) := by decide +kernel
theorem dX5_checkProduct_0 : decode cX5_checkProduct 0 = .ok (.iload_n 0, 1) := by decide +kernel
theorem dX5_checkProduct_1 : decode cX5_checkProduct 1 = .ok (.ifCond .lt 9, 3) := by decide +kernel
theorem dX5_checkProduct_4 : decode cX5_checkProduct 4 = .ok (.iload_n 0, 1) := by decide +kernel
theorem dX5_checkProduct_5 : decode cX5_checkProduct 5 = .ok (.bipush 20, 2) := by decide +kernel
theorem dX5_checkProduct_7 : decode cX5_checkProduct 7 = .ok (.if_icmp .lt 13, 3) := by decide +kernel
theorem dX5_checkProduct_10 : decode cX5_checkProduct 10 = .ok (.new 62, 3) := by decide +kernel
theorem dX5_checkProduct_13 : decode cX5_checkProduct 13 = .ok (.dup, 1) := by decide +kernel
theorem dX5_checkProduct_14 : decode cX5_checkProduct 14 = .ok (.ldc 238, 2) := by decide +kernel
theorem dX5_checkProduct_16 : decode cX5_checkProduct 16 = .ok (.invokespecial 66, 3) := by decide +kernel
theorem dX5_checkProduct_19 : decode cX5_checkProduct 19 = .ok (.athrow, 1) := by decide +kernel
theorem dX5_checkProduct_20 : decode cX5_checkProduct 20 = .ok (.return_, 1) := by decide +kernel
theorem dX5_checkTime_0 : decode cX5_checkTime 0 = .ok (.iload_n 0, 1) := by decide +kernel
theorem dX5_checkTime_1 : decode cX5_checkTime 1 = .ok (.ifCond .lt 10, 3) := by decide +kernel
theorem dX5_checkTime_4 : decode cX5_checkTime 4 = .ok (.iload_n 0, 1) := by decide +kernel
theorem dX5_checkTime_5 : decode cX5_checkTime 5 = .ok (.sipush 999, 3) := by decide +kernel
theorem dX5_checkTime_8 : decode cX5_checkTime 8 = .ok (.if_icmp .le 13, 3) := by decide +kernel
theorem dX5_checkTime_11 : decode cX5_checkTime 11 = .ok (.new 123, 3) := by decide +kernel
theorem dX5_checkTime_14 : decode cX5_checkTime 14 = .ok (.dup, 1) := by decide +kernel
theorem dX5_checkTime_15 : decode cX5_checkTime 15 = .ok (.ldc 240, 2) := by decide +kernel
theorem dX5_checkTime_17 : decode cX5_checkTime 17 = .ok (.invokespecial 127, 3) := by decide +kernel
theorem dX5_checkTime_20 : decode cX5_checkTime 20 = .ok (.athrow, 1) := by decide +kernel
theorem dX5_checkTime_21 : decode cX5_checkTime 21 = .ok (.return_, 1) := by decide +kernel
set_option maxRecDepth 20000 in
theorem ggX5_orderNumbered_Jx4a65c_size_8abf5 : GoodIn wsX5_orderNumbered wsJx4a65c_size_8abf5 := goodIn_r _ [9, 10, 35, 36, 37] (by decide +kernel) (by decide +kernel)
set_option maxRecDepth 20000 in
theorem gX5_orderNumbered_Jx4a65c_size_8abf5 : GoodIn wsX5_orderNumbered (wsV RX5 106 RJx4a65c yJx4a65c_size_8abf5 wsJx4a65c_size_8abf5) := goodIn_app (goodIn_of _ (by decide +kernel)) ggX5_orderNumbered_Jx4a65c_size_8abf5
set_option maxRecDepth 20000 in
theorem ggX5_orderNumbered_Jx4a65c_get_915e3 : GoodIn wsX5_orderNumbered wsJx4a65c_get_915e3 := goodIn_r _ [14, 10, 15, 16, 17, 18, 19, 20, 21, 22, 23, 24, 25, 8, 26, 27, 35, 36, 37] (by decide +kernel) (by decide +kernel)
set_option maxRecDepth 20000 in
theorem gX5_orderNumbered_Jx4a65c_get_915e3 : GoodIn wsX5_orderNumbered (wsV RX5 165 RJx4a65c yJx4a65c_get_915e3 wsJx4a65c_get_915e3) := goodIn_app (goodIn_of _ (by decide +kernel)) ggX5_orderNumbered_Jx4a65c_get_915e3
theorem dX5_orderNumbered_0 : decode cX5_orderNumbered 0 = .ok (.iload_n 1, 1) := by decide +kernel
theorem dX5_orderNumbered_1 : decode cX5_orderNumbered 1 = .ok (.ifCond .lt 14, 3) := by decide +kernel
theorem dX5_orderNumbered_4 : decode cX5_orderNumbered 4 = .ok (.iload_n 1, 1) := by decide +kernel
theorem dX5_orderNumbered_5 : decode cX5_orderNumbered 5 = .ok (.aload_n 0, 1) := by decide +kernel
theorem dX5_orderNumbered_6 : decode cX5_orderNumbered 6 = .ok (.getfield 43, 3) := by decide +kernel
theorem dX5_orderNumbered_9 : decode cX5_orderNumbered 9 = .ok (.invokevirtual 106, 3) := by decide +kernel
theorem dX5_orderNumbered_12 : decode cX5_orderNumbered 12 = .ok (.if_icmp .lt 13, 3) := by decide +kernel
theorem dX5_orderNumbered_15 : decode cX5_orderNumbered 15 = .ok (.new 62, 3) := by decide +kernel
theorem dX5_orderNumbered_18 : decode cX5_orderNumbered 18 = .ok (.dup, 1) := by decide +kernel
theorem dX5_orderNumbered_19 : decode cX5_orderNumbered 19 = .ok (.ldc 242, 2) := by decide +kernel
theorem dX5_orderNumbered_21 : decode cX5_orderNumbered 21 = .ok (.invokespecial 66, 3) := by decide +kernel
theorem dX5_orderNumbered_24 : decode cX5_orderNumbered 24 = .ok (.athrow, 1) := by decide +kernel
theorem dX5_orderNumbered_25 : decode cX5_orderNumbered 25 = .ok (.aload_n 0, 1) := by decide +kernel
theorem dX5_orderNumbered_26 : decode cX5_orderNumbered 26 = .ok (.getfield 43, 3) := by decide +kernel
theorem dX5_orderNumbered_29 : decode cX5_orderNumbered 29 = .ok (.iload_n 1, 1) := by decide +kernel
theorem dX5_orderNumbered_30 : decode cX5_orderNumbered 30 = .ok (.invokevirtual 165, 3) := by decide +kernel
theorem dX5_orderNumbered_33 : decode cX5_orderNumbered 33 = .ok (.checkcast 111, 3) := by decide +kernel
theorem dX5_orderNumbered_36 : decode cX5_orderNumbered 36 = .ok (.areturn, 1) := by decide +kernel
set_option maxRecDepth 20000 in
theorem ggX5_batchNumbered_X4_size : GoodIn wsX5_batchNumbered wsX4_size := goodIn_r _ [9, 10, 11, 12, 13, 14, 15, 16, 41, 42, 43, 44, 45, 46] (by decide +kernel) (by decide +kernel)
set_option maxRecDepth 20000 in
theorem gX5_batchNumbered_X4_size : GoodIn wsX5_batchNumbered (wsV RX5 179 RX4 yX4_size wsX4_size) := goodIn_app (goodIn_of _ (by decide +kernel)) ggX5_batchNumbered_X4_size
set_option maxRecDepth 20000 in
theorem ggX5_batchNumbered_Jx4a65c_get_915e3 : GoodIn wsX5_batchNumbered wsJx4a65c_get_915e3 := goodIn_r _ [20, 16, 21, 22, 23, 24, 25, 26, 27, 28, 29, 30, 31, 14, 32, 33, 44, 45, 46] (by decide +kernel) (by decide +kernel)
set_option maxRecDepth 20000 in
theorem gX5_batchNumbered_Jx4a65c_get_915e3 : GoodIn wsX5_batchNumbered (wsV RX5 165 RJx4a65c yJx4a65c_get_915e3 wsJx4a65c_get_915e3) := goodIn_app (goodIn_of _ (by decide +kernel)) ggX5_batchNumbered_Jx4a65c_get_915e3
theorem dX5_batchNumbered_0 : decode cX5_batchNumbered 0 = .ok (.iload_n 1, 1) := by decide +kernel
theorem dX5_batchNumbered_1 : decode cX5_batchNumbered 1 = .ok (.ifCond .lt 14, 3) := by decide +kernel
theorem dX5_batchNumbered_4 : decode cX5_batchNumbered 4 = .ok (.iload_n 1, 1) := by decide +kernel
theorem dX5_batchNumbered_5 : decode cX5_batchNumbered 5 = .ok (.aload_n 0, 1) := by decide +kernel
theorem dX5_batchNumbered_6 : decode cX5_batchNumbered 6 = .ok (.getfield 36, 3) := by decide +kernel
theorem dX5_batchNumbered_9 : decode cX5_batchNumbered 9 = .ok (.invokevirtual 179, 3) := by decide +kernel
theorem dX5_batchNumbered_12 : decode cX5_batchNumbered 12 = .ok (.if_icmp .lt 13, 3) := by decide +kernel
theorem dX5_batchNumbered_15 : decode cX5_batchNumbered 15 = .ok (.new 62, 3) := by decide +kernel
theorem dX5_batchNumbered_18 : decode cX5_batchNumbered 18 = .ok (.dup, 1) := by decide +kernel
theorem dX5_batchNumbered_19 : decode cX5_batchNumbered 19 = .ok (.ldc 244, 2) := by decide +kernel
theorem dX5_batchNumbered_21 : decode cX5_batchNumbered 21 = .ok (.invokespecial 66, 3) := by decide +kernel
theorem dX5_batchNumbered_24 : decode cX5_batchNumbered 24 = .ok (.athrow, 1) := by decide +kernel
theorem dX5_batchNumbered_25 : decode cX5_batchNumbered 25 = .ok (.aload_n 0, 1) := by decide +kernel
theorem dX5_batchNumbered_26 : decode cX5_batchNumbered 26 = .ok (.getfield 36, 3) := by decide +kernel
theorem dX5_batchNumbered_29 : decode cX5_batchNumbered 29 = .ok (.getfield 246, 3) := by decide +kernel
theorem dX5_batchNumbered_32 : decode cX5_batchNumbered 32 = .ok (.iload_n 1, 1) := by decide +kernel
theorem dX5_batchNumbered_33 : decode cX5_batchNumbered 33 = .ok (.invokevirtual 165, 3) := by decide +kernel
theorem dX5_batchNumbered_36 : decode cX5_batchNumbered 36 = .ok (.checkcast 185, 3) := by decide +kernel
theorem dX5_batchNumbered_39 : decode cX5_batchNumbered 39 = .ok (.areturn, 1) := by decide +kernel
set_option maxRecDepth 20000 in
theorem ggX5_takesLine_X1_countLines : GoodIn wsX5_takesLine wsX1_countLines := goodIn_r _ [6, 7, 8, 9, 10, 11, 12, 13, 14, 15, 16, 17, 18] (by decide +kernel) (by decide +kernel)
set_option maxRecDepth 20000 in
theorem gX5_takesLine_X1_countLines : GoodIn wsX5_takesLine (wsV RX5 141 RX1 yX1_countLines wsX1_countLines) := goodIn_app (goodIn_of _ (by decide +kernel)) ggX5_takesLine_X1_countLines
theorem dX5_takesLine_0 : decode cX5_takesLine 0 = .ok (.aload_n 1, 1) := by decide +kernel
theorem dX5_takesLine_1 : decode cX5_takesLine 1 = .ok (.invokevirtual 141, 3) := by decide +kernel
theorem dX5_takesLine_4 : decode cX5_takesLine 4 = .ok (.istore_n 2, 1) := by decide +kernel
theorem dX5_takesLine_5 : decode cX5_takesLine 5 = .ok (.aload_n 1, 1) := by decide +kernel
theorem dX5_takesLine_6 : decode cX5_takesLine 6 = .ok (.getfield 144, 3) := by decide +kernel
theorem dX5_takesLine_9 : decode cX5_takesLine 9 = .ok (.ifCond .ne 20, 3) := by decide +kernel
theorem dX5_takesLine_12 : decode cX5_takesLine 12 = .ok (.iload_n 2, 1) := by decide +kernel
theorem dX5_takesLine_13 : decode cX5_takesLine 13 = .ok (.iconst 5, 1) := by decide +kernel
theorem dX5_takesLine_14 : decode cX5_takesLine 14 = .ok (.if_icmp .ge 15, 3) := by decide +kernel
theorem dX5_takesLine_17 : decode cX5_takesLine 17 = .ok (.iload_n 2, 1) := by decide +kernel
theorem dX5_takesLine_18 : decode cX5_takesLine 18 = .ok (.aload_n 0, 1) := by decide +kernel
theorem dX5_takesLine_19 : decode cX5_takesLine 19 = .ok (.getfield 47, 3) := by decide +kernel
theorem dX5_takesLine_22 : decode cX5_takesLine 22 = .ok (.if_icmp .ge 7, 3) := by decide +kernel
theorem dX5_takesLine_25 : decode cX5_takesLine 25 = .ok (.iconst 1, 1) := by decide +kernel
theorem dX5_takesLine_26 : decode cX5_takesLine 26 = .ok (.goto 4, 3) := by decide +kernel
theorem dX5_takesLine_29 : decode cX5_takesLine 29 = .ok (.iconst 0, 1) := by decide +kernel
theorem dX5_takesLine_30 : decode cX5_takesLine 30 = .ok (.ireturn, 1) := by decide +kernel
set_option maxRecDepth 20000 in
theorem ggX5_mostLinesToDo_Jx4a65c_size_8abf5 : GoodIn wsX5_mostLinesToDo wsJx4a65c_size_8abf5 := goodIn_r _ [11, 12, 54, 55, 56] (by decide +kernel) (by decide +kernel)
set_option maxRecDepth 20000 in
theorem gX5_mostLinesToDo_Jx4a65c_size_8abf5 : GoodIn wsX5_mostLinesToDo (wsV RX5 106 RJx4a65c yJx4a65c_size_8abf5 wsJx4a65c_size_8abf5) := goodIn_app (goodIn_of _ (by decide +kernel)) ggX5_mostLinesToDo_Jx4a65c_size_8abf5
set_option maxRecDepth 20000 in
theorem ggX5_mostLinesToDo_Jx4a65c_get_915e3 : GoodIn wsX5_mostLinesToDo wsJx4a65c_get_915e3 := goodIn_r _ [16, 12, 17, 18, 19, 20, 21, 22, 23, 24, 25, 26, 27, 10, 28, 29, 54, 55, 56] (by decide +kernel) (by decide +kernel)
set_option maxRecDepth 20000 in
theorem gX5_mostLinesToDo_Jx4a65c_get_915e3 : GoodIn wsX5_mostLinesToDo (wsV RX5 165 RJx4a65c yJx4a65c_get_915e3 wsJx4a65c_get_915e3) := goodIn_app (goodIn_of _ (by decide +kernel)) ggX5_mostLinesToDo_Jx4a65c_get_915e3
set_option maxRecDepth 20000 in
theorem ggX5_mostLinesToDo_X1_countLines : GoodIn wsX5_mostLinesToDo wsX1_countLines := goodIn_r _ [34, 35, 36, 37, 38, 39, 40, 41, 42, 50, 51, 52, 53] (by decide +kernel) (by decide +kernel)
set_option maxRecDepth 20000 in
theorem gX5_mostLinesToDo_X1_countLines : GoodIn wsX5_mostLinesToDo (wsV RX5 141 RX1 yX1_countLines wsX1_countLines) := goodIn_app (goodIn_of _ (by decide +kernel)) ggX5_mostLinesToDo_X1_countLines
theorem dX5_mostLinesToDo_0 : decode cX5_mostLinesToDo 0 = .ok (.iconst 0, 1) := by decide +kernel
theorem dX5_mostLinesToDo_1 : decode cX5_mostLinesToDo 1 = .ok (.istore_n 1, 1) := by decide +kernel
theorem dX5_mostLinesToDo_2 : decode cX5_mostLinesToDo 2 = .ok (.iconst 0, 1) := by decide +kernel
theorem dX5_mostLinesToDo_3 : decode cX5_mostLinesToDo 3 = .ok (.istore_n 2, 1) := by decide +kernel
theorem dX5_mostLinesToDo_4 : decode cX5_mostLinesToDo 4 = .ok (.iload_n 2, 1) := by decide +kernel
theorem dX5_mostLinesToDo_5 : decode cX5_mostLinesToDo 5 = .ok (.aload_n 0, 1) := by decide +kernel
theorem dX5_mostLinesToDo_6 : decode cX5_mostLinesToDo 6 = .ok (.getfield 43, 3) := by decide +kernel
theorem dX5_mostLinesToDo_9 : decode cX5_mostLinesToDo 9 = .ok (.invokevirtual 106, 3) := by decide +kernel
theorem dX5_mostLinesToDo_12 : decode cX5_mostLinesToDo 12 = .ok (.if_icmp .ge 38, 3) := by decide +kernel
theorem dX5_mostLinesToDo_15 : decode cX5_mostLinesToDo 15 = .ok (.aload_n 0, 1) := by decide +kernel
theorem dX5_mostLinesToDo_16 : decode cX5_mostLinesToDo 16 = .ok (.getfield 43, 3) := by decide +kernel
theorem dX5_mostLinesToDo_19 : decode cX5_mostLinesToDo 19 = .ok (.iload_n 2, 1) := by decide +kernel
theorem dX5_mostLinesToDo_20 : decode cX5_mostLinesToDo 20 = .ok (.invokevirtual 165, 3) := by decide +kernel
theorem dX5_mostLinesToDo_23 : decode cX5_mostLinesToDo 23 = .ok (.checkcast 111, 3) := by decide +kernel
theorem dX5_mostLinesToDo_26 : decode cX5_mostLinesToDo 26 = .ok (.astore_n 3, 1) := by decide +kernel
theorem dX5_mostLinesToDo_27 : decode cX5_mostLinesToDo 27 = .ok (.aload_n 3, 1) := by decide +kernel
theorem dX5_mostLinesToDo_28 : decode cX5_mostLinesToDo 28 = .ok (.getfield 144, 3) := by decide +kernel
theorem dX5_mostLinesToDo_31 : decode cX5_mostLinesToDo 31 = .ok (.iconst 2, 1) := by decide +kernel
theorem dX5_mostLinesToDo_32 : decode cX5_mostLinesToDo 32 = .ok (.if_icmp .eq 12, 3) := by decide +kernel
theorem dX5_mostLinesToDo_35 : decode cX5_mostLinesToDo 35 = .ok (.iload_n 1, 1) := by decide +kernel
theorem dX5_mostLinesToDo_36 : decode cX5_mostLinesToDo 36 = .ok (.aload_n 3, 1) := by decide +kernel
theorem dX5_mostLinesToDo_37 : decode cX5_mostLinesToDo 37 = .ok (.invokevirtual 141, 3) := by decide +kernel
theorem dX5_mostLinesToDo_40 : decode cX5_mostLinesToDo 40 = .ok (.invokestatic 235, 3) := by decide +kernel
theorem dX5_mostLinesToDo_43 : decode cX5_mostLinesToDo 43 = .ok (.istore_n 1, 1) := by decide +kernel
theorem dX5_mostLinesToDo_44 : decode cX5_mostLinesToDo 44 = .ok (.iinc 2 1, 3) := by decide +kernel
theorem dX5_mostLinesToDo_47 : decode cX5_mostLinesToDo 47 = .ok (.goto (-43), 3) := by decide +kernel
theorem dX5_mostLinesToDo_50 : decode cX5_mostLinesToDo 50 = .ok (.iload_n 1, 1) := by decide +kernel
theorem dX5_mostLinesToDo_51 : decode cX5_mostLinesToDo 51 = .ok (.ireturn, 1) := by decide +kernel
set_option maxRecDepth 20000 in
theorem ggX5_takesAnyOrder_Jx4a65c_size_8abf5 : GoodIn wsX5_takesAnyOrder wsJx4a65c_size_8abf5 := goodIn_r _ [7, 8, 41, 42, 43] (by decide +kernel) (by decide +kernel)
set_option maxRecDepth 20000 in
theorem gX5_takesAnyOrder_Jx4a65c_size_8abf5 : GoodIn wsX5_takesAnyOrder (wsV RX5 106 RJx4a65c yJx4a65c_size_8abf5 wsJx4a65c_size_8abf5) := goodIn_app (goodIn_of _ (by decide +kernel)) ggX5_takesAnyOrder_Jx4a65c_size_8abf5
set_option maxRecDepth 20000 in
theorem ggX5_takesAnyOrder_Jx4a65c_get_915e3 : GoodIn wsX5_takesAnyOrder wsJx4a65c_get_915e3 := goodIn_r _ [12, 8, 13, 14, 15, 16, 17, 18, 19, 20, 21, 22, 23, 6, 24, 25, 41, 42, 43] (by decide +kernel) (by decide +kernel)
set_option maxRecDepth 20000 in
theorem gX5_takesAnyOrder_Jx4a65c_get_915e3 : GoodIn wsX5_takesAnyOrder (wsV RX5 165 RJx4a65c yJx4a65c_get_915e3 wsJx4a65c_get_915e3) := goodIn_app (goodIn_of _ (by decide +kernel)) ggX5_takesAnyOrder_Jx4a65c_get_915e3
set_option maxRecDepth 20000 in
theorem ggX5_takesAnyOrder_X1_isTakenAt : GoodIn wsX5_takesAnyOrder wsX1_isTakenAt := goodIn_r _ [30, 31, 32, 33, 44, 45, 46, 47] (by decide +kernel) (by decide +kernel)
set_option maxRecDepth 20000 in
theorem gX5_takesAnyOrder_X1_isTakenAt : GoodIn wsX5_takesAnyOrder (wsV RX5 169 RX1 yX1_isTakenAt wsX1_isTakenAt) := goodIn_app (goodIn_of _ (by decide +kernel)) ggX5_takesAnyOrder_X1_isTakenAt
theorem dX5_takesAnyOrder_0 : decode cX5_takesAnyOrder 0 = .ok (.iconst 0, 1) := by decide +kernel
theorem dX5_takesAnyOrder_1 : decode cX5_takesAnyOrder 1 = .ok (.istore_n 2, 1) := by decide +kernel
theorem dX5_takesAnyOrder_2 : decode cX5_takesAnyOrder 2 = .ok (.iload_n 2, 1) := by decide +kernel
theorem dX5_takesAnyOrder_3 : decode cX5_takesAnyOrder 3 = .ok (.aload_n 0, 1) := by decide +kernel
theorem dX5_takesAnyOrder_4 : decode cX5_takesAnyOrder 4 = .ok (.getfield 43, 3) := by decide +kernel
theorem dX5_takesAnyOrder_7 : decode cX5_takesAnyOrder 7 = .ok (.invokevirtual 106, 3) := by decide +kernel
theorem dX5_takesAnyOrder_10 : decode cX5_takesAnyOrder 10 = .ok (.if_icmp .ge 29, 3) := by decide +kernel
theorem dX5_takesAnyOrder_13 : decode cX5_takesAnyOrder 13 = .ok (.aload_n 0, 1) := by decide +kernel
theorem dX5_takesAnyOrder_14 : decode cX5_takesAnyOrder 14 = .ok (.getfield 43, 3) := by decide +kernel
theorem dX5_takesAnyOrder_17 : decode cX5_takesAnyOrder 17 = .ok (.iload_n 2, 1) := by decide +kernel
theorem dX5_takesAnyOrder_18 : decode cX5_takesAnyOrder 18 = .ok (.invokevirtual 165, 3) := by decide +kernel
theorem dX5_takesAnyOrder_21 : decode cX5_takesAnyOrder 21 = .ok (.checkcast 111, 3) := by decide +kernel
theorem dX5_takesAnyOrder_24 : decode cX5_takesAnyOrder 24 = .ok (.iload_n 1, 1) := by decide +kernel
theorem dX5_takesAnyOrder_25 : decode cX5_takesAnyOrder 25 = .ok (.invokevirtual 169, 3) := by decide +kernel
theorem dX5_takesAnyOrder_28 : decode cX5_takesAnyOrder 28 = .ok (.ifCond .eq 5, 3) := by decide +kernel
theorem dX5_takesAnyOrder_31 : decode cX5_takesAnyOrder 31 = .ok (.iconst 1, 1) := by decide +kernel
theorem dX5_takesAnyOrder_32 : decode cX5_takesAnyOrder 32 = .ok (.ireturn, 1) := by decide +kernel
theorem dX5_takesAnyOrder_33 : decode cX5_takesAnyOrder 33 = .ok (.iinc 2 1, 3) := by decide +kernel
theorem dX5_takesAnyOrder_36 : decode cX5_takesAnyOrder 36 = .ok (.goto (-34), 3) := by decide +kernel
theorem dX5_takesAnyOrder_39 : decode cX5_takesAnyOrder 39 = .ok (.iconst 0, 1) := by decide +kernel
theorem dX5_takesAnyOrder_40 : decode cX5_takesAnyOrder 40 = .ok (.ireturn, 1) := by decide +kernel
set_option maxRecDepth 20000 in
theorem ggX5_finish_X2_leastLength : GoodIn wsX5_finish wsX2_leastLength := goodIn_r _ [8, 9, 10, 11, 7, 12, 13, 14, 15, 16, 17, 18, 19, 20, 21, 22, 23, 24, 25, 26, 27, 28, 29, 30, 31, 32, 33, 34, 35, 36, 37, 38, 39, 40, 41, 42, 43, 44, 45, 46, 47, 48, 49, 50, 51, 52, 53, 54, 55, 56, 57, 58, 59, 60, 77, 78, 79, 80, 81, 82, 83, 84, 85, 86, 87, 88] (by decide +kernel) (by decide +kernel)
set_option maxRecDepth 20000 in
theorem gX5_finish_X2_leastLength : GoodIn wsX5_finish (wsV RX5 150 RX2 yX2_leastLength wsX2_leastLength) := goodIn_app (goodIn_of _ (by decide +kernel)) ggX5_finish_X2_leastLength
set_option maxRecDepth 20000 in
theorem ggX5_finish_X3_addTurnover : GoodIn wsX5_finish wsX3_addTurnover := goodIn_r _ [64, 65, 82, 83, 84, 85, 86, 87, 88, 73, 74, 75, 76] (by decide +kernel) (by decide +kernel)
set_option maxRecDepth 20000 in
theorem gX5_finish_X3_addTurnover : GoodIn wsX5_finish (wsV RX5 249 RX3 yX3_addTurnover wsX3_addTurnover) := goodIn_app (goodIn_of _ (by decide +kernel)) ggX5_finish_X3_addTurnover
theorem dX5_finish_0 : decode cX5_finish 0 = .ok (.aload_n 0, 1) := by decide +kernel
theorem dX5_finish_1 : decode cX5_finish 1 = .ok (.dup, 1) := by decide +kernel
theorem dX5_finish_2 : decode cX5_finish 2 = .ok (.getfield 227, 3) := by decide +kernel
theorem dX5_finish_5 : decode cX5_finish 5 = .ok (.aload_n 0, 1) := by decide +kernel
theorem dX5_finish_6 : decode cX5_finish 6 = .ok (.getfield 27, 3) := by decide +kernel
theorem dX5_finish_9 : decode cX5_finish 9 = .ok (.aload_n 1, 1) := by decide +kernel
theorem dX5_finish_10 : decode cX5_finish 10 = .ok (.getfield 147, 3) := by decide +kernel
theorem dX5_finish_13 : decode cX5_finish 13 = .ok (.invokevirtual 150, 3) := by decide +kernel
theorem dX5_finish_16 : decode cX5_finish 16 = .ok (.iadd, 1) := by decide +kernel
theorem dX5_finish_17 : decode cX5_finish 17 = .ok (.putfield 227, 3) := by decide +kernel
theorem dX5_finish_20 : decode cX5_finish 20 = .ok (.aload_n 0, 1) := by decide +kernel
theorem dX5_finish_21 : decode cX5_finish 21 = .ok (.getfield 18, 3) := by decide +kernel
theorem dX5_finish_24 : decode cX5_finish 24 = .ok (.aload_n 1, 1) := by decide +kernel
theorem dX5_finish_25 : decode cX5_finish 25 = .ok (.invokevirtual 249, 3) := by decide +kernel
theorem dX5_finish_28 : decode cX5_finish 28 = .ok (.aload_n 1, 1) := by decide +kernel
theorem dX5_finish_29 : decode cX5_finish 29 = .ok (.iconst 2, 1) := by decide +kernel
theorem dX5_finish_30 : decode cX5_finish 30 = .ok (.putfield 144, 3) := by decide +kernel
theorem dX5_finish_33 : decode cX5_finish 33 = .ok (.return_, 1) := by decide +kernel
