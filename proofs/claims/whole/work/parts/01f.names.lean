theorem dJ6_bitCount_0f7a4_0 : decode cJ6_bitCount_0f7a4 0 = .ok (.iload_n 0, 1) := by decide +kernel
theorem dJ6_bitCount_0f7a4_1 : decode cJ6_bitCount_0f7a4 1 = .ok (.iload_n 0, 1) := by decide +kernel
theorem dJ6_bitCount_0f7a4_2 : decode cJ6_bitCount_0f7a4 2 = .ok (.iconst 1, 1) := by decide +kernel
theorem dJ6_bitCount_0f7a4_3 : decode cJ6_bitCount_0f7a4 3 = .ok (.iushr, 1) := by decide +kernel
theorem dJ6_bitCount_0f7a4_4 : decode cJ6_bitCount_0f7a4 4 = .ok (.ldc_w 265, 3) := by decide +kernel
theorem dJ6_bitCount_0f7a4_7 : decode cJ6_bitCount_0f7a4 7 = .ok (.iand, 1) := by decide +kernel
theorem dJ6_bitCount_0f7a4_8 : decode cJ6_bitCount_0f7a4 8 = .ok (.isub, 1) := by decide +kernel
theorem dJ6_bitCount_0f7a4_9 : decode cJ6_bitCount_0f7a4 9 = .ok (.istore_n 0, 1) := by decide +kernel
theorem dJ6_bitCount_0f7a4_10 : decode cJ6_bitCount_0f7a4 10 = .ok (.iload_n 0, 1) := by decide +kernel
theorem dJ6_bitCount_0f7a4_11 : decode cJ6_bitCount_0f7a4 11 = .ok (.ldc_w 266, 3) := by decide +kernel
theorem dJ6_bitCount_0f7a4_14 : decode cJ6_bitCount_0f7a4 14 = .ok (.iand, 1) := by decide +kernel
theorem dJ6_bitCount_0f7a4_15 : decode cJ6_bitCount_0f7a4 15 = .ok (.iload_n 0, 1) := by decide +kernel
theorem dJ6_bitCount_0f7a4_16 : decode cJ6_bitCount_0f7a4 16 = .ok (.iconst 2, 1) := by decide +kernel
theorem dJ6_bitCount_0f7a4_17 : decode cJ6_bitCount_0f7a4 17 = .ok (.iushr, 1) := by decide +kernel
theorem dJ6_bitCount_0f7a4_18 : decode cJ6_bitCount_0f7a4 18 = .ok (.ldc_w 266, 3) := by decide +kernel
theorem dJ6_bitCount_0f7a4_21 : decode cJ6_bitCount_0f7a4 21 = .ok (.iand, 1) := by decide +kernel
theorem dJ6_bitCount_0f7a4_22 : decode cJ6_bitCount_0f7a4 22 = .ok (.iadd, 1) := by decide +kernel
theorem dJ6_bitCount_0f7a4_23 : decode cJ6_bitCount_0f7a4 23 = .ok (.istore_n 0, 1) := by decide +kernel
theorem dJ6_bitCount_0f7a4_24 : decode cJ6_bitCount_0f7a4 24 = .ok (.iload_n 0, 1) := by decide +kernel
theorem dJ6_bitCount_0f7a4_25 : decode cJ6_bitCount_0f7a4 25 = .ok (.iload_n 0, 1) := by decide +kernel
theorem dJ6_bitCount_0f7a4_26 : decode cJ6_bitCount_0f7a4 26 = .ok (.iconst 4, 1) := by decide +kernel
theorem dJ6_bitCount_0f7a4_27 : decode cJ6_bitCount_0f7a4 27 = .ok (.iushr, 1) := by decide +kernel
theorem dJ6_bitCount_0f7a4_28 : decode cJ6_bitCount_0f7a4 28 = .ok (.iadd, 1) := by decide +kernel
theorem dJ6_bitCount_0f7a4_29 : decode cJ6_bitCount_0f7a4 29 = .ok (.ldc_w 267, 3) := by decide +kernel
theorem dJ6_bitCount_0f7a4_32 : decode cJ6_bitCount_0f7a4 32 = .ok (.iand, 1) := by decide +kernel
theorem dJ6_bitCount_0f7a4_33 : decode cJ6_bitCount_0f7a4 33 = .ok (.istore_n 0, 1) := by decide +kernel
theorem dJ6_bitCount_0f7a4_34 : decode cJ6_bitCount_0f7a4 34 = .ok (.iload_n 0, 1) := by decide +kernel
theorem dJ6_bitCount_0f7a4_35 : decode cJ6_bitCount_0f7a4 35 = .ok (.iload_n 0, 1) := by decide +kernel
theorem dJ6_bitCount_0f7a4_36 : decode cJ6_bitCount_0f7a4 36 = .ok (.bipush 8, 2) := by decide +kernel
theorem dJ6_bitCount_0f7a4_38 : decode cJ6_bitCount_0f7a4 38 = .ok (.iushr, 1) := by decide +kernel
theorem dJ6_bitCount_0f7a4_39 : decode cJ6_bitCount_0f7a4 39 = .ok (.iadd, 1) := by decide +kernel
theorem dJ6_bitCount_0f7a4_40 : decode cJ6_bitCount_0f7a4 40 = .ok (.istore_n 0, 1) := by decide +kernel
theorem dJ6_bitCount_0f7a4_41 : decode cJ6_bitCount_0f7a4 41 = .ok (.iload_n 0, 1) := by decide +kernel
theorem dJ6_bitCount_0f7a4_42 : decode cJ6_bitCount_0f7a4 42 = .ok (.iload_n 0, 1) := by decide +kernel
theorem dJ6_bitCount_0f7a4_43 : decode cJ6_bitCount_0f7a4 43 = .ok (.bipush 16, 2) := by decide +kernel
theorem dJ6_bitCount_0f7a4_45 : decode cJ6_bitCount_0f7a4 45 = .ok (.iushr, 1) := by decide +kernel
theorem dJ6_bitCount_0f7a4_46 : decode cJ6_bitCount_0f7a4 46 = .ok (.iadd, 1) := by decide +kernel
theorem dJ6_bitCount_0f7a4_47 : decode cJ6_bitCount_0f7a4 47 = .ok (.istore_n 0, 1) := by decide +kernel
theorem dJ6_bitCount_0f7a4_48 : decode cJ6_bitCount_0f7a4 48 = .ok (.iload_n 0, 1) := by decide +kernel
theorem dJ6_bitCount_0f7a4_49 : decode cJ6_bitCount_0f7a4 49 = .ok (.bipush 63, 2) := by decide +kernel
theorem dJ6_bitCount_0f7a4_51 : decode cJ6_bitCount_0f7a4 51 = .ok (.iand, 1) := by decide +kernel
theorem dJ6_bitCount_0f7a4_52 : decode cJ6_bitCount_0f7a4 52 = .ok (.ireturn, 1) := by decide +kernel
theorem dJ9_abs_0f7a4_0 : decode cJ9_abs_0f7a4 0 = .ok (.iload_n 0, 1) := by decide +kernel
theorem dJ9_abs_0f7a4_1 : decode cJ9_abs_0f7a4 1 = .ok (.ifCond .ge 8, 3) := by decide +kernel
theorem dJ9_abs_0f7a4_4 : decode cJ9_abs_0f7a4 4 = .ok (.iload_n 0, 1) := by decide +kernel
theorem dJ9_abs_0f7a4_5 : decode cJ9_abs_0f7a4 5 = .ok (.ineg, 1) := by decide +kernel
theorem dJ9_abs_0f7a4_6 : decode cJ9_abs_0f7a4 6 = .ok (.goto 4, 3) := by decide +kernel
theorem dJ9_abs_0f7a4_9 : decode cJ9_abs_0f7a4 9 = .ok (.iload_n 0, 1) := by decide +kernel
theorem dJ9_abs_0f7a4_10 : decode cJ9_abs_0f7a4 10 = .ok (.ireturn, 1) := by decide +kernel
theorem dJ9_max_7cf53_0 : decode cJ9_max_7cf53 0 = .ok (.iload_n 0, 1) := by decide +kernel
theorem dJ9_max_7cf53_1 : decode cJ9_max_7cf53 1 = .ok (.iload_n 1, 1) := by decide +kernel
theorem dJ9_max_7cf53_2 : decode cJ9_max_7cf53 2 = .ok (.if_icmp .lt 7, 3) := by decide +kernel
theorem dJ9_max_7cf53_5 : decode cJ9_max_7cf53 5 = .ok (.iload_n 0, 1) := by decide +kernel
theorem dJ9_max_7cf53_6 : decode cJ9_max_7cf53 6 = .ok (.goto 4, 3) := by decide +kernel
theorem dJ9_max_7cf53_9 : decode cJ9_max_7cf53 9 = .ok (.iload_n 1, 1) := by decide +kernel
theorem dJ9_max_7cf53_10 : decode cJ9_max_7cf53 10 = .ok (.ireturn, 1) := by decide +kernel
theorem dJ9_min_7cf53_0 : decode cJ9_min_7cf53 0 = .ok (.iload_n 0, 1) := by decide +kernel
theorem dJ9_min_7cf53_1 : decode cJ9_min_7cf53 1 = .ok (.iload_n 1, 1) := by decide +kernel
theorem dJ9_min_7cf53_2 : decode cJ9_min_7cf53 2 = .ok (.if_icmp .gt 7, 3) := by decide +kernel
theorem dJ9_min_7cf53_5 : decode cJ9_min_7cf53 5 = .ok (.iload_n 0, 1) := by decide +kernel
theorem dJ9_min_7cf53_6 : decode cJ9_min_7cf53 6 = .ok (.goto 4, 3) := by decide +kernel
theorem dJ9_min_7cf53_9 : decode cJ9_min_7cf53 9 = .ok (.iload_n 1, 1) := by decide +kernel
theorem dJ9_min_7cf53_10 : decode cJ9_min_7cf53 10 = .ok (.ireturn, 1) := by decide +kernel
theorem dJxa1e45_init_da8c8_0 : decode cJxa1e45_init_da8c8 0 = .ok (.aload_n 0, 1) := by decide +kernel
theorem dJxa1e45_init_da8c8_1 : decode cJxa1e45_init_da8c8 1 = .ok (.invokespecial 1, 3) := by decide +kernel
theorem dJxa1e45_init_da8c8_4 : decode cJxa1e45_init_da8c8 4 = .ok (.return_, 1) := by decide +kernel
set_option maxRecDepth 20000 in
theorem ggJxc12de_init_da8c8_Jxa1e45_init_da8c8 : GoodIn wsJxc12de_init_da8c8 wsJxa1e45_init_da8c8 := goodIn_r _ [5, 6, 7, 8] (by decide +kernel) (by decide +kernel)
set_option maxRecDepth 20000 in
theorem gJxc12de_init_da8c8_Jxa1e45_init_da8c8 : GoodIn wsJxc12de_init_da8c8 (wsJxa1e45_init_da8c8) := ggJxc12de_init_da8c8_Jxa1e45_init_da8c8
theorem dJxc12de_init_da8c8_0 : decode cJxc12de_init_da8c8 0 = .ok (.aload_n 0, 1) := by decide +kernel
theorem dJxc12de_init_da8c8_1 : decode cJxc12de_init_da8c8 1 = .ok (.invokespecial 1, 3) := by decide +kernel
theorem dJxc12de_init_da8c8_4 : decode cJxc12de_init_da8c8 4 = .ok (.aload_n 0, 1) := by decide +kernel
theorem dJxc12de_init_da8c8_5 : decode cJxc12de_init_da8c8 5 = .ok (.iconst 0, 1) := by decide +kernel
theorem dJxc12de_init_da8c8_6 : decode cJxc12de_init_da8c8 6 = .ok (.putfield 7, 3) := by decide +kernel
theorem dJxc12de_init_da8c8_9 : decode cJxc12de_init_da8c8 9 = .ok (.return_, 1) := by decide +kernel
set_option maxRecDepth 20000 in
theorem ggJx4a65c_init_da8c8_Jxc12de_init_da8c8 : GoodIn wsJx4a65c_init_da8c8 wsJxc12de_init_da8c8 := goodIn_r _ [6, 7, 8, 9, 10, 11, 12, 13, 14, 15, 16, 17] (by decide +kernel) (by decide +kernel)
set_option maxRecDepth 20000 in
theorem gJx4a65c_init_da8c8_Jxc12de_init_da8c8 : GoodIn wsJx4a65c_init_da8c8 (wsJxc12de_init_da8c8) := ggJx4a65c_init_da8c8_Jxc12de_init_da8c8
theorem dJx4a65c_init_da8c8_0 : decode cJx4a65c_init_da8c8 0 = .ok (.aload_n 0, 1) := by decide +kernel
theorem dJx4a65c_init_da8c8_1 : decode cJx4a65c_init_da8c8 1 = .ok (.invokespecial 1, 3) := by decide +kernel
theorem dJx4a65c_init_da8c8_4 : decode cJx4a65c_init_da8c8 4 = .ok (.aload_n 0, 1) := by decide +kernel
theorem dJx4a65c_init_da8c8_5 : decode cJx4a65c_init_da8c8 5 = .ok (.getstatic 39, 3) := by decide +kernel
theorem dJx4a65c_init_da8c8_8 : decode cJx4a65c_init_da8c8 8 = .ok (.putfield 9, 3) := by decide +kernel
theorem dJx4a65c_init_da8c8_11 : decode cJx4a65c_init_da8c8 11 = .ok (.return_, 1) := by decide +kernel
set_option maxRecDepth 20000 in
theorem ggJx4a65c_grow_92f84_J8_newLength_cabcc : GoodIn wsJx4a65c_grow_92f84 wsJ8_newLength_cabcc := goodIn_r _ [11, 12, 4, 5, 6, 13, 14, 15, 10, 16] (by decide +kernel) (by decide +kernel)
set_option maxRecDepth 20000 in
theorem gJx4a65c_grow_92f84_J8_newLength_cabcc : GoodIn wsJx4a65c_grow_92f84 (va_wsS RJx4a65c 73 yJ8_newLength_cabcc wsJ8_newLength_cabcc) := goodIn_app (goodIn_of _ (by decide +kernel)) ggJx4a65c_grow_92f84_J8_newLength_cabcc
set_option maxRecDepth 20000 in
theorem ggJx4a65c_grow_92f84_J7_copyOf_1904c : GoodIn wsJx4a65c_grow_92f84 wsJ7_copyOf_1904c := goodIn_r _ [20, 21, 22, 23, 24, 25, 26, 19, 27, 28, 29, 30, 31, 5, 32, 33, 34, 35, 36] (by decide +kernel) (by decide +kernel)
set_option maxRecDepth 20000 in
theorem gJx4a65c_grow_92f84_J7_copyOf_1904c : GoodIn wsJx4a65c_grow_92f84 (va_wsS RJx4a65c 66 yJ7_copyOf_1904c wsJ7_copyOf_1904c) := goodIn_app (goodIn_of _ (by decide +kernel)) ggJx4a65c_grow_92f84_J7_copyOf_1904c
theorem dJx4a65c_grow_92f84_0 : decode cJx4a65c_grow_92f84 0 = .ok (.aload_n 0, 1) := by decide +kernel
theorem dJx4a65c_grow_92f84_1 : decode cJx4a65c_grow_92f84 1 = .ok (.getfield 9, 3) := by decide +kernel
theorem dJx4a65c_grow_92f84_4 : decode cJx4a65c_grow_92f84 4 = .ok (.arraylength, 1) := by decide +kernel
theorem dJx4a65c_grow_92f84_5 : decode cJx4a65c_grow_92f84 5 = .ok (.istore_n 2, 1) := by decide +kernel
theorem dJx4a65c_grow_92f84_6 : decode cJx4a65c_grow_92f84 6 = .ok (.iload_n 2, 1) := by decide +kernel
theorem dJx4a65c_grow_92f84_7 : decode cJx4a65c_grow_92f84 7 = .ok (.ifCond .gt 13, 3) := by decide +kernel
theorem dJx4a65c_grow_92f84_10 : decode cJx4a65c_grow_92f84 10 = .ok (.aload_n 0, 1) := by decide +kernel
theorem dJx4a65c_grow_92f84_11 : decode cJx4a65c_grow_92f84 11 = .ok (.getfield 9, 3) := by decide +kernel
theorem dJx4a65c_grow_92f84_14 : decode cJx4a65c_grow_92f84 14 = .ok (.getstatic 39, 3) := by decide +kernel
theorem dJx4a65c_grow_92f84_17 : decode cJx4a65c_grow_92f84 17 = .ok (.if_acmp .eq 28, 3) := by decide +kernel
theorem dJx4a65c_grow_92f84_20 : decode cJx4a65c_grow_92f84 20 = .ok (.iload_n 2, 1) := by decide +kernel
theorem dJx4a65c_grow_92f84_21 : decode cJx4a65c_grow_92f84 21 = .ok (.iload_n 1, 1) := by decide +kernel
theorem dJx4a65c_grow_92f84_22 : decode cJx4a65c_grow_92f84 22 = .ok (.iload_n 2, 1) := by decide +kernel
theorem dJx4a65c_grow_92f84_23 : decode cJx4a65c_grow_92f84 23 = .ok (.isub, 1) := by decide +kernel
theorem dJx4a65c_grow_92f84_24 : decode cJx4a65c_grow_92f84 24 = .ok (.iload_n 2, 1) := by decide +kernel
theorem dJx4a65c_grow_92f84_25 : decode cJx4a65c_grow_92f84 25 = .ok (.iconst 1, 1) := by decide +kernel
theorem dJx4a65c_grow_92f84_26 : decode cJx4a65c_grow_92f84 26 = .ok (.ishr, 1) := by decide +kernel
theorem dJx4a65c_grow_92f84_27 : decode cJx4a65c_grow_92f84 27 = .ok (.invokestatic 73, 3) := by decide +kernel
theorem dJx4a65c_grow_92f84_30 : decode cJx4a65c_grow_92f84 30 = .ok (.istore_n 3, 1) := by decide +kernel
theorem dJx4a65c_grow_92f84_31 : decode cJx4a65c_grow_92f84 31 = .ok (.aload_n 0, 1) := by decide +kernel
theorem dJx4a65c_grow_92f84_32 : decode cJx4a65c_grow_92f84 32 = .ok (.aload_n 0, 1) := by decide +kernel
theorem dJx4a65c_grow_92f84_33 : decode cJx4a65c_grow_92f84 33 = .ok (.getfield 9, 3) := by decide +kernel
theorem dJx4a65c_grow_92f84_36 : decode cJx4a65c_grow_92f84 36 = .ok (.iload_n 3, 1) := by decide +kernel
theorem dJx4a65c_grow_92f84_37 : decode cJx4a65c_grow_92f84 37 = .ok (.invokestatic 66, 3) := by decide +kernel
theorem dJx4a65c_grow_92f84_40 : decode cJx4a65c_grow_92f84 40 = .ok (.dup_x1, 1) := by decide +kernel
theorem dJx4a65c_grow_92f84_41 : decode cJx4a65c_grow_92f84 41 = .ok (.putfield 9, 3) := by decide +kernel
theorem dJx4a65c_grow_92f84_44 : decode cJx4a65c_grow_92f84 44 = .ok (.areturn, 1) := by decide +kernel
theorem dJx4a65c_grow_92f84_45 : decode cJx4a65c_grow_92f84 45 = .ok (.aload_n 0, 1) := by decide +kernel
theorem dJx4a65c_grow_92f84_46 : decode cJx4a65c_grow_92f84 46 = .ok (.bipush 10, 2) := by decide +kernel
theorem dJx4a65c_grow_92f84_48 : decode cJx4a65c_grow_92f84 48 = .ok (.iload_n 1, 1) := by decide +kernel
theorem dJx4a65c_grow_92f84_49 : decode cJx4a65c_grow_92f84 49 = .ok (.invokestatic 79, 3) := by decide +kernel
theorem dJx4a65c_grow_92f84_52 : decode cJx4a65c_grow_92f84 52 = .ok (.anewarray 7, 3) := by decide +kernel
theorem dJx4a65c_grow_92f84_55 : decode cJx4a65c_grow_92f84 55 = .ok (.dup_x1, 1) := by decide +kernel
theorem dJx4a65c_grow_92f84_56 : decode cJx4a65c_grow_92f84 56 = .ok (.putfield 9, 3) := by decide +kernel
theorem dJx4a65c_grow_92f84_59 : decode cJx4a65c_grow_92f84 59 = .ok (.areturn, 1) := by decide +kernel
set_option maxRecDepth 20000 in
theorem ggJx4a65c_grow_d5877_Jx4a65c_grow_92f84 : GoodIn wsJx4a65c_grow_d5877 wsJx4a65c_grow_92f84 := goodIn_r _ [6, 7, 8, 9, 10, 11, 12, 13, 14, 15, 16, 17, 18, 19, 20, 21, 22, 23, 24, 25, 26, 27, 28, 29, 30, 31, 32, 33, 34, 35, 36, 37, 38, 39, 40, 41, 42, 43, 44, 45] (by decide +kernel) (by decide +kernel)
set_option maxRecDepth 20000 in
theorem gJx4a65c_grow_d5877_Jx4a65c_grow_92f84 : GoodIn wsJx4a65c_grow_d5877 (wsV RJx4a65c 69 RJx4a65c yJx4a65c_grow_92f84 wsJx4a65c_grow_92f84) := goodIn_app (goodIn_of _ (by decide +kernel)) ggJx4a65c_grow_d5877_Jx4a65c_grow_92f84
theorem dJx4a65c_grow_d5877_0 : decode cJx4a65c_grow_d5877 0 = .ok (.aload_n 0, 1) := by decide +kernel
theorem dJx4a65c_grow_d5877_1 : decode cJx4a65c_grow_d5877 1 = .ok (.aload_n 0, 1) := by decide +kernel
theorem dJx4a65c_grow_d5877_2 : decode cJx4a65c_grow_d5877 2 = .ok (.getfield 48, 3) := by decide +kernel
theorem dJx4a65c_grow_d5877_5 : decode cJx4a65c_grow_d5877 5 = .ok (.iconst 1, 1) := by decide +kernel
theorem dJx4a65c_grow_d5877_6 : decode cJx4a65c_grow_d5877 6 = .ok (.iadd, 1) := by decide +kernel
theorem dJx4a65c_grow_d5877_7 : decode cJx4a65c_grow_d5877 7 = .ok (.invokevirtual 69, 3) := by decide +kernel
theorem dJx4a65c_grow_d5877_10 : decode cJx4a65c_grow_d5877 10 = .ok (.areturn, 1) := by decide +kernel
theorem dJx4a65c_size_8abf5_0 : decode cJx4a65c_size_8abf5 0 = .ok (.aload_n 0, 1) := by decide +kernel
theorem dJx4a65c_size_8abf5_1 : decode cJx4a65c_size_8abf5 1 = .ok (.getfield 48, 3) := by decide +kernel
theorem dJx4a65c_size_8abf5_4 : decode cJx4a65c_size_8abf5 4 = .ok (.ireturn, 1) := by decide +kernel
theorem dJx4a65c_isEmpty_aae02_0 : decode cJx4a65c_isEmpty_aae02 0 = .ok (.aload_n 0, 1) := by decide +kernel
theorem dJx4a65c_isEmpty_aae02_1 : decode cJx4a65c_isEmpty_aae02 1 = .ok (.getfield 48, 3) := by decide +kernel
theorem dJx4a65c_isEmpty_aae02_4 : decode cJx4a65c_isEmpty_aae02 4 = .ok (.ifCond .ne 7, 3) := by decide +kernel
theorem dJx4a65c_isEmpty_aae02_7 : decode cJx4a65c_isEmpty_aae02 7 = .ok (.iconst 1, 1) := by decide +kernel
theorem dJx4a65c_isEmpty_aae02_8 : decode cJx4a65c_isEmpty_aae02 8 = .ok (.goto 4, 3) := by decide +kernel
theorem dJx4a65c_isEmpty_aae02_11 : decode cJx4a65c_isEmpty_aae02 11 = .ok (.iconst 0, 1) := by decide +kernel
theorem dJx4a65c_isEmpty_aae02_12 : decode cJx4a65c_isEmpty_aae02 12 = .ok (.ireturn, 1) := by decide +kernel
theorem dJx4a65c_elementData_915e3_0 : decode cJx4a65c_elementData_915e3 0 = .ok (.aload_n 0, 1) := by decide +kernel
theorem dJx4a65c_elementData_915e3_1 : decode cJx4a65c_elementData_915e3 1 = .ok (.getfield 9, 3) := by decide +kernel
theorem dJx4a65c_elementData_915e3_4 : decode cJx4a65c_elementData_915e3 4 = .ok (.iload_n 1, 1) := by decide +kernel
theorem dJx4a65c_elementData_915e3_5 : decode cJx4a65c_elementData_915e3 5 = .ok (.aaload, 1) := by decide +kernel
theorem dJx4a65c_elementData_915e3_6 : decode cJx4a65c_elementData_915e3 6 = .ok (.areturn, 1) := by decide +kernel
set_option maxRecDepth 20000 in
theorem ggJx4a65c_get_915e3_J15_checkIndex_7cf53 : GoodIn wsJx4a65c_get_915e3 wsJ15_checkIndex_7cf53 := goodIn_r _ [5, 6, 7, 8, 9] (by decide +kernel) (by decide +kernel)
set_option maxRecDepth 20000 in
theorem gJx4a65c_get_915e3_J15_checkIndex_7cf53 : GoodIn wsJx4a65c_get_915e3 (va_wsS RJx4a65c 118 yJ15_checkIndex_7cf53 wsJ15_checkIndex_7cf53) := goodIn_app (goodIn_of _ (by decide +kernel)) ggJx4a65c_get_915e3_J15_checkIndex_7cf53
set_option maxRecDepth 20000 in
theorem ggJx4a65c_get_915e3_Jx4a65c_elementData_915e3 : GoodIn wsJx4a65c_get_915e3 wsJx4a65c_elementData_915e3 := goodIn_r _ [14, 15, 16, 17, 18] (by decide +kernel) (by decide +kernel)
set_option maxRecDepth 20000 in
theorem gJx4a65c_get_915e3_Jx4a65c_elementData_915e3 : GoodIn wsJx4a65c_get_915e3 (wsV RJx4a65c 123 RJx4a65c yJx4a65c_elementData_915e3 wsJx4a65c_elementData_915e3) := goodIn_app (goodIn_of _ (by decide +kernel)) ggJx4a65c_get_915e3_Jx4a65c_elementData_915e3
theorem dJx4a65c_get_915e3_0 : decode cJx4a65c_get_915e3 0 = .ok (.iload_n 1, 1) := by decide +kernel
theorem dJx4a65c_get_915e3_1 : decode cJx4a65c_get_915e3 1 = .ok (.aload_n 0, 1) := by decide +kernel
theorem dJx4a65c_get_915e3_2 : decode cJx4a65c_get_915e3 2 = .ok (.getfield 48, 3) := by decide +kernel
theorem dJx4a65c_get_915e3_5 : decode cJx4a65c_get_915e3 5 = .ok (.invokestatic 118, 3) := by decide +kernel
theorem dJx4a65c_get_915e3_8 : decode cJx4a65c_get_915e3 8 = .ok (.pop, 1) := by decide +kernel
theorem dJx4a65c_get_915e3_9 : decode cJx4a65c_get_915e3 9 = .ok (.aload_n 0, 1) := by decide +kernel
theorem dJx4a65c_get_915e3_10 : decode cJx4a65c_get_915e3 10 = .ok (.iload_n 1, 1) := by decide +kernel
theorem dJx4a65c_get_915e3_11 : decode cJx4a65c_get_915e3 11 = .ok (.invokevirtual 123, 3) := by decide +kernel
theorem dJx4a65c_get_915e3_14 : decode cJx4a65c_get_915e3 14 = .ok (.areturn, 1) := by decide +kernel
set_option maxRecDepth 20000 in
theorem ggJx4a65c_add_72be8_Jx4a65c_grow_d5877 : GoodIn wsJx4a65c_add_72be8 wsJx4a65c_grow_d5877 := goodIn_r _ [6, 1, 7, 8, 9, 5, 10, 11, 12, 13, 14, 15, 16, 17, 18, 19, 20, 21, 22, 23, 24, 25, 26, 27, 28, 29, 30, 31, 32, 33, 34, 35, 36, 37, 38, 39, 40, 41, 42, 43, 44, 45, 46, 47, 48, 49] (by decide +kernel) (by decide +kernel)
set_option maxRecDepth 20000 in
theorem gJx4a65c_add_72be8_Jx4a65c_grow_d5877 : GoodIn wsJx4a65c_add_72be8 (wsV RJx4a65c 129 RJx4a65c yJx4a65c_grow_d5877 wsJx4a65c_grow_d5877) := goodIn_app (goodIn_of _ (by decide +kernel)) ggJx4a65c_add_72be8_Jx4a65c_grow_d5877
theorem dJx4a65c_add_72be8_0 : decode cJx4a65c_add_72be8 0 = .ok (.iload_n 3, 1) := by decide +kernel
theorem dJx4a65c_add_72be8_1 : decode cJx4a65c_add_72be8 1 = .ok (.aload_n 2, 1) := by decide +kernel
theorem dJx4a65c_add_72be8_2 : decode cJx4a65c_add_72be8 2 = .ok (.arraylength, 1) := by decide +kernel
theorem dJx4a65c_add_72be8_3 : decode cJx4a65c_add_72be8 3 = .ok (.if_icmp .ne 8, 3) := by decide +kernel
theorem dJx4a65c_add_72be8_6 : decode cJx4a65c_add_72be8 6 = .ok (.aload_n 0, 1) := by decide +kernel
theorem dJx4a65c_add_72be8_7 : decode cJx4a65c_add_72be8 7 = .ok (.invokevirtual 129, 3) := by decide +kernel
theorem dJx4a65c_add_72be8_10 : decode cJx4a65c_add_72be8 10 = .ok (.astore_n 2, 1) := by decide +kernel
theorem dJx4a65c_add_72be8_11 : decode cJx4a65c_add_72be8 11 = .ok (.aload_n 2, 1) := by decide +kernel
theorem dJx4a65c_add_72be8_12 : decode cJx4a65c_add_72be8 12 = .ok (.iload_n 3, 1) := by decide +kernel
theorem dJx4a65c_add_72be8_13 : decode cJx4a65c_add_72be8 13 = .ok (.aload_n 1, 1) := by decide +kernel
theorem dJx4a65c_add_72be8_14 : decode cJx4a65c_add_72be8 14 = .ok (.aastore, 1) := by decide +kernel
theorem dJx4a65c_add_72be8_15 : decode cJx4a65c_add_72be8 15 = .ok (.aload_n 0, 1) := by decide +kernel
theorem dJx4a65c_add_72be8_16 : decode cJx4a65c_add_72be8 16 = .ok (.iload_n 3, 1) := by decide +kernel
theorem dJx4a65c_add_72be8_17 : decode cJx4a65c_add_72be8 17 = .ok (.iconst 1, 1) := by decide +kernel
theorem dJx4a65c_add_72be8_18 : decode cJx4a65c_add_72be8 18 = .ok (.iadd, 1) := by decide +kernel
theorem dJx4a65c_add_72be8_19 : decode cJx4a65c_add_72be8 19 = .ok (.putfield 48, 3) := by decide +kernel
theorem dJx4a65c_add_72be8_22 : decode cJx4a65c_add_72be8 22 = .ok (.return_, 1) := by decide +kernel
set_option maxRecDepth 20000 in
theorem ggJx4a65c_add_9ea2d_Jx4a65c_add_72be8 : GoodIn wsJx4a65c_add_9ea2d wsJx4a65c_add_72be8 := goodIn_r _ [9, 4, 10, 11, 12, 8, 13, 14, 15, 16, 17, 3, 18, 19, 20, 21, 22, 23, 24, 25, 26, 27, 28, 29, 30, 31, 32, 33, 34, 35, 36, 37, 38, 39, 40, 41, 42, 43, 44, 45, 46, 47, 48, 49, 50, 51, 52, 53, 54, 55] (by decide +kernel) (by decide +kernel)
set_option maxRecDepth 20000 in
theorem gJx4a65c_add_9ea2d_Jx4a65c_add_72be8 : GoodIn wsJx4a65c_add_9ea2d (wsV RJx4a65c 131 RJx4a65c yJx4a65c_add_72be8 wsJx4a65c_add_72be8) := goodIn_app (goodIn_of _ (by decide +kernel)) ggJx4a65c_add_9ea2d_Jx4a65c_add_72be8
theorem dJx4a65c_add_9ea2d_0 : decode cJx4a65c_add_9ea2d 0 = .ok (.aload_n 0, 1) := by decide +kernel
theorem dJx4a65c_add_9ea2d_1 : decode cJx4a65c_add_9ea2d 1 = .ok (.dup, 1) := by decide +kernel
theorem dJx4a65c_add_9ea2d_2 : decode cJx4a65c_add_9ea2d 2 = .ok (.getfield 63, 3) := by decide +kernel
theorem dJx4a65c_add_9ea2d_5 : decode cJx4a65c_add_9ea2d 5 = .ok (.iconst 1, 1) := by decide +kernel
theorem dJx4a65c_add_9ea2d_6 : decode cJx4a65c_add_9ea2d 6 = .ok (.iadd, 1) := by decide +kernel
theorem dJx4a65c_add_9ea2d_7 : decode cJx4a65c_add_9ea2d 7 = .ok (.putfield 63, 3) := by decide +kernel
theorem dJx4a65c_add_9ea2d_10 : decode cJx4a65c_add_9ea2d 10 = .ok (.aload_n 0, 1) := by decide +kernel
theorem dJx4a65c_add_9ea2d_11 : decode cJx4a65c_add_9ea2d 11 = .ok (.aload_n 1, 1) := by decide +kernel
theorem dJx4a65c_add_9ea2d_12 : decode cJx4a65c_add_9ea2d 12 = .ok (.aload_n 0, 1) := by decide +kernel
theorem dJx4a65c_add_9ea2d_13 : decode cJx4a65c_add_9ea2d 13 = .ok (.getfield 9, 3) := by decide +kernel
theorem dJx4a65c_add_9ea2d_16 : decode cJx4a65c_add_9ea2d 16 = .ok (.aload_n 0, 1) := by decide +kernel
theorem dJx4a65c_add_9ea2d_17 : decode cJx4a65c_add_9ea2d 17 = .ok (.getfield 48, 3) := by decide +kernel
theorem dJx4a65c_add_9ea2d_20 : decode cJx4a65c_add_9ea2d 20 = .ok (.invokevirtual 131, 3) := by decide +kernel
theorem dJx4a65c_add_9ea2d_23 : decode cJx4a65c_add_9ea2d 23 = .ok (.iconst 1, 1) := by decide +kernel
theorem dJx4a65c_add_9ea2d_24 : decode cJx4a65c_add_9ea2d 24 = .ok (.ireturn, 1) := by decide +kernel
set_option maxRecDepth 20000 in
theorem ggJx4a65c_remove_915e3_J15_checkIndex_7cf53 : GoodIn wsJx4a65c_remove_915e3 wsJ15_checkIndex_7cf53 := goodIn_r _ [6, 7, 8, 9, 10] (by decide +kernel) (by decide +kernel)
set_option maxRecDepth 20000 in
theorem gJx4a65c_remove_915e3_J15_checkIndex_7cf53 : GoodIn wsJx4a65c_remove_915e3 (va_wsS RJx4a65c 118 yJ15_checkIndex_7cf53 wsJ15_checkIndex_7cf53) := goodIn_app (goodIn_of _ (by decide +kernel)) ggJx4a65c_remove_915e3_J15_checkIndex_7cf53
set_option maxRecDepth 20000 in
theorem ggJx4a65c_remove_915e3_Jx4a65c_fastRemove_b59b0 : GoodIn wsJx4a65c_remove_915e3 wsJx4a65c_fastRemove_b59b0 := goodIn_r _ [15, 16, 17, 1, 18, 19, 20, 21, 22, 23, 24] (by decide +kernel) (by decide +kernel)
set_option maxRecDepth 20000 in
theorem gJx4a65c_remove_915e3_Jx4a65c_fastRemove_b59b0 : GoodIn wsJx4a65c_remove_915e3 (wsV RJx4a65c 144 RJx4a65c yJx4a65c_fastRemove_b59b0 wsJx4a65c_fastRemove_b59b0) := goodIn_app (goodIn_of _ (by decide +kernel)) ggJx4a65c_remove_915e3_Jx4a65c_fastRemove_b59b0
theorem dJx4a65c_remove_915e3_0 : decode cJx4a65c_remove_915e3 0 = .ok (.iload_n 1, 1) := by decide +kernel
theorem dJx4a65c_remove_915e3_1 : decode cJx4a65c_remove_915e3 1 = .ok (.aload_n 0, 1) := by decide +kernel
theorem dJx4a65c_remove_915e3_2 : decode cJx4a65c_remove_915e3 2 = .ok (.getfield 48, 3) := by decide +kernel
theorem dJx4a65c_remove_915e3_5 : decode cJx4a65c_remove_915e3 5 = .ok (.invokestatic 118, 3) := by decide +kernel
theorem dJx4a65c_remove_915e3_8 : decode cJx4a65c_remove_915e3 8 = .ok (.pop, 1) := by decide +kernel
theorem dJx4a65c_remove_915e3_9 : decode cJx4a65c_remove_915e3 9 = .ok (.aload_n 0, 1) := by decide +kernel
theorem dJx4a65c_remove_915e3_10 : decode cJx4a65c_remove_915e3 10 = .ok (.getfield 9, 3) := by decide +kernel
theorem dJx4a65c_remove_915e3_13 : decode cJx4a65c_remove_915e3 13 = .ok (.astore_n 2, 1) := by decide +kernel
theorem dJx4a65c_remove_915e3_14 : decode cJx4a65c_remove_915e3 14 = .ok (.aload_n 2, 1) := by decide +kernel
theorem dJx4a65c_remove_915e3_15 : decode cJx4a65c_remove_915e3 15 = .ok (.iload_n 1, 1) := by decide +kernel
theorem dJx4a65c_remove_915e3_16 : decode cJx4a65c_remove_915e3 16 = .ok (.aaload, 1) := by decide +kernel
theorem dJx4a65c_remove_915e3_17 : decode cJx4a65c_remove_915e3 17 = .ok (.astore_n 3, 1) := by decide +kernel
theorem dJx4a65c_remove_915e3_18 : decode cJx4a65c_remove_915e3 18 = .ok (.aload_n 0, 1) := by decide +kernel
theorem dJx4a65c_remove_915e3_19 : decode cJx4a65c_remove_915e3 19 = .ok (.aload_n 2, 1) := by decide +kernel
theorem dJx4a65c_remove_915e3_20 : decode cJx4a65c_remove_915e3 20 = .ok (.iload_n 1, 1) := by decide +kernel
theorem dJx4a65c_remove_915e3_21 : decode cJx4a65c_remove_915e3 21 = .ok (.invokevirtual 144, 3) := by decide +kernel
theorem dJx4a65c_remove_915e3_24 : decode cJx4a65c_remove_915e3 24 = .ok (.aload_n 3, 1) := by decide +kernel
theorem dJx4a65c_remove_915e3_25 : decode cJx4a65c_remove_915e3 25 = .ok (.areturn, 1) := by decide +kernel
theorem dJx4a65c_fastRemove_b59b0_0 : decode cJx4a65c_fastRemove_b59b0 0 = .ok (.aload_n 0, 1) := by decide +kernel
theorem dJx4a65c_fastRemove_b59b0_1 : decode cJx4a65c_fastRemove_b59b0 1 = .ok (.dup, 1) := by decide +kernel
theorem dJx4a65c_fastRemove_b59b0_2 : decode cJx4a65c_fastRemove_b59b0 2 = .ok (.getfield 63, 3) := by decide +kernel
theorem dJx4a65c_fastRemove_b59b0_5 : decode cJx4a65c_fastRemove_b59b0 5 = .ok (.iconst 1, 1) := by decide +kernel
theorem dJx4a65c_fastRemove_b59b0_6 : decode cJx4a65c_fastRemove_b59b0 6 = .ok (.iadd, 1) := by decide +kernel
theorem dJx4a65c_fastRemove_b59b0_7 : decode cJx4a65c_fastRemove_b59b0 7 = .ok (.putfield 63, 3) := by decide +kernel
theorem dJx4a65c_fastRemove_b59b0_10 : decode cJx4a65c_fastRemove_b59b0 10 = .ok (.aload_n 0, 1) := by decide +kernel
theorem dJx4a65c_fastRemove_b59b0_11 : decode cJx4a65c_fastRemove_b59b0 11 = .ok (.getfield 48, 3) := by decide +kernel
theorem dJx4a65c_fastRemove_b59b0_14 : decode cJx4a65c_fastRemove_b59b0 14 = .ok (.iconst 1, 1) := by decide +kernel
theorem dJx4a65c_fastRemove_b59b0_15 : decode cJx4a65c_fastRemove_b59b0 15 = .ok (.isub, 1) := by decide +kernel
theorem dJx4a65c_fastRemove_b59b0_16 : decode cJx4a65c_fastRemove_b59b0 16 = .ok (.dup, 1) := by decide +kernel
theorem dJx4a65c_fastRemove_b59b0_17 : decode cJx4a65c_fastRemove_b59b0 17 = .ok (.istore_n 3, 1) := by decide +kernel
theorem dJx4a65c_fastRemove_b59b0_18 : decode cJx4a65c_fastRemove_b59b0 18 = .ok (.iload_n 2, 1) := by decide +kernel
theorem dJx4a65c_fastRemove_b59b0_19 : decode cJx4a65c_fastRemove_b59b0 19 = .ok (.if_icmp .le 15, 3) := by decide +kernel
theorem dJx4a65c_fastRemove_b59b0_22 : decode cJx4a65c_fastRemove_b59b0 22 = .ok (.aload_n 1, 1) := by decide +kernel
theorem dJx4a65c_fastRemove_b59b0_23 : decode cJx4a65c_fastRemove_b59b0 23 = .ok (.iload_n 2, 1) := by decide +kernel
theorem dJx4a65c_fastRemove_b59b0_24 : decode cJx4a65c_fastRemove_b59b0 24 = .ok (.iconst 1, 1) := by decide +kernel
theorem dJx4a65c_fastRemove_b59b0_25 : decode cJx4a65c_fastRemove_b59b0 25 = .ok (.iadd, 1) := by decide +kernel
theorem dJx4a65c_fastRemove_b59b0_26 : decode cJx4a65c_fastRemove_b59b0 26 = .ok (.aload_n 1, 1) := by decide +kernel
theorem dJx4a65c_fastRemove_b59b0_27 : decode cJx4a65c_fastRemove_b59b0 27 = .ok (.iload_n 2, 1) := by decide +kernel
theorem dJx4a65c_fastRemove_b59b0_28 : decode cJx4a65c_fastRemove_b59b0 28 = .ok (.iload_n 3, 1) := by decide +kernel
theorem dJx4a65c_fastRemove_b59b0_29 : decode cJx4a65c_fastRemove_b59b0 29 = .ok (.iload_n 2, 1) := by decide +kernel
theorem dJx4a65c_fastRemove_b59b0_30 : decode cJx4a65c_fastRemove_b59b0 30 = .ok (.isub, 1) := by decide +kernel
theorem dJx4a65c_fastRemove_b59b0_31 : decode cJx4a65c_fastRemove_b59b0 31 = .ok (.invokestatic 112, 3) := by decide +kernel
theorem dJx4a65c_fastRemove_b59b0_34 : decode cJx4a65c_fastRemove_b59b0 34 = .ok (.aload_n 1, 1) := by decide +kernel
theorem dJx4a65c_fastRemove_b59b0_35 : decode cJx4a65c_fastRemove_b59b0 35 = .ok (.aload_n 0, 1) := by decide +kernel
theorem dJx4a65c_fastRemove_b59b0_36 : decode cJx4a65c_fastRemove_b59b0 36 = .ok (.iload_n 3, 1) := by decide +kernel
theorem dJx4a65c_fastRemove_b59b0_37 : decode cJx4a65c_fastRemove_b59b0 37 = .ok (.dup_x1, 1) := by decide +kernel
theorem dJx4a65c_fastRemove_b59b0_38 : decode cJx4a65c_fastRemove_b59b0 38 = .ok (.putfield 48, 3) := by decide +kernel
theorem dJx4a65c_fastRemove_b59b0_41 : decode cJx4a65c_fastRemove_b59b0 41 = .ok (.aconst_null, 1) := by decide +kernel
theorem dJx4a65c_fastRemove_b59b0_42 : decode cJx4a65c_fastRemove_b59b0 42 = .ok (.aastore, 1) := by decide +kernel
theorem dJx4a65c_fastRemove_b59b0_43 : decode cJx4a65c_fastRemove_b59b0 43 = .ok (.return_, 1) := by decide +kernel
set_option maxRecDepth 20000 in
theorem ggJ7_copyOf_1904c_J7_copyOf_6403c : GoodIn wsJ7_copyOf_1904c wsJ7_copyOf_6403c := goodIn_r _ [8, 9, 10, 11, 12, 13, 14, 15, 16, 17, 18] (by decide +kernel) (by decide +kernel)
set_option maxRecDepth 20000 in
theorem gJ7_copyOf_1904c_J7_copyOf_6403c : GoodIn wsJ7_copyOf_1904c (va_wsS RJ7 300 yJ7_copyOf_6403c wsJ7_copyOf_6403c) := goodIn_app (goodIn_of _ (by decide +kernel)) ggJ7_copyOf_1904c_J7_copyOf_6403c
theorem dJ7_copyOf_1904c_0 : decode cJ7_copyOf_1904c 0 = .ok (.aload_n 0, 1) := by decide +kernel
theorem dJ7_copyOf_1904c_1 : decode cJ7_copyOf_1904c 1 = .ok (.iload_n 1, 1) := by decide +kernel
theorem dJ7_copyOf_1904c_2 : decode cJ7_copyOf_1904c 2 = .ok (.aload_n 0, 1) := by decide +kernel
theorem dJ7_copyOf_1904c_3 : decode cJ7_copyOf_1904c 3 = .ok (.invokevirtual 86, 3) := by decide +kernel
theorem dJ7_copyOf_1904c_6 : decode cJ7_copyOf_1904c 6 = .ok (.invokestatic 300, 3) := by decide +kernel
theorem dJ7_copyOf_1904c_9 : decode cJ7_copyOf_1904c 9 = .ok (.areturn, 1) := by decide +kernel
theorem dJ7_copyOf_6403c_0 : decode cJ7_copyOf_6403c 0 = .ok (.aload_n 2, 1) := by decide +kernel
theorem dJ7_copyOf_6403c_1 : decode cJ7_copyOf_6403c 1 = .ok (.ldc 110, 2) := by decide +kernel
theorem dJ7_copyOf_6403c_3 : decode cJ7_copyOf_6403c 3 = .ok (.if_acmp .ne 10, 3) := by decide +kernel
theorem dJ7_copyOf_6403c_6 : decode cJ7_copyOf_6403c 6 = .ok (.iload_n 1, 1) := by decide +kernel
theorem dJ7_copyOf_6403c_7 : decode cJ7_copyOf_6403c 7 = .ok (.anewarray 2, 3) := by decide +kernel
theorem dJ7_copyOf_6403c_10 : decode cJ7_copyOf_6403c 10 = .ok (.goto 14, 3) := by decide +kernel
theorem dJ7_copyOf_6403c_13 : decode cJ7_copyOf_6403c 13 = .ok (.aload_n 2, 1) := by decide +kernel
theorem dJ7_copyOf_6403c_14 : decode cJ7_copyOf_6403c 14 = .ok (.invokevirtual 90, 3) := by decide +kernel
theorem dJ7_copyOf_6403c_17 : decode cJ7_copyOf_6403c 17 = .ok (.iload_n 1, 1) := by decide +kernel
theorem dJ7_copyOf_6403c_18 : decode cJ7_copyOf_6403c 18 = .ok (.invokestatic 95, 3) := by decide +kernel
theorem dJ7_copyOf_6403c_21 : decode cJ7_copyOf_6403c 21 = .ok (.checkcast 110, 3) := by decide +kernel
theorem dJ7_copyOf_6403c_24 : decode cJ7_copyOf_6403c 24 = .ok (.astore_n 3, 1) := by decide +kernel
theorem dJ7_copyOf_6403c_25 : decode cJ7_copyOf_6403c 25 = .ok (.aload_n 0, 1) := by decide +kernel
theorem dJ7_copyOf_6403c_26 : decode cJ7_copyOf_6403c 26 = .ok (.iconst 0, 1) := by decide +kernel
theorem dJ7_copyOf_6403c_27 : decode cJ7_copyOf_6403c 27 = .ok (.aload_n 3, 1) := by decide +kernel
theorem dJ7_copyOf_6403c_28 : decode cJ7_copyOf_6403c 28 = .ok (.iconst 0, 1) := by decide +kernel
theorem dJ7_copyOf_6403c_29 : decode cJ7_copyOf_6403c 29 = .ok (.aload_n 0, 1) := by decide +kernel
theorem dJ7_copyOf_6403c_30 : decode cJ7_copyOf_6403c 30 = .ok (.arraylength, 1) := by decide +kernel
theorem dJ7_copyOf_6403c_31 : decode cJ7_copyOf_6403c 31 = .ok (.iload_n 1, 1) := by decide +kernel
theorem dJ7_copyOf_6403c_32 : decode cJ7_copyOf_6403c 32 = .ok (.invokestatic 304, 3) := by decide +kernel
theorem dJ7_copyOf_6403c_35 : decode cJ7_copyOf_6403c 35 = .ok (.invokestatic 150, 3) := by decide +kernel
theorem dJ7_copyOf_6403c_38 : decode cJ7_copyOf_6403c 38 = .ok (.aload_n 3, 1) := by decide +kernel
theorem dJ7_copyOf_6403c_39 : decode cJ7_copyOf_6403c 39 = .ok (.areturn, 1) := by decide +kernel
set_option maxRecDepth 20000 in
theorem ggJ15_checkIndex_7cf53_J3_checkIndex_8e157 : GoodIn wsJ15_checkIndex_7cf53 wsJ3_checkIndex_8e157 := goodIn_r _ [4] (by decide +kernel) (by decide +kernel)
set_option maxRecDepth 20000 in
theorem gJ15_checkIndex_7cf53_J3_checkIndex_8e157 : GoodIn wsJ15_checkIndex_7cf53 (va_wsS RJ15 105 yJ3_checkIndex_8e157 wsJ3_checkIndex_8e157) := goodIn_app (goodIn_of _ (by decide +kernel)) ggJ15_checkIndex_7cf53_J3_checkIndex_8e157
theorem dJ15_checkIndex_7cf53_0 : decode cJ15_checkIndex_7cf53 0 = .ok (.iload_n 0, 1) := by decide +kernel
theorem dJ15_checkIndex_7cf53_1 : decode cJ15_checkIndex_7cf53 1 = .ok (.iload_n 1, 1) := by decide +kernel
theorem dJ15_checkIndex_7cf53_2 : decode cJ15_checkIndex_7cf53 2 = .ok (.aconst_null, 1) := by decide +kernel
theorem dJ15_checkIndex_7cf53_3 : decode cJ15_checkIndex_7cf53 3 = .ok (.invokestatic 105, 3) := by decide +kernel
theorem dJ15_checkIndex_7cf53_6 : decode cJ15_checkIndex_7cf53 6 = .ok (.ireturn, 1) := by decide +kernel
set_option maxRecDepth 20000 in
theorem ggJ8_newLength_cabcc_J8_hugeLength_7cf53 : GoodIn wsJ8_newLength_cabcc wsJ8_hugeLength_7cf53 := goodIn_r _ [9, 5] (by decide +kernel) (by decide +kernel)
set_option maxRecDepth 20000 in
theorem gJ8_newLength_cabcc_J8_hugeLength_7cf53 : GoodIn wsJ8_newLength_cabcc (va_wsS RJ8 201 yJ8_hugeLength_7cf53 wsJ8_hugeLength_7cf53) := goodIn_app (goodIn_of _ (by decide +kernel)) ggJ8_newLength_cabcc_J8_hugeLength_7cf53
theorem dJ8_newLength_cabcc_0 : decode cJ8_newLength_cabcc 0 = .ok (.iload_n 0, 1) := by decide +kernel
theorem dJ8_newLength_cabcc_1 : decode cJ8_newLength_cabcc 1 = .ok (.iload_n 1, 1) := by decide +kernel
theorem dJ8_newLength_cabcc_2 : decode cJ8_newLength_cabcc 2 = .ok (.iload_n 2, 1) := by decide +kernel
theorem dJ8_newLength_cabcc_3 : decode cJ8_newLength_cabcc 3 = .ok (.invokestatic 194, 3) := by decide +kernel
theorem dJ8_newLength_cabcc_6 : decode cJ8_newLength_cabcc 6 = .ok (.iadd, 1) := by decide +kernel
theorem dJ8_newLength_cabcc_7 : decode cJ8_newLength_cabcc 7 = .ok (.istore_n 3, 1) := by decide +kernel
theorem dJ8_newLength_cabcc_8 : decode cJ8_newLength_cabcc 8 = .ok (.iconst 0, 1) := by decide +kernel
theorem dJ8_newLength_cabcc_9 : decode cJ8_newLength_cabcc 9 = .ok (.iload_n 3, 1) := by decide +kernel
theorem dJ8_newLength_cabcc_10 : decode cJ8_newLength_cabcc 10 = .ok (.if_icmp .ge 11, 3) := by decide +kernel
theorem dJ8_newLength_cabcc_13 : decode cJ8_newLength_cabcc 13 = .ok (.iload_n 3, 1) := by decide +kernel
theorem dJ8_newLength_cabcc_14 : decode cJ8_newLength_cabcc 14 = .ok (.ldc 200, 2) := by decide +kernel
theorem dJ8_newLength_cabcc_16 : decode cJ8_newLength_cabcc 16 = .ok (.if_icmp .gt 5, 3) := by decide +kernel
theorem dJ8_newLength_cabcc_19 : decode cJ8_newLength_cabcc 19 = .ok (.iload_n 3, 1) := by decide +kernel
theorem dJ8_newLength_cabcc_20 : decode cJ8_newLength_cabcc 20 = .ok (.ireturn, 1) := by decide +kernel
theorem dJ8_newLength_cabcc_21 : decode cJ8_newLength_cabcc 21 = .ok (.iload_n 0, 1) := by decide +kernel
theorem dJ8_newLength_cabcc_22 : decode cJ8_newLength_cabcc 22 = .ok (.iload_n 1, 1) := by decide +kernel
theorem dJ8_newLength_cabcc_23 : decode cJ8_newLength_cabcc 23 = .ok (.invokestatic 201, 3) := by decide +kernel
theorem dJ8_newLength_cabcc_26 : decode cJ8_newLength_cabcc 26 = .ok (.ireturn, 1) := by decide +kernel
theorem dJ8_hugeLength_7cf53_0 : decode cJ8_hugeLength_7cf53 0 = .ok (.iload_n 0, 1) := by decide +kernel
theorem dJ8_hugeLength_7cf53_1 : decode cJ8_hugeLength_7cf53 1 = .ok (.iload_n 1, 1) := by decide +kernel
theorem dJ8_hugeLength_7cf53_2 : decode cJ8_hugeLength_7cf53 2 = .ok (.iadd, 1) := by decide +kernel
theorem dJ8_hugeLength_7cf53_3 : decode cJ8_hugeLength_7cf53 3 = .ok (.istore_n 2, 1) := by decide +kernel
theorem dJ8_hugeLength_7cf53_4 : decode cJ8_hugeLength_7cf53 4 = .ok (.iload_n 2, 1) := by decide +kernel
theorem dJ8_hugeLength_7cf53_5 : decode cJ8_hugeLength_7cf53 5 = .ok (.ifCond .ge 44, 3) := by decide +kernel
theorem dJ8_hugeLength_7cf53_8 : decode cJ8_hugeLength_7cf53 8 = .ok (.new 204, 3) := by decide +kernel
theorem dJ8_hugeLength_7cf53_11 : decode cJ8_hugeLength_7cf53 11 = .ok (.dup, 1) := by decide +kernel
theorem dJ8_hugeLength_7cf53_12 : decode cJ8_hugeLength_7cf53 12 = .ok (.new 89, 3) := by decide +kernel
theorem dJ8_hugeLength_7cf53_15 : decode cJ8_hugeLength_7cf53 15 = .ok (.dup, 1) := by decide +kernel
theorem dJ8_hugeLength_7cf53_16 : decode cJ8_hugeLength_7cf53 16 = .ok (.invokespecial 91, 3) := by decide +kernel
theorem dJ8_hugeLength_7cf53_19 : decode cJ8_hugeLength_7cf53 19 = .ok (.ldc 206, 2) := by decide +kernel
theorem dJ8_hugeLength_7cf53_21 : decode cJ8_hugeLength_7cf53 21 = .ok (.invokevirtual 94, 3) := by decide +kernel
theorem dJ8_hugeLength_7cf53_24 : decode cJ8_hugeLength_7cf53 24 = .ok (.iload_n 0, 1) := by decide +kernel
theorem dJ8_hugeLength_7cf53_25 : decode cJ8_hugeLength_7cf53 25 = .ok (.invokevirtual 98, 3) := by decide +kernel
theorem dJ8_hugeLength_7cf53_28 : decode cJ8_hugeLength_7cf53 28 = .ok (.ldc 208, 2) := by decide +kernel
theorem dJ8_hugeLength_7cf53_30 : decode cJ8_hugeLength_7cf53 30 = .ok (.invokevirtual 94, 3) := by decide +kernel
theorem dJ8_hugeLength_7cf53_33 : decode cJ8_hugeLength_7cf53 33 = .ok (.iload_n 1, 1) := by decide +kernel
theorem dJ8_hugeLength_7cf53_34 : decode cJ8_hugeLength_7cf53 34 = .ok (.invokevirtual 98, 3) := by decide +kernel
theorem dJ8_hugeLength_7cf53_37 : decode cJ8_hugeLength_7cf53 37 = .ok (.ldc 210, 2) := by decide +kernel
theorem dJ8_hugeLength_7cf53_39 : decode cJ8_hugeLength_7cf53 39 = .ok (.invokevirtual 94, 3) := by decide +kernel
theorem dJ8_hugeLength_7cf53_42 : decode cJ8_hugeLength_7cf53 42 = .ok (.invokevirtual 101, 3) := by decide +kernel
theorem dJ8_hugeLength_7cf53_45 : decode cJ8_hugeLength_7cf53 45 = .ok (.invokespecial 212, 3) := by decide +kernel
theorem dJ8_hugeLength_7cf53_48 : decode cJ8_hugeLength_7cf53 48 = .ok (.athrow, 1) := by decide +kernel
theorem dJ8_hugeLength_7cf53_49 : decode cJ8_hugeLength_7cf53 49 = .ok (.iload_n 2, 1) := by decide +kernel
theorem dJ8_hugeLength_7cf53_50 : decode cJ8_hugeLength_7cf53 50 = .ok (.ldc 200, 2) := by decide +kernel
theorem dJ8_hugeLength_7cf53_52 : decode cJ8_hugeLength_7cf53 52 = .ok (.if_icmp .gt 6, 3) := by decide +kernel
theorem dJ8_hugeLength_7cf53_55 : decode cJ8_hugeLength_7cf53 55 = .ok (.ldc 200, 2) := by decide +kernel
theorem dJ8_hugeLength_7cf53_57 : decode cJ8_hugeLength_7cf53 57 = .ok (.ireturn, 1) := by decide +kernel
theorem dJ8_hugeLength_7cf53_58 : decode cJ8_hugeLength_7cf53 58 = .ok (.iload_n 2, 1) := by decide +kernel
theorem dJ8_hugeLength_7cf53_59 : decode cJ8_hugeLength_7cf53 59 = .ok (.ireturn, 1) := by decide +kernel
theorem dJ3_checkIndex_8e157_0 : decode cJ3_checkIndex_8e157 0 = .ok (.iload_n 0, 1) := by decide +kernel
theorem dJ3_checkIndex_8e157_1 : decode cJ3_checkIndex_8e157 1 = .ok (.ifCond .lt 8, 3) := by decide +kernel
theorem dJ3_checkIndex_8e157_4 : decode cJ3_checkIndex_8e157 4 = .ok (.iload_n 0, 1) := by decide +kernel
theorem dJ3_checkIndex_8e157_5 : decode cJ3_checkIndex_8e157 5 = .ok (.iload_n 1, 1) := by decide +kernel
theorem dJ3_checkIndex_8e157_6 : decode cJ3_checkIndex_8e157 6 = .ok (.if_icmp .lt 10, 3) := by decide +kernel
theorem dJ3_checkIndex_8e157_9 : decode cJ3_checkIndex_8e157 9 = .ok (.aload_n 2, 1) := by decide +kernel
theorem dJ3_checkIndex_8e157_10 : decode cJ3_checkIndex_8e157 10 = .ok (.iload_n 0, 1) := by decide +kernel
theorem dJ3_checkIndex_8e157_11 : decode cJ3_checkIndex_8e157 11 = .ok (.iload_n 1, 1) := by decide +kernel
theorem dJ3_checkIndex_8e157_12 : decode cJ3_checkIndex_8e157 12 = .ok (.invokestatic 95, 3) := by decide +kernel
theorem dJ3_checkIndex_8e157_15 : decode cJ3_checkIndex_8e157 15 = .ok (.athrow, 1) := by decide +kernel
theorem dJ3_checkIndex_8e157_16 : decode cJ3_checkIndex_8e157 16 = .ok (.iload_n 0, 1) := by decide +kernel
theorem dJ3_checkIndex_8e157_17 : decode cJ3_checkIndex_8e157 17 = .ok (.ireturn, 1) := by decide +kernel
theorem dL_cell_0 : decode cL_cell 0 = .ok (.iload_n 1, 1) := by decide +kernel
theorem dL_cell_1 : decode cL_cell 1 = .ok (.aload_n 0, 1) := by decide +kernel
theorem dL_cell_2 : decode cL_cell 2 = .ok (.arraylength, 1) := by decide +kernel
theorem dL_cell_3 : decode cL_cell 3 = .ok (.if_icmp .ge 9, 3) := by decide +kernel
theorem dL_cell_6 : decode cL_cell 6 = .ok (.aload_n 0, 1) := by decide +kernel
theorem dL_cell_7 : decode cL_cell 7 = .ok (.iload_n 1, 1) := by decide +kernel
theorem dL_cell_8 : decode cL_cell 8 = .ok (.iaload, 1) := by decide +kernel
theorem dL_cell_9 : decode cL_cell 9 = .ok (.goto 4, 3) := by decide +kernel
theorem dL_cell_12 : decode cL_cell 12 = .ok (.iconst 0, 1) := by decide +kernel
theorem dL_cell_13 : decode cL_cell 13 = .ok (.ireturn, 1) := by decide +kernel
set_option maxRecDepth 20000 in
theorem ggL_put_X5_put : GoodIn wsL_put wsX5_put := goodIn_ca (goodIn_ca (goodIn_r _ [7, 8, 9, 10, 11, 12, 13, 14, 15, 6, 16, 17, 18, 19, 20, 21, 22, 23, 24, 25, 26, 27, 28, 29, 30, 31, 32, 33, 34, 35, 36, 37, 38, 39, 40, 41, 42, 43, 44, 45, 46, 47, 48, 49, 50, 51, 52, 53, 54, 55, 56, 57, 58, 59, 60, 61, 62, 63, 64, 65, 66, 67, 68] (by decide +kernel) (by decide +kernel)) (goodIn_sub (fun _ h => List.mem_cons_of_mem _ (List.mem_append_left _ (List.mem_append_right _ h))) (by decide +kernel))) (goodIn_sub (fun _ h => List.mem_cons_of_mem _ (List.mem_append_right _ h)) (by decide +kernel))
set_option maxRecDepth 20000 in
theorem gL_put_X5_put : GoodIn wsL_put (wsV RL 7 RX5 yX5_put wsX5_put) := goodIn_app (goodIn_of _ (by decide +kernel)) ggL_put_X5_put
theorem dL_put_0 : decode cL_put 0 = .ok (.aload 4, 2) := by decide +kernel
theorem dL_put_2 : decode cL_put 2 = .ok (.iconst 0, 1) := by decide +kernel
theorem dL_put_3 : decode cL_put 3 = .ok (.aload_n 0, 1) := by decide +kernel
theorem dL_put_4 : decode cL_put 4 = .ok (.iload_n 1, 1) := by decide +kernel
theorem dL_put_5 : decode cL_put 5 = .ok (.iload_n 2, 1) := by decide +kernel
theorem dL_put_6 : decode cL_put 6 = .ok (.iload_n 3, 1) := by decide +kernel
theorem dL_put_7 : decode cL_put 7 = .ok (.invokevirtual 7, 3) := by decide +kernel
theorem dL_put_10 : decode cL_put 10 = .ok (.i2l, 1) := by decide +kernel
theorem dL_put_11 : decode cL_put 11 = .ok (.lastore, 1) := by decide +kernel
theorem dL_put_12 : decode cL_put 12 = .ok (.goto 11, 3) := by decide +kernel
theorem dL_put_15 : decode cL_put 15 = .ok (.astore 5, 2) := by decide +kernel
theorem dL_put_17 : decode cL_put 17 = .ok (.iconst 1, 1) := by decide +kernel
theorem dL_put_18 : decode cL_put 18 = .ok (.ireturn, 1) := by decide +kernel
theorem dL_put_19 : decode cL_put 19 = .ok (.astore 5, 2) := by decide +kernel
theorem dL_put_21 : decode cL_put 21 = .ok (.iconst 2, 1) := by decide +kernel
theorem dL_put_22 : decode cL_put 22 = .ok (.ireturn, 1) := by decide +kernel
theorem dL_put_23 : decode cL_put 23 = .ok (.iconst 0, 1) := by decide +kernel
theorem dL_put_24 : decode cL_put 24 = .ok (.ireturn, 1) := by decide +kernel
set_option maxRecDepth 20000 in
theorem ggL_layOut_X5_layOut : GoodIn wsL_layOut wsX5_layOut := goodIn_ca (goodIn_r _ [6, 7, 8, 9, 10, 11, 12, 13, 14, 15, 16, 17, 18, 19, 20, 21, 22, 23, 24, 25, 26, 27, 28, 29, 30, 31, 32, 33, 34, 35, 36, 37, 38, 39, 40, 41, 42, 43, 44, 45, 46, 47, 48, 49, 50, 51, 52, 53, 54, 55, 56, 57, 58, 59, 60, 61, 62, 63, 64, 65, 66, 67, 68, 69, 70, 71, 72, 73, 74, 75, 76, 77, 78, 79, 80, 81, 82, 83, 84] (by decide +kernel) (by decide +kernel)) (goodIn_sub (fun _ h => List.mem_cons_of_mem _ (List.mem_append_right _ h)) (by decide +kernel))
set_option maxRecDepth 20000 in
theorem gL_layOut_X5_layOut : GoodIn wsL_layOut (wsV RL 17 RX5 yX5_layOut wsX5_layOut) := goodIn_app (goodIn_of _ (by decide +kernel)) ggL_layOut_X5_layOut
theorem dL_layOut_0 : decode cL_layOut 0 = .ok (.aload_n 1, 1) := by decide +kernel
theorem dL_layOut_1 : decode cL_layOut 1 = .ok (.iconst 0, 1) := by decide +kernel
theorem dL_layOut_2 : decode cL_layOut 2 = .ok (.aload_n 0, 1) := by decide +kernel
theorem dL_layOut_3 : decode cL_layOut 3 = .ok (.invokevirtual 17, 3) := by decide +kernel
theorem dL_layOut_6 : decode cL_layOut 6 = .ok (.i2l, 1) := by decide +kernel
theorem dL_layOut_7 : decode cL_layOut 7 = .ok (.lastore, 1) := by decide +kernel
theorem dL_layOut_8 : decode cL_layOut 8 = .ok (.goto 6, 3) := by decide +kernel
theorem dL_layOut_11 : decode cL_layOut 11 = .ok (.astore_n 2, 1) := by decide +kernel
theorem dL_layOut_12 : decode cL_layOut 12 = .ok (.iconst 1, 1) := by decide +kernel
theorem dL_layOut_13 : decode cL_layOut 13 = .ok (.ireturn, 1) := by decide +kernel
theorem dL_layOut_14 : decode cL_layOut 14 = .ok (.iconst 0, 1) := by decide +kernel
theorem dL_layOut_15 : decode cL_layOut 15 = .ok (.ireturn, 1) := by decide +kernel
set_option maxRecDepth 20000 in
theorem ggL_placeOf_X5_placeOf : GoodIn wsL_placeOf wsX5_placeOf := goodIn_ca (goodIn_r _ [6, 7, 8, 9, 5, 10, 11, 12, 13, 14, 15, 16, 17, 18, 19, 20, 21, 22, 23, 24, 25, 26] (by decide +kernel) (by decide +kernel)) (goodIn_sub (fun _ h => List.mem_cons_of_mem _ (List.mem_append_right _ h)) (by decide +kernel))
set_option maxRecDepth 20000 in
theorem gL_placeOf_X5_placeOf : GoodIn wsL_placeOf (wsV RL 21 RX5 yX5_placeOf wsX5_placeOf) := goodIn_app (goodIn_of _ (by decide +kernel)) ggL_placeOf_X5_placeOf
theorem dL_placeOf_0 : decode cL_placeOf 0 = .ok (.aload_n 2, 1) := by decide +kernel
theorem dL_placeOf_1 : decode cL_placeOf 1 = .ok (.iconst 0, 1) := by decide +kernel
theorem dL_placeOf_2 : decode cL_placeOf 2 = .ok (.aload_n 0, 1) := by decide +kernel
theorem dL_placeOf_3 : decode cL_placeOf 3 = .ok (.iload_n 1, 1) := by decide +kernel
theorem dL_placeOf_4 : decode cL_placeOf 4 = .ok (.invokevirtual 21, 3) := by decide +kernel
theorem dL_placeOf_7 : decode cL_placeOf 7 = .ok (.i2l, 1) := by decide +kernel
theorem dL_placeOf_8 : decode cL_placeOf 8 = .ok (.lastore, 1) := by decide +kernel
theorem dL_placeOf_9 : decode cL_placeOf 9 = .ok (.goto 6, 3) := by decide +kernel
theorem dL_placeOf_12 : decode cL_placeOf 12 = .ok (.astore_n 3, 1) := by decide +kernel
theorem dL_placeOf_13 : decode cL_placeOf 13 = .ok (.iconst 1, 1) := by decide +kernel
theorem dL_placeOf_14 : decode cL_placeOf 14 = .ok (.ireturn, 1) := by decide +kernel
theorem dL_placeOf_15 : decode cL_placeOf 15 = .ok (.iconst 0, 1) := by decide +kernel
theorem dL_placeOf_16 : decode cL_placeOf 16 = .ok (.ireturn, 1) := by decide +kernel
set_option maxRecDepth 20000 in
theorem ggL_turnover_X5_turnover : GoodIn wsL_turnover wsX5_turnover := goodIn_ca (goodIn_r _ [6, 7, 8, 9, 5, 10, 11, 12, 13, 14, 15, 16, 17, 18, 19, 20, 21, 22, 23, 24, 25, 26] (by decide +kernel) (by decide +kernel)) (goodIn_sub (fun _ h => List.mem_cons_of_mem _ (List.mem_append_right _ h)) (by decide +kernel))
set_option maxRecDepth 20000 in
theorem gL_turnover_X5_turnover : GoodIn wsL_turnover (wsV RL 25 RX5 yX5_turnover wsX5_turnover) := goodIn_app (goodIn_of _ (by decide +kernel)) ggL_turnover_X5_turnover
theorem dL_turnover_0 : decode cL_turnover 0 = .ok (.aload_n 2, 1) := by decide +kernel
theorem dL_turnover_1 : decode cL_turnover 1 = .ok (.iconst 0, 1) := by decide +kernel
theorem dL_turnover_2 : decode cL_turnover 2 = .ok (.aload_n 0, 1) := by decide +kernel
theorem dL_turnover_3 : decode cL_turnover 3 = .ok (.iload_n 1, 1) := by decide +kernel
theorem dL_turnover_4 : decode cL_turnover 4 = .ok (.invokevirtual 25, 3) := by decide +kernel
theorem dL_turnover_7 : decode cL_turnover 7 = .ok (.i2l, 1) := by decide +kernel
theorem dL_turnover_8 : decode cL_turnover 8 = .ok (.lastore, 1) := by decide +kernel
theorem dL_turnover_9 : decode cL_turnover 9 = .ok (.goto 6, 3) := by decide +kernel
theorem dL_turnover_12 : decode cL_turnover 12 = .ok (.astore_n 3, 1) := by decide +kernel
theorem dL_turnover_13 : decode cL_turnover 13 = .ok (.iconst 1, 1) := by decide +kernel
theorem dL_turnover_14 : decode cL_turnover 14 = .ok (.ireturn, 1) := by decide +kernel
theorem dL_turnover_15 : decode cL_turnover 15 = .ok (.iconst 0, 1) := by decide +kernel
theorem dL_turnover_16 : decode cL_turnover 16 = .ok (.ireturn, 1) := by decide +kernel
set_option maxRecDepth 20000 in
theorem ggL_distance_X5_distance : GoodIn wsL_distance wsX5_distance := goodIn_ca (goodIn_ca (goodIn_r _ [7, 8, 9, 10, 11, 12, 6, 13, 14, 15, 16, 17, 18, 19, 20, 21, 22, 23, 24, 25, 26, 27, 28, 29, 30, 31, 32, 33, 34, 35, 36, 37, 38, 39, 40, 41, 42, 43, 44, 45, 46, 47] (by decide +kernel) (by decide +kernel)) (goodIn_sub (fun _ h => List.mem_cons_of_mem _ (List.mem_append_left _ (List.mem_append_right _ h))) (by decide +kernel))) (goodIn_sub (fun _ h => List.mem_cons_of_mem _ (List.mem_append_right _ h)) (by decide +kernel))
set_option maxRecDepth 20000 in
theorem gL_distance_X5_distance : GoodIn wsL_distance (wsV RL 28 RX5 yX5_distance wsX5_distance) := goodIn_app (goodIn_of _ (by decide +kernel)) ggL_distance_X5_distance
theorem dL_distance_0 : decode cL_distance 0 = .ok (.aload_n 3, 1) := by decide +kernel
theorem dL_distance_1 : decode cL_distance 1 = .ok (.iconst 0, 1) := by decide +kernel
theorem dL_distance_2 : decode cL_distance 2 = .ok (.aload_n 0, 1) := by decide +kernel
theorem dL_distance_3 : decode cL_distance 3 = .ok (.iload_n 1, 1) := by decide +kernel
theorem dL_distance_4 : decode cL_distance 4 = .ok (.iload_n 2, 1) := by decide +kernel
theorem dL_distance_5 : decode cL_distance 5 = .ok (.invokevirtual 28, 3) := by decide +kernel
theorem dL_distance_8 : decode cL_distance 8 = .ok (.i2l, 1) := by decide +kernel
theorem dL_distance_9 : decode cL_distance 9 = .ok (.lastore, 1) := by decide +kernel
theorem dL_distance_10 : decode cL_distance 10 = .ok (.goto 11, 3) := by decide +kernel
theorem dL_distance_13 : decode cL_distance 13 = .ok (.astore 4, 2) := by decide +kernel
theorem dL_distance_15 : decode cL_distance 15 = .ok (.iconst 1, 1) := by decide +kernel
theorem dL_distance_16 : decode cL_distance 16 = .ok (.ireturn, 1) := by decide +kernel
theorem dL_distance_17 : decode cL_distance 17 = .ok (.astore 4, 2) := by decide +kernel
theorem dL_distance_19 : decode cL_distance 19 = .ok (.iconst 2, 1) := by decide +kernel
theorem dL_distance_20 : decode cL_distance 20 = .ok (.ireturn, 1) := by decide +kernel
theorem dL_distance_21 : decode cL_distance 21 = .ok (.iconst 0, 1) := by decide +kernel
theorem dL_distance_22 : decode cL_distance 22 = .ok (.ireturn, 1) := by decide +kernel
set_option maxRecDepth 20000 in
theorem ggL_order_X5_order : GoodIn wsL_order wsX5_order := goodIn_ca (goodIn_ca (goodIn_r _ [7, 8, 9, 10, 11, 12, 13, 14, 15, 6, 16, 17, 18, 19, 20, 21, 22, 23, 24, 25, 26, 27, 28, 29, 30, 31, 32, 33, 34, 35, 36, 37, 38, 39, 40, 41, 42, 43, 44, 45, 46, 47, 48, 49, 50, 51, 52, 53, 54, 55, 56, 57, 58, 59, 60, 61, 62, 63, 64, 65, 66, 67, 68, 69, 70, 71, 72, 73, 74, 75, 76, 77, 78, 79, 80, 81, 82, 83, 84, 85, 86, 87, 88, 89, 90, 91, 92, 93, 94, 95, 96, 97, 98, 99, 100, 101, 102] (by decide +kernel) (by decide +kernel)) (goodIn_sub (fun _ h => List.mem_cons_of_mem _ (List.mem_append_left _ (List.mem_append_right _ h))) (by decide +kernel))) (goodIn_sub (fun _ h => List.mem_cons_of_mem _ (List.mem_append_right _ h)) (by decide +kernel))
set_option maxRecDepth 20000 in
theorem gL_order_X5_order : GoodIn wsL_order (wsV RL 32 RX5 yX5_order wsX5_order) := goodIn_app (goodIn_of _ (by decide +kernel)) ggL_order_X5_order
theorem dL_order_0 : decode cL_order 0 = .ok (.aload_n 2, 1) := by decide +kernel
theorem dL_order_1 : decode cL_order 1 = .ok (.iconst 0, 1) := by decide +kernel
theorem dL_order_2 : decode cL_order 2 = .ok (.aload_n 0, 1) := by decide +kernel
theorem dL_order_3 : decode cL_order 3 = .ok (.iload_n 1, 1) := by decide +kernel
theorem dL_order_4 : decode cL_order 4 = .ok (.invokevirtual 32, 3) := by decide +kernel
theorem dL_order_7 : decode cL_order 7 = .ok (.i2l, 1) := by decide +kernel
theorem dL_order_8 : decode cL_order 8 = .ok (.lastore, 1) := by decide +kernel
theorem dL_order_9 : decode cL_order 9 = .ok (.goto 9, 3) := by decide +kernel
theorem dL_order_12 : decode cL_order 12 = .ok (.astore_n 3, 1) := by decide +kernel
theorem dL_order_13 : decode cL_order 13 = .ok (.iconst 1, 1) := by decide +kernel
theorem dL_order_14 : decode cL_order 14 = .ok (.ireturn, 1) := by decide +kernel
theorem dL_order_15 : decode cL_order 15 = .ok (.astore_n 3, 1) := by decide +kernel
theorem dL_order_16 : decode cL_order 16 = .ok (.iconst 2, 1) := by decide +kernel
theorem dL_order_17 : decode cL_order 17 = .ok (.ireturn, 1) := by decide +kernel
theorem dL_order_18 : decode cL_order 18 = .ok (.iconst 0, 1) := by decide +kernel
theorem dL_order_19 : decode cL_order 19 = .ok (.ireturn, 1) := by decide +kernel
set_option maxRecDepth 20000 in
theorem ggL_line_X5_line : GoodIn wsL_line wsX5_line := goodIn_ca (goodIn_ca (goodIn_ca (goodIn_r _ [8, 9, 10, 11, 12, 13, 14, 15, 16, 7, 17, 18, 19, 20, 21, 22, 23, 24, 25, 26, 27, 28, 29, 30, 31, 32, 33, 34, 35, 36, 37, 38, 39, 40, 41, 42, 43, 44, 45, 46, 47, 48, 49, 50, 51, 52, 53, 54, 55, 56, 57, 58, 59, 60, 61, 62, 63, 64, 65, 66, 67, 68, 69, 70, 71, 72, 73, 74, 75, 76, 77, 78, 79, 80, 81, 82, 83, 84, 85, 86, 87, 88, 89, 90, 91, 92, 93, 94, 95, 96, 97] (by decide +kernel) (by decide +kernel)) (goodIn_sub (fun _ h => List.mem_cons_of_mem _ (List.mem_append_left _ (List.mem_append_left _ (List.mem_append_right _ h)))) (by decide +kernel))) (goodIn_sub (fun _ h => List.mem_cons_of_mem _ (List.mem_append_left _ (List.mem_append_right _ h))) (by decide +kernel))) (goodIn_sub (fun _ h => List.mem_cons_of_mem _ (List.mem_append_right _ h)) (by decide +kernel))
set_option maxRecDepth 20000 in
theorem gL_line_X5_line : GoodIn wsL_line (wsV RL 37 RX5 yX5_line wsX5_line) := goodIn_app (goodIn_of _ (by decide +kernel)) ggL_line_X5_line
theorem dL_line_0 : decode cL_line 0 = .ok (.aload 4, 2) := by decide +kernel
theorem dL_line_2 : decode cL_line 2 = .ok (.iconst 0, 1) := by decide +kernel
theorem dL_line_3 : decode cL_line 3 = .ok (.aload_n 0, 1) := by decide +kernel
theorem dL_line_4 : decode cL_line 4 = .ok (.iload_n 1, 1) := by decide +kernel
theorem dL_line_5 : decode cL_line 5 = .ok (.iload_n 2, 1) := by decide +kernel
theorem dL_line_6 : decode cL_line 6 = .ok (.iload_n 3, 1) := by decide +kernel
theorem dL_line_7 : decode cL_line 7 = .ok (.invokevirtual 37, 3) := by decide +kernel
theorem dL_line_10 : decode cL_line 10 = .ok (.i2l, 1) := by decide +kernel
theorem dL_line_11 : decode cL_line 11 = .ok (.lastore, 1) := by decide +kernel
theorem dL_line_12 : decode cL_line 12 = .ok (.goto 15, 3) := by decide +kernel
theorem dL_line_15 : decode cL_line 15 = .ok (.astore 5, 2) := by decide +kernel
theorem dL_line_17 : decode cL_line 17 = .ok (.iconst 1, 1) := by decide +kernel
theorem dL_line_18 : decode cL_line 18 = .ok (.ireturn, 1) := by decide +kernel
theorem dL_line_19 : decode cL_line 19 = .ok (.astore 5, 2) := by decide +kernel
theorem dL_line_21 : decode cL_line 21 = .ok (.iconst 2, 1) := by decide +kernel
theorem dL_line_22 : decode cL_line 22 = .ok (.ireturn, 1) := by decide +kernel
theorem dL_line_23 : decode cL_line 23 = .ok (.astore 5, 2) := by decide +kernel
theorem dL_line_25 : decode cL_line 25 = .ok (.iconst 3, 1) := by decide +kernel
theorem dL_line_26 : decode cL_line 26 = .ok (.ireturn, 1) := by decide +kernel
theorem dL_line_27 : decode cL_line 27 = .ok (.iconst 0, 1) := by decide +kernel
theorem dL_line_28 : decode cL_line 28 = .ok (.ireturn, 1) := by decide +kernel
set_option maxRecDepth 20000 in
theorem ggL_stateOf_X5_stateOf : GoodIn wsL_stateOf wsX5_stateOf := goodIn_ca (goodIn_r _ [6, 7, 8, 9, 5, 10, 11, 12, 13, 14, 15, 16, 17, 18, 19, 20, 21, 22, 23, 24, 25, 26, 27, 28, 29, 30, 31, 32, 33, 34, 35, 36, 37, 38, 39, 40, 41, 42, 43, 44, 45, 46, 47, 48, 49, 50, 51] (by decide +kernel) (by decide +kernel)) (goodIn_sub (fun _ h => List.mem_cons_of_mem _ (List.mem_append_right _ h)) (by decide +kernel))
set_option maxRecDepth 20000 in
theorem gL_stateOf_X5_stateOf : GoodIn wsL_stateOf (wsV RL 40 RX5 yX5_stateOf wsX5_stateOf) := goodIn_app (goodIn_of _ (by decide +kernel)) ggL_stateOf_X5_stateOf
theorem dL_stateOf_0 : decode cL_stateOf 0 = .ok (.aload_n 2, 1) := by decide +kernel
theorem dL_stateOf_1 : decode cL_stateOf 1 = .ok (.iconst 0, 1) := by decide +kernel
theorem dL_stateOf_2 : decode cL_stateOf 2 = .ok (.aload_n 0, 1) := by decide +kernel
theorem dL_stateOf_3 : decode cL_stateOf 3 = .ok (.iload_n 1, 1) := by decide +kernel
theorem dL_stateOf_4 : decode cL_stateOf 4 = .ok (.invokevirtual 40, 3) := by decide +kernel
theorem dL_stateOf_7 : decode cL_stateOf 7 = .ok (.i2l, 1) := by decide +kernel
theorem dL_stateOf_8 : decode cL_stateOf 8 = .ok (.lastore, 1) := by decide +kernel
theorem dL_stateOf_9 : decode cL_stateOf 9 = .ok (.goto 6, 3) := by decide +kernel
theorem dL_stateOf_12 : decode cL_stateOf 12 = .ok (.astore_n 3, 1) := by decide +kernel
theorem dL_stateOf_13 : decode cL_stateOf 13 = .ok (.iconst 1, 1) := by decide +kernel
theorem dL_stateOf_14 : decode cL_stateOf 14 = .ok (.ireturn, 1) := by decide +kernel
theorem dL_stateOf_15 : decode cL_stateOf 15 = .ok (.iconst 0, 1) := by decide +kernel
theorem dL_stateOf_16 : decode cL_stateOf 16 = .ok (.ireturn, 1) := by decide +kernel
set_option maxRecDepth 20000 in
theorem ggL_lengthAlone_X5_lengthAlone : GoodIn wsL_lengthAlone wsX5_lengthAlone := goodIn_ca (goodIn_r _ [6, 7, 8, 9, 10, 5, 11, 12, 13, 14, 15, 16, 17, 18, 19, 20, 21, 22, 23, 24, 25, 26, 27, 28, 29, 30, 31, 32, 33, 34, 35, 36, 37, 38, 39, 40, 41, 42, 43, 44, 45, 46, 47, 48, 49, 50, 51, 52, 53, 54, 55, 56, 57, 58, 59, 60, 61, 62, 63, 64, 65, 66, 67, 68, 69, 70, 71, 72, 73, 74, 75, 76, 77, 78, 79, 80, 81, 82, 83, 84, 85, 86, 87, 88, 89, 90, 91, 92, 93, 94, 95, 96, 97, 98, 99, 100, 101, 102, 103, 104, 105, 106, 107, 108, 109, 110, 111, 112, 113, 114, 115, 116, 117, 118, 119, 120] (by decide +kernel) (by decide +kernel)) (goodIn_sub (fun _ h => List.mem_cons_of_mem _ (List.mem_append_right _ h)) (by decide +kernel))
set_option maxRecDepth 20000 in
theorem gL_lengthAlone_X5_lengthAlone : GoodIn wsL_lengthAlone (wsV RL 43 RX5 yX5_lengthAlone wsX5_lengthAlone) := goodIn_app (goodIn_of _ (by decide +kernel)) ggL_lengthAlone_X5_lengthAlone
theorem dL_lengthAlone_0 : decode cL_lengthAlone 0 = .ok (.aload_n 2, 1) := by decide +kernel
theorem dL_lengthAlone_1 : decode cL_lengthAlone 1 = .ok (.iconst 0, 1) := by decide +kernel
theorem dL_lengthAlone_2 : decode cL_lengthAlone 2 = .ok (.aload_n 0, 1) := by decide +kernel
theorem dL_lengthAlone_3 : decode cL_lengthAlone 3 = .ok (.iload_n 1, 1) := by decide +kernel
theorem dL_lengthAlone_4 : decode cL_lengthAlone 4 = .ok (.invokevirtual 43, 3) := by decide +kernel
theorem dL_lengthAlone_7 : decode cL_lengthAlone 7 = .ok (.i2l, 1) := by decide +kernel
theorem dL_lengthAlone_8 : decode cL_lengthAlone 8 = .ok (.lastore, 1) := by decide +kernel
theorem dL_lengthAlone_9 : decode cL_lengthAlone 9 = .ok (.goto 6, 3) := by decide +kernel
theorem dL_lengthAlone_12 : decode cL_lengthAlone 12 = .ok (.astore_n 3, 1) := by decide +kernel
theorem dL_lengthAlone_13 : decode cL_lengthAlone 13 = .ok (.iconst 1, 1) := by decide +kernel
theorem dL_lengthAlone_14 : decode cL_lengthAlone 14 = .ok (.ireturn, 1) := by decide +kernel
theorem dL_lengthAlone_15 : decode cL_lengthAlone 15 = .ok (.iconst 0, 1) := by decide +kernel
theorem dL_lengthAlone_16 : decode cL_lengthAlone 16 = .ok (.ireturn, 1) := by decide +kernel
set_option maxRecDepth 20000 in
theorem ggL_setCapacity_X5_setCapacity : GoodIn wsL_setCapacity wsX5_setCapacity := goodIn_ca (goodIn_ca (goodIn_r _ [7, 8, 9, 10, 11, 12, 13, 14, 15, 16, 17, 18, 19, 20, 21, 22, 23, 24, 25, 26, 27, 28, 6, 29, 30, 31, 32, 33, 34, 35, 36, 37, 38, 39, 40, 41, 42, 43, 44, 45, 46, 47, 48, 49, 50, 51, 52, 53, 54, 55, 56, 57, 58, 59, 60, 61, 62, 63, 64, 65, 66, 67, 68, 69, 70, 71, 72, 73, 74, 75, 76, 77, 78, 79, 80, 81, 82, 83, 84, 85, 86] (by decide +kernel) (by decide +kernel)) (goodIn_sub (fun _ h => List.mem_cons_of_mem _ (List.mem_append_left _ (List.mem_append_right _ h))) (by decide +kernel))) (goodIn_sub (fun _ h => List.mem_cons_of_mem _ (List.mem_append_right _ h)) (by decide +kernel))
set_option maxRecDepth 20000 in
theorem gL_setCapacity_X5_setCapacity : GoodIn wsL_setCapacity (wsV RL 46 RX5 yX5_setCapacity wsX5_setCapacity) := goodIn_app (goodIn_of _ (by decide +kernel)) ggL_setCapacity_X5_setCapacity
theorem dL_setCapacity_0 : decode cL_setCapacity 0 = .ok (.aload_n 2, 1) := by decide +kernel
theorem dL_setCapacity_1 : decode cL_setCapacity 1 = .ok (.iconst 0, 1) := by decide +kernel
theorem dL_setCapacity_2 : decode cL_setCapacity 2 = .ok (.aload_n 0, 1) := by decide +kernel
theorem dL_setCapacity_3 : decode cL_setCapacity 3 = .ok (.iload_n 1, 1) := by decide +kernel
theorem dL_setCapacity_4 : decode cL_setCapacity 4 = .ok (.invokevirtual 46, 3) := by decide +kernel
theorem dL_setCapacity_7 : decode cL_setCapacity 7 = .ok (.i2l, 1) := by decide +kernel
theorem dL_setCapacity_8 : decode cL_setCapacity 8 = .ok (.lastore, 1) := by decide +kernel
theorem dL_setCapacity_9 : decode cL_setCapacity 9 = .ok (.goto 9, 3) := by decide +kernel
theorem dL_setCapacity_12 : decode cL_setCapacity 12 = .ok (.astore_n 3, 1) := by decide +kernel
theorem dL_setCapacity_13 : decode cL_setCapacity 13 = .ok (.iconst 1, 1) := by decide +kernel
theorem dL_setCapacity_14 : decode cL_setCapacity 14 = .ok (.ireturn, 1) := by decide +kernel
theorem dL_setCapacity_15 : decode cL_setCapacity 15 = .ok (.astore_n 3, 1) := by decide +kernel
theorem dL_setCapacity_16 : decode cL_setCapacity 16 = .ok (.iconst 2, 1) := by decide +kernel
theorem dL_setCapacity_17 : decode cL_setCapacity 17 = .ok (.ireturn, 1) := by decide +kernel
theorem dL_setCapacity_18 : decode cL_setCapacity 18 = .ok (.iconst 0, 1) := by decide +kernel
theorem dL_setCapacity_19 : decode cL_setCapacity 19 = .ok (.ireturn, 1) := by decide +kernel
set_option maxRecDepth 20000 in
theorem ggL_planWave_X5_planWave : GoodIn wsL_planWave wsX5_planWave := goodIn_ca (goodIn_ca (goodIn_r _ [7, 8, 9, 10, 11, 12, 13, 14, 15, 6, 16, 17, 18, 19, 20, 21, 22, 23, 24, 25, 26, 27, 28, 29, 30, 31, 32, 33, 34, 35, 36, 37, 38, 39, 40, 41, 42, 43, 44, 45, 46, 47, 48, 49, 50, 51, 52, 53, 54, 55, 56, 57, 58, 59, 60, 61, 62, 63, 64, 65, 66, 67, 68, 69, 70, 71, 72, 73, 74, 75, 76, 77, 78, 79, 80, 81, 82, 83, 84, 85, 86, 87, 88, 89, 90, 91, 92, 93, 94, 95, 96, 97, 98, 99, 100, 101, 102, 103, 104, 105, 106, 107, 108, 109, 110, 111, 112, 113, 114, 115, 116, 117, 118, 119, 120, 121, 122, 123, 124, 125, 126, 127, 128, 129, 130, 131, 132, 133, 134, 135, 136, 137, 138, 139, 140, 141, 142, 143, 144, 145, 146, 147, 148, 149, 150, 151, 152, 153, 154, 155, 156, 157, 158, 159, 160, 161, 162, 163, 164, 165, 166, 167, 168, 169, 170, 171, 172, 173, 174, 175, 176, 177, 178, 179, 180, 181, 182, 183, 184, 185, 186, 187, 188, 189, 190, 191, 192, 193, 194, 195, 196, 197, 198, 199, 200, 201, 202, 203, 204, 205, 206, 207, 208, 209, 210, 211, 212, 213, 214, 215, 216, 217, 218, 219, 220, 221, 222, 223, 224, 225, 226, 227, 228, 229, 230, 231, 232, 233, 234, 235, 236, 237, 238, 239, 240, 241, 242, 243, 244, 245, 246, 247, 248, 249, 250, 251, 252, 253, 254, 255, 256, 257, 258, 259, 260, 261, 262, 263, 264, 265, 266, 267, 268, 269, 270, 271, 272, 273, 274, 275, 276, 277, 278, 279, 280, 281] (by decide +kernel) (by decide +kernel)) (goodIn_sub (fun _ h => List.mem_cons_of_mem _ (List.mem_append_left _ (List.mem_append_right _ h))) (by decide +kernel))) (goodIn_sub (fun _ h => List.mem_cons_of_mem _ (List.mem_append_right _ h)) (by decide +kernel))
set_option maxRecDepth 20000 in
theorem gL_planWave_X5_planWave : GoodIn wsL_planWave (wsV RL 49 RX5 yX5_planWave wsX5_planWave) := goodIn_app (goodIn_of _ (by decide +kernel)) ggL_planWave_X5_planWave
theorem dL_planWave_0 : decode cL_planWave 0 = .ok (.aload_n 2, 1) := by decide +kernel
theorem dL_planWave_1 : decode cL_planWave 1 = .ok (.iconst 0, 1) := by decide +kernel
theorem dL_planWave_2 : decode cL_planWave 2 = .ok (.aload_n 0, 1) := by decide +kernel
theorem dL_planWave_3 : decode cL_planWave 3 = .ok (.iload_n 1, 1) := by decide +kernel
theorem dL_planWave_4 : decode cL_planWave 4 = .ok (.invokevirtual 49, 3) := by decide +kernel
theorem dL_planWave_7 : decode cL_planWave 7 = .ok (.i2l, 1) := by decide +kernel
theorem dL_planWave_8 : decode cL_planWave 8 = .ok (.lastore, 1) := by decide +kernel
theorem dL_planWave_9 : decode cL_planWave 9 = .ok (.goto 9, 3) := by decide +kernel
theorem dL_planWave_12 : decode cL_planWave 12 = .ok (.astore_n 3, 1) := by decide +kernel
theorem dL_planWave_13 : decode cL_planWave 13 = .ok (.iconst 1, 1) := by decide +kernel
theorem dL_planWave_14 : decode cL_planWave 14 = .ok (.ireturn, 1) := by decide +kernel
theorem dL_planWave_15 : decode cL_planWave 15 = .ok (.astore_n 3, 1) := by decide +kernel
theorem dL_planWave_16 : decode cL_planWave 16 = .ok (.iconst 2, 1) := by decide +kernel
theorem dL_planWave_17 : decode cL_planWave 17 = .ok (.ireturn, 1) := by decide +kernel
theorem dL_planWave_18 : decode cL_planWave 18 = .ok (.iconst 0, 1) := by decide +kernel
theorem dL_planWave_19 : decode cL_planWave 19 = .ok (.ireturn, 1) := by decide +kernel
set_option maxRecDepth 20000 in
theorem ggL_pick_X5_pick : GoodIn wsL_pick wsX5_pick := goodIn_ca (goodIn_r _ [6, 7, 8, 9, 10, 11, 12, 13, 5, 14, 15, 16, 17, 18, 19, 20, 21, 22, 23, 24, 25, 26, 27, 28, 29, 30, 31, 32, 33, 34, 35, 36, 37, 38, 39, 40, 41, 42, 43, 44, 45, 46, 47, 48, 49, 50, 51, 52, 53, 54, 55, 56, 57, 58, 59, 60, 61, 62, 63, 64, 65, 66, 67, 68, 69, 70, 71, 72, 73, 74, 75, 76, 77, 78, 79, 80, 81, 82, 83, 84, 85, 86, 87, 88, 89, 90, 91, 92, 93, 94, 95, 96, 97, 98, 99, 100, 101, 102, 103, 104, 105, 106, 107, 108, 109, 110, 111, 112, 113, 114, 115, 116, 117, 118, 119, 120, 121, 122, 123, 124, 125, 126, 127, 128, 129, 130, 131, 132, 133, 134, 135, 136, 137, 138, 139, 140, 141, 142, 143, 144, 145, 146, 147, 148, 149, 150, 151, 152, 153, 154, 155, 156, 157, 158, 159, 160, 161, 162, 163, 164, 165, 166, 167, 168, 169, 170, 171, 172, 173, 174] (by decide +kernel) (by decide +kernel)) (goodIn_sub (fun _ h => List.mem_cons_of_mem _ (List.mem_append_right _ h)) (by decide +kernel))
set_option maxRecDepth 20000 in
theorem gL_pick_X5_pick : GoodIn wsL_pick (wsV RL 52 RX5 yX5_pick wsX5_pick) := goodIn_app (goodIn_of _ (by decide +kernel)) ggL_pick_X5_pick
theorem dL_pick_0 : decode cL_pick 0 = .ok (.aload_n 2, 1) := by decide +kernel
theorem dL_pick_1 : decode cL_pick 1 = .ok (.iconst 0, 1) := by decide +kernel
theorem dL_pick_2 : decode cL_pick 2 = .ok (.aload_n 0, 1) := by decide +kernel
theorem dL_pick_3 : decode cL_pick 3 = .ok (.iload_n 1, 1) := by decide +kernel
theorem dL_pick_4 : decode cL_pick 4 = .ok (.invokevirtual 52, 3) := by decide +kernel
theorem dL_pick_7 : decode cL_pick 7 = .ok (.i2l, 1) := by decide +kernel
theorem dL_pick_8 : decode cL_pick 8 = .ok (.lastore, 1) := by decide +kernel
theorem dL_pick_9 : decode cL_pick 9 = .ok (.goto 6, 3) := by decide +kernel
theorem dL_pick_12 : decode cL_pick 12 = .ok (.astore_n 3, 1) := by decide +kernel
theorem dL_pick_13 : decode cL_pick 13 = .ok (.iconst 1, 1) := by decide +kernel
theorem dL_pick_14 : decode cL_pick 14 = .ok (.ireturn, 1) := by decide +kernel
theorem dL_pick_15 : decode cL_pick 15 = .ok (.iconst 0, 1) := by decide +kernel
theorem dL_pick_16 : decode cL_pick 16 = .ok (.ireturn, 1) := by decide +kernel
set_option maxRecDepth 20000 in
theorem ggL_batchOf_X5_batchOf : GoodIn wsL_batchOf wsX5_batchOf := goodIn_ca (goodIn_r _ [6, 7, 8, 9, 10, 5, 11, 12, 13, 14, 15, 16, 17, 18, 19, 20, 21, 22, 23, 24, 25, 26, 27, 28, 29, 30, 31, 32, 33, 34, 35, 36, 37, 38, 39, 40, 41, 42, 43, 44, 45, 46, 47, 48, 49, 50, 51, 52, 53, 54, 55, 56, 57, 58, 59, 60, 61, 62, 63, 64, 65, 66, 67, 68, 69, 70, 71, 72] (by decide +kernel) (by decide +kernel)) (goodIn_sub (fun _ h => List.mem_cons_of_mem _ (List.mem_append_right _ h)) (by decide +kernel))
set_option maxRecDepth 20000 in
theorem gL_batchOf_X5_batchOf : GoodIn wsL_batchOf (wsV RL 55 RX5 yX5_batchOf wsX5_batchOf) := goodIn_app (goodIn_of _ (by decide +kernel)) ggL_batchOf_X5_batchOf
theorem dL_batchOf_0 : decode cL_batchOf 0 = .ok (.aload_n 2, 1) := by decide +kernel
theorem dL_batchOf_1 : decode cL_batchOf 1 = .ok (.iconst 0, 1) := by decide +kernel
theorem dL_batchOf_2 : decode cL_batchOf 2 = .ok (.aload_n 0, 1) := by decide +kernel
theorem dL_batchOf_3 : decode cL_batchOf 3 = .ok (.iload_n 1, 1) := by decide +kernel
theorem dL_batchOf_4 : decode cL_batchOf 4 = .ok (.invokevirtual 55, 3) := by decide +kernel
theorem dL_batchOf_7 : decode cL_batchOf 7 = .ok (.i2l, 1) := by decide +kernel
theorem dL_batchOf_8 : decode cL_batchOf 8 = .ok (.lastore, 1) := by decide +kernel
theorem dL_batchOf_9 : decode cL_batchOf 9 = .ok (.goto 6, 3) := by decide +kernel
theorem dL_batchOf_12 : decode cL_batchOf 12 = .ok (.astore_n 3, 1) := by decide +kernel
theorem dL_batchOf_13 : decode cL_batchOf 13 = .ok (.iconst 1, 1) := by decide +kernel
theorem dL_batchOf_14 : decode cL_batchOf 14 = .ok (.ireturn, 1) := by decide +kernel
theorem dL_batchOf_15 : decode cL_batchOf 15 = .ok (.iconst 0, 1) := by decide +kernel
theorem dL_batchOf_16 : decode cL_batchOf 16 = .ok (.ireturn, 1) := by decide +kernel
set_option maxRecDepth 20000 in
theorem ggL_linesOf_X5_linesOf : GoodIn wsL_linesOf wsX5_linesOf := goodIn_ca (goodIn_r _ [6, 7, 8, 9, 5, 10, 11, 12, 13, 14, 15, 16, 17, 18, 19, 20, 21, 22, 23, 24, 25, 26, 27, 28, 29, 30, 31, 32, 33, 34, 35, 36, 37, 38, 39, 40, 41, 42, 43, 44, 45, 46, 47, 48, 49, 50, 51, 52, 53, 54, 55, 56, 57, 58, 59, 60, 61, 62] (by decide +kernel) (by decide +kernel)) (goodIn_sub (fun _ h => List.mem_cons_of_mem _ (List.mem_append_right _ h)) (by decide +kernel))
set_option maxRecDepth 20000 in
theorem gL_linesOf_X5_linesOf : GoodIn wsL_linesOf (wsV RL 58 RX5 yX5_linesOf wsX5_linesOf) := goodIn_app (goodIn_of _ (by decide +kernel)) ggL_linesOf_X5_linesOf
theorem dL_linesOf_0 : decode cL_linesOf 0 = .ok (.aload_n 2, 1) := by decide +kernel
theorem dL_linesOf_1 : decode cL_linesOf 1 = .ok (.iconst 0, 1) := by decide +kernel
theorem dL_linesOf_2 : decode cL_linesOf 2 = .ok (.aload_n 0, 1) := by decide +kernel
theorem dL_linesOf_3 : decode cL_linesOf 3 = .ok (.iload_n 1, 1) := by decide +kernel
theorem dL_linesOf_4 : decode cL_linesOf 4 = .ok (.invokevirtual 58, 3) := by decide +kernel
theorem dL_linesOf_7 : decode cL_linesOf 7 = .ok (.i2l, 1) := by decide +kernel
theorem dL_linesOf_8 : decode cL_linesOf 8 = .ok (.lastore, 1) := by decide +kernel
theorem dL_linesOf_9 : decode cL_linesOf 9 = .ok (.goto 6, 3) := by decide +kernel
theorem dL_linesOf_12 : decode cL_linesOf 12 = .ok (.astore_n 3, 1) := by decide +kernel
theorem dL_linesOf_13 : decode cL_linesOf 13 = .ok (.iconst 1, 1) := by decide +kernel
theorem dL_linesOf_14 : decode cL_linesOf 14 = .ok (.ireturn, 1) := by decide +kernel
theorem dL_linesOf_15 : decode cL_linesOf 15 = .ok (.iconst 0, 1) := by decide +kernel
theorem dL_linesOf_16 : decode cL_linesOf 16 = .ok (.ireturn, 1) := by decide +kernel
set_option maxRecDepth 20000 in
theorem ggL_lengthOf_X5_lengthOf : GoodIn wsL_lengthOf wsX5_lengthOf := goodIn_ca (goodIn_r _ [6, 7, 8, 9, 5, 10, 11, 12, 13, 14, 15, 16, 17, 18, 19, 20, 21, 22, 23, 24, 25, 26, 27, 28, 29, 30, 31, 32, 33, 34, 35, 36, 37, 38, 39, 40, 41, 42, 43, 44, 45, 46, 47, 48, 49, 50, 51, 52, 53, 54, 55, 56, 57, 58, 59, 60, 61, 62] (by decide +kernel) (by decide +kernel)) (goodIn_sub (fun _ h => List.mem_cons_of_mem _ (List.mem_append_right _ h)) (by decide +kernel))
set_option maxRecDepth 20000 in
theorem gL_lengthOf_X5_lengthOf : GoodIn wsL_lengthOf (wsV RL 61 RX5 yX5_lengthOf wsX5_lengthOf) := goodIn_app (goodIn_of _ (by decide +kernel)) ggL_lengthOf_X5_lengthOf
theorem dL_lengthOf_0 : decode cL_lengthOf 0 = .ok (.aload_n 2, 1) := by decide +kernel
theorem dL_lengthOf_1 : decode cL_lengthOf 1 = .ok (.iconst 0, 1) := by decide +kernel
theorem dL_lengthOf_2 : decode cL_lengthOf 2 = .ok (.aload_n 0, 1) := by decide +kernel
theorem dL_lengthOf_3 : decode cL_lengthOf 3 = .ok (.iload_n 1, 1) := by decide +kernel
theorem dL_lengthOf_4 : decode cL_lengthOf 4 = .ok (.invokevirtual 61, 3) := by decide +kernel
theorem dL_lengthOf_7 : decode cL_lengthOf 7 = .ok (.i2l, 1) := by decide +kernel
theorem dL_lengthOf_8 : decode cL_lengthOf 8 = .ok (.lastore, 1) := by decide +kernel
theorem dL_lengthOf_9 : decode cL_lengthOf 9 = .ok (.goto 6, 3) := by decide +kernel
theorem dL_lengthOf_12 : decode cL_lengthOf 12 = .ok (.astore_n 3, 1) := by decide +kernel
theorem dL_lengthOf_13 : decode cL_lengthOf 13 = .ok (.iconst 1, 1) := by decide +kernel
theorem dL_lengthOf_14 : decode cL_lengthOf 14 = .ok (.ireturn, 1) := by decide +kernel
theorem dL_lengthOf_15 : decode cL_lengthOf 15 = .ok (.iconst 0, 1) := by decide +kernel
theorem dL_lengthOf_16 : decode cL_lengthOf 16 = .ok (.ireturn, 1) := by decide +kernel
set_option maxRecDepth 20000 in
theorem ggL_lengthByTrying_X5_lengthByTrying : GoodIn wsL_lengthByTrying wsX5_lengthByTrying := goodIn_ca (goodIn_ca (goodIn_r _ [7, 8, 9, 10, 11, 12, 13, 6, 14, 15, 16, 17, 18, 19, 20, 21, 22, 23, 24, 25, 26, 27, 28, 29, 30, 31, 32, 33, 34, 35, 36, 37, 38, 39, 40, 41, 42, 43, 44, 45, 46, 47, 48, 49, 50, 51, 52, 53, 54, 55, 56, 57, 58, 59, 60, 61, 62, 63, 64, 65, 66, 67, 68, 69, 70, 71, 72, 73, 74, 75, 76, 77, 78, 79, 80, 81, 82, 83, 84, 85, 86, 87, 88, 89, 90, 91, 92, 93, 94, 95, 96, 97, 98, 99, 100, 101, 102, 103, 104, 105, 106, 107, 108, 109, 110, 111, 112, 113, 114, 115, 116, 117, 118, 119, 120, 121, 122, 123, 124, 125] (by decide +kernel) (by decide +kernel)) (goodIn_sub (fun _ h => List.mem_cons_of_mem _ (List.mem_append_left _ (List.mem_append_right _ h))) (by decide +kernel))) (goodIn_sub (fun _ h => List.mem_cons_of_mem _ (List.mem_append_right _ h)) (by decide +kernel))
set_option maxRecDepth 20000 in
theorem gL_lengthByTrying_X5_lengthByTrying : GoodIn wsL_lengthByTrying (wsV RL 64 RX5 yX5_lengthByTrying wsX5_lengthByTrying) := goodIn_app (goodIn_of _ (by decide +kernel)) ggL_lengthByTrying_X5_lengthByTrying
theorem dL_lengthByTrying_0 : decode cL_lengthByTrying 0 = .ok (.aload_n 2, 1) := by decide +kernel
theorem dL_lengthByTrying_1 : decode cL_lengthByTrying 1 = .ok (.iconst 0, 1) := by decide +kernel
theorem dL_lengthByTrying_2 : decode cL_lengthByTrying 2 = .ok (.aload_n 0, 1) := by decide +kernel
theorem dL_lengthByTrying_3 : decode cL_lengthByTrying 3 = .ok (.iload_n 1, 1) := by decide +kernel
theorem dL_lengthByTrying_4 : decode cL_lengthByTrying 4 = .ok (.invokevirtual 64, 3) := by decide +kernel
theorem dL_lengthByTrying_7 : decode cL_lengthByTrying 7 = .ok (.i2l, 1) := by decide +kernel
theorem dL_lengthByTrying_8 : decode cL_lengthByTrying 8 = .ok (.lastore, 1) := by decide +kernel
theorem dL_lengthByTrying_9 : decode cL_lengthByTrying 9 = .ok (.goto 9, 3) := by decide +kernel
theorem dL_lengthByTrying_12 : decode cL_lengthByTrying 12 = .ok (.astore_n 3, 1) := by decide +kernel
theorem dL_lengthByTrying_13 : decode cL_lengthByTrying 13 = .ok (.iconst 1, 1) := by decide +kernel
theorem dL_lengthByTrying_14 : decode cL_lengthByTrying 14 = .ok (.ireturn, 1) := by decide +kernel
theorem dL_lengthByTrying_15 : decode cL_lengthByTrying 15 = .ok (.astore_n 3, 1) := by decide +kernel
theorem dL_lengthByTrying_16 : decode cL_lengthByTrying 16 = .ok (.iconst 2, 1) := by decide +kernel
theorem dL_lengthByTrying_17 : decode cL_lengthByTrying 17 = .ok (.ireturn, 1) := by decide +kernel
theorem dL_lengthByTrying_18 : decode cL_lengthByTrying 18 = .ok (.iconst 0, 1) := by decide +kernel
theorem dL_lengthByTrying_19 : decode cL_lengthByTrying 19 = .ok (.ireturn, 1) := by decide +kernel
set_option maxRecDepth 20000 in
theorem ggL_lengthThrough_X5_lengthThrough : GoodIn wsL_lengthThrough wsX5_lengthThrough := goodIn_ca (goodIn_r _ [6, 7, 8, 9, 10, 5, 11, 12, 13, 14, 15, 16, 17, 18, 19, 20, 21, 22, 23, 24, 25, 26, 27, 28, 29, 30, 31, 32, 33, 34, 35, 36, 37, 38, 39, 40, 41, 42, 43, 44, 45, 46, 47, 48, 49, 50, 51, 52, 53, 54, 55, 56, 57, 58, 59, 60, 61, 62, 63, 64, 65, 66, 67, 68, 69, 70, 71, 72, 73, 74, 75, 76, 77, 78, 79, 80, 81, 82, 83, 84, 85, 86, 87, 88, 89, 90, 91, 92, 93, 94, 95, 96, 97, 98, 99, 100, 101, 102, 103, 104, 105, 106, 107, 108, 109, 110, 111, 112, 113, 114, 115, 116, 117] (by decide +kernel) (by decide +kernel)) (goodIn_sub (fun _ h => List.mem_cons_of_mem _ (List.mem_append_right _ h)) (by decide +kernel))
set_option maxRecDepth 20000 in
theorem gL_lengthThrough_X5_lengthThrough : GoodIn wsL_lengthThrough (wsV RL 67 RX5 yX5_lengthThrough wsX5_lengthThrough) := goodIn_app (goodIn_of _ (by decide +kernel)) ggL_lengthThrough_X5_lengthThrough
theorem dL_lengthThrough_0 : decode cL_lengthThrough 0 = .ok (.aload_n 2, 1) := by decide +kernel
theorem dL_lengthThrough_1 : decode cL_lengthThrough 1 = .ok (.iconst 0, 1) := by decide +kernel
theorem dL_lengthThrough_2 : decode cL_lengthThrough 2 = .ok (.aload_n 0, 1) := by decide +kernel
theorem dL_lengthThrough_3 : decode cL_lengthThrough 3 = .ok (.iload_n 1, 1) := by decide +kernel
theorem dL_lengthThrough_4 : decode cL_lengthThrough 4 = .ok (.invokevirtual 67, 3) := by decide +kernel
theorem dL_lengthThrough_7 : decode cL_lengthThrough 7 = .ok (.i2l, 1) := by decide +kernel
theorem dL_lengthThrough_8 : decode cL_lengthThrough 8 = .ok (.lastore, 1) := by decide +kernel
theorem dL_lengthThrough_9 : decode cL_lengthThrough 9 = .ok (.goto 6, 3) := by decide +kernel
theorem dL_lengthThrough_12 : decode cL_lengthThrough 12 = .ok (.astore_n 3, 1) := by decide +kernel
theorem dL_lengthThrough_13 : decode cL_lengthThrough 13 = .ok (.iconst 1, 1) := by decide +kernel
theorem dL_lengthThrough_14 : decode cL_lengthThrough 14 = .ok (.ireturn, 1) := by decide +kernel
theorem dL_lengthThrough_15 : decode cL_lengthThrough 15 = .ok (.iconst 0, 1) := by decide +kernel
theorem dL_lengthThrough_16 : decode cL_lengthThrough 16 = .ok (.ireturn, 1) := by decide +kernel
set_option maxRecDepth 20000 in
theorem ggL_stops_X5_stops : GoodIn wsL_stops wsX5_stops := goodIn_ca (goodIn_r _ [6, 7, 8, 9, 5, 10, 11, 12, 13, 14, 15, 16, 17, 18, 19, 20, 21, 22, 23, 24, 25, 26, 27, 28, 29, 30, 31, 32, 33, 34, 35, 36, 37, 38, 39, 40, 41, 42, 43, 44, 45, 46, 47, 48, 49, 50, 51, 52, 53, 54, 55, 56, 57, 58, 59, 60, 61, 62] (by decide +kernel) (by decide +kernel)) (goodIn_sub (fun _ h => List.mem_cons_of_mem _ (List.mem_append_right _ h)) (by decide +kernel))
set_option maxRecDepth 20000 in
theorem gL_stops_X5_stops : GoodIn wsL_stops (wsV RL 70 RX5 yX5_stops wsX5_stops) := goodIn_app (goodIn_of _ (by decide +kernel)) ggL_stops_X5_stops
theorem dL_stops_0 : decode cL_stops 0 = .ok (.aload_n 2, 1) := by decide +kernel
theorem dL_stops_1 : decode cL_stops 1 = .ok (.iconst 0, 1) := by decide +kernel
theorem dL_stops_2 : decode cL_stops 2 = .ok (.aload_n 0, 1) := by decide +kernel
theorem dL_stops_3 : decode cL_stops 3 = .ok (.iload_n 1, 1) := by decide +kernel
theorem dL_stops_4 : decode cL_stops 4 = .ok (.invokevirtual 70, 3) := by decide +kernel
theorem dL_stops_7 : decode cL_stops 7 = .ok (.i2l, 1) := by decide +kernel
theorem dL_stops_8 : decode cL_stops 8 = .ok (.lastore, 1) := by decide +kernel
theorem dL_stops_9 : decode cL_stops 9 = .ok (.goto 6, 3) := by decide +kernel
theorem dL_stops_12 : decode cL_stops 12 = .ok (.astore_n 3, 1) := by decide +kernel
theorem dL_stops_13 : decode cL_stops 13 = .ok (.iconst 1, 1) := by decide +kernel
theorem dL_stops_14 : decode cL_stops 14 = .ok (.ireturn, 1) := by decide +kernel
theorem dL_stops_15 : decode cL_stops 15 = .ok (.iconst 0, 1) := by decide +kernel
theorem dL_stops_16 : decode cL_stops 16 = .ok (.ireturn, 1) := by decide +kernel
set_option maxRecDepth 20000 in
theorem ggL_stopAt_X5_stopAt : GoodIn wsL_stopAt wsX5_stopAt := goodIn_ca (goodIn_r _ [6, 7, 8, 9, 10, 11, 5, 12, 13, 14, 15, 16, 17, 18, 19, 20, 21, 22, 23, 24, 25, 26, 27, 28, 29, 30, 31, 32, 33, 34, 35, 36, 37, 38, 39, 40, 41, 42, 43, 44, 45, 46, 47, 48, 49, 50, 51, 52, 53, 54, 55, 56, 57, 58, 59, 60, 61, 62] (by decide +kernel) (by decide +kernel)) (goodIn_sub (fun _ h => List.mem_cons_of_mem _ (List.mem_append_right _ h)) (by decide +kernel))
set_option maxRecDepth 20000 in
theorem gL_stopAt_X5_stopAt : GoodIn wsL_stopAt (wsV RL 73 RX5 yX5_stopAt wsX5_stopAt) := goodIn_app (goodIn_of _ (by decide +kernel)) ggL_stopAt_X5_stopAt
theorem dL_stopAt_0 : decode cL_stopAt 0 = .ok (.aload_n 3, 1) := by decide +kernel
theorem dL_stopAt_1 : decode cL_stopAt 1 = .ok (.iconst 0, 1) := by decide +kernel
theorem dL_stopAt_2 : decode cL_stopAt 2 = .ok (.aload_n 0, 1) := by decide +kernel
theorem dL_stopAt_3 : decode cL_stopAt 3 = .ok (.iload_n 1, 1) := by decide +kernel
theorem dL_stopAt_4 : decode cL_stopAt 4 = .ok (.iload_n 2, 1) := by decide +kernel
theorem dL_stopAt_5 : decode cL_stopAt 5 = .ok (.invokevirtual 73, 3) := by decide +kernel
theorem dL_stopAt_8 : decode cL_stopAt 8 = .ok (.i2l, 1) := by decide +kernel
theorem dL_stopAt_9 : decode cL_stopAt 9 = .ok (.lastore, 1) := by decide +kernel
theorem dL_stopAt_10 : decode cL_stopAt 10 = .ok (.goto 7, 3) := by decide +kernel
theorem dL_stopAt_13 : decode cL_stopAt 13 = .ok (.astore 4, 2) := by decide +kernel
theorem dL_stopAt_15 : decode cL_stopAt 15 = .ok (.iconst 1, 1) := by decide +kernel
theorem dL_stopAt_16 : decode cL_stopAt 16 = .ok (.ireturn, 1) := by decide +kernel
theorem dL_stopAt_17 : decode cL_stopAt 17 = .ok (.iconst 0, 1) := by decide +kernel
theorem dL_stopAt_18 : decode cL_stopAt 18 = .ok (.ireturn, 1) := by decide +kernel
set_option maxRecDepth 20000 in
theorem ggL_inAisle_X5_inAisle : GoodIn wsL_inAisle wsX5_inAisle := goodIn_ca (goodIn_r _ [6, 7, 8, 9, 10, 11, 12, 13, 14, 15, 16, 17, 18, 19, 20, 21, 22, 23, 24, 25, 26, 27, 28, 29, 30, 31, 32, 33, 34, 35, 36, 37, 38, 39, 40, 41, 42, 43, 44, 45, 46, 47, 48, 49, 50, 51, 52, 53, 54, 55, 56, 57, 58, 59, 60, 61, 62, 63, 64, 65, 66, 67, 68, 69, 70, 71, 72, 73, 74, 75, 76, 77, 78] (by decide +kernel) (by decide +kernel)) (goodIn_sub (fun _ h => List.mem_cons_of_mem _ (List.mem_append_right _ h)) (by decide +kernel))
set_option maxRecDepth 20000 in
theorem gL_inAisle_X5_inAisle : GoodIn wsL_inAisle (wsV RL 76 RX5 yX5_inAisle wsX5_inAisle) := goodIn_app (goodIn_of _ (by decide +kernel)) ggL_inAisle_X5_inAisle
theorem dL_inAisle_0 : decode cL_inAisle 0 = .ok (.aload_n 2, 1) := by decide +kernel
theorem dL_inAisle_1 : decode cL_inAisle 1 = .ok (.iconst 0, 1) := by decide +kernel
theorem dL_inAisle_2 : decode cL_inAisle 2 = .ok (.aload_n 0, 1) := by decide +kernel
theorem dL_inAisle_3 : decode cL_inAisle 3 = .ok (.iload_n 1, 1) := by decide +kernel
theorem dL_inAisle_4 : decode cL_inAisle 4 = .ok (.invokevirtual 76, 3) := by decide +kernel
theorem dL_inAisle_7 : decode cL_inAisle 7 = .ok (.i2l, 1) := by decide +kernel
theorem dL_inAisle_8 : decode cL_inAisle 8 = .ok (.lastore, 1) := by decide +kernel
theorem dL_inAisle_9 : decode cL_inAisle 9 = .ok (.goto 6, 3) := by decide +kernel
theorem dL_inAisle_12 : decode cL_inAisle 12 = .ok (.astore_n 3, 1) := by decide +kernel
theorem dL_inAisle_13 : decode cL_inAisle 13 = .ok (.iconst 1, 1) := by decide +kernel
theorem dL_inAisle_14 : decode cL_inAisle 14 = .ok (.ireturn, 1) := by decide +kernel
theorem dL_inAisle_15 : decode cL_inAisle 15 = .ok (.iconst 0, 1) := by decide +kernel
theorem dL_inAisle_16 : decode cL_inAisle 16 = .ok (.ireturn, 1) := by decide +kernel
set_option maxRecDepth 20000 in
theorem ggL_law_L_cell : GoodIn wsL_law wsL_cell := goodIn_r _ [10] (by decide +kernel) (by decide +kernel)
set_option maxRecDepth 20000 in
theorem gL_law_L_cell : GoodIn wsL_law (va_wsS RL 79 yL_cell wsL_cell) := goodIn_app (goodIn_of _ (by decide +kernel)) ggL_law_L_cell
set_option maxRecDepth 20000 in
theorem ggL_law_X5_init : GoodIn wsL_law wsX5_init := goodIn_r _ [13, 14, 15, 16, 17, 18, 19, 20, 21, 22, 23, 24, 25, 26, 27, 28, 29, 30, 31, 32, 33, 34, 35, 2, 36, 37, 38, 39, 40, 41, 42, 43, 44, 45, 46, 47, 48, 49, 50, 51, 52, 53, 54, 55, 56, 57, 58, 59, 60, 61, 62, 63, 64, 65, 66, 67, 68, 69, 70, 71, 72, 73, 74, 75, 76, 77, 78, 79, 80, 81, 82, 83, 84, 85, 86, 87, 88, 89, 819, 820, 821, 822, 823, 824, 825, 790, 791, 792, 793, 794, 795, 796, 826, 827, 828, 829, 830, 831, 832, 833, 834, 835, 836] (by decide +kernel) (by decide +kernel)
set_option maxRecDepth 20000 in
theorem gL_law_X5_init : GoodIn wsL_law (wsX5_init) := ggL_law_X5_init
set_option maxRecDepth 20000 in
theorem ggL_law_X6_init : GoodIn wsL_law wsX6_init := goodIn_r _ [92, 93, 15, 16, 94, 48, 95, 96, 97, 98, 99, 100, 101, 102, 103, 104, 105, 106, 107, 108, 109, 797, 798, 799, 800, 801, 802, 803, 804, 805, 806, 807, 808, 809, 810, 811, 812, 813, 814, 815, 816, 817, 818] (by decide +kernel) (by decide +kernel)
set_option maxRecDepth 20000 in
theorem gL_law_X6_init : GoodIn wsL_law (wsX6_init) := ggL_law_X6_init
set_option maxRecDepth 20000 in
theorem ggL_law_L_put : GoodIn wsL_law wsL_put := goodIn_ca (goodIn_ca (goodIn_r _ [112, 113, 114, 115, 116, 117, 2, 118, 119, 120, 121, 122, 20, 28, 123, 124, 125, 126, 127, 128, 19, 129, 53, 130, 131, 132, 133, 54, 134, 135, 136, 137, 49, 138, 139, 140, 27, 141, 70, 142, 143, 144, 31, 145, 146, 147, 148, 149, 150, 790, 791, 792, 793, 794, 795, 796, 819, 820, 821, 822, 823, 824, 825, 831, 832, 833, 834, 835, 836] (by decide +kernel) (by decide +kernel)) (goodIn_sub (fun _ h => List.mem_append_left _ (List.mem_append_left _ (List.mem_append_right _ h))) (by decide +kernel))) (goodIn_sub (fun _ h => List.mem_append_left _ (List.mem_append_right _ h)) (by decide +kernel))
set_option maxRecDepth 20000 in
theorem gL_law_L_put : GoodIn wsL_law (va_wsS RL 91 yL_put wsL_put) := goodIn_app (goodIn_of _ (by decide +kernel)) ggL_law_L_put
set_option maxRecDepth 20000 in
theorem ggL_law_X6_put : GoodIn wsL_law wsX6_put := goodIn_r _ [154, 155, 107, 108, 95, 156, 157, 158, 5, 159, 160, 161, 162, 163, 164, 165, 166, 797, 798, 799, 800, 801, 802, 803, 804, 805, 806, 807, 808, 809, 810, 811, 812, 813, 814, 815, 816, 817, 818] (by decide +kernel) (by decide +kernel)
set_option maxRecDepth 20000 in
theorem gL_law_X6_put : GoodIn wsL_law (wsV RL 94 RX6 yX6_put wsX6_put) := goodIn_app (goodIn_of _ (by decide +kernel)) ggL_law_X6_put
set_option maxRecDepth 20000 in
theorem ggL_law_X6_thrown : GoodIn wsL_law wsX6_thrown := goodIn_r _ [170, 155, 797, 798, 799, 800, 801, 802, 803, 804, 805, 806, 807, 808, 809, 810, 811, 812, 813, 814, 815, 816, 817, 818] (by decide +kernel) (by decide +kernel)
set_option maxRecDepth 20000 in
theorem gL_law_X6_thrown : GoodIn wsL_law (wsV RL 95 RX6 yX6_thrown wsX6_thrown) := goodIn_app (goodIn_of _ (by decide +kernel)) ggL_law_X6_thrown
set_option maxRecDepth 20000 in
theorem ggL_law_L_layOut : GoodIn wsL_law wsL_layOut := goodIn_ca (goodIn_r _ [173, 114, 174, 175, 176, 2, 177, 121, 122, 28, 20, 138, 139, 140, 27, 141, 70, 142, 143, 144, 31, 145, 146, 178, 179, 180, 19, 181, 49, 52, 51, 182, 183, 184, 185, 186, 187, 188, 189, 190, 191, 192, 193, 194, 195, 39, 196, 55, 197, 38, 40, 198, 199, 200, 201, 54, 202, 203, 204, 205, 50, 206, 148, 149, 150, 790, 791, 792, 793, 794, 795, 796, 831, 832, 833, 834, 835, 836, 819, 820, 821, 822, 823, 824, 825] (by decide +kernel) (by decide +kernel)) (goodIn_sub (fun _ h => List.mem_append_left _ (List.mem_append_right _ h)) (by decide +kernel))
set_option maxRecDepth 20000 in
theorem gL_law_L_layOut : GoodIn wsL_law (va_wsS RL 98 yL_layOut wsL_layOut) := goodIn_app (goodIn_of _ (by decide +kernel)) ggL_law_L_layOut
set_option maxRecDepth 20000 in
theorem ggL_law_X6_layOut : GoodIn wsL_law wsX6_layOut := goodIn_r _ [210, 155, 156, 95, 105, 106, 163, 164, 165, 5, 166, 211, 212, 213, 214, 215, 216, 217, 218, 219, 99, 97, 100, 101, 220, 221, 222, 223, 224, 225, 226, 227, 108, 109, 797, 798, 799, 800, 801, 802, 803, 804, 805, 806, 807, 808, 809, 810, 811, 812, 813, 814, 815, 816, 817, 818] (by decide +kernel) (by decide +kernel)
set_option maxRecDepth 20000 in
theorem gL_law_X6_layOut : GoodIn wsL_law (wsV RL 101 RX6 yX6_layOut wsX6_layOut) := goodIn_app (goodIn_of _ (by decide +kernel)) ggL_law_X6_layOut
set_option maxRecDepth 20000 in
theorem ggL_law_L_placeOf : GoodIn wsL_law wsL_placeOf := goodIn_ca (goodIn_r _ [230, 113, 231, 232, 233, 2, 234, 20, 123, 124, 125, 119, 120, 790, 791, 792, 793, 794, 795, 796, 819, 820, 821, 822, 823, 824, 825] (by decide +kernel) (by decide +kernel)) (goodIn_sub (fun _ h => List.mem_append_left _ (List.mem_append_left _ (List.mem_append_right _ h))) (by decide +kernel))
set_option maxRecDepth 20000 in
theorem gL_law_L_placeOf : GoodIn wsL_law (va_wsS RL 102 yL_placeOf wsL_placeOf) := goodIn_app (goodIn_of _ (by decide +kernel)) ggL_law_L_placeOf
set_option maxRecDepth 20000 in
theorem ggL_law_X6_placeOf : GoodIn wsL_law wsX6_placeOf := goodIn_r _ [238, 155, 95, 157, 158, 5, 159, 160, 161, 162, 163, 164, 165, 166, 797, 798, 799, 800, 801, 802, 803, 804, 805, 806, 807, 808, 809, 810, 811, 812, 813, 814, 815, 816, 817, 818] (by decide +kernel) (by decide +kernel)
set_option maxRecDepth 20000 in
theorem gL_law_X6_placeOf : GoodIn wsL_law (wsV RL 105 RX6 yX6_placeOf wsX6_placeOf) := goodIn_app (goodIn_of _ (by decide +kernel)) ggL_law_X6_placeOf
set_option maxRecDepth 20000 in
theorem ggL_law_L_turnover : GoodIn wsL_law wsL_turnover := goodIn_ca (goodIn_r _ [241, 113, 242, 243, 244, 2, 245, 20, 123, 124, 125, 119, 120, 790, 791, 792, 793, 794, 795, 796, 819, 820, 821, 822, 823, 824, 825] (by decide +kernel) (by decide +kernel)) (goodIn_sub (fun _ h => List.mem_append_left _ (List.mem_append_left _ (List.mem_append_right _ h))) (by decide +kernel))
set_option maxRecDepth 20000 in
theorem gL_law_L_turnover : GoodIn wsL_law (va_wsS RL 106 yL_turnover wsL_turnover) := goodIn_app (goodIn_of _ (by decide +kernel)) ggL_law_L_turnover
set_option maxRecDepth 20000 in
theorem ggL_law_X6_turnover : GoodIn wsL_law wsX6_turnover := goodIn_r _ [249, 155, 157, 158, 5, 159, 160, 161, 162, 215, 216, 217, 218, 219, 99, 97, 100, 101, 163, 164, 165, 166, 797, 798, 799, 800, 801, 802, 803, 804, 805, 806, 807, 808, 809, 810, 811, 812, 813, 814, 815, 816, 817, 818] (by decide +kernel) (by decide +kernel)
set_option maxRecDepth 20000 in
theorem gL_law_X6_turnover : GoodIn wsL_law (wsV RL 108 RX6 yX6_turnover wsX6_turnover) := goodIn_app (goodIn_of _ (by decide +kernel)) ggL_law_X6_turnover
set_option maxRecDepth 20000 in
theorem ggL_law_L_distance : GoodIn wsL_law wsL_distance := goodIn_ca (goodIn_ca (goodIn_r _ [252, 113, 114, 253, 254, 255, 2, 256, 121, 122, 20, 123, 124, 125, 119, 120, 257, 191, 192, 19, 193, 194, 195, 39, 196, 55, 197, 38, 40, 198, 199, 200, 201, 54, 790, 791, 792, 793, 794, 795, 796, 819, 820, 821, 822, 823, 824, 825] (by decide +kernel) (by decide +kernel)) (goodIn_sub (fun _ h => List.mem_append_left _ (List.mem_append_right _ h)) (by decide +kernel))) (goodIn_sub (fun _ h => List.mem_append_left _ (List.mem_append_left _ (List.mem_append_right _ h))) (by decide +kernel))
set_option maxRecDepth 20000 in
theorem gL_law_L_distance : GoodIn wsL_law (va_wsS RL 109 yL_distance wsL_distance) := goodIn_app (goodIn_of _ (by decide +kernel)) ggL_law_L_distance
set_option maxRecDepth 20000 in
theorem ggL_law_X6_distance : GoodIn wsL_law wsX6_distance := goodIn_r _ [261, 155, 95, 157, 158, 5, 159, 160, 161, 162, 163, 164, 165, 166, 224, 225, 226, 227, 108, 109, 797, 798, 799, 800, 801, 802, 803, 804, 805, 806, 807, 808, 809, 810, 811, 812, 813, 814, 815, 816, 817, 818] (by decide +kernel) (by decide +kernel)
set_option maxRecDepth 20000 in
theorem gL_law_X6_distance : GoodIn wsL_law (wsV RL 112 RX6 yX6_distance wsX6_distance) := goodIn_app (goodIn_of _ (by decide +kernel)) ggL_law_X6_distance
set_option maxRecDepth 20000 in
theorem ggL_law_L_order : GoodIn wsL_law wsL_order := goodIn_ca (goodIn_ca (goodIn_r _ [264, 265, 114, 266, 267, 268, 2, 269, 121, 122, 32, 270, 271, 272, 273, 274, 275, 276, 277, 278, 279, 280, 31, 281, 146, 282, 283, 284, 285, 15, 16, 48, 286, 287, 288, 289, 290, 291, 292, 293, 294, 78, 295, 296, 297, 298, 299, 300, 301, 302, 303, 304, 305, 306, 77, 307, 42, 39, 43, 308, 309, 310, 311, 312, 313, 314, 315, 316, 317, 318, 319, 320, 321, 322, 323, 324, 325, 326, 327, 328, 329, 330, 331, 38, 40, 332, 333, 334, 335, 790, 791, 792, 793, 794, 795, 796, 837, 838, 839, 840, 834, 835, 836] (by decide +kernel) (by decide +kernel)) (goodIn_sub (fun _ h => List.mem_append_left _ (List.mem_append_right _ h)) (by decide +kernel))) (goodIn_sub (fun _ h => List.mem_append_right _ h) (by decide +kernel))
set_option maxRecDepth 20000 in
theorem gL_law_L_order : GoodIn wsL_law (va_wsS RL 113 yL_order wsL_order) := goodIn_app (goodIn_of _ (by decide +kernel)) ggL_law_L_order
set_option maxRecDepth 20000 in
theorem ggL_law_X6_order : GoodIn wsL_law wsX6_order := goodIn_r _ [339, 155, 219, 96, 97, 98, 99, 160, 161, 5, 162, 163, 164, 165, 166, 797, 798, 799, 800, 801, 802, 803, 804, 805, 806, 807, 808, 809, 810, 811, 812, 813, 814, 815, 816, 817, 818] (by decide +kernel) (by decide +kernel)
set_option maxRecDepth 20000 in
theorem gL_law_X6_order : GoodIn wsL_law (wsV RL 115 RX6 yX6_order wsX6_order) := goodIn_app (goodIn_of _ (by decide +kernel)) ggL_law_X6_order
set_option maxRecDepth 20000 in
theorem ggL_law_L_line : GoodIn wsL_law wsL_line := goodIn_ca (goodIn_ca (goodIn_ca (goodIn_r _ [342, 113, 265, 114, 343, 344, 345, 2, 346, 276, 277, 121, 122, 20, 347, 348, 349, 350, 119, 120, 32, 351, 278, 279, 280, 31, 281, 146, 352, 353, 354, 355, 356, 357, 358, 359, 360, 361, 362, 363, 364, 365, 366, 367, 78, 123, 124, 125, 368, 369, 370, 371, 33, 372, 373, 374, 272, 375, 376, 377, 378, 379, 380, 381, 382, 383, 384, 385, 386, 387, 388, 389, 390, 391, 392, 393, 286, 790, 791, 792, 793, 794, 795, 796, 819, 820, 821, 822, 823, 824, 825, 834, 835, 836, 837, 838, 839, 840] (by decide +kernel) (by decide +kernel)) (goodIn_sub (fun _ h => List.mem_append_right _ h) (by decide +kernel))) (goodIn_sub (fun _ h => List.mem_append_left _ (List.mem_append_right _ h)) (by decide +kernel))) (goodIn_sub (fun _ h => List.mem_append_left _ (List.mem_append_left _ (List.mem_append_right _ h))) (by decide +kernel))
set_option maxRecDepth 20000 in
theorem gL_law_L_line : GoodIn wsL_law (va_wsS RL 116 yL_line wsL_line) := goodIn_app (goodIn_of _ (by decide +kernel)) ggL_law_L_line
set_option maxRecDepth 20000 in
theorem ggL_law_X6_line : GoodIn wsL_law wsX6_line := goodIn_r _ [397, 155, 97, 99, 94, 95, 100, 101, 398, 399, 400, 5, 401, 219, 160, 161, 162, 157, 158, 159, 163, 164, 165, 166, 402, 403, 404, 405, 797, 798, 799, 800, 801, 802, 803, 804, 805, 806, 807, 808, 809, 810, 811, 812, 813, 814, 815, 816, 817, 818] (by decide +kernel) (by decide +kernel)
set_option maxRecDepth 20000 in
theorem gL_law_X6_line : GoodIn wsL_law (wsV RL 118 RX6 yX6_line wsX6_line) := goodIn_app (goodIn_of _ (by decide +kernel)) ggL_law_X6_line
set_option maxRecDepth 20000 in
theorem ggL_law_X5_orders : GoodIn wsL_law wsX5_orders := goodIn_r _ [409, 32, 278, 279, 280, 31, 281, 146, 790, 791, 792, 793, 794, 795, 796, 834, 835, 836] (by decide +kernel) (by decide +kernel)
set_option maxRecDepth 20000 in
theorem gL_law_X5_orders : GoodIn wsL_law (wsV RL 119 RX5 yX5_orders wsX5_orders) := goodIn_app (goodIn_of _ (by decide +kernel)) ggL_law_X5_orders
set_option maxRecDepth 20000 in
theorem ggL_law_X6_orders : GoodIn wsL_law wsX6_orders := goodIn_r _ [413, 155, 219, 797, 798, 799, 800, 801, 802, 803, 804, 805, 806, 807, 808, 809, 810, 811, 812, 813, 814, 815, 816, 817, 818] (by decide +kernel) (by decide +kernel)
set_option maxRecDepth 20000 in
theorem gL_law_X6_orders : GoodIn wsL_law (wsV RL 122 RX6 yX6_orders wsX6_orders) := goodIn_app (goodIn_of _ (by decide +kernel)) ggL_law_X6_orders
set_option maxRecDepth 20000 in
theorem ggL_law_L_stateOf : GoodIn wsL_law wsL_stateOf := goodIn_ca (goodIn_r _ [416, 113, 417, 418, 419, 2, 420, 347, 348, 349, 350, 119, 120, 32, 351, 278, 279, 280, 31, 281, 146, 352, 353, 354, 355, 356, 357, 358, 359, 360, 361, 362, 363, 364, 365, 366, 367, 78, 837, 838, 839, 840, 790, 791, 792, 793, 794, 795, 796, 834, 835, 836] (by decide +kernel) (by decide +kernel)) (goodIn_sub (fun _ h => List.mem_append_left _ (List.mem_append_left _ (List.mem_append_right _ h))) (by decide +kernel))
set_option maxRecDepth 20000 in
theorem gL_law_L_stateOf : GoodIn wsL_law (va_wsS RL 123 yL_stateOf wsL_stateOf) := goodIn_app (goodIn_of _ (by decide +kernel)) ggL_law_L_stateOf
set_option maxRecDepth 20000 in
theorem ggL_law_X6_stateOf : GoodIn wsL_law wsX6_stateOf := goodIn_r _ [424, 155, 97, 398, 399, 400, 5, 401, 219, 160, 161, 162, 163, 164, 165, 166, 797, 798, 799, 800, 801, 802, 803, 804, 805, 806, 807, 808, 809, 810, 811, 812, 813, 814, 815, 816, 817, 818] (by decide +kernel) (by decide +kernel)
set_option maxRecDepth 20000 in
theorem gL_law_X6_stateOf : GoodIn wsL_law (wsV RL 125 RX6 yX6_stateOf wsX6_stateOf) := goodIn_app (goodIn_of _ (by decide +kernel)) ggL_law_X6_stateOf
set_option maxRecDepth 20000 in
theorem ggL_law_L_lengthAlone : GoodIn wsL_law wsL_lengthAlone := goodIn_ca (goodIn_r _ [427, 113, 428, 429, 430, 2, 431, 24, 347, 348, 349, 350, 119, 120, 32, 351, 278, 279, 280, 31, 281, 146, 352, 353, 354, 355, 356, 357, 358, 359, 360, 361, 362, 363, 364, 365, 366, 367, 78, 432, 433, 434, 23, 435, 436, 437, 438, 439, 440, 64, 60, 62, 388, 389, 441, 442, 443, 444, 445, 191, 192, 19, 193, 194, 195, 39, 196, 55, 197, 38, 40, 198, 199, 200, 201, 54, 446, 447, 448, 449, 63, 450, 451, 452, 453, 454, 455, 456, 457, 458, 459, 460, 461, 462, 463, 790, 791, 792, 793, 794, 795, 796, 837, 838, 839, 840, 834, 835, 836, 826, 827, 828, 829, 830, 819, 820, 821, 822, 823, 824, 825] (by decide +kernel) (by decide +kernel)) (goodIn_sub (fun _ h => List.mem_append_left _ (List.mem_append_left _ (List.mem_append_right _ h))) (by decide +kernel))
set_option maxRecDepth 20000 in
theorem gL_law_L_lengthAlone : GoodIn wsL_law (va_wsS RL 126 yL_lengthAlone wsL_lengthAlone) := goodIn_app (goodIn_of _ (by decide +kernel)) ggL_law_L_lengthAlone
set_option maxRecDepth 20000 in
theorem ggL_law_X6_lengthAlone : GoodIn wsL_law wsX6_lengthAlone := goodIn_r _ [467, 155, 398, 399, 400, 5, 401, 219, 160, 161, 162, 402, 403, 404, 405, 99, 100, 468, 469, 470, 471, 103, 472, 473, 474, 475, 476, 95, 102, 477, 478, 479, 480, 481, 482, 483, 484, 485, 224, 225, 226, 227, 108, 109, 163, 164, 165, 166, 797, 798, 799, 800, 801, 802, 803, 804, 805, 806, 807, 808, 809, 810, 811, 812, 813, 814, 815, 816, 817, 818] (by decide +kernel) (by decide +kernel)
set_option maxRecDepth 20000 in
theorem gL_law_X6_lengthAlone : GoodIn wsL_law (wsV RL 128 RX6 yX6_lengthAlone wsX6_lengthAlone) := goodIn_app (goodIn_of _ (by decide +kernel)) ggL_law_X6_lengthAlone
set_option maxRecDepth 20000 in
theorem ggL_law_L_setCapacity : GoodIn wsL_law wsL_setCapacity := goodIn_ca (goodIn_ca (goodIn_r _ [488, 265, 114, 489, 490, 491, 2, 492, 276, 277, 121, 122, 28, 33, 138, 139, 140, 27, 141, 70, 142, 143, 144, 31, 145, 146, 493, 494, 495, 496, 32, 351, 41, 42, 39, 43, 278, 279, 280, 281, 352, 353, 354, 355, 356, 357, 358, 359, 360, 361, 362, 363, 364, 365, 366, 367, 78, 372, 373, 374, 272, 375, 376, 377, 378, 379, 380, 381, 382, 383, 790, 791, 792, 793, 794, 795, 796, 831, 832, 833, 834, 835, 836, 837, 838, 839, 840] (by decide +kernel) (by decide +kernel)) (goodIn_sub (fun _ h => List.mem_append_right _ h) (by decide +kernel))) (goodIn_sub (fun _ h => List.mem_append_left _ (List.mem_append_right _ h)) (by decide +kernel))
set_option maxRecDepth 20000 in
theorem gL_law_L_setCapacity : GoodIn wsL_law (va_wsS RL 129 yL_setCapacity wsL_setCapacity) := goodIn_app (goodIn_of _ (by decide +kernel)) ggL_law_L_setCapacity
set_option maxRecDepth 20000 in
theorem ggL_law_X6_setCapacity : GoodIn wsL_law wsX6_setCapacity := goodIn_r _ [500, 155, 156, 219, 97, 99, 94, 160, 161, 5, 162, 163, 164, 165, 166, 797, 798, 799, 800, 801, 802, 803, 804, 805, 806, 807, 808, 809, 810, 811, 812, 813, 814, 815, 816, 817, 818] (by decide +kernel) (by decide +kernel)
set_option maxRecDepth 20000 in
theorem gL_law_X6_setCapacity : GoodIn wsL_law (wsV RL 131 RX6 yX6_setCapacity wsX6_setCapacity) := goodIn_app (goodIn_of _ (by decide +kernel)) ggL_law_X6_setCapacity
set_option maxRecDepth 20000 in
theorem ggL_law_L_planWave : GoodIn wsL_law wsL_planWave := goodIn_ca (goodIn_ca (goodIn_r _ [503, 265, 114, 504, 505, 506, 2, 507, 121, 122, 28, 32, 351, 33, 273, 274, 275, 276, 277, 138, 139, 140, 27, 141, 70, 142, 143, 144, 31, 145, 146, 508, 509, 510, 511, 278, 279, 280, 281, 352, 353, 354, 355, 356, 357, 358, 359, 360, 361, 362, 363, 364, 365, 366, 367, 78, 512, 513, 514, 272, 515, 287, 376, 288, 516, 517, 518, 519, 520, 521, 522, 73, 523, 524, 433, 434, 23, 435, 436, 437, 438, 439, 440, 64, 60, 62, 388, 389, 441, 442, 443, 444, 445, 191, 192, 19, 193, 194, 195, 39, 196, 55, 197, 38, 40, 198, 199, 200, 201, 54, 446, 447, 448, 449, 63, 450, 451, 452, 453, 454, 455, 456, 457, 458, 459, 460, 461, 462, 463, 525, 526, 527, 528, 15, 16, 48, 529, 530, 531, 532, 533, 534, 535, 373, 374, 375, 377, 378, 379, 380, 381, 382, 383, 536, 290, 291, 292, 293, 294, 295, 296, 297, 298, 299, 300, 301, 302, 303, 304, 305, 306, 77, 307, 42, 43, 308, 309, 310, 311, 312, 313, 314, 315, 316, 317, 318, 319, 320, 321, 322, 323, 324, 325, 326, 327, 328, 329, 330, 331, 332, 333, 334, 335, 537, 538, 539, 540, 541, 542, 543, 544, 545, 72, 546, 547, 548, 549, 550, 551, 552, 553, 554, 555, 556, 557, 558, 559, 560, 561, 562, 563, 564, 565, 566, 567, 568, 569, 570, 571, 572, 573, 574, 575, 576, 577, 578, 579, 790, 791, 792, 793, 794, 795, 796, 837, 838, 839, 840, 831, 832, 833, 834, 835, 836, 841, 842, 843, 844, 845, 846, 826, 827, 828, 829, 830, 819, 820, 821, 822, 823, 824, 825] (by decide +kernel) (by decide +kernel)) (goodIn_sub (fun _ h => List.mem_append_left _ (List.mem_append_right _ h)) (by decide +kernel))) (goodIn_sub (fun _ h => List.mem_append_right _ h) (by decide +kernel))
set_option maxRecDepth 20000 in
theorem gL_law_L_planWave : GoodIn wsL_law (va_wsS RL 132 yL_planWave wsL_planWave) := goodIn_app (goodIn_of _ (by decide +kernel)) ggL_law_L_planWave
set_option maxRecDepth 20000 in
theorem ggL_law_X6_planWave : GoodIn wsL_law wsX6_planWave := goodIn_r _ [583, 155, 219, 97, 99, 96, 156, 98, 160, 161, 5, 162, 163, 164, 165, 166, 584, 585, 586, 587, 94, 588, 589, 590, 591, 592, 593, 594, 595, 402, 403, 404, 405, 100, 468, 469, 470, 471, 103, 472, 473, 474, 475, 476, 95, 102, 477, 478, 479, 480, 481, 482, 483, 484, 485, 224, 225, 226, 227, 108, 109, 596, 597, 598, 599, 797, 798, 799, 800, 801, 802, 803, 804, 805, 806, 807, 808, 809, 810, 811, 812, 813, 814, 815, 816, 817, 818] (by decide +kernel) (by decide +kernel)
set_option maxRecDepth 20000 in
theorem gL_law_X6_planWave : GoodIn wsL_law (wsV RL 134 RX6 yX6_planWave wsX6_planWave) := goodIn_app (goodIn_of _ (by decide +kernel)) ggL_law_X6_planWave
set_option maxRecDepth 20000 in
theorem ggL_law_L_pick : GoodIn wsL_law wsL_pick := goodIn_ca (goodIn_r _ [602, 113, 603, 604, 605, 2, 606, 32, 351, 607, 28, 608, 609, 610, 611, 119, 120, 612, 576, 577, 578, 27, 579, 70, 523, 279, 280, 31, 281, 146, 352, 353, 354, 355, 356, 357, 358, 359, 360, 361, 362, 363, 364, 365, 366, 367, 78, 278, 613, 614, 615, 522, 616, 531, 617, 618, 619, 620, 621, 24, 20, 432, 433, 434, 23, 435, 436, 437, 438, 439, 440, 64, 60, 62, 388, 389, 441, 442, 443, 444, 445, 191, 192, 19, 193, 194, 195, 39, 196, 55, 197, 38, 40, 198, 199, 200, 201, 54, 446, 447, 448, 449, 63, 450, 451, 452, 453, 454, 455, 456, 457, 458, 459, 460, 461, 462, 463, 622, 623, 624, 625, 50, 626, 627, 628, 629, 559, 560, 561, 562, 563, 564, 565, 566, 293, 294, 567, 333, 334, 335, 790, 791, 792, 793, 794, 795, 796, 841, 842, 843, 844, 845, 846, 831, 832, 833, 834, 835, 836, 837, 838, 839, 840, 826, 827, 828, 829, 830, 819, 820, 821, 822, 823, 824, 825] (by decide +kernel) (by decide +kernel)) (goodIn_sub (fun _ h => List.mem_append_left _ (List.mem_append_left _ (List.mem_append_right _ h))) (by decide +kernel))
set_option maxRecDepth 20000 in
theorem gL_law_L_pick : GoodIn wsL_law (va_wsS RL 135 yL_pick wsL_pick) := goodIn_app (goodIn_of _ (by decide +kernel)) ggL_law_L_pick
set_option maxRecDepth 20000 in
theorem ggL_law_X6_pick : GoodIn wsL_law wsX6_pick := goodIn_r _ [633, 155, 219, 98, 634, 97, 635, 636, 637, 638, 5, 639, 156, 160, 161, 162, 163, 164, 165, 166, 592, 593, 594, 595, 402, 403, 404, 405, 99, 100, 468, 469, 470, 471, 103, 472, 473, 474, 475, 476, 95, 102, 477, 478, 479, 480, 481, 482, 483, 484, 485, 224, 225, 226, 227, 108, 109, 596, 597, 598, 599, 797, 798, 799, 800, 801, 802, 803, 804, 805, 806, 807, 808, 809, 810, 811, 812, 813, 814, 815, 816, 817, 818] (by decide +kernel) (by decide +kernel)
set_option maxRecDepth 20000 in
theorem gL_law_X6_pick : GoodIn wsL_law (wsV RL 137 RX6 yX6_pick wsX6_pick) := goodIn_app (goodIn_of _ (by decide +kernel)) ggL_law_X6_pick
set_option maxRecDepth 20000 in
theorem ggL_law_X5_batches : GoodIn wsL_law wsX5_batches := goodIn_r _ [643, 28, 576, 577, 578, 27, 579, 70, 523, 279, 280, 31, 281, 146, 790, 791, 792, 793, 794, 795, 796, 831, 832, 833, 834, 835, 836] (by decide +kernel) (by decide +kernel)
set_option maxRecDepth 20000 in
theorem gL_law_X5_batches : GoodIn wsL_law (wsV RL 138 RX5 yX5_batches wsX5_batches) := goodIn_app (goodIn_of _ (by decide +kernel)) ggL_law_X5_batches
set_option maxRecDepth 20000 in
theorem ggL_law_X6_batches : GoodIn wsL_law wsX6_batches := goodIn_r _ [647, 155, 156, 797, 798, 799, 800, 801, 802, 803, 804, 805, 806, 807, 808, 809, 810, 811, 812, 813, 814, 815, 816, 817, 818] (by decide +kernel) (by decide +kernel)
set_option maxRecDepth 20000 in
theorem gL_law_X6_batches : GoodIn wsL_law (wsV RL 141 RX6 yX6_batches wsX6_batches) := goodIn_app (goodIn_of _ (by decide +kernel)) ggL_law_X6_batches
set_option maxRecDepth 20000 in
theorem ggL_law_L_batchOf : GoodIn wsL_law wsL_batchOf := goodIn_ca (goodIn_r _ [650, 113, 651, 652, 653, 2, 654, 28, 347, 348, 349, 350, 119, 120, 32, 351, 278, 279, 280, 31, 281, 146, 352, 353, 354, 355, 356, 357, 358, 359, 360, 361, 362, 363, 364, 365, 366, 367, 78, 655, 656, 657, 27, 658, 70, 541, 523, 546, 659, 614, 615, 522, 616, 531, 790, 791, 792, 793, 794, 795, 796, 834, 835, 836, 831, 832, 833, 841, 842, 843, 844, 845, 846] (by decide +kernel) (by decide +kernel)) (goodIn_sub (fun _ h => List.mem_append_left _ (List.mem_append_left _ (List.mem_append_right _ h))) (by decide +kernel))
set_option maxRecDepth 20000 in
theorem gL_law_L_batchOf : GoodIn wsL_law (va_wsS RL 142 yL_batchOf wsL_batchOf) := goodIn_app (goodIn_of _ (by decide +kernel)) ggL_law_L_batchOf
set_option maxRecDepth 20000 in
theorem ggL_law_X6_batchOf : GoodIn wsL_law wsX6_batchOf := goodIn_r _ [663, 155, 98, 398, 399, 400, 5, 401, 219, 160, 161, 162, 163, 164, 165, 166, 797, 798, 799, 800, 801, 802, 803, 804, 805, 806, 807, 808, 809, 810, 811, 812, 813, 814, 815, 816, 817, 818] (by decide +kernel) (by decide +kernel)
set_option maxRecDepth 20000 in
theorem gL_law_X6_batchOf : GoodIn wsL_law (wsV RL 144 RX6 yX6_batchOf wsX6_batchOf) := goodIn_app (goodIn_of _ (by decide +kernel)) ggL_law_X6_batchOf
set_option maxRecDepth 20000 in
theorem ggL_law_L_linesOf : GoodIn wsL_law wsL_linesOf := goodIn_ca (goodIn_r _ [666, 113, 667, 668, 669, 2, 670, 608, 609, 610, 611, 119, 120, 28, 612, 576, 577, 578, 27, 579, 70, 523, 279, 280, 31, 281, 146, 352, 353, 354, 355, 356, 357, 358, 359, 360, 361, 362, 363, 364, 365, 366, 367, 78, 841, 842, 843, 844, 845, 846, 790, 791, 792, 793, 794, 795, 796, 831, 832, 833, 834, 835, 836] (by decide +kernel) (by decide +kernel)) (goodIn_sub (fun _ h => List.mem_append_left _ (List.mem_append_left _ (List.mem_append_right _ h))) (by decide +kernel))
set_option maxRecDepth 20000 in
theorem gL_law_L_linesOf : GoodIn wsL_law (va_wsS RL 145 yL_linesOf wsL_linesOf) := goodIn_app (goodIn_of _ (by decide +kernel)) ggL_law_L_linesOf
set_option maxRecDepth 20000 in
theorem ggL_law_X6_linesOf : GoodIn wsL_law wsX6_linesOf := goodIn_r _ [674, 155, 636, 637, 638, 5, 639, 156, 160, 161, 162, 588, 589, 590, 591, 219, 98, 99, 163, 164, 165, 166, 797, 798, 799, 800, 801, 802, 803, 804, 805, 806, 807, 808, 809, 810, 811, 812, 813, 814, 815, 816, 817, 818] (by decide +kernel) (by decide +kernel)
set_option maxRecDepth 20000 in
theorem gL_law_X6_linesOf : GoodIn wsL_law (wsV RL 147 RX6 yX6_linesOf wsX6_linesOf) := goodIn_app (goodIn_of _ (by decide +kernel)) ggL_law_X6_linesOf
set_option maxRecDepth 20000 in
theorem ggL_law_L_lengthOf : GoodIn wsL_law wsL_lengthOf := goodIn_ca (goodIn_r _ [677, 113, 678, 679, 680, 2, 681, 608, 609, 610, 611, 119, 120, 28, 612, 576, 577, 578, 27, 579, 70, 523, 279, 280, 31, 281, 146, 352, 353, 354, 355, 356, 357, 358, 359, 360, 361, 362, 363, 364, 365, 366, 367, 78, 841, 842, 843, 844, 845, 846, 790, 791, 792, 793, 794, 795, 796, 831, 832, 833, 834, 835, 836] (by decide +kernel) (by decide +kernel)) (goodIn_sub (fun _ h => List.mem_append_left _ (List.mem_append_left _ (List.mem_append_right _ h))) (by decide +kernel))
set_option maxRecDepth 20000 in
theorem gL_law_L_lengthOf : GoodIn wsL_law (va_wsS RL 148 yL_lengthOf wsL_lengthOf) := goodIn_app (goodIn_of _ (by decide +kernel)) ggL_law_L_lengthOf
set_option maxRecDepth 20000 in
theorem ggL_law_X6_lengthOf : GoodIn wsL_law wsX6_lengthOf := goodIn_r _ [685, 155, 636, 637, 638, 5, 639, 156, 160, 161, 162, 592, 593, 594, 595, 219, 98, 402, 403, 404, 405, 99, 100, 468, 469, 470, 471, 103, 472, 473, 474, 475, 476, 95, 102, 477, 478, 479, 480, 481, 482, 483, 484, 485, 224, 225, 226, 227, 108, 109, 163, 164, 165, 166, 797, 798, 799, 800, 801, 802, 803, 804, 805, 806, 807, 808, 809, 810, 811, 812, 813, 814, 815, 816, 817, 818] (by decide +kernel) (by decide +kernel)
set_option maxRecDepth 20000 in
theorem gL_law_X6_lengthOf : GoodIn wsL_law (wsV RL 150 RX6 yX6_lengthOf wsX6_lengthOf) := goodIn_app (goodIn_of _ (by decide +kernel)) ggL_law_X6_lengthOf
set_option maxRecDepth 20000 in
theorem ggL_law_L_lengthByTrying : GoodIn wsL_law wsL_lengthByTrying := goodIn_ca (goodIn_ca (goodIn_r _ [688, 113, 114, 689, 690, 691, 2, 692, 121, 122, 24, 608, 609, 610, 611, 119, 120, 28, 612, 576, 577, 578, 27, 579, 70, 523, 279, 280, 31, 281, 146, 352, 353, 354, 355, 356, 357, 358, 359, 360, 361, 362, 363, 364, 365, 366, 367, 78, 693, 694, 695, 23, 696, 454, 436, 437, 438, 439, 440, 64, 60, 62, 388, 389, 441, 442, 443, 444, 445, 191, 192, 19, 193, 194, 195, 39, 196, 55, 197, 38, 40, 198, 199, 200, 201, 54, 460, 461, 462, 463, 697, 698, 699, 700, 455, 841, 842, 843, 844, 845, 846, 790, 791, 792, 793, 794, 795, 796, 831, 832, 833, 834, 835, 836, 826, 827, 828, 829, 830, 819, 820, 821, 822, 823, 824, 825] (by decide +kernel) (by decide +kernel)) (goodIn_sub (fun _ h => List.mem_append_left _ (List.mem_append_right _ h)) (by decide +kernel))) (goodIn_sub (fun _ h => List.mem_append_left _ (List.mem_append_left _ (List.mem_append_right _ h))) (by decide +kernel))
set_option maxRecDepth 20000 in
theorem gL_law_L_lengthByTrying : GoodIn wsL_law (va_wsS RL 151 yL_lengthByTrying wsL_lengthByTrying) := goodIn_app (goodIn_of _ (by decide +kernel)) ggL_law_L_lengthByTrying
set_option maxRecDepth 20000 in
theorem ggL_law_X6_lengthByTrying : GoodIn wsL_law wsX6_lengthByTrying := goodIn_r _ [704, 155, 472, 636, 637, 638, 5, 639, 156, 160, 161, 162, 163, 164, 165, 166, 592, 593, 594, 595, 219, 98, 402, 403, 404, 405, 99, 100, 468, 469, 470, 471, 103, 473, 474, 475, 476, 95, 102, 477, 478, 479, 480, 481, 482, 483, 484, 485, 224, 225, 226, 227, 108, 109, 797, 798, 799, 800, 801, 802, 803, 804, 805, 806, 807, 808, 809, 810, 811, 812, 813, 814, 815, 816, 817, 818] (by decide +kernel) (by decide +kernel)
set_option maxRecDepth 20000 in
theorem gL_law_X6_lengthByTrying : GoodIn wsL_law (wsV RL 153 RX6 yX6_lengthByTrying wsX6_lengthByTrying) := goodIn_app (goodIn_of _ (by decide +kernel)) ggL_law_X6_lengthByTrying
set_option maxRecDepth 20000 in
theorem ggL_law_L_lengthThrough : GoodIn wsL_law wsL_lengthThrough := goodIn_ca (goodIn_r _ [707, 113, 708, 709, 710, 2, 711, 24, 608, 609, 610, 611, 119, 120, 28, 612, 576, 577, 578, 27, 579, 70, 523, 279, 280, 31, 281, 146, 352, 353, 354, 355, 356, 357, 358, 359, 360, 361, 362, 363, 364, 365, 366, 367, 78, 712, 713, 714, 23, 715, 440, 60, 64, 436, 437, 438, 439, 62, 388, 389, 441, 442, 443, 444, 445, 191, 192, 19, 193, 194, 195, 39, 196, 55, 197, 38, 40, 198, 199, 200, 201, 54, 716, 717, 718, 719, 720, 790, 791, 792, 793, 794, 795, 796, 841, 842, 843, 844, 845, 846, 831, 832, 833, 834, 835, 836, 826, 827, 828, 829, 830, 819, 820, 821, 822, 823, 824, 825] (by decide +kernel) (by decide +kernel)) (goodIn_sub (fun _ h => List.mem_append_left _ (List.mem_append_left _ (List.mem_append_right _ h))) (by decide +kernel))
set_option maxRecDepth 20000 in
theorem gL_law_L_lengthThrough : GoodIn wsL_law (va_wsS RL 154 yL_lengthThrough wsL_lengthThrough) := goodIn_app (goodIn_of _ (by decide +kernel)) ggL_law_L_lengthThrough
set_option maxRecDepth 20000 in
theorem ggL_law_X6_lengthThrough : GoodIn wsL_law wsX6_lengthThrough := goodIn_r _ [724, 155, 107, 108, 109, 636, 637, 638, 5, 639, 156, 160, 161, 162, 163, 164, 165, 166, 725, 726, 727, 728, 95, 592, 593, 594, 595, 219, 98, 402, 403, 404, 405, 99, 100, 797, 798, 799, 800, 801, 802, 803, 804, 805, 806, 807, 808, 809, 810, 811, 812, 813, 814, 815, 816, 817, 818] (by decide +kernel) (by decide +kernel)
set_option maxRecDepth 20000 in
theorem gL_law_X6_lengthThrough : GoodIn wsL_law (wsV RL 156 RX6 yX6_lengthThrough wsX6_lengthThrough) := goodIn_app (goodIn_of _ (by decide +kernel)) ggL_law_X6_lengthThrough
set_option maxRecDepth 20000 in
theorem ggL_law_L_stops : GoodIn wsL_law wsL_stops := goodIn_ca (goodIn_r _ [731, 113, 732, 733, 734, 2, 735, 608, 609, 610, 611, 119, 120, 28, 612, 576, 577, 578, 27, 579, 70, 523, 279, 280, 31, 281, 146, 352, 353, 354, 355, 356, 357, 358, 359, 360, 361, 362, 363, 364, 365, 366, 367, 78, 841, 842, 843, 844, 845, 846, 790, 791, 792, 793, 794, 795, 796, 831, 832, 833, 834, 835, 836] (by decide +kernel) (by decide +kernel)) (goodIn_sub (fun _ h => List.mem_append_left _ (List.mem_append_left _ (List.mem_append_right _ h))) (by decide +kernel))
set_option maxRecDepth 20000 in
theorem gL_law_L_stops : GoodIn wsL_law (va_wsS RL 157 yL_stops wsL_stops) := goodIn_app (goodIn_of _ (by decide +kernel)) ggL_law_L_stops
set_option maxRecDepth 20000 in
theorem ggL_law_X6_stops : GoodIn wsL_law wsX6_stops := goodIn_r _ [739, 155, 472, 636, 637, 638, 5, 639, 156, 160, 161, 162, 163, 164, 165, 166, 592, 593, 594, 595, 219, 98, 402, 403, 404, 405, 99, 100, 473, 474, 475, 476, 95, 102, 103, 477, 478, 479, 480, 481, 482, 483, 484, 485, 224, 225, 226, 227, 108, 109, 797, 798, 799, 800, 801, 802, 803, 804, 805, 806, 807, 808, 809, 810, 811, 812, 813, 814, 815, 816, 817, 818] (by decide +kernel) (by decide +kernel)
set_option maxRecDepth 20000 in
theorem gL_law_X6_stops : GoodIn wsL_law (wsV RL 159 RX6 yX6_stops wsX6_stops) := goodIn_app (goodIn_of _ (by decide +kernel)) ggL_law_X6_stops
set_option maxRecDepth 20000 in
theorem ggL_law_L_stopAt : GoodIn wsL_law wsL_stopAt := goodIn_ca (goodIn_r _ [742, 113, 743, 744, 745, 2, 746, 119, 120, 608, 609, 610, 611, 28, 612, 576, 577, 578, 27, 579, 70, 523, 279, 280, 31, 281, 146, 352, 353, 354, 355, 356, 357, 358, 359, 360, 361, 362, 363, 364, 365, 366, 367, 78, 841, 842, 843, 844, 845, 846, 790, 791, 792, 793, 794, 795, 796, 831, 832, 833, 834, 835, 836] (by decide +kernel) (by decide +kernel)) (goodIn_sub (fun _ h => List.mem_append_left _ (List.mem_append_left _ (List.mem_append_right _ h))) (by decide +kernel))
set_option maxRecDepth 20000 in
theorem gL_law_L_stopAt : GoodIn wsL_law (va_wsS RL 160 yL_stopAt wsL_stopAt) := goodIn_app (goodIn_of _ (by decide +kernel)) ggL_law_L_stopAt
set_option maxRecDepth 20000 in
theorem ggL_law_X6_stopAt : GoodIn wsL_law wsX6_stopAt := goodIn_r _ [750, 155, 472, 95, 102, 104, 636, 637, 638, 5, 639, 156, 160, 161, 162, 163, 164, 165, 166, 592, 593, 594, 595, 219, 98, 402, 403, 404, 405, 99, 100, 751, 752, 753, 754, 103, 473, 474, 475, 476, 477, 478, 479, 480, 481, 482, 483, 484, 485, 224, 225, 226, 227, 108, 109, 797, 798, 799, 800, 801, 802, 803, 804, 805, 806, 807, 808, 809, 810, 811, 812, 813, 814, 815, 816, 817, 818] (by decide +kernel) (by decide +kernel)
set_option maxRecDepth 20000 in
theorem gL_law_X6_stopAt : GoodIn wsL_law (wsV RL 162 RX6 yX6_stopAt wsX6_stopAt) := goodIn_app (goodIn_of _ (by decide +kernel)) ggL_law_X6_stopAt
set_option maxRecDepth 20000 in
theorem ggL_law_L_inAisle : GoodIn wsL_law wsL_inAisle := goodIn_ca (goodIn_r _ [757, 113, 758, 759, 760, 2, 761, 119, 120, 20, 28, 126, 127, 128, 19, 129, 53, 762, 763, 764, 27, 765, 70, 541, 523, 279, 280, 31, 281, 146, 546, 353, 354, 355, 356, 357, 358, 359, 360, 361, 362, 363, 364, 365, 366, 367, 78, 766, 767, 768, 522, 769, 529, 790, 791, 792, 793, 794, 795, 796, 819, 820, 821, 822, 823, 824, 825, 831, 832, 833, 834, 835, 836, 841, 842, 843, 844, 845, 846] (by decide +kernel) (by decide +kernel)) (goodIn_sub (fun _ h => List.mem_append_left _ (List.mem_append_left _ (List.mem_append_right _ h))) (by decide +kernel))
set_option maxRecDepth 20000 in
theorem gL_law_L_inAisle : GoodIn wsL_law (va_wsS RL 163 yL_inAisle wsL_inAisle) := goodIn_app (goodIn_of _ (by decide +kernel)) ggL_law_L_inAisle
set_option maxRecDepth 20000 in
theorem ggL_law_X6_inAisle : GoodIn wsL_law wsX6_inAisle := goodIn_r _ [773, 155, 107, 156, 160, 161, 5, 162, 163, 164, 165, 166, 725, 726, 727, 728, 95, 592, 593, 594, 595, 219, 98, 402, 403, 404, 405, 99, 100, 797, 798, 799, 800, 801, 802, 803, 804, 805, 806, 807, 808, 809, 810, 811, 812, 813, 814, 815, 816, 817, 818] (by decide +kernel) (by decide +kernel)
set_option maxRecDepth 20000 in
theorem gL_law_X6_inAisle : GoodIn wsL_law (wsV RL 165 RX6 yX6_inAisle wsX6_inAisle) := goodIn_app (goodIn_of _ (by decide +kernel)) ggL_law_X6_inAisle
set_option maxRecDepth 20000 in
theorem ggL_law_X5_walked : GoodIn wsL_law wsX5_walked := goodIn_r _ [777, 607, 790, 791, 792, 793, 794, 795, 796] (by decide +kernel) (by decide +kernel)
set_option maxRecDepth 20000 in
theorem gL_law_X5_walked : GoodIn wsL_law (wsV RL 166 RX5 yX5_walked wsX5_walked) := goodIn_app (goodIn_of _ (by decide +kernel)) ggL_law_X5_walked
set_option maxRecDepth 20000 in
theorem ggL_law_X6_walked : GoodIn wsL_law wsX6_walked := goodIn_r _ [781, 155, 635, 797, 798, 799, 800, 801, 802, 803, 804, 805, 806, 807, 808, 809, 810, 811, 812, 813, 814, 815, 816, 817, 818] (by decide +kernel) (by decide +kernel)
set_option maxRecDepth 20000 in
theorem gL_law_X6_walked : GoodIn wsL_law (wsV RL 169 RX6 yX6_walked wsX6_walked) := goodIn_app (goodIn_of _ (by decide +kernel)) ggL_law_X6_walked
set_option maxRecDepth 20000 in
theorem ggL_law_X5_share : GoodIn wsL_law wsX5_share := goodIn_r _ [785, 621, 607, 790, 791, 792, 793, 794, 795, 796] (by decide +kernel) (by decide +kernel)
set_option maxRecDepth 20000 in
theorem gL_law_X5_share : GoodIn wsL_law (wsV RL 170 RX5 yX5_share wsX5_share) := goodIn_app (goodIn_of _ (by decide +kernel)) ggL_law_X5_share
set_option maxRecDepth 20000 in
theorem ggL_law_X6_share : GoodIn wsL_law wsX6_share := goodIn_r _ [789, 155, 634, 635, 797, 798, 799, 800, 801, 802, 803, 804, 805, 806, 807, 808, 809, 810, 811, 812, 813, 814, 815, 816, 817, 818] (by decide +kernel) (by decide +kernel)
set_option maxRecDepth 20000 in
theorem gL_law_X6_share : GoodIn wsL_law (wsV RL 174 RX6 yX6_share wsX6_share) := goodIn_app (goodIn_of _ (by decide +kernel)) ggL_law_X6_share
theorem dL_law_0 : decode cL_law 0 = .ok (.new 8, 3) := by decide +kernel
theorem dL_law_3 : decode cL_law 3 = .ok (.dup, 1) := by decide +kernel
theorem dL_law_4 : decode cL_law 4 = .ok (.aload_n 0, 1) := by decide +kernel
theorem dL_law_5 : decode cL_law 5 = .ok (.iconst 0, 1) := by decide +kernel
theorem dL_law_6 : decode cL_law 6 = .ok (.invokestatic 79, 3) := by decide +kernel
theorem dL_law_9 : decode cL_law 9 = .ok (.aload_n 0, 1) := by decide +kernel
theorem dL_law_10 : decode cL_law 10 = .ok (.iconst 1, 1) := by decide +kernel
theorem dL_law_11 : decode cL_law 11 = .ok (.invokestatic 79, 3) := by decide +kernel
theorem dL_law_14 : decode cL_law 14 = .ok (.aload_n 0, 1) := by decide +kernel
theorem dL_law_15 : decode cL_law 15 = .ok (.iconst 2, 1) := by decide +kernel
theorem dL_law_16 : decode cL_law 16 = .ok (.invokestatic 79, 3) := by decide +kernel
theorem dL_law_19 : decode cL_law 19 = .ok (.invokespecial 85, 3) := by decide +kernel
theorem dL_law_22 : decode cL_law 22 = .ok (.astore_n 1, 1) := by decide +kernel
