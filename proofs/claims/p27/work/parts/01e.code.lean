theorem dX5_init_0 : decode cX5_init 0 = .ok (.aload_n 0, 1) := by decide +kernel
theorem dX5_init_1 : decode cX5_init 1 = .ok (.invokespecial 1, 3) := by decide +kernel
theorem dX5_init_4 : decode cX5_init 4 = .ok (.aload_n 0, 1) := by decide +kernel
theorem dX5_init_5 : decode cX5_init 5 = .ok (.new 7, 3) := by decide +kernel
theorem dX5_init_8 : decode cX5_init 8 = .ok (.dup, 1) := by decide +kernel
theorem dX5_init_9 : decode cX5_init 9 = .ok (.iload_n 1, 1) := by decide +kernel
theorem dX5_init_10 : decode cX5_init 10 = .ok (.bipush 6, 2) := by decide +kernel
theorem dX5_init_12 : decode cX5_init 12 = .ok (.invokestatic 11, 3) := by decide +kernel
theorem dX5_init_15 : decode cX5_init 15 = .ok (.iload_n 2, 1) := by decide +kernel
theorem dX5_init_16 : decode cX5_init 16 = .ok (.bipush 20, 2) := by decide +kernel
theorem dX5_init_18 : decode cX5_init 18 = .ok (.invokestatic 11, 3) := by decide +kernel
theorem dX5_init_21 : decode cX5_init 21 = .ok (.iload_n 3, 1) := by decide +kernel
theorem dX5_init_22 : decode cX5_init 22 = .ok (.bipush 9, 2) := by decide +kernel
theorem dX5_init_24 : decode cX5_init 24 = .ok (.invokestatic 11, 3) := by decide +kernel
theorem dX5_init_27 : decode cX5_init 27 = .ok (.invokespecial 15, 3) := by decide +kernel
theorem dX5_init_30 : decode cX5_init 30 = .ok (.putfield 18, 3) := by decide +kernel
theorem dX5_init_33 : decode cX5_init 33 = .ok (.aload_n 0, 1) := by decide +kernel
theorem dX5_init_34 : decode cX5_init 34 = .ok (.new 22, 3) := by decide +kernel
theorem dX5_init_37 : decode cX5_init 37 = .ok (.dup, 1) := by decide +kernel
theorem dX5_init_38 : decode cX5_init 38 = .ok (.aload_n 0, 1) := by decide +kernel
theorem dX5_init_39 : decode cX5_init 39 = .ok (.getfield 18, 3) := by decide +kernel
theorem dX5_init_42 : decode cX5_init 42 = .ok (.invokespecial 24, 3) := by decide +kernel
theorem dX5_init_45 : decode cX5_init 45 = .ok (.putfield 27, 3) := by decide +kernel
theorem dX5_init_48 : decode cX5_init 48 = .ok (.aload_n 0, 1) := by decide +kernel
theorem dX5_init_49 : decode cX5_init 49 = .ok (.new 31, 3) := by decide +kernel
theorem dX5_init_52 : decode cX5_init 52 = .ok (.dup, 1) := by decide +kernel
theorem dX5_init_53 : decode cX5_init 53 = .ok (.aload_n 0, 1) := by decide +kernel
theorem dX5_init_54 : decode cX5_init 54 = .ok (.getfield 27, 3) := by decide +kernel
theorem dX5_init_57 : decode cX5_init 57 = .ok (.invokespecial 33, 3) := by decide +kernel
theorem dX5_init_60 : decode cX5_init 60 = .ok (.putfield 36, 3) := by decide +kernel
theorem dX5_init_63 : decode cX5_init 63 = .ok (.aload_n 0, 1) := by decide +kernel
theorem dX5_init_64 : decode cX5_init 64 = .ok (.new 40, 3) := by decide +kernel
theorem dX5_init_67 : decode cX5_init 67 = .ok (.dup, 1) := by decide +kernel
theorem dX5_init_68 : decode cX5_init 68 = .ok (.invokespecial 42, 3) := by decide +kernel
theorem dX5_init_71 : decode cX5_init 71 = .ok (.putfield 43, 3) := by decide +kernel
theorem dX5_init_74 : decode cX5_init 74 = .ok (.aload_n 0, 1) := by decide +kernel
theorem dX5_init_75 : decode cX5_init 75 = .ok (.bipush 6, 2) := by decide +kernel
theorem dX5_init_77 : decode cX5_init 77 = .ok (.putfield 47, 3) := by decide +kernel
theorem dX5_init_80 : decode cX5_init 80 = .ok (.return_, 1) := by decide +kernel
theorem dX5_put_0 : decode cX5_put 0 = .ok (.iload_n 1, 1) := by decide +kernel
theorem dX5_put_1 : decode cX5_put 1 = .ok (.invokestatic 51, 3) := by decide +kernel
theorem dX5_put_4 : decode cX5_put 4 = .ok (.aload_n 0, 1) := by decide +kernel
theorem dX5_put_5 : decode cX5_put 5 = .ok (.getfield 18, 3) := by decide +kernel
theorem dX5_put_8 : decode cX5_put 8 = .ok (.iload_n 2, 1) := by decide +kernel
theorem dX5_put_9 : decode cX5_put 9 = .ok (.invokevirtual 55, 3) := by decide +kernel
theorem dX5_put_12 : decode cX5_put 12 = .ok (.ifCond .eq 14, 3) := by decide +kernel
theorem dX5_put_15 : decode cX5_put 15 = .ok (.aload_n 0, 1) := by decide +kernel
theorem dX5_put_16 : decode cX5_put 16 = .ok (.getfield 18, 3) := by decide +kernel
theorem dX5_put_19 : decode cX5_put 19 = .ok (.iload_n 3, 1) := by decide +kernel
theorem dX5_put_20 : decode cX5_put 20 = .ok (.invokevirtual 59, 3) := by decide +kernel
theorem dX5_put_23 : decode cX5_put 23 = .ok (.ifCond .ne 13, 3) := by decide +kernel
theorem dX5_put_26 : decode cX5_put 26 = .ok (.new 62, 3) := by decide +kernel
theorem dX5_put_29 : decode cX5_put 29 = .ok (.dup, 1) := by decide +kernel
theorem dX5_put_30 : decode cX5_put 30 = .ok (.ldc 64, 2) := by decide +kernel
theorem dX5_put_32 : decode cX5_put 32 = .ok (.invokespecial 66, 3) := by decide +kernel
theorem dX5_put_35 : decode cX5_put 35 = .ok (.athrow, 1) := by decide +kernel
theorem dX5_put_36 : decode cX5_put 36 = .ok (.iload_n 2, 1) := by decide +kernel
theorem dX5_put_37 : decode cX5_put 37 = .ok (.bipush 100, 2) := by decide +kernel
theorem dX5_put_39 : decode cX5_put 39 = .ok (.imul, 1) := by decide +kernel
theorem dX5_put_40 : decode cX5_put 40 = .ok (.iload_n 3, 1) := by decide +kernel
theorem dX5_put_41 : decode cX5_put 41 = .ok (.iadd, 1) := by decide +kernel
theorem dX5_put_42 : decode cX5_put 42 = .ok (.istore 4, 2) := by decide +kernel
theorem dX5_put_44 : decode cX5_put 44 = .ok (.aload_n 0, 1) := by decide +kernel
theorem dX5_put_45 : decode cX5_put 45 = .ok (.getfield 18, 3) := by decide +kernel
theorem dX5_put_48 : decode cX5_put 48 = .ok (.iload 4, 2) := by decide +kernel
theorem dX5_put_50 : decode cX5_put 50 = .ok (.invokevirtual 69, 3) := by decide +kernel
theorem dX5_put_53 : decode cX5_put 53 = .ok (.istore 5, 2) := by decide +kernel
theorem dX5_put_55 : decode cX5_put 55 = .ok (.aload_n 0, 1) := by decide +kernel
theorem dX5_put_56 : decode cX5_put 56 = .ok (.getfield 36, 3) := by decide +kernel
theorem dX5_put_59 : decode cX5_put 59 = .ok (.invokevirtual 73, 3) := by decide +kernel
theorem dX5_put_62 : decode cX5_put 62 = .ok (.ifCond .ne 15, 3) := by decide +kernel
theorem dX5_put_65 : decode cX5_put 65 = .ok (.iload 5, 2) := by decide +kernel
theorem dX5_put_67 : decode cX5_put 67 = .ok (.iconst (-1), 1) := by decide +kernel
theorem dX5_put_68 : decode cX5_put 68 = .ok (.if_icmp .eq 19, 3) := by decide +kernel
theorem dX5_put_71 : decode cX5_put 71 = .ok (.iload 5, 2) := by decide +kernel
theorem dX5_put_73 : decode cX5_put 73 = .ok (.iload_n 1, 1) := by decide +kernel
theorem dX5_put_74 : decode cX5_put 74 = .ok (.if_icmp .eq 13, 3) := by decide +kernel
theorem dX5_put_77 : decode cX5_put 77 = .ok (.new 77, 3) := by decide +kernel
theorem dX5_put_80 : decode cX5_put 80 = .ok (.dup, 1) := by decide +kernel
theorem dX5_put_81 : decode cX5_put 81 = .ok (.ldc 79, 2) := by decide +kernel
theorem dX5_put_83 : decode cX5_put 83 = .ok (.invokespecial 81, 3) := by decide +kernel
theorem dX5_put_86 : decode cX5_put 86 = .ok (.athrow, 1) := by decide +kernel
theorem dX5_put_87 : decode cX5_put 87 = .ok (.aload_n 0, 1) := by decide +kernel
theorem dX5_put_88 : decode cX5_put 88 = .ok (.getfield 18, 3) := by decide +kernel
theorem dX5_put_91 : decode cX5_put 91 = .ok (.iload_n 1, 1) := by decide +kernel
theorem dX5_put_92 : decode cX5_put 92 = .ok (.iload 4, 2) := by decide +kernel
theorem dX5_put_94 : decode cX5_put 94 = .ok (.invokevirtual 82, 3) := by decide +kernel
theorem dX5_put_97 : decode cX5_put 97 = .ok (.ireturn, 1) := by decide +kernel
theorem dX5_layOut_0 : decode cX5_layOut 0 = .ok (.aload_n 0, 1) := by decide +kernel
theorem dX5_layOut_1 : decode cX5_layOut 1 = .ok (.getfield 36, 3) := by decide +kernel
theorem dX5_layOut_4 : decode cX5_layOut 4 = .ok (.invokevirtual 73, 3) := by decide +kernel
theorem dX5_layOut_7 : decode cX5_layOut 7 = .ok (.ifCond .eq 13, 3) := by decide +kernel
theorem dX5_layOut_10 : decode cX5_layOut 10 = .ok (.new 77, 3) := by decide +kernel
theorem dX5_layOut_13 : decode cX5_layOut 13 = .ok (.dup, 1) := by decide +kernel
theorem dX5_layOut_14 : decode cX5_layOut 14 = .ok (.ldc 85, 2) := by decide +kernel
theorem dX5_layOut_16 : decode cX5_layOut 16 = .ok (.invokespecial 81, 3) := by decide +kernel
theorem dX5_layOut_19 : decode cX5_layOut 19 = .ok (.athrow, 1) := by decide +kernel
theorem dX5_layOut_20 : decode cX5_layOut 20 = .ok (.aload_n 0, 1) := by decide +kernel
theorem dX5_layOut_21 : decode cX5_layOut 21 = .ok (.getfield 18, 3) := by decide +kernel
theorem dX5_layOut_24 : decode cX5_layOut 24 = .ok (.invokevirtual 87, 3) := by decide +kernel
theorem dX5_layOut_27 : decode cX5_layOut 27 = .ok (.ireturn, 1) := by decide +kernel
theorem dX5_placeOf_0 : decode cX5_placeOf 0 = .ok (.iload_n 1, 1) := by decide +kernel
theorem dX5_placeOf_1 : decode cX5_placeOf 1 = .ok (.invokestatic 51, 3) := by decide +kernel
theorem dX5_placeOf_4 : decode cX5_placeOf 4 = .ok (.aload_n 0, 1) := by decide +kernel
theorem dX5_placeOf_5 : decode cX5_placeOf 5 = .ok (.getfield 18, 3) := by decide +kernel
theorem dX5_placeOf_8 : decode cX5_placeOf 8 = .ok (.getfield 91, 3) := by decide +kernel
theorem dX5_placeOf_11 : decode cX5_placeOf 11 = .ok (.iload_n 1, 1) := by decide +kernel
theorem dX5_placeOf_12 : decode cX5_placeOf 12 = .ok (.iaload, 1) := by decide +kernel
theorem dX5_placeOf_13 : decode cX5_placeOf 13 = .ok (.ireturn, 1) := by decide +kernel
theorem dX5_turnover_0 : decode cX5_turnover 0 = .ok (.iload_n 1, 1) := by decide +kernel
theorem dX5_turnover_1 : decode cX5_turnover 1 = .ok (.invokestatic 51, 3) := by decide +kernel
theorem dX5_turnover_4 : decode cX5_turnover 4 = .ok (.aload_n 0, 1) := by decide +kernel
theorem dX5_turnover_5 : decode cX5_turnover 5 = .ok (.getfield 18, 3) := by decide +kernel
theorem dX5_turnover_8 : decode cX5_turnover 8 = .ok (.getfield 95, 3) := by decide +kernel
theorem dX5_turnover_11 : decode cX5_turnover 11 = .ok (.iload_n 1, 1) := by decide +kernel
theorem dX5_turnover_12 : decode cX5_turnover 12 = .ok (.iaload, 1) := by decide +kernel
theorem dX5_turnover_13 : decode cX5_turnover 13 = .ok (.ireturn, 1) := by decide +kernel
theorem dX5_distance_0 : decode cX5_distance 0 = .ok (.iload_n 1, 1) := by decide +kernel
theorem dX5_distance_1 : decode cX5_distance 1 = .ok (.invokestatic 51, 3) := by decide +kernel
theorem dX5_distance_4 : decode cX5_distance 4 = .ok (.iload_n 2, 1) := by decide +kernel
theorem dX5_distance_5 : decode cX5_distance 5 = .ok (.invokestatic 51, 3) := by decide +kernel
theorem dX5_distance_8 : decode cX5_distance 8 = .ok (.aload_n 0, 1) := by decide +kernel
theorem dX5_distance_9 : decode cX5_distance 9 = .ok (.getfield 18, 3) := by decide +kernel
theorem dX5_distance_12 : decode cX5_distance 12 = .ok (.getfield 91, 3) := by decide +kernel
theorem dX5_distance_15 : decode cX5_distance 15 = .ok (.iload_n 1, 1) := by decide +kernel
theorem dX5_distance_16 : decode cX5_distance 16 = .ok (.iaload, 1) := by decide +kernel
theorem dX5_distance_17 : decode cX5_distance 17 = .ok (.istore_n 3, 1) := by decide +kernel
theorem dX5_distance_18 : decode cX5_distance 18 = .ok (.aload_n 0, 1) := by decide +kernel
theorem dX5_distance_19 : decode cX5_distance 19 = .ok (.getfield 18, 3) := by decide +kernel
theorem dX5_distance_22 : decode cX5_distance 22 = .ok (.getfield 91, 3) := by decide +kernel
theorem dX5_distance_25 : decode cX5_distance 25 = .ok (.iload_n 2, 1) := by decide +kernel
theorem dX5_distance_26 : decode cX5_distance 26 = .ok (.iaload, 1) := by decide +kernel
theorem dX5_distance_27 : decode cX5_distance 27 = .ok (.istore 4, 2) := by decide +kernel
theorem dX5_distance_29 : decode cX5_distance 29 = .ok (.iload_n 3, 1) := by decide +kernel
theorem dX5_distance_30 : decode cX5_distance 30 = .ok (.iconst (-1), 1) := by decide +kernel
theorem dX5_distance_31 : decode cX5_distance 31 = .ok (.if_icmp .eq 9, 3) := by decide +kernel
theorem dX5_distance_34 : decode cX5_distance 34 = .ok (.iload 4, 2) := by decide +kernel
theorem dX5_distance_36 : decode cX5_distance 36 = .ok (.iconst (-1), 1) := by decide +kernel
theorem dX5_distance_37 : decode cX5_distance 37 = .ok (.if_icmp .ne 13, 3) := by decide +kernel
theorem dX5_distance_40 : decode cX5_distance 40 = .ok (.new 77, 3) := by decide +kernel
theorem dX5_distance_43 : decode cX5_distance 43 = .ok (.dup, 1) := by decide +kernel
theorem dX5_distance_44 : decode cX5_distance 44 = .ok (.ldc 98, 2) := by decide +kernel
theorem dX5_distance_46 : decode cX5_distance 46 = .ok (.invokespecial 81, 3) := by decide +kernel
theorem dX5_distance_49 : decode cX5_distance 49 = .ok (.athrow, 1) := by decide +kernel
theorem dX5_distance_50 : decode cX5_distance 50 = .ok (.aload_n 0, 1) := by decide +kernel
theorem dX5_distance_51 : decode cX5_distance 51 = .ok (.getfield 18, 3) := by decide +kernel
theorem dX5_distance_54 : decode cX5_distance 54 = .ok (.iload_n 3, 1) := by decide +kernel
theorem dX5_distance_55 : decode cX5_distance 55 = .ok (.iload 4, 2) := by decide +kernel
theorem dX5_distance_57 : decode cX5_distance 57 = .ok (.invokevirtual 100, 3) := by decide +kernel
theorem dX5_distance_60 : decode cX5_distance 60 = .ok (.ireturn, 1) := by decide +kernel
theorem dX5_order_0 : decode cX5_order 0 = .ok (.iload_n 1, 1) := by decide +kernel
theorem dX5_order_1 : decode cX5_order 1 = .ok (.invokestatic 103, 3) := by decide +kernel
theorem dX5_order_4 : decode cX5_order 4 = .ok (.aload_n 0, 1) := by decide +kernel
theorem dX5_order_5 : decode cX5_order 5 = .ok (.getfield 43, 3) := by decide +kernel
theorem dX5_order_8 : decode cX5_order 8 = .ok (.invokevirtual 106, 3) := by decide +kernel
theorem dX5_order_11 : decode cX5_order 11 = .ok (.bipush 40, 2) := by decide +kernel
theorem dX5_order_13 : decode cX5_order 13 = .ok (.if_icmp .lt 13, 3) := by decide +kernel
theorem dX5_order_16 : decode cX5_order 16 = .ok (.new 77, 3) := by decide +kernel
theorem dX5_order_19 : decode cX5_order 19 = .ok (.dup, 1) := by decide +kernel
theorem dX5_order_20 : decode cX5_order 20 = .ok (.ldc 109, 2) := by decide +kernel
theorem dX5_order_22 : decode cX5_order 22 = .ok (.invokespecial 81, 3) := by decide +kernel
theorem dX5_order_25 : decode cX5_order 25 = .ok (.athrow, 1) := by decide +kernel
theorem dX5_order_26 : decode cX5_order 26 = .ok (.aload_n 0, 1) := by decide +kernel
theorem dX5_order_27 : decode cX5_order 27 = .ok (.getfield 43, 3) := by decide +kernel
theorem dX5_order_30 : decode cX5_order 30 = .ok (.new 111, 3) := by decide +kernel
theorem dX5_order_33 : decode cX5_order 33 = .ok (.dup, 1) := by decide +kernel
theorem dX5_order_34 : decode cX5_order 34 = .ok (.iload_n 1, 1) := by decide +kernel
theorem dX5_order_35 : decode cX5_order 35 = .ok (.invokespecial 113, 3) := by decide +kernel
theorem dX5_order_38 : decode cX5_order 38 = .ok (.invokevirtual 115, 3) := by decide +kernel
theorem dX5_order_41 : decode cX5_order 41 = .ok (.pop, 1) := by decide +kernel
theorem dX5_order_42 : decode cX5_order 42 = .ok (.aload_n 0, 1) := by decide +kernel
theorem dX5_order_43 : decode cX5_order 43 = .ok (.getfield 43, 3) := by decide +kernel
theorem dX5_order_46 : decode cX5_order 46 = .ok (.invokevirtual 106, 3) := by decide +kernel
theorem dX5_order_49 : decode cX5_order 49 = .ok (.iconst 1, 1) := by decide +kernel
theorem dX5_order_50 : decode cX5_order 50 = .ok (.isub, 1) := by decide +kernel
theorem dX5_order_51 : decode cX5_order 51 = .ok (.ireturn, 1) := by decide +kernel
theorem dX5_line_0 : decode cX5_line 0 = .ok (.aload_n 0, 1) := by decide +kernel
theorem dX5_line_1 : decode cX5_line 1 = .ok (.iload_n 1, 1) := by decide +kernel
theorem dX5_line_2 : decode cX5_line 2 = .ok (.invokevirtual 119, 3) := by decide +kernel
theorem dX5_line_5 : decode cX5_line 5 = .ok (.astore 4, 2) := by decide +kernel
theorem dX5_line_7 : decode cX5_line 7 = .ok (.iload_n 2, 1) := by decide +kernel
theorem dX5_line_8 : decode cX5_line 8 = .ok (.invokestatic 51, 3) := by decide +kernel
theorem dX5_line_11 : decode cX5_line 11 = .ok (.iload_n 3, 1) := by decide +kernel
theorem dX5_line_12 : decode cX5_line 12 = .ok (.iconst 1, 1) := by decide +kernel
theorem dX5_line_13 : decode cX5_line 13 = .ok (.if_icmp .lt 9, 3) := by decide +kernel
theorem dX5_line_16 : decode cX5_line 16 = .ok (.iload_n 3, 1) := by decide +kernel
theorem dX5_line_17 : decode cX5_line 17 = .ok (.bipush 99, 2) := by decide +kernel
theorem dX5_line_19 : decode cX5_line 19 = .ok (.if_icmp .le 13, 3) := by decide +kernel
theorem dX5_line_22 : decode cX5_line 22 = .ok (.new 123, 3) := by decide +kernel
theorem dX5_line_25 : decode cX5_line 25 = .ok (.dup, 1) := by decide +kernel
theorem dX5_line_26 : decode cX5_line 26 = .ok (.ldc 125, 2) := by decide +kernel
theorem dX5_line_28 : decode cX5_line 28 = .ok (.invokespecial 127, 3) := by decide +kernel
theorem dX5_line_31 : decode cX5_line 31 = .ok (.athrow, 1) := by decide +kernel
theorem dX5_line_32 : decode cX5_line 32 = .ok (.aload_n 0, 1) := by decide +kernel
theorem dX5_line_33 : decode cX5_line 33 = .ok (.aload 4, 2) := by decide +kernel
theorem dX5_line_35 : decode cX5_line 35 = .ok (.invokevirtual 128, 3) := by decide +kernel
theorem dX5_line_38 : decode cX5_line 38 = .ok (.ifCond .eq 25, 3) := by decide +kernel
theorem dX5_line_41 : decode cX5_line 41 = .ok (.aload 4, 2) := by decide +kernel
theorem dX5_line_43 : decode cX5_line 43 = .ok (.iload_n 2, 1) := by decide +kernel
theorem dX5_line_44 : decode cX5_line 44 = .ok (.invokevirtual 132, 3) := by decide +kernel
theorem dX5_line_47 : decode cX5_line 47 = .ok (.ifCond .ne 16, 3) := by decide +kernel
theorem dX5_line_50 : decode cX5_line 50 = .ok (.aload_n 0, 1) := by decide +kernel
theorem dX5_line_51 : decode cX5_line 51 = .ok (.getfield 18, 3) := by decide +kernel
theorem dX5_line_54 : decode cX5_line 54 = .ok (.getfield 91, 3) := by decide +kernel
theorem dX5_line_57 : decode cX5_line 57 = .ok (.iload_n 2, 1) := by decide +kernel
theorem dX5_line_58 : decode cX5_line 58 = .ok (.iaload, 1) := by decide +kernel
theorem dX5_line_59 : decode cX5_line 59 = .ok (.iconst (-1), 1) := by decide +kernel
theorem dX5_line_60 : decode cX5_line 60 = .ok (.if_icmp .ne 13, 3) := by decide +kernel
theorem dX5_line_63 : decode cX5_line 63 = .ok (.new 77, 3) := by decide +kernel
theorem dX5_line_66 : decode cX5_line 66 = .ok (.dup, 1) := by decide +kernel
theorem dX5_line_67 : decode cX5_line 67 = .ok (.ldc 135, 2) := by decide +kernel
theorem dX5_line_69 : decode cX5_line 69 = .ok (.invokespecial 81, 3) := by decide +kernel
theorem dX5_line_72 : decode cX5_line 72 = .ok (.athrow, 1) := by decide +kernel
theorem dX5_line_73 : decode cX5_line 73 = .ok (.aload 4, 2) := by decide +kernel
theorem dX5_line_75 : decode cX5_line 75 = .ok (.iload_n 2, 1) := by decide +kernel
theorem dX5_line_76 : decode cX5_line 76 = .ok (.iload_n 3, 1) := by decide +kernel
theorem dX5_line_77 : decode cX5_line 77 = .ok (.invokevirtual 137, 3) := by decide +kernel
theorem dX5_line_80 : decode cX5_line 80 = .ok (.aload 4, 2) := by decide +kernel
theorem dX5_line_82 : decode cX5_line 82 = .ok (.invokevirtual 141, 3) := by decide +kernel
theorem dX5_line_85 : decode cX5_line 85 = .ok (.ireturn, 1) := by decide +kernel
theorem dX5_orders_0 : decode cX5_orders 0 = .ok (.aload_n 0, 1) := by decide +kernel
theorem dX5_orders_1 : decode cX5_orders 1 = .ok (.getfield 43, 3) := by decide +kernel
theorem dX5_orders_4 : decode cX5_orders 4 = .ok (.invokevirtual 106, 3) := by decide +kernel
theorem dX5_orders_7 : decode cX5_orders 7 = .ok (.ireturn, 1) := by decide +kernel
theorem dX5_stateOf_0 : decode cX5_stateOf 0 = .ok (.aload_n 0, 1) := by decide +kernel
theorem dX5_stateOf_1 : decode cX5_stateOf 1 = .ok (.iload_n 1, 1) := by decide +kernel
theorem dX5_stateOf_2 : decode cX5_stateOf 2 = .ok (.invokevirtual 119, 3) := by decide +kernel
theorem dX5_stateOf_5 : decode cX5_stateOf 5 = .ok (.getfield 144, 3) := by decide +kernel
theorem dX5_stateOf_8 : decode cX5_stateOf 8 = .ok (.ireturn, 1) := by decide +kernel
theorem dX5_lengthAlone_0 : decode cX5_lengthAlone 0 = .ok (.aload_n 0, 1) := by decide +kernel
theorem dX5_lengthAlone_1 : decode cX5_lengthAlone 1 = .ok (.getfield 27, 3) := by decide +kernel
theorem dX5_lengthAlone_4 : decode cX5_lengthAlone 4 = .ok (.aload_n 0, 1) := by decide +kernel
theorem dX5_lengthAlone_5 : decode cX5_lengthAlone 5 = .ok (.iload_n 1, 1) := by decide +kernel
theorem dX5_lengthAlone_6 : decode cX5_lengthAlone 6 = .ok (.invokevirtual 119, 3) := by decide +kernel
theorem dX5_lengthAlone_9 : decode cX5_lengthAlone 9 = .ok (.getfield 147, 3) := by decide +kernel
theorem dX5_lengthAlone_12 : decode cX5_lengthAlone 12 = .ok (.invokevirtual 150, 3) := by decide +kernel
theorem dX5_lengthAlone_15 : decode cX5_lengthAlone 15 = .ok (.ireturn, 1) := by decide +kernel
theorem dX5_setCapacity_0 : decode cX5_setCapacity 0 = .ok (.iload_n 1, 1) := by decide +kernel
theorem dX5_setCapacity_1 : decode cX5_setCapacity 1 = .ok (.iconst 1, 1) := by decide +kernel
theorem dX5_setCapacity_2 : decode cX5_setCapacity 2 = .ok (.if_icmp .lt 9, 3) := by decide +kernel
theorem dX5_setCapacity_5 : decode cX5_setCapacity 5 = .ok (.iload_n 1, 1) := by decide +kernel
theorem dX5_setCapacity_6 : decode cX5_setCapacity 6 = .ok (.bipush 9, 2) := by decide +kernel
theorem dX5_setCapacity_8 : decode cX5_setCapacity 8 = .ok (.if_icmp .le 13, 3) := by decide +kernel
theorem dX5_setCapacity_11 : decode cX5_setCapacity 11 = .ok (.new 123, 3) := by decide +kernel
theorem dX5_setCapacity_14 : decode cX5_setCapacity 14 = .ok (.dup, 1) := by decide +kernel
theorem dX5_setCapacity_15 : decode cX5_setCapacity 15 = .ok (.ldc 153, 2) := by decide +kernel
theorem dX5_setCapacity_17 : decode cX5_setCapacity 17 = .ok (.invokespecial 127, 3) := by decide +kernel
theorem dX5_setCapacity_20 : decode cX5_setCapacity 20 = .ok (.athrow, 1) := by decide +kernel
theorem dX5_setCapacity_21 : decode cX5_setCapacity 21 = .ok (.aload_n 0, 1) := by decide +kernel
theorem dX5_setCapacity_22 : decode cX5_setCapacity 22 = .ok (.getfield 36, 3) := by decide +kernel
theorem dX5_setCapacity_25 : decode cX5_setCapacity 25 = .ok (.invokevirtual 73, 3) := by decide +kernel
theorem dX5_setCapacity_28 : decode cX5_setCapacity 28 = .ok (.ifCond .ne 11, 3) := by decide +kernel
theorem dX5_setCapacity_31 : decode cX5_setCapacity 31 = .ok (.aload_n 0, 1) := by decide +kernel
theorem dX5_setCapacity_32 : decode cX5_setCapacity 32 = .ok (.invokevirtual 155, 3) := by decide +kernel
theorem dX5_setCapacity_35 : decode cX5_setCapacity 35 = .ok (.iload_n 1, 1) := by decide +kernel
theorem dX5_setCapacity_36 : decode cX5_setCapacity 36 = .ok (.if_icmp .le 13, 3) := by decide +kernel
theorem dX5_setCapacity_39 : decode cX5_setCapacity 39 = .ok (.new 77, 3) := by decide +kernel
theorem dX5_setCapacity_42 : decode cX5_setCapacity 42 = .ok (.dup, 1) := by decide +kernel
theorem dX5_setCapacity_43 : decode cX5_setCapacity 43 = .ok (.ldc 158, 2) := by decide +kernel
theorem dX5_setCapacity_45 : decode cX5_setCapacity 45 = .ok (.invokespecial 81, 3) := by decide +kernel
theorem dX5_setCapacity_48 : decode cX5_setCapacity 48 = .ok (.athrow, 1) := by decide +kernel
theorem dX5_setCapacity_49 : decode cX5_setCapacity 49 = .ok (.aload_n 0, 1) := by decide +kernel
theorem dX5_setCapacity_50 : decode cX5_setCapacity 50 = .ok (.getfield 47, 3) := by decide +kernel
theorem dX5_setCapacity_53 : decode cX5_setCapacity 53 = .ok (.istore_n 2, 1) := by decide +kernel
theorem dX5_setCapacity_54 : decode cX5_setCapacity 54 = .ok (.aload_n 0, 1) := by decide +kernel
theorem dX5_setCapacity_55 : decode cX5_setCapacity 55 = .ok (.iload_n 1, 1) := by decide +kernel
theorem dX5_setCapacity_56 : decode cX5_setCapacity 56 = .ok (.putfield 47, 3) := by decide +kernel
theorem dX5_setCapacity_59 : decode cX5_setCapacity 59 = .ok (.iload_n 2, 1) := by decide +kernel
theorem dX5_setCapacity_60 : decode cX5_setCapacity 60 = .ok (.ireturn, 1) := by decide +kernel
theorem dX5_planWave_0 : decode cX5_planWave 0 = .ok (.iload_n 1, 1) := by decide +kernel
theorem dX5_planWave_1 : decode cX5_planWave 1 = .ok (.invokestatic 103, 3) := by decide +kernel
theorem dX5_planWave_4 : decode cX5_planWave 4 = .ok (.aload_n 0, 1) := by decide +kernel
theorem dX5_planWave_5 : decode cX5_planWave 5 = .ok (.getfield 36, 3) := by decide +kernel
theorem dX5_planWave_8 : decode cX5_planWave 8 = .ok (.invokevirtual 73, 3) := by decide +kernel
theorem dX5_planWave_11 : decode cX5_planWave 11 = .ok (.ifCond .ne 11, 3) := by decide +kernel
theorem dX5_planWave_14 : decode cX5_planWave 14 = .ok (.aload_n 0, 1) := by decide +kernel
theorem dX5_planWave_15 : decode cX5_planWave 15 = .ok (.iload_n 1, 1) := by decide +kernel
theorem dX5_planWave_16 : decode cX5_planWave 16 = .ok (.invokevirtual 160, 3) := by decide +kernel
theorem dX5_planWave_19 : decode cX5_planWave 19 = .ok (.ifCond .ne 13, 3) := by decide +kernel
theorem dX5_planWave_22 : decode cX5_planWave 22 = .ok (.new 77, 3) := by decide +kernel
theorem dX5_planWave_25 : decode cX5_planWave 25 = .ok (.dup, 1) := by decide +kernel
theorem dX5_planWave_26 : decode cX5_planWave 26 = .ok (.ldc 163, 2) := by decide +kernel
theorem dX5_planWave_28 : decode cX5_planWave 28 = .ok (.invokespecial 81, 3) := by decide +kernel
theorem dX5_planWave_31 : decode cX5_planWave 31 = .ok (.athrow, 1) := by decide +kernel
theorem dX5_planWave_32 : decode cX5_planWave 32 = .ok (.iconst 0, 1) := by decide +kernel
theorem dX5_planWave_33 : decode cX5_planWave 33 = .ok (.istore_n 2, 1) := by decide +kernel
theorem dX5_planWave_34 : decode cX5_planWave 34 = .ok (.iload_n 2, 1) := by decide +kernel
theorem dX5_planWave_35 : decode cX5_planWave 35 = .ok (.aload_n 0, 1) := by decide +kernel
theorem dX5_planWave_36 : decode cX5_planWave 36 = .ok (.getfield 43, 3) := by decide +kernel
theorem dX5_planWave_39 : decode cX5_planWave 39 = .ok (.invokevirtual 106, 3) := by decide +kernel
theorem dX5_planWave_42 : decode cX5_planWave 42 = .ok (.if_icmp .ge 43, 3) := by decide +kernel
theorem dX5_planWave_45 : decode cX5_planWave 45 = .ok (.aload_n 0, 1) := by decide +kernel
theorem dX5_planWave_46 : decode cX5_planWave 46 = .ok (.getfield 43, 3) := by decide +kernel
theorem dX5_planWave_49 : decode cX5_planWave 49 = .ok (.iload_n 2, 1) := by decide +kernel
theorem dX5_planWave_50 : decode cX5_planWave 50 = .ok (.invokevirtual 165, 3) := by decide +kernel
theorem dX5_planWave_53 : decode cX5_planWave 53 = .ok (.checkcast 111, 3) := by decide +kernel
theorem dX5_planWave_56 : decode cX5_planWave 56 = .ok (.astore_n 3, 1) := by decide +kernel
theorem dX5_planWave_57 : decode cX5_planWave 57 = .ok (.aload_n 3, 1) := by decide +kernel
theorem dX5_planWave_58 : decode cX5_planWave 58 = .ok (.iload_n 1, 1) := by decide +kernel
theorem dX5_planWave_59 : decode cX5_planWave 59 = .ok (.invokevirtual 169, 3) := by decide +kernel
theorem dX5_planWave_62 : decode cX5_planWave 62 = .ok (.ifCond .eq 17, 3) := by decide +kernel
theorem dX5_planWave_65 : decode cX5_planWave 65 = .ok (.aload_n 3, 1) := by decide +kernel
theorem dX5_planWave_66 : decode cX5_planWave 66 = .ok (.iconst 1, 1) := by decide +kernel
theorem dX5_planWave_67 : decode cX5_planWave 67 = .ok (.putfield 144, 3) := by decide +kernel
theorem dX5_planWave_70 : decode cX5_planWave 70 = .ok (.aload_n 0, 1) := by decide +kernel
theorem dX5_planWave_71 : decode cX5_planWave 71 = .ok (.getfield 36, 3) := by decide +kernel
theorem dX5_planWave_74 : decode cX5_planWave 74 = .ok (.iload_n 2, 1) := by decide +kernel
theorem dX5_planWave_75 : decode cX5_planWave 75 = .ok (.aload_n 3, 1) := by decide +kernel
theorem dX5_planWave_76 : decode cX5_planWave 76 = .ok (.invokevirtual 172, 3) := by decide +kernel
theorem dX5_planWave_79 : decode cX5_planWave 79 = .ok (.iinc 2 1, 3) := by decide +kernel
theorem dX5_planWave_82 : decode cX5_planWave 82 = .ok (.goto (-48), 3) := by decide +kernel
theorem dX5_planWave_85 : decode cX5_planWave 85 = .ok (.aload_n 0, 1) := by decide +kernel
theorem dX5_planWave_86 : decode cX5_planWave 86 = .ok (.getfield 36, 3) := by decide +kernel
theorem dX5_planWave_89 : decode cX5_planWave 89 = .ok (.aload_n 0, 1) := by decide +kernel
theorem dX5_planWave_90 : decode cX5_planWave 90 = .ok (.getfield 47, 3) := by decide +kernel
theorem dX5_planWave_93 : decode cX5_planWave 93 = .ok (.invokevirtual 176, 3) := by decide +kernel
theorem dX5_planWave_96 : decode cX5_planWave 96 = .ok (.aload_n 0, 1) := by decide +kernel
theorem dX5_planWave_97 : decode cX5_planWave 97 = .ok (.getfield 36, 3) := by decide +kernel
theorem dX5_planWave_100 : decode cX5_planWave 100 = .ok (.invokevirtual 179, 3) := by decide +kernel
theorem dX5_planWave_103 : decode cX5_planWave 103 = .ok (.ireturn, 1) := by decide +kernel
theorem dX5_pick_0 : decode cX5_pick 0 = .ok (.aload_n 0, 1) := by decide +kernel
theorem dX5_pick_1 : decode cX5_pick 1 = .ok (.iload_n 1, 1) := by decide +kernel
theorem dX5_pick_2 : decode cX5_pick 2 = .ok (.invokevirtual 180, 3) := by decide +kernel
theorem dX5_pick_5 : decode cX5_pick 5 = .ok (.astore_n 2, 1) := by decide +kernel
theorem dX5_pick_6 : decode cX5_pick 6 = .ok (.iconst 0, 1) := by decide +kernel
theorem dX5_pick_7 : decode cX5_pick 7 = .ok (.istore_n 3, 1) := by decide +kernel
theorem dX5_pick_8 : decode cX5_pick 8 = .ok (.iload_n 3, 1) := by decide +kernel
theorem dX5_pick_9 : decode cX5_pick 9 = .ok (.aload_n 0, 1) := by decide +kernel
theorem dX5_pick_10 : decode cX5_pick 10 = .ok (.getfield 43, 3) := by decide +kernel
theorem dX5_pick_13 : decode cX5_pick 13 = .ok (.invokevirtual 106, 3) := by decide +kernel
theorem dX5_pick_16 : decode cX5_pick 16 = .ok (.if_icmp .ge 32, 3) := by decide +kernel
theorem dX5_pick_19 : decode cX5_pick 19 = .ok (.aload_n 2, 1) := by decide +kernel
theorem dX5_pick_20 : decode cX5_pick 20 = .ok (.iload_n 3, 1) := by decide +kernel
theorem dX5_pick_21 : decode cX5_pick 21 = .ok (.invokevirtual 184, 3) := by decide +kernel
theorem dX5_pick_24 : decode cX5_pick 24 = .ok (.ifCond .eq 18, 3) := by decide +kernel
theorem dX5_pick_27 : decode cX5_pick 27 = .ok (.aload_n 0, 1) := by decide +kernel
theorem dX5_pick_28 : decode cX5_pick 28 = .ok (.aload_n 0, 1) := by decide +kernel
theorem dX5_pick_29 : decode cX5_pick 29 = .ok (.getfield 43, 3) := by decide +kernel
theorem dX5_pick_32 : decode cX5_pick 32 = .ok (.iload_n 3, 1) := by decide +kernel
theorem dX5_pick_33 : decode cX5_pick 33 = .ok (.invokevirtual 165, 3) := by decide +kernel
theorem dX5_pick_36 : decode cX5_pick 36 = .ok (.checkcast 111, 3) := by decide +kernel
theorem dX5_pick_39 : decode cX5_pick 39 = .ok (.invokevirtual 189, 3) := by decide +kernel
theorem dX5_pick_42 : decode cX5_pick 42 = .ok (.iinc 3 1, 3) := by decide +kernel
theorem dX5_pick_45 : decode cX5_pick 45 = .ok (.goto (-37), 3) := by decide +kernel
theorem dX5_pick_48 : decode cX5_pick 48 = .ok (.aload_n 0, 1) := by decide +kernel
theorem dX5_pick_49 : decode cX5_pick 49 = .ok (.dup, 1) := by decide +kernel
theorem dX5_pick_50 : decode cX5_pick 50 = .ok (.getfield 193, 3) := by decide +kernel
theorem dX5_pick_53 : decode cX5_pick 53 = .ok (.aload_n 2, 1) := by decide +kernel
theorem dX5_pick_54 : decode cX5_pick 54 = .ok (.getfield 196, 3) := by decide +kernel
theorem dX5_pick_57 : decode cX5_pick 57 = .ok (.iadd, 1) := by decide +kernel
theorem dX5_pick_58 : decode cX5_pick 58 = .ok (.putfield 193, 3) := by decide +kernel
theorem dX5_pick_61 : decode cX5_pick 61 = .ok (.aload_n 0, 1) := by decide +kernel
theorem dX5_pick_62 : decode cX5_pick 62 = .ok (.getfield 36, 3) := by decide +kernel
theorem dX5_pick_65 : decode cX5_pick 65 = .ok (.iload_n 1, 1) := by decide +kernel
theorem dX5_pick_66 : decode cX5_pick 66 = .ok (.invokevirtual 199, 3) := by decide +kernel
theorem dX5_pick_69 : decode cX5_pick 69 = .ok (.aload_n 2, 1) := by decide +kernel
theorem dX5_pick_70 : decode cX5_pick 70 = .ok (.getfield 196, 3) := by decide +kernel
theorem dX5_pick_73 : decode cX5_pick 73 = .ok (.ireturn, 1) := by decide +kernel
theorem dX5_batches_0 : decode cX5_batches 0 = .ok (.aload_n 0, 1) := by decide +kernel
theorem dX5_batches_1 : decode cX5_batches 1 = .ok (.getfield 36, 3) := by decide +kernel
theorem dX5_batches_4 : decode cX5_batches 4 = .ok (.invokevirtual 179, 3) := by decide +kernel
theorem dX5_batches_7 : decode cX5_batches 7 = .ok (.ireturn, 1) := by decide +kernel
theorem dX5_batchOf_0 : decode cX5_batchOf 0 = .ok (.aload_n 0, 1) := by decide +kernel
theorem dX5_batchOf_1 : decode cX5_batchOf 1 = .ok (.iload_n 1, 1) := by decide +kernel
theorem dX5_batchOf_2 : decode cX5_batchOf 2 = .ok (.invokevirtual 119, 3) := by decide +kernel
theorem dX5_batchOf_5 : decode cX5_batchOf 5 = .ok (.pop, 1) := by decide +kernel
theorem dX5_batchOf_6 : decode cX5_batchOf 6 = .ok (.aload_n 0, 1) := by decide +kernel
theorem dX5_batchOf_7 : decode cX5_batchOf 7 = .ok (.getfield 36, 3) := by decide +kernel
theorem dX5_batchOf_10 : decode cX5_batchOf 10 = .ok (.iload_n 1, 1) := by decide +kernel
theorem dX5_batchOf_11 : decode cX5_batchOf 11 = .ok (.invokevirtual 202, 3) := by decide +kernel
theorem dX5_batchOf_14 : decode cX5_batchOf 14 = .ok (.ireturn, 1) := by decide +kernel
theorem dX5_linesOf_0 : decode cX5_linesOf 0 = .ok (.aload_n 0, 1) := by decide +kernel
theorem dX5_linesOf_1 : decode cX5_linesOf 1 = .ok (.iload_n 1, 1) := by decide +kernel
theorem dX5_linesOf_2 : decode cX5_linesOf 2 = .ok (.invokevirtual 180, 3) := by decide +kernel
theorem dX5_linesOf_5 : decode cX5_linesOf 5 = .ok (.getfield 205, 3) := by decide +kernel
theorem dX5_linesOf_8 : decode cX5_linesOf 8 = .ok (.ireturn, 1) := by decide +kernel
theorem dX5_lengthOf_0 : decode cX5_lengthOf 0 = .ok (.aload_n 0, 1) := by decide +kernel
theorem dX5_lengthOf_1 : decode cX5_lengthOf 1 = .ok (.iload_n 1, 1) := by decide +kernel
theorem dX5_lengthOf_2 : decode cX5_lengthOf 2 = .ok (.invokevirtual 180, 3) := by decide +kernel
theorem dX5_lengthOf_5 : decode cX5_lengthOf 5 = .ok (.getfield 196, 3) := by decide +kernel
theorem dX5_lengthOf_8 : decode cX5_lengthOf 8 = .ok (.ireturn, 1) := by decide +kernel
theorem dX5_lengthByTrying_0 : decode cX5_lengthByTrying 0 = .ok (.aload_n 0, 1) := by decide +kernel
theorem dX5_lengthByTrying_1 : decode cX5_lengthByTrying 1 = .ok (.iload_n 1, 1) := by decide +kernel
theorem dX5_lengthByTrying_2 : decode cX5_lengthByTrying 2 = .ok (.invokevirtual 180, 3) := by decide +kernel
theorem dX5_lengthByTrying_5 : decode cX5_lengthByTrying 5 = .ok (.astore_n 2, 1) := by decide +kernel
theorem dX5_lengthByTrying_6 : decode cX5_lengthByTrying 6 = .ok (.aload_n 2, 1) := by decide +kernel
theorem dX5_lengthByTrying_7 : decode cX5_lengthByTrying 7 = .ok (.getfield 208, 3) := by decide +kernel
theorem dX5_lengthByTrying_10 : decode cX5_lengthByTrying 10 = .ok (.arraylength, 1) := by decide +kernel
theorem dX5_lengthByTrying_11 : decode cX5_lengthByTrying 11 = .ok (.bipush 7, 2) := by decide +kernel
theorem dX5_lengthByTrying_13 : decode cX5_lengthByTrying 13 = .ok (.if_icmp .le 13, 3) := by decide +kernel
theorem dX5_lengthByTrying_16 : decode cX5_lengthByTrying 16 = .ok (.new 77, 3) := by decide +kernel
theorem dX5_lengthByTrying_19 : decode cX5_lengthByTrying 19 = .ok (.dup, 1) := by decide +kernel
theorem dX5_lengthByTrying_20 : decode cX5_lengthByTrying 20 = .ok (.ldc 211, 2) := by decide +kernel
theorem dX5_lengthByTrying_22 : decode cX5_lengthByTrying 22 = .ok (.invokespecial 81, 3) := by decide +kernel
theorem dX5_lengthByTrying_25 : decode cX5_lengthByTrying 25 = .ok (.athrow, 1) := by decide +kernel
theorem dX5_lengthByTrying_26 : decode cX5_lengthByTrying 26 = .ok (.aload_n 0, 1) := by decide +kernel
theorem dX5_lengthByTrying_27 : decode cX5_lengthByTrying 27 = .ok (.getfield 27, 3) := by decide +kernel
theorem dX5_lengthByTrying_30 : decode cX5_lengthByTrying 30 = .ok (.aload_n 2, 1) := by decide +kernel
theorem dX5_lengthByTrying_31 : decode cX5_lengthByTrying 31 = .ok (.getfield 213, 3) := by decide +kernel
theorem dX5_lengthByTrying_34 : decode cX5_lengthByTrying 34 = .ok (.invokevirtual 214, 3) := by decide +kernel
theorem dX5_lengthByTrying_37 : decode cX5_lengthByTrying 37 = .ok (.ireturn, 1) := by decide +kernel
theorem dX5_lengthThrough_0 : decode cX5_lengthThrough 0 = .ok (.aload_n 0, 1) := by decide +kernel
theorem dX5_lengthThrough_1 : decode cX5_lengthThrough 1 = .ok (.getfield 27, 3) := by decide +kernel
theorem dX5_lengthThrough_4 : decode cX5_lengthThrough 4 = .ok (.aload_n 0, 1) := by decide +kernel
theorem dX5_lengthThrough_5 : decode cX5_lengthThrough 5 = .ok (.iload_n 1, 1) := by decide +kernel
theorem dX5_lengthThrough_6 : decode cX5_lengthThrough 6 = .ok (.invokevirtual 180, 3) := by decide +kernel
theorem dX5_lengthThrough_9 : decode cX5_lengthThrough 9 = .ok (.getfield 213, 3) := by decide +kernel
theorem dX5_lengthThrough_12 : decode cX5_lengthThrough 12 = .ok (.invokevirtual 217, 3) := by decide +kernel
theorem dX5_lengthThrough_15 : decode cX5_lengthThrough 15 = .ok (.ireturn, 1) := by decide +kernel
theorem dX5_stops_0 : decode cX5_stops 0 = .ok (.aload_n 0, 1) := by decide +kernel
theorem dX5_stops_1 : decode cX5_stops 1 = .ok (.iload_n 1, 1) := by decide +kernel
theorem dX5_stops_2 : decode cX5_stops 2 = .ok (.invokevirtual 180, 3) := by decide +kernel
theorem dX5_stops_5 : decode cX5_stops 5 = .ok (.getfield 208, 3) := by decide +kernel
theorem dX5_stops_8 : decode cX5_stops 8 = .ok (.arraylength, 1) := by decide +kernel
theorem dX5_stops_9 : decode cX5_stops 9 = .ok (.ireturn, 1) := by decide +kernel
theorem dX5_stopAt_0 : decode cX5_stopAt 0 = .ok (.aload_n 0, 1) := by decide +kernel
theorem dX5_stopAt_1 : decode cX5_stopAt 1 = .ok (.iload_n 1, 1) := by decide +kernel
theorem dX5_stopAt_2 : decode cX5_stopAt 2 = .ok (.invokevirtual 180, 3) := by decide +kernel
theorem dX5_stopAt_5 : decode cX5_stopAt 5 = .ok (.getfield 208, 3) := by decide +kernel
theorem dX5_stopAt_8 : decode cX5_stopAt 8 = .ok (.astore_n 3, 1) := by decide +kernel
theorem dX5_stopAt_9 : decode cX5_stopAt 9 = .ok (.iload_n 2, 1) := by decide +kernel
theorem dX5_stopAt_10 : decode cX5_stopAt 10 = .ok (.ifCond .lt 9, 3) := by decide +kernel
theorem dX5_stopAt_13 : decode cX5_stopAt 13 = .ok (.iload_n 2, 1) := by decide +kernel
theorem dX5_stopAt_14 : decode cX5_stopAt 14 = .ok (.aload_n 3, 1) := by decide +kernel
theorem dX5_stopAt_15 : decode cX5_stopAt 15 = .ok (.arraylength, 1) := by decide +kernel
theorem dX5_stopAt_16 : decode cX5_stopAt 16 = .ok (.if_icmp .lt 13, 3) := by decide +kernel
theorem dX5_stopAt_19 : decode cX5_stopAt 19 = .ok (.new 62, 3) := by decide +kernel
theorem dX5_stopAt_22 : decode cX5_stopAt 22 = .ok (.dup, 1) := by decide +kernel
theorem dX5_stopAt_23 : decode cX5_stopAt 23 = .ok (.ldc 220, 2) := by decide +kernel
theorem dX5_stopAt_25 : decode cX5_stopAt 25 = .ok (.invokespecial 66, 3) := by decide +kernel
theorem dX5_stopAt_28 : decode cX5_stopAt 28 = .ok (.athrow, 1) := by decide +kernel
theorem dX5_stopAt_29 : decode cX5_stopAt 29 = .ok (.aload_n 3, 1) := by decide +kernel
theorem dX5_stopAt_30 : decode cX5_stopAt 30 = .ok (.iload_n 2, 1) := by decide +kernel
theorem dX5_stopAt_31 : decode cX5_stopAt 31 = .ok (.iaload, 1) := by decide +kernel
theorem dX5_stopAt_32 : decode cX5_stopAt 32 = .ok (.ireturn, 1) := by decide +kernel
theorem dX5_inAisle_0 : decode cX5_inAisle 0 = .ok (.aload_n 0, 1) := by decide +kernel
theorem dX5_inAisle_1 : decode cX5_inAisle 1 = .ok (.getfield 18, 3) := by decide +kernel
theorem dX5_inAisle_4 : decode cX5_inAisle 4 = .ok (.iload_n 1, 1) := by decide +kernel
theorem dX5_inAisle_5 : decode cX5_inAisle 5 = .ok (.invokevirtual 55, 3) := by decide +kernel
theorem dX5_inAisle_8 : decode cX5_inAisle 8 = .ok (.ifCond .ne 13, 3) := by decide +kernel
theorem dX5_inAisle_11 : decode cX5_inAisle 11 = .ok (.new 62, 3) := by decide +kernel
theorem dX5_inAisle_14 : decode cX5_inAisle 14 = .ok (.dup, 1) := by decide +kernel
theorem dX5_inAisle_15 : decode cX5_inAisle 15 = .ok (.ldc 222, 2) := by decide +kernel
theorem dX5_inAisle_17 : decode cX5_inAisle 17 = .ok (.invokespecial 66, 3) := by decide +kernel
theorem dX5_inAisle_20 : decode cX5_inAisle 20 = .ok (.athrow, 1) := by decide +kernel
theorem dX5_inAisle_21 : decode cX5_inAisle 21 = .ok (.aload_n 0, 1) := by decide +kernel
theorem dX5_inAisle_22 : decode cX5_inAisle 22 = .ok (.getfield 36, 3) := by decide +kernel
theorem dX5_inAisle_25 : decode cX5_inAisle 25 = .ok (.iload_n 1, 1) := by decide +kernel
theorem dX5_inAisle_26 : decode cX5_inAisle 26 = .ok (.invokevirtual 224, 3) := by decide +kernel
theorem dX5_inAisle_29 : decode cX5_inAisle 29 = .ok (.ireturn, 1) := by decide +kernel
theorem dX5_walked_0 : decode cX5_walked 0 = .ok (.aload_n 0, 1) := by decide +kernel
theorem dX5_walked_1 : decode cX5_walked 1 = .ok (.getfield 193, 3) := by decide +kernel
theorem dX5_walked_4 : decode cX5_walked 4 = .ok (.ireturn, 1) := by decide +kernel
theorem dX5_share_0 : decode cX5_share 0 = .ok (.aload_n 0, 1) := by decide +kernel
theorem dX5_share_1 : decode cX5_share 1 = .ok (.getfield 227, 3) := by decide +kernel
theorem dX5_share_4 : decode cX5_share 4 = .ok (.ifCond .ne 7, 3) := by decide +kernel
theorem dX5_share_7 : decode cX5_share 7 = .ok (.dconst 1, 1) := by decide +kernel
theorem dX5_share_8 : decode cX5_share 8 = .ok (.goto 14, 3) := by decide +kernel
theorem dX5_share_11 : decode cX5_share 11 = .ok (.aload_n 0, 1) := by decide +kernel
theorem dX5_share_12 : decode cX5_share 12 = .ok (.getfield 193, 3) := by decide +kernel
theorem dX5_share_15 : decode cX5_share 15 = .ok (.i2d, 1) := by decide +kernel
theorem dX5_share_16 : decode cX5_share 16 = .ok (.aload_n 0, 1) := by decide +kernel
theorem dX5_share_17 : decode cX5_share 17 = .ok (.getfield 227, 3) := by decide +kernel
theorem dX5_share_20 : decode cX5_share 20 = .ok (.i2d, 1) := by decide +kernel
theorem dX5_share_21 : decode cX5_share 21 = .ok (.ddiv, 1) := by decide +kernel
theorem dX5_share_22 : decode cX5_share 22 = .ok (.dreturn, 1) := by decide +kernel
theorem dX5_within_0 : decode cX5_within 0 = .ok (.iconst 1, 1) := by decide +kernel
theorem dX5_within_1 : decode cX5_within 1 = .ok (.iload_n 0, 1) := by decide +kernel
theorem dX5_within_2 : decode cX5_within 2 = .ok (.iload_n 1, 1) := by decide +kernel
theorem dX5_within_3 : decode cX5_within 3 = .ok (.invokestatic 230, 3) := by decide +kernel
theorem dX5_within_6 : decode cX5_within 6 = .ok (.invokestatic 235, 3) := by decide +kernel
theorem dX5_within_9 : decode cX5_within 9 = .ok (.ireturn, 1) := by decide +kernel
theorem dX5_isIn_0 : decode cX5_isIn 0 = .ok (.iload_n 0, 1) := by decide +kernel
theorem dX5_isIn_1 : decode cX5_isIn 1 = .ok (.iload_n 1, 1) := by decide +kernel
theorem dX5_isIn_2 : decode cX5_isIn 2 = .ok (.ishr, 1) := by decide +kernel
theorem dX5_isIn_3 : decode cX5_isIn 3 = .ok (.iconst 1, 1) := by decide +kernel
theorem dX5_isIn_4 : decode cX5_isIn 4 = .ok (.iand, 1) := by decide +kernel
theorem dX5_isIn_5 : decode cX5_isIn 5 = .ok (.ifCond .eq 7, 3) := by decide +kernel
theorem dX5_isIn_8 : decode cX5_isIn 8 = .ok (.iconst 1, 1) := by decide +kernel
theorem dX5_isIn_9 : decode cX5_isIn 9 = .ok (.goto 4, 3) := by decide +kernel
theorem dX5_isIn_12 : decode cX5_isIn 12 = .ok (.iconst 0, 1) := by decide +kernel
theorem dX5_isIn_13 : decode cX5_isIn 13 = .ok (.ireturn, 1) := by decide +kernel
theorem dX5_checkProduct_0 : decode cX5_checkProduct 0 = .ok (.iload_n 0, 1) := by decide +kernel
theorem dX5_checkProduct_1 : decode cX5_checkProduct 1 = .ok (.ifCond .lt 9, 3) := by decide +kernel
theorem dX5_checkProduct_4 : decode cX5_checkProduct 4 = .ok (.iload_n 0, 1) := by decide +kernel
theorem dX5_checkProduct_5 : decode cX5_checkProduct 5 = .ok (.bipush 20, 2) := by decide +kernel
theorem dX5_checkProduct_7 : decode cX5_checkProduct 7 = .ok (.if_icmp .lt 13, 3) := by decide +kernel
theorem dX5_checkProduct_10 : decode cX5_checkProduct 10 = .ok (.new 62, 3) := by decide +kernel
theorem dX5_checkProduct_13 : decode cX5_checkProduct 13 = .ok (.dup, 1) := by decide +kernel
theorem dX5_checkProduct_14 : decode cX5_checkProduct 14 = .ok (.ldc 238, 2) := by decide +kernel
theorem dX5_checkProduct_16 : decode cX5_checkProduct 16 = .ok (.invokespecial 66, 3) := by decide +kernel
theorem dX5_checkProduct_19 : decode cX5_checkProduct 19 = .ok (.athrow, 1) := by decide +kernel
theorem dX5_checkProduct_20 : decode cX5_checkProduct 20 = .ok (.return_, 1) := by decide +kernel
theorem dX5_checkTime_0 : decode cX5_checkTime 0 = .ok (.iload_n 0, 1) := by decide +kernel
theorem dX5_checkTime_1 : decode cX5_checkTime 1 = .ok (.ifCond .lt 10, 3) := by decide +kernel
theorem dX5_checkTime_4 : decode cX5_checkTime 4 = .ok (.iload_n 0, 1) := by decide +kernel
theorem dX5_checkTime_5 : decode cX5_checkTime 5 = .ok (.sipush 999, 3) := by decide +kernel
theorem dX5_checkTime_8 : decode cX5_checkTime 8 = .ok (.if_icmp .le 13, 3) := by decide +kernel
theorem dX5_checkTime_11 : decode cX5_checkTime 11 = .ok (.new 123, 3) := by decide +kernel
theorem dX5_checkTime_14 : decode cX5_checkTime 14 = .ok (.dup, 1) := by decide +kernel
theorem dX5_checkTime_15 : decode cX5_checkTime 15 = .ok (.ldc 240, 2) := by decide +kernel
theorem dX5_checkTime_17 : decode cX5_checkTime 17 = .ok (.invokespecial 127, 3) := by decide +kernel
theorem dX5_checkTime_20 : decode cX5_checkTime 20 = .ok (.athrow, 1) := by decide +kernel
theorem dX5_checkTime_21 : decode cX5_checkTime 21 = .ok (.return_, 1) := by decide +kernel
theorem dX5_orderNumbered_0 : decode cX5_orderNumbered 0 = .ok (.iload_n 1, 1) := by decide +kernel
theorem dX5_orderNumbered_1 : decode cX5_orderNumbered 1 = .ok (.ifCond .lt 14, 3) := by decide +kernel
theorem dX5_orderNumbered_4 : decode cX5_orderNumbered 4 = .ok (.iload_n 1, 1) := by decide +kernel
theorem dX5_orderNumbered_5 : decode cX5_orderNumbered 5 = .ok (.aload_n 0, 1) := by decide +kernel
theorem dX5_orderNumbered_6 : decode cX5_orderNumbered 6 = .ok (.getfield 43, 3) := by decide +kernel
theorem dX5_orderNumbered_9 : decode cX5_orderNumbered 9 = .ok (.invokevirtual 106, 3) := by decide +kernel
theorem dX5_orderNumbered_12 : decode cX5_orderNumbered 12 = .ok (.if_icmp .lt 13, 3) := by decide +kernel
theorem dX5_orderNumbered_15 : decode cX5_orderNumbered 15 = .ok (.new 62, 3) := by decide +kernel
theorem dX5_orderNumbered_18 : decode cX5_orderNumbered 18 = .ok (.dup, 1) := by decide +kernel
theorem dX5_orderNumbered_19 : decode cX5_orderNumbered 19 = .ok (.ldc 242, 2) := by decide +kernel
theorem dX5_orderNumbered_21 : decode cX5_orderNumbered 21 = .ok (.invokespecial 66, 3) := by decide +kernel
theorem dX5_orderNumbered_24 : decode cX5_orderNumbered 24 = .ok (.athrow, 1) := by decide +kernel
theorem dX5_orderNumbered_25 : decode cX5_orderNumbered 25 = .ok (.aload_n 0, 1) := by decide +kernel
theorem dX5_orderNumbered_26 : decode cX5_orderNumbered 26 = .ok (.getfield 43, 3) := by decide +kernel
theorem dX5_orderNumbered_29 : decode cX5_orderNumbered 29 = .ok (.iload_n 1, 1) := by decide +kernel
theorem dX5_orderNumbered_30 : decode cX5_orderNumbered 30 = .ok (.invokevirtual 165, 3) := by decide +kernel
theorem dX5_orderNumbered_33 : decode cX5_orderNumbered 33 = .ok (.checkcast 111, 3) := by decide +kernel
theorem dX5_orderNumbered_36 : decode cX5_orderNumbered 36 = .ok (.areturn, 1) := by decide +kernel
theorem dX5_batchNumbered_0 : decode cX5_batchNumbered 0 = .ok (.iload_n 1, 1) := by decide +kernel
theorem dX5_batchNumbered_1 : decode cX5_batchNumbered 1 = .ok (.ifCond .lt 14, 3) := by decide +kernel
theorem dX5_batchNumbered_4 : decode cX5_batchNumbered 4 = .ok (.iload_n 1, 1) := by decide +kernel
theorem dX5_batchNumbered_5 : decode cX5_batchNumbered 5 = .ok (.aload_n 0, 1) := by decide +kernel
theorem dX5_batchNumbered_6 : decode cX5_batchNumbered 6 = .ok (.getfield 36, 3) := by decide +kernel
theorem dX5_batchNumbered_9 : decode cX5_batchNumbered 9 = .ok (.invokevirtual 179, 3) := by decide +kernel
theorem dX5_batchNumbered_12 : decode cX5_batchNumbered 12 = .ok (.if_icmp .lt 13, 3) := by decide +kernel
theorem dX5_batchNumbered_15 : decode cX5_batchNumbered 15 = .ok (.new 62, 3) := by decide +kernel
theorem dX5_batchNumbered_18 : decode cX5_batchNumbered 18 = .ok (.dup, 1) := by decide +kernel
theorem dX5_batchNumbered_19 : decode cX5_batchNumbered 19 = .ok (.ldc 244, 2) := by decide +kernel
theorem dX5_batchNumbered_21 : decode cX5_batchNumbered 21 = .ok (.invokespecial 66, 3) := by decide +kernel
theorem dX5_batchNumbered_24 : decode cX5_batchNumbered 24 = .ok (.athrow, 1) := by decide +kernel
theorem dX5_batchNumbered_25 : decode cX5_batchNumbered 25 = .ok (.aload_n 0, 1) := by decide +kernel
theorem dX5_batchNumbered_26 : decode cX5_batchNumbered 26 = .ok (.getfield 36, 3) := by decide +kernel
theorem dX5_batchNumbered_29 : decode cX5_batchNumbered 29 = .ok (.getfield 246, 3) := by decide +kernel
theorem dX5_batchNumbered_32 : decode cX5_batchNumbered 32 = .ok (.iload_n 1, 1) := by decide +kernel
theorem dX5_batchNumbered_33 : decode cX5_batchNumbered 33 = .ok (.invokevirtual 165, 3) := by decide +kernel
theorem dX5_batchNumbered_36 : decode cX5_batchNumbered 36 = .ok (.checkcast 185, 3) := by decide +kernel
theorem dX5_batchNumbered_39 : decode cX5_batchNumbered 39 = .ok (.areturn, 1) := by decide +kernel
theorem dX5_takesLine_0 : decode cX5_takesLine 0 = .ok (.aload_n 1, 1) := by decide +kernel
theorem dX5_takesLine_1 : decode cX5_takesLine 1 = .ok (.invokevirtual 141, 3) := by decide +kernel
theorem dX5_takesLine_4 : decode cX5_takesLine 4 = .ok (.istore_n 2, 1) := by decide +kernel
theorem dX5_takesLine_5 : decode cX5_takesLine 5 = .ok (.aload_n 1, 1) := by decide +kernel
theorem dX5_takesLine_6 : decode cX5_takesLine 6 = .ok (.getfield 144, 3) := by decide +kernel
theorem dX5_takesLine_9 : decode cX5_takesLine 9 = .ok (.ifCond .ne 20, 3) := by decide +kernel
theorem dX5_takesLine_12 : decode cX5_takesLine 12 = .ok (.iload_n 2, 1) := by decide +kernel
theorem dX5_takesLine_13 : decode cX5_takesLine 13 = .ok (.iconst 5, 1) := by decide +kernel
theorem dX5_takesLine_14 : decode cX5_takesLine 14 = .ok (.if_icmp .ge 15, 3) := by decide +kernel
theorem dX5_takesLine_17 : decode cX5_takesLine 17 = .ok (.iload_n 2, 1) := by decide +kernel
theorem dX5_takesLine_18 : decode cX5_takesLine 18 = .ok (.aload_n 0, 1) := by decide +kernel
theorem dX5_takesLine_19 : decode cX5_takesLine 19 = .ok (.getfield 47, 3) := by decide +kernel
theorem dX5_takesLine_22 : decode cX5_takesLine 22 = .ok (.if_icmp .ge 7, 3) := by decide +kernel
theorem dX5_takesLine_25 : decode cX5_takesLine 25 = .ok (.iconst 1, 1) := by decide +kernel
theorem dX5_takesLine_26 : decode cX5_takesLine 26 = .ok (.goto 4, 3) := by decide +kernel
theorem dX5_takesLine_29 : decode cX5_takesLine 29 = .ok (.iconst 0, 1) := by decide +kernel
theorem dX5_takesLine_30 : decode cX5_takesLine 30 = .ok (.ireturn, 1) := by decide +kernel
theorem dX5_mostLinesToDo_0 : decode cX5_mostLinesToDo 0 = .ok (.iconst 0, 1) := by decide +kernel
theorem dX5_mostLinesToDo_1 : decode cX5_mostLinesToDo 1 = .ok (.istore_n 1, 1) := by decide +kernel
theorem dX5_mostLinesToDo_2 : decode cX5_mostLinesToDo 2 = .ok (.iconst 0, 1) := by decide +kernel
theorem dX5_mostLinesToDo_3 : decode cX5_mostLinesToDo 3 = .ok (.istore_n 2, 1) := by decide +kernel
theorem dX5_mostLinesToDo_4 : decode cX5_mostLinesToDo 4 = .ok (.iload_n 2, 1) := by decide +kernel
theorem dX5_mostLinesToDo_5 : decode cX5_mostLinesToDo 5 = .ok (.aload_n 0, 1) := by decide +kernel
theorem dX5_mostLinesToDo_6 : decode cX5_mostLinesToDo 6 = .ok (.getfield 43, 3) := by decide +kernel
theorem dX5_mostLinesToDo_9 : decode cX5_mostLinesToDo 9 = .ok (.invokevirtual 106, 3) := by decide +kernel
theorem dX5_mostLinesToDo_12 : decode cX5_mostLinesToDo 12 = .ok (.if_icmp .ge 38, 3) := by decide +kernel
theorem dX5_mostLinesToDo_15 : decode cX5_mostLinesToDo 15 = .ok (.aload_n 0, 1) := by decide +kernel
theorem dX5_mostLinesToDo_16 : decode cX5_mostLinesToDo 16 = .ok (.getfield 43, 3) := by decide +kernel
theorem dX5_mostLinesToDo_19 : decode cX5_mostLinesToDo 19 = .ok (.iload_n 2, 1) := by decide +kernel
theorem dX5_mostLinesToDo_20 : decode cX5_mostLinesToDo 20 = .ok (.invokevirtual 165, 3) := by decide +kernel
theorem dX5_mostLinesToDo_23 : decode cX5_mostLinesToDo 23 = .ok (.checkcast 111, 3) := by decide +kernel
theorem dX5_mostLinesToDo_26 : decode cX5_mostLinesToDo 26 = .ok (.astore_n 3, 1) := by decide +kernel
theorem dX5_mostLinesToDo_27 : decode cX5_mostLinesToDo 27 = .ok (.aload_n 3, 1) := by decide +kernel
theorem dX5_mostLinesToDo_28 : decode cX5_mostLinesToDo 28 = .ok (.getfield 144, 3) := by decide +kernel
theorem dX5_mostLinesToDo_31 : decode cX5_mostLinesToDo 31 = .ok (.iconst 2, 1) := by decide +kernel
theorem dX5_mostLinesToDo_32 : decode cX5_mostLinesToDo 32 = .ok (.if_icmp .eq 12, 3) := by decide +kernel
theorem dX5_mostLinesToDo_35 : decode cX5_mostLinesToDo 35 = .ok (.iload_n 1, 1) := by decide +kernel
theorem dX5_mostLinesToDo_36 : decode cX5_mostLinesToDo 36 = .ok (.aload_n 3, 1) := by decide +kernel
theorem dX5_mostLinesToDo_37 : decode cX5_mostLinesToDo 37 = .ok (.invokevirtual 141, 3) := by decide +kernel
theorem dX5_mostLinesToDo_40 : decode cX5_mostLinesToDo 40 = .ok (.invokestatic 235, 3) := by decide +kernel
theorem dX5_mostLinesToDo_43 : decode cX5_mostLinesToDo 43 = .ok (.istore_n 1, 1) := by decide +kernel
theorem dX5_mostLinesToDo_44 : decode cX5_mostLinesToDo 44 = .ok (.iinc 2 1, 3) := by decide +kernel
theorem dX5_mostLinesToDo_47 : decode cX5_mostLinesToDo 47 = .ok (.goto (-43), 3) := by decide +kernel
theorem dX5_mostLinesToDo_50 : decode cX5_mostLinesToDo 50 = .ok (.iload_n 1, 1) := by decide +kernel
theorem dX5_mostLinesToDo_51 : decode cX5_mostLinesToDo 51 = .ok (.ireturn, 1) := by decide +kernel
theorem dX5_takesAnyOrder_0 : decode cX5_takesAnyOrder 0 = .ok (.iconst 0, 1) := by decide +kernel
theorem dX5_takesAnyOrder_1 : decode cX5_takesAnyOrder 1 = .ok (.istore_n 2, 1) := by decide +kernel
theorem dX5_takesAnyOrder_2 : decode cX5_takesAnyOrder 2 = .ok (.iload_n 2, 1) := by decide +kernel
theorem dX5_takesAnyOrder_3 : decode cX5_takesAnyOrder 3 = .ok (.aload_n 0, 1) := by decide +kernel
theorem dX5_takesAnyOrder_4 : decode cX5_takesAnyOrder 4 = .ok (.getfield 43, 3) := by decide +kernel
theorem dX5_takesAnyOrder_7 : decode cX5_takesAnyOrder 7 = .ok (.invokevirtual 106, 3) := by decide +kernel
theorem dX5_takesAnyOrder_10 : decode cX5_takesAnyOrder 10 = .ok (.if_icmp .ge 29, 3) := by decide +kernel
theorem dX5_takesAnyOrder_13 : decode cX5_takesAnyOrder 13 = .ok (.aload_n 0, 1) := by decide +kernel
theorem dX5_takesAnyOrder_14 : decode cX5_takesAnyOrder 14 = .ok (.getfield 43, 3) := by decide +kernel
theorem dX5_takesAnyOrder_17 : decode cX5_takesAnyOrder 17 = .ok (.iload_n 2, 1) := by decide +kernel
theorem dX5_takesAnyOrder_18 : decode cX5_takesAnyOrder 18 = .ok (.invokevirtual 165, 3) := by decide +kernel
theorem dX5_takesAnyOrder_21 : decode cX5_takesAnyOrder 21 = .ok (.checkcast 111, 3) := by decide +kernel
theorem dX5_takesAnyOrder_24 : decode cX5_takesAnyOrder 24 = .ok (.iload_n 1, 1) := by decide +kernel
theorem dX5_takesAnyOrder_25 : decode cX5_takesAnyOrder 25 = .ok (.invokevirtual 169, 3) := by decide +kernel
theorem dX5_takesAnyOrder_28 : decode cX5_takesAnyOrder 28 = .ok (.ifCond .eq 5, 3) := by decide +kernel
theorem dX5_takesAnyOrder_31 : decode cX5_takesAnyOrder 31 = .ok (.iconst 1, 1) := by decide +kernel
theorem dX5_takesAnyOrder_32 : decode cX5_takesAnyOrder 32 = .ok (.ireturn, 1) := by decide +kernel
theorem dX5_takesAnyOrder_33 : decode cX5_takesAnyOrder 33 = .ok (.iinc 2 1, 3) := by decide +kernel
theorem dX5_takesAnyOrder_36 : decode cX5_takesAnyOrder 36 = .ok (.goto (-34), 3) := by decide +kernel
theorem dX5_takesAnyOrder_39 : decode cX5_takesAnyOrder 39 = .ok (.iconst 0, 1) := by decide +kernel
theorem dX5_takesAnyOrder_40 : decode cX5_takesAnyOrder 40 = .ok (.ireturn, 1) := by decide +kernel
theorem dX5_finish_0 : decode cX5_finish 0 = .ok (.aload_n 0, 1) := by decide +kernel
theorem dX5_finish_1 : decode cX5_finish 1 = .ok (.dup, 1) := by decide +kernel
theorem dX5_finish_2 : decode cX5_finish 2 = .ok (.getfield 227, 3) := by decide +kernel
theorem dX5_finish_5 : decode cX5_finish 5 = .ok (.aload_n 0, 1) := by decide +kernel
theorem dX5_finish_6 : decode cX5_finish 6 = .ok (.getfield 27, 3) := by decide +kernel
theorem dX5_finish_9 : decode cX5_finish 9 = .ok (.aload_n 1, 1) := by decide +kernel
theorem dX5_finish_10 : decode cX5_finish 10 = .ok (.getfield 147, 3) := by decide +kernel
theorem dX5_finish_13 : decode cX5_finish 13 = .ok (.invokevirtual 150, 3) := by decide +kernel
theorem dX5_finish_16 : decode cX5_finish 16 = .ok (.iadd, 1) := by decide +kernel
theorem dX5_finish_17 : decode cX5_finish 17 = .ok (.putfield 227, 3) := by decide +kernel
theorem dX5_finish_20 : decode cX5_finish 20 = .ok (.aload_n 0, 1) := by decide +kernel
theorem dX5_finish_21 : decode cX5_finish 21 = .ok (.getfield 18, 3) := by decide +kernel
theorem dX5_finish_24 : decode cX5_finish 24 = .ok (.aload_n 1, 1) := by decide +kernel
theorem dX5_finish_25 : decode cX5_finish 25 = .ok (.invokevirtual 249, 3) := by decide +kernel
theorem dX5_finish_28 : decode cX5_finish 28 = .ok (.aload_n 1, 1) := by decide +kernel
theorem dX5_finish_29 : decode cX5_finish 29 = .ok (.iconst 2, 1) := by decide +kernel
theorem dX5_finish_30 : decode cX5_finish 30 = .ok (.putfield 144, 3) := by decide +kernel
theorem dX5_finish_33 : decode cX5_finish 33 = .ok (.return_, 1) := by decide +kernel
theorem dJ6_bitCount_0f7a4_0 : decode cJ6_bitCount_0f7a4 0 = .ok (.iload_n 0, 1) := by decide +kernel
theorem dJ6_bitCount_0f7a4_1 : decode cJ6_bitCount_0f7a4 1 = .ok (.iload_n 0, 1) := by decide +kernel
theorem dJ6_bitCount_0f7a4_2 : decode cJ6_bitCount_0f7a4 2 = .ok (.iconst 1, 1) := by decide +kernel
theorem dJ6_bitCount_0f7a4_3 : decode cJ6_bitCount_0f7a4 3 = .ok (.iushr, 1) := by decide +kernel
theorem dJ6_bitCount_0f7a4_4 : decode cJ6_bitCount_0f7a4 4 = .ok (.ldc_w 265, 3) := by decide +kernel
theorem dJ6_bitCount_0f7a4_7 : decode cJ6_bitCount_0f7a4 7 = .ok (.iand, 1) := by decide +kernel
theorem dJ6_bitCount_0f7a4_8 : decode cJ6_bitCount_0f7a4 8 = .ok (.isub, 1) := by decide +kernel
theorem dJ6_bitCount_0f7a4_9 : decode cJ6_bitCount_0f7a4 9 = .ok (.istore_n 0, 1) := by decide +kernel
theorem dJ6_bitCount_0f7a4_10 : decode cJ6_bitCount_0f7a4 10 = .ok (.iload_n 0, 1) := by decide +kernel
theorem dJ6_bitCount_0f7a4_11 : decode cJ6_bitCount_0f7a4 11 = .ok (.ldc_w 266, 3) := by decide +kernel
theorem dJ6_bitCount_0f7a4_14 : decode cJ6_bitCount_0f7a4 14 = .ok (.iand, 1) := by decide +kernel
theorem dJ6_bitCount_0f7a4_15 : decode cJ6_bitCount_0f7a4 15 = .ok (.iload_n 0, 1) := by decide +kernel
theorem dJ6_bitCount_0f7a4_16 : decode cJ6_bitCount_0f7a4 16 = .ok (.iconst 2, 1) := by decide +kernel
theorem dJ6_bitCount_0f7a4_17 : decode cJ6_bitCount_0f7a4 17 = .ok (.iushr, 1) := by decide +kernel
theorem dJ6_bitCount_0f7a4_18 : decode cJ6_bitCount_0f7a4 18 = .ok (.ldc_w 266, 3) := by decide +kernel
theorem dJ6_bitCount_0f7a4_21 : decode cJ6_bitCount_0f7a4 21 = .ok (.iand, 1) := by decide +kernel
theorem dJ6_bitCount_0f7a4_22 : decode cJ6_bitCount_0f7a4 22 = .ok (.iadd, 1) := by decide +kernel
theorem dJ6_bitCount_0f7a4_23 : decode cJ6_bitCount_0f7a4 23 = .ok (.istore_n 0, 1) := by decide +kernel
theorem dJ6_bitCount_0f7a4_24 : decode cJ6_bitCount_0f7a4 24 = .ok (.iload_n 0, 1) := by decide +kernel
theorem dJ6_bitCount_0f7a4_25 : decode cJ6_bitCount_0f7a4 25 = .ok (.iload_n 0, 1) := by decide +kernel
theorem dJ6_bitCount_0f7a4_26 : decode cJ6_bitCount_0f7a4 26 = .ok (.iconst 4, 1) := by decide +kernel
theorem dJ6_bitCount_0f7a4_27 : decode cJ6_bitCount_0f7a4 27 = .ok (.iushr, 1) := by decide +kernel
theorem dJ6_bitCount_0f7a4_28 : decode cJ6_bitCount_0f7a4 28 = .ok (.iadd, 1) := by decide +kernel
theorem dJ6_bitCount_0f7a4_29 : decode cJ6_bitCount_0f7a4 29 = .ok (.ldc_w 267, 3) := by decide +kernel
theorem dJ6_bitCount_0f7a4_32 : decode cJ6_bitCount_0f7a4 32 = .ok (.iand, 1) := by decide +kernel
theorem dJ6_bitCount_0f7a4_33 : decode cJ6_bitCount_0f7a4 33 = .ok (.istore_n 0, 1) := by decide +kernel
theorem dJ6_bitCount_0f7a4_34 : decode cJ6_bitCount_0f7a4 34 = .ok (.iload_n 0, 1) := by decide +kernel
theorem dJ6_bitCount_0f7a4_35 : decode cJ6_bitCount_0f7a4 35 = .ok (.iload_n 0, 1) := by decide +kernel
theorem dJ6_bitCount_0f7a4_36 : decode cJ6_bitCount_0f7a4 36 = .ok (.bipush 8, 2) := by decide +kernel
theorem dJ6_bitCount_0f7a4_38 : decode cJ6_bitCount_0f7a4 38 = .ok (.iushr, 1) := by decide +kernel
theorem dJ6_bitCount_0f7a4_39 : decode cJ6_bitCount_0f7a4 39 = .ok (.iadd, 1) := by decide +kernel
theorem dJ6_bitCount_0f7a4_40 : decode cJ6_bitCount_0f7a4 40 = .ok (.istore_n 0, 1) := by decide +kernel
theorem dJ6_bitCount_0f7a4_41 : decode cJ6_bitCount_0f7a4 41 = .ok (.iload_n 0, 1) := by decide +kernel
theorem dJ6_bitCount_0f7a4_42 : decode cJ6_bitCount_0f7a4 42 = .ok (.iload_n 0, 1) := by decide +kernel
theorem dJ6_bitCount_0f7a4_43 : decode cJ6_bitCount_0f7a4 43 = .ok (.bipush 16, 2) := by decide +kernel
theorem dJ6_bitCount_0f7a4_45 : decode cJ6_bitCount_0f7a4 45 = .ok (.iushr, 1) := by decide +kernel
theorem dJ6_bitCount_0f7a4_46 : decode cJ6_bitCount_0f7a4 46 = .ok (.iadd, 1) := by decide +kernel
theorem dJ6_bitCount_0f7a4_47 : decode cJ6_bitCount_0f7a4 47 = .ok (.istore_n 0, 1) := by decide +kernel
theorem dJ6_bitCount_0f7a4_48 : decode cJ6_bitCount_0f7a4 48 = .ok (.iload_n 0, 1) := by decide +kernel
theorem dJ6_bitCount_0f7a4_49 : decode cJ6_bitCount_0f7a4 49 = .ok (.bipush 63, 2) := by decide +kernel
theorem dJ6_bitCount_0f7a4_51 : decode cJ6_bitCount_0f7a4 51 = .ok (.iand, 1) := by decide +kernel
theorem dJ6_bitCount_0f7a4_52 : decode cJ6_bitCount_0f7a4 52 = .ok (.ireturn, 1) := by decide +kernel
theorem dJ9_abs_0f7a4_0 : decode cJ9_abs_0f7a4 0 = .ok (.iload_n 0, 1) := by decide +kernel
theorem dJ9_abs_0f7a4_1 : decode cJ9_abs_0f7a4 1 = .ok (.ifCond .ge 8, 3) := by decide +kernel
theorem dJ9_abs_0f7a4_4 : decode cJ9_abs_0f7a4 4 = .ok (.iload_n 0, 1) := by decide +kernel
theorem dJ9_abs_0f7a4_5 : decode cJ9_abs_0f7a4 5 = .ok (.ineg, 1) := by decide +kernel
theorem dJ9_abs_0f7a4_6 : decode cJ9_abs_0f7a4 6 = .ok (.goto 4, 3) := by decide +kernel
theorem dJ9_abs_0f7a4_9 : decode cJ9_abs_0f7a4 9 = .ok (.iload_n 0, 1) := by decide +kernel
theorem dJ9_abs_0f7a4_10 : decode cJ9_abs_0f7a4 10 = .ok (.ireturn, 1) := by decide +kernel
theorem dJ9_max_7cf53_0 : decode cJ9_max_7cf53 0 = .ok (.iload_n 0, 1) := by decide +kernel
theorem dJ9_max_7cf53_1 : decode cJ9_max_7cf53 1 = .ok (.iload_n 1, 1) := by decide +kernel
theorem dJ9_max_7cf53_2 : decode cJ9_max_7cf53 2 = .ok (.if_icmp .lt 7, 3) := by decide +kernel
theorem dJ9_max_7cf53_5 : decode cJ9_max_7cf53 5 = .ok (.iload_n 0, 1) := by decide +kernel
theorem dJ9_max_7cf53_6 : decode cJ9_max_7cf53 6 = .ok (.goto 4, 3) := by decide +kernel
theorem dJ9_max_7cf53_9 : decode cJ9_max_7cf53 9 = .ok (.iload_n 1, 1) := by decide +kernel
theorem dJ9_max_7cf53_10 : decode cJ9_max_7cf53 10 = .ok (.ireturn, 1) := by decide +kernel
theorem dJ9_min_7cf53_0 : decode cJ9_min_7cf53 0 = .ok (.iload_n 0, 1) := by decide +kernel
theorem dJ9_min_7cf53_1 : decode cJ9_min_7cf53 1 = .ok (.iload_n 1, 1) := by decide +kernel
theorem dJ9_min_7cf53_2 : decode cJ9_min_7cf53 2 = .ok (.if_icmp .gt 7, 3) := by decide +kernel
theorem dJ9_min_7cf53_5 : decode cJ9_min_7cf53 5 = .ok (.iload_n 0, 1) := by decide +kernel
theorem dJ9_min_7cf53_6 : decode cJ9_min_7cf53 6 = .ok (.goto 4, 3) := by decide +kernel
theorem dJ9_min_7cf53_9 : decode cJ9_min_7cf53 9 = .ok (.iload_n 1, 1) := by decide +kernel
theorem dJ9_min_7cf53_10 : decode cJ9_min_7cf53 10 = .ok (.ireturn, 1) := by decide +kernel
theorem dJxa1e45_init_da8c8_0 : decode cJxa1e45_init_da8c8 0 = .ok (.aload_n 0, 1) := by decide +kernel
theorem dJxa1e45_init_da8c8_1 : decode cJxa1e45_init_da8c8 1 = .ok (.invokespecial 1, 3) := by decide +kernel
theorem dJxa1e45_init_da8c8_4 : decode cJxa1e45_init_da8c8 4 = .ok (.return_, 1) := by decide +kernel
theorem dJxc12de_init_da8c8_0 : decode cJxc12de_init_da8c8 0 = .ok (.aload_n 0, 1) := by decide +kernel
theorem dJxc12de_init_da8c8_1 : decode cJxc12de_init_da8c8 1 = .ok (.invokespecial 1, 3) := by decide +kernel
theorem dJxc12de_init_da8c8_4 : decode cJxc12de_init_da8c8 4 = .ok (.aload_n 0, 1) := by decide +kernel
theorem dJxc12de_init_da8c8_5 : decode cJxc12de_init_da8c8 5 = .ok (.iconst 0, 1) := by decide +kernel
theorem dJxc12de_init_da8c8_6 : decode cJxc12de_init_da8c8 6 = .ok (.putfield 7, 3) := by decide +kernel
theorem dJxc12de_init_da8c8_9 : decode cJxc12de_init_da8c8 9 = .ok (.return_, 1) := by decide +kernel
theorem dJx4a65c_init_da8c8_0 : decode cJx4a65c_init_da8c8 0 = .ok (.aload_n 0, 1) := by decide +kernel
theorem dJx4a65c_init_da8c8_1 : decode cJx4a65c_init_da8c8 1 = .ok (.invokespecial 1, 3) := by decide +kernel
theorem dJx4a65c_init_da8c8_4 : decode cJx4a65c_init_da8c8 4 = .ok (.aload_n 0, 1) := by decide +kernel
theorem dJx4a65c_init_da8c8_5 : decode cJx4a65c_init_da8c8 5 = .ok (.getstatic 39, 3) := by decide +kernel
theorem dJx4a65c_init_da8c8_8 : decode cJx4a65c_init_da8c8 8 = .ok (.putfield 9, 3) := by decide +kernel
theorem dJx4a65c_init_da8c8_11 : decode cJx4a65c_init_da8c8 11 = .ok (.return_, 1) := by decide +kernel
theorem dJx4a65c_grow_92f84_0 : decode cJx4a65c_grow_92f84 0 = .ok (.aload_n 0, 1) := by decide +kernel
theorem dJx4a65c_grow_92f84_1 : decode cJx4a65c_grow_92f84 1 = .ok (.getfield 9, 3) := by decide +kernel
theorem dJx4a65c_grow_92f84_4 : decode cJx4a65c_grow_92f84 4 = .ok (.arraylength, 1) := by decide +kernel
theorem dJx4a65c_grow_92f84_5 : decode cJx4a65c_grow_92f84 5 = .ok (.istore_n 2, 1) := by decide +kernel
theorem dJx4a65c_grow_92f84_6 : decode cJx4a65c_grow_92f84 6 = .ok (.iload_n 2, 1) := by decide +kernel
theorem dJx4a65c_grow_92f84_7 : decode cJx4a65c_grow_92f84 7 = .ok (.ifCond .gt 13, 3) := by decide +kernel
theorem dJx4a65c_grow_92f84_10 : decode cJx4a65c_grow_92f84 10 = .ok (.aload_n 0, 1) := by decide +kernel
theorem dJx4a65c_grow_92f84_11 : decode cJx4a65c_grow_92f84 11 = .ok (.getfield 9, 3) := by decide +kernel
theorem dJx4a65c_grow_92f84_14 : decode cJx4a65c_grow_92f84 14 = .ok (.getstatic 39, 3) := by decide +kernel
theorem dJx4a65c_grow_92f84_17 : decode cJx4a65c_grow_92f84 17 = .ok (.if_acmp .eq 28, 3) := by decide +kernel
theorem dJx4a65c_grow_92f84_20 : decode cJx4a65c_grow_92f84 20 = .ok (.iload_n 2, 1) := by decide +kernel
theorem dJx4a65c_grow_92f84_21 : decode cJx4a65c_grow_92f84 21 = .ok (.iload_n 1, 1) := by decide +kernel
theorem dJx4a65c_grow_92f84_22 : decode cJx4a65c_grow_92f84 22 = .ok (.iload_n 2, 1) := by decide +kernel
theorem dJx4a65c_grow_92f84_23 : decode cJx4a65c_grow_92f84 23 = .ok (.isub, 1) := by decide +kernel
theorem dJx4a65c_grow_92f84_24 : decode cJx4a65c_grow_92f84 24 = .ok (.iload_n 2, 1) := by decide +kernel
theorem dJx4a65c_grow_92f84_25 : decode cJx4a65c_grow_92f84 25 = .ok (.iconst 1, 1) := by decide +kernel
theorem dJx4a65c_grow_92f84_26 : decode cJx4a65c_grow_92f84 26 = .ok (.ishr, 1) := by decide +kernel
theorem dJx4a65c_grow_92f84_27 : decode cJx4a65c_grow_92f84 27 = .ok (.invokestatic 73, 3) := by decide +kernel
theorem dJx4a65c_grow_92f84_30 : decode cJx4a65c_grow_92f84 30 = .ok (.istore_n 3, 1) := by decide +kernel
theorem dJx4a65c_grow_92f84_31 : decode cJx4a65c_grow_92f84 31 = .ok (.aload_n 0, 1) := by decide +kernel
theorem dJx4a65c_grow_92f84_32 : decode cJx4a65c_grow_92f84 32 = .ok (.aload_n 0, 1) := by decide +kernel
theorem dJx4a65c_grow_92f84_33 : decode cJx4a65c_grow_92f84 33 = .ok (.getfield 9, 3) := by decide +kernel
theorem dJx4a65c_grow_92f84_36 : decode cJx4a65c_grow_92f84 36 = .ok (.iload_n 3, 1) := by decide +kernel
theorem dJx4a65c_grow_92f84_37 : decode cJx4a65c_grow_92f84 37 = .ok (.invokestatic 66, 3) := by decide +kernel
theorem dJx4a65c_grow_92f84_40 : decode cJx4a65c_grow_92f84 40 = .ok (.dup_x1, 1) := by decide +kernel
theorem dJx4a65c_grow_92f84_41 : decode cJx4a65c_grow_92f84 41 = .ok (.putfield 9, 3) := by decide +kernel
theorem dJx4a65c_grow_92f84_44 : decode cJx4a65c_grow_92f84 44 = .ok (.areturn, 1) := by decide +kernel
theorem dJx4a65c_grow_92f84_45 : decode cJx4a65c_grow_92f84 45 = .ok (.aload_n 0, 1) := by decide +kernel
theorem dJx4a65c_grow_92f84_46 : decode cJx4a65c_grow_92f84 46 = .ok (.bipush 10, 2) := by decide +kernel
theorem dJx4a65c_grow_92f84_48 : decode cJx4a65c_grow_92f84 48 = .ok (.iload_n 1, 1) := by decide +kernel
theorem dJx4a65c_grow_92f84_49 : decode cJx4a65c_grow_92f84 49 = .ok (.invokestatic 79, 3) := by decide +kernel
theorem dJx4a65c_grow_92f84_52 : decode cJx4a65c_grow_92f84 52 = .ok (.anewarray 7, 3) := by decide +kernel
theorem dJx4a65c_grow_92f84_55 : decode cJx4a65c_grow_92f84 55 = .ok (.dup_x1, 1) := by decide +kernel
theorem dJx4a65c_grow_92f84_56 : decode cJx4a65c_grow_92f84 56 = .ok (.putfield 9, 3) := by decide +kernel
theorem dJx4a65c_grow_92f84_59 : decode cJx4a65c_grow_92f84 59 = .ok (.areturn, 1) := by decide +kernel
theorem dJx4a65c_grow_d5877_0 : decode cJx4a65c_grow_d5877 0 = .ok (.aload_n 0, 1) := by decide +kernel
theorem dJx4a65c_grow_d5877_1 : decode cJx4a65c_grow_d5877 1 = .ok (.aload_n 0, 1) := by decide +kernel
theorem dJx4a65c_grow_d5877_2 : decode cJx4a65c_grow_d5877 2 = .ok (.getfield 48, 3) := by decide +kernel
theorem dJx4a65c_grow_d5877_5 : decode cJx4a65c_grow_d5877 5 = .ok (.iconst 1, 1) := by decide +kernel
theorem dJx4a65c_grow_d5877_6 : decode cJx4a65c_grow_d5877 6 = .ok (.iadd, 1) := by decide +kernel
theorem dJx4a65c_grow_d5877_7 : decode cJx4a65c_grow_d5877 7 = .ok (.invokevirtual 69, 3) := by decide +kernel
theorem dJx4a65c_grow_d5877_10 : decode cJx4a65c_grow_d5877 10 = .ok (.areturn, 1) := by decide +kernel
theorem dJx4a65c_size_8abf5_0 : decode cJx4a65c_size_8abf5 0 = .ok (.aload_n 0, 1) := by decide +kernel
theorem dJx4a65c_size_8abf5_1 : decode cJx4a65c_size_8abf5 1 = .ok (.getfield 48, 3) := by decide +kernel
theorem dJx4a65c_size_8abf5_4 : decode cJx4a65c_size_8abf5 4 = .ok (.ireturn, 1) := by decide +kernel
theorem dJx4a65c_isEmpty_aae02_0 : decode cJx4a65c_isEmpty_aae02 0 = .ok (.aload_n 0, 1) := by decide +kernel
theorem dJx4a65c_isEmpty_aae02_1 : decode cJx4a65c_isEmpty_aae02 1 = .ok (.getfield 48, 3) := by decide +kernel
theorem dJx4a65c_isEmpty_aae02_4 : decode cJx4a65c_isEmpty_aae02 4 = .ok (.ifCond .ne 7, 3) := by decide +kernel
theorem dJx4a65c_isEmpty_aae02_7 : decode cJx4a65c_isEmpty_aae02 7 = .ok (.iconst 1, 1) := by decide +kernel
theorem dJx4a65c_isEmpty_aae02_8 : decode cJx4a65c_isEmpty_aae02 8 = .ok (.goto 4, 3) := by decide +kernel
theorem dJx4a65c_isEmpty_aae02_11 : decode cJx4a65c_isEmpty_aae02 11 = .ok (.iconst 0, 1) := by decide +kernel
theorem dJx4a65c_isEmpty_aae02_12 : decode cJx4a65c_isEmpty_aae02 12 = .ok (.ireturn, 1) := by decide +kernel
theorem dJx4a65c_elementData_915e3_0 : decode cJx4a65c_elementData_915e3 0 = .ok (.aload_n 0, 1) := by decide +kernel
theorem dJx4a65c_elementData_915e3_1 : decode cJx4a65c_elementData_915e3 1 = .ok (.getfield 9, 3) := by decide +kernel
theorem dJx4a65c_elementData_915e3_4 : decode cJx4a65c_elementData_915e3 4 = .ok (.iload_n 1, 1) := by decide +kernel
theorem dJx4a65c_elementData_915e3_5 : decode cJx4a65c_elementData_915e3 5 = .ok (.aaload, 1) := by decide +kernel
theorem dJx4a65c_elementData_915e3_6 : decode cJx4a65c_elementData_915e3 6 = .ok (.areturn, 1) := by decide +kernel
theorem dJx4a65c_get_915e3_0 : decode cJx4a65c_get_915e3 0 = .ok (.iload_n 1, 1) := by decide +kernel
theorem dJx4a65c_get_915e3_1 : decode cJx4a65c_get_915e3 1 = .ok (.aload_n 0, 1) := by decide +kernel
theorem dJx4a65c_get_915e3_2 : decode cJx4a65c_get_915e3 2 = .ok (.getfield 48, 3) := by decide +kernel
theorem dJx4a65c_get_915e3_5 : decode cJx4a65c_get_915e3 5 = .ok (.invokestatic 118, 3) := by decide +kernel
theorem dJx4a65c_get_915e3_8 : decode cJx4a65c_get_915e3 8 = .ok (.pop, 1) := by decide +kernel
theorem dJx4a65c_get_915e3_9 : decode cJx4a65c_get_915e3 9 = .ok (.aload_n 0, 1) := by decide +kernel
theorem dJx4a65c_get_915e3_10 : decode cJx4a65c_get_915e3 10 = .ok (.iload_n 1, 1) := by decide +kernel
theorem dJx4a65c_get_915e3_11 : decode cJx4a65c_get_915e3 11 = .ok (.invokevirtual 123, 3) := by decide +kernel
theorem dJx4a65c_get_915e3_14 : decode cJx4a65c_get_915e3 14 = .ok (.areturn, 1) := by decide +kernel
theorem dJx4a65c_add_72be8_0 : decode cJx4a65c_add_72be8 0 = .ok (.iload_n 3, 1) := by decide +kernel
theorem dJx4a65c_add_72be8_1 : decode cJx4a65c_add_72be8 1 = .ok (.aload_n 2, 1) := by decide +kernel
theorem dJx4a65c_add_72be8_2 : decode cJx4a65c_add_72be8 2 = .ok (.arraylength, 1) := by decide +kernel
theorem dJx4a65c_add_72be8_3 : decode cJx4a65c_add_72be8 3 = .ok (.if_icmp .ne 8, 3) := by decide +kernel
theorem dJx4a65c_add_72be8_6 : decode cJx4a65c_add_72be8 6 = .ok (.aload_n 0, 1) := by decide +kernel
theorem dJx4a65c_add_72be8_7 : decode cJx4a65c_add_72be8 7 = .ok (.invokevirtual 129, 3) := by decide +kernel
theorem dJx4a65c_add_72be8_10 : decode cJx4a65c_add_72be8 10 = .ok (.astore_n 2, 1) := by decide +kernel
theorem dJx4a65c_add_72be8_11 : decode cJx4a65c_add_72be8 11 = .ok (.aload_n 2, 1) := by decide +kernel
theorem dJx4a65c_add_72be8_12 : decode cJx4a65c_add_72be8 12 = .ok (.iload_n 3, 1) := by decide +kernel
theorem dJx4a65c_add_72be8_13 : decode cJx4a65c_add_72be8 13 = .ok (.aload_n 1, 1) := by decide +kernel
theorem dJx4a65c_add_72be8_14 : decode cJx4a65c_add_72be8 14 = .ok (.aastore, 1) := by decide +kernel
theorem dJx4a65c_add_72be8_15 : decode cJx4a65c_add_72be8 15 = .ok (.aload_n 0, 1) := by decide +kernel
theorem dJx4a65c_add_72be8_16 : decode cJx4a65c_add_72be8 16 = .ok (.iload_n 3, 1) := by decide +kernel
theorem dJx4a65c_add_72be8_17 : decode cJx4a65c_add_72be8 17 = .ok (.iconst 1, 1) := by decide +kernel
theorem dJx4a65c_add_72be8_18 : decode cJx4a65c_add_72be8 18 = .ok (.iadd, 1) := by decide +kernel
theorem dJx4a65c_add_72be8_19 : decode cJx4a65c_add_72be8 19 = .ok (.putfield 48, 3) := by decide +kernel
theorem dJx4a65c_add_72be8_22 : decode cJx4a65c_add_72be8 22 = .ok (.return_, 1) := by decide +kernel
theorem dJx4a65c_add_9ea2d_0 : decode cJx4a65c_add_9ea2d 0 = .ok (.aload_n 0, 1) := by decide +kernel
theorem dJx4a65c_add_9ea2d_1 : decode cJx4a65c_add_9ea2d 1 = .ok (.dup, 1) := by decide +kernel
theorem dJx4a65c_add_9ea2d_2 : decode cJx4a65c_add_9ea2d 2 = .ok (.getfield 63, 3) := by decide +kernel
theorem dJx4a65c_add_9ea2d_5 : decode cJx4a65c_add_9ea2d 5 = .ok (.iconst 1, 1) := by decide +kernel
theorem dJx4a65c_add_9ea2d_6 : decode cJx4a65c_add_9ea2d 6 = .ok (.iadd, 1) := by decide +kernel
theorem dJx4a65c_add_9ea2d_7 : decode cJx4a65c_add_9ea2d 7 = .ok (.putfield 63, 3) := by decide +kernel
theorem dJx4a65c_add_9ea2d_10 : decode cJx4a65c_add_9ea2d 10 = .ok (.aload_n 0, 1) := by decide +kernel
theorem dJx4a65c_add_9ea2d_11 : decode cJx4a65c_add_9ea2d 11 = .ok (.aload_n 1, 1) := by decide +kernel
theorem dJx4a65c_add_9ea2d_12 : decode cJx4a65c_add_9ea2d 12 = .ok (.aload_n 0, 1) := by decide +kernel
theorem dJx4a65c_add_9ea2d_13 : decode cJx4a65c_add_9ea2d 13 = .ok (.getfield 9, 3) := by decide +kernel
theorem dJx4a65c_add_9ea2d_16 : decode cJx4a65c_add_9ea2d 16 = .ok (.aload_n 0, 1) := by decide +kernel
theorem dJx4a65c_add_9ea2d_17 : decode cJx4a65c_add_9ea2d 17 = .ok (.getfield 48, 3) := by decide +kernel
theorem dJx4a65c_add_9ea2d_20 : decode cJx4a65c_add_9ea2d 20 = .ok (.invokevirtual 131, 3) := by decide +kernel
theorem dJx4a65c_add_9ea2d_23 : decode cJx4a65c_add_9ea2d 23 = .ok (.iconst 1, 1) := by decide +kernel
theorem dJx4a65c_add_9ea2d_24 : decode cJx4a65c_add_9ea2d 24 = .ok (.ireturn, 1) := by decide +kernel
theorem dJx4a65c_remove_915e3_0 : decode cJx4a65c_remove_915e3 0 = .ok (.iload_n 1, 1) := by decide +kernel
theorem dJx4a65c_remove_915e3_1 : decode cJx4a65c_remove_915e3 1 = .ok (.aload_n 0, 1) := by decide +kernel
theorem dJx4a65c_remove_915e3_2 : decode cJx4a65c_remove_915e3 2 = .ok (.getfield 48, 3) := by decide +kernel
theorem dJx4a65c_remove_915e3_5 : decode cJx4a65c_remove_915e3 5 = .ok (.invokestatic 118, 3) := by decide +kernel
theorem dJx4a65c_remove_915e3_8 : decode cJx4a65c_remove_915e3 8 = .ok (.pop, 1) := by decide +kernel
theorem dJx4a65c_remove_915e3_9 : decode cJx4a65c_remove_915e3 9 = .ok (.aload_n 0, 1) := by decide +kernel
theorem dJx4a65c_remove_915e3_10 : decode cJx4a65c_remove_915e3 10 = .ok (.getfield 9, 3) := by decide +kernel
theorem dJx4a65c_remove_915e3_13 : decode cJx4a65c_remove_915e3 13 = .ok (.astore_n 2, 1) := by decide +kernel
theorem dJx4a65c_remove_915e3_14 : decode cJx4a65c_remove_915e3 14 = .ok (.aload_n 2, 1) := by decide +kernel
theorem dJx4a65c_remove_915e3_15 : decode cJx4a65c_remove_915e3 15 = .ok (.iload_n 1, 1) := by decide +kernel
theorem dJx4a65c_remove_915e3_16 : decode cJx4a65c_remove_915e3 16 = .ok (.aaload, 1) := by decide +kernel
theorem dJx4a65c_remove_915e3_17 : decode cJx4a65c_remove_915e3 17 = .ok (.astore_n 3, 1) := by decide +kernel
theorem dJx4a65c_remove_915e3_18 : decode cJx4a65c_remove_915e3 18 = .ok (.aload_n 0, 1) := by decide +kernel
theorem dJx4a65c_remove_915e3_19 : decode cJx4a65c_remove_915e3 19 = .ok (.aload_n 2, 1) := by decide +kernel
theorem dJx4a65c_remove_915e3_20 : decode cJx4a65c_remove_915e3 20 = .ok (.iload_n 1, 1) := by decide +kernel
theorem dJx4a65c_remove_915e3_21 : decode cJx4a65c_remove_915e3 21 = .ok (.invokevirtual 144, 3) := by decide +kernel
theorem dJx4a65c_remove_915e3_24 : decode cJx4a65c_remove_915e3 24 = .ok (.aload_n 3, 1) := by decide +kernel
theorem dJx4a65c_remove_915e3_25 : decode cJx4a65c_remove_915e3 25 = .ok (.areturn, 1) := by decide +kernel
theorem dJx4a65c_fastRemove_b59b0_0 : decode cJx4a65c_fastRemove_b59b0 0 = .ok (.aload_n 0, 1) := by decide +kernel
theorem dJx4a65c_fastRemove_b59b0_1 : decode cJx4a65c_fastRemove_b59b0 1 = .ok (.dup, 1) := by decide +kernel
theorem dJx4a65c_fastRemove_b59b0_2 : decode cJx4a65c_fastRemove_b59b0 2 = .ok (.getfield 63, 3) := by decide +kernel
theorem dJx4a65c_fastRemove_b59b0_5 : decode cJx4a65c_fastRemove_b59b0 5 = .ok (.iconst 1, 1) := by decide +kernel
theorem dJx4a65c_fastRemove_b59b0_6 : decode cJx4a65c_fastRemove_b59b0 6 = .ok (.iadd, 1) := by decide +kernel
theorem dJx4a65c_fastRemove_b59b0_7 : decode cJx4a65c_fastRemove_b59b0 7 = .ok (.putfield 63, 3) := by decide +kernel
theorem dJx4a65c_fastRemove_b59b0_10 : decode cJx4a65c_fastRemove_b59b0 10 = .ok (.aload_n 0, 1) := by decide +kernel
theorem dJx4a65c_fastRemove_b59b0_11 : decode cJx4a65c_fastRemove_b59b0 11 = .ok (.getfield 48, 3) := by decide +kernel
theorem dJx4a65c_fastRemove_b59b0_14 : decode cJx4a65c_fastRemove_b59b0 14 = .ok (.iconst 1, 1) := by decide +kernel
theorem dJx4a65c_fastRemove_b59b0_15 : decode cJx4a65c_fastRemove_b59b0 15 = .ok (.isub, 1) := by decide +kernel
theorem dJx4a65c_fastRemove_b59b0_16 : decode cJx4a65c_fastRemove_b59b0 16 = .ok (.dup, 1) := by decide +kernel
theorem dJx4a65c_fastRemove_b59b0_17 : decode cJx4a65c_fastRemove_b59b0 17 = .ok (.istore_n 3, 1) := by decide +kernel
theorem dJx4a65c_fastRemove_b59b0_18 : decode cJx4a65c_fastRemove_b59b0 18 = .ok (.iload_n 2, 1) := by decide +kernel
theorem dJx4a65c_fastRemove_b59b0_19 : decode cJx4a65c_fastRemove_b59b0 19 = .ok (.if_icmp .le 15, 3) := by decide +kernel
theorem dJx4a65c_fastRemove_b59b0_22 : decode cJx4a65c_fastRemove_b59b0 22 = .ok (.aload_n 1, 1) := by decide +kernel
theorem dJx4a65c_fastRemove_b59b0_23 : decode cJx4a65c_fastRemove_b59b0 23 = .ok (.iload_n 2, 1) := by decide +kernel
theorem dJx4a65c_fastRemove_b59b0_24 : decode cJx4a65c_fastRemove_b59b0 24 = .ok (.iconst 1, 1) := by decide +kernel
theorem dJx4a65c_fastRemove_b59b0_25 : decode cJx4a65c_fastRemove_b59b0 25 = .ok (.iadd, 1) := by decide +kernel
theorem dJx4a65c_fastRemove_b59b0_26 : decode cJx4a65c_fastRemove_b59b0 26 = .ok (.aload_n 1, 1) := by decide +kernel
theorem dJx4a65c_fastRemove_b59b0_27 : decode cJx4a65c_fastRemove_b59b0 27 = .ok (.iload_n 2, 1) := by decide +kernel
theorem dJx4a65c_fastRemove_b59b0_28 : decode cJx4a65c_fastRemove_b59b0 28 = .ok (.iload_n 3, 1) := by decide +kernel
theorem dJx4a65c_fastRemove_b59b0_29 : decode cJx4a65c_fastRemove_b59b0 29 = .ok (.iload_n 2, 1) := by decide +kernel
theorem dJx4a65c_fastRemove_b59b0_30 : decode cJx4a65c_fastRemove_b59b0 30 = .ok (.isub, 1) := by decide +kernel
theorem dJx4a65c_fastRemove_b59b0_31 : decode cJx4a65c_fastRemove_b59b0 31 = .ok (.invokestatic 112, 3) := by decide +kernel
theorem dJx4a65c_fastRemove_b59b0_34 : decode cJx4a65c_fastRemove_b59b0 34 = .ok (.aload_n 1, 1) := by decide +kernel
theorem dJx4a65c_fastRemove_b59b0_35 : decode cJx4a65c_fastRemove_b59b0 35 = .ok (.aload_n 0, 1) := by decide +kernel
theorem dJx4a65c_fastRemove_b59b0_36 : decode cJx4a65c_fastRemove_b59b0 36 = .ok (.iload_n 3, 1) := by decide +kernel
theorem dJx4a65c_fastRemove_b59b0_37 : decode cJx4a65c_fastRemove_b59b0 37 = .ok (.dup_x1, 1) := by decide +kernel
theorem dJx4a65c_fastRemove_b59b0_38 : decode cJx4a65c_fastRemove_b59b0 38 = .ok (.putfield 48, 3) := by decide +kernel
theorem dJx4a65c_fastRemove_b59b0_41 : decode cJx4a65c_fastRemove_b59b0 41 = .ok (.aconst_null, 1) := by decide +kernel
theorem dJx4a65c_fastRemove_b59b0_42 : decode cJx4a65c_fastRemove_b59b0 42 = .ok (.aastore, 1) := by decide +kernel
theorem dJx4a65c_fastRemove_b59b0_43 : decode cJx4a65c_fastRemove_b59b0 43 = .ok (.return_, 1) := by decide +kernel
theorem dJ7_copyOf_1904c_0 : decode cJ7_copyOf_1904c 0 = .ok (.aload_n 0, 1) := by decide +kernel
theorem dJ7_copyOf_1904c_1 : decode cJ7_copyOf_1904c 1 = .ok (.iload_n 1, 1) := by decide +kernel
theorem dJ7_copyOf_1904c_2 : decode cJ7_copyOf_1904c 2 = .ok (.aload_n 0, 1) := by decide +kernel
theorem dJ7_copyOf_1904c_3 : decode cJ7_copyOf_1904c 3 = .ok (.invokevirtual 86, 3) := by decide +kernel
theorem dJ7_copyOf_1904c_6 : decode cJ7_copyOf_1904c 6 = .ok (.invokestatic 300, 3) := by decide +kernel
theorem dJ7_copyOf_1904c_9 : decode cJ7_copyOf_1904c 9 = .ok (.areturn, 1) := by decide +kernel
theorem dJ7_copyOf_6403c_0 : decode cJ7_copyOf_6403c 0 = .ok (.aload_n 2, 1) := by decide +kernel
theorem dJ7_copyOf_6403c_1 : decode cJ7_copyOf_6403c 1 = .ok (.ldc 110, 2) := by decide +kernel
theorem dJ7_copyOf_6403c_3 : decode cJ7_copyOf_6403c 3 = .ok (.if_acmp .ne 10, 3) := by decide +kernel
theorem dJ7_copyOf_6403c_6 : decode cJ7_copyOf_6403c 6 = .ok (.iload_n 1, 1) := by decide +kernel
theorem dJ7_copyOf_6403c_7 : decode cJ7_copyOf_6403c 7 = .ok (.anewarray 2, 3) := by decide +kernel
theorem dJ7_copyOf_6403c_10 : decode cJ7_copyOf_6403c 10 = .ok (.goto 14, 3) := by decide +kernel
theorem dJ7_copyOf_6403c_13 : decode cJ7_copyOf_6403c 13 = .ok (.aload_n 2, 1) := by decide +kernel
theorem dJ7_copyOf_6403c_14 : decode cJ7_copyOf_6403c 14 = .ok (.invokevirtual 90, 3) := by decide +kernel
theorem dJ7_copyOf_6403c_17 : decode cJ7_copyOf_6403c 17 = .ok (.iload_n 1, 1) := by decide +kernel
theorem dJ7_copyOf_6403c_18 : decode cJ7_copyOf_6403c 18 = .ok (.invokestatic 95, 3) := by decide +kernel
theorem dJ7_copyOf_6403c_21 : decode cJ7_copyOf_6403c 21 = .ok (.checkcast 110, 3) := by decide +kernel
theorem dJ7_copyOf_6403c_24 : decode cJ7_copyOf_6403c 24 = .ok (.astore_n 3, 1) := by decide +kernel
theorem dJ7_copyOf_6403c_25 : decode cJ7_copyOf_6403c 25 = .ok (.aload_n 0, 1) := by decide +kernel
theorem dJ7_copyOf_6403c_26 : decode cJ7_copyOf_6403c 26 = .ok (.iconst 0, 1) := by decide +kernel
theorem dJ7_copyOf_6403c_27 : decode cJ7_copyOf_6403c 27 = .ok (.aload_n 3, 1) := by decide +kernel
theorem dJ7_copyOf_6403c_28 : decode cJ7_copyOf_6403c 28 = .ok (.iconst 0, 1) := by decide +kernel
theorem dJ7_copyOf_6403c_29 : decode cJ7_copyOf_6403c 29 = .ok (.aload_n 0, 1) := by decide +kernel
theorem dJ7_copyOf_6403c_30 : decode cJ7_copyOf_6403c 30 = .ok (.arraylength, 1) := by decide +kernel
theorem dJ7_copyOf_6403c_31 : decode cJ7_copyOf_6403c 31 = .ok (.iload_n 1, 1) := by decide +kernel
theorem dJ7_copyOf_6403c_32 : decode cJ7_copyOf_6403c 32 = .ok (.invokestatic 304, 3) := by decide +kernel
theorem dJ7_copyOf_6403c_35 : decode cJ7_copyOf_6403c 35 = .ok (.invokestatic 150, 3) := by decide +kernel
theorem dJ7_copyOf_6403c_38 : decode cJ7_copyOf_6403c 38 = .ok (.aload_n 3, 1) := by decide +kernel
theorem dJ7_copyOf_6403c_39 : decode cJ7_copyOf_6403c 39 = .ok (.areturn, 1) := by decide +kernel
theorem dJ15_checkIndex_7cf53_0 : decode cJ15_checkIndex_7cf53 0 = .ok (.iload_n 0, 1) := by decide +kernel
theorem dJ15_checkIndex_7cf53_1 : decode cJ15_checkIndex_7cf53 1 = .ok (.iload_n 1, 1) := by decide +kernel
theorem dJ15_checkIndex_7cf53_2 : decode cJ15_checkIndex_7cf53 2 = .ok (.aconst_null, 1) := by decide +kernel
theorem dJ15_checkIndex_7cf53_3 : decode cJ15_checkIndex_7cf53 3 = .ok (.invokestatic 105, 3) := by decide +kernel
theorem dJ15_checkIndex_7cf53_6 : decode cJ15_checkIndex_7cf53 6 = .ok (.ireturn, 1) := by decide +kernel
theorem dJ8_newLength_cabcc_0 : decode cJ8_newLength_cabcc 0 = .ok (.iload_n 0, 1) := by decide +kernel
theorem dJ8_newLength_cabcc_1 : decode cJ8_newLength_cabcc 1 = .ok (.iload_n 1, 1) := by decide +kernel
theorem dJ8_newLength_cabcc_2 : decode cJ8_newLength_cabcc 2 = .ok (.iload_n 2, 1) := by decide +kernel
theorem dJ8_newLength_cabcc_3 : decode cJ8_newLength_cabcc 3 = .ok (.invokestatic 194, 3) := by decide +kernel
theorem dJ8_newLength_cabcc_6 : decode cJ8_newLength_cabcc 6 = .ok (.iadd, 1) := by decide +kernel
theorem dJ8_newLength_cabcc_7 : decode cJ8_newLength_cabcc 7 = .ok (.istore_n 3, 1) := by decide +kernel
theorem dJ8_newLength_cabcc_8 : decode cJ8_newLength_cabcc 8 = .ok (.iconst 0, 1) := by decide +kernel
theorem dJ8_newLength_cabcc_9 : decode cJ8_newLength_cabcc 9 = .ok (.iload_n 3, 1) := by decide +kernel
theorem dJ8_newLength_cabcc_10 : decode cJ8_newLength_cabcc 10 = .ok (.if_icmp .ge 11, 3) := by decide +kernel
theorem dJ8_newLength_cabcc_13 : decode cJ8_newLength_cabcc 13 = .ok (.iload_n 3, 1) := by decide +kernel
theorem dJ8_newLength_cabcc_14 : decode cJ8_newLength_cabcc 14 = .ok (.ldc 200, 2) := by decide +kernel
theorem dJ8_newLength_cabcc_16 : decode cJ8_newLength_cabcc 16 = .ok (.if_icmp .gt 5, 3) := by decide +kernel
theorem dJ8_newLength_cabcc_19 : decode cJ8_newLength_cabcc 19 = .ok (.iload_n 3, 1) := by decide +kernel
theorem dJ8_newLength_cabcc_20 : decode cJ8_newLength_cabcc 20 = .ok (.ireturn, 1) := by decide +kernel
theorem dJ8_newLength_cabcc_21 : decode cJ8_newLength_cabcc 21 = .ok (.iload_n 0, 1) := by decide +kernel
theorem dJ8_newLength_cabcc_22 : decode cJ8_newLength_cabcc 22 = .ok (.iload_n 1, 1) := by decide +kernel
theorem dJ8_newLength_cabcc_23 : decode cJ8_newLength_cabcc 23 = .ok (.invokestatic 201, 3) := by decide +kernel
theorem dJ8_newLength_cabcc_26 : decode cJ8_newLength_cabcc 26 = .ok (.ireturn, 1) := by decide +kernel
theorem dJ8_hugeLength_7cf53_0 : decode cJ8_hugeLength_7cf53 0 = .ok (.iload_n 0, 1) := by decide +kernel
theorem dJ8_hugeLength_7cf53_1 : decode cJ8_hugeLength_7cf53 1 = .ok (.iload_n 1, 1) := by decide +kernel
theorem dJ8_hugeLength_7cf53_2 : decode cJ8_hugeLength_7cf53 2 = .ok (.iadd, 1) := by decide +kernel
theorem dJ8_hugeLength_7cf53_3 : decode cJ8_hugeLength_7cf53 3 = .ok (.istore_n 2, 1) := by decide +kernel
theorem dJ8_hugeLength_7cf53_4 : decode cJ8_hugeLength_7cf53 4 = .ok (.iload_n 2, 1) := by decide +kernel
theorem dJ8_hugeLength_7cf53_5 : decode cJ8_hugeLength_7cf53 5 = .ok (.ifCond .ge 44, 3) := by decide +kernel
theorem dJ8_hugeLength_7cf53_8 : decode cJ8_hugeLength_7cf53 8 = .ok (.new 204, 3) := by decide +kernel
theorem dJ8_hugeLength_7cf53_11 : decode cJ8_hugeLength_7cf53 11 = .ok (.dup, 1) := by decide +kernel
theorem dJ8_hugeLength_7cf53_12 : decode cJ8_hugeLength_7cf53 12 = .ok (.new 89, 3) := by decide +kernel
theorem dJ8_hugeLength_7cf53_15 : decode cJ8_hugeLength_7cf53 15 = .ok (.dup, 1) := by decide +kernel
theorem dJ8_hugeLength_7cf53_16 : decode cJ8_hugeLength_7cf53 16 = .ok (.invokespecial 91, 3) := by decide +kernel
theorem dJ8_hugeLength_7cf53_19 : decode cJ8_hugeLength_7cf53 19 = .ok (.ldc 206, 2) := by decide +kernel
theorem dJ8_hugeLength_7cf53_21 : decode cJ8_hugeLength_7cf53 21 = .ok (.invokevirtual 94, 3) := by decide +kernel
theorem dJ8_hugeLength_7cf53_24 : decode cJ8_hugeLength_7cf53 24 = .ok (.iload_n 0, 1) := by decide +kernel
theorem dJ8_hugeLength_7cf53_25 : decode cJ8_hugeLength_7cf53 25 = .ok (.invokevirtual 98, 3) := by decide +kernel
theorem dJ8_hugeLength_7cf53_28 : decode cJ8_hugeLength_7cf53 28 = .ok (.ldc 208, 2) := by decide +kernel
theorem dJ8_hugeLength_7cf53_30 : decode cJ8_hugeLength_7cf53 30 = .ok (.invokevirtual 94, 3) := by decide +kernel
theorem dJ8_hugeLength_7cf53_33 : decode cJ8_hugeLength_7cf53 33 = .ok (.iload_n 1, 1) := by decide +kernel
theorem dJ8_hugeLength_7cf53_34 : decode cJ8_hugeLength_7cf53 34 = .ok (.invokevirtual 98, 3) := by decide +kernel
theorem dJ8_hugeLength_7cf53_37 : decode cJ8_hugeLength_7cf53 37 = .ok (.ldc 210, 2) := by decide +kernel
theorem dJ8_hugeLength_7cf53_39 : decode cJ8_hugeLength_7cf53 39 = .ok (.invokevirtual 94, 3) := by decide +kernel
theorem dJ8_hugeLength_7cf53_42 : decode cJ8_hugeLength_7cf53 42 = .ok (.invokevirtual 101, 3) := by decide +kernel
theorem dJ8_hugeLength_7cf53_45 : decode cJ8_hugeLength_7cf53 45 = .ok (.invokespecial 212, 3) := by decide +kernel
theorem dJ8_hugeLength_7cf53_48 : decode cJ8_hugeLength_7cf53 48 = .ok (.athrow, 1) := by decide +kernel
theorem dJ8_hugeLength_7cf53_49 : decode cJ8_hugeLength_7cf53 49 = .ok (.iload_n 2, 1) := by decide +kernel
theorem dJ8_hugeLength_7cf53_50 : decode cJ8_hugeLength_7cf53 50 = .ok (.ldc 200, 2) := by decide +kernel
theorem dJ8_hugeLength_7cf53_52 : decode cJ8_hugeLength_7cf53 52 = .ok (.if_icmp .gt 6, 3) := by decide +kernel
theorem dJ8_hugeLength_7cf53_55 : decode cJ8_hugeLength_7cf53 55 = .ok (.ldc 200, 2) := by decide +kernel
theorem dJ8_hugeLength_7cf53_57 : decode cJ8_hugeLength_7cf53 57 = .ok (.ireturn, 1) := by decide +kernel
theorem dJ8_hugeLength_7cf53_58 : decode cJ8_hugeLength_7cf53 58 = .ok (.iload_n 2, 1) := by decide +kernel
theorem dJ8_hugeLength_7cf53_59 : decode cJ8_hugeLength_7cf53 59 = .ok (.ireturn, 1) := by decide +kernel
theorem dJ3_checkIndex_8e157_0 : decode cJ3_checkIndex_8e157 0 = .ok (.iload_n 0, 1) := by decide +kernel
theorem dJ3_checkIndex_8e157_1 : decode cJ3_checkIndex_8e157 1 = .ok (.ifCond .lt 8, 3) := by decide +kernel
theorem dJ3_checkIndex_8e157_4 : decode cJ3_checkIndex_8e157 4 = .ok (.iload_n 0, 1) := by decide +kernel
theorem dJ3_checkIndex_8e157_5 : decode cJ3_checkIndex_8e157 5 = .ok (.iload_n 1, 1) := by decide +kernel
theorem dJ3_checkIndex_8e157_6 : decode cJ3_checkIndex_8e157 6 = .ok (.if_icmp .lt 10, 3) := by decide +kernel
theorem dJ3_checkIndex_8e157_9 : decode cJ3_checkIndex_8e157 9 = .ok (.aload_n 2, 1) := by decide +kernel
theorem dJ3_checkIndex_8e157_10 : decode cJ3_checkIndex_8e157 10 = .ok (.iload_n 0, 1) := by decide +kernel
theorem dJ3_checkIndex_8e157_11 : decode cJ3_checkIndex_8e157 11 = .ok (.iload_n 1, 1) := by decide +kernel
theorem dJ3_checkIndex_8e157_12 : decode cJ3_checkIndex_8e157 12 = .ok (.invokestatic 95, 3) := by decide +kernel
theorem dJ3_checkIndex_8e157_15 : decode cJ3_checkIndex_8e157 15 = .ok (.athrow, 1) := by decide +kernel
theorem dJ3_checkIndex_8e157_16 : decode cJ3_checkIndex_8e157 16 = .ok (.iload_n 0, 1) := by decide +kernel
theorem dJ3_checkIndex_8e157_17 : decode cJ3_checkIndex_8e157 17 = .ok (.ireturn, 1) := by decide +kernel
