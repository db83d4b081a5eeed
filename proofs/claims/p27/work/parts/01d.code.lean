theorem dX0_init_0 : decode cX0_init 0 = .ok (.aload_n 0, 1) := by decide +kernel
theorem dX0_init_1 : decode cX0_init 1 = .ok (.invokespecial 3, 3) := by decide +kernel
theorem dX0_init_4 : decode cX0_init 4 = .ok (.aload_n 0, 1) := by decide +kernel
theorem dX0_init_5 : decode cX0_init 5 = .ok (.iconst 0, 1) := by decide +kernel
theorem dX0_init_6 : decode cX0_init 6 = .ok (.newarray .int, 2) := by decide +kernel
theorem dX0_init_8 : decode cX0_init 8 = .ok (.putfield 9, 3) := by decide +kernel
theorem dX0_init_11 : decode cX0_init 11 = .ok (.aload_n 0, 1) := by decide +kernel
theorem dX0_init_12 : decode cX0_init 12 = .ok (.iload_n 1, 1) := by decide +kernel
theorem dX0_init_13 : decode cX0_init 13 = .ok (.putfield 15, 3) := by decide +kernel
theorem dX0_init_16 : decode cX0_init 16 = .ok (.aload_n 0, 1) := by decide +kernel
theorem dX0_init_17 : decode cX0_init 17 = .ok (.lconst 1, 1) := by decide +kernel
theorem dX0_init_18 : decode cX0_init 18 = .ok (.iload_n 2, 1) := by decide +kernel
theorem dX0_init_19 : decode cX0_init 19 = .ok (.lshl, 1) := by decide +kernel
theorem dX0_init_20 : decode cX0_init 20 = .ok (.putfield 19, 3) := by decide +kernel
theorem dX0_init_23 : decode cX0_init 23 = .ok (.aload_n 0, 1) := by decide +kernel
theorem dX0_init_24 : decode cX0_init 24 = .ok (.aload_n 3, 1) := by decide +kernel
theorem dX0_init_25 : decode cX0_init 25 = .ok (.getfield 23, 3) := by decide +kernel
theorem dX0_init_28 : decode cX0_init 28 = .ok (.putfield 28, 3) := by decide +kernel
theorem dX0_init_31 : decode cX0_init 31 = .ok (.aload_n 0, 1) := by decide +kernel
theorem dX0_init_32 : decode cX0_init 32 = .ok (.aload_n 3, 1) := by decide +kernel
theorem dX0_init_33 : decode cX0_init 33 = .ok (.invokevirtual 29, 3) := by decide +kernel
theorem dX0_init_36 : decode cX0_init 36 = .ok (.putfield 33, 3) := by decide +kernel
theorem dX0_init_39 : decode cX0_init 39 = .ok (.aload_n 0, 1) := by decide +kernel
theorem dX0_init_40 : decode cX0_init 40 = .ok (.iload 4, 2) := by decide +kernel
theorem dX0_init_42 : decode cX0_init 42 = .ok (.putfield 36, 3) := by decide +kernel
theorem dX0_init_45 : decode cX0_init 45 = .ok (.return_, 1) := by decide +kernel
theorem dX0_holds_0 : decode cX0_holds 0 = .ok (.aload_n 0, 1) := by decide +kernel
theorem dX0_holds_1 : decode cX0_holds 1 = .ok (.getfield 19, 3) := by decide +kernel
theorem dX0_holds_4 : decode cX0_holds 4 = .ok (.iload_n 1, 1) := by decide +kernel
theorem dX0_holds_5 : decode cX0_holds 5 = .ok (.lshr, 1) := by decide +kernel
theorem dX0_holds_6 : decode cX0_holds 6 = .ok (.lconst 1, 1) := by decide +kernel
theorem dX0_holds_7 : decode cX0_holds 7 = .ok (.land, 1) := by decide +kernel
theorem dX0_holds_8 : decode cX0_holds 8 = .ok (.lconst 0, 1) := by decide +kernel
theorem dX0_holds_9 : decode cX0_holds 9 = .ok (.lcmp, 1) := by decide +kernel
theorem dX0_holds_10 : decode cX0_holds 10 = .ok (.ifCond .eq 7, 3) := by decide +kernel
theorem dX0_holds_13 : decode cX0_holds 13 = .ok (.iconst 1, 1) := by decide +kernel
theorem dX0_holds_14 : decode cX0_holds 14 = .ok (.goto 4, 3) := by decide +kernel
theorem dX0_holds_17 : decode cX0_holds 17 = .ok (.iconst 0, 1) := by decide +kernel
theorem dX0_holds_18 : decode cX0_holds 18 = .ok (.ireturn, 1) := by decide +kernel
theorem dX0_comesInto_0 : decode cX0_comesInto 0 = .ok (.iconst 0, 1) := by decide +kernel
theorem dX0_comesInto_1 : decode cX0_comesInto 1 = .ok (.istore_n 2, 1) := by decide +kernel
theorem dX0_comesInto_2 : decode cX0_comesInto 2 = .ok (.iload_n 2, 1) := by decide +kernel
theorem dX0_comesInto_3 : decode cX0_comesInto 3 = .ok (.aload_n 0, 1) := by decide +kernel
theorem dX0_comesInto_4 : decode cX0_comesInto 4 = .ok (.getfield 9, 3) := by decide +kernel
theorem dX0_comesInto_7 : decode cX0_comesInto 7 = .ok (.arraylength, 1) := by decide +kernel
theorem dX0_comesInto_8 : decode cX0_comesInto 8 = .ok (.if_icmp .ge 24, 3) := by decide +kernel
theorem dX0_comesInto_11 : decode cX0_comesInto 11 = .ok (.aload_n 0, 1) := by decide +kernel
theorem dX0_comesInto_12 : decode cX0_comesInto 12 = .ok (.getfield 9, 3) := by decide +kernel
theorem dX0_comesInto_15 : decode cX0_comesInto 15 = .ok (.iload_n 2, 1) := by decide +kernel
theorem dX0_comesInto_16 : decode cX0_comesInto 16 = .ok (.iaload, 1) := by decide +kernel
theorem dX0_comesInto_17 : decode cX0_comesInto 17 = .ok (.bipush 100, 2) := by decide +kernel
theorem dX0_comesInto_19 : decode cX0_comesInto 19 = .ok (.idiv, 1) := by decide +kernel
theorem dX0_comesInto_20 : decode cX0_comesInto 20 = .ok (.iload_n 1, 1) := by decide +kernel
theorem dX0_comesInto_21 : decode cX0_comesInto 21 = .ok (.if_icmp .ne 5, 3) := by decide +kernel
theorem dX0_comesInto_24 : decode cX0_comesInto 24 = .ok (.iconst 1, 1) := by decide +kernel
theorem dX0_comesInto_25 : decode cX0_comesInto 25 = .ok (.ireturn, 1) := by decide +kernel
theorem dX0_comesInto_26 : decode cX0_comesInto 26 = .ok (.iinc 2 1, 3) := by decide +kernel
theorem dX0_comesInto_29 : decode cX0_comesInto 29 = .ok (.goto (-27), 3) := by decide +kernel
theorem dX0_comesInto_32 : decode cX0_comesInto 32 = .ok (.iconst 0, 1) := by decide +kernel
theorem dX0_comesInto_33 : decode cX0_comesInto 33 = .ok (.ireturn, 1) := by decide +kernel
theorem dX0_absorb_0 : decode cX0_absorb 0 = .ok (.aload_n 0, 1) := by decide +kernel
theorem dX0_absorb_1 : decode cX0_absorb 1 = .ok (.dup, 1) := by decide +kernel
theorem dX0_absorb_2 : decode cX0_absorb 2 = .ok (.getfield 19, 3) := by decide +kernel
theorem dX0_absorb_5 : decode cX0_absorb 5 = .ok (.aload_n 1, 1) := by decide +kernel
theorem dX0_absorb_6 : decode cX0_absorb 6 = .ok (.getfield 19, 3) := by decide +kernel
theorem dX0_absorb_9 : decode cX0_absorb 9 = .ok (.lor, 1) := by decide +kernel
theorem dX0_absorb_10 : decode cX0_absorb 10 = .ok (.putfield 19, 3) := by decide +kernel
theorem dX0_absorb_13 : decode cX0_absorb 13 = .ok (.aload_n 0, 1) := by decide +kernel
theorem dX0_absorb_14 : decode cX0_absorb 14 = .ok (.dup, 1) := by decide +kernel
theorem dX0_absorb_15 : decode cX0_absorb 15 = .ok (.getfield 28, 3) := by decide +kernel
theorem dX0_absorb_18 : decode cX0_absorb 18 = .ok (.aload_n 1, 1) := by decide +kernel
theorem dX0_absorb_19 : decode cX0_absorb 19 = .ok (.getfield 28, 3) := by decide +kernel
theorem dX0_absorb_22 : decode cX0_absorb 22 = .ok (.ior, 1) := by decide +kernel
theorem dX0_absorb_23 : decode cX0_absorb 23 = .ok (.putfield 28, 3) := by decide +kernel
theorem dX0_absorb_26 : decode cX0_absorb 26 = .ok (.aload_n 0, 1) := by decide +kernel
theorem dX0_absorb_27 : decode cX0_absorb 27 = .ok (.dup, 1) := by decide +kernel
theorem dX0_absorb_28 : decode cX0_absorb 28 = .ok (.getfield 33, 3) := by decide +kernel
theorem dX0_absorb_31 : decode cX0_absorb 31 = .ok (.aload_n 1, 1) := by decide +kernel
theorem dX0_absorb_32 : decode cX0_absorb 32 = .ok (.getfield 33, 3) := by decide +kernel
theorem dX0_absorb_35 : decode cX0_absorb 35 = .ok (.iadd, 1) := by decide +kernel
theorem dX0_absorb_36 : decode cX0_absorb 36 = .ok (.putfield 33, 3) := by decide +kernel
theorem dX0_absorb_39 : decode cX0_absorb 39 = .ok (.aload_n 0, 1) := by decide +kernel
theorem dX0_absorb_40 : decode cX0_absorb 40 = .ok (.dup, 1) := by decide +kernel
theorem dX0_absorb_41 : decode cX0_absorb 41 = .ok (.getfield 36, 3) := by decide +kernel
theorem dX0_absorb_44 : decode cX0_absorb 44 = .ok (.aload_n 1, 1) := by decide +kernel
theorem dX0_absorb_45 : decode cX0_absorb 45 = .ok (.getfield 36, 3) := by decide +kernel
theorem dX0_absorb_48 : decode cX0_absorb 48 = .ok (.iload_n 2, 1) := by decide +kernel
theorem dX0_absorb_49 : decode cX0_absorb 49 = .ok (.isub, 1) := by decide +kernel
theorem dX0_absorb_50 : decode cX0_absorb 50 = .ok (.iadd, 1) := by decide +kernel
theorem dX0_absorb_51 : decode cX0_absorb 51 = .ok (.putfield 36, 3) := by decide +kernel
theorem dX0_absorb_54 : decode cX0_absorb 54 = .ok (.return_, 1) := by decide +kernel
theorem dX1_init_0 : decode cX1_init 0 = .ok (.aload_n 0, 1) := by decide +kernel
theorem dX1_init_1 : decode cX1_init 1 = .ok (.invokespecial 3, 3) := by decide +kernel
theorem dX1_init_4 : decode cX1_init 4 = .ok (.aload_n 0, 1) := by decide +kernel
theorem dX1_init_5 : decode cX1_init 5 = .ok (.bipush 20, 2) := by decide +kernel
theorem dX1_init_7 : decode cX1_init 7 = .ok (.newarray .int, 2) := by decide +kernel
theorem dX1_init_9 : decode cX1_init 9 = .ok (.putfield 9, 3) := by decide +kernel
theorem dX1_init_12 : decode cX1_init 12 = .ok (.aload_n 0, 1) := by decide +kernel
theorem dX1_init_13 : decode cX1_init 13 = .ok (.iconst 0, 1) := by decide +kernel
theorem dX1_init_14 : decode cX1_init 14 = .ok (.putfield 15, 3) := by decide +kernel
theorem dX1_init_17 : decode cX1_init 17 = .ok (.aload_n 0, 1) := by decide +kernel
theorem dX1_init_18 : decode cX1_init 18 = .ok (.iload_n 1, 1) := by decide +kernel
theorem dX1_init_19 : decode cX1_init 19 = .ok (.putfield 19, 3) := by decide +kernel
theorem dX1_init_22 : decode cX1_init 22 = .ok (.return_, 1) := by decide +kernel
theorem dX1_asksFor_0 : decode cX1_asksFor 0 = .ok (.aload_n 0, 1) := by decide +kernel
theorem dX1_asksFor_1 : decode cX1_asksFor 1 = .ok (.getfield 22, 3) := by decide +kernel
theorem dX1_asksFor_4 : decode cX1_asksFor 4 = .ok (.iload_n 1, 1) := by decide +kernel
theorem dX1_asksFor_5 : decode cX1_asksFor 5 = .ok (.invokestatic 25, 3) := by decide +kernel
theorem dX1_asksFor_8 : decode cX1_asksFor 8 = .ok (.ireturn, 1) := by decide +kernel
theorem dX1_countLines_0 : decode cX1_countLines 0 = .ok (.aload_n 0, 1) := by decide +kernel
theorem dX1_countLines_1 : decode cX1_countLines 1 = .ok (.getfield 22, 3) := by decide +kernel
theorem dX1_countLines_4 : decode cX1_countLines 4 = .ok (.invokestatic 29, 3) := by decide +kernel
theorem dX1_countLines_7 : decode cX1_countLines 7 = .ok (.ireturn, 1) := by decide +kernel
theorem dX1_addLine_0 : decode cX1_addLine 0 = .ok (.aload_n 0, 1) := by decide +kernel
theorem dX1_addLine_1 : decode cX1_addLine 1 = .ok (.dup, 1) := by decide +kernel
theorem dX1_addLine_2 : decode cX1_addLine 2 = .ok (.getfield 22, 3) := by decide +kernel
theorem dX1_addLine_5 : decode cX1_addLine 5 = .ok (.iconst 1, 1) := by decide +kernel
theorem dX1_addLine_6 : decode cX1_addLine 6 = .ok (.iload_n 1, 1) := by decide +kernel
theorem dX1_addLine_7 : decode cX1_addLine 7 = .ok (.ishl, 1) := by decide +kernel
theorem dX1_addLine_8 : decode cX1_addLine 8 = .ok (.ior, 1) := by decide +kernel
theorem dX1_addLine_9 : decode cX1_addLine 9 = .ok (.putfield 22, 3) := by decide +kernel
theorem dX1_addLine_12 : decode cX1_addLine 12 = .ok (.aload_n 0, 1) := by decide +kernel
theorem dX1_addLine_13 : decode cX1_addLine 13 = .ok (.getfield 9, 3) := by decide +kernel
theorem dX1_addLine_16 : decode cX1_addLine 16 = .ok (.iload_n 1, 1) := by decide +kernel
theorem dX1_addLine_17 : decode cX1_addLine 17 = .ok (.iload_n 2, 1) := by decide +kernel
theorem dX1_addLine_18 : decode cX1_addLine 18 = .ok (.iastore, 1) := by decide +kernel
theorem dX1_addLine_19 : decode cX1_addLine 19 = .ok (.return_, 1) := by decide +kernel
theorem dX1_isTakenAt_0 : decode cX1_isTakenAt 0 = .ok (.aload_n 0, 1) := by decide +kernel
theorem dX1_isTakenAt_1 : decode cX1_isTakenAt 1 = .ok (.getfield 15, 3) := by decide +kernel
theorem dX1_isTakenAt_4 : decode cX1_isTakenAt 4 = .ok (.ifCond .ne 22, 3) := by decide +kernel
theorem dX1_isTakenAt_7 : decode cX1_isTakenAt 7 = .ok (.aload_n 0, 1) := by decide +kernel
theorem dX1_isTakenAt_8 : decode cX1_isTakenAt 8 = .ok (.getfield 22, 3) := by decide +kernel
theorem dX1_isTakenAt_11 : decode cX1_isTakenAt 11 = .ok (.ifCond .eq 15, 3) := by decide +kernel
theorem dX1_isTakenAt_14 : decode cX1_isTakenAt 14 = .ok (.aload_n 0, 1) := by decide +kernel
theorem dX1_isTakenAt_15 : decode cX1_isTakenAt 15 = .ok (.getfield 19, 3) := by decide +kernel
theorem dX1_isTakenAt_18 : decode cX1_isTakenAt 18 = .ok (.iload_n 1, 1) := by decide +kernel
theorem dX1_isTakenAt_19 : decode cX1_isTakenAt 19 = .ok (.if_icmp .gt 7, 3) := by decide +kernel
theorem dX1_isTakenAt_22 : decode cX1_isTakenAt 22 = .ok (.iconst 1, 1) := by decide +kernel
theorem dX1_isTakenAt_23 : decode cX1_isTakenAt 23 = .ok (.goto 4, 3) := by decide +kernel
theorem dX1_isTakenAt_26 : decode cX1_isTakenAt 26 = .ok (.iconst 0, 1) := by decide +kernel
theorem dX1_isTakenAt_27 : decode cX1_isTakenAt 27 = .ok (.ireturn, 1) := by decide +kernel
theorem dX2_init_0 : decode cX2_init 0 = .ok (.aload_n 0, 1) := by decide +kernel
theorem dX2_init_1 : decode cX2_init 1 = .ok (.invokespecial 3, 3) := by decide +kernel
theorem dX2_init_4 : decode cX2_init 4 = .ok (.aload_n 0, 1) := by decide +kernel
theorem dX2_init_5 : decode cX2_init 5 = .ok (.bipush 9, 2) := by decide +kernel
theorem dX2_init_7 : decode cX2_init 7 = .ok (.newarray .int, 2) := by decide +kernel
theorem dX2_init_9 : decode cX2_init 9 = .ok (.putfield 9, 3) := by decide +kernel
theorem dX2_init_12 : decode cX2_init 12 = .ok (.aload_n 0, 1) := by decide +kernel
theorem dX2_init_13 : decode cX2_init 13 = .ok (.bipush 10, 2) := by decide +kernel
theorem dX2_init_15 : decode cX2_init 15 = .ok (.bipush 10, 2) := by decide +kernel
theorem dX2_init_17 : decode cX2_init 17 = .ok (.multianewarray 15 2, 4) := by decide +kernel
theorem dX2_init_21 : decode cX2_init 21 = .ok (.putfield 17, 3) := by decide +kernel
theorem dX2_init_24 : decode cX2_init 24 = .ok (.aload_n 0, 1) := by decide +kernel
theorem dX2_init_25 : decode cX2_init 25 = .ok (.sipush 4608, 3) := by decide +kernel
theorem dX2_init_28 : decode cX2_init 28 = .ok (.newarray .int, 2) := by decide +kernel
theorem dX2_init_30 : decode cX2_init 30 = .ok (.putfield 20, 3) := by decide +kernel
theorem dX2_init_33 : decode cX2_init 33 = .ok (.aload_n 0, 1) := by decide +kernel
theorem dX2_init_34 : decode cX2_init 34 = .ok (.aload_n 1, 1) := by decide +kernel
theorem dX2_init_35 : decode cX2_init 35 = .ok (.putfield 23, 3) := by decide +kernel
theorem dX2_init_38 : decode cX2_init 38 = .ok (.return_, 1) := by decide +kernel
theorem dX2_leastLength_0 : decode cX2_leastLength 0 = .ok (.aload_n 0, 1) := by decide +kernel
theorem dX2_leastLength_1 : decode cX2_leastLength 1 = .ok (.iload_n 1, 1) := by decide +kernel
theorem dX2_leastLength_2 : decode cX2_leastLength 2 = .ok (.invokevirtual 27, 3) := by decide +kernel
theorem dX2_leastLength_5 : decode cX2_leastLength 5 = .ok (.aload_n 0, 1) := by decide +kernel
theorem dX2_leastLength_6 : decode cX2_leastLength 6 = .ok (.invokevirtual 31, 3) := by decide +kernel
theorem dX2_leastLength_9 : decode cX2_leastLength 9 = .ok (.aload_n 0, 1) := by decide +kernel
theorem dX2_leastLength_10 : decode cX2_leastLength 10 = .ok (.bipush 9, 2) := by decide +kernel
theorem dX2_leastLength_12 : decode cX2_leastLength 12 = .ok (.aload_n 0, 1) := by decide +kernel
theorem dX2_leastLength_13 : decode cX2_leastLength 13 = .ok (.invokevirtual 34, 3) := by decide +kernel
theorem dX2_leastLength_16 : decode cX2_leastLength 16 = .ok (.invokevirtual 38, 3) := by decide +kernel
theorem dX2_leastLength_19 : decode cX2_leastLength 19 = .ok (.ireturn, 1) := by decide +kernel
theorem dX2_bestRoute_0 : decode cX2_bestRoute 0 = .ok (.aload_n 0, 1) := by decide +kernel
theorem dX2_bestRoute_1 : decode cX2_bestRoute 1 = .ok (.iload_n 1, 1) := by decide +kernel
theorem dX2_bestRoute_2 : decode cX2_bestRoute 2 = .ok (.invokevirtual 27, 3) := by decide +kernel
theorem dX2_bestRoute_5 : decode cX2_bestRoute 5 = .ok (.aload_n 0, 1) := by decide +kernel
theorem dX2_bestRoute_6 : decode cX2_bestRoute 6 = .ok (.invokevirtual 31, 3) := by decide +kernel
theorem dX2_bestRoute_9 : decode cX2_bestRoute 9 = .ok (.aload_n 0, 1) := by decide +kernel
theorem dX2_bestRoute_10 : decode cX2_bestRoute 10 = .ok (.getfield 42, 3) := by decide +kernel
theorem dX2_bestRoute_13 : decode cX2_bestRoute 13 = .ok (.newarray .int, 2) := by decide +kernel
theorem dX2_bestRoute_15 : decode cX2_bestRoute 15 = .ok (.astore_n 2, 1) := by decide +kernel
theorem dX2_bestRoute_16 : decode cX2_bestRoute 16 = .ok (.bipush 9, 2) := by decide +kernel
theorem dX2_bestRoute_18 : decode cX2_bestRoute 18 = .ok (.istore_n 3, 1) := by decide +kernel
theorem dX2_bestRoute_19 : decode cX2_bestRoute 19 = .ok (.aload_n 0, 1) := by decide +kernel
theorem dX2_bestRoute_20 : decode cX2_bestRoute 20 = .ok (.invokevirtual 34, 3) := by decide +kernel
theorem dX2_bestRoute_23 : decode cX2_bestRoute 23 = .ok (.istore 4, 2) := by decide +kernel
theorem dX2_bestRoute_25 : decode cX2_bestRoute 25 = .ok (.iconst 0, 1) := by decide +kernel
theorem dX2_bestRoute_26 : decode cX2_bestRoute 26 = .ok (.istore 5, 2) := by decide +kernel
theorem dX2_bestRoute_28 : decode cX2_bestRoute 28 = .ok (.iload 5, 2) := by decide +kernel
theorem dX2_bestRoute_30 : decode cX2_bestRoute 30 = .ok (.aload_n 0, 1) := by decide +kernel
theorem dX2_bestRoute_31 : decode cX2_bestRoute 31 = .ok (.getfield 42, 3) := by decide +kernel
theorem dX2_bestRoute_34 : decode cX2_bestRoute 34 = .ok (.if_icmp .ge 35, 3) := by decide +kernel
theorem dX2_bestRoute_37 : decode cX2_bestRoute 37 = .ok (.aload_n 0, 1) := by decide +kernel
theorem dX2_bestRoute_38 : decode cX2_bestRoute 38 = .ok (.iload_n 3, 1) := by decide +kernel
theorem dX2_bestRoute_39 : decode cX2_bestRoute 39 = .ok (.iload 4, 2) := by decide +kernel
theorem dX2_bestRoute_41 : decode cX2_bestRoute 41 = .ok (.invokevirtual 46, 3) := by decide +kernel
theorem dX2_bestRoute_44 : decode cX2_bestRoute 44 = .ok (.istore_n 3, 1) := by decide +kernel
theorem dX2_bestRoute_45 : decode cX2_bestRoute 45 = .ok (.iload 4, 2) := by decide +kernel
theorem dX2_bestRoute_47 : decode cX2_bestRoute 47 = .ok (.iconst 1, 1) := by decide +kernel
theorem dX2_bestRoute_48 : decode cX2_bestRoute 48 = .ok (.iload_n 3, 1) := by decide +kernel
theorem dX2_bestRoute_49 : decode cX2_bestRoute 49 = .ok (.ishl, 1) := by decide +kernel
theorem dX2_bestRoute_50 : decode cX2_bestRoute 50 = .ok (.ixor, 1) := by decide +kernel
theorem dX2_bestRoute_51 : decode cX2_bestRoute 51 = .ok (.istore 4, 2) := by decide +kernel
theorem dX2_bestRoute_53 : decode cX2_bestRoute 53 = .ok (.aload_n 2, 1) := by decide +kernel
theorem dX2_bestRoute_54 : decode cX2_bestRoute 54 = .ok (.iload 5, 2) := by decide +kernel
theorem dX2_bestRoute_56 : decode cX2_bestRoute 56 = .ok (.aload_n 0, 1) := by decide +kernel
theorem dX2_bestRoute_57 : decode cX2_bestRoute 57 = .ok (.getfield 9, 3) := by decide +kernel
theorem dX2_bestRoute_60 : decode cX2_bestRoute 60 = .ok (.iload_n 3, 1) := by decide +kernel
theorem dX2_bestRoute_61 : decode cX2_bestRoute 61 = .ok (.iaload, 1) := by decide +kernel
theorem dX2_bestRoute_62 : decode cX2_bestRoute 62 = .ok (.iastore, 1) := by decide +kernel
theorem dX2_bestRoute_63 : decode cX2_bestRoute 63 = .ok (.iinc 5 1, 3) := by decide +kernel
theorem dX2_bestRoute_66 : decode cX2_bestRoute 66 = .ok (.goto (-38), 3) := by decide +kernel
theorem dX2_bestRoute_69 : decode cX2_bestRoute 69 = .ok (.aload_n 2, 1) := by decide +kernel
theorem dX2_bestRoute_70 : decode cX2_bestRoute 70 = .ok (.areturn, 1) := by decide +kernel
theorem dX2_leastByTrying_0 : decode cX2_leastByTrying 0 = .ok (.aload_n 0, 1) := by decide +kernel
theorem dX2_leastByTrying_1 : decode cX2_leastByTrying 1 = .ok (.iload_n 1, 1) := by decide +kernel
theorem dX2_leastByTrying_2 : decode cX2_leastByTrying 2 = .ok (.invokevirtual 27, 3) := by decide +kernel
theorem dX2_leastByTrying_5 : decode cX2_leastByTrying 5 = .ok (.aload_n 0, 1) := by decide +kernel
theorem dX2_leastByTrying_6 : decode cX2_leastByTrying 6 = .ok (.getfield 17, 3) := by decide +kernel
theorem dX2_leastByTrying_9 : decode cX2_leastByTrying 9 = .ok (.bipush 9, 2) := by decide +kernel
theorem dX2_leastByTrying_11 : decode cX2_leastByTrying 11 = .ok (.aload_n 0, 1) := by decide +kernel
theorem dX2_leastByTrying_12 : decode cX2_leastByTrying 12 = .ok (.invokevirtual 34, 3) := by decide +kernel
theorem dX2_leastByTrying_15 : decode cX2_leastByTrying 15 = .ok (.iconst 0, 1) := by decide +kernel
theorem dX2_leastByTrying_16 : decode cX2_leastByTrying 16 = .ok (.ldc 49, 2) := by decide +kernel
theorem dX2_leastByTrying_18 : decode cX2_leastByTrying 18 = .ok (.iconst 0, 1) := by decide +kernel
theorem dX2_leastByTrying_19 : decode cX2_leastByTrying 19 = .ok (.invokestatic 50, 3) := by decide +kernel
theorem dX2_leastByTrying_22 : decode cX2_leastByTrying 22 = .ok (.ireturn, 1) := by decide +kernel
theorem dX2_throughAisles_0 : decode cX2_throughAisles 0 = .ok (.aload_n 0, 1) := by decide +kernel
theorem dX2_throughAisles_1 : decode cX2_throughAisles 1 = .ok (.iload_n 1, 1) := by decide +kernel
theorem dX2_throughAisles_2 : decode cX2_throughAisles 2 = .ok (.invokevirtual 27, 3) := by decide +kernel
theorem dX2_throughAisles_5 : decode cX2_throughAisles 5 = .ok (.aload_n 0, 1) := by decide +kernel
theorem dX2_throughAisles_6 : decode cX2_throughAisles 6 = .ok (.getfield 42, 3) := by decide +kernel
theorem dX2_throughAisles_9 : decode cX2_throughAisles 9 = .ok (.ifCond .ne 5, 3) := by decide +kernel
theorem dX2_throughAisles_12 : decode cX2_throughAisles 12 = .ok (.iconst 0, 1) := by decide +kernel
theorem dX2_throughAisles_13 : decode cX2_throughAisles 13 = .ok (.ireturn, 1) := by decide +kernel
theorem dX2_throughAisles_14 : decode cX2_throughAisles 14 = .ok (.aload_n 0, 1) := by decide +kernel
theorem dX2_throughAisles_15 : decode cX2_throughAisles 15 = .ok (.getfield 9, 3) := by decide +kernel
theorem dX2_throughAisles_18 : decode cX2_throughAisles 18 = .ok (.aload_n 0, 1) := by decide +kernel
theorem dX2_throughAisles_19 : decode cX2_throughAisles 19 = .ok (.getfield 42, 3) := by decide +kernel
theorem dX2_throughAisles_22 : decode cX2_throughAisles 22 = .ok (.iconst 1, 1) := by decide +kernel
theorem dX2_throughAisles_23 : decode cX2_throughAisles 23 = .ok (.isub, 1) := by decide +kernel
theorem dX2_throughAisles_24 : decode cX2_throughAisles 24 = .ok (.iaload, 1) := by decide +kernel
theorem dX2_throughAisles_25 : decode cX2_throughAisles 25 = .ok (.istore_n 2, 1) := by decide +kernel
theorem dX2_throughAisles_26 : decode cX2_throughAisles 26 = .ok (.aload_n 0, 1) := by decide +kernel
theorem dX2_throughAisles_27 : decode cX2_throughAisles 27 = .ok (.invokevirtual 54, 3) := by decide +kernel
theorem dX2_throughAisles_30 : decode cX2_throughAisles 30 = .ok (.iconst 1, 1) := by decide +kernel
theorem dX2_throughAisles_31 : decode cX2_throughAisles 31 = .ok (.isub, 1) := by decide +kernel
theorem dX2_throughAisles_32 : decode cX2_throughAisles 32 = .ok (.istore_n 3, 1) := by decide +kernel
theorem dX2_throughAisles_33 : decode cX2_throughAisles 33 = .ok (.iload_n 3, 1) := by decide +kernel
theorem dX2_throughAisles_34 : decode cX2_throughAisles 34 = .ok (.iconst 2, 1) := by decide +kernel
theorem dX2_throughAisles_35 : decode cX2_throughAisles 35 = .ok (.irem, 1) := by decide +kernel
theorem dX2_throughAisles_36 : decode cX2_throughAisles 36 = .ok (.ifCond .ne 12, 3) := by decide +kernel
theorem dX2_throughAisles_39 : decode cX2_throughAisles 39 = .ok (.iconst 2, 1) := by decide +kernel
theorem dX2_throughAisles_40 : decode cX2_throughAisles 40 = .ok (.iload_n 2, 1) := by decide +kernel
theorem dX2_throughAisles_41 : decode cX2_throughAisles 41 = .ok (.bipush 100, 2) := by decide +kernel
theorem dX2_throughAisles_43 : decode cX2_throughAisles 43 = .ok (.irem, 1) := by decide +kernel
theorem dX2_throughAisles_44 : decode cX2_throughAisles 44 = .ok (.imul, 1) := by decide +kernel
theorem dX2_throughAisles_45 : decode cX2_throughAisles 45 = .ok (.goto 10, 3) := by decide +kernel
theorem dX2_throughAisles_48 : decode cX2_throughAisles 48 = .ok (.aload_n 0, 1) := by decide +kernel
theorem dX2_throughAisles_49 : decode cX2_throughAisles 49 = .ok (.getfield 23, 3) := by decide +kernel
theorem dX2_throughAisles_52 : decode cX2_throughAisles 52 = .ok (.invokevirtual 57, 3) := by decide +kernel
theorem dX2_throughAisles_55 : decode cX2_throughAisles 55 = .ok (.istore 4, 2) := by decide +kernel
theorem dX2_throughAisles_57 : decode cX2_throughAisles 57 = .ok (.iconst 2, 1) := by decide +kernel
theorem dX2_throughAisles_58 : decode cX2_throughAisles 58 = .ok (.aload_n 0, 1) := by decide +kernel
theorem dX2_throughAisles_59 : decode cX2_throughAisles 59 = .ok (.getfield 23, 3) := by decide +kernel
theorem dX2_throughAisles_62 : decode cX2_throughAisles 62 = .ok (.getfield 62, 3) := by decide +kernel
theorem dX2_throughAisles_65 : decode cX2_throughAisles 65 = .ok (.imul, 1) := by decide +kernel
theorem dX2_throughAisles_66 : decode cX2_throughAisles 66 = .ok (.iload_n 2, 1) := by decide +kernel
theorem dX2_throughAisles_67 : decode cX2_throughAisles 67 = .ok (.bipush 100, 2) := by decide +kernel
theorem dX2_throughAisles_69 : decode cX2_throughAisles 69 = .ok (.idiv, 1) := by decide +kernel
theorem dX2_throughAisles_70 : decode cX2_throughAisles 70 = .ok (.imul, 1) := by decide +kernel
theorem dX2_throughAisles_71 : decode cX2_throughAisles 71 = .ok (.istore 5, 2) := by decide +kernel
theorem dX2_throughAisles_73 : decode cX2_throughAisles 73 = .ok (.iload 5, 2) := by decide +kernel
theorem dX2_throughAisles_75 : decode cX2_throughAisles 75 = .ok (.iload_n 3, 1) := by decide +kernel
theorem dX2_throughAisles_76 : decode cX2_throughAisles 76 = .ok (.aload_n 0, 1) := by decide +kernel
theorem dX2_throughAisles_77 : decode cX2_throughAisles 77 = .ok (.getfield 23, 3) := by decide +kernel
theorem dX2_throughAisles_80 : decode cX2_throughAisles 80 = .ok (.invokevirtual 57, 3) := by decide +kernel
theorem dX2_throughAisles_83 : decode cX2_throughAisles 83 = .ok (.imul, 1) := by decide +kernel
theorem dX2_throughAisles_84 : decode cX2_throughAisles 84 = .ok (.iadd, 1) := by decide +kernel
theorem dX2_throughAisles_85 : decode cX2_throughAisles 85 = .ok (.iload 4, 2) := by decide +kernel
theorem dX2_throughAisles_87 : decode cX2_throughAisles 87 = .ok (.iadd, 1) := by decide +kernel
theorem dX2_throughAisles_88 : decode cX2_throughAisles 88 = .ok (.ireturn, 1) := by decide +kernel
theorem dX2_everyPlace_0 : decode cX2_everyPlace 0 = .ok (.iconst 1, 1) := by decide +kernel
theorem dX2_everyPlace_1 : decode cX2_everyPlace 1 = .ok (.aload_n 0, 1) := by decide +kernel
theorem dX2_everyPlace_2 : decode cX2_everyPlace 2 = .ok (.getfield 42, 3) := by decide +kernel
theorem dX2_everyPlace_5 : decode cX2_everyPlace 5 = .ok (.ishl, 1) := by decide +kernel
theorem dX2_everyPlace_6 : decode cX2_everyPlace 6 = .ok (.iconst 1, 1) := by decide +kernel
theorem dX2_everyPlace_7 : decode cX2_everyPlace 7 = .ok (.isub, 1) := by decide +kernel
theorem dX2_everyPlace_8 : decode cX2_everyPlace 8 = .ok (.ireturn, 1) := by decide +kernel
theorem dX2_countAisles_0 : decode cX2_countAisles 0 = .ok (.iconst 0, 1) := by decide +kernel
theorem dX2_countAisles_1 : decode cX2_countAisles 1 = .ok (.istore_n 1, 1) := by decide +kernel
theorem dX2_countAisles_2 : decode cX2_countAisles 2 = .ok (.iconst (-1), 1) := by decide +kernel
theorem dX2_countAisles_3 : decode cX2_countAisles 3 = .ok (.istore_n 2, 1) := by decide +kernel
theorem dX2_countAisles_4 : decode cX2_countAisles 4 = .ok (.iconst 0, 1) := by decide +kernel
theorem dX2_countAisles_5 : decode cX2_countAisles 5 = .ok (.istore_n 3, 1) := by decide +kernel
theorem dX2_countAisles_6 : decode cX2_countAisles 6 = .ok (.iload_n 3, 1) := by decide +kernel
theorem dX2_countAisles_7 : decode cX2_countAisles 7 = .ok (.aload_n 0, 1) := by decide +kernel
theorem dX2_countAisles_8 : decode cX2_countAisles 8 = .ok (.getfield 42, 3) := by decide +kernel
theorem dX2_countAisles_11 : decode cX2_countAisles 11 = .ok (.if_icmp .ge 32, 3) := by decide +kernel
theorem dX2_countAisles_14 : decode cX2_countAisles 14 = .ok (.aload_n 0, 1) := by decide +kernel
theorem dX2_countAisles_15 : decode cX2_countAisles 15 = .ok (.getfield 9, 3) := by decide +kernel
theorem dX2_countAisles_18 : decode cX2_countAisles 18 = .ok (.iload_n 3, 1) := by decide +kernel
theorem dX2_countAisles_19 : decode cX2_countAisles 19 = .ok (.iaload, 1) := by decide +kernel
theorem dX2_countAisles_20 : decode cX2_countAisles 20 = .ok (.bipush 100, 2) := by decide +kernel
theorem dX2_countAisles_22 : decode cX2_countAisles 22 = .ok (.idiv, 1) := by decide +kernel
theorem dX2_countAisles_23 : decode cX2_countAisles 23 = .ok (.istore 4, 2) := by decide +kernel
theorem dX2_countAisles_25 : decode cX2_countAisles 25 = .ok (.iload 4, 2) := by decide +kernel
theorem dX2_countAisles_27 : decode cX2_countAisles 27 = .ok (.iload_n 2, 1) := by decide +kernel
theorem dX2_countAisles_28 : decode cX2_countAisles 28 = .ok (.if_icmp .eq 6, 3) := by decide +kernel
theorem dX2_countAisles_31 : decode cX2_countAisles 31 = .ok (.iinc 1 1, 3) := by decide +kernel
theorem dX2_countAisles_34 : decode cX2_countAisles 34 = .ok (.iload 4, 2) := by decide +kernel
theorem dX2_countAisles_36 : decode cX2_countAisles 36 = .ok (.istore_n 2, 1) := by decide +kernel
theorem dX2_countAisles_37 : decode cX2_countAisles 37 = .ok (.iinc 3 1, 3) := by decide +kernel
theorem dX2_countAisles_40 : decode cX2_countAisles 40 = .ok (.goto (-34), 3) := by decide +kernel
theorem dX2_countAisles_43 : decode cX2_countAisles 43 = .ok (.iload_n 1, 1) := by decide +kernel
theorem dX2_countAisles_44 : decode cX2_countAisles 44 = .ok (.ireturn, 1) := by decide +kernel
theorem dX2_gather_0 : decode cX2_gather 0 = .ok (.aload_n 0, 1) := by decide +kernel
theorem dX2_gather_1 : decode cX2_gather 1 = .ok (.iconst 0, 1) := by decide +kernel
theorem dX2_gather_2 : decode cX2_gather 2 = .ok (.putfield 42, 3) := by decide +kernel
theorem dX2_gather_5 : decode cX2_gather 5 = .ok (.iconst 0, 1) := by decide +kernel
theorem dX2_gather_6 : decode cX2_gather 6 = .ok (.istore_n 2, 1) := by decide +kernel
theorem dX2_gather_7 : decode cX2_gather 7 = .ok (.iload_n 2, 1) := by decide +kernel
theorem dX2_gather_8 : decode cX2_gather 8 = .ok (.bipush 20, 2) := by decide +kernel
theorem dX2_gather_10 : decode cX2_gather 10 = .ok (.if_icmp .ge 39, 3) := by decide +kernel
theorem dX2_gather_13 : decode cX2_gather 13 = .ok (.aload_n 0, 1) := by decide +kernel
theorem dX2_gather_14 : decode cX2_gather 14 = .ok (.getfield 42, 3) := by decide +kernel
theorem dX2_gather_17 : decode cX2_gather 17 = .ok (.bipush 9, 2) := by decide +kernel
theorem dX2_gather_19 : decode cX2_gather 19 = .ok (.if_icmp .ge 30, 3) := by decide +kernel
theorem dX2_gather_22 : decode cX2_gather 22 = .ok (.iload_n 1, 1) := by decide +kernel
theorem dX2_gather_23 : decode cX2_gather 23 = .ok (.iload_n 2, 1) := by decide +kernel
theorem dX2_gather_24 : decode cX2_gather 24 = .ok (.invokestatic 65, 3) := by decide +kernel
theorem dX2_gather_27 : decode cX2_gather 27 = .ok (.ifCond .eq 16, 3) := by decide +kernel
theorem dX2_gather_30 : decode cX2_gather 30 = .ok (.aload_n 0, 1) := by decide +kernel
theorem dX2_gather_31 : decode cX2_gather 31 = .ok (.aload_n 0, 1) := by decide +kernel
theorem dX2_gather_32 : decode cX2_gather 32 = .ok (.getfield 23, 3) := by decide +kernel
theorem dX2_gather_35 : decode cX2_gather 35 = .ok (.getfield 69, 3) := by decide +kernel
theorem dX2_gather_38 : decode cX2_gather 38 = .ok (.iload_n 2, 1) := by decide +kernel
theorem dX2_gather_39 : decode cX2_gather 39 = .ok (.iaload, 1) := by decide +kernel
theorem dX2_gather_40 : decode cX2_gather 40 = .ok (.invokevirtual 70, 3) := by decide +kernel
theorem dX2_gather_43 : decode cX2_gather 43 = .ok (.iinc 2 1, 3) := by decide +kernel
theorem dX2_gather_46 : decode cX2_gather 46 = .ok (.goto (-39), 3) := by decide +kernel
theorem dX2_gather_49 : decode cX2_gather 49 = .ok (.iconst 0, 1) := by decide +kernel
theorem dX2_gather_50 : decode cX2_gather 50 = .ok (.istore_n 2, 1) := by decide +kernel
theorem dX2_gather_51 : decode cX2_gather 51 = .ok (.iload_n 2, 1) := by decide +kernel
theorem dX2_gather_52 : decode cX2_gather 52 = .ok (.aload_n 0, 1) := by decide +kernel
theorem dX2_gather_53 : decode cX2_gather 53 = .ok (.getfield 42, 3) := by decide +kernel
theorem dX2_gather_56 : decode cX2_gather 56 = .ok (.if_icmp .ge 91, 3) := by decide +kernel
theorem dX2_gather_59 : decode cX2_gather 59 = .ok (.aload_n 0, 1) := by decide +kernel
theorem dX2_gather_60 : decode cX2_gather 60 = .ok (.getfield 23, 3) := by decide +kernel
theorem dX2_gather_63 : decode cX2_gather 63 = .ok (.iconst 0, 1) := by decide +kernel
theorem dX2_gather_64 : decode cX2_gather 64 = .ok (.aload_n 0, 1) := by decide +kernel
theorem dX2_gather_65 : decode cX2_gather 65 = .ok (.getfield 9, 3) := by decide +kernel
theorem dX2_gather_68 : decode cX2_gather 68 = .ok (.iload_n 2, 1) := by decide +kernel
theorem dX2_gather_69 : decode cX2_gather 69 = .ok (.iaload, 1) := by decide +kernel
theorem dX2_gather_70 : decode cX2_gather 70 = .ok (.invokevirtual 73, 3) := by decide +kernel
theorem dX2_gather_73 : decode cX2_gather 73 = .ok (.istore_n 3, 1) := by decide +kernel
theorem dX2_gather_74 : decode cX2_gather 74 = .ok (.aload_n 0, 1) := by decide +kernel
theorem dX2_gather_75 : decode cX2_gather 75 = .ok (.getfield 17, 3) := by decide +kernel
theorem dX2_gather_78 : decode cX2_gather 78 = .ok (.iload_n 2, 1) := by decide +kernel
theorem dX2_gather_79 : decode cX2_gather 79 = .ok (.aaload, 1) := by decide +kernel
theorem dX2_gather_80 : decode cX2_gather 80 = .ok (.bipush 9, 2) := by decide +kernel
theorem dX2_gather_82 : decode cX2_gather 82 = .ok (.iload_n 3, 1) := by decide +kernel
theorem dX2_gather_83 : decode cX2_gather 83 = .ok (.iastore, 1) := by decide +kernel
theorem dX2_gather_84 : decode cX2_gather 84 = .ok (.aload_n 0, 1) := by decide +kernel
theorem dX2_gather_85 : decode cX2_gather 85 = .ok (.getfield 17, 3) := by decide +kernel
theorem dX2_gather_88 : decode cX2_gather 88 = .ok (.bipush 9, 2) := by decide +kernel
theorem dX2_gather_90 : decode cX2_gather 90 = .ok (.aaload, 1) := by decide +kernel
theorem dX2_gather_91 : decode cX2_gather 91 = .ok (.iload_n 2, 1) := by decide +kernel
theorem dX2_gather_92 : decode cX2_gather 92 = .ok (.iload_n 3, 1) := by decide +kernel
theorem dX2_gather_93 : decode cX2_gather 93 = .ok (.iastore, 1) := by decide +kernel
theorem dX2_gather_94 : decode cX2_gather 94 = .ok (.iconst 0, 1) := by decide +kernel
theorem dX2_gather_95 : decode cX2_gather 95 = .ok (.istore 4, 2) := by decide +kernel
theorem dX2_gather_97 : decode cX2_gather 97 = .ok (.iload 4, 2) := by decide +kernel
theorem dX2_gather_99 : decode cX2_gather 99 = .ok (.aload_n 0, 1) := by decide +kernel
theorem dX2_gather_100 : decode cX2_gather 100 = .ok (.getfield 42, 3) := by decide +kernel
theorem dX2_gather_103 : decode cX2_gather 103 = .ok (.if_icmp .ge 38, 3) := by decide +kernel
theorem dX2_gather_106 : decode cX2_gather 106 = .ok (.aload_n 0, 1) := by decide +kernel
theorem dX2_gather_107 : decode cX2_gather 107 = .ok (.getfield 17, 3) := by decide +kernel
theorem dX2_gather_110 : decode cX2_gather 110 = .ok (.iload_n 2, 1) := by decide +kernel
theorem dX2_gather_111 : decode cX2_gather 111 = .ok (.aaload, 1) := by decide +kernel
theorem dX2_gather_112 : decode cX2_gather 112 = .ok (.iload 4, 2) := by decide +kernel
theorem dX2_gather_114 : decode cX2_gather 114 = .ok (.aload_n 0, 1) := by decide +kernel
theorem dX2_gather_115 : decode cX2_gather 115 = .ok (.getfield 23, 3) := by decide +kernel
theorem dX2_gather_118 : decode cX2_gather 118 = .ok (.aload_n 0, 1) := by decide +kernel
theorem dX2_gather_119 : decode cX2_gather 119 = .ok (.getfield 9, 3) := by decide +kernel
theorem dX2_gather_122 : decode cX2_gather 122 = .ok (.iload_n 2, 1) := by decide +kernel
theorem dX2_gather_123 : decode cX2_gather 123 = .ok (.iaload, 1) := by decide +kernel
theorem dX2_gather_124 : decode cX2_gather 124 = .ok (.aload_n 0, 1) := by decide +kernel
theorem dX2_gather_125 : decode cX2_gather 125 = .ok (.getfield 9, 3) := by decide +kernel
theorem dX2_gather_128 : decode cX2_gather 128 = .ok (.iload 4, 2) := by decide +kernel
theorem dX2_gather_130 : decode cX2_gather 130 = .ok (.iaload, 1) := by decide +kernel
theorem dX2_gather_131 : decode cX2_gather 131 = .ok (.invokevirtual 73, 3) := by decide +kernel
theorem dX2_gather_134 : decode cX2_gather 134 = .ok (.iastore, 1) := by decide +kernel
theorem dX2_gather_135 : decode cX2_gather 135 = .ok (.iinc 4 1, 3) := by decide +kernel
theorem dX2_gather_138 : decode cX2_gather 138 = .ok (.goto (-41), 3) := by decide +kernel
theorem dX2_gather_141 : decode cX2_gather 141 = .ok (.iinc 2 1, 3) := by decide +kernel
theorem dX2_gather_144 : decode cX2_gather 144 = .ok (.goto (-93), 3) := by decide +kernel
theorem dX2_gather_147 : decode cX2_gather 147 = .ok (.return_, 1) := by decide +kernel
theorem dX2_insertPlace_0 : decode cX2_insertPlace 0 = .ok (.aload_n 0, 1) := by decide +kernel
theorem dX2_insertPlace_1 : decode cX2_insertPlace 1 = .ok (.getfield 42, 3) := by decide +kernel
theorem dX2_insertPlace_4 : decode cX2_insertPlace 4 = .ok (.istore_n 2, 1) := by decide +kernel
theorem dX2_insertPlace_5 : decode cX2_insertPlace 5 = .ok (.iload_n 2, 1) := by decide +kernel
theorem dX2_insertPlace_6 : decode cX2_insertPlace 6 = .ok (.ifCond .le 35, 3) := by decide +kernel
theorem dX2_insertPlace_9 : decode cX2_insertPlace 9 = .ok (.aload_n 0, 1) := by decide +kernel
theorem dX2_insertPlace_10 : decode cX2_insertPlace 10 = .ok (.getfield 9, 3) := by decide +kernel
theorem dX2_insertPlace_13 : decode cX2_insertPlace 13 = .ok (.iload_n 2, 1) := by decide +kernel
theorem dX2_insertPlace_14 : decode cX2_insertPlace 14 = .ok (.iconst 1, 1) := by decide +kernel
theorem dX2_insertPlace_15 : decode cX2_insertPlace 15 = .ok (.isub, 1) := by decide +kernel
theorem dX2_insertPlace_16 : decode cX2_insertPlace 16 = .ok (.iaload, 1) := by decide +kernel
theorem dX2_insertPlace_17 : decode cX2_insertPlace 17 = .ok (.iload_n 1, 1) := by decide +kernel
theorem dX2_insertPlace_18 : decode cX2_insertPlace 18 = .ok (.if_icmp .le 23, 3) := by decide +kernel
theorem dX2_insertPlace_21 : decode cX2_insertPlace 21 = .ok (.aload_n 0, 1) := by decide +kernel
theorem dX2_insertPlace_22 : decode cX2_insertPlace 22 = .ok (.getfield 9, 3) := by decide +kernel
theorem dX2_insertPlace_25 : decode cX2_insertPlace 25 = .ok (.iload_n 2, 1) := by decide +kernel
theorem dX2_insertPlace_26 : decode cX2_insertPlace 26 = .ok (.aload_n 0, 1) := by decide +kernel
theorem dX2_insertPlace_27 : decode cX2_insertPlace 27 = .ok (.getfield 9, 3) := by decide +kernel
theorem dX2_insertPlace_30 : decode cX2_insertPlace 30 = .ok (.iload_n 2, 1) := by decide +kernel
theorem dX2_insertPlace_31 : decode cX2_insertPlace 31 = .ok (.iconst 1, 1) := by decide +kernel
theorem dX2_insertPlace_32 : decode cX2_insertPlace 32 = .ok (.isub, 1) := by decide +kernel
theorem dX2_insertPlace_33 : decode cX2_insertPlace 33 = .ok (.iaload, 1) := by decide +kernel
theorem dX2_insertPlace_34 : decode cX2_insertPlace 34 = .ok (.iastore, 1) := by decide +kernel
theorem dX2_insertPlace_35 : decode cX2_insertPlace 35 = .ok (.iinc 2 (-1), 3) := by decide +kernel
theorem dX2_insertPlace_38 : decode cX2_insertPlace 38 = .ok (.goto (-33), 3) := by decide +kernel
theorem dX2_insertPlace_41 : decode cX2_insertPlace 41 = .ok (.aload_n 0, 1) := by decide +kernel
theorem dX2_insertPlace_42 : decode cX2_insertPlace 42 = .ok (.getfield 9, 3) := by decide +kernel
theorem dX2_insertPlace_45 : decode cX2_insertPlace 45 = .ok (.iload_n 2, 1) := by decide +kernel
theorem dX2_insertPlace_46 : decode cX2_insertPlace 46 = .ok (.iload_n 1, 1) := by decide +kernel
theorem dX2_insertPlace_47 : decode cX2_insertPlace 47 = .ok (.iastore, 1) := by decide +kernel
theorem dX2_insertPlace_48 : decode cX2_insertPlace 48 = .ok (.aload_n 0, 1) := by decide +kernel
theorem dX2_insertPlace_49 : decode cX2_insertPlace 49 = .ok (.dup, 1) := by decide +kernel
theorem dX2_insertPlace_50 : decode cX2_insertPlace 50 = .ok (.getfield 42, 3) := by decide +kernel
theorem dX2_insertPlace_53 : decode cX2_insertPlace 53 = .ok (.iconst 1, 1) := by decide +kernel
theorem dX2_insertPlace_54 : decode cX2_insertPlace 54 = .ok (.iadd, 1) := by decide +kernel
theorem dX2_insertPlace_55 : decode cX2_insertPlace 55 = .ok (.putfield 42, 3) := by decide +kernel
theorem dX2_insertPlace_58 : decode cX2_insertPlace 58 = .ok (.return_, 1) := by decide +kernel
theorem dX2_fillOnward_0 : decode cX2_fillOnward 0 = .ok (.iconst 1, 1) := by decide +kernel
theorem dX2_fillOnward_1 : decode cX2_fillOnward 1 = .ok (.aload_n 0, 1) := by decide +kernel
theorem dX2_fillOnward_2 : decode cX2_fillOnward 2 = .ok (.getfield 42, 3) := by decide +kernel
theorem dX2_fillOnward_5 : decode cX2_fillOnward 5 = .ok (.ishl, 1) := by decide +kernel
theorem dX2_fillOnward_6 : decode cX2_fillOnward 6 = .ok (.istore_n 1, 1) := by decide +kernel
theorem dX2_fillOnward_7 : decode cX2_fillOnward 7 = .ok (.iconst 0, 1) := by decide +kernel
theorem dX2_fillOnward_8 : decode cX2_fillOnward 8 = .ok (.istore_n 2, 1) := by decide +kernel
theorem dX2_fillOnward_9 : decode cX2_fillOnward 9 = .ok (.iload_n 2, 1) := by decide +kernel
theorem dX2_fillOnward_10 : decode cX2_fillOnward 10 = .ok (.iload_n 1, 1) := by decide +kernel
theorem dX2_fillOnward_11 : decode cX2_fillOnward 11 = .ok (.if_icmp .ge 50, 3) := by decide +kernel
theorem dX2_fillOnward_14 : decode cX2_fillOnward 14 = .ok (.iconst 0, 1) := by decide +kernel
theorem dX2_fillOnward_15 : decode cX2_fillOnward 15 = .ok (.istore_n 3, 1) := by decide +kernel
theorem dX2_fillOnward_16 : decode cX2_fillOnward 16 = .ok (.iload_n 3, 1) := by decide +kernel
theorem dX2_fillOnward_17 : decode cX2_fillOnward 17 = .ok (.aload_n 0, 1) := by decide +kernel
theorem dX2_fillOnward_18 : decode cX2_fillOnward 18 = .ok (.getfield 42, 3) := by decide +kernel
theorem dX2_fillOnward_21 : decode cX2_fillOnward 21 = .ok (.if_icmp .ge 34, 3) := by decide +kernel
theorem dX2_fillOnward_24 : decode cX2_fillOnward 24 = .ok (.iload_n 2, 1) := by decide +kernel
theorem dX2_fillOnward_25 : decode cX2_fillOnward 25 = .ok (.iload_n 3, 1) := by decide +kernel
theorem dX2_fillOnward_26 : decode cX2_fillOnward 26 = .ok (.invokestatic 65, 3) := by decide +kernel
theorem dX2_fillOnward_29 : decode cX2_fillOnward 29 = .ok (.ifCond .ne 20, 3) := by decide +kernel
theorem dX2_fillOnward_32 : decode cX2_fillOnward 32 = .ok (.aload_n 0, 1) := by decide +kernel
theorem dX2_fillOnward_33 : decode cX2_fillOnward 33 = .ok (.getfield 20, 3) := by decide +kernel
theorem dX2_fillOnward_36 : decode cX2_fillOnward 36 = .ok (.iload_n 2, 1) := by decide +kernel
theorem dX2_fillOnward_37 : decode cX2_fillOnward 37 = .ok (.bipush 9, 2) := by decide +kernel
theorem dX2_fillOnward_39 : decode cX2_fillOnward 39 = .ok (.imul, 1) := by decide +kernel
theorem dX2_fillOnward_40 : decode cX2_fillOnward 40 = .ok (.iload_n 3, 1) := by decide +kernel
theorem dX2_fillOnward_41 : decode cX2_fillOnward 41 = .ok (.iadd, 1) := by decide +kernel
theorem dX2_fillOnward_42 : decode cX2_fillOnward 42 = .ok (.aload_n 0, 1) := by decide +kernel
theorem dX2_fillOnward_43 : decode cX2_fillOnward 43 = .ok (.iload_n 3, 1) := by decide +kernel
theorem dX2_fillOnward_44 : decode cX2_fillOnward 44 = .ok (.iload_n 2, 1) := by decide +kernel
theorem dX2_fillOnward_45 : decode cX2_fillOnward 45 = .ok (.invokevirtual 38, 3) := by decide +kernel
theorem dX2_fillOnward_48 : decode cX2_fillOnward 48 = .ok (.iastore, 1) := by decide +kernel
theorem dX2_fillOnward_49 : decode cX2_fillOnward 49 = .ok (.iinc 3 1, 3) := by decide +kernel
theorem dX2_fillOnward_52 : decode cX2_fillOnward 52 = .ok (.goto (-36), 3) := by decide +kernel
theorem dX2_fillOnward_55 : decode cX2_fillOnward 55 = .ok (.iinc 2 1, 3) := by decide +kernel
theorem dX2_fillOnward_58 : decode cX2_fillOnward 58 = .ok (.goto (-49), 3) := by decide +kernel
theorem dX2_fillOnward_61 : decode cX2_fillOnward 61 = .ok (.return_, 1) := by decide +kernel
theorem dX2_leastOnward_0 : decode cX2_leastOnward 0 = .ok (.iload_n 2, 1) := by decide +kernel
theorem dX2_leastOnward_1 : decode cX2_leastOnward 1 = .ok (.ifCond .ne 13, 3) := by decide +kernel
theorem dX2_leastOnward_4 : decode cX2_leastOnward 4 = .ok (.aload_n 0, 1) := by decide +kernel
theorem dX2_leastOnward_5 : decode cX2_leastOnward 5 = .ok (.getfield 17, 3) := by decide +kernel
theorem dX2_leastOnward_8 : decode cX2_leastOnward 8 = .ok (.iload_n 1, 1) := by decide +kernel
theorem dX2_leastOnward_9 : decode cX2_leastOnward 9 = .ok (.aaload, 1) := by decide +kernel
theorem dX2_leastOnward_10 : decode cX2_leastOnward 10 = .ok (.bipush 9, 2) := by decide +kernel
theorem dX2_leastOnward_12 : decode cX2_leastOnward 12 = .ok (.iaload, 1) := by decide +kernel
theorem dX2_leastOnward_13 : decode cX2_leastOnward 13 = .ok (.ireturn, 1) := by decide +kernel
theorem dX2_leastOnward_14 : decode cX2_leastOnward 14 = .ok (.ldc 49, 2) := by decide +kernel
theorem dX2_leastOnward_16 : decode cX2_leastOnward 16 = .ok (.istore_n 3, 1) := by decide +kernel
theorem dX2_leastOnward_17 : decode cX2_leastOnward 17 = .ok (.iconst 0, 1) := by decide +kernel
theorem dX2_leastOnward_18 : decode cX2_leastOnward 18 = .ok (.istore 4, 2) := by decide +kernel
theorem dX2_leastOnward_20 : decode cX2_leastOnward 20 = .ok (.iload 4, 2) := by decide +kernel
theorem dX2_leastOnward_22 : decode cX2_leastOnward 22 = .ok (.aload_n 0, 1) := by decide +kernel
theorem dX2_leastOnward_23 : decode cX2_leastOnward 23 = .ok (.getfield 42, 3) := by decide +kernel
theorem dX2_leastOnward_26 : decode cX2_leastOnward 26 = .ok (.if_icmp .ge 31, 3) := by decide +kernel
theorem dX2_leastOnward_29 : decode cX2_leastOnward 29 = .ok (.iload_n 2, 1) := by decide +kernel
theorem dX2_leastOnward_30 : decode cX2_leastOnward 30 = .ok (.iload 4, 2) := by decide +kernel
theorem dX2_leastOnward_32 : decode cX2_leastOnward 32 = .ok (.invokestatic 65, 3) := by decide +kernel
theorem dX2_leastOnward_35 : decode cX2_leastOnward 35 = .ok (.ifCond .eq 16, 3) := by decide +kernel
theorem dX2_leastOnward_38 : decode cX2_leastOnward 38 = .ok (.iload_n 3, 1) := by decide +kernel
theorem dX2_leastOnward_39 : decode cX2_leastOnward 39 = .ok (.aload_n 0, 1) := by decide +kernel
theorem dX2_leastOnward_40 : decode cX2_leastOnward 40 = .ok (.iload_n 1, 1) := by decide +kernel
theorem dX2_leastOnward_41 : decode cX2_leastOnward 41 = .ok (.iload 4, 2) := by decide +kernel
theorem dX2_leastOnward_43 : decode cX2_leastOnward 43 = .ok (.iload_n 2, 1) := by decide +kernel
theorem dX2_leastOnward_44 : decode cX2_leastOnward 44 = .ok (.invokevirtual 76, 3) := by decide +kernel
theorem dX2_leastOnward_47 : decode cX2_leastOnward 47 = .ok (.invokestatic 80, 3) := by decide +kernel
theorem dX2_leastOnward_50 : decode cX2_leastOnward 50 = .ok (.istore_n 3, 1) := by decide +kernel
theorem dX2_leastOnward_51 : decode cX2_leastOnward 51 = .ok (.iinc 4 1, 3) := by decide +kernel
theorem dX2_leastOnward_54 : decode cX2_leastOnward 54 = .ok (.goto (-34), 3) := by decide +kernel
theorem dX2_leastOnward_57 : decode cX2_leastOnward 57 = .ok (.iload_n 3, 1) := by decide +kernel
theorem dX2_leastOnward_58 : decode cX2_leastOnward 58 = .ok (.ireturn, 1) := by decide +kernel
theorem dX2_lengthBy_0 : decode cX2_lengthBy 0 = .ok (.iload_n 3, 1) := by decide +kernel
theorem dX2_lengthBy_1 : decode cX2_lengthBy 1 = .ok (.iconst 1, 1) := by decide +kernel
theorem dX2_lengthBy_2 : decode cX2_lengthBy 2 = .ok (.iload_n 2, 1) := by decide +kernel
theorem dX2_lengthBy_3 : decode cX2_lengthBy 3 = .ok (.ishl, 1) := by decide +kernel
theorem dX2_lengthBy_4 : decode cX2_lengthBy 4 = .ok (.ixor, 1) := by decide +kernel
theorem dX2_lengthBy_5 : decode cX2_lengthBy 5 = .ok (.istore 4, 2) := by decide +kernel
theorem dX2_lengthBy_7 : decode cX2_lengthBy 7 = .ok (.aload_n 0, 1) := by decide +kernel
theorem dX2_lengthBy_8 : decode cX2_lengthBy 8 = .ok (.getfield 17, 3) := by decide +kernel
theorem dX2_lengthBy_11 : decode cX2_lengthBy 11 = .ok (.iload_n 1, 1) := by decide +kernel
theorem dX2_lengthBy_12 : decode cX2_lengthBy 12 = .ok (.aaload, 1) := by decide +kernel
theorem dX2_lengthBy_13 : decode cX2_lengthBy 13 = .ok (.iload_n 2, 1) := by decide +kernel
theorem dX2_lengthBy_14 : decode cX2_lengthBy 14 = .ok (.iaload, 1) := by decide +kernel
theorem dX2_lengthBy_15 : decode cX2_lengthBy 15 = .ok (.aload_n 0, 1) := by decide +kernel
theorem dX2_lengthBy_16 : decode cX2_lengthBy 16 = .ok (.getfield 20, 3) := by decide +kernel
theorem dX2_lengthBy_19 : decode cX2_lengthBy 19 = .ok (.iload 4, 2) := by decide +kernel
theorem dX2_lengthBy_21 : decode cX2_lengthBy 21 = .ok (.bipush 9, 2) := by decide +kernel
theorem dX2_lengthBy_23 : decode cX2_lengthBy 23 = .ok (.imul, 1) := by decide +kernel
theorem dX2_lengthBy_24 : decode cX2_lengthBy 24 = .ok (.iload_n 2, 1) := by decide +kernel
theorem dX2_lengthBy_25 : decode cX2_lengthBy 25 = .ok (.iadd, 1) := by decide +kernel
theorem dX2_lengthBy_26 : decode cX2_lengthBy 26 = .ok (.iaload, 1) := by decide +kernel
theorem dX2_lengthBy_27 : decode cX2_lengthBy 27 = .ok (.iadd, 1) := by decide +kernel
theorem dX2_lengthBy_28 : decode cX2_lengthBy 28 = .ok (.ireturn, 1) := by decide +kernel
theorem dX2_bestNext_0 : decode cX2_bestNext 0 = .ok (.ldc 49, 2) := by decide +kernel
theorem dX2_bestNext_2 : decode cX2_bestNext 2 = .ok (.istore_n 3, 1) := by decide +kernel
theorem dX2_bestNext_3 : decode cX2_bestNext 3 = .ok (.iconst 0, 1) := by decide +kernel
theorem dX2_bestNext_4 : decode cX2_bestNext 4 = .ok (.istore 4, 2) := by decide +kernel
theorem dX2_bestNext_6 : decode cX2_bestNext 6 = .ok (.iconst 0, 1) := by decide +kernel
theorem dX2_bestNext_7 : decode cX2_bestNext 7 = .ok (.istore 5, 2) := by decide +kernel
theorem dX2_bestNext_9 : decode cX2_bestNext 9 = .ok (.iload 5, 2) := by decide +kernel
theorem dX2_bestNext_11 : decode cX2_bestNext 11 = .ok (.aload_n 0, 1) := by decide +kernel
theorem dX2_bestNext_12 : decode cX2_bestNext 12 = .ok (.getfield 42, 3) := by decide +kernel
theorem dX2_bestNext_15 : decode cX2_bestNext 15 = .ok (.if_icmp .ge 43, 3) := by decide +kernel
theorem dX2_bestNext_18 : decode cX2_bestNext 18 = .ok (.iload_n 2, 1) := by decide +kernel
theorem dX2_bestNext_19 : decode cX2_bestNext 19 = .ok (.iload 5, 2) := by decide +kernel
theorem dX2_bestNext_21 : decode cX2_bestNext 21 = .ok (.invokestatic 65, 3) := by decide +kernel
theorem dX2_bestNext_24 : decode cX2_bestNext 24 = .ok (.ifCond .eq 28, 3) := by decide +kernel
theorem dX2_bestNext_27 : decode cX2_bestNext 27 = .ok (.aload_n 0, 1) := by decide +kernel
theorem dX2_bestNext_28 : decode cX2_bestNext 28 = .ok (.iload_n 1, 1) := by decide +kernel
theorem dX2_bestNext_29 : decode cX2_bestNext 29 = .ok (.iload 5, 2) := by decide +kernel
theorem dX2_bestNext_31 : decode cX2_bestNext 31 = .ok (.iload_n 2, 1) := by decide +kernel
theorem dX2_bestNext_32 : decode cX2_bestNext 32 = .ok (.invokevirtual 76, 3) := by decide +kernel
theorem dX2_bestNext_35 : decode cX2_bestNext 35 = .ok (.iload_n 3, 1) := by decide +kernel
theorem dX2_bestNext_36 : decode cX2_bestNext 36 = .ok (.if_icmp .ge 16, 3) := by decide +kernel
theorem dX2_bestNext_39 : decode cX2_bestNext 39 = .ok (.aload_n 0, 1) := by decide +kernel
theorem dX2_bestNext_40 : decode cX2_bestNext 40 = .ok (.iload_n 1, 1) := by decide +kernel
theorem dX2_bestNext_41 : decode cX2_bestNext 41 = .ok (.iload 5, 2) := by decide +kernel
theorem dX2_bestNext_43 : decode cX2_bestNext 43 = .ok (.iload_n 2, 1) := by decide +kernel
theorem dX2_bestNext_44 : decode cX2_bestNext 44 = .ok (.invokevirtual 76, 3) := by decide +kernel
theorem dX2_bestNext_47 : decode cX2_bestNext 47 = .ok (.istore_n 3, 1) := by decide +kernel
theorem dX2_bestNext_48 : decode cX2_bestNext 48 = .ok (.iload 5, 2) := by decide +kernel
theorem dX2_bestNext_50 : decode cX2_bestNext 50 = .ok (.istore 4, 2) := by decide +kernel
theorem dX2_bestNext_52 : decode cX2_bestNext 52 = .ok (.iinc 5 1, 3) := by decide +kernel
theorem dX2_bestNext_55 : decode cX2_bestNext 55 = .ok (.goto (-46), 3) := by decide +kernel
theorem dX2_bestNext_58 : decode cX2_bestNext 58 = .ok (.iload 4, 2) := by decide +kernel
theorem dX2_bestNext_60 : decode cX2_bestNext 60 = .ok (.ireturn, 1) := by decide +kernel
theorem dX2_tryFrom_0 : decode cX2_tryFrom 0 = .ok (.iload_n 2, 1) := by decide +kernel
theorem dX2_tryFrom_1 : decode cX2_tryFrom 1 = .ok (.ifCond .ne 17, 3) := by decide +kernel
theorem dX2_tryFrom_4 : decode cX2_tryFrom 4 = .ok (.iload 4, 2) := by decide +kernel
theorem dX2_tryFrom_6 : decode cX2_tryFrom 6 = .ok (.iload_n 3, 1) := by decide +kernel
theorem dX2_tryFrom_7 : decode cX2_tryFrom 7 = .ok (.aload_n 0, 1) := by decide +kernel
theorem dX2_tryFrom_8 : decode cX2_tryFrom 8 = .ok (.iload_n 1, 1) := by decide +kernel
theorem dX2_tryFrom_9 : decode cX2_tryFrom 9 = .ok (.aaload, 1) := by decide +kernel
theorem dX2_tryFrom_10 : decode cX2_tryFrom 10 = .ok (.bipush 9, 2) := by decide +kernel
theorem dX2_tryFrom_12 : decode cX2_tryFrom 12 = .ok (.iaload, 1) := by decide +kernel
theorem dX2_tryFrom_13 : decode cX2_tryFrom 13 = .ok (.iadd, 1) := by decide +kernel
theorem dX2_tryFrom_14 : decode cX2_tryFrom 14 = .ok (.invokestatic 80, 3) := by decide +kernel
theorem dX2_tryFrom_17 : decode cX2_tryFrom 17 = .ok (.ireturn, 1) := by decide +kernel
theorem dX2_tryFrom_18 : decode cX2_tryFrom 18 = .ok (.iload 5, 2) := by decide +kernel
theorem dX2_tryFrom_20 : decode cX2_tryFrom 20 = .ok (.bipush 7, 2) := by decide +kernel
theorem dX2_tryFrom_22 : decode cX2_tryFrom 22 = .ok (.if_icmp .lt 6, 3) := by decide +kernel
theorem dX2_tryFrom_25 : decode cX2_tryFrom 25 = .ok (.iload 4, 2) := by decide +kernel
theorem dX2_tryFrom_27 : decode cX2_tryFrom 27 = .ok (.ireturn, 1) := by decide +kernel
theorem dX2_tryFrom_28 : decode cX2_tryFrom 28 = .ok (.iload 4, 2) := by decide +kernel
theorem dX2_tryFrom_30 : decode cX2_tryFrom 30 = .ok (.istore 6, 2) := by decide +kernel
theorem dX2_tryFrom_32 : decode cX2_tryFrom 32 = .ok (.iconst 0, 1) := by decide +kernel
theorem dX2_tryFrom_33 : decode cX2_tryFrom 33 = .ok (.istore 7, 2) := by decide +kernel
theorem dX2_tryFrom_35 : decode cX2_tryFrom 35 = .ok (.iload 7, 2) := by decide +kernel
theorem dX2_tryFrom_37 : decode cX2_tryFrom 37 = .ok (.bipush 9, 2) := by decide +kernel
theorem dX2_tryFrom_39 : decode cX2_tryFrom 39 = .ok (.if_icmp .ge 57, 3) := by decide +kernel
theorem dX2_tryFrom_42 : decode cX2_tryFrom 42 = .ok (.iload_n 3, 1) := by decide +kernel
theorem dX2_tryFrom_43 : decode cX2_tryFrom 43 = .ok (.aload_n 0, 1) := by decide +kernel
theorem dX2_tryFrom_44 : decode cX2_tryFrom 44 = .ok (.iload_n 1, 1) := by decide +kernel
theorem dX2_tryFrom_45 : decode cX2_tryFrom 45 = .ok (.aaload, 1) := by decide +kernel
theorem dX2_tryFrom_46 : decode cX2_tryFrom 46 = .ok (.iload 7, 2) := by decide +kernel
theorem dX2_tryFrom_48 : decode cX2_tryFrom 48 = .ok (.iaload, 1) := by decide +kernel
theorem dX2_tryFrom_49 : decode cX2_tryFrom 49 = .ok (.iadd, 1) := by decide +kernel
theorem dX2_tryFrom_50 : decode cX2_tryFrom 50 = .ok (.istore 8, 2) := by decide +kernel
theorem dX2_tryFrom_52 : decode cX2_tryFrom 52 = .ok (.iload_n 2, 1) := by decide +kernel
theorem dX2_tryFrom_53 : decode cX2_tryFrom 53 = .ok (.iload 7, 2) := by decide +kernel
theorem dX2_tryFrom_55 : decode cX2_tryFrom 55 = .ok (.invokestatic 65, 3) := by decide +kernel
theorem dX2_tryFrom_58 : decode cX2_tryFrom 58 = .ok (.ifCond .eq 32, 3) := by decide +kernel
theorem dX2_tryFrom_61 : decode cX2_tryFrom 61 = .ok (.iload 8, 2) := by decide +kernel
theorem dX2_tryFrom_63 : decode cX2_tryFrom 63 = .ok (.iload 6, 2) := by decide +kernel
theorem dX2_tryFrom_65 : decode cX2_tryFrom 65 = .ok (.if_icmp .ge 25, 3) := by decide +kernel
theorem dX2_tryFrom_68 : decode cX2_tryFrom 68 = .ok (.aload_n 0, 1) := by decide +kernel
theorem dX2_tryFrom_69 : decode cX2_tryFrom 69 = .ok (.iload 7, 2) := by decide +kernel
theorem dX2_tryFrom_71 : decode cX2_tryFrom 71 = .ok (.iload_n 2, 1) := by decide +kernel
theorem dX2_tryFrom_72 : decode cX2_tryFrom 72 = .ok (.iconst 1, 1) := by decide +kernel
theorem dX2_tryFrom_73 : decode cX2_tryFrom 73 = .ok (.iload 7, 2) := by decide +kernel
theorem dX2_tryFrom_75 : decode cX2_tryFrom 75 = .ok (.ishl, 1) := by decide +kernel
theorem dX2_tryFrom_76 : decode cX2_tryFrom 76 = .ok (.ixor, 1) := by decide +kernel
theorem dX2_tryFrom_77 : decode cX2_tryFrom 77 = .ok (.iload 8, 2) := by decide +kernel
theorem dX2_tryFrom_79 : decode cX2_tryFrom 79 = .ok (.iload 6, 2) := by decide +kernel
theorem dX2_tryFrom_81 : decode cX2_tryFrom 81 = .ok (.iload 5, 2) := by decide +kernel
theorem dX2_tryFrom_83 : decode cX2_tryFrom 83 = .ok (.iconst 1, 1) := by decide +kernel
theorem dX2_tryFrom_84 : decode cX2_tryFrom 84 = .ok (.iadd, 1) := by decide +kernel
theorem dX2_tryFrom_85 : decode cX2_tryFrom 85 = .ok (.invokestatic 50, 3) := by decide +kernel
theorem dX2_tryFrom_88 : decode cX2_tryFrom 88 = .ok (.istore 6, 2) := by decide +kernel
theorem dX2_tryFrom_90 : decode cX2_tryFrom 90 = .ok (.iinc 7 1, 3) := by decide +kernel
theorem dX2_tryFrom_93 : decode cX2_tryFrom 93 = .ok (.goto (-58), 3) := by decide +kernel
theorem dX2_tryFrom_96 : decode cX2_tryFrom 96 = .ok (.iload 6, 2) := by decide +kernel
theorem dX2_tryFrom_98 : decode cX2_tryFrom 98 = .ok (.ireturn, 1) := by decide +kernel
theorem dX3_init_0 : decode cX3_init 0 = .ok (.aload_n 0, 1) := by decide +kernel
theorem dX3_init_1 : decode cX3_init 1 = .ok (.invokespecial 3, 3) := by decide +kernel
theorem dX3_init_4 : decode cX3_init 4 = .ok (.aload_n 0, 1) := by decide +kernel
theorem dX3_init_5 : decode cX3_init 5 = .ok (.bipush 20, 2) := by decide +kernel
theorem dX3_init_7 : decode cX3_init 7 = .ok (.newarray .int, 2) := by decide +kernel
theorem dX3_init_9 : decode cX3_init 9 = .ok (.putfield 9, 3) := by decide +kernel
theorem dX3_init_12 : decode cX3_init 12 = .ok (.aload_n 0, 1) := by decide +kernel
theorem dX3_init_13 : decode cX3_init 13 = .ok (.bipush 20, 2) := by decide +kernel
theorem dX3_init_15 : decode cX3_init 15 = .ok (.newarray .int, 2) := by decide +kernel
theorem dX3_init_17 : decode cX3_init 17 = .ok (.putfield 15, 3) := by decide +kernel
theorem dX3_init_20 : decode cX3_init 20 = .ok (.aload_n 0, 1) := by decide +kernel
theorem dX3_init_21 : decode cX3_init 21 = .ok (.bipush 20, 2) := by decide +kernel
theorem dX3_init_23 : decode cX3_init 23 = .ok (.newarray .int, 2) := by decide +kernel
theorem dX3_init_25 : decode cX3_init 25 = .ok (.putfield 18, 3) := by decide +kernel
theorem dX3_init_28 : decode cX3_init 28 = .ok (.aload_n 0, 1) := by decide +kernel
theorem dX3_init_29 : decode cX3_init 29 = .ok (.bipush 20, 2) := by decide +kernel
theorem dX3_init_31 : decode cX3_init 31 = .ok (.newarray .int, 2) := by decide +kernel
theorem dX3_init_33 : decode cX3_init 33 = .ok (.putfield 21, 3) := by decide +kernel
theorem dX3_init_36 : decode cX3_init 36 = .ok (.aload_n 0, 1) := by decide +kernel
theorem dX3_init_37 : decode cX3_init 37 = .ok (.iload_n 1, 1) := by decide +kernel
theorem dX3_init_38 : decode cX3_init 38 = .ok (.putfield 24, 3) := by decide +kernel
theorem dX3_init_41 : decode cX3_init 41 = .ok (.aload_n 0, 1) := by decide +kernel
theorem dX3_init_42 : decode cX3_init 42 = .ok (.iload_n 2, 1) := by decide +kernel
theorem dX3_init_43 : decode cX3_init 43 = .ok (.putfield 28, 3) := by decide +kernel
theorem dX3_init_46 : decode cX3_init 46 = .ok (.aload_n 0, 1) := by decide +kernel
theorem dX3_init_47 : decode cX3_init 47 = .ok (.iload_n 3, 1) := by decide +kernel
theorem dX3_init_48 : decode cX3_init 48 = .ok (.putfield 31, 3) := by decide +kernel
theorem dX3_init_51 : decode cX3_init 51 = .ok (.iconst 0, 1) := by decide +kernel
theorem dX3_init_52 : decode cX3_init 52 = .ok (.istore 4, 2) := by decide +kernel
theorem dX3_init_54 : decode cX3_init 54 = .ok (.iload 4, 2) := by decide +kernel
theorem dX3_init_56 : decode cX3_init 56 = .ok (.bipush 20, 2) := by decide +kernel
theorem dX3_init_58 : decode cX3_init 58 = .ok (.if_icmp .ge 17, 3) := by decide +kernel
theorem dX3_init_61 : decode cX3_init 61 = .ok (.aload_n 0, 1) := by decide +kernel
theorem dX3_init_62 : decode cX3_init 62 = .ok (.getfield 9, 3) := by decide +kernel
theorem dX3_init_65 : decode cX3_init 65 = .ok (.iload 4, 2) := by decide +kernel
theorem dX3_init_67 : decode cX3_init 67 = .ok (.iconst (-1), 1) := by decide +kernel
theorem dX3_init_68 : decode cX3_init 68 = .ok (.iastore, 1) := by decide +kernel
theorem dX3_init_69 : decode cX3_init 69 = .ok (.iinc 4 1, 3) := by decide +kernel
theorem dX3_init_72 : decode cX3_init 72 = .ok (.goto (-18), 3) := by decide +kernel
theorem dX3_init_75 : decode cX3_init 75 = .ok (.return_, 1) := by decide +kernel
theorem dX3_hasAisle_0 : decode cX3_hasAisle 0 = .ok (.iload_n 1, 1) := by decide +kernel
theorem dX3_hasAisle_1 : decode cX3_hasAisle 1 = .ok (.ifCond .lt 15, 3) := by decide +kernel
theorem dX3_hasAisle_4 : decode cX3_hasAisle 4 = .ok (.iload_n 1, 1) := by decide +kernel
theorem dX3_hasAisle_5 : decode cX3_hasAisle 5 = .ok (.aload_n 0, 1) := by decide +kernel
theorem dX3_hasAisle_6 : decode cX3_hasAisle 6 = .ok (.getfield 24, 3) := by decide +kernel
theorem dX3_hasAisle_9 : decode cX3_hasAisle 9 = .ok (.if_icmp .ge 7, 3) := by decide +kernel
theorem dX3_hasAisle_12 : decode cX3_hasAisle 12 = .ok (.iconst 1, 1) := by decide +kernel
theorem dX3_hasAisle_13 : decode cX3_hasAisle 13 = .ok (.goto 4, 3) := by decide +kernel
theorem dX3_hasAisle_16 : decode cX3_hasAisle 16 = .ok (.iconst 0, 1) := by decide +kernel
theorem dX3_hasAisle_17 : decode cX3_hasAisle 17 = .ok (.ireturn, 1) := by decide +kernel
theorem dX3_hasPosition_0 : decode cX3_hasPosition 0 = .ok (.iload_n 1, 1) := by decide +kernel
theorem dX3_hasPosition_1 : decode cX3_hasPosition 1 = .ok (.iconst 1, 1) := by decide +kernel
theorem dX3_hasPosition_2 : decode cX3_hasPosition 2 = .ok (.if_icmp .lt 15, 3) := by decide +kernel
theorem dX3_hasPosition_5 : decode cX3_hasPosition 5 = .ok (.iload_n 1, 1) := by decide +kernel
theorem dX3_hasPosition_6 : decode cX3_hasPosition 6 = .ok (.aload_n 0, 1) := by decide +kernel
theorem dX3_hasPosition_7 : decode cX3_hasPosition 7 = .ok (.getfield 28, 3) := by decide +kernel
theorem dX3_hasPosition_10 : decode cX3_hasPosition 10 = .ok (.if_icmp .gt 7, 3) := by decide +kernel
theorem dX3_hasPosition_13 : decode cX3_hasPosition 13 = .ok (.iconst 1, 1) := by decide +kernel
theorem dX3_hasPosition_14 : decode cX3_hasPosition 14 = .ok (.goto 4, 3) := by decide +kernel
theorem dX3_hasPosition_17 : decode cX3_hasPosition 17 = .ok (.iconst 0, 1) := by decide +kernel
theorem dX3_hasPosition_18 : decode cX3_hasPosition 18 = .ok (.ireturn, 1) := by decide +kernel
theorem dX3_depth_0 : decode cX3_depth 0 = .ok (.aload_n 0, 1) := by decide +kernel
theorem dX3_depth_1 : decode cX3_depth 1 = .ok (.getfield 28, 3) := by decide +kernel
theorem dX3_depth_4 : decode cX3_depth 4 = .ok (.iconst 1, 1) := by decide +kernel
theorem dX3_depth_5 : decode cX3_depth 5 = .ok (.iadd, 1) := by decide +kernel
theorem dX3_depth_6 : decode cX3_depth 6 = .ok (.ireturn, 1) := by decide +kernel
theorem dX3_productAt_0 : decode cX3_productAt 0 = .ok (.iconst 0, 1) := by decide +kernel
theorem dX3_productAt_1 : decode cX3_productAt 1 = .ok (.istore_n 2, 1) := by decide +kernel
theorem dX3_productAt_2 : decode cX3_productAt 2 = .ok (.iload_n 2, 1) := by decide +kernel
theorem dX3_productAt_3 : decode cX3_productAt 3 = .ok (.bipush 20, 2) := by decide +kernel
theorem dX3_productAt_5 : decode cX3_productAt 5 = .ok (.if_icmp .ge 21, 3) := by decide +kernel
theorem dX3_productAt_8 : decode cX3_productAt 8 = .ok (.aload_n 0, 1) := by decide +kernel
theorem dX3_productAt_9 : decode cX3_productAt 9 = .ok (.getfield 9, 3) := by decide +kernel
theorem dX3_productAt_12 : decode cX3_productAt 12 = .ok (.iload_n 2, 1) := by decide +kernel
theorem dX3_productAt_13 : decode cX3_productAt 13 = .ok (.iaload, 1) := by decide +kernel
theorem dX3_productAt_14 : decode cX3_productAt 14 = .ok (.iload_n 1, 1) := by decide +kernel
theorem dX3_productAt_15 : decode cX3_productAt 15 = .ok (.if_icmp .ne 5, 3) := by decide +kernel
theorem dX3_productAt_18 : decode cX3_productAt 18 = .ok (.iload_n 2, 1) := by decide +kernel
theorem dX3_productAt_19 : decode cX3_productAt 19 = .ok (.ireturn, 1) := by decide +kernel
theorem dX3_productAt_20 : decode cX3_productAt 20 = .ok (.iinc 2 1, 3) := by decide +kernel
theorem dX3_productAt_23 : decode cX3_productAt 23 = .ok (.goto (-21), 3) := by decide +kernel
theorem dX3_productAt_26 : decode cX3_productAt 26 = .ok (.iconst (-1), 1) := by decide +kernel
theorem dX3_productAt_27 : decode cX3_productAt 27 = .ok (.ireturn, 1) := by decide +kernel
theorem dX3_move_0 : decode cX3_move 0 = .ok (.aload_n 0, 1) := by decide +kernel
theorem dX3_move_1 : decode cX3_move 1 = .ok (.getfield 9, 3) := by decide +kernel
theorem dX3_move_4 : decode cX3_move 4 = .ok (.iload_n 1, 1) := by decide +kernel
theorem dX3_move_5 : decode cX3_move 5 = .ok (.iaload, 1) := by decide +kernel
theorem dX3_move_6 : decode cX3_move 6 = .ok (.istore_n 3, 1) := by decide +kernel
theorem dX3_move_7 : decode cX3_move 7 = .ok (.aload_n 0, 1) := by decide +kernel
theorem dX3_move_8 : decode cX3_move 8 = .ok (.getfield 9, 3) := by decide +kernel
theorem dX3_move_11 : decode cX3_move 11 = .ok (.iload_n 1, 1) := by decide +kernel
theorem dX3_move_12 : decode cX3_move 12 = .ok (.iload_n 2, 1) := by decide +kernel
theorem dX3_move_13 : decode cX3_move 13 = .ok (.iastore, 1) := by decide +kernel
theorem dX3_move_14 : decode cX3_move 14 = .ok (.iload_n 3, 1) := by decide +kernel
theorem dX3_move_15 : decode cX3_move 15 = .ok (.ireturn, 1) := by decide +kernel
theorem dX3_between_0 : decode cX3_between 0 = .ok (.iload_n 1, 1) := by decide +kernel
theorem dX3_between_1 : decode cX3_between 1 = .ok (.bipush 100, 2) := by decide +kernel
theorem dX3_between_3 : decode cX3_between 3 = .ok (.irem, 1) := by decide +kernel
theorem dX3_between_4 : decode cX3_between 4 = .ok (.istore_n 3, 1) := by decide +kernel
theorem dX3_between_5 : decode cX3_between 5 = .ok (.iload_n 2, 1) := by decide +kernel
theorem dX3_between_6 : decode cX3_between 6 = .ok (.bipush 100, 2) := by decide +kernel
theorem dX3_between_8 : decode cX3_between 8 = .ok (.irem, 1) := by decide +kernel
theorem dX3_between_9 : decode cX3_between 9 = .ok (.istore 4, 2) := by decide +kernel
theorem dX3_between_11 : decode cX3_between 11 = .ok (.iload_n 1, 1) := by decide +kernel
theorem dX3_between_12 : decode cX3_between 12 = .ok (.bipush 100, 2) := by decide +kernel
theorem dX3_between_14 : decode cX3_between 14 = .ok (.idiv, 1) := by decide +kernel
theorem dX3_between_15 : decode cX3_between 15 = .ok (.iload_n 2, 1) := by decide +kernel
theorem dX3_between_16 : decode cX3_between 16 = .ok (.bipush 100, 2) := by decide +kernel
theorem dX3_between_18 : decode cX3_between 18 = .ok (.idiv, 1) := by decide +kernel
theorem dX3_between_19 : decode cX3_between 19 = .ok (.isub, 1) := by decide +kernel
theorem dX3_between_20 : decode cX3_between 20 = .ok (.invokestatic 34, 3) := by decide +kernel
theorem dX3_between_23 : decode cX3_between 23 = .ok (.istore 5, 2) := by decide +kernel
theorem dX3_between_25 : decode cX3_between 25 = .ok (.iload 5, 2) := by decide +kernel
theorem dX3_between_27 : decode cX3_between 27 = .ok (.ifCond .ne 11, 3) := by decide +kernel
theorem dX3_between_30 : decode cX3_between 30 = .ok (.iload_n 3, 1) := by decide +kernel
theorem dX3_between_31 : decode cX3_between 31 = .ok (.iload 4, 2) := by decide +kernel
theorem dX3_between_33 : decode cX3_between 33 = .ok (.isub, 1) := by decide +kernel
theorem dX3_between_34 : decode cX3_between 34 = .ok (.invokestatic 34, 3) := by decide +kernel
theorem dX3_between_37 : decode cX3_between 37 = .ok (.ireturn, 1) := by decide +kernel
theorem dX3_between_38 : decode cX3_between 38 = .ok (.iload_n 3, 1) := by decide +kernel
theorem dX3_between_39 : decode cX3_between 39 = .ok (.iload 4, 2) := by decide +kernel
theorem dX3_between_41 : decode cX3_between 41 = .ok (.iadd, 1) := by decide +kernel
theorem dX3_between_42 : decode cX3_between 42 = .ok (.istore 6, 2) := by decide +kernel
theorem dX3_between_44 : decode cX3_between 44 = .ok (.iconst 2, 1) := by decide +kernel
theorem dX3_between_45 : decode cX3_between 45 = .ok (.aload_n 0, 1) := by decide +kernel
theorem dX3_between_46 : decode cX3_between 46 = .ok (.invokevirtual 40, 3) := by decide +kernel
theorem dX3_between_49 : decode cX3_between 49 = .ok (.imul, 1) := by decide +kernel
theorem dX3_between_50 : decode cX3_between 50 = .ok (.iload 6, 2) := by decide +kernel
theorem dX3_between_52 : decode cX3_between 52 = .ok (.isub, 1) := by decide +kernel
theorem dX3_between_53 : decode cX3_between 53 = .ok (.istore 7, 2) := by decide +kernel
theorem dX3_between_55 : decode cX3_between 55 = .ok (.iload 5, 2) := by decide +kernel
theorem dX3_between_57 : decode cX3_between 57 = .ok (.aload_n 0, 1) := by decide +kernel
theorem dX3_between_58 : decode cX3_between 58 = .ok (.getfield 31, 3) := by decide +kernel
theorem dX3_between_61 : decode cX3_between 61 = .ok (.imul, 1) := by decide +kernel
theorem dX3_between_62 : decode cX3_between 62 = .ok (.iload 6, 2) := by decide +kernel
theorem dX3_between_64 : decode cX3_between 64 = .ok (.iload 7, 2) := by decide +kernel
theorem dX3_between_66 : decode cX3_between 66 = .ok (.invokestatic 44, 3) := by decide +kernel
theorem dX3_between_69 : decode cX3_between 69 = .ok (.iadd, 1) := by decide +kernel
theorem dX3_between_70 : decode cX3_between 70 = .ok (.ireturn, 1) := by decide +kernel
theorem dX3_addTurnover_0 : decode cX3_addTurnover 0 = .ok (.iconst 0, 1) := by decide +kernel
theorem dX3_addTurnover_1 : decode cX3_addTurnover 1 = .ok (.istore_n 2, 1) := by decide +kernel
theorem dX3_addTurnover_2 : decode cX3_addTurnover 2 = .ok (.iload_n 2, 1) := by decide +kernel
theorem dX3_addTurnover_3 : decode cX3_addTurnover 3 = .ok (.bipush 20, 2) := by decide +kernel
theorem dX3_addTurnover_5 : decode cX3_addTurnover 5 = .ok (.if_icmp .ge 24, 3) := by decide +kernel
theorem dX3_addTurnover_8 : decode cX3_addTurnover 8 = .ok (.aload_n 0, 1) := by decide +kernel
theorem dX3_addTurnover_9 : decode cX3_addTurnover 9 = .ok (.getfield 15, 3) := by decide +kernel
theorem dX3_addTurnover_12 : decode cX3_addTurnover 12 = .ok (.iload_n 2, 1) := by decide +kernel
theorem dX3_addTurnover_13 : decode cX3_addTurnover 13 = .ok (.dup2, 1) := by decide +kernel
theorem dX3_addTurnover_14 : decode cX3_addTurnover 14 = .ok (.iaload, 1) := by decide +kernel
theorem dX3_addTurnover_15 : decode cX3_addTurnover 15 = .ok (.aload_n 1, 1) := by decide +kernel
theorem dX3_addTurnover_16 : decode cX3_addTurnover 16 = .ok (.getfield 48, 3) := by decide +kernel
theorem dX3_addTurnover_19 : decode cX3_addTurnover 19 = .ok (.iload_n 2, 1) := by decide +kernel
theorem dX3_addTurnover_20 : decode cX3_addTurnover 20 = .ok (.iaload, 1) := by decide +kernel
theorem dX3_addTurnover_21 : decode cX3_addTurnover 21 = .ok (.iadd, 1) := by decide +kernel
theorem dX3_addTurnover_22 : decode cX3_addTurnover 22 = .ok (.iastore, 1) := by decide +kernel
theorem dX3_addTurnover_23 : decode cX3_addTurnover 23 = .ok (.iinc 2 1, 3) := by decide +kernel
theorem dX3_addTurnover_26 : decode cX3_addTurnover 26 = .ok (.goto (-24), 3) := by decide +kernel
theorem dX3_addTurnover_29 : decode cX3_addTurnover 29 = .ok (.return_, 1) := by decide +kernel
theorem dX3_rearrange_0 : decode cX3_rearrange 0 = .ok (.iconst 0, 1) := by decide +kernel
theorem dX3_rearrange_1 : decode cX3_rearrange 1 = .ok (.istore_n 1, 1) := by decide +kernel
theorem dX3_rearrange_2 : decode cX3_rearrange 2 = .ok (.iconst 0, 1) := by decide +kernel
theorem dX3_rearrange_3 : decode cX3_rearrange 3 = .ok (.istore_n 2, 1) := by decide +kernel
theorem dX3_rearrange_4 : decode cX3_rearrange 4 = .ok (.iload_n 2, 1) := by decide +kernel
theorem dX3_rearrange_5 : decode cX3_rearrange 5 = .ok (.bipush 20, 2) := by decide +kernel
theorem dX3_rearrange_7 : decode cX3_rearrange 7 = .ok (.if_icmp .ge 39, 3) := by decide +kernel
theorem dX3_rearrange_10 : decode cX3_rearrange 10 = .ok (.aload_n 0, 1) := by decide +kernel
theorem dX3_rearrange_11 : decode cX3_rearrange 11 = .ok (.getfield 9, 3) := by decide +kernel
theorem dX3_rearrange_14 : decode cX3_rearrange 14 = .ok (.iload_n 2, 1) := by decide +kernel
theorem dX3_rearrange_15 : decode cX3_rearrange 15 = .ok (.iaload, 1) := by decide +kernel
theorem dX3_rearrange_16 : decode cX3_rearrange 16 = .ok (.iconst (-1), 1) := by decide +kernel
theorem dX3_rearrange_17 : decode cX3_rearrange 17 = .ok (.if_icmp .eq 23, 3) := by decide +kernel
theorem dX3_rearrange_20 : decode cX3_rearrange 20 = .ok (.aload_n 0, 1) := by decide +kernel
theorem dX3_rearrange_21 : decode cX3_rearrange 21 = .ok (.aload_n 0, 1) := by decide +kernel
theorem dX3_rearrange_22 : decode cX3_rearrange 22 = .ok (.getfield 9, 3) := by decide +kernel
theorem dX3_rearrange_25 : decode cX3_rearrange 25 = .ok (.iload_n 2, 1) := by decide +kernel
theorem dX3_rearrange_26 : decode cX3_rearrange 26 = .ok (.iaload, 1) := by decide +kernel
theorem dX3_rearrange_27 : decode cX3_rearrange 27 = .ok (.iload_n 1, 1) := by decide +kernel
theorem dX3_rearrange_28 : decode cX3_rearrange 28 = .ok (.invokevirtual 53, 3) := by decide +kernel
theorem dX3_rearrange_31 : decode cX3_rearrange 31 = .ok (.aload_n 0, 1) := by decide +kernel
theorem dX3_rearrange_32 : decode cX3_rearrange 32 = .ok (.iload_n 2, 1) := by decide +kernel
theorem dX3_rearrange_33 : decode cX3_rearrange 33 = .ok (.iload_n 1, 1) := by decide +kernel
theorem dX3_rearrange_34 : decode cX3_rearrange 34 = .ok (.invokevirtual 57, 3) := by decide +kernel
theorem dX3_rearrange_37 : decode cX3_rearrange 37 = .ok (.iinc 1 1, 3) := by decide +kernel
theorem dX3_rearrange_40 : decode cX3_rearrange 40 = .ok (.iinc 2 1, 3) := by decide +kernel
theorem dX3_rearrange_43 : decode cX3_rearrange 43 = .ok (.goto (-39), 3) := by decide +kernel
theorem dX3_rearrange_46 : decode cX3_rearrange 46 = .ok (.iconst 0, 1) := by decide +kernel
theorem dX3_rearrange_47 : decode cX3_rearrange 47 = .ok (.istore_n 2, 1) := by decide +kernel
theorem dX3_rearrange_48 : decode cX3_rearrange 48 = .ok (.iconst 0, 1) := by decide +kernel
theorem dX3_rearrange_49 : decode cX3_rearrange 49 = .ok (.istore_n 3, 1) := by decide +kernel
theorem dX3_rearrange_50 : decode cX3_rearrange 50 = .ok (.iload_n 3, 1) := by decide +kernel
theorem dX3_rearrange_51 : decode cX3_rearrange 51 = .ok (.iload_n 1, 1) := by decide +kernel
theorem dX3_rearrange_52 : decode cX3_rearrange 52 = .ok (.if_icmp .ge 37, 3) := by decide +kernel
theorem dX3_rearrange_55 : decode cX3_rearrange 55 = .ok (.aload_n 0, 1) := by decide +kernel
theorem dX3_rearrange_56 : decode cX3_rearrange 56 = .ok (.aload_n 0, 1) := by decide +kernel
theorem dX3_rearrange_57 : decode cX3_rearrange 57 = .ok (.getfield 21, 3) := by decide +kernel
theorem dX3_rearrange_60 : decode cX3_rearrange 60 = .ok (.iload_n 3, 1) := by decide +kernel
theorem dX3_rearrange_61 : decode cX3_rearrange 61 = .ok (.iaload, 1) := by decide +kernel
theorem dX3_rearrange_62 : decode cX3_rearrange 62 = .ok (.aload_n 0, 1) := by decide +kernel
theorem dX3_rearrange_63 : decode cX3_rearrange 63 = .ok (.getfield 18, 3) := by decide +kernel
theorem dX3_rearrange_66 : decode cX3_rearrange 66 = .ok (.iload_n 3, 1) := by decide +kernel
theorem dX3_rearrange_67 : decode cX3_rearrange 67 = .ok (.iaload, 1) := by decide +kernel
theorem dX3_rearrange_68 : decode cX3_rearrange 68 = .ok (.invokevirtual 60, 3) := by decide +kernel
theorem dX3_rearrange_71 : decode cX3_rearrange 71 = .ok (.aload_n 0, 1) := by decide +kernel
theorem dX3_rearrange_72 : decode cX3_rearrange 72 = .ok (.getfield 18, 3) := by decide +kernel
theorem dX3_rearrange_75 : decode cX3_rearrange 75 = .ok (.iload_n 3, 1) := by decide +kernel
theorem dX3_rearrange_76 : decode cX3_rearrange 76 = .ok (.iaload, 1) := by decide +kernel
theorem dX3_rearrange_77 : decode cX3_rearrange 77 = .ok (.if_icmp .eq 6, 3) := by decide +kernel
theorem dX3_rearrange_80 : decode cX3_rearrange 80 = .ok (.iinc 2 1, 3) := by decide +kernel
theorem dX3_rearrange_83 : decode cX3_rearrange 83 = .ok (.iinc 3 1, 3) := by decide +kernel
theorem dX3_rearrange_86 : decode cX3_rearrange 86 = .ok (.goto (-36), 3) := by decide +kernel
theorem dX3_rearrange_89 : decode cX3_rearrange 89 = .ok (.iload_n 2, 1) := by decide +kernel
theorem dX3_rearrange_90 : decode cX3_rearrange 90 = .ok (.ireturn, 1) := by decide +kernel
theorem dX3_insertPlace_0 : decode cX3_insertPlace 0 = .ok (.iload_n 2, 1) := by decide +kernel
theorem dX3_insertPlace_1 : decode cX3_insertPlace 1 = .ok (.istore_n 3, 1) := by decide +kernel
theorem dX3_insertPlace_2 : decode cX3_insertPlace 2 = .ok (.iload_n 3, 1) := by decide +kernel
theorem dX3_insertPlace_3 : decode cX3_insertPlace 3 = .ok (.ifCond .le 39, 3) := by decide +kernel
theorem dX3_insertPlace_6 : decode cX3_insertPlace 6 = .ok (.aload_n 0, 1) := by decide +kernel
theorem dX3_insertPlace_7 : decode cX3_insertPlace 7 = .ok (.iload_n 1, 1) := by decide +kernel
theorem dX3_insertPlace_8 : decode cX3_insertPlace 8 = .ok (.aload_n 0, 1) := by decide +kernel
theorem dX3_insertPlace_9 : decode cX3_insertPlace 9 = .ok (.getfield 18, 3) := by decide +kernel
theorem dX3_insertPlace_12 : decode cX3_insertPlace 12 = .ok (.iload_n 3, 1) := by decide +kernel
theorem dX3_insertPlace_13 : decode cX3_insertPlace 13 = .ok (.iconst 1, 1) := by decide +kernel
theorem dX3_insertPlace_14 : decode cX3_insertPlace 14 = .ok (.isub, 1) := by decide +kernel
theorem dX3_insertPlace_15 : decode cX3_insertPlace 15 = .ok (.iaload, 1) := by decide +kernel
theorem dX3_insertPlace_16 : decode cX3_insertPlace 16 = .ok (.invokevirtual 63, 3) := by decide +kernel
theorem dX3_insertPlace_19 : decode cX3_insertPlace 19 = .ok (.ifCond .eq 23, 3) := by decide +kernel
theorem dX3_insertPlace_22 : decode cX3_insertPlace 22 = .ok (.aload_n 0, 1) := by decide +kernel
theorem dX3_insertPlace_23 : decode cX3_insertPlace 23 = .ok (.getfield 18, 3) := by decide +kernel
theorem dX3_insertPlace_26 : decode cX3_insertPlace 26 = .ok (.iload_n 3, 1) := by decide +kernel
theorem dX3_insertPlace_27 : decode cX3_insertPlace 27 = .ok (.aload_n 0, 1) := by decide +kernel
theorem dX3_insertPlace_28 : decode cX3_insertPlace 28 = .ok (.getfield 18, 3) := by decide +kernel
theorem dX3_insertPlace_31 : decode cX3_insertPlace 31 = .ok (.iload_n 3, 1) := by decide +kernel
theorem dX3_insertPlace_32 : decode cX3_insertPlace 32 = .ok (.iconst 1, 1) := by decide +kernel
theorem dX3_insertPlace_33 : decode cX3_insertPlace 33 = .ok (.isub, 1) := by decide +kernel
theorem dX3_insertPlace_34 : decode cX3_insertPlace 34 = .ok (.iaload, 1) := by decide +kernel
theorem dX3_insertPlace_35 : decode cX3_insertPlace 35 = .ok (.iastore, 1) := by decide +kernel
theorem dX3_insertPlace_36 : decode cX3_insertPlace 36 = .ok (.iinc 3 (-1), 3) := by decide +kernel
theorem dX3_insertPlace_39 : decode cX3_insertPlace 39 = .ok (.goto (-37), 3) := by decide +kernel
theorem dX3_insertPlace_42 : decode cX3_insertPlace 42 = .ok (.aload_n 0, 1) := by decide +kernel
theorem dX3_insertPlace_43 : decode cX3_insertPlace 43 = .ok (.getfield 18, 3) := by decide +kernel
theorem dX3_insertPlace_46 : decode cX3_insertPlace 46 = .ok (.iload_n 3, 1) := by decide +kernel
theorem dX3_insertPlace_47 : decode cX3_insertPlace 47 = .ok (.iload_n 1, 1) := by decide +kernel
theorem dX3_insertPlace_48 : decode cX3_insertPlace 48 = .ok (.iastore, 1) := by decide +kernel
theorem dX3_insertPlace_49 : decode cX3_insertPlace 49 = .ok (.return_, 1) := by decide +kernel
theorem dX3_isNearer_0 : decode cX3_isNearer 0 = .ok (.aload_n 0, 1) := by decide +kernel
theorem dX3_isNearer_1 : decode cX3_isNearer 1 = .ok (.iconst 0, 1) := by decide +kernel
theorem dX3_isNearer_2 : decode cX3_isNearer 2 = .ok (.iload_n 1, 1) := by decide +kernel
theorem dX3_isNearer_3 : decode cX3_isNearer 3 = .ok (.invokevirtual 67, 3) := by decide +kernel
theorem dX3_isNearer_6 : decode cX3_isNearer 6 = .ok (.istore_n 3, 1) := by decide +kernel
theorem dX3_isNearer_7 : decode cX3_isNearer 7 = .ok (.aload_n 0, 1) := by decide +kernel
theorem dX3_isNearer_8 : decode cX3_isNearer 8 = .ok (.iconst 0, 1) := by decide +kernel
theorem dX3_isNearer_9 : decode cX3_isNearer 9 = .ok (.iload_n 2, 1) := by decide +kernel
theorem dX3_isNearer_10 : decode cX3_isNearer 10 = .ok (.invokevirtual 67, 3) := by decide +kernel
theorem dX3_isNearer_13 : decode cX3_isNearer 13 = .ok (.istore 4, 2) := by decide +kernel
theorem dX3_isNearer_15 : decode cX3_isNearer 15 = .ok (.iload_n 3, 1) := by decide +kernel
theorem dX3_isNearer_16 : decode cX3_isNearer 16 = .ok (.iload 4, 2) := by decide +kernel
theorem dX3_isNearer_18 : decode cX3_isNearer 18 = .ok (.if_icmp .lt 14, 3) := by decide +kernel
theorem dX3_isNearer_21 : decode cX3_isNearer 21 = .ok (.iload_n 3, 1) := by decide +kernel
theorem dX3_isNearer_22 : decode cX3_isNearer 22 = .ok (.iload 4, 2) := by decide +kernel
theorem dX3_isNearer_24 : decode cX3_isNearer 24 = .ok (.if_icmp .ne 12, 3) := by decide +kernel
theorem dX3_isNearer_27 : decode cX3_isNearer 27 = .ok (.iload_n 1, 1) := by decide +kernel
theorem dX3_isNearer_28 : decode cX3_isNearer 28 = .ok (.iload_n 2, 1) := by decide +kernel
theorem dX3_isNearer_29 : decode cX3_isNearer 29 = .ok (.if_icmp .ge 7, 3) := by decide +kernel
theorem dX3_isNearer_32 : decode cX3_isNearer 32 = .ok (.iconst 1, 1) := by decide +kernel
theorem dX3_isNearer_33 : decode cX3_isNearer 33 = .ok (.goto 4, 3) := by decide +kernel
theorem dX3_isNearer_36 : decode cX3_isNearer 36 = .ok (.iconst 0, 1) := by decide +kernel
theorem dX3_isNearer_37 : decode cX3_isNearer 37 = .ok (.ireturn, 1) := by decide +kernel
theorem dX3_insertProduct_0 : decode cX3_insertProduct 0 = .ok (.iload_n 2, 1) := by decide +kernel
theorem dX3_insertProduct_1 : decode cX3_insertProduct 1 = .ok (.istore_n 3, 1) := by decide +kernel
theorem dX3_insertProduct_2 : decode cX3_insertProduct 2 = .ok (.iload_n 3, 1) := by decide +kernel
theorem dX3_insertProduct_3 : decode cX3_insertProduct 3 = .ok (.ifCond .le 45, 3) := by decide +kernel
theorem dX3_insertProduct_6 : decode cX3_insertProduct 6 = .ok (.aload_n 0, 1) := by decide +kernel
theorem dX3_insertProduct_7 : decode cX3_insertProduct 7 = .ok (.getfield 15, 3) := by decide +kernel
theorem dX3_insertProduct_10 : decode cX3_insertProduct 10 = .ok (.iload_n 1, 1) := by decide +kernel
theorem dX3_insertProduct_11 : decode cX3_insertProduct 11 = .ok (.iaload, 1) := by decide +kernel
theorem dX3_insertProduct_12 : decode cX3_insertProduct 12 = .ok (.aload_n 0, 1) := by decide +kernel
theorem dX3_insertProduct_13 : decode cX3_insertProduct 13 = .ok (.getfield 15, 3) := by decide +kernel
theorem dX3_insertProduct_16 : decode cX3_insertProduct 16 = .ok (.aload_n 0, 1) := by decide +kernel
theorem dX3_insertProduct_17 : decode cX3_insertProduct 17 = .ok (.getfield 21, 3) := by decide +kernel
theorem dX3_insertProduct_20 : decode cX3_insertProduct 20 = .ok (.iload_n 3, 1) := by decide +kernel
theorem dX3_insertProduct_21 : decode cX3_insertProduct 21 = .ok (.iconst 1, 1) := by decide +kernel
theorem dX3_insertProduct_22 : decode cX3_insertProduct 22 = .ok (.isub, 1) := by decide +kernel
theorem dX3_insertProduct_23 : decode cX3_insertProduct 23 = .ok (.iaload, 1) := by decide +kernel
theorem dX3_insertProduct_24 : decode cX3_insertProduct 24 = .ok (.iaload, 1) := by decide +kernel
theorem dX3_insertProduct_25 : decode cX3_insertProduct 25 = .ok (.if_icmp .le 23, 3) := by decide +kernel
theorem dX3_insertProduct_28 : decode cX3_insertProduct 28 = .ok (.aload_n 0, 1) := by decide +kernel
theorem dX3_insertProduct_29 : decode cX3_insertProduct 29 = .ok (.getfield 21, 3) := by decide +kernel
theorem dX3_insertProduct_32 : decode cX3_insertProduct 32 = .ok (.iload_n 3, 1) := by decide +kernel
theorem dX3_insertProduct_33 : decode cX3_insertProduct 33 = .ok (.aload_n 0, 1) := by decide +kernel
theorem dX3_insertProduct_34 : decode cX3_insertProduct 34 = .ok (.getfield 21, 3) := by decide +kernel
theorem dX3_insertProduct_37 : decode cX3_insertProduct 37 = .ok (.iload_n 3, 1) := by decide +kernel
theorem dX3_insertProduct_38 : decode cX3_insertProduct 38 = .ok (.iconst 1, 1) := by decide +kernel
theorem dX3_insertProduct_39 : decode cX3_insertProduct 39 = .ok (.isub, 1) := by decide +kernel
theorem dX3_insertProduct_40 : decode cX3_insertProduct 40 = .ok (.iaload, 1) := by decide +kernel
theorem dX3_insertProduct_41 : decode cX3_insertProduct 41 = .ok (.iastore, 1) := by decide +kernel
theorem dX3_insertProduct_42 : decode cX3_insertProduct 42 = .ok (.iinc 3 (-1), 3) := by decide +kernel
theorem dX3_insertProduct_45 : decode cX3_insertProduct 45 = .ok (.goto (-43), 3) := by decide +kernel
theorem dX3_insertProduct_48 : decode cX3_insertProduct 48 = .ok (.aload_n 0, 1) := by decide +kernel
theorem dX3_insertProduct_49 : decode cX3_insertProduct 49 = .ok (.getfield 21, 3) := by decide +kernel
theorem dX3_insertProduct_52 : decode cX3_insertProduct 52 = .ok (.iload_n 3, 1) := by decide +kernel
theorem dX3_insertProduct_53 : decode cX3_insertProduct 53 = .ok (.iload_n 1, 1) := by decide +kernel
theorem dX3_insertProduct_54 : decode cX3_insertProduct 54 = .ok (.iastore, 1) := by decide +kernel
theorem dX3_insertProduct_55 : decode cX3_insertProduct 55 = .ok (.return_, 1) := by decide +kernel
theorem dX4_init_0 : decode cX4_init 0 = .ok (.aload_n 0, 1) := by decide +kernel
theorem dX4_init_1 : decode cX4_init 1 = .ok (.invokespecial 3, 3) := by decide +kernel
theorem dX4_init_4 : decode cX4_init 4 = .ok (.aload_n 0, 1) := by decide +kernel
theorem dX4_init_5 : decode cX4_init 5 = .ok (.new 9, 3) := by decide +kernel
theorem dX4_init_8 : decode cX4_init 8 = .ok (.dup, 1) := by decide +kernel
theorem dX4_init_9 : decode cX4_init 9 = .ok (.invokespecial 11, 3) := by decide +kernel
theorem dX4_init_12 : decode cX4_init 12 = .ok (.putfield 12, 3) := by decide +kernel
theorem dX4_init_15 : decode cX4_init 15 = .ok (.aload_n 0, 1) := by decide +kernel
theorem dX4_init_16 : decode cX4_init 16 = .ok (.bipush 40, 2) := by decide +kernel
theorem dX4_init_18 : decode cX4_init 18 = .ok (.bipush 40, 2) := by decide +kernel
theorem dX4_init_20 : decode cX4_init 20 = .ok (.multianewarray 18 2, 4) := by decide +kernel
theorem dX4_init_24 : decode cX4_init 24 = .ok (.putfield 20, 3) := by decide +kernel
theorem dX4_init_27 : decode cX4_init 27 = .ok (.aload_n 0, 1) := by decide +kernel
theorem dX4_init_28 : decode cX4_init 28 = .ok (.aload_n 1, 1) := by decide +kernel
theorem dX4_init_29 : decode cX4_init 29 = .ok (.putfield 23, 3) := by decide +kernel
theorem dX4_init_32 : decode cX4_init 32 = .ok (.return_, 1) := by decide +kernel
theorem dX4_isOn_0 : decode cX4_isOn 0 = .ok (.aload_n 0, 1) := by decide +kernel
theorem dX4_isOn_1 : decode cX4_isOn 1 = .ok (.getfield 12, 3) := by decide +kernel
theorem dX4_isOn_4 : decode cX4_isOn 4 = .ok (.invokevirtual 27, 3) := by decide +kernel
theorem dX4_isOn_7 : decode cX4_isOn 7 = .ok (.ifCond .ne 7, 3) := by decide +kernel
theorem dX4_isOn_10 : decode cX4_isOn 10 = .ok (.iconst 1, 1) := by decide +kernel
theorem dX4_isOn_11 : decode cX4_isOn 11 = .ok (.goto 4, 3) := by decide +kernel
theorem dX4_isOn_14 : decode cX4_isOn 14 = .ok (.iconst 0, 1) := by decide +kernel
theorem dX4_isOn_15 : decode cX4_isOn 15 = .ok (.ireturn, 1) := by decide +kernel
theorem dX4_size_0 : decode cX4_size 0 = .ok (.aload_n 0, 1) := by decide +kernel
theorem dX4_size_1 : decode cX4_size 1 = .ok (.getfield 12, 3) := by decide +kernel
theorem dX4_size_4 : decode cX4_size 4 = .ok (.invokevirtual 31, 3) := by decide +kernel
theorem dX4_size_7 : decode cX4_size 7 = .ok (.ireturn, 1) := by decide +kernel
theorem dX4_take_0 : decode cX4_take 0 = .ok (.aload_n 0, 1) := by decide +kernel
theorem dX4_take_1 : decode cX4_take 1 = .ok (.getfield 12, 3) := by decide +kernel
theorem dX4_take_4 : decode cX4_take 4 = .ok (.new 35, 3) := by decide +kernel
theorem dX4_take_7 : decode cX4_take 7 = .ok (.dup, 1) := by decide +kernel
theorem dX4_take_8 : decode cX4_take 8 = .ok (.aload_n 0, 1) := by decide +kernel
theorem dX4_take_9 : decode cX4_take 9 = .ok (.getfield 12, 3) := by decide +kernel
theorem dX4_take_12 : decode cX4_take 12 = .ok (.invokevirtual 31, 3) := by decide +kernel
theorem dX4_take_15 : decode cX4_take 15 = .ok (.iload_n 1, 1) := by decide +kernel
theorem dX4_take_16 : decode cX4_take 16 = .ok (.aload_n 2, 1) := by decide +kernel
theorem dX4_take_17 : decode cX4_take 17 = .ok (.aload_n 0, 1) := by decide +kernel
theorem dX4_take_18 : decode cX4_take 18 = .ok (.getfield 23, 3) := by decide +kernel
theorem dX4_take_21 : decode cX4_take 21 = .ok (.aload_n 2, 1) := by decide +kernel
theorem dX4_take_22 : decode cX4_take 22 = .ok (.getfield 37, 3) := by decide +kernel
theorem dX4_take_25 : decode cX4_take 25 = .ok (.invokevirtual 43, 3) := by decide +kernel
theorem dX4_take_28 : decode cX4_take 28 = .ok (.invokespecial 49, 3) := by decide +kernel
theorem dX4_take_31 : decode cX4_take 31 = .ok (.invokevirtual 52, 3) := by decide +kernel
theorem dX4_take_34 : decode cX4_take 34 = .ok (.pop, 1) := by decide +kernel
theorem dX4_take_35 : decode cX4_take 35 = .ok (.return_, 1) := by decide +kernel
theorem dX4_join_0 : decode cX4_join 0 = .ok (.iconst 0, 1) := by decide +kernel
theorem dX4_join_1 : decode cX4_join 1 = .ok (.istore_n 2, 1) := by decide +kernel
theorem dX4_join_2 : decode cX4_join 2 = .ok (.iload_n 2, 1) := by decide +kernel
theorem dX4_join_3 : decode cX4_join 3 = .ok (.aload_n 0, 1) := by decide +kernel
theorem dX4_join_4 : decode cX4_join 4 = .ok (.getfield 12, 3) := by decide +kernel
theorem dX4_join_7 : decode cX4_join 7 = .ok (.invokevirtual 31, 3) := by decide +kernel
theorem dX4_join_10 : decode cX4_join 10 = .ok (.if_icmp .ge 37, 3) := by decide +kernel
theorem dX4_join_13 : decode cX4_join 13 = .ok (.iload_n 2, 1) := by decide +kernel
theorem dX4_join_14 : decode cX4_join 14 = .ok (.iconst 1, 1) := by decide +kernel
theorem dX4_join_15 : decode cX4_join 15 = .ok (.iadd, 1) := by decide +kernel
theorem dX4_join_16 : decode cX4_join 16 = .ok (.istore_n 3, 1) := by decide +kernel
theorem dX4_join_17 : decode cX4_join 17 = .ok (.iload_n 3, 1) := by decide +kernel
theorem dX4_join_18 : decode cX4_join 18 = .ok (.aload_n 0, 1) := by decide +kernel
theorem dX4_join_19 : decode cX4_join 19 = .ok (.getfield 12, 3) := by decide +kernel
theorem dX4_join_22 : decode cX4_join 22 = .ok (.invokevirtual 31, 3) := by decide +kernel
theorem dX4_join_25 : decode cX4_join 25 = .ok (.if_icmp .ge 16, 3) := by decide +kernel
theorem dX4_join_28 : decode cX4_join 28 = .ok (.aload_n 0, 1) := by decide +kernel
theorem dX4_join_29 : decode cX4_join 29 = .ok (.iload_n 2, 1) := by decide +kernel
theorem dX4_join_30 : decode cX4_join 30 = .ok (.iload_n 3, 1) := by decide +kernel
theorem dX4_join_31 : decode cX4_join 31 = .ok (.iload_n 1, 1) := by decide +kernel
theorem dX4_join_32 : decode cX4_join 32 = .ok (.invokevirtual 56, 3) := by decide +kernel
theorem dX4_join_35 : decode cX4_join 35 = .ok (.iinc 3 1, 3) := by decide +kernel
theorem dX4_join_38 : decode cX4_join 38 = .ok (.goto (-21), 3) := by decide +kernel
theorem dX4_join_41 : decode cX4_join 41 = .ok (.iinc 2 1, 3) := by decide +kernel
theorem dX4_join_44 : decode cX4_join 44 = .ok (.goto (-42), 3) := by decide +kernel
theorem dX4_join_47 : decode cX4_join 47 = .ok (.iconst 0, 1) := by decide +kernel
theorem dX4_join_48 : decode cX4_join 48 = .ok (.istore_n 2, 1) := by decide +kernel
theorem dX4_join_49 : decode cX4_join 49 = .ok (.iload_n 2, 1) := by decide +kernel
theorem dX4_join_50 : decode cX4_join 50 = .ok (.bipush 40, 2) := by decide +kernel
theorem dX4_join_52 : decode cX4_join 52 = .ok (.if_icmp .ge 51, 3) := by decide +kernel
theorem dX4_join_55 : decode cX4_join 55 = .ok (.aload_n 0, 1) := by decide +kernel
theorem dX4_join_56 : decode cX4_join 56 = .ok (.invokevirtual 60, 3) := by decide +kernel
theorem dX4_join_59 : decode cX4_join 59 = .ok (.istore_n 3, 1) := by decide +kernel
theorem dX4_join_60 : decode cX4_join 60 = .ok (.iload_n 3, 1) := by decide +kernel
theorem dX4_join_61 : decode cX4_join 61 = .ok (.iconst (-1), 1) := by decide +kernel
theorem dX4_join_62 : decode cX4_join 62 = .ok (.if_icmp .ne 6, 3) := by decide +kernel
theorem dX4_join_65 : decode cX4_join 65 = .ok (.goto 38, 3) := by decide +kernel
theorem dX4_join_68 : decode cX4_join 68 = .ok (.iconst 0, 1) := by decide +kernel
theorem dX4_join_69 : decode cX4_join 69 = .ok (.istore 4, 2) := by decide +kernel
theorem dX4_join_71 : decode cX4_join 71 = .ok (.iload 4, 2) := by decide +kernel
theorem dX4_join_73 : decode cX4_join 73 = .ok (.aload_n 0, 1) := by decide +kernel
theorem dX4_join_74 : decode cX4_join 74 = .ok (.getfield 12, 3) := by decide +kernel
theorem dX4_join_77 : decode cX4_join 77 = .ok (.invokevirtual 31, 3) := by decide +kernel
theorem dX4_join_80 : decode cX4_join 80 = .ok (.if_icmp .ge 17, 3) := by decide +kernel
theorem dX4_join_83 : decode cX4_join 83 = .ok (.aload_n 0, 1) := by decide +kernel
theorem dX4_join_84 : decode cX4_join 84 = .ok (.iload_n 3, 1) := by decide +kernel
theorem dX4_join_85 : decode cX4_join 85 = .ok (.iload 4, 2) := by decide +kernel
theorem dX4_join_87 : decode cX4_join 87 = .ok (.iload_n 1, 1) := by decide +kernel
theorem dX4_join_88 : decode cX4_join 88 = .ok (.invokevirtual 56, 3) := by decide +kernel
theorem dX4_join_91 : decode cX4_join 91 = .ok (.iinc 4 1, 3) := by decide +kernel
theorem dX4_join_94 : decode cX4_join 94 = .ok (.goto (-23), 3) := by decide +kernel
theorem dX4_join_97 : decode cX4_join 97 = .ok (.iinc 2 1, 3) := by decide +kernel
theorem dX4_join_100 : decode cX4_join 100 = .ok (.goto (-51), 3) := by decide +kernel
theorem dX4_join_103 : decode cX4_join 103 = .ok (.iconst 0, 1) := by decide +kernel
theorem dX4_join_104 : decode cX4_join 104 = .ok (.istore_n 2, 1) := by decide +kernel
theorem dX4_join_105 : decode cX4_join 105 = .ok (.iload_n 2, 1) := by decide +kernel
theorem dX4_join_106 : decode cX4_join 106 = .ok (.aload_n 0, 1) := by decide +kernel
theorem dX4_join_107 : decode cX4_join 107 = .ok (.getfield 12, 3) := by decide +kernel
theorem dX4_join_110 : decode cX4_join 110 = .ok (.invokevirtual 31, 3) := by decide +kernel
theorem dX4_join_113 : decode cX4_join 113 = .ok (.if_icmp .ge 36, 3) := by decide +kernel
theorem dX4_join_116 : decode cX4_join 116 = .ok (.aload_n 0, 1) := by decide +kernel
theorem dX4_join_117 : decode cX4_join 117 = .ok (.getfield 12, 3) := by decide +kernel
theorem dX4_join_120 : decode cX4_join 120 = .ok (.iload_n 2, 1) := by decide +kernel
theorem dX4_join_121 : decode cX4_join 121 = .ok (.invokevirtual 63, 3) := by decide +kernel
theorem dX4_join_124 : decode cX4_join 124 = .ok (.checkcast 35, 3) := by decide +kernel
theorem dX4_join_127 : decode cX4_join 127 = .ok (.astore_n 3, 1) := by decide +kernel
theorem dX4_join_128 : decode cX4_join 128 = .ok (.aload_n 3, 1) := by decide +kernel
theorem dX4_join_129 : decode cX4_join 129 = .ok (.aload_n 0, 1) := by decide +kernel
theorem dX4_join_130 : decode cX4_join 130 = .ok (.getfield 23, 3) := by decide +kernel
theorem dX4_join_133 : decode cX4_join 133 = .ok (.aload_n 3, 1) := by decide +kernel
theorem dX4_join_134 : decode cX4_join 134 = .ok (.getfield 67, 3) := by decide +kernel
theorem dX4_join_137 : decode cX4_join 137 = .ok (.invokevirtual 68, 3) := by decide +kernel
theorem dX4_join_140 : decode cX4_join 140 = .ok (.putfield 72, 3) := by decide +kernel
theorem dX4_join_143 : decode cX4_join 143 = .ok (.iinc 2 1, 3) := by decide +kernel
theorem dX4_join_146 : decode cX4_join 146 = .ok (.goto (-41), 3) := by decide +kernel
theorem dX4_join_149 : decode cX4_join 149 = .ok (.return_, 1) := by decide +kernel
theorem dX4_noteSaving_0 : decode cX4_noteSaving 0 = .ok (.aload_n 0, 1) := by decide +kernel
theorem dX4_noteSaving_1 : decode cX4_noteSaving 1 = .ok (.getfield 12, 3) := by decide +kernel
theorem dX4_noteSaving_4 : decode cX4_noteSaving 4 = .ok (.iload_n 1, 1) := by decide +kernel
theorem dX4_noteSaving_5 : decode cX4_noteSaving 5 = .ok (.invokevirtual 63, 3) := by decide +kernel
theorem dX4_noteSaving_8 : decode cX4_noteSaving 8 = .ok (.checkcast 35, 3) := by decide +kernel
theorem dX4_noteSaving_11 : decode cX4_noteSaving 11 = .ok (.astore 4, 2) := by decide +kernel
theorem dX4_noteSaving_13 : decode cX4_noteSaving 13 = .ok (.aload_n 0, 1) := by decide +kernel
theorem dX4_noteSaving_14 : decode cX4_noteSaving 14 = .ok (.getfield 12, 3) := by decide +kernel
theorem dX4_noteSaving_17 : decode cX4_noteSaving 17 = .ok (.iload_n 2, 1) := by decide +kernel
theorem dX4_noteSaving_18 : decode cX4_noteSaving 18 = .ok (.invokevirtual 63, 3) := by decide +kernel
theorem dX4_noteSaving_21 : decode cX4_noteSaving 21 = .ok (.checkcast 35, 3) := by decide +kernel
theorem dX4_noteSaving_24 : decode cX4_noteSaving 24 = .ok (.astore 5, 2) := by decide +kernel
theorem dX4_noteSaving_26 : decode cX4_noteSaving 26 = .ok (.iconst 0, 1) := by decide +kernel
theorem dX4_noteSaving_27 : decode cX4_noteSaving 27 = .ok (.istore 6, 2) := by decide +kernel
theorem dX4_noteSaving_29 : decode cX4_noteSaving 29 = .ok (.iload_n 1, 1) := by decide +kernel
theorem dX4_noteSaving_30 : decode cX4_noteSaving 30 = .ok (.iload_n 2, 1) := by decide +kernel
theorem dX4_noteSaving_31 : decode cX4_noteSaving 31 = .ok (.if_icmp .eq 50, 3) := by decide +kernel
theorem dX4_noteSaving_34 : decode cX4_noteSaving 34 = .ok (.aload 4, 2) := by decide +kernel
theorem dX4_noteSaving_36 : decode cX4_noteSaving 36 = .ok (.getfield 76, 3) := by decide +kernel
theorem dX4_noteSaving_39 : decode cX4_noteSaving 39 = .ok (.aload 5, 2) := by decide +kernel
theorem dX4_noteSaving_41 : decode cX4_noteSaving 41 = .ok (.getfield 76, 3) := by decide +kernel
theorem dX4_noteSaving_44 : decode cX4_noteSaving 44 = .ok (.iadd, 1) := by decide +kernel
theorem dX4_noteSaving_45 : decode cX4_noteSaving 45 = .ok (.iload_n 3, 1) := by decide +kernel
theorem dX4_noteSaving_46 : decode cX4_noteSaving 46 = .ok (.if_icmp .gt 35, 3) := by decide +kernel
theorem dX4_noteSaving_49 : decode cX4_noteSaving 49 = .ok (.aload 4, 2) := by decide +kernel
theorem dX4_noteSaving_51 : decode cX4_noteSaving 51 = .ok (.getfield 79, 3) := by decide +kernel
theorem dX4_noteSaving_54 : decode cX4_noteSaving 54 = .ok (.aload 5, 2) := by decide +kernel
theorem dX4_noteSaving_56 : decode cX4_noteSaving 56 = .ok (.getfield 79, 3) := by decide +kernel
theorem dX4_noteSaving_59 : decode cX4_noteSaving 59 = .ok (.iadd, 1) := by decide +kernel
theorem dX4_noteSaving_60 : decode cX4_noteSaving 60 = .ok (.aload_n 0, 1) := by decide +kernel
theorem dX4_noteSaving_61 : decode cX4_noteSaving 61 = .ok (.getfield 23, 3) := by decide +kernel
theorem dX4_noteSaving_64 : decode cX4_noteSaving 64 = .ok (.aload 4, 2) := by decide +kernel
theorem dX4_noteSaving_66 : decode cX4_noteSaving 66 = .ok (.getfield 67, 3) := by decide +kernel
theorem dX4_noteSaving_69 : decode cX4_noteSaving 69 = .ok (.aload 5, 2) := by decide +kernel
theorem dX4_noteSaving_71 : decode cX4_noteSaving 71 = .ok (.getfield 67, 3) := by decide +kernel
theorem dX4_noteSaving_74 : decode cX4_noteSaving 74 = .ok (.ior, 1) := by decide +kernel
theorem dX4_noteSaving_75 : decode cX4_noteSaving 75 = .ok (.invokevirtual 43, 3) := by decide +kernel
theorem dX4_noteSaving_78 : decode cX4_noteSaving 78 = .ok (.isub, 1) := by decide +kernel
theorem dX4_noteSaving_79 : decode cX4_noteSaving 79 = .ok (.istore 6, 2) := by decide +kernel
theorem dX4_noteSaving_81 : decode cX4_noteSaving 81 = .ok (.aload_n 0, 1) := by decide +kernel
theorem dX4_noteSaving_82 : decode cX4_noteSaving 82 = .ok (.getfield 20, 3) := by decide +kernel
theorem dX4_noteSaving_85 : decode cX4_noteSaving 85 = .ok (.aload 4, 2) := by decide +kernel
theorem dX4_noteSaving_87 : decode cX4_noteSaving 87 = .ok (.getfield 82, 3) := by decide +kernel
theorem dX4_noteSaving_90 : decode cX4_noteSaving 90 = .ok (.aaload, 1) := by decide +kernel
theorem dX4_noteSaving_91 : decode cX4_noteSaving 91 = .ok (.aload 5, 2) := by decide +kernel
theorem dX4_noteSaving_93 : decode cX4_noteSaving 93 = .ok (.getfield 82, 3) := by decide +kernel
theorem dX4_noteSaving_96 : decode cX4_noteSaving 96 = .ok (.iload 6, 2) := by decide +kernel
theorem dX4_noteSaving_98 : decode cX4_noteSaving 98 = .ok (.iastore, 1) := by decide +kernel
theorem dX4_noteSaving_99 : decode cX4_noteSaving 99 = .ok (.aload_n 0, 1) := by decide +kernel
theorem dX4_noteSaving_100 : decode cX4_noteSaving 100 = .ok (.getfield 20, 3) := by decide +kernel
theorem dX4_noteSaving_103 : decode cX4_noteSaving 103 = .ok (.aload 5, 2) := by decide +kernel
theorem dX4_noteSaving_105 : decode cX4_noteSaving 105 = .ok (.getfield 82, 3) := by decide +kernel
theorem dX4_noteSaving_108 : decode cX4_noteSaving 108 = .ok (.aaload, 1) := by decide +kernel
theorem dX4_noteSaving_109 : decode cX4_noteSaving 109 = .ok (.aload 4, 2) := by decide +kernel
theorem dX4_noteSaving_111 : decode cX4_noteSaving 111 = .ok (.getfield 82, 3) := by decide +kernel
theorem dX4_noteSaving_114 : decode cX4_noteSaving 114 = .ok (.iload 6, 2) := by decide +kernel
theorem dX4_noteSaving_116 : decode cX4_noteSaving 116 = .ok (.iastore, 1) := by decide +kernel
theorem dX4_noteSaving_117 : decode cX4_noteSaving 117 = .ok (.return_, 1) := by decide +kernel
theorem dX4_savingOf_0 : decode cX4_savingOf 0 = .ok (.aload_n 0, 1) := by decide +kernel
theorem dX4_savingOf_1 : decode cX4_savingOf 1 = .ok (.getfield 20, 3) := by decide +kernel
theorem dX4_savingOf_4 : decode cX4_savingOf 4 = .ok (.aload_n 0, 1) := by decide +kernel
theorem dX4_savingOf_5 : decode cX4_savingOf 5 = .ok (.getfield 12, 3) := by decide +kernel
theorem dX4_savingOf_8 : decode cX4_savingOf 8 = .ok (.iload_n 1, 1) := by decide +kernel
theorem dX4_savingOf_9 : decode cX4_savingOf 9 = .ok (.invokevirtual 63, 3) := by decide +kernel
theorem dX4_savingOf_12 : decode cX4_savingOf 12 = .ok (.checkcast 35, 3) := by decide +kernel
theorem dX4_savingOf_15 : decode cX4_savingOf 15 = .ok (.getfield 82, 3) := by decide +kernel
theorem dX4_savingOf_18 : decode cX4_savingOf 18 = .ok (.aaload, 1) := by decide +kernel
theorem dX4_savingOf_19 : decode cX4_savingOf 19 = .ok (.aload_n 0, 1) := by decide +kernel
theorem dX4_savingOf_20 : decode cX4_savingOf 20 = .ok (.getfield 12, 3) := by decide +kernel
theorem dX4_savingOf_23 : decode cX4_savingOf 23 = .ok (.iload_n 2, 1) := by decide +kernel
theorem dX4_savingOf_24 : decode cX4_savingOf 24 = .ok (.invokevirtual 63, 3) := by decide +kernel
theorem dX4_savingOf_27 : decode cX4_savingOf 27 = .ok (.checkcast 35, 3) := by decide +kernel
theorem dX4_savingOf_30 : decode cX4_savingOf 30 = .ok (.getfield 82, 3) := by decide +kernel
theorem dX4_savingOf_33 : decode cX4_savingOf 33 = .ok (.iaload, 1) := by decide +kernel
theorem dX4_savingOf_34 : decode cX4_savingOf 34 = .ok (.ireturn, 1) := by decide +kernel
theorem dX4_joinBestPair_0 : decode cX4_joinBestPair 0 = .ok (.iconst 0, 1) := by decide +kernel
theorem dX4_joinBestPair_1 : decode cX4_joinBestPair 1 = .ok (.istore_n 1, 1) := by decide +kernel
theorem dX4_joinBestPair_2 : decode cX4_joinBestPair 2 = .ok (.iconst (-1), 1) := by decide +kernel
theorem dX4_joinBestPair_3 : decode cX4_joinBestPair 3 = .ok (.istore_n 2, 1) := by decide +kernel
theorem dX4_joinBestPair_4 : decode cX4_joinBestPair 4 = .ok (.iconst (-1), 1) := by decide +kernel
theorem dX4_joinBestPair_5 : decode cX4_joinBestPair 5 = .ok (.istore_n 3, 1) := by decide +kernel
theorem dX4_joinBestPair_6 : decode cX4_joinBestPair 6 = .ok (.iconst 0, 1) := by decide +kernel
theorem dX4_joinBestPair_7 : decode cX4_joinBestPair 7 = .ok (.istore 4, 2) := by decide +kernel
theorem dX4_joinBestPair_9 : decode cX4_joinBestPair 9 = .ok (.iload 4, 2) := by decide +kernel
theorem dX4_joinBestPair_11 : decode cX4_joinBestPair 11 = .ok (.aload_n 0, 1) := by decide +kernel
theorem dX4_joinBestPair_12 : decode cX4_joinBestPair 12 = .ok (.getfield 12, 3) := by decide +kernel
theorem dX4_joinBestPair_15 : decode cX4_joinBestPair 15 = .ok (.invokevirtual 31, 3) := by decide +kernel
theorem dX4_joinBestPair_18 : decode cX4_joinBestPair 18 = .ok (.if_icmp .ge 58, 3) := by decide +kernel
theorem dX4_joinBestPair_21 : decode cX4_joinBestPair 21 = .ok (.iload 4, 2) := by decide +kernel
theorem dX4_joinBestPair_23 : decode cX4_joinBestPair 23 = .ok (.iconst 1, 1) := by decide +kernel
theorem dX4_joinBestPair_24 : decode cX4_joinBestPair 24 = .ok (.iadd, 1) := by decide +kernel
theorem dX4_joinBestPair_25 : decode cX4_joinBestPair 25 = .ok (.istore 5, 2) := by decide +kernel
theorem dX4_joinBestPair_27 : decode cX4_joinBestPair 27 = .ok (.iload 5, 2) := by decide +kernel
theorem dX4_joinBestPair_29 : decode cX4_joinBestPair 29 = .ok (.aload_n 0, 1) := by decide +kernel
theorem dX4_joinBestPair_30 : decode cX4_joinBestPair 30 = .ok (.getfield 12, 3) := by decide +kernel
theorem dX4_joinBestPair_33 : decode cX4_joinBestPair 33 = .ok (.invokevirtual 31, 3) := by decide +kernel
theorem dX4_joinBestPair_36 : decode cX4_joinBestPair 36 = .ok (.if_icmp .ge 34, 3) := by decide +kernel
theorem dX4_joinBestPair_39 : decode cX4_joinBestPair 39 = .ok (.aload_n 0, 1) := by decide +kernel
theorem dX4_joinBestPair_40 : decode cX4_joinBestPair 40 = .ok (.iload 4, 2) := by decide +kernel
theorem dX4_joinBestPair_42 : decode cX4_joinBestPair 42 = .ok (.iload 5, 2) := by decide +kernel
theorem dX4_joinBestPair_44 : decode cX4_joinBestPair 44 = .ok (.invokevirtual 85, 3) := by decide +kernel
theorem dX4_joinBestPair_47 : decode cX4_joinBestPair 47 = .ok (.istore 6, 2) := by decide +kernel
theorem dX4_joinBestPair_49 : decode cX4_joinBestPair 49 = .ok (.iload 6, 2) := by decide +kernel
theorem dX4_joinBestPair_51 : decode cX4_joinBestPair 51 = .ok (.iload_n 1, 1) := by decide +kernel
theorem dX4_joinBestPair_52 : decode cX4_joinBestPair 52 = .ok (.if_icmp .le 12, 3) := by decide +kernel
theorem dX4_joinBestPair_55 : decode cX4_joinBestPair 55 = .ok (.iload 6, 2) := by decide +kernel
theorem dX4_joinBestPair_57 : decode cX4_joinBestPair 57 = .ok (.istore_n 1, 1) := by decide +kernel
theorem dX4_joinBestPair_58 : decode cX4_joinBestPair 58 = .ok (.iload 4, 2) := by decide +kernel
theorem dX4_joinBestPair_60 : decode cX4_joinBestPair 60 = .ok (.istore_n 2, 1) := by decide +kernel
theorem dX4_joinBestPair_61 : decode cX4_joinBestPair 61 = .ok (.iload 5, 2) := by decide +kernel
theorem dX4_joinBestPair_63 : decode cX4_joinBestPair 63 = .ok (.istore_n 3, 1) := by decide +kernel
theorem dX4_joinBestPair_64 : decode cX4_joinBestPair 64 = .ok (.iinc 5 1, 3) := by decide +kernel
theorem dX4_joinBestPair_67 : decode cX4_joinBestPair 67 = .ok (.goto (-40), 3) := by decide +kernel
theorem dX4_joinBestPair_70 : decode cX4_joinBestPair 70 = .ok (.iinc 4 1, 3) := by decide +kernel
theorem dX4_joinBestPair_73 : decode cX4_joinBestPair 73 = .ok (.goto (-64), 3) := by decide +kernel
theorem dX4_joinBestPair_76 : decode cX4_joinBestPair 76 = .ok (.iload_n 1, 1) := by decide +kernel
theorem dX4_joinBestPair_77 : decode cX4_joinBestPair 77 = .ok (.ifCond .le 38, 3) := by decide +kernel
theorem dX4_joinBestPair_80 : decode cX4_joinBestPair 80 = .ok (.aload_n 0, 1) := by decide +kernel
theorem dX4_joinBestPair_81 : decode cX4_joinBestPair 81 = .ok (.getfield 12, 3) := by decide +kernel
theorem dX4_joinBestPair_84 : decode cX4_joinBestPair 84 = .ok (.iload_n 2, 1) := by decide +kernel
theorem dX4_joinBestPair_85 : decode cX4_joinBestPair 85 = .ok (.invokevirtual 63, 3) := by decide +kernel
theorem dX4_joinBestPair_88 : decode cX4_joinBestPair 88 = .ok (.checkcast 35, 3) := by decide +kernel
theorem dX4_joinBestPair_91 : decode cX4_joinBestPair 91 = .ok (.aload_n 0, 1) := by decide +kernel
theorem dX4_joinBestPair_92 : decode cX4_joinBestPair 92 = .ok (.getfield 12, 3) := by decide +kernel
theorem dX4_joinBestPair_95 : decode cX4_joinBestPair 95 = .ok (.iload_n 3, 1) := by decide +kernel
theorem dX4_joinBestPair_96 : decode cX4_joinBestPair 96 = .ok (.invokevirtual 63, 3) := by decide +kernel
theorem dX4_joinBestPair_99 : decode cX4_joinBestPair 99 = .ok (.checkcast 35, 3) := by decide +kernel
theorem dX4_joinBestPair_102 : decode cX4_joinBestPair 102 = .ok (.iload_n 1, 1) := by decide +kernel
theorem dX4_joinBestPair_103 : decode cX4_joinBestPair 103 = .ok (.invokevirtual 89, 3) := by decide +kernel
theorem dX4_joinBestPair_106 : decode cX4_joinBestPair 106 = .ok (.aload_n 0, 1) := by decide +kernel
theorem dX4_joinBestPair_107 : decode cX4_joinBestPair 107 = .ok (.getfield 12, 3) := by decide +kernel
theorem dX4_joinBestPair_110 : decode cX4_joinBestPair 110 = .ok (.iload_n 3, 1) := by decide +kernel
theorem dX4_joinBestPair_111 : decode cX4_joinBestPair 111 = .ok (.invokevirtual 93, 3) := by decide +kernel
theorem dX4_joinBestPair_114 : decode cX4_joinBestPair 114 = .ok (.pop, 1) := by decide +kernel
theorem dX4_joinBestPair_115 : decode cX4_joinBestPair 115 = .ok (.iload_n 2, 1) := by decide +kernel
theorem dX4_joinBestPair_116 : decode cX4_joinBestPair 116 = .ok (.ireturn, 1) := by decide +kernel
theorem dX4_drop_0 : decode cX4_drop 0 = .ok (.iload_n 1, 1) := by decide +kernel
theorem dX4_drop_1 : decode cX4_drop 1 = .ok (.ifCond .lt 23, 3) := by decide +kernel
theorem dX4_drop_4 : decode cX4_drop 4 = .ok (.iload_n 1, 1) := by decide +kernel
theorem dX4_drop_5 : decode cX4_drop 5 = .ok (.aload_n 0, 1) := by decide +kernel
theorem dX4_drop_6 : decode cX4_drop 6 = .ok (.getfield 12, 3) := by decide +kernel
theorem dX4_drop_9 : decode cX4_drop 9 = .ok (.invokevirtual 31, 3) := by decide +kernel
theorem dX4_drop_12 : decode cX4_drop 12 = .ok (.if_icmp .ge 12, 3) := by decide +kernel
theorem dX4_drop_15 : decode cX4_drop 15 = .ok (.aload_n 0, 1) := by decide +kernel
theorem dX4_drop_16 : decode cX4_drop 16 = .ok (.getfield 12, 3) := by decide +kernel
theorem dX4_drop_19 : decode cX4_drop 19 = .ok (.iload_n 1, 1) := by decide +kernel
theorem dX4_drop_20 : decode cX4_drop 20 = .ok (.invokevirtual 93, 3) := by decide +kernel
theorem dX4_drop_23 : decode cX4_drop 23 = .ok (.pop, 1) := by decide +kernel
theorem dX4_drop_24 : decode cX4_drop 24 = .ok (.return_, 1) := by decide +kernel
theorem dX4_batchWith_0 : decode cX4_batchWith 0 = .ok (.iconst 0, 1) := by decide +kernel
theorem dX4_batchWith_1 : decode cX4_batchWith 1 = .ok (.istore_n 2, 1) := by decide +kernel
theorem dX4_batchWith_2 : decode cX4_batchWith 2 = .ok (.iload_n 2, 1) := by decide +kernel
theorem dX4_batchWith_3 : decode cX4_batchWith 3 = .ok (.aload_n 0, 1) := by decide +kernel
theorem dX4_batchWith_4 : decode cX4_batchWith 4 = .ok (.getfield 12, 3) := by decide +kernel
theorem dX4_batchWith_7 : decode cX4_batchWith 7 = .ok (.invokevirtual 31, 3) := by decide +kernel
theorem dX4_batchWith_10 : decode cX4_batchWith 10 = .ok (.if_icmp .ge 29, 3) := by decide +kernel
theorem dX4_batchWith_13 : decode cX4_batchWith 13 = .ok (.aload_n 0, 1) := by decide +kernel
theorem dX4_batchWith_14 : decode cX4_batchWith 14 = .ok (.getfield 12, 3) := by decide +kernel
theorem dX4_batchWith_17 : decode cX4_batchWith 17 = .ok (.iload_n 2, 1) := by decide +kernel
theorem dX4_batchWith_18 : decode cX4_batchWith 18 = .ok (.invokevirtual 63, 3) := by decide +kernel
theorem dX4_batchWith_21 : decode cX4_batchWith 21 = .ok (.checkcast 35, 3) := by decide +kernel
theorem dX4_batchWith_24 : decode cX4_batchWith 24 = .ok (.iload_n 1, 1) := by decide +kernel
theorem dX4_batchWith_25 : decode cX4_batchWith 25 = .ok (.invokevirtual 96, 3) := by decide +kernel
theorem dX4_batchWith_28 : decode cX4_batchWith 28 = .ok (.ifCond .eq 5, 3) := by decide +kernel
theorem dX4_batchWith_31 : decode cX4_batchWith 31 = .ok (.iload_n 2, 1) := by decide +kernel
theorem dX4_batchWith_32 : decode cX4_batchWith 32 = .ok (.ireturn, 1) := by decide +kernel
theorem dX4_batchWith_33 : decode cX4_batchWith 33 = .ok (.iinc 2 1, 3) := by decide +kernel
theorem dX4_batchWith_36 : decode cX4_batchWith 36 = .ok (.goto (-34), 3) := by decide +kernel
theorem dX4_batchWith_39 : decode cX4_batchWith 39 = .ok (.iconst (-1), 1) := by decide +kernel
theorem dX4_batchWith_40 : decode cX4_batchWith 40 = .ok (.ireturn, 1) := by decide +kernel
theorem dX4_countIn_0 : decode cX4_countIn 0 = .ok (.iconst 0, 1) := by decide +kernel
theorem dX4_countIn_1 : decode cX4_countIn 1 = .ok (.istore_n 2, 1) := by decide +kernel
theorem dX4_countIn_2 : decode cX4_countIn 2 = .ok (.iconst 0, 1) := by decide +kernel
theorem dX4_countIn_3 : decode cX4_countIn 3 = .ok (.istore_n 3, 1) := by decide +kernel
theorem dX4_countIn_4 : decode cX4_countIn 4 = .ok (.iload_n 3, 1) := by decide +kernel
theorem dX4_countIn_5 : decode cX4_countIn 5 = .ok (.aload_n 0, 1) := by decide +kernel
theorem dX4_countIn_6 : decode cX4_countIn 6 = .ok (.getfield 12, 3) := by decide +kernel
theorem dX4_countIn_9 : decode cX4_countIn 9 = .ok (.invokevirtual 31, 3) := by decide +kernel
theorem dX4_countIn_12 : decode cX4_countIn 12 = .ok (.if_icmp .ge 30, 3) := by decide +kernel
theorem dX4_countIn_15 : decode cX4_countIn 15 = .ok (.aload_n 0, 1) := by decide +kernel
theorem dX4_countIn_16 : decode cX4_countIn 16 = .ok (.getfield 12, 3) := by decide +kernel
theorem dX4_countIn_19 : decode cX4_countIn 19 = .ok (.iload_n 3, 1) := by decide +kernel
theorem dX4_countIn_20 : decode cX4_countIn 20 = .ok (.invokevirtual 63, 3) := by decide +kernel
theorem dX4_countIn_23 : decode cX4_countIn 23 = .ok (.checkcast 35, 3) := by decide +kernel
theorem dX4_countIn_26 : decode cX4_countIn 26 = .ok (.iload_n 1, 1) := by decide +kernel
theorem dX4_countIn_27 : decode cX4_countIn 27 = .ok (.invokevirtual 100, 3) := by decide +kernel
theorem dX4_countIn_30 : decode cX4_countIn 30 = .ok (.ifCond .eq 6, 3) := by decide +kernel
theorem dX4_countIn_33 : decode cX4_countIn 33 = .ok (.iinc 2 1, 3) := by decide +kernel
theorem dX4_countIn_36 : decode cX4_countIn 36 = .ok (.iinc 3 1, 3) := by decide +kernel
theorem dX4_countIn_39 : decode cX4_countIn 39 = .ok (.goto (-35), 3) := by decide +kernel
theorem dX4_countIn_42 : decode cX4_countIn 42 = .ok (.iload_n 2, 1) := by decide +kernel
theorem dX4_countIn_43 : decode cX4_countIn 43 = .ok (.ireturn, 1) := by decide +kernel
